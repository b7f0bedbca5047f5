/-! the award: the class's side -/
def st_co (T : Int → Int) (l q : Int) : Int := T (299 + 3 * l + 2) * T (323 + 5 * q + 1 + T (119 + 30 * T (299 + 3 * l) + 5 * T (299 + 3 * l + 1)))
def st_fe (T : Int → Int) (b : Int) : Int := T (323 + 5 * b)
theorem ev_mul9 {x y : Int} (hx : 1 ≤ x ∧ x ≤ 9) (hy : 1 ≤ y ∧ y ≤ 99) : 1 ≤ x * y ∧ x * y ≤ 891 := by
  rcases (show x = 1 ∨ x = 2 ∨ x = 3 ∨ x = 4 ∨ x = 5 ∨ x = 6 ∨ x = 7 ∨ x = 8 ∨ x = 9 by omega) with rfl | rfl | rfl | rfl | rfl | rfl | rfl | rfl | rfl <;> omega
theorem st_co_in {T : Int → Int} {l q : Int} (h : st_I T) (hl : 0 ≤ l ∧ l < T 3) (hq : 0 ≤ q ∧ q < T 4) : 1 ≤ st_co T l q ∧ st_co T l q ≤ 891 := by
  have g := h.2.2.2.2.2.1 l hl.1 hl.2
  have hpc := h.2.2.2.2.1 _ _ g.1.1 g.1.2 g.2.1.1 g.2.1.2
  exact ev_mul9 g.2.2 ((h.2.2.2.2.2.2 q hq.1 hq.2).2 _ hpc.1.1 (by omega))
theorem e_53 {σ : ev_M} {l q : Int} (a1 : st_E (st_T σ ev_n) (σ 183)) (h : st_I (σ 183)) (hl : 0 ≤ l ∧ l < σ 183 3) (hq : 0 ≤ q ∧ q < σ 183 4) : EM 53 [.inr (.inl ev_n), .inl l, .inl q] σ = some (some (.inl (st_co (σ 183) l q)), σ) := by
  have g := h.2.2.2.2.2.1 l hl.1 hl.2
  have i2 := h.1.2.2.1
  have i3 := h.1.2.2.2.1
  have i4 := h.1.2.2.2.2.1
  have hbb := h.2.2.1 _ g.1.1 g.1.2
  have hpc := h.2.2.2.2.1 _ _ g.1.1 g.1.2 g.2.1.1 g.2.1.2
  have e18 : σ (ev_n + 18) l = σ 183 (299 + 3 * l) := by rw [tr_18 (σ := σ) (s := ev_n) (by omega), a1 _ (by omega) (by omega)]
  have e19 : σ (ev_n + 19) l = σ 183 (299 + 3 * l + 1) := by rw [tr_19 (σ := σ) (s := ev_n) (by omega), a1 _ (by omega) (by omega)]
  have e20 : σ (ev_n + 20) l = σ 183 (299 + 3 * l + 2) := by rw [tr_20 (σ := σ) (s := ev_n) (by omega), a1 _ (by omega) (by omega)]
  have e12 : σ (ev_n + 12) (σ 183 (299 + 3 * l) * 6 + σ 183 (299 + 3 * l + 1)) = σ 183 (119 + 30 * σ 183 (299 + 3 * l) + 5 * σ 183 (299 + 3 * l + 1)) := by rw [tr_12 (σ := σ) (s := ev_n) (b := σ 183 (299 + 3 * l)) (c := σ 183 (299 + 3 * l + 1)) (by omega) (by omega), a1 _ (by omega) (by omega)]
  have e22 : σ (ev_n + 22) (q * 4 + σ 183 (119 + 30 * σ 183 (299 + 3 * l) + 5 * σ 183 (299 + 3 * l + 1))) = σ 183 (323 + 5 * q + 1 + σ 183 (119 + 30 * σ 183 (299 + 3 * l) + 5 * σ 183 (299 + 3 * l + 1))) := by rw [tr_22 (σ := σ) (s := ev_n) (b := q) (q := σ 183 (119 + 30 * σ 183 (299 + 3 * l) + 5 * σ 183 (299 + 3 * l + 1))) (by omega) (by omega), a1 _ (by omega) (by omega)]
  rw [c_53 ev_S_n (by omega) (by omega) e18 e19 (by omega) (by omega) (by rw [e12]; omega), e12, e20, e22]
  rfl
def st_fi (T : Int → Int) (s l r n : Int) : Prop := (r = -1 ∧ ∀ q, 0 ≤ q → q < n → ¬ ev_bt s q) ∨ ((0 ≤ r ∧ r < n ∧ ev_bt s r) ∧ ∀ q, 0 ≤ q → q < n → ev_bt s q → st_co T l r ≤ st_co T l q ∧ (q < r → st_co T l r < st_co T l q))
theorem st_fi_n {T : Int → Int} {s l r n : Int} (h : st_fi T s l r n) (hn : 0 ≤ n) : (¬ ev_bt s n → st_fi T s l r (n + 1)) ∧ (ev_bt s n → (r = -1 ∨ st_co T l n < st_co T l r) → st_fi T s l n (n + 1)) ∧ (ev_bt s n → ¬ (r = -1 ∨ st_co T l n < st_co T l r) → st_fi T s l r (n + 1)) := by
  refine ⟨fun hb => ?_, fun hb hc => ?_, fun hb hc => ?_⟩
  · rcases h with ⟨h1, h2⟩ | ⟨h1, h2⟩
    · refine Or.inl ⟨h1, fun q q0 q1 => ?_⟩
      by_cases c : q = n
      · rw [c]; exact hb
      · exact h2 q q0 (by omega)
    · refine Or.inr ⟨⟨h1.1, by omega, h1.2.2⟩, fun q q0 q1 hq => ?_⟩
      by_cases c : q = n
      · rw [c] at hq; exact absurd hq hb
      · exact h2 q q0 (by omega) hq
  · refine Or.inr ⟨⟨hn, by omega, hb⟩, fun q q0 q1 hq => ?_⟩
    by_cases c : q = n
    · rw [c]
      exact ⟨Int.le_refl _, fun h => by omega⟩
    · rcases h with ⟨h1, h2⟩ | ⟨h1, h2⟩
      · exact absurd hq (h2 q q0 (by omega))
      · have := (h2 q q0 (by omega) hq).1
        omega
  · rcases h with ⟨h1, h2⟩ | ⟨h1, h2⟩
    · exact absurd (Or.inl h1) hc
    · refine Or.inr ⟨⟨h1.1, by omega, h1.2.2⟩, fun q q0 q1 hq => ?_⟩
      by_cases c : q = n
      · rw [c]
        exact ⟨by omega, fun h => by omega⟩
      · exact h2 q q0 (by omega) hq
theorem l_2 {σ : ev_M} {s l : Int} (a1 : st_E (st_T σ ev_n) (σ 183)) (a2 : st_I (σ 183)) (hl0 : 0 ≤ l ∧ l < σ 183 3) (hs : 0 ≤ s ∧ s ≤ 7) : ∀ (k : Nat) (n r : Int), 0 ≤ n → n + k = σ 183 4 → st_fi (σ 183) s l r n → ∃ q, EB 2 1 [some (.inr (.inl ev_n)), some (.inl s), some (.inl l), some (.inl r), some (.inl n)] [] σ = some (some (.inl q), σ) ∧ st_fi (σ 183) s l q (σ 183 4) := by
  obtain ⟨t0, t1, t2, t3, t4, t5, t6, t7, t8, r2, r3, r4, r5, r7, r11, r8, r9, r10, r12, r13, r14, r15, r16, r18, r19, r20, r21, r22⟩ := st_rd a1; obtain ⟨⟨i0, i1, i2, i3, i4, i5⟩, hr, hb, hc, hp, hl, hq⟩ := id a2; have hSn := ev_S_n; have hn0 : ev_n = 0 := rfl
  intro k
  induction k with
  | zero =>
    intro n r h0 h1 hf
    obtain rfl : n = σ 183 4 := by omega
    refine ⟨r, ?_, hf⟩
    rw [bk_2_1]
    repeat' (first | (simp (disch := first | assumption | exact Nat.le_of_ble_eq_true rfl | omega) only [bk_2_0, eo_6, eo_3_3n, eo_3_3i, eo_3_3r, eo_3_4n, eo_3_4i, eo_3_4r, eo_53, eo_0_4, eo_1_0, g7_28_2, g4_27, eo_0_1, eo_18, eo_15, eo_0_3, eo_0_2, v7_3, ev_ki, ev_kv, bk_2_2, bk_2_3, eo_23_4n, eo_23_4i, eo_23_4r, eo_52, bk_2_4, eo_56i, t4, Int.add_zero, Int.add_sub_cancel, Int.reduceAdd, Int.reduceMul, Int.reduceSub, Int.reduceNeg, ev_wr_id]) | ((first | with_reducible refine br_40 ?_ ?_ | with_reducible refine br_41 ?_ ?_ | with_reducible refine br_42 ?_ ?_ | with_reducible refine br_43 ?_ ?_ | with_reducible refine br_44 ?_ ?_ | with_reducible refine br_45 ?_ ?_ | with_reducible refine br_46 ?_ ?_ | with_reducible refine br_47 ?_ ?_ | with_reducible refine br_48 ?_ ?_ | with_reducible refine br_49 ?_ ?_ | with_reducible refine br_50 ?_ ?_ | with_reducible refine br_51 ?_ ?_) <;> intro h <;> try simp (disch := first | assumption | exact Nat.le_of_ble_eq_true rfl | omega) only [ev_wr_id, not_true_eq_false, not_false_eq_true, Int.reduceEq, Int.reduceLT, Int.reduceLE, and_self, and_true, true_and, and_false, false_and, reduceIte] at h <;> try (exfalso; omega; done)))
  | succ k ih =>
    intro n r h0 h1 hf
    obtain ⟨x1, x2, x3, x4, x5, x6⟩ := ev_bits (r := s) (o := n) (by omega) (by omega)
    obtain ⟨f1, f2, f3⟩ := st_fi_n hf h0
    have e1 := e_53 a1 a2 hl0 (q := n) (by omega)
    have c1 := st_co_in a2 hl0 (q := n) (by omega)
    by_cases hb : ev_bt s n
    · have hz : ¬ ev_and s (ev_shl 1 n) = 0 := fun h => x1.mp h hb
      have hr : r = -1 ∨ (0 ≤ r ∧ r < n) := by
        rcases hf with h | h
        · exact Or.inl h.1
        · exact Or.inr ⟨h.1.1, h.1.2.1⟩
      rcases hr with hr | hr
      · obtain ⟨q, e, hq⟩ := ih (n + 1) n (by omega) (by omega) (f2 hb (Or.inl hr))
        refine ⟨q, ?_, hq⟩
        rw [← e, bk_2_1]
        repeat' (first | (simp (disch := first | assumption | exact Nat.le_of_ble_eq_true rfl | omega) only [bk_2_0, eo_6, eo_3_3n, eo_3_3i, eo_3_3r, eo_3_4n, eo_3_4i, eo_3_4r, eo_53, eo_0_4, eo_1_0, g7_28_2, g4_27, eo_0_1, eo_18, eo_15, eo_0_3, eo_0_2, v7_3, ev_ki, ev_kv, bk_2_2, bk_2_3, eo_23_4n, eo_23_4i, eo_23_4r, eo_52, bk_2_4, eo_56i, t4, e1, Int.add_zero, Int.add_sub_cancel, Int.reduceAdd, Int.reduceMul, Int.reduceSub, Int.reduceNeg, ev_wr_id]) | ((first | with_reducible refine br_40 ?_ ?_ | with_reducible refine br_41 ?_ ?_ | with_reducible refine br_42 ?_ ?_ | with_reducible refine br_43 ?_ ?_ | with_reducible refine br_44 ?_ ?_ | with_reducible refine br_45 ?_ ?_ | with_reducible refine br_46 ?_ ?_ | with_reducible refine br_47 ?_ ?_ | with_reducible refine br_48 ?_ ?_ | with_reducible refine br_49 ?_ ?_ | with_reducible refine br_50 ?_ ?_ | with_reducible refine br_51 ?_ ?_) <;> intro h <;> try simp (disch := first | assumption | exact Nat.le_of_ble_eq_true rfl | omega) only [ev_wr_id, not_true_eq_false, not_false_eq_true, Int.reduceEq, Int.reduceLT, Int.reduceLE, and_self, and_true, true_and, and_false, false_and, reduceIte] at h <;> try (exfalso; omega; done)))
      · have e2 := e_53 a1 a2 hl0 (q := r) (by omega)
        have c2 := st_co_in a2 hl0 (q := r) (by omega)
        by_cases hc : st_co (σ 183) l n < st_co (σ 183) l r
        · obtain ⟨q, e, hq⟩ := ih (n + 1) n (by omega) (by omega) (f2 hb (Or.inr hc))
          refine ⟨q, ?_, hq⟩
          rw [← e, bk_2_1]
          repeat' (first | (simp (disch := first | assumption | exact Nat.le_of_ble_eq_true rfl | omega) only [bk_2_0, eo_6, eo_3_3n, eo_3_3i, eo_3_3r, eo_3_4n, eo_3_4i, eo_3_4r, eo_53, eo_0_4, eo_1_0, g7_28_2, g4_27, eo_0_1, eo_18, eo_15, eo_0_3, eo_0_2, v7_3, ev_ki, ev_kv, bk_2_2, bk_2_3, eo_23_4n, eo_23_4i, eo_23_4r, eo_52, bk_2_4, eo_56i, t4, e1, e2, Int.add_zero, Int.add_sub_cancel, Int.reduceAdd, Int.reduceMul, Int.reduceSub, Int.reduceNeg, ev_wr_id]) | ((first | with_reducible refine br_40 ?_ ?_ | with_reducible refine br_41 ?_ ?_ | with_reducible refine br_42 ?_ ?_ | with_reducible refine br_43 ?_ ?_ | with_reducible refine br_44 ?_ ?_ | with_reducible refine br_45 ?_ ?_ | with_reducible refine br_46 ?_ ?_ | with_reducible refine br_47 ?_ ?_ | with_reducible refine br_48 ?_ ?_ | with_reducible refine br_49 ?_ ?_ | with_reducible refine br_50 ?_ ?_ | with_reducible refine br_51 ?_ ?_) <;> intro h <;> try simp (disch := first | assumption | exact Nat.le_of_ble_eq_true rfl | omega) only [ev_wr_id, not_true_eq_false, not_false_eq_true, Int.reduceEq, Int.reduceLT, Int.reduceLE, and_self, and_true, true_and, and_false, false_and, reduceIte] at h <;> try (exfalso; omega; done)))
        · obtain ⟨q, e, hq⟩ := ih (n + 1) r (by omega) (by omega) (f3 hb (by omega))
          refine ⟨q, ?_, hq⟩
          rw [← e, bk_2_1]
          repeat' (first | (simp (disch := first | assumption | exact Nat.le_of_ble_eq_true rfl | omega) only [bk_2_0, eo_6, eo_3_3n, eo_3_3i, eo_3_3r, eo_3_4n, eo_3_4i, eo_3_4r, eo_53, eo_0_4, eo_1_0, g7_28_2, g4_27, eo_0_1, eo_18, eo_15, eo_0_3, eo_0_2, v7_3, ev_ki, ev_kv, bk_2_2, bk_2_3, eo_23_4n, eo_23_4i, eo_23_4r, eo_52, bk_2_4, eo_56i, t4, e1, e2, Int.add_zero, Int.add_sub_cancel, Int.reduceAdd, Int.reduceMul, Int.reduceSub, Int.reduceNeg, ev_wr_id]) | ((first | with_reducible refine br_40 ?_ ?_ | with_reducible refine br_41 ?_ ?_ | with_reducible refine br_42 ?_ ?_ | with_reducible refine br_43 ?_ ?_ | with_reducible refine br_44 ?_ ?_ | with_reducible refine br_45 ?_ ?_ | with_reducible refine br_46 ?_ ?_ | with_reducible refine br_47 ?_ ?_ | with_reducible refine br_48 ?_ ?_ | with_reducible refine br_49 ?_ ?_ | with_reducible refine br_50 ?_ ?_ | with_reducible refine br_51 ?_ ?_) <;> intro h <;> try simp (disch := first | assumption | exact Nat.le_of_ble_eq_true rfl | omega) only [ev_wr_id, not_true_eq_false, not_false_eq_true, Int.reduceEq, Int.reduceLT, Int.reduceLE, and_self, and_true, true_and, and_false, false_and, reduceIte] at h <;> try (exfalso; omega; done)))
    · have hz : ev_and s (ev_shl 1 n) = 0 := x1.mpr hb
      obtain ⟨q, e, hq⟩ := ih (n + 1) r (by omega) (by omega) (f1 hb)
      refine ⟨q, ?_, hq⟩
      rw [← e, bk_2_1]
      repeat' (first | (simp (disch := first | assumption | exact Nat.le_of_ble_eq_true rfl | omega) only [bk_2_0, eo_6, eo_3_3n, eo_3_3i, eo_3_3r, eo_3_4n, eo_3_4i, eo_3_4r, eo_53, eo_0_4, eo_1_0, g7_28_2, g4_27, eo_0_1, eo_18, eo_15, eo_0_3, eo_0_2, v7_3, ev_ki, ev_kv, bk_2_2, bk_2_3, eo_23_4n, eo_23_4i, eo_23_4r, eo_52, bk_2_4, eo_56i, t4, hz, Int.add_zero, Int.add_sub_cancel, Int.reduceAdd, Int.reduceMul, Int.reduceSub, Int.reduceNeg, ev_wr_id]) | ((first | with_reducible refine br_40 ?_ ?_ | with_reducible refine br_41 ?_ ?_ | with_reducible refine br_42 ?_ ?_ | with_reducible refine br_43 ?_ ?_ | with_reducible refine br_44 ?_ ?_ | with_reducible refine br_45 ?_ ?_ | with_reducible refine br_46 ?_ ?_ | with_reducible refine br_47 ?_ ?_ | with_reducible refine br_48 ?_ ?_ | with_reducible refine br_49 ?_ ?_ | with_reducible refine br_50 ?_ ?_ | with_reducible refine br_51 ?_ ?_) <;> intro h <;> try simp (disch := first | assumption | exact Nat.le_of_ble_eq_true rfl | omega) only [ev_wr_id, not_true_eq_false, not_false_eq_true, Int.reduceEq, Int.reduceLT, Int.reduceLE, and_self, and_true, true_and, and_false, false_and, reduceIte] at h <;> try (exfalso; omega; done)))
theorem c_2 {σ : ev_M} {s l : Int} (a1 : st_E (st_T σ ev_n) (σ 183)) (a2 : st_I (σ 183)) (hl0 : 0 ≤ l ∧ l < σ 183 3) (hs : 0 ≤ s ∧ s ≤ 7) : ∃ q, EM 2 [.inr (.inl ev_n), .inl s, .inl l] σ = some (some (.inl q), σ) ∧ st_fi (σ 183) s l q (σ 183 4) := by
  have i4 := a2.1.2.2.2.2.1
  obtain ⟨q, e, h⟩ := l_2 a1 a2 hl0 hs (σ 183 4).toNat 0 (-1) (by omega) (by omega) (Or.inl ⟨rfl, fun q h0 h1 => by omega⟩)
  refine ⟨q, ?_, h⟩
  rw [mm_2]
  repeat' (first | (simp (disch := first | assumption | exact Nat.le_of_ble_eq_true rfl | omega) only [bk_2_0, eo_6, eo_3_3n, eo_3_3i, eo_3_3r, eo_3_4n, eo_3_4i, eo_3_4r, eo_53, eo_0_4, eo_1_0, g7_28_2, g4_27, eo_0_1, eo_18, eo_15, eo_0_3, eo_0_2, v7_3, ev_ki, ev_kv, bk_2_2, bk_2_3, eo_23_4n, eo_23_4i, eo_23_4r, eo_52, bk_2_4, eo_56i, Int.add_zero, Int.add_sub_cancel, Int.reduceAdd, Int.reduceMul, Int.reduceSub, Int.reduceNeg, ev_wr_id]) | ((first | with_reducible refine br_40 ?_ ?_ | with_reducible refine br_41 ?_ ?_ | with_reducible refine br_42 ?_ ?_ | with_reducible refine br_43 ?_ ?_ | with_reducible refine br_44 ?_ ?_ | with_reducible refine br_45 ?_ ?_ | with_reducible refine br_46 ?_ ?_ | with_reducible refine br_47 ?_ ?_ | with_reducible refine br_48 ?_ ?_ | with_reducible refine br_49 ?_ ?_ | with_reducible refine br_50 ?_ ?_ | with_reducible refine br_51 ?_ ?_) <;> intro h <;> try simp (disch := first | assumption | exact Nat.le_of_ble_eq_true rfl | omega) only [ev_wr_id, not_true_eq_false, not_false_eq_true, Int.reduceEq, Int.reduceLT, Int.reduceLE, and_self, and_true, true_and, and_false, false_and, reduceIte] at h <;> try (exfalso; omega; done)))
  exact e
theorem l_1a {σ : ev_M} {s : Int} (a1 : st_E (st_T σ ev_n) (σ 183)) (a2 : st_I (σ 183)) (hs : 0 ≤ s ∧ s ≤ 7) : ∀ (k : Nat) (n p : Int) (p5 : Option ev_V), 0 ≤ n → n + k = σ 183 4 → EB 1 1 [some (.inr (.inl 179)), some (.inr (.inl ev_n)), some (.inl s), some (.inl p), some (.inl n), p5] [] σ = EB 1 3 [some (.inr (.inl 179)), some (.inr (.inl ev_n)), some (.inl s), some (.inl (ev_ss (fun b => if ev_bt s b then st_fe (σ 183) b else 0) k n p)), some (.inl (σ 183 4)), p5] [] σ := by
  obtain ⟨t0, t1, t2, t3, t4, t5, t6, t7, t8, r2, r3, r4, r5, r7, r11, r8, r9, r10, r12, r13, r14, r15, r16, r18, r19, r20, r21, r22⟩ := st_rd a1; obtain ⟨⟨i0, i1, i2, i3, i4, i5⟩, hr, hb, hc, hp, hl, hq⟩ := id a2; have hSn := ev_S_n; have hn0 : ev_n = 0 := rfl
  intro k
  induction k with
  | zero =>
    intro n p p5 h0 h1
    obtain rfl : n = σ 183 4 := by omega
    rw [bk_1_1]
    repeat' (first | (simp (disch := first | assumption | exact Nat.le_of_ble_eq_true rfl | omega) only [bk_1_0, eo_6, eo_3_3n, eo_3_3i, eo_3_3r, eo_3_4n, eo_3_4i, eo_3_4r, eo_53, eo_0_4, eo_1_1, g7_28_2, g4_27, eo_0_2, eo_18, eo_15, eo_0_3, g4_28_5, eo_10, bk_1_2, eo_23_4n, eo_23_4i, eo_23_4r, eo_52, eo_60_3, ev_ki, ev_kv, eo_3_5n, eo_3_5i, eo_3_5r, eo_1_0, g0_28_2, eo_0_5, bk_1_5, v7_3, bk_1_6, bk_1_7, eo_56i, a32_s21, a33_s21, a32_181, a33_181, c_53, t4, Int.add_zero, Int.add_sub_cancel, Int.reduceAdd, Int.reduceMul, Int.reduceSub, Int.reduceNeg, ev_wr_id]) | ((first | with_reducible refine br_40 ?_ ?_ | with_reducible refine br_41 ?_ ?_ | with_reducible refine br_42 ?_ ?_ | with_reducible refine br_43 ?_ ?_ | with_reducible refine br_44 ?_ ?_ | with_reducible refine br_45 ?_ ?_ | with_reducible refine br_46 ?_ ?_ | with_reducible refine br_47 ?_ ?_ | with_reducible refine br_48 ?_ ?_ | with_reducible refine br_49 ?_ ?_ | with_reducible refine br_50 ?_ ?_ | with_reducible refine br_51 ?_ ?_) <;> intro h <;> try simp (disch := first | assumption | exact Nat.le_of_ble_eq_true rfl | omega) only [ev_wr_id, not_true_eq_false, not_false_eq_true, Int.reduceEq, Int.reduceLT, Int.reduceLE, and_self, and_true, true_and, and_false, false_and, reduceIte] at h <;> try (exfalso; omega; done)))
    rfl
  | succ k ih =>
    intro n p p5 h0 h1
    obtain ⟨x1, x2, x3, x4, x5, x6⟩ := ev_bits (r := s) (o := n) (by omega) (by omega)
    have e21 := r21 n h0 (by omega)
    rw [show ev_ss (fun b => if ev_bt s b then st_fe (σ 183) b else 0) (k + 1) n p = ev_ss (fun b => if ev_bt s b then st_fe (σ 183) b else 0) k (n + 1) (p + if ev_bt s n then st_fe (σ 183) n else 0) from rfl, ← ih (n + 1) _ p5 (by omega) (by omega), bk_1_1]
    by_cases hb : ev_bt s n
    · have hz : ¬ ev_and s (ev_shl 1 n) = 0 := fun h => x1.mp h hb
      rw [if_pos hb]
      unfold st_fe
      repeat' (first | (simp (disch := first | assumption | exact Nat.le_of_ble_eq_true rfl | omega) only [bk_1_0, eo_6, eo_3_3n, eo_3_3i, eo_3_3r, eo_3_4n, eo_3_4i, eo_3_4r, eo_53, eo_0_4, eo_1_1, g7_28_2, g4_27, eo_0_2, eo_18, eo_15, eo_0_3, g4_28_5, eo_10, bk_1_2, eo_23_4n, eo_23_4i, eo_23_4r, eo_52, eo_60_3, ev_ki, ev_kv, eo_3_5n, eo_3_5i, eo_3_5r, eo_1_0, g0_28_2, eo_0_5, bk_1_5, v7_3, bk_1_6, bk_1_7, eo_56i, a32_s21, a33_s21, a32_181, a33_181, c_53, t4, e21, Int.add_zero, Int.add_sub_cancel, Int.reduceAdd, Int.reduceMul, Int.reduceSub, Int.reduceNeg, ev_wr_id]) | ((first | with_reducible refine br_40 ?_ ?_ | with_reducible refine br_41 ?_ ?_ | with_reducible refine br_42 ?_ ?_ | with_reducible refine br_43 ?_ ?_ | with_reducible refine br_44 ?_ ?_ | with_reducible refine br_45 ?_ ?_ | with_reducible refine br_46 ?_ ?_ | with_reducible refine br_47 ?_ ?_ | with_reducible refine br_48 ?_ ?_ | with_reducible refine br_49 ?_ ?_ | with_reducible refine br_50 ?_ ?_ | with_reducible refine br_51 ?_ ?_) <;> intro h <;> try simp (disch := first | assumption | exact Nat.le_of_ble_eq_true rfl | omega) only [ev_wr_id, not_true_eq_false, not_false_eq_true, Int.reduceEq, Int.reduceLT, Int.reduceLE, and_self, and_true, true_and, and_false, false_and, reduceIte] at h <;> try (exfalso; omega; done)))
    · have hz : ev_and s (ev_shl 1 n) = 0 := x1.mpr hb
      rw [if_neg hb, Int.add_zero]
      repeat' (first | (simp (disch := first | assumption | exact Nat.le_of_ble_eq_true rfl | omega) only [bk_1_0, eo_6, eo_3_3n, eo_3_3i, eo_3_3r, eo_3_4n, eo_3_4i, eo_3_4r, eo_53, eo_0_4, eo_1_1, g7_28_2, g4_27, eo_0_2, eo_18, eo_15, eo_0_3, g4_28_5, eo_10, bk_1_2, eo_23_4n, eo_23_4i, eo_23_4r, eo_52, eo_60_3, ev_ki, ev_kv, eo_3_5n, eo_3_5i, eo_3_5r, eo_1_0, g0_28_2, eo_0_5, bk_1_5, v7_3, bk_1_6, bk_1_7, eo_56i, a32_s21, a33_s21, a32_181, a33_181, c_53, t4, hz, Int.add_zero, Int.add_sub_cancel, Int.reduceAdd, Int.reduceMul, Int.reduceSub, Int.reduceNeg, ev_wr_id]) | ((first | with_reducible refine br_40 ?_ ?_ | with_reducible refine br_41 ?_ ?_ | with_reducible refine br_42 ?_ ?_ | with_reducible refine br_43 ?_ ?_ | with_reducible refine br_44 ?_ ?_ | with_reducible refine br_45 ?_ ?_ | with_reducible refine br_46 ?_ ?_ | with_reducible refine br_47 ?_ ?_ | with_reducible refine br_48 ?_ ?_ | with_reducible refine br_49 ?_ ?_ | with_reducible refine br_50 ?_ ?_ | with_reducible refine br_51 ?_ ?_) <;> intro h <;> try simp (disch := first | assumption | exact Nat.le_of_ble_eq_true rfl | omega) only [ev_wr_id, not_true_eq_false, not_false_eq_true, Int.reduceEq, Int.reduceLT, Int.reduceLE, and_self, and_true, true_and, and_false, false_and, reduceIte] at h <;> try (exfalso; omega; done)))
def st_ne (B s : Int) : Prop := ∃ q, 0 ≤ q ∧ q < B ∧ ev_bt s q
theorem l_1b {σ : ev_M} {s p0 : Int} (a1 : st_E (st_T σ ev_n) (σ 183)) (a2 : st_I (σ 183)) (hs : 0 ≤ s ∧ s ≤ 7) (hne : st_ne (σ 183 4) s) : ∀ (k m : Nat) (l : Int) (p5 : Option ev_V) (t : Int → Int), l = m → l + k = σ 183 3 → st_gy (st_co (σ 183)) (σ 183 4) m s t → ∃ t1, EB 1 4 [some (.inr (.inl 179)), some (.inr (.inl ev_n)), some (.inl s), some (.inl (p0 + st_sc (st_co (σ 183)) t m)), some (.inl l), p5] [] (ev_ua σ 181 t) = some (some (.inl (p0 + st_sc (st_co (σ 183)) t1 (σ 183 3).toNat)), ev_ua σ 181 t1) ∧ st_gy (st_co (σ 183)) (σ 183 4) (σ 183 3).toNat s t1 := by
  obtain ⟨t0, t1, t2, t3, t4, t5, t6, t7, t8, r2, r3, r4, r5, r7, r11, r8, r9, r10, r12, r13, r14, r15, r16, r18, r19, r20, r21, r22⟩ := st_rd a1; obtain ⟨⟨i0, i1, i2, i3, i4, i5⟩, hr, hb, hc, hp, hl, hq⟩ := id a2; have hSn := ev_S_n; have hn0 : ev_n = 0 := rfl
  intro k
  induction k with
  | zero =>
    intro m l p5 t hlm h1 hg
    have hm : (σ 183 3).toNat = m := by omega
    refine ⟨t, ?_, by rw [hm]; exact hg⟩
    have t3b : ev_ua σ 181 t (ev_n + 17) 0 = l := by rw [ev_ua_ne (by omega)]; omega
    rw [hm]
    clear hm hlm
    rw [bk_1_4]
    repeat' (first | (simp (disch := first | assumption | exact Nat.le_of_ble_eq_true rfl | omega) only [bk_1_0, eo_6, eo_3_3n, eo_3_3i, eo_3_3r, eo_3_4n, eo_3_4i, eo_3_4r, eo_53, eo_0_4, eo_1_1, g7_28_2, g4_27, eo_0_2, eo_18, eo_15, eo_0_3, g4_28_5, eo_10, bk_1_2, eo_23_4n, eo_23_4i, eo_23_4r, eo_52, bk_1_3, eo_60_3, ev_ki, ev_kv, eo_3_5n, eo_3_5i, eo_3_5r, eo_1_0, g0_28_2, eo_0_5, bk_1_5, v7_3, bk_1_6, bk_1_7, eo_56i, a32_s21, a33_s21, a32_181, a33_181, t3b, Int.add_zero, Int.add_sub_cancel, Int.reduceAdd, Int.reduceMul, Int.reduceSub, Int.reduceNeg, ev_wr_id]) | ((first | with_reducible refine br_40 ?_ ?_ | with_reducible refine br_41 ?_ ?_ | with_reducible refine br_42 ?_ ?_ | with_reducible refine br_43 ?_ ?_ | with_reducible refine br_44 ?_ ?_ | with_reducible refine br_45 ?_ ?_ | with_reducible refine br_46 ?_ ?_ | with_reducible refine br_47 ?_ ?_ | with_reducible refine br_48 ?_ ?_ | with_reducible refine br_49 ?_ ?_ | with_reducible refine br_50 ?_ ?_ | with_reducible refine br_51 ?_ ?_) <;> intro h <;> try simp (disch := first | assumption | exact Nat.le_of_ble_eq_true rfl | omega) only [ev_wr_id, not_true_eq_false, not_false_eq_true, Int.reduceEq, Int.reduceLT, Int.reduceLE, and_self, and_true, true_and, and_false, false_and, reduceIte] at h <;> try (exfalso; omega; done)))
  | succ k ih =>
    intro m l p5 t hlm h1 hg
    have m183 : ev_ua σ 181 t 183 = σ 183 := ev_ua_row (by omega)
    have hE : st_E (st_T (ev_ua σ 181 t) ev_n) (σ 183) := st_E_t (st_T_congr (fun o q0 q1 => ev_ua_row (by omega))) a1
    obtain ⟨q, e2, hq⟩ := c_2 (σ := ev_ua σ 181 t) (s := s) (l := l) (by rw [m183]; exact hE) (by rw [m183]; exact a2) (by rw [m183]; omega) hs
    rw [m183] at hq
    rcases hq with ⟨hq1, hq2⟩ | ⟨⟨hq1, hq2, hq3⟩, hq4⟩
    · obtain ⟨z, z0, z1, z2⟩ := hne
      exact absurd z2 (hq2 z z0 z1)
    · have e53 := e_53 (σ := ev_up (ev_ua σ 181 t) 181 l q) (l := l) (q := q) (by
        rw [show ev_up (ev_ua σ 181 t) 181 l q 183 = σ 183 from by funext z; rw [ev_up_ne (by omega), ev_ua_ne (by omega)]]
        exact st_E_t (st_T_congr (fun o q0 q1 => by funext z; rw [ev_up_ne (by omega), ev_ua_ne (by omega)])) a1) (by
        rw [show ev_up (ev_ua σ 181 t) 181 l q 183 = σ 183 from by funext z; rw [ev_up_ne (by omega), ev_ua_ne (by omega)]]
        exact a2) (by rw [ev_up_ne (by omega), ev_ua_ne (by omega)]; omega) (by rw [ev_up_ne (by omega), ev_ua_ne (by omega)]; omega)
      rw [show ev_up (ev_ua σ 181 t) 181 l q 183 = σ 183 from by funext z; rw [ev_up_ne (by omega), ev_ua_ne (by omega)], ev_up_ua] at e53
      have hsc : st_sc (st_co (σ 183)) (ev_u1 t l q) (m + 1) = st_sc (st_co (σ 183)) t m + st_co (σ 183) l q := by
        show st_sc (st_co (σ 183)) (ev_u1 t l q) m + st_co (σ 183) m (ev_u1 t l q m) = _
        rw [ev_u1_eq hlm.symm, ← hlm, st_sc_eq m (fun k hk => ev_u1_ne (by omega))]
      obtain ⟨t1, e, hg1⟩ := ih (m + 1) (l + 1) (some (.inl q)) (ev_u1 t l q) (by omega) (by omega) (fun k hk => by
        by_cases c : k = m
        · subst c
          rw [ev_u1_eq hlm.symm, ← hlm]
          exact ⟨⟨hq1, hq2, hq3⟩, hq4⟩
        · rw [ev_u1_ne (by omega)]
          exact hg k (by omega))
      refine ⟨t1, ?_, hg1⟩
      have t3b : ev_ua σ 181 t (ev_n + 17) 0 = σ 183 3 := by rw [ev_ua_ne (by omega)]; omega
      rw [← e, hsc, ← Int.add_assoc]
      clear e hg1 hsc hg ih
      rw [bk_1_4]
      repeat' (first | (simp (disch := first | assumption | exact Nat.le_of_ble_eq_true rfl | omega) only [bk_1_0, eo_6, eo_3_3n, eo_3_3i, eo_3_3r, eo_3_4n, eo_3_4i, eo_3_4r, eo_53, eo_0_4, eo_1_1, g7_28_2, g4_27, eo_0_2, eo_18, eo_15, eo_0_3, g4_28_5, eo_10, bk_1_2, eo_23_4n, eo_23_4i, eo_23_4r, eo_52, bk_1_3, eo_60_3, ev_ki, ev_kv, eo_3_5n, eo_3_5i, eo_3_5r, eo_1_0, g0_28_2, eo_0_5, bk_1_5, v7_3, bk_1_6, bk_1_7, eo_56i, a32_s21, a33_s21, a32_181, a33_181, t3b, e2, ev_up_ua, e53, Int.add_zero, Int.add_sub_cancel, Int.reduceAdd, Int.reduceMul, Int.reduceSub, Int.reduceNeg, ev_wr_id]) | ((first | with_reducible refine br_40 ?_ ?_ | with_reducible refine br_41 ?_ ?_ | with_reducible refine br_42 ?_ ?_ | with_reducible refine br_43 ?_ ?_ | with_reducible refine br_44 ?_ ?_ | with_reducible refine br_45 ?_ ?_ | with_reducible refine br_46 ?_ ?_ | with_reducible refine br_47 ?_ ?_ | with_reducible refine br_48 ?_ ?_ | with_reducible refine br_49 ?_ ?_ | with_reducible refine br_50 ?_ ?_ | with_reducible refine br_51 ?_ ?_) <;> intro h <;> try simp (disch := first | assumption | exact Nat.le_of_ble_eq_true rfl | omega) only [ev_wr_id, not_true_eq_false, not_false_eq_true, Int.reduceEq, Int.reduceLT, Int.reduceLE, and_self, and_true, true_and, and_false, false_and, reduceIte] at h <;> try (exfalso; omega; done)))
theorem c_1 {σ : ev_M} {s : Int} (a1 : st_E (st_T σ ev_n) (σ 183)) (a2 : st_I (σ 183)) (hs : 0 ≤ s ∧ s ≤ 7) (hne : st_ne (σ 183 4) s) : ∃ t, EM 1 [.inr (.inl 179), .inr (.inl ev_n), .inl s] σ = some (some (.inl (st_fs (st_fe (σ 183)) (σ 183 4) s + st_sc (st_co (σ 183)) t (σ 183 3).toNat)), ev_ua σ 181 t) ∧ st_gy (st_co (σ 183)) (σ 183 4) (σ 183 3).toNat s t := by
  have i3 := a2.1.2.2.2.1
  have i4 := a2.1.2.2.2.2.1
  obtain ⟨t, e, hg⟩ := l_1b (p0 := st_fs (st_fe (σ 183)) (σ 183 4) s) a1 a2 hs hne (σ 183 3).toNat 0 0 none (σ 181) rfl (by omega) (fun k hk => by omega)
  rw [ev_ua_self, show st_sc (st_co (σ 183)) (σ 181) 0 = 0 from rfl, Int.add_zero] at e
  have ea := l_1a a1 a2 hs (σ 183 4).toNat 0 0 none (by omega) (by omega)
  refine ⟨t, ?_, hg⟩
  rw [mm_1]
  repeat' (first | (simp (disch := first | assumption | exact Nat.le_of_ble_eq_true rfl | omega) only [bk_1_0, eo_6, eo_3_3n, eo_3_3i, eo_3_3r, eo_3_4n, eo_3_4i, eo_3_4r, eo_53, eo_0_4, eo_1_1, g7_28_2, g4_27, eo_0_2, eo_18, eo_15, eo_0_3, g4_28_5, eo_10, bk_1_2, eo_23_4n, eo_23_4i, eo_23_4r, eo_52, eo_60_3, ev_ki, ev_kv, eo_3_5n, eo_3_5i, eo_3_5r, eo_1_0, g0_28_2, eo_0_5, bk_1_5, v7_3, bk_1_6, bk_1_7, eo_56i, a32_s21, a33_s21, a32_181, a33_181, c_53, Int.add_zero, Int.add_sub_cancel, Int.reduceAdd, Int.reduceMul, Int.reduceSub, Int.reduceNeg, ev_wr_id]) | ((first | with_reducible refine br_40 ?_ ?_ | with_reducible refine br_41 ?_ ?_ | with_reducible refine br_42 ?_ ?_ | with_reducible refine br_43 ?_ ?_ | with_reducible refine br_44 ?_ ?_ | with_reducible refine br_45 ?_ ?_ | with_reducible refine br_46 ?_ ?_ | with_reducible refine br_47 ?_ ?_ | with_reducible refine br_48 ?_ ?_ | with_reducible refine br_49 ?_ ?_ | with_reducible refine br_50 ?_ ?_ | with_reducible refine br_51 ?_ ?_) <;> intro h <;> try simp (disch := first | assumption | exact Nat.le_of_ble_eq_true rfl | omega) only [ev_wr_id, not_true_eq_false, not_false_eq_true, Int.reduceEq, Int.reduceLT, Int.reduceLE, and_self, and_true, true_and, and_false, false_and, reduceIte] at h <;> try (exfalso; omega; done)))
  rw [ea]
  unfold st_fs at e ⊢
  rw [← e]
  repeat' (first | (simp (disch := first | assumption | exact Nat.le_of_ble_eq_true rfl | omega) only [bk_1_0, eo_6, eo_3_3n, eo_3_3i, eo_3_3r, eo_3_4n, eo_3_4i, eo_3_4r, eo_53, eo_0_4, eo_1_1, g7_28_2, g4_27, eo_0_2, eo_18, eo_15, eo_0_3, g4_28_5, eo_10, bk_1_2, eo_23_4n, eo_23_4i, eo_23_4r, eo_52, bk_1_3, eo_60_3, ev_ki, ev_kv, eo_3_5n, eo_3_5i, eo_3_5r, eo_1_0, g0_28_2, eo_0_5, bk_1_5, v7_3, bk_1_6, bk_1_7, eo_56i, a32_s21, a33_s21, a32_181, a33_181, c_53, Int.add_zero, Int.add_sub_cancel, Int.reduceAdd, Int.reduceMul, Int.reduceSub, Int.reduceNeg, ev_wr_id]) | ((first | with_reducible refine br_40 ?_ ?_ | with_reducible refine br_41 ?_ ?_ | with_reducible refine br_42 ?_ ?_ | with_reducible refine br_43 ?_ ?_ | with_reducible refine br_44 ?_ ?_ | with_reducible refine br_45 ?_ ?_ | with_reducible refine br_46 ?_ ?_ | with_reducible refine br_47 ?_ ?_ | with_reducible refine br_48 ?_ ?_ | with_reducible refine br_49 ?_ ?_ | with_reducible refine br_50 ?_ ?_ | with_reducible refine br_51 ?_ ?_) <;> intro h <;> try simp (disch := first | assumption | exact Nat.le_of_ble_eq_true rfl | omega) only [ev_wr_id, not_true_eq_false, not_false_eq_true, Int.reduceEq, Int.reduceLT, Int.reduceLE, and_self, and_true, true_and, and_false, false_and, reduceIte] at h <;> try (exfalso; omega; done)))

