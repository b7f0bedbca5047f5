/-! the way's towns -/
def st_en (T : Int → Int) (r x : Int) : Int := if T (9 + 4 * r) = x then T (9 + 4 * r + 1) else T (9 + 4 * r)
def st_cd (T : Int → Int) (w : Int) (G : Int → Int) (x r : Int) : Prop := w ≤ st_lim T r ∧ (T (9 + 4 * r) = x ∨ T (9 + 4 * r + 1) = x) ∧ G (st_en T r x) + T (9 + 4 * r + 2) = G x
noncomputable def st_ah (T : Int → Int) (w : Int) (G : Int → Int) (x : Int) : Nat → Int → Int → Int
  | 0, _, c => c
  | k + 1, r, c => st_ah T w G x k (r + 1) (@ite Int (st_cd T w G x r ∧ (c = -1 ∨ st_en T r x < c)) (Classical.propDecidable _) (st_en T r x) c)
noncomputable def st_nx (T : Int → Int) (w : Int) (G : Int → Int) (x : Int) : Int := st_ah T w G x (T 1).toNat 0 (-1)
theorem st_ah_y {T : Int → Int} {w x r c : Int} {G : Int → Int} {k : Nat} (h : st_cd T w G x r ∧ (c = -1 ∨ st_en T r x < c)) : st_ah T w G x (k + 1) r c = st_ah T w G x k (r + 1) (st_en T r x) := by
  show st_ah T w G x k (r + 1) (@ite Int (st_cd T w G x r ∧ (c = -1 ∨ st_en T r x < c)) (Classical.propDecidable _) (st_en T r x) c) = _
  rw [if_pos h]
theorem st_ah_n {T : Int → Int} {w x r c : Int} {G : Int → Int} {k : Nat} (h : ¬ (st_cd T w G x r ∧ (c = -1 ∨ st_en T r x < c))) : st_ah T w G x (k + 1) r c = st_ah T w G x k (r + 1) c := by
  show st_ah T w G x k (r + 1) (@ite Int (st_cd T w G x r ∧ (c = -1 ∨ st_en T r x < c)) (Classical.propDecidable _) (st_en T r x) c) = _
  rw [if_neg h]
/-- what is found is an end of a shortest way -/
theorem st_ah_in {T : Int → Int} {w x : Int} {G : Int → Int} (hI : st_I T) : ∀ (k : Nat) (r c : Int), 0 ≤ r → r + k = T 1 → (c = -1 ∨ ∃ q, st_ej T w (-1) q c x ∧ G x = G c + T (9 + 4 * q + 2)) → (st_ah T w G x k r c = -1 ∧ c = -1 ∧ ∀ q, r ≤ q → q < T 1 → ¬ st_cd T w G x q) ∨ ∃ q, st_ej T w (-1) q (st_ah T w G x k r c) x ∧ G x = G (st_ah T w G x k r c) + T (9 + 4 * q + 2) := by
  intro k
  induction k with
  | zero =>
    intro r c h0 h1 hc
    show (c = -1 ∧ c = -1 ∧ _) ∨ ∃ q, st_ej T w (-1) q c x ∧ G x = G c + T (9 + 4 * q + 2)
    rcases hc with h | h
    · exact Or.inl ⟨h, h, fun q q0 q1 => by omega⟩
    · exact Or.inr h
  | succ k ih =>
    intro r c h0 h1 hc
    by_cases c1 : st_cd T w G x r ∧ (c = -1 ∨ st_en T r x < c)
    · rw [st_ah_y c1]
      have hej : st_ej T w (-1) r (st_en T r x) x := ⟨⟨h0, by omega⟩, ⟨by omega, c1.1.1⟩, by
        unfold st_en
        by_cases q : T (9 + 4 * r) = x
        · rw [if_pos q]
          exact Or.inr ⟨q, rfl⟩
        · rw [if_neg q]
          exact Or.inl ⟨rfl, c1.1.2.1.resolve_left q⟩⟩
      have hx := (st_ej_in hI hej).1.1
      rcases ih (r + 1) (st_en T r x) (by omega) (by omega) (Or.inr ⟨r, hej, c1.1.2.2.symm⟩) with q | q
      · omega
      · exact Or.inr q
    · rw [st_ah_n c1]
      rcases ih (r + 1) c (by omega) (by omega) hc with ⟨q1, q2, q3⟩ | q
      · refine Or.inl ⟨q1, q2, fun q q0 q9 hq => ?_⟩
        by_cases h : q = r
        · rw [h] at hq
          exact c1 ⟨hq, Or.inl q2⟩
        · exact q3 q (by omega) q9 hq
      · exact Or.inr q
theorem st_nx_in {T : Int → Int} {w s x : Int} {G : Int → Int} (hI : st_I T) (hG : st_sp T w (-1) s G) (hx : 0 ≤ x ∧ x < 10) (hxs : x ≠ s) (hr : G x ≤ 990) : (0 ≤ st_nx T w G x ∧ st_nx T w G x < T 0) ∧ G (st_nx T w G x) < G x := by
  have i1 := hI.1.2.1
  obtain ⟨q, z, h1, h2⟩ := hG.2.2.2 x hx.1 hx.2 hxs (by omega)
  rcases st_ah_in (w := w) (x := x) (G := G) hI (T 1).toNat 0 (-1) (by omega) (by omega) (Or.inl rfl) with ⟨q1, q2, q3⟩ | ⟨p, q1, q2⟩
  · exfalso
    refine q3 q h1.1.1 h1.1.2 ⟨h1.2.1.2, ?_, ?_⟩
    · rcases h1.2.2 with g | g
      · exact Or.inr g.2
      · exact Or.inl g.1
    · have g3 := (st_ej_in hI h1).2.2.1
      have : st_en T q x = z := by
        unfold st_en
        rcases h1.2.2 with g | g
        · rw [if_neg (by omega)]
          exact g.1
        · rw [if_pos g.1]
          exact g.2
      rw [this]
      exact h2.symm
  · have g := st_ej_in hI q1
    exact ⟨g.1, by show G (st_ah T w G x (T 1).toNat 0 (-1)) < G x; omega⟩
theorem l_65 {σ : ev_M} {s x w : Int} {T G : Int → Int} (hs : ev_S s) (hE : st_E (st_T σ s) T) (hI : st_I T) (hx : 0 ≤ x ∧ x < 10) (hw : 1 ≤ w ∧ w ≤ 60) (hG : ∀ y, 0 ≤ y → y < 10 → σ 174 y = G y ∧ 0 ≤ G y ∧ G y ≤ 1000000) : ∀ (k : Nat) (r c : Int) (p6 p7 p8 p9 : Option ev_V), 0 ≤ r → r + k = T 1 → -1 ≤ c ∧ c < 10 → EB 65 1 [some (.inr (.inl 173)), some (.inr (.inl s)), some (.inl x), some (.inl w), some (.inl c), some (.inl r), p6, p7, p8, p9] [] σ = some (some (.inl (st_ah T w G x k r c)), σ) := by
  have hsb := ev_S_in hs
  have i0 := hI.1.1
  have i1 := hI.1.2.1
  have t1 : σ (s + 1) 1 = T 1 := by rw [tr_n1 (σ := σ) (s := s), hE _ (by omega) (by omega)]
  intro k
  induction k with
  | zero =>
    intro r c p6 p7 p8 p9 h0 h1 hc
    obtain rfl : r = T 1 := by omega
    rw [show st_ah T w G x 0 (T 1) c = c from rfl]
    clear hG h1
    rw [bk_65_1]
    repeat' (first | (simp (disch := first | assumption | exact Nat.le_of_ble_eq_true rfl | omega) only [bk_65_0, eo_6, eo_3_4n, eo_3_4i, eo_3_4r, eo_3_5n, eo_3_5i, eo_3_5r, eo_53, eo_0_5, eo_1_1, g7_28_0, g6_27, g6_28_2, eo_3_6n, eo_3_6i, eo_3_6r, g6_28_3, eo_3_7n, eo_3_7i, eo_3_7r, v7_2, ev_ki, ev_kv, eo_0_3, eo_0_6, eo_0_2, eo_0_7, bk_65_2, eo_52, bk_65_3, bk_65_4, eo_3_8n, eo_3_8i, eo_3_8r, eo_1_0, g9_28_0, eo_0_8, g6_28_4, eo_10, bk_65_5, bk_65_6, eo_3_9n, eo_3_9i, eo_3_9r, eo_0_9, eo_0_4, bk_65_7, bk_65_8, eo_23_5n, eo_23_5i, eo_23_5r, bk_65_9, eo_56i, a32_s2, a32_s3, a32_174, a32_s4, t1, Int.add_zero, Int.add_sub_cancel, Int.reduceAdd, Int.reduceMul, Int.reduceSub, Int.reduceNeg, ev_wr_id]) | ((first | with_reducible refine br_40 ?_ ?_ | with_reducible refine br_41 ?_ ?_ | with_reducible refine br_42 ?_ ?_ | with_reducible refine br_43 ?_ ?_ | with_reducible refine br_44 ?_ ?_ | with_reducible refine br_45 ?_ ?_ | with_reducible refine br_46 ?_ ?_ | with_reducible refine br_47 ?_ ?_ | with_reducible refine br_48 ?_ ?_ | with_reducible refine br_49 ?_ ?_ | with_reducible refine br_50 ?_ ?_ | with_reducible refine br_51 ?_ ?_) <;> intro h <;> try simp (disch := first | assumption | exact Nat.le_of_ble_eq_true rfl | omega) only [ev_wr_id, not_true_eq_false, not_false_eq_true, Int.reduceEq, Int.reduceLT, Int.reduceLE, and_self, and_true, true_and, and_false, false_and, reduceIte] at h <;> try (exfalso; omega; done)))
  | succ k ih =>
    intro r c p6 p7 p8 p9 h0 h1 hc
    have hr : 0 ≤ r ∧ r < T 1 := by omega
    have hr20 : r < 20 := by omega
    have g := hI.2.1 r h0 hr.2
    have e52 := e_52 (σ := σ) hs hE hI hr
    have hps : st_lim T r ≤ 60 ∧ 0 ≤ st_lim T r := by
      unfold st_lim
      split
      · omega
      · split
        · omega
        · have := ev_ps_in (r := T (89 + 5 * T (9 + 4 * r + 3) + 2))
          omega
    have e2 : σ (s + 2) r = T (9 + 4 * r) := by rw [tr_2 (σ := σ) (s := s) (by omega), hE _ (by omega) (by omega)]
    have e3 : σ (s + 3) r = T (9 + 4 * r + 1) := by rw [tr_3 (σ := σ) (s := s) (by omega), hE _ (by omega) (by omega)]
    have e4 : σ (s + 4) r = T (9 + 4 * r + 2) := by rw [tr_4 (σ := σ) (s := s) (by omega), hE _ (by omega) (by omega)]
    have gx := hG x hx.1 hx.2
    obtain ⟨z, hz⟩ : ∃ z, z = st_en T r x := ⟨_, rfl⟩
    have hzr : 0 ≤ z ∧ z < 10 := by
      rw [hz]
      unfold st_en
      split <;> omega
    have gz := hG z hzr.1 hzr.2
    have gxe := gx.1
    have gze := gz.1
    by_cases c0 : w ≤ st_lim T r ∧ (T (9 + 4 * r) = x ∨ T (9 + 4 * r + 1) = x)
    · by_cases c1 : G z + T (9 + 4 * r + 2) = G x ∧ (c = -1 ∨ z < c)
      · have hcd : st_cd T w G x r ∧ (c = -1 ∨ st_en T r x < c) := ⟨⟨c0.1, c0.2, by rw [← hz]; exact c1.1⟩, by rw [← hz]; exact c1.2⟩
        have e := ih (r + 1) z (some (.inl (T (9 + 4 * r)))) (some (.inl (T (9 + 4 * r + 1)))) (some (.inl z)) (some (.inl 1)) (by omega) (by omega) (by omega)
        rw [st_ah_y hcd, ← hz, ← e]
        have c2 := c1.1
        have c3 := c1.2
        have c4 := c0.1
        clear e ih hcd hG h1
        rw [bk_65_1]
        by_cases c5 : T (9 + 4 * r) = x
        · unfold st_en at hz
          rw [if_pos c5] at hz
          rw [← hz] at e3
          rw [← hz]
          repeat' (first | (simp (disch := first | assumption | exact Nat.le_of_ble_eq_true rfl | omega) only [bk_65_0, eo_6, eo_3_4n, eo_3_4i, eo_3_4r, eo_3_5n, eo_3_5i, eo_3_5r, eo_53, eo_0_5, eo_1_1, g7_28_0, g6_27, g6_28_2, eo_3_6n, eo_3_6i, eo_3_6r, g6_28_3, eo_3_7n, eo_3_7i, eo_3_7r, v7_2, ev_ki, ev_kv, eo_0_3, eo_0_6, eo_0_2, eo_0_7, bk_65_2, eo_52, bk_65_3, bk_65_4, eo_3_8n, eo_3_8i, eo_3_8r, eo_1_0, g9_28_0, eo_0_8, g6_28_4, eo_10, bk_65_5, bk_65_6, eo_3_9n, eo_3_9i, eo_3_9r, eo_0_9, eo_0_4, bk_65_7, bk_65_8, eo_23_5n, eo_23_5i, eo_23_5r, bk_65_9, eo_56i, a32_s2, a32_s3, a32_174, a32_s4, t1, e52, e2, e3, e4, gxe, gze, Int.add_zero, Int.add_sub_cancel, Int.reduceAdd, Int.reduceMul, Int.reduceSub, Int.reduceNeg, ev_wr_id]) | ((first | with_reducible refine br_40 ?_ ?_ | with_reducible refine br_41 ?_ ?_ | with_reducible refine br_42 ?_ ?_ | with_reducible refine br_43 ?_ ?_ | with_reducible refine br_44 ?_ ?_ | with_reducible refine br_45 ?_ ?_ | with_reducible refine br_46 ?_ ?_ | with_reducible refine br_47 ?_ ?_ | with_reducible refine br_48 ?_ ?_ | with_reducible refine br_49 ?_ ?_ | with_reducible refine br_50 ?_ ?_ | with_reducible refine br_51 ?_ ?_) <;> intro h <;> try simp (disch := first | assumption | exact Nat.le_of_ble_eq_true rfl | omega) only [ev_wr_id, not_true_eq_false, not_false_eq_true, Int.reduceEq, Int.reduceLT, Int.reduceLE, and_self, and_true, true_and, and_false, false_and, reduceIte] at h <;> try (exfalso; omega; done)))
        · unfold st_en at hz
          rw [if_neg c5] at hz
          have c6 := c0.2.resolve_left c5
          rw [← hz] at e2
          rw [← hz]
          repeat' (first | (simp (disch := first | assumption | exact Nat.le_of_ble_eq_true rfl | omega) only [bk_65_0, eo_6, eo_3_4n, eo_3_4i, eo_3_4r, eo_3_5n, eo_3_5i, eo_3_5r, eo_53, eo_0_5, eo_1_1, g7_28_0, g6_27, g6_28_2, eo_3_6n, eo_3_6i, eo_3_6r, g6_28_3, eo_3_7n, eo_3_7i, eo_3_7r, v7_2, ev_ki, ev_kv, eo_0_3, eo_0_6, eo_0_2, eo_0_7, bk_65_2, eo_52, bk_65_3, bk_65_4, eo_3_8n, eo_3_8i, eo_3_8r, eo_1_0, g9_28_0, eo_0_8, g6_28_4, eo_10, bk_65_5, bk_65_6, eo_3_9n, eo_3_9i, eo_3_9r, eo_0_9, eo_0_4, bk_65_7, bk_65_8, eo_23_5n, eo_23_5i, eo_23_5r, bk_65_9, eo_56i, a32_s2, a32_s3, a32_174, a32_s4, t1, e52, e2, e3, e4, gxe, gze, Int.add_zero, Int.add_sub_cancel, Int.reduceAdd, Int.reduceMul, Int.reduceSub, Int.reduceNeg, ev_wr_id]) | ((first | with_reducible refine br_40 ?_ ?_ | with_reducible refine br_41 ?_ ?_ | with_reducible refine br_42 ?_ ?_ | with_reducible refine br_43 ?_ ?_ | with_reducible refine br_44 ?_ ?_ | with_reducible refine br_45 ?_ ?_ | with_reducible refine br_46 ?_ ?_ | with_reducible refine br_47 ?_ ?_ | with_reducible refine br_48 ?_ ?_ | with_reducible refine br_49 ?_ ?_ | with_reducible refine br_50 ?_ ?_ | with_reducible refine br_51 ?_ ?_) <;> intro h <;> try simp (disch := first | assumption | exact Nat.le_of_ble_eq_true rfl | omega) only [ev_wr_id, not_true_eq_false, not_false_eq_true, Int.reduceEq, Int.reduceLT, Int.reduceLE, and_self, and_true, true_and, and_false, false_and, reduceIte] at h <;> try (exfalso; omega; done)))
      · have hcd : ¬ (st_cd T w G x r ∧ (c = -1 ∨ st_en T r x < c)) := fun q => c1 ⟨by rw [hz]; exact q.1.2.2, by rw [hz]; exact q.2⟩
        obtain ⟨v9, hv9⟩ : ∃ v9 : Int, v9 = if G z + T (9 + 4 * r + 2) = G x then 1 else 0 := ⟨_, rfl⟩
        have e := ih (r + 1) c (some (.inl (T (9 + 4 * r)))) (some (.inl (T (9 + 4 * r + 1)))) (some (.inl z)) (some (.inl v9)) (by omega) (by omega) (by omega)
        rw [st_ah_n hcd, ← e]
        have c4 := c0.1
        clear e ih hcd hG h1
        rw [bk_65_1]
        by_cases c5 : T (9 + 4 * r) = x
        · unfold st_en at hz
          rw [if_pos c5] at hz
          rw [← hz] at e3
          rw [← hz]
          by_cases c7 : G z + T (9 + 4 * r + 2) = G x
          · rw [if_pos c7] at hv9
            have c8 : c ≠ -1 ∧ ¬ z < c := by omega
            rw [hv9]
            repeat' (first | (simp (disch := first | assumption | exact Nat.le_of_ble_eq_true rfl | omega) only [bk_65_0, eo_6, eo_3_4n, eo_3_4i, eo_3_4r, eo_3_5n, eo_3_5i, eo_3_5r, eo_53, eo_0_5, eo_1_1, g7_28_0, g6_27, g6_28_2, eo_3_6n, eo_3_6i, eo_3_6r, g6_28_3, eo_3_7n, eo_3_7i, eo_3_7r, v7_2, ev_ki, ev_kv, eo_0_3, eo_0_6, eo_0_2, eo_0_7, bk_65_2, eo_52, bk_65_3, bk_65_4, eo_3_8n, eo_3_8i, eo_3_8r, eo_1_0, g9_28_0, eo_0_8, g6_28_4, eo_10, bk_65_5, bk_65_6, eo_3_9n, eo_3_9i, eo_3_9r, eo_0_9, eo_0_4, bk_65_7, bk_65_8, eo_23_5n, eo_23_5i, eo_23_5r, bk_65_9, eo_56i, a32_s2, a32_s3, a32_174, a32_s4, t1, e52, e2, e3, e4, gxe, gze, Int.add_zero, Int.add_sub_cancel, Int.reduceAdd, Int.reduceMul, Int.reduceSub, Int.reduceNeg, ev_wr_id]) | ((first | with_reducible refine br_40 ?_ ?_ | with_reducible refine br_41 ?_ ?_ | with_reducible refine br_42 ?_ ?_ | with_reducible refine br_43 ?_ ?_ | with_reducible refine br_44 ?_ ?_ | with_reducible refine br_45 ?_ ?_ | with_reducible refine br_46 ?_ ?_ | with_reducible refine br_47 ?_ ?_ | with_reducible refine br_48 ?_ ?_ | with_reducible refine br_49 ?_ ?_ | with_reducible refine br_50 ?_ ?_ | with_reducible refine br_51 ?_ ?_) <;> intro h <;> try simp (disch := first | assumption | exact Nat.le_of_ble_eq_true rfl | omega) only [ev_wr_id, not_true_eq_false, not_false_eq_true, Int.reduceEq, Int.reduceLT, Int.reduceLE, and_self, and_true, true_and, and_false, false_and, reduceIte] at h <;> try (exfalso; omega; done)))
          · rw [if_neg c7] at hv9
            rw [hv9]
            repeat' (first | (simp (disch := first | assumption | exact Nat.le_of_ble_eq_true rfl | omega) only [bk_65_0, eo_6, eo_3_4n, eo_3_4i, eo_3_4r, eo_3_5n, eo_3_5i, eo_3_5r, eo_53, eo_0_5, eo_1_1, g7_28_0, g6_27, g6_28_2, eo_3_6n, eo_3_6i, eo_3_6r, g6_28_3, eo_3_7n, eo_3_7i, eo_3_7r, v7_2, ev_ki, ev_kv, eo_0_3, eo_0_6, eo_0_2, eo_0_7, bk_65_2, eo_52, bk_65_3, bk_65_4, eo_3_8n, eo_3_8i, eo_3_8r, eo_1_0, g9_28_0, eo_0_8, g6_28_4, eo_10, bk_65_5, bk_65_6, eo_3_9n, eo_3_9i, eo_3_9r, eo_0_9, eo_0_4, bk_65_7, bk_65_8, eo_23_5n, eo_23_5i, eo_23_5r, bk_65_9, eo_56i, a32_s2, a32_s3, a32_174, a32_s4, t1, e52, e2, e3, e4, gxe, gze, Int.add_zero, Int.add_sub_cancel, Int.reduceAdd, Int.reduceMul, Int.reduceSub, Int.reduceNeg, ev_wr_id]) | ((first | with_reducible refine br_40 ?_ ?_ | with_reducible refine br_41 ?_ ?_ | with_reducible refine br_42 ?_ ?_ | with_reducible refine br_43 ?_ ?_ | with_reducible refine br_44 ?_ ?_ | with_reducible refine br_45 ?_ ?_ | with_reducible refine br_46 ?_ ?_ | with_reducible refine br_47 ?_ ?_ | with_reducible refine br_48 ?_ ?_ | with_reducible refine br_49 ?_ ?_ | with_reducible refine br_50 ?_ ?_ | with_reducible refine br_51 ?_ ?_) <;> intro h <;> try simp (disch := first | assumption | exact Nat.le_of_ble_eq_true rfl | omega) only [ev_wr_id, not_true_eq_false, not_false_eq_true, Int.reduceEq, Int.reduceLT, Int.reduceLE, and_self, and_true, true_and, and_false, false_and, reduceIte] at h <;> try (exfalso; omega; done)))
        · unfold st_en at hz
          rw [if_neg c5] at hz
          have c6 := c0.2.resolve_left c5
          rw [← hz] at e2
          rw [← hz]
          by_cases c7 : G z + T (9 + 4 * r + 2) = G x
          · rw [if_pos c7] at hv9
            have c8 : c ≠ -1 ∧ ¬ z < c := by omega
            rw [hv9]
            repeat' (first | (simp (disch := first | assumption | exact Nat.le_of_ble_eq_true rfl | omega) only [bk_65_0, eo_6, eo_3_4n, eo_3_4i, eo_3_4r, eo_3_5n, eo_3_5i, eo_3_5r, eo_53, eo_0_5, eo_1_1, g7_28_0, g6_27, g6_28_2, eo_3_6n, eo_3_6i, eo_3_6r, g6_28_3, eo_3_7n, eo_3_7i, eo_3_7r, v7_2, ev_ki, ev_kv, eo_0_3, eo_0_6, eo_0_2, eo_0_7, bk_65_2, eo_52, bk_65_3, bk_65_4, eo_3_8n, eo_3_8i, eo_3_8r, eo_1_0, g9_28_0, eo_0_8, g6_28_4, eo_10, bk_65_5, bk_65_6, eo_3_9n, eo_3_9i, eo_3_9r, eo_0_9, eo_0_4, bk_65_7, bk_65_8, eo_23_5n, eo_23_5i, eo_23_5r, bk_65_9, eo_56i, a32_s2, a32_s3, a32_174, a32_s4, t1, e52, e2, e3, e4, gxe, gze, Int.add_zero, Int.add_sub_cancel, Int.reduceAdd, Int.reduceMul, Int.reduceSub, Int.reduceNeg, ev_wr_id]) | ((first | with_reducible refine br_40 ?_ ?_ | with_reducible refine br_41 ?_ ?_ | with_reducible refine br_42 ?_ ?_ | with_reducible refine br_43 ?_ ?_ | with_reducible refine br_44 ?_ ?_ | with_reducible refine br_45 ?_ ?_ | with_reducible refine br_46 ?_ ?_ | with_reducible refine br_47 ?_ ?_ | with_reducible refine br_48 ?_ ?_ | with_reducible refine br_49 ?_ ?_ | with_reducible refine br_50 ?_ ?_ | with_reducible refine br_51 ?_ ?_) <;> intro h <;> try simp (disch := first | assumption | exact Nat.le_of_ble_eq_true rfl | omega) only [ev_wr_id, not_true_eq_false, not_false_eq_true, Int.reduceEq, Int.reduceLT, Int.reduceLE, and_self, and_true, true_and, and_false, false_and, reduceIte] at h <;> try (exfalso; omega; done)))
          · rw [if_neg c7] at hv9
            rw [hv9]
            repeat' (first | (simp (disch := first | assumption | exact Nat.le_of_ble_eq_true rfl | omega) only [bk_65_0, eo_6, eo_3_4n, eo_3_4i, eo_3_4r, eo_3_5n, eo_3_5i, eo_3_5r, eo_53, eo_0_5, eo_1_1, g7_28_0, g6_27, g6_28_2, eo_3_6n, eo_3_6i, eo_3_6r, g6_28_3, eo_3_7n, eo_3_7i, eo_3_7r, v7_2, ev_ki, ev_kv, eo_0_3, eo_0_6, eo_0_2, eo_0_7, bk_65_2, eo_52, bk_65_3, bk_65_4, eo_3_8n, eo_3_8i, eo_3_8r, eo_1_0, g9_28_0, eo_0_8, g6_28_4, eo_10, bk_65_5, bk_65_6, eo_3_9n, eo_3_9i, eo_3_9r, eo_0_9, eo_0_4, bk_65_7, bk_65_8, eo_23_5n, eo_23_5i, eo_23_5r, bk_65_9, eo_56i, a32_s2, a32_s3, a32_174, a32_s4, t1, e52, e2, e3, e4, gxe, gze, Int.add_zero, Int.add_sub_cancel, Int.reduceAdd, Int.reduceMul, Int.reduceSub, Int.reduceNeg, ev_wr_id]) | ((first | with_reducible refine br_40 ?_ ?_ | with_reducible refine br_41 ?_ ?_ | with_reducible refine br_42 ?_ ?_ | with_reducible refine br_43 ?_ ?_ | with_reducible refine br_44 ?_ ?_ | with_reducible refine br_45 ?_ ?_ | with_reducible refine br_46 ?_ ?_ | with_reducible refine br_47 ?_ ?_ | with_reducible refine br_48 ?_ ?_ | with_reducible refine br_49 ?_ ?_ | with_reducible refine br_50 ?_ ?_ | with_reducible refine br_51 ?_ ?_) <;> intro h <;> try simp (disch := first | assumption | exact Nat.le_of_ble_eq_true rfl | omega) only [ev_wr_id, not_true_eq_false, not_false_eq_true, Int.reduceEq, Int.reduceLT, Int.reduceLE, and_self, and_true, true_and, and_false, false_and, reduceIte] at h <;> try (exfalso; omega; done)))
    · have hcd : ¬ (st_cd T w G x r ∧ (c = -1 ∨ st_en T r x < c)) := fun q => c0 ⟨q.1.1, q.1.2.1⟩
      have e := ih (r + 1) c (some (.inl (T (9 + 4 * r)))) (some (.inl (T (9 + 4 * r + 1)))) p8 p9 (by omega) (by omega) (by omega)
      rw [st_ah_n hcd, ← e]
      have c4 : st_lim T r < w ∨ (T (9 + 4 * r) ≠ x ∧ T (9 + 4 * r + 1) ≠ x) := by omega
      clear e ih hcd hG h1 hz c0
      rw [bk_65_1]
      repeat' (first | (simp (disch := first | assumption | exact Nat.le_of_ble_eq_true rfl | omega) only [bk_65_0, eo_6, eo_3_4n, eo_3_4i, eo_3_4r, eo_3_5n, eo_3_5i, eo_3_5r, eo_53, eo_0_5, eo_1_1, g7_28_0, g6_27, g6_28_2, eo_3_6n, eo_3_6i, eo_3_6r, g6_28_3, eo_3_7n, eo_3_7i, eo_3_7r, v7_2, ev_ki, ev_kv, eo_0_3, eo_0_6, eo_0_2, eo_0_7, bk_65_2, eo_52, bk_65_3, bk_65_4, eo_3_8n, eo_3_8i, eo_3_8r, eo_1_0, g9_28_0, eo_0_8, g6_28_4, eo_10, bk_65_5, bk_65_6, eo_3_9n, eo_3_9i, eo_3_9r, eo_0_9, eo_0_4, bk_65_7, bk_65_8, eo_23_5n, eo_23_5i, eo_23_5r, bk_65_9, eo_56i, a32_s2, a32_s3, a32_174, a32_s4, t1, e52, e2, e3, e4, Int.add_zero, Int.add_sub_cancel, Int.reduceAdd, Int.reduceMul, Int.reduceSub, Int.reduceNeg, ev_wr_id]) | ((first | with_reducible refine br_40 ?_ ?_ | with_reducible refine br_41 ?_ ?_ | with_reducible refine br_42 ?_ ?_ | with_reducible refine br_43 ?_ ?_ | with_reducible refine br_44 ?_ ?_ | with_reducible refine br_45 ?_ ?_ | with_reducible refine br_46 ?_ ?_ | with_reducible refine br_47 ?_ ?_ | with_reducible refine br_48 ?_ ?_ | with_reducible refine br_49 ?_ ?_ | with_reducible refine br_50 ?_ ?_ | with_reducible refine br_51 ?_ ?_) <;> intro h <;> try simp (disch := first | assumption | exact Nat.le_of_ble_eq_true rfl | omega) only [ev_wr_id, not_true_eq_false, not_false_eq_true, Int.reduceEq, Int.reduceLT, Int.reduceLE, and_self, and_true, true_and, and_false, false_and, reduceIte] at h <;> try (exfalso; omega; done)))
theorem c_65 {σ : ev_M} {s x w : Int} {T G : Int → Int} (hs : ev_S s) (hE : st_E (st_T σ s) T) (hI : st_I T) (hx : 0 ≤ x ∧ x < 10) (hw : 1 ≤ w ∧ w ≤ 60) (hG : ∀ y, 0 ≤ y → y < 10 → σ 174 y = G y ∧ 0 ≤ G y ∧ G y ≤ 1000000) : EM 65 [.inr (.inl 173), .inr (.inl s), .inl x, .inl w] σ = some (some (.inl (st_nx T w G x)), σ) := by
  have i1 := hI.1.2.1
  rw [mm_65]
  repeat' (first | (simp (disch := first | assumption | exact Nat.le_of_ble_eq_true rfl | omega) only [bk_65_0, eo_6, eo_3_4n, eo_3_4i, eo_3_4r, eo_3_5n, eo_3_5i, eo_3_5r, eo_53, eo_0_5, eo_1_1, g7_28_0, g6_27, g6_28_2, eo_3_6n, eo_3_6i, eo_3_6r, g6_28_3, eo_3_7n, eo_3_7i, eo_3_7r, v7_2, ev_ki, ev_kv, eo_0_3, eo_0_6, eo_0_2, eo_0_7, bk_65_2, eo_52, bk_65_3, bk_65_4, eo_3_8n, eo_3_8i, eo_3_8r, eo_1_0, g9_28_0, eo_0_8, g6_28_4, eo_10, bk_65_5, bk_65_6, eo_3_9n, eo_3_9i, eo_3_9r, eo_0_9, eo_0_4, bk_65_7, bk_65_8, eo_23_5n, eo_23_5i, eo_23_5r, bk_65_9, eo_56i, a32_s2, a32_s3, a32_174, a32_s4, c_52, Int.add_zero, Int.add_sub_cancel, Int.reduceAdd, Int.reduceMul, Int.reduceSub, Int.reduceNeg, ev_wr_id]) | ((first | with_reducible refine br_40 ?_ ?_ | with_reducible refine br_41 ?_ ?_ | with_reducible refine br_42 ?_ ?_ | with_reducible refine br_43 ?_ ?_ | with_reducible refine br_44 ?_ ?_ | with_reducible refine br_45 ?_ ?_ | with_reducible refine br_46 ?_ ?_ | with_reducible refine br_47 ?_ ?_ | with_reducible refine br_48 ?_ ?_ | with_reducible refine br_49 ?_ ?_ | with_reducible refine br_50 ?_ ?_ | with_reducible refine br_51 ?_ ?_) <;> intro h <;> try simp (disch := first | assumption | exact Nat.le_of_ble_eq_true rfl | omega) only [ev_wr_id, not_true_eq_false, not_false_eq_true, Int.reduceEq, Int.reduceLT, Int.reduceLE, and_self, and_true, true_and, and_false, false_and, reduceIte] at h <;> try (exfalso; omega; done)))
  exact l_65 hs hE hI hx hw hG (T 1).toNat 0 (-1) none none none none (by omega) (by omega) (by omega)
