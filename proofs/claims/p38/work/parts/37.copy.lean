/-! copies of states: the class's copyFrom, the reference's copies -/
theorem ev_cp_eq {σ : ev_M} {a b n x y : Int} (hx : x = b) (h0 : 0 ≤ y) (h1 : y < n) : ev_cp σ a 0 b 0 n x y = σ a y := by
  unfold ev_cp
  rw [if_pos ⟨hx, h0, by omega⟩]
  congr 1
  omega
theorem ev_cp_ne {σ : ev_M} {a i b j n x y : Int} (hx : x ≠ b) : ev_cp σ a i b j n x y = σ x y := by
  unfold ev_cp
  rw [if_neg (fun h => hx h.1)]
theorem ev_cp_0 {σ : ev_M} {a b i j : Int} : ev_cp σ a i b j 0 = σ := by
  funext x y
  unfold ev_cp
  rw [if_neg (fun h => by omega)]
theorem ev_cp_up {σ : ev_M} {a b i j n : Int} (hn : 0 ≤ n) (h : a ≠ b) : ev_up (ev_cp σ a i b j n) b (j + n) (ev_cp σ a i b j n a (i + n)) = ev_cp σ a i b j (n + 1) := by
  funext x y
  rw [ev_cp_ne h]
  unfold ev_up ev_cp
  by_cases hx : x = b
  · by_cases hy : y = j + n
    · subst hy
      rw [if_pos ⟨hx, rfl⟩, if_pos ⟨hx, by omega, by omega⟩]
      congr 1
      omega
    · rw [if_neg (fun q => hy q.2)]
      by_cases hq : j ≤ y ∧ y < j + n
      · rw [if_pos ⟨hx, hq⟩, if_pos ⟨hx, by omega, by omega⟩]
      · rw [if_neg (fun q => hq q.2), if_neg (fun q => hq ⟨q.2.1, by omega⟩)]
  · rw [if_neg (fun q => hx q.1), if_neg (fun q => hx q.1), if_neg (fun q => hx q.1)]
theorem c_47 {s t : Int} {σ : ev_M} (hs : ev_S s) (ht : ev_S t) : EM 47 [.inr (.inl (t + 1)), .inr (.inl (s + 1))] σ = some (none, ev_cp (ev_cp (ev_cp (ev_cp (ev_up (ev_up σ (t + 1) 0 (σ (s + 1) 0)) (t + 1) 1 (σ (s + 1) 1)) (s + 2) 0 (t + 2) 0 20) (s + 3) 0 (t + 3) 0 20) (s + 4) 0 (t + 4) 0 20) (s + 5) 0 (t + 5) 0 20) := by
  rw [mm_47]
  repeat' (first | (simp (disch := first | assumption | exact Nat.le_of_ble_eq_true rfl | omega) only [bk_47_0, eo_1_0, eo_1_1, g6_27, g6_30, g6_28_2, eo_6, g6_28_3, g6_28_4, g6_28_5, eo_58, cp_s2, cp_s3, cp_s4, cp_s5, ev_up_ne, Int.add_zero, Int.add_sub_cancel, Int.reduceAdd, Int.reduceMul, Int.reduceSub, Int.reduceNeg, ev_wr_id]) | ((first | with_reducible refine br_40 ?_ ?_ | with_reducible refine br_41 ?_ ?_ | with_reducible refine br_42 ?_ ?_ | with_reducible refine br_43 ?_ ?_ | with_reducible refine br_44 ?_ ?_ | with_reducible refine br_45 ?_ ?_ | with_reducible refine br_46 ?_ ?_ | with_reducible refine br_47 ?_ ?_ | with_reducible refine br_48 ?_ ?_ | with_reducible refine br_49 ?_ ?_ | with_reducible refine br_50 ?_ ?_ | with_reducible refine br_51 ?_ ?_) <;> intro h <;> try simp (disch := first | assumption | exact Nat.le_of_ble_eq_true rfl | omega) only [ev_wr_id, not_true_eq_false, not_false_eq_true, Int.reduceEq, Int.reduceLT, Int.reduceLE, and_self, and_true, true_and, and_false, false_and, reduceIte] at h <;> try (exfalso; omega; done)))
theorem c_33 {s t : Int} {σ : ev_M} (hs : ev_S s) (ht : ev_S t) : EM 33 [.inr (.inl (t + 17)), .inr (.inl (s + 17))] σ = some (none, ev_cp (ev_cp (ev_cp (ev_cp (ev_cp (ev_up (ev_up σ (t + 17) 0 (σ (s + 17) 0)) (t + 17) 1 (σ (s + 17) 1)) (s + 18) 0 (t + 18) 0 8) (s + 19) 0 (t + 19) 0 8) (s + 20) 0 (t + 20) 0 8) (s + 21) 0 (t + 21) 0 3) (s + 22) 0 (t + 22) 0 12) := by
  rw [mm_33]
  repeat' (first | (simp (disch := first | assumption | exact Nat.le_of_ble_eq_true rfl | omega) only [bk_33_0, eo_1_0, eo_1_1, g4_27, g4_30, g4_28_2, eo_6, g4_28_3, g4_28_4, g4_28_5, g4_28_6, eo_58, cp_s18, cp_s19, cp_s20, cp_s21, cp_s22, ev_up_ne, Int.add_zero, Int.add_sub_cancel, Int.reduceAdd, Int.reduceMul, Int.reduceSub, Int.reduceNeg, ev_wr_id]) | ((first | with_reducible refine br_40 ?_ ?_ | with_reducible refine br_41 ?_ ?_ | with_reducible refine br_42 ?_ ?_ | with_reducible refine br_43 ?_ ?_ | with_reducible refine br_44 ?_ ?_ | with_reducible refine br_45 ?_ ?_ | with_reducible refine br_46 ?_ ?_ | with_reducible refine br_47 ?_ ?_ | with_reducible refine br_48 ?_ ?_ | with_reducible refine br_49 ?_ ?_ | with_reducible refine br_50 ?_ ?_ | with_reducible refine br_51 ?_ ?_) <;> intro h <;> try simp (disch := first | assumption | exact Nat.le_of_ble_eq_true rfl | omega) only [ev_wr_id, not_true_eq_false, not_false_eq_true, Int.reduceEq, Int.reduceLT, Int.reduceLE, and_self, and_true, true_and, and_false, false_and, reduceIte] at h <;> try (exfalso; omega; done)))
theorem l_17 {s t : Int} {σ : ev_M} (hs : ev_S s) (ht : ev_S t) (hst : s ≠ t) (hc : ∀ b, 0 ≤ b → b < 6 → 0 ≤ σ (s + 10) b ∧ σ (s + 10) b ≤ 1) : ∀ (k : Nat) (i : Int), 0 ≤ i → i + k = 6 → EB 17 1 [some (.inr (.inl (t + 6))), some (.inr (.inl (s + 6))), some (.inl i)] [] (ev_cp σ (s + 10) 0 (t + 10) 0 i) = some (none, ev_cp σ (s + 10) 0 (t + 10) 0 6) := by
  intro k
  induction k with
  | zero =>
    intro i h0 h1
    obtain rfl : i = 6 := by omega
    rw [bk_17_1]
    repeat' (first | (simp (disch := first | assumption | exact Nat.le_of_ble_eq_true rfl | omega) only [bk_17_0, eo_1_0, eo_1_1, g1_27, g1_30, g1_28_1, eo_6, g1_28_2, g1_28_3, g1_28_5, g1_28_6, g1_28_7, g1_28_8, g1_28_9, g1_28_10, eo_3_2n, eo_3_2i, eo_3_2r, eo_53, eo_0_2, g1_28_4, eo_23_2n, eo_23_2i, eo_23_2r, eo_52, bk_17_2, eo_58, cp_s7, cp_s8, cp_s9, cp_s11, cp_s12, cp_s13, cp_s14, cp_s15, cp_s16, a34_s10, a35_s10, Int.add_zero, Int.add_sub_cancel, Int.reduceAdd, Int.reduceMul, Int.reduceSub, Int.reduceNeg, ev_wr_id]) | ((first | with_reducible refine br_40 ?_ ?_ | with_reducible refine br_41 ?_ ?_ | with_reducible refine br_42 ?_ ?_ | with_reducible refine br_43 ?_ ?_ | with_reducible refine br_44 ?_ ?_ | with_reducible refine br_45 ?_ ?_ | with_reducible refine br_46 ?_ ?_ | with_reducible refine br_47 ?_ ?_ | with_reducible refine br_48 ?_ ?_ | with_reducible refine br_49 ?_ ?_ | with_reducible refine br_50 ?_ ?_ | with_reducible refine br_51 ?_ ?_) <;> intro h <;> try simp (disch := first | assumption | exact Nat.le_of_ble_eq_true rfl | omega) only [ev_wr_id, not_true_eq_false, not_false_eq_true, Int.reduceEq, Int.reduceLT, Int.reduceLE, and_self, and_true, true_and, and_false, false_and, reduceIte] at h <;> try (exfalso; omega; done)))
  | succ k ih =>
    intro i h0 h1
    have e := ih (i + 1) (by omega) (by omega)
    have hci := hc i h0 (by omega)
    have hup := ev_cp_up (σ := σ) (i := 0) (j := 0) (n := i) h0 (show s + 10 ≠ t + 10 by omega)
    rw [Int.zero_add, ev_cp_ne (show s + 10 ≠ t + 10 by omega)] at hup
    rw [bk_17_1]
    repeat' (first | (simp (disch := first | assumption | exact Nat.le_of_ble_eq_true rfl | omega) only [bk_17_0, eo_1_0, eo_1_1, g1_27, g1_30, g1_28_1, eo_6, g1_28_2, g1_28_3, g1_28_5, g1_28_6, g1_28_7, g1_28_8, g1_28_9, g1_28_10, eo_3_2n, eo_3_2i, eo_3_2r, eo_53, eo_0_2, g1_28_4, eo_23_2n, eo_23_2i, eo_23_2r, eo_52, bk_17_2, eo_58, cp_s7, cp_s8, cp_s9, cp_s11, cp_s12, cp_s13, cp_s14, cp_s15, cp_s16, a34_s10, a35_s10, ev_cp_ne, Int.add_zero, Int.add_sub_cancel, Int.reduceAdd, Int.reduceMul, Int.reduceSub, Int.reduceNeg, ev_wr_id]) | ((first | with_reducible refine br_40 ?_ ?_ | with_reducible refine br_41 ?_ ?_ | with_reducible refine br_42 ?_ ?_ | with_reducible refine br_43 ?_ ?_ | with_reducible refine br_44 ?_ ?_ | with_reducible refine br_45 ?_ ?_ | with_reducible refine br_46 ?_ ?_ | with_reducible refine br_47 ?_ ?_ | with_reducible refine br_48 ?_ ?_ | with_reducible refine br_49 ?_ ?_ | with_reducible refine br_50 ?_ ?_ | with_reducible refine br_51 ?_ ?_) <;> intro h <;> try simp (disch := first | assumption | exact Nat.le_of_ble_eq_true rfl | omega) only [ev_wr_id, not_true_eq_false, not_false_eq_true, Int.reduceEq, Int.reduceLT, Int.reduceLE, and_self, and_true, true_and, and_false, false_and, reduceIte] at h <;> try (exfalso; omega; done)))
    rw [hup]
    exact e
theorem c_17 {s t : Int} {σ : ev_M} (hs : ev_S s) (ht : ev_S t) (hst : s ≠ t) (hc : ∀ b, 0 ≤ b → b < 6 → 0 ≤ σ (s + 10) b ∧ σ (s + 10) b ≤ 1) : ∃ σ1, EM 17 [.inr (.inl (t + 6)), .inr (.inl (s + 6))] σ = some (none, σ1) ∧ σ1 (t + 6) 0 = σ (s + 6) 0 ∧ (∀ y, 0 ≤ y → y < 6 → σ1 (t + 7) y = σ (s + 7) y ∧ σ1 (t + 8) y = σ (s + 8) y ∧ σ1 (t + 9) y = σ (s + 9) y ∧ σ1 (t + 10) y = σ (s + 10) y ∧ σ1 (t + 11) y = σ (s + 11) y) ∧ (∀ y, 0 ≤ y → y < 36 → σ1 (t + 12) y = σ (s + 12) y ∧ σ1 (t + 13) y = σ (s + 13) y ∧ σ1 (t + 14) y = σ (s + 14) y ∧ σ1 (t + 15) y = σ (s + 15) y ∧ σ1 (t + 16) y = σ (s + 16) y) ∧ ∀ i, (i < t + 6 ∨ t + 16 < i) → σ1 i = σ i := by
  have hs2 := hs
  have ht2 := ht
  unfold ev_S at hs2 ht2
  refine ⟨ev_cp (ev_cp (ev_cp (ev_cp (ev_cp (ev_cp (ev_cp (ev_cp (ev_cp (ev_cp (ev_up σ (t + 6) 0 (σ (s + 6) 0)) (s + 7) 0 (t + 7) 0 6) (s + 8) 0 (t + 8) 0 6) (s + 9) 0 (t + 9) 0 6) (s + 11) 0 (t + 11) 0 6) (s + 12) 0 (t + 12) 0 36) (s + 13) 0 (t + 13) 0 36) (s + 14) 0 (t + 14) 0 36) (s + 15) 0 (t + 15) 0 36) (s + 16) 0 (t + 16) 0 36) (s + 10) 0 (t + 10) 0 6, ?_, ?_, ?_, ?_, ?_⟩
  · have e := l_17 (σ := ev_cp (ev_cp (ev_cp (ev_cp (ev_cp (ev_cp (ev_cp (ev_cp (ev_cp (ev_up σ (t + 6) 0 (σ (s + 6) 0)) (s + 7) 0 (t + 7) 0 6) (s + 8) 0 (t + 8) 0 6) (s + 9) 0 (t + 9) 0 6) (s + 11) 0 (t + 11) 0 6) (s + 12) 0 (t + 12) 0 36) (s + 13) 0 (t + 13) 0 36) (s + 14) 0 (t + 14) 0 36) (s + 15) 0 (t + 15) 0 36) (s + 16) 0 (t + 16) 0 36) hs ht hst (fun b h0 h1 => by
      simp (disch := omega) only [ev_cp_ne, ev_up_ne]
      exact hc b h0 h1) 6 0 (by omega) (by omega)
    rw [ev_cp_0] at e
    rw [mm_17]
    repeat' (first | (simp (disch := first | assumption | exact Nat.le_of_ble_eq_true rfl | omega) only [bk_17_0, eo_1_0, eo_1_1, g1_27, g1_30, g1_28_1, eo_6, g1_28_2, g1_28_3, g1_28_5, g1_28_6, g1_28_7, g1_28_8, g1_28_9, g1_28_10, eo_3_2n, eo_3_2i, eo_3_2r, eo_53, eo_0_2, g1_28_4, eo_23_2n, eo_23_2i, eo_23_2r, eo_52, bk_17_2, eo_58, cp_s7, cp_s8, cp_s9, cp_s11, cp_s12, cp_s13, cp_s14, cp_s15, cp_s16, a34_s10, a35_s10, Int.add_zero, Int.add_sub_cancel, Int.reduceAdd, Int.reduceMul, Int.reduceSub, Int.reduceNeg, ev_wr_id]) | ((first | with_reducible refine br_40 ?_ ?_ | with_reducible refine br_41 ?_ ?_ | with_reducible refine br_42 ?_ ?_ | with_reducible refine br_43 ?_ ?_ | with_reducible refine br_44 ?_ ?_ | with_reducible refine br_45 ?_ ?_ | with_reducible refine br_46 ?_ ?_ | with_reducible refine br_47 ?_ ?_ | with_reducible refine br_48 ?_ ?_ | with_reducible refine br_49 ?_ ?_ | with_reducible refine br_50 ?_ ?_ | with_reducible refine br_51 ?_ ?_) <;> intro h <;> try simp (disch := first | assumption | exact Nat.le_of_ble_eq_true rfl | omega) only [ev_wr_id, not_true_eq_false, not_false_eq_true, Int.reduceEq, Int.reduceLT, Int.reduceLE, and_self, and_true, true_and, and_false, false_and, reduceIte] at h <;> try (exfalso; omega; done)))
    exact e
  · simp (disch := omega) only [ev_cp_ne, ev_up_eq]
  · intro y h0 h1
    simp (disch := omega) only [ev_cp_ne, ev_cp_eq, ev_up_ne, and_self]
  · intro y h0 h1
    simp (disch := omega) only [ev_cp_ne, ev_cp_eq, ev_up_ne, and_self]
  · intro i hi
    funext y
    simp (disch := omega) only [ev_cp_ne, ev_up_ne]
/-- state t of σ1 is state s of σ; else nothing but t has changed -/
def st_C (σ : ev_M) (s t : Int) (σ1 : ev_M) : Prop := (∀ k, 0 ≤ k → k < 338 → st_T σ1 t k = st_T σ s k) ∧ ∀ i, (i < t ∨ t + 22 < i) → σ1 i = σ i
theorem st_C_of {σ σ1 : ev_M} {s t : Int} (h0 : ∀ y, 3 ≤ y → y < 7 → σ1 t y = σ s y) (h1 : ∀ y, 0 ≤ y → y < 2 → σ1 (t + 1) y = σ (s + 1) y) (h2 : ∀ y, 0 ≤ y → y < 20 → σ1 (t + 2) y = σ (s + 2) y ∧ σ1 (t + 3) y = σ (s + 3) y ∧ σ1 (t + 4) y = σ (s + 4) y ∧ σ1 (t + 5) y = σ (s + 5) y) (h6 : σ1 (t + 6) 0 = σ (s + 6) 0) (h7 : ∀ y, 0 ≤ y → y < 6 → σ1 (t + 7) y = σ (s + 7) y ∧ σ1 (t + 8) y = σ (s + 8) y ∧ σ1 (t + 9) y = σ (s + 9) y ∧ σ1 (t + 10) y = σ (s + 10) y ∧ σ1 (t + 11) y = σ (s + 11) y) (h12 : ∀ y, 0 ≤ y → y < 36 → σ1 (t + 12) y = σ (s + 12) y ∧ σ1 (t + 13) y = σ (s + 13) y ∧ σ1 (t + 14) y = σ (s + 14) y ∧ σ1 (t + 15) y = σ (s + 15) y ∧ σ1 (t + 16) y = σ (s + 16) y) (h17 : ∀ y, 0 ≤ y → y < 2 → σ1 (t + 17) y = σ (s + 17) y) (h18 : ∀ y, 0 ≤ y → y < 8 → σ1 (t + 18) y = σ (s + 18) y ∧ σ1 (t + 19) y = σ (s + 19) y ∧ σ1 (t + 20) y = σ (s + 20) y) (h21 : ∀ y, 0 ≤ y → y < 3 → σ1 (t + 21) y = σ (s + 21) y) (h22 : ∀ y, 0 ≤ y → y < 12 → σ1 (t + 22) y = σ (s + 22) y) : ∀ k, 0 ≤ k → k < 338 → st_T σ1 t k = st_T σ s k := by
  intro k hk0 hk1
  have key : ∀ o i : Int, ev_ao k = o → ev_ax k = i → σ1 (t + o) i = σ (s + o) i → st_T σ1 t k = st_T σ s k := by
    intro o i e1 e2 e3
    unfold st_T
    rw [e1, e2]
    exact e3
  by_cases c1 : k < 9
  · rcases (show k = 0 ∨ k = 1 ∨ k = 2 ∨ k = 3 ∨ k = 4 ∨ k = 5 ∨ k = 6 ∨ k = 7 ∨ k = 8 by omega) with rfl | rfl | rfl | rfl | rfl | rfl | rfl | rfl | rfl
    · exact key 1 0 rfl rfl (h1 0 (by omega) (by omega))
    · exact key 1 1 rfl rfl (h1 1 (by omega) (by omega))
    · exact key 6 0 rfl rfl h6
    · exact key 17 0 rfl rfl (h17 0 (by omega) (by omega))
    · exact key 17 1 rfl rfl (h17 1 (by omega) (by omega))
    · exact key 0 3 rfl rfl (by rw [Int.add_zero, Int.add_zero]; exact h0 3 (by omega) (by omega))
    · exact key 0 4 rfl rfl (by rw [Int.add_zero, Int.add_zero]; exact h0 4 (by omega) (by omega))
    · exact key 0 5 rfl rfl (by rw [Int.add_zero, Int.add_zero]; exact h0 5 (by omega) (by omega))
    · exact key 0 6 rfl rfl (by rw [Int.add_zero, Int.add_zero]; exact h0 6 (by omega) (by omega))
  · by_cases c2 : k < 89
    · obtain ⟨r, q, hr0, hr1, hq, e⟩ : ∃ r q : Int, 0 ≤ r ∧ r < 20 ∧ (q = 0 ∨ q = 1 ∨ q = 2 ∨ q = 3) ∧ k = 9 + 4 * r + q := ⟨(k - 9) / 4, (k - 9) % 4, by omega, by omega, by omega, by omega⟩
      have h := h2 r hr0 hr1
      rcases hq with rfl | rfl | rfl | rfl
      · have z := (ky_2 ⟨hr0, hr1⟩ ⟨hk0, hk1⟩).mpr (by omega)
        exact key 2 r z.1 z.2 h.1
      · have z := (ky_3 ⟨hr0, hr1⟩ ⟨hk0, hk1⟩).mpr (by omega)
        exact key 3 r z.1 z.2 h.2.1
      · have z := (ky_4 ⟨hr0, hr1⟩ ⟨hk0, hk1⟩).mpr (by omega)
        exact key 4 r z.1 z.2 h.2.2.1
      · have z := (ky_5 ⟨hr0, hr1⟩ ⟨hk0, hk1⟩).mpr (by omega)
        exact key 5 r z.1 z.2 h.2.2.2
    · by_cases c3 : k < 119
      · obtain ⟨r, q, hr0, hr1, hq, e⟩ : ∃ r q : Int, 0 ≤ r ∧ r < 6 ∧ (q = 0 ∨ q = 1 ∨ q = 2 ∨ q = 3 ∨ q = 4) ∧ k = 89 + 5 * r + q := ⟨(k - 89) / 5, (k - 89) % 5, by omega, by omega, by omega, by omega⟩
        have h := h7 r hr0 hr1
        rcases hq with rfl | rfl | rfl | rfl | rfl
        · have z := (ky_7 ⟨hr0, hr1⟩ ⟨hk0, hk1⟩).mpr (by omega)
          exact key 7 r z.1 z.2 h.1
        · have z := (ky_11 ⟨hr0, hr1⟩ ⟨hk0, hk1⟩).mpr (by omega)
          exact key 11 r z.1 z.2 h.2.2.2.2
        · have z := (ky_8 ⟨hr0, hr1⟩ ⟨hk0, hk1⟩).mpr (by omega)
          exact key 8 r z.1 z.2 h.2.1
        · have z := (ky_9 ⟨hr0, hr1⟩ ⟨hk0, hk1⟩).mpr (by omega)
          exact key 9 r z.1 z.2 h.2.2.1
        · have z := (ky_10 ⟨hr0, hr1⟩ ⟨hk0, hk1⟩).mpr (by omega)
          exact key 10 r z.1 z.2 h.2.2.2.1
      · by_cases c4 : k < 299
        · obtain ⟨b, c, q, hr0, hr1, hc0, hc1, hq, e⟩ : ∃ b c q : Int, 0 ≤ b ∧ b < 6 ∧ 0 ≤ c ∧ c < 6 ∧ (q = 0 ∨ q = 1 ∨ q = 2 ∨ q = 3 ∨ q = 4) ∧ k = 119 + 30 * b + 5 * c + q := ⟨(k - 119) / 30, (k - 119) % 30 / 5, (k - 119) % 5, by omega, by omega, by omega, by omega, by omega, by omega⟩
          have h := h12 (b * 6 + c) (by omega) (by omega)
          rcases hq with rfl | rfl | rfl | rfl | rfl
          · have z := (ky_12 ⟨hr0, hr1⟩ ⟨hc0, hc1⟩ ⟨hk0, hk1⟩).mpr (by omega)
            exact key 12 _ z.1 z.2 h.1
          · have z := (ky_13 ⟨hr0, hr1⟩ ⟨hc0, hc1⟩ ⟨hk0, hk1⟩).mpr (by omega)
            exact key 13 _ z.1 z.2 h.2.1
          · have z := (ky_14 ⟨hr0, hr1⟩ ⟨hc0, hc1⟩ ⟨hk0, hk1⟩).mpr (by omega)
            exact key 14 _ z.1 z.2 h.2.2.1
          · have z := (ky_15 ⟨hr0, hr1⟩ ⟨hc0, hc1⟩ ⟨hk0, hk1⟩).mpr (by omega)
            exact key 15 _ z.1 z.2 h.2.2.2.1
          · have z := (ky_16 ⟨hr0, hr1⟩ ⟨hc0, hc1⟩ ⟨hk0, hk1⟩).mpr (by omega)
            exact key 16 _ z.1 z.2 h.2.2.2.2
        · by_cases c5 : k < 323
          · obtain ⟨r, q, hr0, hr1, hq, e⟩ : ∃ r q : Int, 0 ≤ r ∧ r < 8 ∧ (q = 0 ∨ q = 1 ∨ q = 2) ∧ k = 299 + 3 * r + q := ⟨(k - 299) / 3, (k - 299) % 3, by omega, by omega, by omega, by omega⟩
            have h := h18 r hr0 hr1
            rcases hq with rfl | rfl | rfl
            · have z := (ky_18 ⟨hr0, hr1⟩ ⟨hk0, hk1⟩).mpr (by omega)
              exact key 18 r z.1 z.2 h.1
            · have z := (ky_19 ⟨hr0, hr1⟩ ⟨hk0, hk1⟩).mpr (by omega)
              exact key 19 r z.1 z.2 h.2.1
            · have z := (ky_20 ⟨hr0, hr1⟩ ⟨hk0, hk1⟩).mpr (by omega)
              exact key 20 r z.1 z.2 h.2.2
          · by_cases c6 : (k - 323) % 5 = 0
            · have z := (ky_21 (b := (k - 323) / 5) (by omega) ⟨hk0, hk1⟩).mpr (by omega)
              exact key 21 _ z.1 z.2 (h21 _ (by omega) (by omega))
            · have z := (ky_22 (b := (k - 323) / 5) (q := (k - 323) % 5 - 1) (by omega) (by omega) ⟨hk0, hk1⟩).mpr (by omega)
              exact key 22 _ z.1 z.2 (h22 _ (by omega) (by omega))
theorem c_56 {s t : Int} {σ : ev_M} (hs : ev_S s) (ht : ev_S t) (hst : s ≠ t) (hc : ∀ b, 0 ≤ b → b < 6 → 0 ≤ σ (s + 10) b ∧ σ (s + 10) b ≤ 1) : ∃ σ1, EM 56 [.inr (.inl t), .inr (.inl s)] σ = some (none, σ1) ∧ st_C σ s t σ1 := by
  have hs2 := hs
  have ht2 := ht
  unfold ev_S at hs2 ht2
  have e47 := c_47 (σ := σ) hs ht
  generalize hA : ev_cp (ev_cp (ev_cp (ev_cp (ev_up (ev_up σ (t + 1) 0 (σ (s + 1) 0)) (t + 1) 1 (σ (s + 1) 1)) (s + 2) 0 (t + 2) 0 20) (s + 3) 0 (t + 3) 0 20) (s + 4) 0 (t + 4) 0 20) (s + 5) 0 (t + 5) 0 20 = σA at e47
  have a1 : ∀ y, 0 ≤ y → y < 2 → σA (t + 1) y = σ (s + 1) y := by
    intro y h0 h1
    subst hA
    rcases (show y = 0 ∨ y = 1 by omega) with rfl | rfl <;> simp (disch := omega) only [ev_cp_ne, ev_up_ne, ev_up_eq]
  have a2 : ∀ y, 0 ≤ y → y < 20 → σA (t + 2) y = σ (s + 2) y ∧ σA (t + 3) y = σ (s + 3) y ∧ σA (t + 4) y = σ (s + 4) y ∧ σA (t + 5) y = σ (s + 5) y := by
    intro y h0 h1
    subst hA
    simp (disch := omega) only [ev_cp_ne, ev_cp_eq, ev_up_ne, and_self]
  have aF : ∀ i, (i < t + 1 ∨ t + 5 < i) → σA i = σ i := by
    intro i hi
    subst hA
    funext y
    simp (disch := omega) only [ev_cp_ne, ev_up_ne]
  obtain ⟨σB, e17, b6, b7, b12, bF⟩ := c_17 (σ := σA) hs ht hst (fun b h0 h1 => by rw [aF _ (by omega)]; exact hc b h0 h1)
  have e33 := c_33 (σ := σB) hs ht
  generalize hC : ev_cp (ev_cp (ev_cp (ev_cp (ev_cp (ev_up (ev_up σB (t + 17) 0 (σB (s + 17) 0)) (t + 17) 1 (σB (s + 17) 1)) (s + 18) 0 (t + 18) 0 8) (s + 19) 0 (t + 19) 0 8) (s + 20) 0 (t + 20) 0 8) (s + 21) 0 (t + 21) 0 3) (s + 22) 0 (t + 22) 0 12 = σC at e33
  have bS : ∀ o, 0 ≤ o → o ≤ 22 → σB (s + o) = σ (s + o) := fun o h0 h1 => by rw [bF _ (by omega), aF _ (by omega)]
  have bS0 : σB s = σ s := by have := bS 0 (by omega) (by omega); rwa [Int.add_zero] at this
  have d17 : ∀ y, 0 ≤ y → y < 2 → σC (t + 17) y = σ (s + 17) y := by
    intro y h0 h1
    rw [← bS 17 (by omega) (by omega)]
    subst hC
    rcases (show y = 0 ∨ y = 1 by omega) with rfl | rfl <;> simp (disch := omega) only [ev_cp_ne, ev_up_ne, ev_up_eq]
  have d18 : ∀ y, 0 ≤ y → y < 8 → σC (t + 18) y = σ (s + 18) y ∧ σC (t + 19) y = σ (s + 19) y ∧ σC (t + 20) y = σ (s + 20) y := by
    intro y h0 h1
    rw [← bS 18 (by omega) (by omega), ← bS 19 (by omega) (by omega), ← bS 20 (by omega) (by omega)]
    subst hC
    simp (disch := omega) only [ev_cp_ne, ev_cp_eq, ev_up_ne, and_self]
  have d21 : ∀ y, 0 ≤ y → y < 3 → σC (t + 21) y = σ (s + 21) y := by
    intro y h0 h1
    rw [← bS 21 (by omega) (by omega)]
    subst hC
    simp (disch := omega) only [ev_cp_ne, ev_cp_eq, ev_up_ne]
  have d22 : ∀ y, 0 ≤ y → y < 12 → σC (t + 22) y = σ (s + 22) y := by
    intro y h0 h1
    rw [← bS 22 (by omega) (by omega)]
    subst hC
    simp (disch := omega) only [ev_cp_ne, ev_cp_eq, ev_up_ne]
  have dF : ∀ i, (i < t + 17 ∨ t + 22 < i) → σC i = σB i := by
    intro i hi
    subst hC
    funext y
    simp (disch := omega) only [ev_cp_ne, ev_up_ne]
  have cS : σC s = σ s := by rw [dF _ (by omega), bS0]
  refine ⟨ev_up (ev_up (ev_up (ev_up σC t 3 (σC s 3)) t 4 (σC s 4)) t 5 (σC s 5)) t 6 (σC s 6), ?_, ?_, ?_⟩
  · rw [mm_56]
    repeat' (first | (simp (disch := first | assumption | exact Nat.le_of_ble_eq_true rfl | omega) only [bk_56_0, eo_1_0, g7_28_0, eo_1_1, v6_2, ev_ki, ev_kv, g7_28_1, v1_2, g7_28_2, v4_2, g7_27, g7_30, eo_58, e47, e17, e33, ev_up_ne, Int.add_zero, Int.add_sub_cancel, Int.reduceAdd, Int.reduceMul, Int.reduceSub, Int.reduceNeg, ev_wr_id]) | ((first | with_reducible refine br_40 ?_ ?_ | with_reducible refine br_41 ?_ ?_ | with_reducible refine br_42 ?_ ?_ | with_reducible refine br_43 ?_ ?_ | with_reducible refine br_44 ?_ ?_ | with_reducible refine br_45 ?_ ?_ | with_reducible refine br_46 ?_ ?_ | with_reducible refine br_47 ?_ ?_ | with_reducible refine br_48 ?_ ?_ | with_reducible refine br_49 ?_ ?_ | with_reducible refine br_50 ?_ ?_ | with_reducible refine br_51 ?_ ?_) <;> intro h <;> try simp (disch := first | assumption | exact Nat.le_of_ble_eq_true rfl | omega) only [ev_wr_id, not_true_eq_false, not_false_eq_true, Int.reduceEq, Int.reduceLT, Int.reduceLE, and_self, and_true, true_and, and_false, false_and, reduceIte] at h <;> try (exfalso; omega; done)))
  · refine st_C_of ?_ ?_ ?_ ?_ ?_ ?_ ?_ ?_ ?_ ?_
    · intro y h0 h1
      rw [cS]
      rcases (show y = 3 ∨ y = 4 ∨ y = 5 ∨ y = 6 by omega) with rfl | rfl | rfl | rfl <;> simp (disch := omega) only [ev_up_ne, ev_up_eq]
    · intro y h0 h1
      simp (disch := omega) only [ev_up_ne]
      rw [dF _ (by omega), bF _ (by omega)]
      exact a1 y h0 h1
    · intro y h0 h1
      simp (disch := omega) only [ev_up_ne]
      rw [dF _ (by omega), bF _ (by omega), dF _ (by omega), bF _ (by omega), dF _ (by omega), bF _ (by omega), dF _ (by omega), bF _ (by omega)]
      exact a2 y h0 h1
    · simp (disch := omega) only [ev_up_ne]
      rw [dF _ (by omega), b6, aF _ (by omega)]
    · intro y h0 h1
      simp (disch := omega) only [ev_up_ne]
      have z := b7 y h0 h1
      rw [aF _ (by omega), aF _ (by omega), aF _ (by omega), aF _ (by omega), aF _ (by omega)] at z
      rw [dF _ (by omega), dF _ (by omega), dF _ (by omega), dF _ (by omega), dF _ (by omega)]
      exact z
    · intro y h0 h1
      simp (disch := omega) only [ev_up_ne]
      have z := b12 y h0 h1
      rw [aF _ (by omega), aF _ (by omega), aF _ (by omega), aF _ (by omega), aF _ (by omega)] at z
      rw [dF _ (by omega), dF _ (by omega), dF _ (by omega), dF _ (by omega), dF _ (by omega)]
      exact z
    · intro y h0 h1
      simp (disch := omega) only [ev_up_ne]
      exact d17 y h0 h1
    · intro y h0 h1
      simp (disch := omega) only [ev_up_ne]
      exact d18 y h0 h1
    · intro y h0 h1
      simp (disch := omega) only [ev_up_ne]
      exact d21 y h0 h1
    · intro y h0 h1
      simp (disch := omega) only [ev_up_ne]
      exact d22 y h0 h1
  · intro i hi
    funext y
    simp (disch := omega) only [ev_up_ne]
    rw [dF _ (by omega), bF _ (by omega), aF _ (by omega)]

