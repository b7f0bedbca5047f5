/-! the digest on both sides -/
def st_nt (h : Int64) (x : Int) : Int64 := Int64.ofInt 31 * h + Int64.ofInt (ev_wr x)
def st_fo (F : Int → Int64 → Int64) : Nat → Int → Int64 → Int64
  | 0, _, h => h
  | k + 1, i, h => st_fo F k (i + 1) (F i h)
theorem st_fo_s {F : Int → Int64 → Int64} {k : Nat} {i : Int} {h g : Int64} (e : F i h = g) : st_fo F (k + 1) i h = st_fo F k (i + 1) g := by
  subst e
  rfl
def st_h1 (T : Int → Int) (q : Int) (h : Int64) : Int64 := st_nt h (st_cnt T q)
def st_h2 (T : Int → Int) (r q : Int) (h : Int64) : Int64 := st_nt h (T (9 + 4 * r + q))
def st_h3 (T : Int → Int) (b q : Int) (h : Int64) : Int64 := st_nt h (st_vb T b q)
def st_h4 (T : Int → Int) (b c q : Int) (h : Int64) : Int64 := st_nt h (st_vc T b c q)
noncomputable def st_h5 (T : Int → Int) (i q : Int) (h : Int64) : Int64 := st_nt h (st_vl T i q)
noncomputable def st_h6 (T : Int → Int) (b q : Int) (h : Int64) : Int64 := st_nt h (st_vd T b q)
def st_r2 (T : Int → Int) (r : Int) (h : Int64) : Int64 := st_fo (st_h2 T r) 4 0 h
def st_r4 (T : Int → Int) (b c : Int) (h : Int64) : Int64 := st_fo (st_h4 T b c) 6 0 h
def st_r3 (T : Int → Int) (b : Int) (h : Int64) : Int64 := st_fo (st_r4 T b) (T (89 + 5 * b + 1)).toNat 0 (st_fo (st_h3 T b) 9 0 h)
noncomputable def st_r5 (T : Int → Int) (i : Int) (h : Int64) : Int64 := st_fo (st_h5 T i) 4 0 h
noncomputable def st_r6 (T : Int → Int) (b : Int) (h : Int64) : Int64 := st_fo (st_h6 T b) 7 0 h
noncomputable def st_dig (T : Int → Int) : Int64 := st_fo (st_r6 T) (T 4).toNat 0 (st_fo (st_r5 T) (T 3).toNat 0 (st_fo (st_r3 T) (T 2).toNat 0 (st_fo (st_r2 T) (T 1).toNat 0 (st_fo (st_h1 T) 11 0 (Int64.ofInt 17)))))
/-! the class -/
theorem l_102a {T : Int → Int} {p4 : Option ev_V} : ∀ (k : Nat) (i : Int) (h : Int64) (σ : ev_M), 0 ≤ i → i + k = 11 → st_G1 T σ → ∃ σ1, EB 102 1 [some (.inr (.inl 161)), some (.inr (.inr h)), none, some (.inl (i)), p4] [] σ = EB 102 2 [some (.inr (.inl 161)), some (.inr (.inr (st_fo (st_h1 T) k i h))), none, some (.inl (11)), p4] [] σ1 ∧ st_N σ σ1 ∧ st_G1 T σ1 := by
  intro k
  induction k with
  | zero =>
    intro i h σ h0 h1 hG
    obtain rfl : i = 11 := by omega
    refine ⟨σ, ?_, st_N_r, hG⟩
    rw [show st_fo (st_h1 T) 0 11 h = h from rfl]
    clear hG
    rw [bk_102_1]
    repeat' (first | (simp (disch := first | assumption | exact Nat.le_of_ble_eq_true rfl | omega) only [bk_102_0, eo_8, eo_5, eo_6, eo_3_3n, eo_3_3i, eo_3_3r, eo_53, eo_0_3, eo_2_1, eo_21, eo_1_0, v10_2, ev_ki, ev_kv, eo_22, eo_20, eo_23_3n, eo_23_3i, eo_23_3r, eo_52, g10_28_0, g7_28_0, g6_27, eo_3_4n, eo_3_4i, eo_3_4r, eo_0_4, v10_3, eo_23_4n, eo_23_4i, eo_23_4r, bk_102_5, bk_102_6, g7_28_1, g1_27, bk_102_8, g7_28_2, g4_27, bk_102_11, bk_102_12, bk_102_15, bk_102_16, eo_57, Int.add_zero, Int.add_sub_cancel, Int.reduceAdd, Int.reduceMul, Int.reduceSub, Int.reduceNeg, ev_wr_id]) | ((first | with_reducible refine br_40 ?_ ?_ | with_reducible refine br_41 ?_ ?_ | with_reducible refine br_42 ?_ ?_ | with_reducible refine br_43 ?_ ?_ | with_reducible refine br_44 ?_ ?_ | with_reducible refine br_45 ?_ ?_ | with_reducible refine br_46 ?_ ?_ | with_reducible refine br_47 ?_ ?_ | with_reducible refine br_48 ?_ ?_ | with_reducible refine br_49 ?_ ?_ | with_reducible refine br_50 ?_ ?_ | with_reducible refine br_51 ?_ ?_) <;> intro h <;> try simp (disch := first | assumption | exact Nat.le_of_ble_eq_true rfl | omega) only [ev_wr_id, not_true_eq_false, not_false_eq_true, Int.reduceEq, Int.reduceLT, Int.reduceLE, and_self, and_true, true_and, and_false, false_and, reduceIte] at h <;> try (exfalso; omega; done)))
  | succ k ih =>
    intro i h σ h0 h1 hG
    obtain ⟨σ1, e, n1, g1⟩ := d_75 (q := i) hG (by omega)
    obtain ⟨σ2, e2, n2, g2⟩ := ih (i + 1) (Int64.ofInt 31 * h + Int64.ofInt (ev_wr (st_cnt T i))) σ1 (by omega) (by omega) g1
    refine ⟨σ2, ?_, st_N_t n1 n2, g2⟩
    have hi9 : i ≤ 10 := by omega
    rw [st_fo_s (F := st_h1 T) (k := k) (i := i) (h := h) rfl]
    refine Eq.trans ?_ e2
    clear e2 ih hG g1 g2 n1 n2 h1
    rw [bk_102_1]
    repeat' (first | (simp (disch := first | assumption | exact Nat.le_of_ble_eq_true rfl | omega) only [bk_102_0, eo_8, eo_5, eo_6, eo_3_3n, eo_3_3i, eo_3_3r, eo_53, eo_0_3, eo_2_1, eo_21, eo_1_0, v10_2, ev_ki, ev_kv, eo_22, eo_20, eo_23_3n, eo_23_3i, eo_23_3r, eo_52, g10_28_0, g7_28_0, g6_27, eo_3_4n, eo_3_4i, eo_3_4r, eo_0_4, v10_3, eo_23_4n, eo_23_4i, eo_23_4r, bk_102_5, bk_102_6, g7_28_1, g1_27, bk_102_8, g7_28_2, g4_27, bk_102_11, bk_102_12, bk_102_15, bk_102_16, eo_57, e, Int.add_zero, Int.add_sub_cancel, Int.reduceAdd, Int.reduceMul, Int.reduceSub, Int.reduceNeg, ev_wr_id]) | ((first | with_reducible refine br_40 ?_ ?_ | with_reducible refine br_41 ?_ ?_ | with_reducible refine br_42 ?_ ?_ | with_reducible refine br_43 ?_ ?_ | with_reducible refine br_44 ?_ ?_ | with_reducible refine br_45 ?_ ?_ | with_reducible refine br_46 ?_ ?_ | with_reducible refine br_47 ?_ ?_ | with_reducible refine br_48 ?_ ?_ | with_reducible refine br_49 ?_ ?_ | with_reducible refine br_50 ?_ ?_ | with_reducible refine br_51 ?_ ?_) <;> intro h <;> try simp (disch := first | assumption | exact Nat.le_of_ble_eq_true rfl | omega) only [ev_wr_id, not_true_eq_false, not_false_eq_true, Int.reduceEq, Int.reduceLT, Int.reduceLE, and_self, and_true, true_and, and_false, false_and, reduceIte] at h <;> try (exfalso; omega; done)))
theorem l_102b {T : Int → Int} {r : Int} (hr : 0 ≤ r ∧ r < T 1) : ∀ (k : Nat) (i : Int) (h : Int64) (σ : ev_M), 0 ≤ i → i + k = 4 → st_G1 T σ → ∃ σ1, EB 102 4 [some (.inr (.inl 161)), some (.inr (.inr h)), none, some (.inl r), some (.inl (i))] [] σ = EB 102 5 [some (.inr (.inl 161)), some (.inr (.inr (st_fo (st_h2 T r) k i h))), none, some (.inl r), some (.inl (4))] [] σ1 ∧ st_N σ σ1 ∧ st_G1 T σ1 := by
  intro k
  induction k with
  | zero =>
    intro i h σ h0 h1 hG
    obtain rfl : i = 4 := by omega
    refine ⟨σ, ?_, st_N_r, hG⟩
    rw [show st_fo (st_h2 T r) 0 4 h = h from rfl]
    clear hG
    rw [bk_102_4]
    repeat' (first | (simp (disch := first | assumption | exact Nat.le_of_ble_eq_true rfl | omega) only [bk_102_0, eo_8, eo_5, eo_6, eo_3_3n, eo_3_3i, eo_3_3r, eo_53, eo_0_3, eo_2_1, eo_21, eo_1_0, v10_2, ev_ki, ev_kv, eo_22, eo_20, eo_23_3n, eo_23_3i, eo_23_3r, eo_52, bk_102_2, g10_28_0, g7_28_0, g6_27, eo_3_4n, eo_3_4i, eo_3_4r, eo_0_4, v10_3, eo_23_4n, eo_23_4i, eo_23_4r, bk_102_6, g7_28_1, g1_27, bk_102_8, g7_28_2, g4_27, bk_102_11, bk_102_12, bk_102_15, bk_102_16, eo_57, Int.add_zero, Int.add_sub_cancel, Int.reduceAdd, Int.reduceMul, Int.reduceSub, Int.reduceNeg, ev_wr_id]) | ((first | with_reducible refine br_40 ?_ ?_ | with_reducible refine br_41 ?_ ?_ | with_reducible refine br_42 ?_ ?_ | with_reducible refine br_43 ?_ ?_ | with_reducible refine br_44 ?_ ?_ | with_reducible refine br_45 ?_ ?_ | with_reducible refine br_46 ?_ ?_ | with_reducible refine br_47 ?_ ?_ | with_reducible refine br_48 ?_ ?_ | with_reducible refine br_49 ?_ ?_ | with_reducible refine br_50 ?_ ?_ | with_reducible refine br_51 ?_ ?_) <;> intro h <;> try simp (disch := first | assumption | exact Nat.le_of_ble_eq_true rfl | omega) only [ev_wr_id, not_true_eq_false, not_false_eq_true, Int.reduceEq, Int.reduceLT, Int.reduceLE, and_self, and_true, true_and, and_false, false_and, reduceIte] at h <;> try (exfalso; omega; done)))
  | succ k ih =>
    intro i h σ h0 h1 hG
    obtain ⟨σ1, e, n1, g1⟩ := d_76 (r := r) (q := i) hG hr (by omega)
    obtain ⟨σ2, e2, n2, g2⟩ := ih (i + 1) (Int64.ofInt 31 * h + Int64.ofInt (ev_wr (T (9 + 4 * r + i)))) σ1 (by omega) (by omega) g1
    refine ⟨σ2, ?_, st_N_t n1 n2, g2⟩
    have hi9 : i ≤ 3 := by omega
    rw [st_fo_s (F := st_h2 T r) (k := k) (i := i) (h := h) rfl]
    refine Eq.trans ?_ e2
    clear e2 ih hG g1 g2 n1 n2 h1
    rw [bk_102_4]
    repeat' (first | (simp (disch := first | assumption | exact Nat.le_of_ble_eq_true rfl | omega) only [bk_102_0, eo_8, eo_5, eo_6, eo_3_3n, eo_3_3i, eo_3_3r, eo_53, eo_0_3, eo_2_1, eo_21, eo_1_0, v10_2, ev_ki, ev_kv, eo_22, eo_20, eo_23_3n, eo_23_3i, eo_23_3r, eo_52, bk_102_2, g10_28_0, g7_28_0, g6_27, eo_3_4n, eo_3_4i, eo_3_4r, eo_0_4, v10_3, eo_23_4n, eo_23_4i, eo_23_4r, bk_102_6, g7_28_1, g1_27, bk_102_8, g7_28_2, g4_27, bk_102_11, bk_102_12, bk_102_15, bk_102_16, eo_57, e, Int.add_zero, Int.add_sub_cancel, Int.reduceAdd, Int.reduceMul, Int.reduceSub, Int.reduceNeg, ev_wr_id]) | ((first | with_reducible refine br_40 ?_ ?_ | with_reducible refine br_41 ?_ ?_ | with_reducible refine br_42 ?_ ?_ | with_reducible refine br_43 ?_ ?_ | with_reducible refine br_44 ?_ ?_ | with_reducible refine br_45 ?_ ?_ | with_reducible refine br_46 ?_ ?_ | with_reducible refine br_47 ?_ ?_ | with_reducible refine br_48 ?_ ?_ | with_reducible refine br_49 ?_ ?_ | with_reducible refine br_50 ?_ ?_ | with_reducible refine br_51 ?_ ?_) <;> intro h <;> try simp (disch := first | assumption | exact Nat.le_of_ble_eq_true rfl | omega) only [ev_wr_id, not_true_eq_false, not_false_eq_true, Int.reduceEq, Int.reduceLT, Int.reduceLE, and_self, and_true, true_and, and_false, false_and, reduceIte] at h <;> try (exfalso; omega; done)))
theorem l_102e {T : Int → Int} {r : Int} (hr : 0 ≤ r ∧ r < T 3) : ∀ (k : Nat) (i : Int) (h : Int64) (σ : ev_M), 0 ≤ i → i + k = 4 → st_G1 T σ → ∃ σ1, EB 102 10 [some (.inr (.inl 161)), some (.inr (.inr h)), none, some (.inl r), some (.inl (i))] [] σ = EB 102 11 [some (.inr (.inl 161)), some (.inr (.inr (st_fo (st_h5 T r) k i h))), none, some (.inl r), some (.inl (4))] [] σ1 ∧ st_N σ σ1 ∧ st_G1 T σ1 := by
  intro k
  induction k with
  | zero =>
    intro i h σ h0 h1 hG
    obtain rfl : i = 4 := by omega
    refine ⟨σ, ?_, st_N_r, hG⟩
    rw [show st_fo (st_h5 T r) 0 4 h = h from rfl]
    clear hG
    rw [bk_102_10]
    repeat' (first | (simp (disch := first | assumption | exact Nat.le_of_ble_eq_true rfl | omega) only [bk_102_0, eo_8, eo_5, eo_6, eo_3_3n, eo_3_3i, eo_3_3r, eo_53, eo_0_3, eo_2_1, eo_21, eo_1_0, v10_2, ev_ki, ev_kv, eo_22, eo_20, eo_23_3n, eo_23_3i, eo_23_3r, eo_52, bk_102_2, g10_28_0, g7_28_0, g6_27, eo_3_4n, eo_3_4i, eo_3_4r, eo_0_4, v10_3, eo_23_4n, eo_23_4i, eo_23_4r, bk_102_5, bk_102_6, g7_28_1, g1_27, bk_102_8, g7_28_2, g4_27, bk_102_12, bk_102_15, bk_102_16, eo_57, Int.add_zero, Int.add_sub_cancel, Int.reduceAdd, Int.reduceMul, Int.reduceSub, Int.reduceNeg, ev_wr_id]) | ((first | with_reducible refine br_40 ?_ ?_ | with_reducible refine br_41 ?_ ?_ | with_reducible refine br_42 ?_ ?_ | with_reducible refine br_43 ?_ ?_ | with_reducible refine br_44 ?_ ?_ | with_reducible refine br_45 ?_ ?_ | with_reducible refine br_46 ?_ ?_ | with_reducible refine br_47 ?_ ?_ | with_reducible refine br_48 ?_ ?_ | with_reducible refine br_49 ?_ ?_ | with_reducible refine br_50 ?_ ?_ | with_reducible refine br_51 ?_ ?_) <;> intro h <;> try simp (disch := first | assumption | exact Nat.le_of_ble_eq_true rfl | omega) only [ev_wr_id, not_true_eq_false, not_false_eq_true, Int.reduceEq, Int.reduceLT, Int.reduceLE, and_self, and_true, true_and, and_false, false_and, reduceIte] at h <;> try (exfalso; omega; done)))
  | succ k ih =>
    intro i h σ h0 h1 hG
    obtain ⟨σ1, e, n1, g1⟩ := d_92 (i := r) (q := i) hG hr (by omega)
    obtain ⟨σ2, e2, n2, g2⟩ := ih (i + 1) (Int64.ofInt 31 * h + Int64.ofInt (ev_wr (st_vl T r i))) σ1 (by omega) (by omega) g1
    refine ⟨σ2, ?_, st_N_t n1 n2, g2⟩
    have hi9 : i ≤ 3 := by omega
    rw [st_fo_s (F := st_h5 T r) (k := k) (i := i) (h := h) rfl]
    refine Eq.trans ?_ e2
    clear e2 ih hG g1 g2 n1 n2 h1
    rw [bk_102_10]
    repeat' (first | (simp (disch := first | assumption | exact Nat.le_of_ble_eq_true rfl | omega) only [bk_102_0, eo_8, eo_5, eo_6, eo_3_3n, eo_3_3i, eo_3_3r, eo_53, eo_0_3, eo_2_1, eo_21, eo_1_0, v10_2, ev_ki, ev_kv, eo_22, eo_20, eo_23_3n, eo_23_3i, eo_23_3r, eo_52, bk_102_2, g10_28_0, g7_28_0, g6_27, eo_3_4n, eo_3_4i, eo_3_4r, eo_0_4, v10_3, eo_23_4n, eo_23_4i, eo_23_4r, bk_102_5, bk_102_6, g7_28_1, g1_27, bk_102_8, g7_28_2, g4_27, bk_102_12, bk_102_15, bk_102_16, eo_57, e, Int.add_zero, Int.add_sub_cancel, Int.reduceAdd, Int.reduceMul, Int.reduceSub, Int.reduceNeg, ev_wr_id]) | ((first | with_reducible refine br_40 ?_ ?_ | with_reducible refine br_41 ?_ ?_ | with_reducible refine br_42 ?_ ?_ | with_reducible refine br_43 ?_ ?_ | with_reducible refine br_44 ?_ ?_ | with_reducible refine br_45 ?_ ?_ | with_reducible refine br_46 ?_ ?_ | with_reducible refine br_47 ?_ ?_ | with_reducible refine br_48 ?_ ?_ | with_reducible refine br_49 ?_ ?_ | with_reducible refine br_50 ?_ ?_ | with_reducible refine br_51 ?_ ?_) <;> intro h <;> try simp (disch := first | assumption | exact Nat.le_of_ble_eq_true rfl | omega) only [ev_wr_id, not_true_eq_false, not_false_eq_true, Int.reduceEq, Int.reduceLT, Int.reduceLE, and_self, and_true, true_and, and_false, false_and, reduceIte] at h <;> try (exfalso; omega; done)))
theorem l_102g {T : Int → Int} {r : Int} (hr : 0 ≤ r ∧ r < T 4) : ∀ (k : Nat) (i : Int) (h : Int64) (σ : ev_M), 0 ≤ i → i + k = 7 → st_G1 T σ → ∃ σ1, EB 102 14 [some (.inr (.inl 161)), some (.inr (.inr h)), none, some (.inl r), some (.inl (i))] [] σ = EB 102 15 [some (.inr (.inl 161)), some (.inr (.inr (st_fo (st_h6 T r) k i h))), none, some (.inl r), some (.inl (7))] [] σ1 ∧ st_N σ σ1 ∧ st_G1 T σ1 := by
  intro k
  induction k with
  | zero =>
    intro i h σ h0 h1 hG
    obtain rfl : i = 7 := by omega
    refine ⟨σ, ?_, st_N_r, hG⟩
    rw [show st_fo (st_h6 T r) 0 7 h = h from rfl]
    clear hG
    rw [bk_102_14]
    repeat' (first | (simp (disch := first | assumption | exact Nat.le_of_ble_eq_true rfl | omega) only [bk_102_0, eo_8, eo_5, eo_6, eo_3_3n, eo_3_3i, eo_3_3r, eo_53, eo_0_3, eo_2_1, eo_21, eo_1_0, v10_2, ev_ki, ev_kv, eo_22, eo_20, eo_23_3n, eo_23_3i, eo_23_3r, eo_52, bk_102_2, g10_28_0, g7_28_0, g6_27, eo_3_4n, eo_3_4i, eo_3_4r, eo_0_4, v10_3, eo_23_4n, eo_23_4i, eo_23_4r, bk_102_5, bk_102_6, g7_28_1, g1_27, bk_102_8, g7_28_2, g4_27, bk_102_11, bk_102_12, bk_102_16, eo_57, Int.add_zero, Int.add_sub_cancel, Int.reduceAdd, Int.reduceMul, Int.reduceSub, Int.reduceNeg, ev_wr_id]) | ((first | with_reducible refine br_40 ?_ ?_ | with_reducible refine br_41 ?_ ?_ | with_reducible refine br_42 ?_ ?_ | with_reducible refine br_43 ?_ ?_ | with_reducible refine br_44 ?_ ?_ | with_reducible refine br_45 ?_ ?_ | with_reducible refine br_46 ?_ ?_ | with_reducible refine br_47 ?_ ?_ | with_reducible refine br_48 ?_ ?_ | with_reducible refine br_49 ?_ ?_ | with_reducible refine br_50 ?_ ?_ | with_reducible refine br_51 ?_ ?_) <;> intro h <;> try simp (disch := first | assumption | exact Nat.le_of_ble_eq_true rfl | omega) only [ev_wr_id, not_true_eq_false, not_false_eq_true, Int.reduceEq, Int.reduceLT, Int.reduceLE, and_self, and_true, true_and, and_false, false_and, reduceIte] at h <;> try (exfalso; omega; done)))
  | succ k ih =>
    intro i h σ h0 h1 hG
    obtain ⟨σ1, e, n1, g1⟩ := d_93 (b := r) (q := i) hG hr (by omega)
    obtain ⟨σ2, e2, n2, g2⟩ := ih (i + 1) (Int64.ofInt 31 * h + Int64.ofInt (ev_wr (st_vd T r i))) σ1 (by omega) (by omega) g1
    refine ⟨σ2, ?_, st_N_t n1 n2, g2⟩
    have hi9 : i ≤ 6 := by omega
    rw [st_fo_s (F := st_h6 T r) (k := k) (i := i) (h := h) rfl]
    refine Eq.trans ?_ e2
    clear e2 ih hG g1 g2 n1 n2 h1
    rw [bk_102_14]
    repeat' (first | (simp (disch := first | assumption | exact Nat.le_of_ble_eq_true rfl | omega) only [bk_102_0, eo_8, eo_5, eo_6, eo_3_3n, eo_3_3i, eo_3_3r, eo_53, eo_0_3, eo_2_1, eo_21, eo_1_0, v10_2, ev_ki, ev_kv, eo_22, eo_20, eo_23_3n, eo_23_3i, eo_23_3r, eo_52, bk_102_2, g10_28_0, g7_28_0, g6_27, eo_3_4n, eo_3_4i, eo_3_4r, eo_0_4, v10_3, eo_23_4n, eo_23_4i, eo_23_4r, bk_102_5, bk_102_6, g7_28_1, g1_27, bk_102_8, g7_28_2, g4_27, bk_102_11, bk_102_12, bk_102_16, eo_57, e, Int.add_zero, Int.add_sub_cancel, Int.reduceAdd, Int.reduceMul, Int.reduceSub, Int.reduceNeg, ev_wr_id]) | ((first | with_reducible refine br_40 ?_ ?_ | with_reducible refine br_41 ?_ ?_ | with_reducible refine br_42 ?_ ?_ | with_reducible refine br_43 ?_ ?_ | with_reducible refine br_44 ?_ ?_ | with_reducible refine br_45 ?_ ?_ | with_reducible refine br_46 ?_ ?_ | with_reducible refine br_47 ?_ ?_ | with_reducible refine br_48 ?_ ?_ | with_reducible refine br_49 ?_ ?_ | with_reducible refine br_50 ?_ ?_ | with_reducible refine br_51 ?_ ?_) <;> intro h <;> try simp (disch := first | assumption | exact Nat.le_of_ble_eq_true rfl | omega) only [ev_wr_id, not_true_eq_false, not_false_eq_true, Int.reduceEq, Int.reduceLT, Int.reduceLE, and_self, and_true, true_and, and_false, false_and, reduceIte] at h <;> try (exfalso; omega; done)))
theorem l_103a {T : Int → Int} {b : Int} {h0 : Int64} {p7 : Option ev_V} (hr : 0 ≤ b ∧ b < T 2) : ∀ (k : Nat) (i : Int) (h : Int64) (σ : ev_M), 0 ≤ i → i + k = 9 → st_G1 T σ → ∃ σ1, EB 103 1 [some (.inr (.inl 161)), some (.inr (.inr h0)), none, some (.inl b), some (.inr (.inr h)), none, some (.inl (i)), p7] [] σ = EB 103 2 [some (.inr (.inl 161)), some (.inr (.inr h0)), none, some (.inl b), some (.inr (.inr (st_fo (st_h3 T b) k i h))), none, some (.inl (9)), p7] [] σ1 ∧ st_N σ σ1 ∧ st_G1 T σ1 := by
  intro k
  induction k with
  | zero =>
    intro i h σ h0 h1 hG
    obtain rfl : i = 9 := by omega
    refine ⟨σ, ?_, st_N_r, hG⟩
    rw [show st_fo (st_h3 T b) 0 9 h = h from rfl]
    clear hG
    rw [bk_103_1]
    repeat' (first | (simp (disch := first | assumption | exact Nat.le_of_ble_eq_true rfl | omega) only [bk_103_0, eo_2_1, eo_5, eo_6, eo_3_6n, eo_3_6i, eo_3_6r, eo_53, eo_0_6, eo_8, eo_2_4, eo_21, eo_1_0, eo_0_3, v10_3, ev_ki, ev_kv, eo_22, eo_20, eo_23_6n, eo_23_6i, eo_23_6r, eo_52, g10_28_0, g7_28_1, g1_28_5, eo_3_7n, eo_3_7i, eo_3_7r, eo_0_7, v10_4, eo_23_7n, eo_23_7i, eo_23_7r, bk_103_5, bk_103_6, eo_57, a32_s11, Int.add_zero, Int.add_sub_cancel, Int.reduceAdd, Int.reduceMul, Int.reduceSub, Int.reduceNeg, ev_wr_id]) | ((first | with_reducible refine br_40 ?_ ?_ | with_reducible refine br_41 ?_ ?_ | with_reducible refine br_42 ?_ ?_ | with_reducible refine br_43 ?_ ?_ | with_reducible refine br_44 ?_ ?_ | with_reducible refine br_45 ?_ ?_ | with_reducible refine br_46 ?_ ?_ | with_reducible refine br_47 ?_ ?_ | with_reducible refine br_48 ?_ ?_ | with_reducible refine br_49 ?_ ?_ | with_reducible refine br_50 ?_ ?_ | with_reducible refine br_51 ?_ ?_) <;> intro h <;> try simp (disch := first | assumption | exact Nat.le_of_ble_eq_true rfl | omega) only [ev_wr_id, not_true_eq_false, not_false_eq_true, Int.reduceEq, Int.reduceLT, Int.reduceLE, and_self, and_true, true_and, and_false, false_and, reduceIte] at h <;> try (exfalso; omega; done)))
  | succ k ih =>
    intro i h σ h0 h1 hG
    obtain ⟨σ1, e, n1, g1⟩ := d_77 (b := b) (q := i) hG hr (by omega)
    obtain ⟨σ2, e2, n2, g2⟩ := ih (i + 1) (Int64.ofInt 31 * h + Int64.ofInt (ev_wr (st_vb T b i))) σ1 (by omega) (by omega) g1
    refine ⟨σ2, ?_, st_N_t n1 n2, g2⟩
    have hi9 : i ≤ 8 := by omega
    rw [st_fo_s (F := st_h3 T b) (k := k) (i := i) (h := h) rfl]
    refine Eq.trans ?_ e2
    clear e2 ih hG g1 g2 n1 n2 h1
    rw [bk_103_1]
    repeat' (first | (simp (disch := first | assumption | exact Nat.le_of_ble_eq_true rfl | omega) only [bk_103_0, eo_2_1, eo_5, eo_6, eo_3_6n, eo_3_6i, eo_3_6r, eo_53, eo_0_6, eo_8, eo_2_4, eo_21, eo_1_0, eo_0_3, v10_3, ev_ki, ev_kv, eo_22, eo_20, eo_23_6n, eo_23_6i, eo_23_6r, eo_52, g10_28_0, g7_28_1, g1_28_5, eo_3_7n, eo_3_7i, eo_3_7r, eo_0_7, v10_4, eo_23_7n, eo_23_7i, eo_23_7r, bk_103_5, bk_103_6, eo_57, a32_s11, e, eo_5_4i, Int.add_zero, Int.add_sub_cancel, Int.reduceAdd, Int.reduceMul, Int.reduceSub, Int.reduceNeg, ev_wr_id]) | ((first | with_reducible refine br_40 ?_ ?_ | with_reducible refine br_41 ?_ ?_ | with_reducible refine br_42 ?_ ?_ | with_reducible refine br_43 ?_ ?_ | with_reducible refine br_44 ?_ ?_ | with_reducible refine br_45 ?_ ?_ | with_reducible refine br_46 ?_ ?_ | with_reducible refine br_47 ?_ ?_ | with_reducible refine br_48 ?_ ?_ | with_reducible refine br_49 ?_ ?_ | with_reducible refine br_50 ?_ ?_ | with_reducible refine br_51 ?_ ?_) <;> intro h <;> try simp (disch := first | assumption | exact Nat.le_of_ble_eq_true rfl | omega) only [ev_wr_id, not_true_eq_false, not_false_eq_true, Int.reduceEq, Int.reduceLT, Int.reduceLE, and_self, and_true, true_and, and_false, false_and, reduceIte] at h <;> try (exfalso; omega; done)))
theorem l_103b {T : Int → Int} {b c : Int} {h0 : Int64} (hr : 0 ≤ b ∧ b < T 2) (hc : 0 ≤ c ∧ c < T (89 + 5 * b + 1)) : ∀ (k : Nat) (i : Int) (h : Int64) (σ : ev_M), 0 ≤ i → i + k = 6 → st_G1 T σ → ∃ σ1, EB 103 4 [some (.inr (.inl 161)), some (.inr (.inr h0)), none, some (.inl b), some (.inr (.inr h)), none, some (.inl c), some (.inl (i))] [] σ = EB 103 5 [some (.inr (.inl 161)), some (.inr (.inr h0)), none, some (.inl b), some (.inr (.inr (st_fo (st_h4 T b c) k i h))), none, some (.inl c), some (.inl (6))] [] σ1 ∧ st_N σ σ1 ∧ st_G1 T σ1 := by
  intro k
  induction k with
  | zero =>
    intro i h σ h0 h1 hG
    obtain rfl : i = 6 := by omega
    refine ⟨σ, ?_, st_N_r, hG⟩
    rw [show st_fo (st_h4 T b c) 0 6 h = h from rfl]
    clear hG
    rw [bk_103_4]
    repeat' (first | (simp (disch := first | assumption | exact Nat.le_of_ble_eq_true rfl | omega) only [bk_103_0, eo_2_1, eo_5, eo_6, eo_3_6n, eo_3_6i, eo_3_6r, eo_53, eo_0_6, eo_8, eo_2_4, eo_21, eo_1_0, eo_0_3, v10_3, ev_ki, ev_kv, eo_22, eo_20, eo_23_6n, eo_23_6i, eo_23_6r, eo_52, bk_103_2, g10_28_0, g7_28_1, g1_28_5, eo_3_7n, eo_3_7i, eo_3_7r, eo_0_7, v10_4, eo_23_7n, eo_23_7i, eo_23_7r, bk_103_6, eo_57, a32_s11, Int.add_zero, Int.add_sub_cancel, Int.reduceAdd, Int.reduceMul, Int.reduceSub, Int.reduceNeg, ev_wr_id]) | ((first | with_reducible refine br_40 ?_ ?_ | with_reducible refine br_41 ?_ ?_ | with_reducible refine br_42 ?_ ?_ | with_reducible refine br_43 ?_ ?_ | with_reducible refine br_44 ?_ ?_ | with_reducible refine br_45 ?_ ?_ | with_reducible refine br_46 ?_ ?_ | with_reducible refine br_47 ?_ ?_ | with_reducible refine br_48 ?_ ?_ | with_reducible refine br_49 ?_ ?_ | with_reducible refine br_50 ?_ ?_ | with_reducible refine br_51 ?_ ?_) <;> intro h <;> try simp (disch := first | assumption | exact Nat.le_of_ble_eq_true rfl | omega) only [ev_wr_id, not_true_eq_false, not_false_eq_true, Int.reduceEq, Int.reduceLT, Int.reduceLE, and_self, and_true, true_and, and_false, false_and, reduceIte] at h <;> try (exfalso; omega; done)))
  | succ k ih =>
    intro i h σ h0 h1 hG
    obtain ⟨σ1, e, n1, g1⟩ := d_78 (b := b) (c := c) (q := i) hG hr hc (by omega)
    obtain ⟨σ2, e2, n2, g2⟩ := ih (i + 1) (Int64.ofInt 31 * h + Int64.ofInt (ev_wr (st_vc T b c i))) σ1 (by omega) (by omega) g1
    refine ⟨σ2, ?_, st_N_t n1 n2, g2⟩
    have hi9 : i ≤ 5 := by omega
    rw [st_fo_s (F := st_h4 T b c) (k := k) (i := i) (h := h) rfl]
    refine Eq.trans ?_ e2
    clear e2 ih hG g1 g2 n1 n2 h1
    rw [bk_103_4]
    repeat' (first | (simp (disch := first | assumption | exact Nat.le_of_ble_eq_true rfl | omega) only [bk_103_0, eo_2_1, eo_5, eo_6, eo_3_6n, eo_3_6i, eo_3_6r, eo_53, eo_0_6, eo_8, eo_2_4, eo_21, eo_1_0, eo_0_3, v10_3, ev_ki, ev_kv, eo_22, eo_20, eo_23_6n, eo_23_6i, eo_23_6r, eo_52, bk_103_2, g10_28_0, g7_28_1, g1_28_5, eo_3_7n, eo_3_7i, eo_3_7r, eo_0_7, v10_4, eo_23_7n, eo_23_7i, eo_23_7r, bk_103_6, eo_57, a32_s11, e, eo_5_4i, Int.add_zero, Int.add_sub_cancel, Int.reduceAdd, Int.reduceMul, Int.reduceSub, Int.reduceNeg, ev_wr_id]) | ((first | with_reducible refine br_40 ?_ ?_ | with_reducible refine br_41 ?_ ?_ | with_reducible refine br_42 ?_ ?_ | with_reducible refine br_43 ?_ ?_ | with_reducible refine br_44 ?_ ?_ | with_reducible refine br_45 ?_ ?_ | with_reducible refine br_46 ?_ ?_ | with_reducible refine br_47 ?_ ?_ | with_reducible refine br_48 ?_ ?_ | with_reducible refine br_49 ?_ ?_ | with_reducible refine br_50 ?_ ?_ | with_reducible refine br_51 ?_ ?_) <;> intro h <;> try simp (disch := first | assumption | exact Nat.le_of_ble_eq_true rfl | omega) only [ev_wr_id, not_true_eq_false, not_false_eq_true, Int.reduceEq, Int.reduceLT, Int.reduceLE, and_self, and_true, true_and, and_false, false_and, reduceIte] at h <;> try (exfalso; omega; done)))

