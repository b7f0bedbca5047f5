/-! the digest: the class -/
theorem st_G1_rd {T : Int → Int} {σ : ev_M} (h : st_G1 T σ) : σ (ev_n + 1) 1 = T 1 ∧ σ (ev_n + 6) 0 = T 2 ∧ σ (ev_n + 17) 0 = T 3 ∧ σ (ev_n + 17) 1 = T 4 ∧ ∀ b, 0 ≤ b → b < 6 → σ (ev_n + 11) b = T (89 + 5 * b + 1) := ⟨tr_n1.trans (h.1 _ (by omega) (by omega)), tr_n2.trans (h.1 _ (by omega) (by omega)), tr_n3.trans (h.1 _ (by omega) (by omega)), tr_n4.trans (h.1 _ (by omega) (by omega)), fun b h0 h1 => (tr_11 ⟨h0, h1⟩).trans (h.1 _ (by omega) (by omega))⟩
theorem l_103c {T : Int → Int} {b : Int} {h0 : Int64} (hr : 0 ≤ b ∧ b < T 2) : ∀ (k : Nat) (c : Int) (h : Int64) (σ : ev_M) (p7 : Option ev_V), 0 ≤ c → c + k = T (89 + 5 * b + 1) → st_G1 T σ → ∃ σ1, EB 103 3 [some (.inr (.inl 161)), some (.inr (.inr h0)), none, some (.inl b), some (.inr (.inr h)), none, some (.inl c), p7] [] σ = some (some (.inr (.inr (st_fo (st_r4 T b) k c h))), σ1) ∧ st_N σ σ1 ∧ st_G1 T σ1 := by
  have hn0 : ev_n = 0 := rfl
  have hSn := ev_S_n
  intro k
  induction k with
  | zero =>
    intro c h σ p7 hc0 hc1 hG
    obtain ⟨t1, t2, t3, t4, t11⟩ := st_G1_rd hG
    have i2 := hG.2.2.1.2.2.1
    have hbb := hG.2.2.2.2.1 b hr.1 hr.2
    have e11 := t11 b hr.1 (by omega)
    refine ⟨σ, ?_, st_N_r, hG⟩
    rw [show st_fo (st_r4 T b) 0 c h = h from rfl]
    have hcn : c = T (89 + 5 * b + 1) := by omega
    clear hG t11 hc1
    rw [bk_103_3]
    repeat' (first | (simp (disch := first | assumption | exact Nat.le_of_ble_eq_true rfl | omega) only [bk_103_0, eo_2_1, eo_5, eo_6, eo_3_6n, eo_3_6i, eo_3_6r, eo_53, eo_0_6, eo_8, eo_2_4, eo_21, eo_1_0, eo_0_3, v10_3, ev_ki, ev_kv, eo_22, eo_20, eo_23_6n, eo_23_6i, eo_23_6r, eo_52, bk_103_2, g10_28_0, g7_28_1, g1_28_5, eo_3_7n, eo_3_7i, eo_3_7r, eo_0_7, v10_4, eo_23_7n, eo_23_7i, eo_23_7r, bk_103_5, bk_103_6, eo_57, a32_s11, e11, Int.add_zero, Int.add_sub_cancel, Int.reduceAdd, Int.reduceMul, Int.reduceSub, Int.reduceNeg, ev_wr_id]) | ((first | with_reducible refine br_40 ?_ ?_ | with_reducible refine br_41 ?_ ?_ | with_reducible refine br_42 ?_ ?_ | with_reducible refine br_43 ?_ ?_ | with_reducible refine br_44 ?_ ?_ | with_reducible refine br_45 ?_ ?_ | with_reducible refine br_46 ?_ ?_ | with_reducible refine br_47 ?_ ?_ | with_reducible refine br_48 ?_ ?_ | with_reducible refine br_49 ?_ ?_ | with_reducible refine br_50 ?_ ?_ | with_reducible refine br_51 ?_ ?_) <;> intro h <;> try simp (disch := first | assumption | exact Nat.le_of_ble_eq_true rfl | omega) only [ev_wr_id, not_true_eq_false, not_false_eq_true, Int.reduceEq, Int.reduceLT, Int.reduceLE, and_self, and_true, true_and, and_false, false_and, reduceIte] at h <;> try (exfalso; omega; done)))
  | succ k ih =>
    intro c h σ p7 hc0 hc1 hG
    obtain ⟨t1, t2, t3, t4, t11⟩ := st_G1_rd hG
    have i2 := hG.2.2.1.2.2.1
    have hbb := hG.2.2.2.2.1 b hr.1 hr.2
    have e11 := t11 b hr.1 (by omega)
    have hcn : c < T (89 + 5 * b + 1) := by omega
    obtain ⟨σ1, e1, n1, g1⟩ := l_103b (b := b) (c := c) (h0 := h0) hr ⟨hc0, hcn⟩ 6 0 h σ (by omega) (by omega) hG
    obtain ⟨σ2, e2, n2, g2⟩ := ih (c + 1) (st_r4 T b c h) σ1 (some (.inl 6)) (by omega) (by omega) g1
    refine ⟨σ2, ?_, st_N_t n1 n2, g2⟩
    rw [st_fo_s (F := st_r4 T b) (k := k) (i := c) (h := h) rfl, ← e2]
    clear e2 ih g1 g2 n1 n2 hG t11 hc1
    rw [bk_103_3]
    repeat' (first | (simp (disch := first | assumption | exact Nat.le_of_ble_eq_true rfl | omega) only [bk_103_0, eo_2_1, eo_5, eo_6, eo_3_6n, eo_3_6i, eo_3_6r, eo_53, eo_0_6, eo_8, eo_2_4, eo_21, eo_1_0, eo_0_3, v10_3, ev_ki, ev_kv, eo_22, eo_20, eo_23_6n, eo_23_6i, eo_23_6r, eo_52, bk_103_2, g10_28_0, g7_28_1, g1_28_5, eo_3_7n, eo_3_7i, eo_3_7r, eo_0_7, v10_4, eo_23_7n, eo_23_7i, eo_23_7r, bk_103_5, bk_103_6, eo_57, a32_s11, e11, Int.add_zero, Int.add_sub_cancel, Int.reduceAdd, Int.reduceMul, Int.reduceSub, Int.reduceNeg, ev_wr_id]) | ((first | with_reducible refine br_40 ?_ ?_ | with_reducible refine br_41 ?_ ?_ | with_reducible refine br_42 ?_ ?_ | with_reducible refine br_43 ?_ ?_ | with_reducible refine br_44 ?_ ?_ | with_reducible refine br_45 ?_ ?_ | with_reducible refine br_46 ?_ ?_ | with_reducible refine br_47 ?_ ?_ | with_reducible refine br_48 ?_ ?_ | with_reducible refine br_49 ?_ ?_ | with_reducible refine br_50 ?_ ?_ | with_reducible refine br_51 ?_ ?_) <;> intro h <;> try simp (disch := first | assumption | exact Nat.le_of_ble_eq_true rfl | omega) only [ev_wr_id, not_true_eq_false, not_false_eq_true, Int.reduceEq, Int.reduceLT, Int.reduceLE, and_self, and_true, true_and, and_false, false_and, reduceIte] at h <;> try (exfalso; omega; done)))
    rw [e1, bk_103_5]
    repeat' (first | (simp (disch := first | assumption | exact Nat.le_of_ble_eq_true rfl | omega) only [bk_103_0, eo_2_1, eo_5, eo_6, eo_3_6n, eo_3_6i, eo_3_6r, eo_53, eo_0_6, eo_8, eo_2_4, eo_21, eo_1_0, eo_0_3, v10_3, ev_ki, ev_kv, eo_22, eo_20, eo_23_6n, eo_23_6i, eo_23_6r, eo_52, bk_103_2, g10_28_0, g7_28_1, g1_28_5, eo_3_7n, eo_3_7i, eo_3_7r, eo_0_7, v10_4, eo_23_7n, eo_23_7i, eo_23_7r, bk_103_5, bk_103_6, eo_57, a32_s11, Int.add_zero, Int.add_sub_cancel, Int.reduceAdd, Int.reduceMul, Int.reduceSub, Int.reduceNeg, ev_wr_id]) | ((first | with_reducible refine br_40 ?_ ?_ | with_reducible refine br_41 ?_ ?_ | with_reducible refine br_42 ?_ ?_ | with_reducible refine br_43 ?_ ?_ | with_reducible refine br_44 ?_ ?_ | with_reducible refine br_45 ?_ ?_ | with_reducible refine br_46 ?_ ?_ | with_reducible refine br_47 ?_ ?_ | with_reducible refine br_48 ?_ ?_ | with_reducible refine br_49 ?_ ?_ | with_reducible refine br_50 ?_ ?_ | with_reducible refine br_51 ?_ ?_) <;> intro h <;> try simp (disch := first | assumption | exact Nat.le_of_ble_eq_true rfl | omega) only [ev_wr_id, not_true_eq_false, not_false_eq_true, Int.reduceEq, Int.reduceLT, Int.reduceLE, and_self, and_true, true_and, and_false, false_and, reduceIte] at h <;> try (exfalso; omega; done)))
    rfl
theorem c_103 {T : Int → Int} {b : Int} {h : Int64} {σ : ev_M} (hr : 0 ≤ b ∧ b < T 2) (hG : st_G1 T σ) : ∃ σ1, EM 103 [.inr (.inl 161), .inr (.inr h), .inl b] σ = some (some (.inr (.inr (st_r3 T b h))), σ1) ∧ st_N σ σ1 ∧ st_G1 T σ1 := by
  have hbb := hG.2.2.2.2.1 b hr.1 hr.2
  obtain ⟨σ1, e1, n1, g1⟩ := l_103a (b := b) (h0 := h) (p7 := none) hr 9 0 h σ (by omega) (by omega) hG
  obtain ⟨σ2, e2, n2, g2⟩ := l_103c (b := b) (h0 := h) hr (T (89 + 5 * b + 1)).toNat 0 (st_fo (st_h3 T b) 9 0 h) σ1 none (by omega) (by omega) g1
  refine ⟨σ2, ?_, st_N_t n1 n2, g2⟩
  unfold st_r3
  rw [← e2]
  clear e2 g1 g2 n1 n2 hG hbb
  rw [mm_103]
  repeat' (first | (simp (disch := first | assumption | exact Nat.le_of_ble_eq_true rfl | omega) only [bk_103_0, eo_2_1, eo_5, eo_6, eo_3_6n, eo_3_6i, eo_3_6r, eo_53, eo_0_6, eo_8, eo_2_4, eo_21, eo_1_0, eo_0_3, v10_3, ev_ki, ev_kv, eo_22, eo_20, eo_23_6n, eo_23_6i, eo_23_6r, eo_52, bk_103_2, g10_28_0, g7_28_1, g1_28_5, eo_3_7n, eo_3_7i, eo_3_7r, eo_0_7, v10_4, eo_23_7n, eo_23_7i, eo_23_7r, bk_103_5, bk_103_6, eo_57, a32_s11, eo_5_4i, Int.add_zero, Int.add_sub_cancel, Int.reduceAdd, Int.reduceMul, Int.reduceSub, Int.reduceNeg, ev_wr_id]) | ((first | with_reducible refine br_40 ?_ ?_ | with_reducible refine br_41 ?_ ?_ | with_reducible refine br_42 ?_ ?_ | with_reducible refine br_43 ?_ ?_ | with_reducible refine br_44 ?_ ?_ | with_reducible refine br_45 ?_ ?_ | with_reducible refine br_46 ?_ ?_ | with_reducible refine br_47 ?_ ?_ | with_reducible refine br_48 ?_ ?_ | with_reducible refine br_49 ?_ ?_ | with_reducible refine br_50 ?_ ?_ | with_reducible refine br_51 ?_ ?_) <;> intro h <;> try simp (disch := first | assumption | exact Nat.le_of_ble_eq_true rfl | omega) only [ev_wr_id, not_true_eq_false, not_false_eq_true, Int.reduceEq, Int.reduceLT, Int.reduceLE, and_self, and_true, true_and, and_false, false_and, reduceIte] at h <;> try (exfalso; omega; done)))
  rw [e1, bk_103_2]
  repeat' (first | (simp (disch := first | assumption | exact Nat.le_of_ble_eq_true rfl | omega) only [bk_103_0, eo_2_1, eo_5, eo_6, eo_3_6n, eo_3_6i, eo_3_6r, eo_53, eo_0_6, eo_8, eo_2_4, eo_21, eo_1_0, eo_0_3, v10_3, ev_ki, ev_kv, eo_22, eo_20, eo_23_6n, eo_23_6i, eo_23_6r, eo_52, bk_103_2, g10_28_0, g7_28_1, g1_28_5, eo_3_7n, eo_3_7i, eo_3_7r, eo_0_7, v10_4, eo_23_7n, eo_23_7i, eo_23_7r, bk_103_5, bk_103_6, eo_57, a32_s11, Int.add_zero, Int.add_sub_cancel, Int.reduceAdd, Int.reduceMul, Int.reduceSub, Int.reduceNeg, ev_wr_id]) | ((first | with_reducible refine br_40 ?_ ?_ | with_reducible refine br_41 ?_ ?_ | with_reducible refine br_42 ?_ ?_ | with_reducible refine br_43 ?_ ?_ | with_reducible refine br_44 ?_ ?_ | with_reducible refine br_45 ?_ ?_ | with_reducible refine br_46 ?_ ?_ | with_reducible refine br_47 ?_ ?_ | with_reducible refine br_48 ?_ ?_ | with_reducible refine br_49 ?_ ?_ | with_reducible refine br_50 ?_ ?_ | with_reducible refine br_51 ?_ ?_) <;> intro h <;> try simp (disch := first | assumption | exact Nat.le_of_ble_eq_true rfl | omega) only [ev_wr_id, not_true_eq_false, not_false_eq_true, Int.reduceEq, Int.reduceLT, Int.reduceLE, and_self, and_true, true_and, and_false, false_and, reduceIte] at h <;> try (exfalso; omega; done)))
theorem l_102c {T : Int → Int} : ∀ (k : Nat) (i : Int) (h : Int64) (σ : ev_M) (p4 : Option ev_V), 0 ≤ i → i + k = T 1 → st_G1 T σ → ∃ σ1 q4, EB 102 3 [some (.inr (.inl 161)), some (.inr (.inr h)), none, some (.inl i), p4] [] σ = EB 102 6 [some (.inr (.inl 161)), some (.inr (.inr (st_fo (st_r2 T) k i h))), none, some (.inl (T 1)), q4] [] σ1 ∧ st_N σ σ1 ∧ st_G1 T σ1 := by
  have hn0 : ev_n = 0 := rfl
  have hSn := ev_S_n
  intro k
  induction k with
  | zero =>
    intro i h σ p4 h0 h1 hG
    obtain ⟨t1, t2, t3, t4, t11⟩ := st_G1_rd hG
    obtain ⟨i0, i1, i2, i3, i4, i5⟩ := hG.2.2.1
    obtain rfl : i = T 1 := by omega
    refine ⟨σ, p4, ?_, st_N_r, hG⟩
    rw [show st_fo (st_r2 T) 0 (T 1) h = h from rfl]
    clear hG t11
    rw [bk_102_3]
    repeat' (first | (simp (disch := first | assumption | exact Nat.le_of_ble_eq_true rfl | omega) only [bk_102_0, eo_8, eo_5, eo_6, eo_3_3n, eo_3_3i, eo_3_3r, eo_53, eo_0_3, eo_2_1, eo_21, eo_1_0, v10_2, ev_ki, ev_kv, eo_22, eo_20, eo_23_3n, eo_23_3i, eo_23_3r, eo_52, bk_102_2, g10_28_0, g7_28_0, g6_27, eo_3_4n, eo_3_4i, eo_3_4r, eo_0_4, v10_3, eo_23_4n, eo_23_4i, eo_23_4r, bk_102_5, g7_28_1, g1_27, bk_102_8, g7_28_2, g4_27, bk_102_11, bk_102_12, bk_102_15, bk_102_16, eo_57, t1, Int.add_zero, Int.add_sub_cancel, Int.reduceAdd, Int.reduceMul, Int.reduceSub, Int.reduceNeg, ev_wr_id]) | ((first | with_reducible refine br_40 ?_ ?_ | with_reducible refine br_41 ?_ ?_ | with_reducible refine br_42 ?_ ?_ | with_reducible refine br_43 ?_ ?_ | with_reducible refine br_44 ?_ ?_ | with_reducible refine br_45 ?_ ?_ | with_reducible refine br_46 ?_ ?_ | with_reducible refine br_47 ?_ ?_ | with_reducible refine br_48 ?_ ?_ | with_reducible refine br_49 ?_ ?_ | with_reducible refine br_50 ?_ ?_ | with_reducible refine br_51 ?_ ?_) <;> intro h <;> try simp (disch := first | assumption | exact Nat.le_of_ble_eq_true rfl | omega) only [ev_wr_id, not_true_eq_false, not_false_eq_true, Int.reduceEq, Int.reduceLT, Int.reduceLE, and_self, and_true, true_and, and_false, false_and, reduceIte] at h <;> try (exfalso; omega; done)))
  | succ k ih =>
    intro i h σ p4 h0 h1 hG
    obtain ⟨t1, t2, t3, t4, t11⟩ := st_G1_rd hG
    obtain ⟨i0, i1, i2, i3, i4, i5⟩ := hG.2.2.1
    have hi9 : 0 ≤ i ∧ i < T 1 := by omega
    obtain ⟨σ1, e1, n1, g1⟩ := l_102b (r := i) hi9 4 0 h σ (by omega) (by omega) hG
    obtain ⟨σ2, q4, e2, n2, g2⟩ := ih (i + 1) ((st_r2 T) i h) σ1 (some (.inl 4)) (by omega) (by omega) g1
    refine ⟨σ2, q4, ?_, st_N_t n1 n2, g2⟩
    rw [st_fo_s (F := st_r2 T) (k := k) (i := i) (h := h) rfl, ← e2]
    clear e2 ih g1 g2 n1 n2 hG t11 h1
    rw [bk_102_3]
    repeat' (first | (simp (disch := first | assumption | exact Nat.le_of_ble_eq_true rfl | omega) only [bk_102_0, eo_8, eo_5, eo_6, eo_3_3n, eo_3_3i, eo_3_3r, eo_53, eo_0_3, eo_2_1, eo_21, eo_1_0, v10_2, ev_ki, ev_kv, eo_22, eo_20, eo_23_3n, eo_23_3i, eo_23_3r, eo_52, bk_102_2, g10_28_0, g7_28_0, g6_27, eo_3_4n, eo_3_4i, eo_3_4r, eo_0_4, v10_3, eo_23_4n, eo_23_4i, eo_23_4r, bk_102_5, bk_102_6, g7_28_1, g1_27, bk_102_8, g7_28_2, g4_27, bk_102_11, bk_102_12, bk_102_15, bk_102_16, eo_57, t1, Int.add_zero, Int.add_sub_cancel, Int.reduceAdd, Int.reduceMul, Int.reduceSub, Int.reduceNeg, ev_wr_id]) | ((first | with_reducible refine br_40 ?_ ?_ | with_reducible refine br_41 ?_ ?_ | with_reducible refine br_42 ?_ ?_ | with_reducible refine br_43 ?_ ?_ | with_reducible refine br_44 ?_ ?_ | with_reducible refine br_45 ?_ ?_ | with_reducible refine br_46 ?_ ?_ | with_reducible refine br_47 ?_ ?_ | with_reducible refine br_48 ?_ ?_ | with_reducible refine br_49 ?_ ?_ | with_reducible refine br_50 ?_ ?_ | with_reducible refine br_51 ?_ ?_) <;> intro h <;> try simp (disch := first | assumption | exact Nat.le_of_ble_eq_true rfl | omega) only [ev_wr_id, not_true_eq_false, not_false_eq_true, Int.reduceEq, Int.reduceLT, Int.reduceLE, and_self, and_true, true_and, and_false, false_and, reduceIte] at h <;> try (exfalso; omega; done)))
    rw [e1, bk_102_5]
    repeat' (first | (simp (disch := first | assumption | exact Nat.le_of_ble_eq_true rfl | omega) only [bk_102_0, eo_8, eo_5, eo_6, eo_3_3n, eo_3_3i, eo_3_3r, eo_53, eo_0_3, eo_2_1, eo_21, eo_1_0, v10_2, ev_ki, ev_kv, eo_22, eo_20, eo_23_3n, eo_23_3i, eo_23_3r, eo_52, bk_102_2, g10_28_0, g7_28_0, g6_27, eo_3_4n, eo_3_4i, eo_3_4r, eo_0_4, v10_3, eo_23_4n, eo_23_4i, eo_23_4r, bk_102_5, bk_102_6, g7_28_1, g1_27, bk_102_8, g7_28_2, g4_27, bk_102_11, bk_102_12, bk_102_15, bk_102_16, eo_57, Int.add_zero, Int.add_sub_cancel, Int.reduceAdd, Int.reduceMul, Int.reduceSub, Int.reduceNeg, ev_wr_id]) | ((first | with_reducible refine br_40 ?_ ?_ | with_reducible refine br_41 ?_ ?_ | with_reducible refine br_42 ?_ ?_ | with_reducible refine br_43 ?_ ?_ | with_reducible refine br_44 ?_ ?_ | with_reducible refine br_45 ?_ ?_ | with_reducible refine br_46 ?_ ?_ | with_reducible refine br_47 ?_ ?_ | with_reducible refine br_48 ?_ ?_ | with_reducible refine br_49 ?_ ?_ | with_reducible refine br_50 ?_ ?_ | with_reducible refine br_51 ?_ ?_) <;> intro h <;> try simp (disch := first | assumption | exact Nat.le_of_ble_eq_true rfl | omega) only [ev_wr_id, not_true_eq_false, not_false_eq_true, Int.reduceEq, Int.reduceLT, Int.reduceLE, and_self, and_true, true_and, and_false, false_and, reduceIte] at h <;> try (exfalso; omega; done)))
    rfl
theorem l_102d {T : Int → Int} : ∀ (k : Nat) (i : Int) (h : Int64) (σ : ev_M) (p4 : Option ev_V), 0 ≤ i → i + k = T 2 → st_G1 T σ → ∃ σ1 q4, EB 102 7 [some (.inr (.inl 161)), some (.inr (.inr h)), none, some (.inl i), p4] [] σ = EB 102 8 [some (.inr (.inl 161)), some (.inr (.inr (st_fo (st_r3 T) k i h))), none, some (.inl (T 2)), q4] [] σ1 ∧ st_N σ σ1 ∧ st_G1 T σ1 := by
  have hn0 : ev_n = 0 := rfl
  have hSn := ev_S_n
  intro k
  induction k with
  | zero =>
    intro i h σ p4 h0 h1 hG
    obtain ⟨t1, t2, t3, t4, t11⟩ := st_G1_rd hG
    obtain ⟨i0, i1, i2, i3, i4, i5⟩ := hG.2.2.1
    obtain rfl : i = T 2 := by omega
    refine ⟨σ, p4, ?_, st_N_r, hG⟩
    rw [show st_fo (st_r3 T) 0 (T 2) h = h from rfl]
    clear hG t11
    rw [bk_102_7]
    repeat' (first | (simp (disch := first | assumption | exact Nat.le_of_ble_eq_true rfl | omega) only [bk_102_0, eo_8, eo_5, eo_6, eo_3_3n, eo_3_3i, eo_3_3r, eo_53, eo_0_3, eo_2_1, eo_21, eo_1_0, v10_2, ev_ki, ev_kv, eo_22, eo_20, eo_23_3n, eo_23_3i, eo_23_3r, eo_52, bk_102_2, g10_28_0, g7_28_0, g6_27, eo_3_4n, eo_3_4i, eo_3_4r, eo_0_4, v10_3, eo_23_4n, eo_23_4i, eo_23_4r, bk_102_5, bk_102_6, g7_28_1, g1_27, g7_28_2, g4_27, bk_102_11, bk_102_12, bk_102_15, bk_102_16, eo_57, t2, Int.add_zero, Int.add_sub_cancel, Int.reduceAdd, Int.reduceMul, Int.reduceSub, Int.reduceNeg, ev_wr_id]) | ((first | with_reducible refine br_40 ?_ ?_ | with_reducible refine br_41 ?_ ?_ | with_reducible refine br_42 ?_ ?_ | with_reducible refine br_43 ?_ ?_ | with_reducible refine br_44 ?_ ?_ | with_reducible refine br_45 ?_ ?_ | with_reducible refine br_46 ?_ ?_ | with_reducible refine br_47 ?_ ?_ | with_reducible refine br_48 ?_ ?_ | with_reducible refine br_49 ?_ ?_ | with_reducible refine br_50 ?_ ?_ | with_reducible refine br_51 ?_ ?_) <;> intro h <;> try simp (disch := first | assumption | exact Nat.le_of_ble_eq_true rfl | omega) only [ev_wr_id, not_true_eq_false, not_false_eq_true, Int.reduceEq, Int.reduceLT, Int.reduceLE, and_self, and_true, true_and, and_false, false_and, reduceIte] at h <;> try (exfalso; omega; done)))
  | succ k ih =>
    intro i h σ p4 h0 h1 hG
    obtain ⟨t1, t2, t3, t4, t11⟩ := st_G1_rd hG
    obtain ⟨i0, i1, i2, i3, i4, i5⟩ := hG.2.2.1
    have hi9 : 0 ≤ i ∧ i < T 2 := by omega
    obtain ⟨σ1, e1, n1, g1⟩ := c_103 (b := i) (h := h) hi9 hG
    obtain ⟨σ2, q4, e2, n2, g2⟩ := ih (i + 1) (st_r3 T i h) σ1 p4 (by omega) (by omega) g1
    refine ⟨σ2, q4, ?_, st_N_t n1 n2, g2⟩
    rw [st_fo_s (F := st_r3 T) (k := k) (i := i) (h := h) rfl, ← e2]
    clear e2 ih g1 g2 n1 n2 hG t11 h1
    rw [bk_102_7]
    repeat' (first | (simp (disch := first | assumption | exact Nat.le_of_ble_eq_true rfl | omega) only [bk_102_0, eo_8, eo_5, eo_6, eo_3_3n, eo_3_3i, eo_3_3r, eo_53, eo_0_3, eo_2_1, eo_21, eo_1_0, v10_2, ev_ki, ev_kv, eo_22, eo_20, eo_23_3n, eo_23_3i, eo_23_3r, eo_52, bk_102_2, g10_28_0, g7_28_0, g6_27, eo_3_4n, eo_3_4i, eo_3_4r, eo_0_4, v10_3, eo_23_4n, eo_23_4i, eo_23_4r, bk_102_5, bk_102_6, g7_28_1, g1_27, bk_102_8, g7_28_2, g4_27, bk_102_11, bk_102_12, bk_102_15, bk_102_16, eo_57, t2, e1, Int.add_zero, Int.add_sub_cancel, Int.reduceAdd, Int.reduceMul, Int.reduceSub, Int.reduceNeg, ev_wr_id]) | ((first | with_reducible refine br_40 ?_ ?_ | with_reducible refine br_41 ?_ ?_ | with_reducible refine br_42 ?_ ?_ | with_reducible refine br_43 ?_ ?_ | with_reducible refine br_44 ?_ ?_ | with_reducible refine br_45 ?_ ?_ | with_reducible refine br_46 ?_ ?_ | with_reducible refine br_47 ?_ ?_ | with_reducible refine br_48 ?_ ?_ | with_reducible refine br_49 ?_ ?_ | with_reducible refine br_50 ?_ ?_ | with_reducible refine br_51 ?_ ?_) <;> intro h <;> try simp (disch := first | assumption | exact Nat.le_of_ble_eq_true rfl | omega) only [ev_wr_id, not_true_eq_false, not_false_eq_true, Int.reduceEq, Int.reduceLT, Int.reduceLE, and_self, and_true, true_and, and_false, false_and, reduceIte] at h <;> try (exfalso; omega; done)))
theorem l_102f {T : Int → Int} : ∀ (k : Nat) (i : Int) (h : Int64) (σ : ev_M) (p4 : Option ev_V), 0 ≤ i → i + k = T 3 → st_G1 T σ → ∃ σ1 q4, EB 102 9 [some (.inr (.inl 161)), some (.inr (.inr h)), none, some (.inl i), p4] [] σ = EB 102 12 [some (.inr (.inl 161)), some (.inr (.inr (st_fo (st_r5 T) k i h))), none, some (.inl (T 3)), q4] [] σ1 ∧ st_N σ σ1 ∧ st_G1 T σ1 := by
  have hn0 : ev_n = 0 := rfl
  have hSn := ev_S_n
  intro k
  induction k with
  | zero =>
    intro i h σ p4 h0 h1 hG
    obtain ⟨t1, t2, t3, t4, t11⟩ := st_G1_rd hG
    obtain ⟨i0, i1, i2, i3, i4, i5⟩ := hG.2.2.1
    obtain rfl : i = T 3 := by omega
    refine ⟨σ, p4, ?_, st_N_r, hG⟩
    rw [show st_fo (st_r5 T) 0 (T 3) h = h from rfl]
    clear hG t11
    rw [bk_102_9]
    repeat' (first | (simp (disch := first | assumption | exact Nat.le_of_ble_eq_true rfl | omega) only [bk_102_0, eo_8, eo_5, eo_6, eo_3_3n, eo_3_3i, eo_3_3r, eo_53, eo_0_3, eo_2_1, eo_21, eo_1_0, v10_2, ev_ki, ev_kv, eo_22, eo_20, eo_23_3n, eo_23_3i, eo_23_3r, eo_52, bk_102_2, g10_28_0, g7_28_0, g6_27, eo_3_4n, eo_3_4i, eo_3_4r, eo_0_4, v10_3, eo_23_4n, eo_23_4i, eo_23_4r, bk_102_5, bk_102_6, g7_28_1, g1_27, bk_102_8, g7_28_2, g4_27, bk_102_11, bk_102_15, bk_102_16, eo_57, t3, Int.add_zero, Int.add_sub_cancel, Int.reduceAdd, Int.reduceMul, Int.reduceSub, Int.reduceNeg, ev_wr_id]) | ((first | with_reducible refine br_40 ?_ ?_ | with_reducible refine br_41 ?_ ?_ | with_reducible refine br_42 ?_ ?_ | with_reducible refine br_43 ?_ ?_ | with_reducible refine br_44 ?_ ?_ | with_reducible refine br_45 ?_ ?_ | with_reducible refine br_46 ?_ ?_ | with_reducible refine br_47 ?_ ?_ | with_reducible refine br_48 ?_ ?_ | with_reducible refine br_49 ?_ ?_ | with_reducible refine br_50 ?_ ?_ | with_reducible refine br_51 ?_ ?_) <;> intro h <;> try simp (disch := first | assumption | exact Nat.le_of_ble_eq_true rfl | omega) only [ev_wr_id, not_true_eq_false, not_false_eq_true, Int.reduceEq, Int.reduceLT, Int.reduceLE, and_self, and_true, true_and, and_false, false_and, reduceIte] at h <;> try (exfalso; omega; done)))
  | succ k ih =>
    intro i h σ p4 h0 h1 hG
    obtain ⟨t1, t2, t3, t4, t11⟩ := st_G1_rd hG
    obtain ⟨i0, i1, i2, i3, i4, i5⟩ := hG.2.2.1
    have hi9 : 0 ≤ i ∧ i < T 3 := by omega
    obtain ⟨σ1, e1, n1, g1⟩ := l_102e (r := i) hi9 4 0 h σ (by omega) (by omega) hG
    obtain ⟨σ2, q4, e2, n2, g2⟩ := ih (i + 1) ((st_r5 T) i h) σ1 (some (.inl 4)) (by omega) (by omega) g1
    refine ⟨σ2, q4, ?_, st_N_t n1 n2, g2⟩
    rw [st_fo_s (F := st_r5 T) (k := k) (i := i) (h := h) rfl, ← e2]
    clear e2 ih g1 g2 n1 n2 hG t11 h1
    rw [bk_102_9]
    repeat' (first | (simp (disch := first | assumption | exact Nat.le_of_ble_eq_true rfl | omega) only [bk_102_0, eo_8, eo_5, eo_6, eo_3_3n, eo_3_3i, eo_3_3r, eo_53, eo_0_3, eo_2_1, eo_21, eo_1_0, v10_2, ev_ki, ev_kv, eo_22, eo_20, eo_23_3n, eo_23_3i, eo_23_3r, eo_52, bk_102_2, g10_28_0, g7_28_0, g6_27, eo_3_4n, eo_3_4i, eo_3_4r, eo_0_4, v10_3, eo_23_4n, eo_23_4i, eo_23_4r, bk_102_5, bk_102_6, g7_28_1, g1_27, bk_102_8, g7_28_2, g4_27, bk_102_11, bk_102_12, bk_102_15, bk_102_16, eo_57, t3, Int.add_zero, Int.add_sub_cancel, Int.reduceAdd, Int.reduceMul, Int.reduceSub, Int.reduceNeg, ev_wr_id]) | ((first | with_reducible refine br_40 ?_ ?_ | with_reducible refine br_41 ?_ ?_ | with_reducible refine br_42 ?_ ?_ | with_reducible refine br_43 ?_ ?_ | with_reducible refine br_44 ?_ ?_ | with_reducible refine br_45 ?_ ?_ | with_reducible refine br_46 ?_ ?_ | with_reducible refine br_47 ?_ ?_ | with_reducible refine br_48 ?_ ?_ | with_reducible refine br_49 ?_ ?_ | with_reducible refine br_50 ?_ ?_ | with_reducible refine br_51 ?_ ?_) <;> intro h <;> try simp (disch := first | assumption | exact Nat.le_of_ble_eq_true rfl | omega) only [ev_wr_id, not_true_eq_false, not_false_eq_true, Int.reduceEq, Int.reduceLT, Int.reduceLE, and_self, and_true, true_and, and_false, false_and, reduceIte] at h <;> try (exfalso; omega; done)))
    rw [e1, bk_102_11]
    repeat' (first | (simp (disch := first | assumption | exact Nat.le_of_ble_eq_true rfl | omega) only [bk_102_0, eo_8, eo_5, eo_6, eo_3_3n, eo_3_3i, eo_3_3r, eo_53, eo_0_3, eo_2_1, eo_21, eo_1_0, v10_2, ev_ki, ev_kv, eo_22, eo_20, eo_23_3n, eo_23_3i, eo_23_3r, eo_52, bk_102_2, g10_28_0, g7_28_0, g6_27, eo_3_4n, eo_3_4i, eo_3_4r, eo_0_4, v10_3, eo_23_4n, eo_23_4i, eo_23_4r, bk_102_5, bk_102_6, g7_28_1, g1_27, bk_102_8, g7_28_2, g4_27, bk_102_11, bk_102_12, bk_102_15, bk_102_16, eo_57, Int.add_zero, Int.add_sub_cancel, Int.reduceAdd, Int.reduceMul, Int.reduceSub, Int.reduceNeg, ev_wr_id]) | ((first | with_reducible refine br_40 ?_ ?_ | with_reducible refine br_41 ?_ ?_ | with_reducible refine br_42 ?_ ?_ | with_reducible refine br_43 ?_ ?_ | with_reducible refine br_44 ?_ ?_ | with_reducible refine br_45 ?_ ?_ | with_reducible refine br_46 ?_ ?_ | with_reducible refine br_47 ?_ ?_ | with_reducible refine br_48 ?_ ?_ | with_reducible refine br_49 ?_ ?_ | with_reducible refine br_50 ?_ ?_ | with_reducible refine br_51 ?_ ?_) <;> intro h <;> try simp (disch := first | assumption | exact Nat.le_of_ble_eq_true rfl | omega) only [ev_wr_id, not_true_eq_false, not_false_eq_true, Int.reduceEq, Int.reduceLT, Int.reduceLE, and_self, and_true, true_and, and_false, false_and, reduceIte] at h <;> try (exfalso; omega; done)))
    rfl
theorem l_102h {T : Int → Int} : ∀ (k : Nat) (i : Int) (h : Int64) (σ : ev_M) (p4 : Option ev_V), 0 ≤ i → i + k = T 4 → st_G1 T σ → ∃ σ1, EB 102 13 [some (.inr (.inl 161)), some (.inr (.inr h)), none, some (.inl i), p4] [] σ = some (some (.inr (.inr (st_fo (st_r6 T) k i h))), σ1) ∧ st_N σ σ1 ∧ st_G1 T σ1 := by
  have hn0 : ev_n = 0 := rfl
  have hSn := ev_S_n
  intro k
  induction k with
  | zero =>
    intro i h σ p4 h0 h1 hG
    obtain ⟨t1, t2, t3, t4, t11⟩ := st_G1_rd hG
    obtain ⟨i0, i1, i2, i3, i4, i5⟩ := hG.2.2.1
    obtain rfl : i = T 4 := by omega
    refine ⟨σ, ?_, st_N_r, hG⟩
    rw [show st_fo (st_r6 T) 0 (T 4) h = h from rfl]
    clear hG t11
    rw [bk_102_13]
    repeat' (first | (simp (disch := first | assumption | exact Nat.le_of_ble_eq_true rfl | omega) only [bk_102_0, eo_8, eo_5, eo_6, eo_3_3n, eo_3_3i, eo_3_3r, eo_53, eo_0_3, eo_2_1, eo_21, eo_1_0, v10_2, ev_ki, ev_kv, eo_22, eo_20, eo_23_3n, eo_23_3i, eo_23_3r, eo_52, bk_102_2, g10_28_0, g7_28_0, g6_27, eo_3_4n, eo_3_4i, eo_3_4r, eo_0_4, v10_3, eo_23_4n, eo_23_4i, eo_23_4r, bk_102_5, bk_102_6, g7_28_1, g1_27, bk_102_8, g7_28_2, g4_27, bk_102_11, bk_102_12, bk_102_15, bk_102_16, eo_57, t4, Int.add_zero, Int.add_sub_cancel, Int.reduceAdd, Int.reduceMul, Int.reduceSub, Int.reduceNeg, ev_wr_id]) | ((first | with_reducible refine br_40 ?_ ?_ | with_reducible refine br_41 ?_ ?_ | with_reducible refine br_42 ?_ ?_ | with_reducible refine br_43 ?_ ?_ | with_reducible refine br_44 ?_ ?_ | with_reducible refine br_45 ?_ ?_ | with_reducible refine br_46 ?_ ?_ | with_reducible refine br_47 ?_ ?_ | with_reducible refine br_48 ?_ ?_ | with_reducible refine br_49 ?_ ?_ | with_reducible refine br_50 ?_ ?_ | with_reducible refine br_51 ?_ ?_) <;> intro h <;> try simp (disch := first | assumption | exact Nat.le_of_ble_eq_true rfl | omega) only [ev_wr_id, not_true_eq_false, not_false_eq_true, Int.reduceEq, Int.reduceLT, Int.reduceLE, and_self, and_true, true_and, and_false, false_and, reduceIte] at h <;> try (exfalso; omega; done)))
  | succ k ih =>
    intro i h σ p4 h0 h1 hG
    obtain ⟨t1, t2, t3, t4, t11⟩ := st_G1_rd hG
    obtain ⟨i0, i1, i2, i3, i4, i5⟩ := hG.2.2.1
    have hi9 : 0 ≤ i ∧ i < T 4 := by omega
    obtain ⟨σ1, e1, n1, g1⟩ := l_102g (r := i) hi9 7 0 h σ (by omega) (by omega) hG
    obtain ⟨σ2, e2, n2, g2⟩ := ih (i + 1) ((st_r6 T) i h) σ1 (some (.inl 7)) (by omega) (by omega) g1
    refine ⟨σ2, ?_, st_N_t n1 n2, g2⟩
    rw [st_fo_s (F := st_r6 T) (k := k) (i := i) (h := h) rfl, ← e2]
    clear e2 ih g1 g2 n1 n2 hG t11 h1
    rw [bk_102_13]
    repeat' (first | (simp (disch := first | assumption | exact Nat.le_of_ble_eq_true rfl | omega) only [bk_102_0, eo_8, eo_5, eo_6, eo_3_3n, eo_3_3i, eo_3_3r, eo_53, eo_0_3, eo_2_1, eo_21, eo_1_0, v10_2, ev_ki, ev_kv, eo_22, eo_20, eo_23_3n, eo_23_3i, eo_23_3r, eo_52, bk_102_2, g10_28_0, g7_28_0, g6_27, eo_3_4n, eo_3_4i, eo_3_4r, eo_0_4, v10_3, eo_23_4n, eo_23_4i, eo_23_4r, bk_102_5, bk_102_6, g7_28_1, g1_27, bk_102_8, g7_28_2, g4_27, bk_102_11, bk_102_12, bk_102_15, bk_102_16, eo_57, t4, Int.add_zero, Int.add_sub_cancel, Int.reduceAdd, Int.reduceMul, Int.reduceSub, Int.reduceNeg, ev_wr_id]) | ((first | with_reducible refine br_40 ?_ ?_ | with_reducible refine br_41 ?_ ?_ | with_reducible refine br_42 ?_ ?_ | with_reducible refine br_43 ?_ ?_ | with_reducible refine br_44 ?_ ?_ | with_reducible refine br_45 ?_ ?_ | with_reducible refine br_46 ?_ ?_ | with_reducible refine br_47 ?_ ?_ | with_reducible refine br_48 ?_ ?_ | with_reducible refine br_49 ?_ ?_ | with_reducible refine br_50 ?_ ?_ | with_reducible refine br_51 ?_ ?_) <;> intro h <;> try simp (disch := first | assumption | exact Nat.le_of_ble_eq_true rfl | omega) only [ev_wr_id, not_true_eq_false, not_false_eq_true, Int.reduceEq, Int.reduceLT, Int.reduceLE, and_self, and_true, true_and, and_false, false_and, reduceIte] at h <;> try (exfalso; omega; done)))
    rw [e1, bk_102_15]
    repeat' (first | (simp (disch := first | assumption | exact Nat.le_of_ble_eq_true rfl | omega) only [bk_102_0, eo_8, eo_5, eo_6, eo_3_3n, eo_3_3i, eo_3_3r, eo_53, eo_0_3, eo_2_1, eo_21, eo_1_0, v10_2, ev_ki, ev_kv, eo_22, eo_20, eo_23_3n, eo_23_3i, eo_23_3r, eo_52, bk_102_2, g10_28_0, g7_28_0, g6_27, eo_3_4n, eo_3_4i, eo_3_4r, eo_0_4, v10_3, eo_23_4n, eo_23_4i, eo_23_4r, bk_102_5, bk_102_6, g7_28_1, g1_27, bk_102_8, g7_28_2, g4_27, bk_102_11, bk_102_12, bk_102_15, bk_102_16, eo_57, Int.add_zero, Int.add_sub_cancel, Int.reduceAdd, Int.reduceMul, Int.reduceSub, Int.reduceNeg, ev_wr_id]) | ((first | with_reducible refine br_40 ?_ ?_ | with_reducible refine br_41 ?_ ?_ | with_reducible refine br_42 ?_ ?_ | with_reducible refine br_43 ?_ ?_ | with_reducible refine br_44 ?_ ?_ | with_reducible refine br_45 ?_ ?_ | with_reducible refine br_46 ?_ ?_ | with_reducible refine br_47 ?_ ?_ | with_reducible refine br_48 ?_ ?_ | with_reducible refine br_49 ?_ ?_ | with_reducible refine br_50 ?_ ?_ | with_reducible refine br_51 ?_ ?_) <;> intro h <;> try simp (disch := first | assumption | exact Nat.le_of_ble_eq_true rfl | omega) only [ev_wr_id, not_true_eq_false, not_false_eq_true, Int.reduceEq, Int.reduceLT, Int.reduceLE, and_self, and_true, true_and, and_false, false_and, reduceIte] at h <;> try (exfalso; omega; done)))
    rfl
theorem c_102 {T : Int → Int} {σ : ev_M} (hG : st_G1 T σ) : ∃ σ1, EM 102 [.inr (.inl 161)] σ = some (some (.inr (.inr (st_dig T))), σ1) ∧ st_N σ σ1 ∧ st_G1 T σ1 := by
  obtain ⟨i0, i1, i2, i3, i4, i5⟩ := hG.2.2.1
  obtain ⟨σ1, e1, n1, g1⟩ := l_102a (p4 := none) 11 0 (Int64.ofInt 17) σ (by omega) (by omega) hG
  obtain ⟨σ2, q2, e2, n2, g2⟩ := l_102c (T 1).toNat 0 (st_fo (st_h1 T) 11 0 (Int64.ofInt 17)) σ1 none (by omega) (by omega) g1
  obtain ⟨σ3, q3, e3, n3, g3⟩ := l_102d (T 2).toNat 0 (st_fo (st_r2 T) (T 1).toNat 0 (st_fo (st_h1 T) 11 0 (Int64.ofInt 17))) σ2 q2 (by omega) (by omega) g2
  obtain ⟨σ4, q4, e4, n4, g4⟩ := l_102f (T 3).toNat 0 (st_fo (st_r3 T) (T 2).toNat 0 (st_fo (st_r2 T) (T 1).toNat 0 (st_fo (st_h1 T) 11 0 (Int64.ofInt 17)))) σ3 q3 (by omega) (by omega) g3
  obtain ⟨σ5, e5, n5, g5⟩ := l_102h (T 4).toNat 0 (st_fo (st_r5 T) (T 3).toNat 0 (st_fo (st_r3 T) (T 2).toNat 0 (st_fo (st_r2 T) (T 1).toNat 0 (st_fo (st_h1 T) 11 0 (Int64.ofInt 17))))) σ4 q4 (by omega) (by omega) g4
  refine ⟨σ5, ?_, st_N_t n1 (st_N_t n2 (st_N_t n3 (st_N_t n4 n5))), g5⟩
  unfold st_dig
  rw [← e5]
  clear e5 n1 n2 n3 n4 n5 g1 g2 g3 g4 g5 hG
  rw [mm_102]
  repeat' (first | (simp (disch := first | assumption | exact Nat.le_of_ble_eq_true rfl | omega) only [bk_102_0, eo_8, eo_5, eo_6, eo_3_3n, eo_3_3i, eo_3_3r, eo_53, eo_0_3, eo_2_1, eo_21, eo_1_0, v10_2, ev_ki, ev_kv, eo_22, eo_20, eo_23_3n, eo_23_3i, eo_23_3r, eo_52, bk_102_2, g10_28_0, g7_28_0, g6_27, eo_3_4n, eo_3_4i, eo_3_4r, eo_0_4, v10_3, eo_23_4n, eo_23_4i, eo_23_4r, bk_102_5, bk_102_6, g7_28_1, g1_27, bk_102_8, g7_28_2, g4_27, bk_102_11, bk_102_12, bk_102_15, bk_102_16, eo_57, Int.add_zero, Int.add_sub_cancel, Int.reduceAdd, Int.reduceMul, Int.reduceSub, Int.reduceNeg, ev_wr_id]) | ((first | with_reducible refine br_40 ?_ ?_ | with_reducible refine br_41 ?_ ?_ | with_reducible refine br_42 ?_ ?_ | with_reducible refine br_43 ?_ ?_ | with_reducible refine br_44 ?_ ?_ | with_reducible refine br_45 ?_ ?_ | with_reducible refine br_46 ?_ ?_ | with_reducible refine br_47 ?_ ?_ | with_reducible refine br_48 ?_ ?_ | with_reducible refine br_49 ?_ ?_ | with_reducible refine br_50 ?_ ?_ | with_reducible refine br_51 ?_ ?_) <;> intro h <;> try simp (disch := first | assumption | exact Nat.le_of_ble_eq_true rfl | omega) only [ev_wr_id, not_true_eq_false, not_false_eq_true, Int.reduceEq, Int.reduceLT, Int.reduceLE, and_self, and_true, true_and, and_false, false_and, reduceIte] at h <;> try (exfalso; omega; done)))
  rw [e1, bk_102_2]
  repeat' (first | (simp (disch := first | assumption | exact Nat.le_of_ble_eq_true rfl | omega) only [bk_102_0, eo_8, eo_5, eo_6, eo_3_3n, eo_3_3i, eo_3_3r, eo_53, eo_0_3, eo_2_1, eo_21, eo_1_0, v10_2, ev_ki, ev_kv, eo_22, eo_20, eo_23_3n, eo_23_3i, eo_23_3r, eo_52, bk_102_2, g10_28_0, g7_28_0, g6_27, eo_3_4n, eo_3_4i, eo_3_4r, eo_0_4, v10_3, eo_23_4n, eo_23_4i, eo_23_4r, bk_102_5, bk_102_6, g7_28_1, g1_27, bk_102_8, g7_28_2, g4_27, bk_102_11, bk_102_12, bk_102_15, bk_102_16, eo_57, Int.add_zero, Int.add_sub_cancel, Int.reduceAdd, Int.reduceMul, Int.reduceSub, Int.reduceNeg, ev_wr_id]) | ((first | with_reducible refine br_40 ?_ ?_ | with_reducible refine br_41 ?_ ?_ | with_reducible refine br_42 ?_ ?_ | with_reducible refine br_43 ?_ ?_ | with_reducible refine br_44 ?_ ?_ | with_reducible refine br_45 ?_ ?_ | with_reducible refine br_46 ?_ ?_ | with_reducible refine br_47 ?_ ?_ | with_reducible refine br_48 ?_ ?_ | with_reducible refine br_49 ?_ ?_ | with_reducible refine br_50 ?_ ?_ | with_reducible refine br_51 ?_ ?_) <;> intro h <;> try simp (disch := first | assumption | exact Nat.le_of_ble_eq_true rfl | omega) only [ev_wr_id, not_true_eq_false, not_false_eq_true, Int.reduceEq, Int.reduceLT, Int.reduceLE, and_self, and_true, true_and, and_false, false_and, reduceIte] at h <;> try (exfalso; omega; done)))
  rw [e2, bk_102_6]
  repeat' (first | (simp (disch := first | assumption | exact Nat.le_of_ble_eq_true rfl | omega) only [bk_102_0, eo_8, eo_5, eo_6, eo_3_3n, eo_3_3i, eo_3_3r, eo_53, eo_0_3, eo_2_1, eo_21, eo_1_0, v10_2, ev_ki, ev_kv, eo_22, eo_20, eo_23_3n, eo_23_3i, eo_23_3r, eo_52, bk_102_2, g10_28_0, g7_28_0, g6_27, eo_3_4n, eo_3_4i, eo_3_4r, eo_0_4, v10_3, eo_23_4n, eo_23_4i, eo_23_4r, bk_102_5, bk_102_6, g7_28_1, g1_27, bk_102_8, g7_28_2, g4_27, bk_102_11, bk_102_12, bk_102_15, bk_102_16, eo_57, Int.add_zero, Int.add_sub_cancel, Int.reduceAdd, Int.reduceMul, Int.reduceSub, Int.reduceNeg, ev_wr_id]) | ((first | with_reducible refine br_40 ?_ ?_ | with_reducible refine br_41 ?_ ?_ | with_reducible refine br_42 ?_ ?_ | with_reducible refine br_43 ?_ ?_ | with_reducible refine br_44 ?_ ?_ | with_reducible refine br_45 ?_ ?_ | with_reducible refine br_46 ?_ ?_ | with_reducible refine br_47 ?_ ?_ | with_reducible refine br_48 ?_ ?_ | with_reducible refine br_49 ?_ ?_ | with_reducible refine br_50 ?_ ?_ | with_reducible refine br_51 ?_ ?_) <;> intro h <;> try simp (disch := first | assumption | exact Nat.le_of_ble_eq_true rfl | omega) only [ev_wr_id, not_true_eq_false, not_false_eq_true, Int.reduceEq, Int.reduceLT, Int.reduceLE, and_self, and_true, true_and, and_false, false_and, reduceIte] at h <;> try (exfalso; omega; done)))
  rw [e3, bk_102_8]
  repeat' (first | (simp (disch := first | assumption | exact Nat.le_of_ble_eq_true rfl | omega) only [bk_102_0, eo_8, eo_5, eo_6, eo_3_3n, eo_3_3i, eo_3_3r, eo_53, eo_0_3, eo_2_1, eo_21, eo_1_0, v10_2, ev_ki, ev_kv, eo_22, eo_20, eo_23_3n, eo_23_3i, eo_23_3r, eo_52, bk_102_2, g10_28_0, g7_28_0, g6_27, eo_3_4n, eo_3_4i, eo_3_4r, eo_0_4, v10_3, eo_23_4n, eo_23_4i, eo_23_4r, bk_102_5, bk_102_6, g7_28_1, g1_27, bk_102_8, g7_28_2, g4_27, bk_102_11, bk_102_12, bk_102_15, bk_102_16, eo_57, Int.add_zero, Int.add_sub_cancel, Int.reduceAdd, Int.reduceMul, Int.reduceSub, Int.reduceNeg, ev_wr_id]) | ((first | with_reducible refine br_40 ?_ ?_ | with_reducible refine br_41 ?_ ?_ | with_reducible refine br_42 ?_ ?_ | with_reducible refine br_43 ?_ ?_ | with_reducible refine br_44 ?_ ?_ | with_reducible refine br_45 ?_ ?_ | with_reducible refine br_46 ?_ ?_ | with_reducible refine br_47 ?_ ?_ | with_reducible refine br_48 ?_ ?_ | with_reducible refine br_49 ?_ ?_ | with_reducible refine br_50 ?_ ?_ | with_reducible refine br_51 ?_ ?_) <;> intro h <;> try simp (disch := first | assumption | exact Nat.le_of_ble_eq_true rfl | omega) only [ev_wr_id, not_true_eq_false, not_false_eq_true, Int.reduceEq, Int.reduceLT, Int.reduceLE, and_self, and_true, true_and, and_false, false_and, reduceIte] at h <;> try (exfalso; omega; done)))
  rw [e4, bk_102_12]
  repeat' (first | (simp (disch := first | assumption | exact Nat.le_of_ble_eq_true rfl | omega) only [bk_102_0, eo_8, eo_5, eo_6, eo_3_3n, eo_3_3i, eo_3_3r, eo_53, eo_0_3, eo_2_1, eo_21, eo_1_0, v10_2, ev_ki, ev_kv, eo_22, eo_20, eo_23_3n, eo_23_3i, eo_23_3r, eo_52, bk_102_2, g10_28_0, g7_28_0, g6_27, eo_3_4n, eo_3_4i, eo_3_4r, eo_0_4, v10_3, eo_23_4n, eo_23_4i, eo_23_4r, bk_102_5, bk_102_6, g7_28_1, g1_27, bk_102_8, g7_28_2, g4_27, bk_102_11, bk_102_12, bk_102_15, bk_102_16, eo_57, Int.add_zero, Int.add_sub_cancel, Int.reduceAdd, Int.reduceMul, Int.reduceSub, Int.reduceNeg, ev_wr_id]) | ((first | with_reducible refine br_40 ?_ ?_ | with_reducible refine br_41 ?_ ?_ | with_reducible refine br_42 ?_ ?_ | with_reducible refine br_43 ?_ ?_ | with_reducible refine br_44 ?_ ?_ | with_reducible refine br_45 ?_ ?_ | with_reducible refine br_46 ?_ ?_ | with_reducible refine br_47 ?_ ?_ | with_reducible refine br_48 ?_ ?_ | with_reducible refine br_49 ?_ ?_ | with_reducible refine br_50 ?_ ?_ | with_reducible refine br_51 ?_ ?_) <;> intro h <;> try simp (disch := first | assumption | exact Nat.le_of_ble_eq_true rfl | omega) only [ev_wr_id, not_true_eq_false, not_false_eq_true, Int.reduceEq, Int.reduceLT, Int.reduceLE, and_self, and_true, true_and, and_false, false_and, reduceIte] at h <;> try (exfalso; omega; done)))

