/-! the digest: the reference -/
def st_G2 (T : Int → Int) (h : Int64) (σ : ev_M) : Prop := σ 183 = T ∧ σ 182 14 = h.toInt ∧ (∀ r, 0 ≤ r → r ≤ 9 → σ 184 r = ev_ps r) ∧ st_I T
theorem d_180 {T : Int → Int} {h : Int64} {σ : ev_M} {v : Int} (hG : st_G2 T h σ) : ∃ σ2, EM 180 [.inr (.inl 182), .inl v] σ = some (none, σ2) ∧ st_G2 T (st_nt h v) σ2 ∧ σ2 189 = σ 189 ∧ st_N σ σ2 := by
  obtain ⟨h1, h2, h3, h4⟩ := hG
  have e : Int64.ofInt (σ 182 14) = h := by rw [h2]; exact Int64.ofInt_toInt h
  refine ⟨ev_up σ 182 14 (st_nt h v).toInt, ?_, ⟨?_, ev_up_eq ⟨rfl, rfl⟩, fun r r0 r1 => ?_, h4⟩, ?_, ⟨fun i hi => ?_, ev_up_ne (by omega), ev_up_ne (by omega), ev_up_ne (by omega), ev_up_ne (by omega), fun k _ _ => ev_up_ne (by omega)⟩⟩
  · unfold st_nt
    rw [mm_180]
    repeat' (first | (simp (disch := first | assumption | exact Nat.le_of_ble_eq_true rfl | omega) only [bk_180_0, eo_1_0, eo_8, g11_29, eo_21, eo_0_1, eo_22, eo_20, g11_31, eo_58, e, Int.add_zero, Int.add_sub_cancel, Int.reduceAdd, Int.reduceMul, Int.reduceSub, Int.reduceNeg, ev_wr_id]) | ((first | with_reducible refine br_40 ?_ ?_ | with_reducible refine br_41 ?_ ?_ | with_reducible refine br_42 ?_ ?_ | with_reducible refine br_43 ?_ ?_ | with_reducible refine br_44 ?_ ?_ | with_reducible refine br_45 ?_ ?_ | with_reducible refine br_46 ?_ ?_ | with_reducible refine br_47 ?_ ?_ | with_reducible refine br_48 ?_ ?_ | with_reducible refine br_49 ?_ ?_ | with_reducible refine br_50 ?_ ?_ | with_reducible refine br_51 ?_ ?_) <;> intro h <;> try simp (disch := first | assumption | exact Nat.le_of_ble_eq_true rfl | omega) only [ev_wr_id, not_true_eq_false, not_false_eq_true, Int.reduceEq, Int.reduceLT, Int.reduceLE, and_self, and_true, true_and, and_false, false_and, reduceIte] at h <;> try (exfalso; omega; done)))
  · rw [← h1]
    funext z
    exact ev_up_ne (by omega)
  · rw [ev_up_ne (by omega)]
    exact h3 r r0 r1
  · funext z
    exact ev_up_ne (by omega)
  · funext z
    exact ev_up_ne (by omega)
theorem d_note {T : Int → Int} {h : Int64} {σ : ev_M} {j : Nat} {as : List ev_V} {v : Int} (hG : st_G2 T h σ) (hB : st_B j as v T σ) : ∃ σ1 σ2, EM j (.inr (.inl 182) :: as) σ = some (some (.inl v), σ1) ∧ EM 180 [.inr (.inl 182), .inl v] σ1 = some (none, σ2) ∧ st_G2 T (st_nt h v) σ2 ∧ σ2 189 = σ 189 ∧ st_N σ σ2 := by
  obtain ⟨σ1, e, n, m1, m2, m3⟩ := hB
  obtain ⟨h1, h2, h3, h4⟩ := hG
  obtain ⟨σ2, e2, g2, k2, n2⟩ := d_180 (T := T) (h := h) (σ := σ1) (v := v) ⟨m1, by rw [m2]; exact h2, by rw [n.1 184 (by omega)]; exact h3, h4⟩
  exact ⟨σ1, σ2, e, e2, g2, by rw [k2, m3], st_N_t n n2⟩
def st_g9 (T : Int → Int) (σ : ev_M) : Prop := ∀ k, 0 ≤ k → k < T 3 → σ 189 k = st_ut T k ∧ -1 ≤ σ 189 k ∧ σ 189 k ≤ 2
theorem l_181a {T : Int → Int} {p2 p3 : Option ev_V} : ∀ (k : Nat) (i : Int) (h : Int64) (σ : ev_M), 0 ≤ i → i + k = 11 → st_G2 T h σ → ∃ σ1, EB 181 1 [some (.inr (.inl 182)), some (.inl (i)), p2, p3] [] σ = EB 181 2 [some (.inr (.inl 182)), some (.inl (11)), p2, p3] [] σ1 ∧ st_G2 T (st_fo (st_h1 T) k i h) σ1 ∧ σ1 189 = σ 189 ∧ st_N σ σ1 := by
  intro k
  induction k with
  | zero =>
    intro i h σ h0 h1 hG
    have m183 := hG.1
    have hI := hG.2.2.2
    obtain ⟨i0, i1, i2, i3, i4, i5⟩ := hI.1
    obtain rfl : i = 11 := by omega
    refine ⟨σ, ?_, hG, rfl, st_N_r⟩
    clear hG hI
    rw [bk_181_1]
    repeat' (first | (simp (disch := first | assumption | exact Nat.le_of_ble_eq_true rfl | omega) only [bk_181_0, eo_1_0, eo_8, g11_31, eo_6, eo_3_1n, eo_3_1i, eo_3_1r, eo_53, eo_0_1, v11_2, ev_ki, ev_kv, eo_23_1n, eo_23_1i, eo_23_1r, eo_52, g11_28_0, eo_12, eo_10, bk_181_4, eo_3_2n, eo_3_2i, eo_3_2r, eo_0_2, v11_3, eo_23_2n, eo_23_2i, eo_23_2r, bk_181_7, eo_3_3n, eo_3_3i, eo_3_3r, eo_0_3, v11_4, eo_23_3n, eo_23_3i, eo_23_3r, bk_181_10, bk_181_11, bk_181_12, v11_1, bk_181_15, g11_28_8, bk_181_16, bk_181_19, bk_181_20, g11_29, eo_57, a32_183, a32_189, m183, Int.add_zero, Int.add_sub_cancel, Int.reduceAdd, Int.reduceMul, Int.reduceSub, Int.reduceNeg, ev_wr_id]) | ((first | with_reducible refine br_40 ?_ ?_ | with_reducible refine br_41 ?_ ?_ | with_reducible refine br_42 ?_ ?_ | with_reducible refine br_43 ?_ ?_ | with_reducible refine br_44 ?_ ?_ | with_reducible refine br_45 ?_ ?_ | with_reducible refine br_46 ?_ ?_ | with_reducible refine br_47 ?_ ?_ | with_reducible refine br_48 ?_ ?_ | with_reducible refine br_49 ?_ ?_ | with_reducible refine br_50 ?_ ?_ | with_reducible refine br_51 ?_ ?_) <;> intro h <;> try simp (disch := first | assumption | exact Nat.le_of_ble_eq_true rfl | omega) only [ev_wr_id, not_true_eq_false, not_false_eq_true, Int.reduceEq, Int.reduceLT, Int.reduceLE, and_self, and_true, true_and, and_false, false_and, reduceIte] at h <;> try (exfalso; omega; done)))
  | succ k ih =>
    intro i h σ h0 h1 hG
    have m183 := hG.1
    have hI := hG.2.2.2
    obtain ⟨i0, i1, i2, i3, i4, i5⟩ := hI.1
    obtain ⟨σ1, σ2, e, e2, g2, k2, n2⟩ := d_note (v := st_cnt T i) hG (d_130 (q := i) m183 hI (by omega))
    obtain ⟨σ3, e3, g3, k3, n3⟩ := ih (i + 1) ((st_h1 T) i h) σ2 (by omega) (by omega) g2
    refine ⟨σ3, ?_, by rw [st_fo_s (F := st_h1 T) (k := k) (i := i) (h := h) rfl]; exact g3, by rw [k3, k2], st_N_t n2 n3⟩
    have hi9 : i < 11 := by omega
    rw [← e3]
    clear e3 g3 k3 n3 ih hG g2 n2 k2 h1 hI
    rw [bk_181_1]
    repeat' (first | (simp (disch := first | assumption | exact Nat.le_of_ble_eq_true rfl | omega) only [bk_181_0, eo_1_0, eo_8, g11_31, eo_6, eo_3_1n, eo_3_1i, eo_3_1r, eo_53, eo_0_1, v11_2, ev_ki, ev_kv, eo_23_1n, eo_23_1i, eo_23_1r, eo_52, g11_28_0, eo_12, eo_10, bk_181_4, eo_3_2n, eo_3_2i, eo_3_2r, eo_0_2, v11_3, eo_23_2n, eo_23_2i, eo_23_2r, bk_181_7, eo_3_3n, eo_3_3i, eo_3_3r, eo_0_3, v11_4, eo_23_3n, eo_23_3i, eo_23_3r, bk_181_10, bk_181_11, bk_181_12, v11_1, bk_181_15, g11_28_8, bk_181_16, bk_181_19, bk_181_20, g11_29, eo_57, a32_183, a32_189, m183, e, e2, Int.add_zero, Int.add_sub_cancel, Int.reduceAdd, Int.reduceMul, Int.reduceSub, Int.reduceNeg, ev_wr_id]) | ((first | with_reducible refine br_40 ?_ ?_ | with_reducible refine br_41 ?_ ?_ | with_reducible refine br_42 ?_ ?_ | with_reducible refine br_43 ?_ ?_ | with_reducible refine br_44 ?_ ?_ | with_reducible refine br_45 ?_ ?_ | with_reducible refine br_46 ?_ ?_ | with_reducible refine br_47 ?_ ?_ | with_reducible refine br_48 ?_ ?_ | with_reducible refine br_49 ?_ ?_ | with_reducible refine br_50 ?_ ?_ | with_reducible refine br_51 ?_ ?_) <;> intro h <;> try simp (disch := first | assumption | exact Nat.le_of_ble_eq_true rfl | omega) only [ev_wr_id, not_true_eq_false, not_false_eq_true, Int.reduceEq, Int.reduceLT, Int.reduceLE, and_self, and_true, true_and, and_false, false_and, reduceIte] at h <;> try (exfalso; omega; done)))
theorem l_181b {T : Int → Int} {p2 p3 : Option ev_V} : ∀ (k : Nat) (i : Int) (h : Int64) (σ : ev_M), 0 ≤ i → i + k = (4 * T 1) → st_G2 T h σ → ∃ σ1, EB 181 3 [some (.inr (.inl 182)), some (.inl (i)), p2, p3] [] σ = EB 181 4 [some (.inr (.inl 182)), some (.inl ((4 * T 1))), p2, p3] [] σ1 ∧ st_G2 T (st_fo (fun i h => st_nt h (T (9 + i))) k i h) σ1 ∧ σ1 189 = σ 189 ∧ st_N σ σ1 := by
  intro k
  induction k with
  | zero =>
    intro i h σ h0 h1 hG
    have m183 := hG.1
    have hI := hG.2.2.2
    obtain ⟨i0, i1, i2, i3, i4, i5⟩ := hI.1
    obtain rfl : i = (4 * T 1) := by omega
    refine ⟨σ, ?_, hG, rfl, st_N_r⟩
    clear hG hI
    rw [bk_181_3]
    repeat' (first | (simp (disch := first | assumption | exact Nat.le_of_ble_eq_true rfl | omega) only [bk_181_0, eo_1_0, eo_8, g11_31, eo_6, eo_3_1n, eo_3_1i, eo_3_1r, eo_53, eo_0_1, v11_2, ev_ki, ev_kv, eo_23_1n, eo_23_1i, eo_23_1r, eo_52, bk_181_2, g11_28_0, eo_12, eo_10, eo_3_2n, eo_3_2i, eo_3_2r, eo_0_2, v11_3, eo_23_2n, eo_23_2i, eo_23_2r, bk_181_7, eo_3_3n, eo_3_3i, eo_3_3r, eo_0_3, v11_4, eo_23_3n, eo_23_3i, eo_23_3r, bk_181_10, bk_181_11, bk_181_12, v11_1, bk_181_15, g11_28_8, bk_181_16, bk_181_19, bk_181_20, g11_29, eo_57, a32_183, a32_189, m183, Int.add_zero, Int.add_sub_cancel, Int.reduceAdd, Int.reduceMul, Int.reduceSub, Int.reduceNeg, ev_wr_id]) | ((first | with_reducible refine br_40 ?_ ?_ | with_reducible refine br_41 ?_ ?_ | with_reducible refine br_42 ?_ ?_ | with_reducible refine br_43 ?_ ?_ | with_reducible refine br_44 ?_ ?_ | with_reducible refine br_45 ?_ ?_ | with_reducible refine br_46 ?_ ?_ | with_reducible refine br_47 ?_ ?_ | with_reducible refine br_48 ?_ ?_ | with_reducible refine br_49 ?_ ?_ | with_reducible refine br_50 ?_ ?_ | with_reducible refine br_51 ?_ ?_) <;> intro h <;> try simp (disch := first | assumption | exact Nat.le_of_ble_eq_true rfl | omega) only [ev_wr_id, not_true_eq_false, not_false_eq_true, Int.reduceEq, Int.reduceLT, Int.reduceLE, and_self, and_true, true_and, and_false, false_and, reduceIte] at h <;> try (exfalso; omega; done)))
  | succ k ih =>
    intro i h σ h0 h1 hG
    have m183 := hG.1
    have hI := hG.2.2.2
    obtain ⟨i0, i1, i2, i3, i4, i5⟩ := hI.1
    obtain ⟨σ2, e2, g2, k2, n2⟩ := d_180 (v := T (9 + i)) hG
    obtain ⟨σ3, e3, g3, k3, n3⟩ := ih (i + 1) ((fun i h => st_nt h (T (9 + i))) i h) σ2 (by omega) (by omega) g2
    refine ⟨σ3, ?_, by rw [st_fo_s (F := fun i h => st_nt h (T (9 + i))) (k := k) (i := i) (h := h) rfl]; exact g3, by rw [k3, k2], st_N_t n2 n3⟩
    have hi9 : i < 4 * T 1 := by omega
    rw [← e3]
    clear e3 g3 k3 n3 ih hG g2 n2 k2 h1 hI
    rw [bk_181_3]
    repeat' (first | (simp (disch := first | assumption | exact Nat.le_of_ble_eq_true rfl | omega) only [bk_181_0, eo_1_0, eo_8, g11_31, eo_6, eo_3_1n, eo_3_1i, eo_3_1r, eo_53, eo_0_1, v11_2, ev_ki, ev_kv, eo_23_1n, eo_23_1i, eo_23_1r, eo_52, bk_181_2, g11_28_0, eo_12, eo_10, eo_3_2n, eo_3_2i, eo_3_2r, eo_0_2, v11_3, eo_23_2n, eo_23_2i, eo_23_2r, bk_181_7, eo_3_3n, eo_3_3i, eo_3_3r, eo_0_3, v11_4, eo_23_3n, eo_23_3i, eo_23_3r, bk_181_10, bk_181_11, bk_181_12, v11_1, bk_181_15, g11_28_8, bk_181_16, bk_181_19, bk_181_20, g11_29, eo_57, a32_183, a32_189, m183, e2, Int.add_zero, Int.add_sub_cancel, Int.reduceAdd, Int.reduceMul, Int.reduceSub, Int.reduceNeg, ev_wr_id]) | ((first | with_reducible refine br_40 ?_ ?_ | with_reducible refine br_41 ?_ ?_ | with_reducible refine br_42 ?_ ?_ | with_reducible refine br_43 ?_ ?_ | with_reducible refine br_44 ?_ ?_ | with_reducible refine br_45 ?_ ?_ | with_reducible refine br_46 ?_ ?_ | with_reducible refine br_47 ?_ ?_ | with_reducible refine br_48 ?_ ?_ | with_reducible refine br_49 ?_ ?_ | with_reducible refine br_50 ?_ ?_ | with_reducible refine br_51 ?_ ?_) <;> intro h <;> try simp (disch := first | assumption | exact Nat.le_of_ble_eq_true rfl | omega) only [ev_wr_id, not_true_eq_false, not_false_eq_true, Int.reduceEq, Int.reduceLT, Int.reduceLE, and_self, and_true, true_and, and_false, false_and, reduceIte] at h <;> try (exfalso; omega; done)))
theorem l_181c {T : Int → Int} {b : Int} {p3 : Option ev_V} (hr : 0 ≤ b ∧ b < T 2) : ∀ (k : Nat) (i : Int) (h : Int64) (σ : ev_M), 0 ≤ i → i + k = 9 → st_G2 T h σ → ∃ σ1, EB 181 6 [some (.inr (.inl 182)), some (.inl b), some (.inl (i)), p3] [] σ = EB 181 7 [some (.inr (.inl 182)), some (.inl b), some (.inl (9)), p3] [] σ1 ∧ st_G2 T (st_fo (st_h3 T b) k i h) σ1 ∧ σ1 189 = σ 189 ∧ st_N σ σ1 := by
  intro k
  induction k with
  | zero =>
    intro i h σ h0 h1 hG
    have m183 := hG.1
    have hI := hG.2.2.2
    obtain ⟨i0, i1, i2, i3, i4, i5⟩ := hI.1
    obtain rfl : i = 9 := by omega
    refine ⟨σ, ?_, hG, rfl, st_N_r⟩
    clear hG hI
    rw [bk_181_6]
    repeat' (first | (simp (disch := first | assumption | exact Nat.le_of_ble_eq_true rfl | omega) only [bk_181_0, eo_1_0, eo_8, g11_31, eo_6, eo_3_1n, eo_3_1i, eo_3_1r, eo_53, eo_0_1, v11_2, ev_ki, ev_kv, eo_23_1n, eo_23_1i, eo_23_1r, eo_52, bk_181_2, g11_28_0, eo_12, eo_10, bk_181_4, eo_3_2n, eo_3_2i, eo_3_2r, eo_0_2, v11_3, eo_23_2n, eo_23_2i, eo_23_2r, eo_3_3n, eo_3_3i, eo_3_3r, eo_0_3, v11_4, eo_23_3n, eo_23_3i, eo_23_3r, bk_181_10, bk_181_11, bk_181_12, v11_1, bk_181_15, g11_28_8, bk_181_16, bk_181_19, bk_181_20, g11_29, eo_57, a32_183, a32_189, m183, Int.add_zero, Int.add_sub_cancel, Int.reduceAdd, Int.reduceMul, Int.reduceSub, Int.reduceNeg, ev_wr_id]) | ((first | with_reducible refine br_40 ?_ ?_ | with_reducible refine br_41 ?_ ?_ | with_reducible refine br_42 ?_ ?_ | with_reducible refine br_43 ?_ ?_ | with_reducible refine br_44 ?_ ?_ | with_reducible refine br_45 ?_ ?_ | with_reducible refine br_46 ?_ ?_ | with_reducible refine br_47 ?_ ?_ | with_reducible refine br_48 ?_ ?_ | with_reducible refine br_49 ?_ ?_ | with_reducible refine br_50 ?_ ?_ | with_reducible refine br_51 ?_ ?_) <;> intro h <;> try simp (disch := first | assumption | exact Nat.le_of_ble_eq_true rfl | omega) only [ev_wr_id, not_true_eq_false, not_false_eq_true, Int.reduceEq, Int.reduceLT, Int.reduceLE, and_self, and_true, true_and, and_false, false_and, reduceIte] at h <;> try (exfalso; omega; done)))
  | succ k ih =>
    intro i h σ h0 h1 hG
    have m183 := hG.1
    have hI := hG.2.2.2
    obtain ⟨i0, i1, i2, i3, i4, i5⟩ := hI.1
    obtain ⟨σ1, σ2, e, e2, g2, k2, n2⟩ := d_note (v := st_vb T b i) hG (d_133 (b := b) (q := i) m183 hI hG.2.2.1 hr (by omega))
    obtain ⟨σ3, e3, g3, k3, n3⟩ := ih (i + 1) ((st_h3 T b) i h) σ2 (by omega) (by omega) g2
    refine ⟨σ3, ?_, by rw [st_fo_s (F := st_h3 T b) (k := k) (i := i) (h := h) rfl]; exact g3, by rw [k3, k2], st_N_t n2 n3⟩
    have hi9 : i < 9 := by omega
    rw [← e3]
    clear e3 g3 k3 n3 ih hG g2 n2 k2 h1 hI
    rw [bk_181_6]
    repeat' (first | (simp (disch := first | assumption | exact Nat.le_of_ble_eq_true rfl | omega) only [bk_181_0, eo_1_0, eo_8, g11_31, eo_6, eo_3_1n, eo_3_1i, eo_3_1r, eo_53, eo_0_1, v11_2, ev_ki, ev_kv, eo_23_1n, eo_23_1i, eo_23_1r, eo_52, bk_181_2, g11_28_0, eo_12, eo_10, bk_181_4, eo_3_2n, eo_3_2i, eo_3_2r, eo_0_2, v11_3, eo_23_2n, eo_23_2i, eo_23_2r, eo_3_3n, eo_3_3i, eo_3_3r, eo_0_3, v11_4, eo_23_3n, eo_23_3i, eo_23_3r, bk_181_10, bk_181_11, bk_181_12, v11_1, bk_181_15, g11_28_8, bk_181_16, bk_181_19, bk_181_20, g11_29, eo_57, a32_183, a32_189, m183, e, e2, Int.add_zero, Int.add_sub_cancel, Int.reduceAdd, Int.reduceMul, Int.reduceSub, Int.reduceNeg, ev_wr_id]) | ((first | with_reducible refine br_40 ?_ ?_ | with_reducible refine br_41 ?_ ?_ | with_reducible refine br_42 ?_ ?_ | with_reducible refine br_43 ?_ ?_ | with_reducible refine br_44 ?_ ?_ | with_reducible refine br_45 ?_ ?_ | with_reducible refine br_46 ?_ ?_ | with_reducible refine br_47 ?_ ?_ | with_reducible refine br_48 ?_ ?_ | with_reducible refine br_49 ?_ ?_ | with_reducible refine br_50 ?_ ?_ | with_reducible refine br_51 ?_ ?_) <;> intro h <;> try simp (disch := first | assumption | exact Nat.le_of_ble_eq_true rfl | omega) only [ev_wr_id, not_true_eq_false, not_false_eq_true, Int.reduceEq, Int.reduceLT, Int.reduceLE, and_self, and_true, true_and, and_false, false_and, reduceIte] at h <;> try (exfalso; omega; done)))
theorem l_181d {T : Int → Int} {b c : Int} (hr : 0 ≤ b ∧ b < T 2) (hc : 0 ≤ c ∧ c < T (89 + 5 * b + 1)) : ∀ (k : Nat) (i : Int) (h : Int64) (σ : ev_M), 0 ≤ i → i + k = 6 → st_G2 T h σ → ∃ σ1, EB 181 9 [some (.inr (.inl 182)), some (.inl b), some (.inl c), some (.inl (i))] [] σ = EB 181 10 [some (.inr (.inl 182)), some (.inl b), some (.inl c), some (.inl (6))] [] σ1 ∧ st_G2 T (st_fo (st_h4 T b c) k i h) σ1 ∧ σ1 189 = σ 189 ∧ st_N σ σ1 := by
  intro k
  induction k with
  | zero =>
    intro i h σ h0 h1 hG
    have m183 := hG.1
    have hI := hG.2.2.2
    obtain ⟨i0, i1, i2, i3, i4, i5⟩ := hI.1
    obtain rfl : i = 6 := by omega
    refine ⟨σ, ?_, hG, rfl, st_N_r⟩
    clear hG hI
    rw [bk_181_9]
    repeat' (first | (simp (disch := first | assumption | exact Nat.le_of_ble_eq_true rfl | omega) only [bk_181_0, eo_1_0, eo_8, g11_31, eo_6, eo_3_1n, eo_3_1i, eo_3_1r, eo_53, eo_0_1, v11_2, ev_ki, ev_kv, eo_23_1n, eo_23_1i, eo_23_1r, eo_52, bk_181_2, g11_28_0, eo_12, eo_10, bk_181_4, eo_3_2n, eo_3_2i, eo_3_2r, eo_0_2, v11_3, eo_23_2n, eo_23_2i, eo_23_2r, bk_181_7, eo_3_3n, eo_3_3i, eo_3_3r, eo_0_3, v11_4, eo_23_3n, eo_23_3i, eo_23_3r, bk_181_11, bk_181_12, v11_1, bk_181_15, g11_28_8, bk_181_16, bk_181_19, bk_181_20, g11_29, eo_57, a32_183, a32_189, m183, Int.add_zero, Int.add_sub_cancel, Int.reduceAdd, Int.reduceMul, Int.reduceSub, Int.reduceNeg, ev_wr_id]) | ((first | with_reducible refine br_40 ?_ ?_ | with_reducible refine br_41 ?_ ?_ | with_reducible refine br_42 ?_ ?_ | with_reducible refine br_43 ?_ ?_ | with_reducible refine br_44 ?_ ?_ | with_reducible refine br_45 ?_ ?_ | with_reducible refine br_46 ?_ ?_ | with_reducible refine br_47 ?_ ?_ | with_reducible refine br_48 ?_ ?_ | with_reducible refine br_49 ?_ ?_ | with_reducible refine br_50 ?_ ?_ | with_reducible refine br_51 ?_ ?_) <;> intro h <;> try simp (disch := first | assumption | exact Nat.le_of_ble_eq_true rfl | omega) only [ev_wr_id, not_true_eq_false, not_false_eq_true, Int.reduceEq, Int.reduceLT, Int.reduceLE, and_self, and_true, true_and, and_false, false_and, reduceIte] at h <;> try (exfalso; omega; done)))
  | succ k ih =>
    intro i h σ h0 h1 hG
    have m183 := hG.1
    have hI := hG.2.2.2
    obtain ⟨i0, i1, i2, i3, i4, i5⟩ := hI.1
    obtain ⟨σ1, σ2, e, e2, g2, k2, n2⟩ := d_note (v := st_vc T b c i) hG (d_135 (b := b) (c := c) (q := i) m183 hI hr hc (by omega))
    obtain ⟨σ3, e3, g3, k3, n3⟩ := ih (i + 1) ((st_h4 T b c) i h) σ2 (by omega) (by omega) g2
    refine ⟨σ3, ?_, by rw [st_fo_s (F := st_h4 T b c) (k := k) (i := i) (h := h) rfl]; exact g3, by rw [k3, k2], st_N_t n2 n3⟩
    have hi9 : i < 6 := by omega
    rw [← e3]
    clear e3 g3 k3 n3 ih hG g2 n2 k2 h1 hI
    rw [bk_181_9]
    repeat' (first | (simp (disch := first | assumption | exact Nat.le_of_ble_eq_true rfl | omega) only [bk_181_0, eo_1_0, eo_8, g11_31, eo_6, eo_3_1n, eo_3_1i, eo_3_1r, eo_53, eo_0_1, v11_2, ev_ki, ev_kv, eo_23_1n, eo_23_1i, eo_23_1r, eo_52, bk_181_2, g11_28_0, eo_12, eo_10, bk_181_4, eo_3_2n, eo_3_2i, eo_3_2r, eo_0_2, v11_3, eo_23_2n, eo_23_2i, eo_23_2r, bk_181_7, eo_3_3n, eo_3_3i, eo_3_3r, eo_0_3, v11_4, eo_23_3n, eo_23_3i, eo_23_3r, bk_181_11, bk_181_12, v11_1, bk_181_15, g11_28_8, bk_181_16, bk_181_19, bk_181_20, g11_29, eo_57, a32_183, a32_189, m183, e, e2, Int.add_zero, Int.add_sub_cancel, Int.reduceAdd, Int.reduceMul, Int.reduceSub, Int.reduceNeg, ev_wr_id]) | ((first | with_reducible refine br_40 ?_ ?_ | with_reducible refine br_41 ?_ ?_ | with_reducible refine br_42 ?_ ?_ | with_reducible refine br_43 ?_ ?_ | with_reducible refine br_44 ?_ ?_ | with_reducible refine br_45 ?_ ?_ | with_reducible refine br_46 ?_ ?_ | with_reducible refine br_47 ?_ ?_ | with_reducible refine br_48 ?_ ?_ | with_reducible refine br_49 ?_ ?_ | with_reducible refine br_50 ?_ ?_ | with_reducible refine br_51 ?_ ?_) <;> intro h <;> try simp (disch := first | assumption | exact Nat.le_of_ble_eq_true rfl | omega) only [ev_wr_id, not_true_eq_false, not_false_eq_true, Int.reduceEq, Int.reduceLT, Int.reduceLE, and_self, and_true, true_and, and_false, false_and, reduceIte] at h <;> try (exfalso; omega; done)))
theorem l_181g {T : Int → Int} {b : Int} {p3 : Option ev_V} (hr : 0 ≤ b ∧ b < T 3) : ∀ (k : Nat) (i : Int) (h : Int64) (σ : ev_M), 0 ≤ i → i + k = 3 → st_G2 T h σ → ∃ σ1, EB 181 14 [some (.inr (.inl 182)), some (.inl b), some (.inl (i)), p3] [] σ = EB 181 15 [some (.inr (.inl 182)), some (.inl b), some (.inl (3)), p3] [] σ1 ∧ st_G2 T (st_fo (fun q h => st_nt h (T (299 + 3 * b + q))) k i h) σ1 ∧ σ1 189 = σ 189 ∧ st_N σ σ1 := by
  intro k
  induction k with
  | zero =>
    intro i h σ h0 h1 hG
    have m183 := hG.1
    have hI := hG.2.2.2
    obtain ⟨i0, i1, i2, i3, i4, i5⟩ := hI.1
    obtain rfl : i = 3 := by omega
    refine ⟨σ, ?_, hG, rfl, st_N_r⟩
    clear hG hI
    rw [bk_181_14]
    repeat' (first | (simp (disch := first | assumption | exact Nat.le_of_ble_eq_true rfl | omega) only [bk_181_0, eo_1_0, eo_8, g11_31, eo_6, eo_3_1n, eo_3_1i, eo_3_1r, eo_53, eo_0_1, v11_2, ev_ki, ev_kv, eo_23_1n, eo_23_1i, eo_23_1r, eo_52, bk_181_2, g11_28_0, eo_12, eo_10, bk_181_4, eo_3_2n, eo_3_2i, eo_3_2r, eo_0_2, v11_3, eo_23_2n, eo_23_2i, eo_23_2r, bk_181_7, eo_3_3n, eo_3_3i, eo_3_3r, eo_0_3, v11_4, eo_23_3n, eo_23_3i, eo_23_3r, bk_181_10, bk_181_11, bk_181_12, v11_1, g11_28_8, bk_181_16, bk_181_19, bk_181_20, g11_29, eo_57, a32_183, a32_189, m183, Int.add_zero, Int.add_sub_cancel, Int.reduceAdd, Int.reduceMul, Int.reduceSub, Int.reduceNeg, ev_wr_id]) | ((first | with_reducible refine br_40 ?_ ?_ | with_reducible refine br_41 ?_ ?_ | with_reducible refine br_42 ?_ ?_ | with_reducible refine br_43 ?_ ?_ | with_reducible refine br_44 ?_ ?_ | with_reducible refine br_45 ?_ ?_ | with_reducible refine br_46 ?_ ?_ | with_reducible refine br_47 ?_ ?_ | with_reducible refine br_48 ?_ ?_ | with_reducible refine br_49 ?_ ?_ | with_reducible refine br_50 ?_ ?_ | with_reducible refine br_51 ?_ ?_) <;> intro h <;> try simp (disch := first | assumption | exact Nat.le_of_ble_eq_true rfl | omega) only [ev_wr_id, not_true_eq_false, not_false_eq_true, Int.reduceEq, Int.reduceLT, Int.reduceLE, and_self, and_true, true_and, and_false, false_and, reduceIte] at h <;> try (exfalso; omega; done)))
  | succ k ih =>
    intro i h σ h0 h1 hG
    have m183 := hG.1
    have hI := hG.2.2.2
    obtain ⟨i0, i1, i2, i3, i4, i5⟩ := hI.1
    obtain ⟨σ2, e2, g2, k2, n2⟩ := d_180 (v := T (299 + 3 * b + i)) hG
    obtain ⟨σ3, e3, g3, k3, n3⟩ := ih (i + 1) ((fun q h => st_nt h (T (299 + 3 * b + q))) i h) σ2 (by omega) (by omega) g2
    refine ⟨σ3, ?_, by rw [st_fo_s (F := fun q h => st_nt h (T (299 + 3 * b + q))) (k := k) (i := i) (h := h) rfl]; exact g3, by rw [k3, k2], st_N_t n2 n3⟩
    have hi9 : i < 3 := by omega
    rw [← e3]
    clear e3 g3 k3 n3 ih hG g2 n2 k2 h1 hI
    rw [bk_181_14]
    repeat' (first | (simp (disch := first | assumption | exact Nat.le_of_ble_eq_true rfl | omega) only [bk_181_0, eo_1_0, eo_8, g11_31, eo_6, eo_3_1n, eo_3_1i, eo_3_1r, eo_53, eo_0_1, v11_2, ev_ki, ev_kv, eo_23_1n, eo_23_1i, eo_23_1r, eo_52, bk_181_2, g11_28_0, eo_12, eo_10, bk_181_4, eo_3_2n, eo_3_2i, eo_3_2r, eo_0_2, v11_3, eo_23_2n, eo_23_2i, eo_23_2r, bk_181_7, eo_3_3n, eo_3_3i, eo_3_3r, eo_0_3, v11_4, eo_23_3n, eo_23_3i, eo_23_3r, bk_181_10, bk_181_11, bk_181_12, v11_1, g11_28_8, bk_181_16, bk_181_19, bk_181_20, g11_29, eo_57, a32_183, a32_189, m183, e2, Int.add_zero, Int.add_sub_cancel, Int.reduceAdd, Int.reduceMul, Int.reduceSub, Int.reduceNeg, ev_wr_id]) | ((first | with_reducible refine br_40 ?_ ?_ | with_reducible refine br_41 ?_ ?_ | with_reducible refine br_42 ?_ ?_ | with_reducible refine br_43 ?_ ?_ | with_reducible refine br_44 ?_ ?_ | with_reducible refine br_45 ?_ ?_ | with_reducible refine br_46 ?_ ?_ | with_reducible refine br_47 ?_ ?_ | with_reducible refine br_48 ?_ ?_ | with_reducible refine br_49 ?_ ?_ | with_reducible refine br_50 ?_ ?_ | with_reducible refine br_51 ?_ ?_) <;> intro h <;> try simp (disch := first | assumption | exact Nat.le_of_ble_eq_true rfl | omega) only [ev_wr_id, not_true_eq_false, not_false_eq_true, Int.reduceEq, Int.reduceLT, Int.reduceLE, and_self, and_true, true_and, and_false, false_and, reduceIte] at h <;> try (exfalso; omega; done)))
theorem l_181i {T : Int → Int} {b : Int} {p3 : Option ev_V} (hr : 0 ≤ b ∧ b < T 4) : ∀ (k : Nat) (i : Int) (h : Int64) (σ : ev_M), 0 ≤ i → i + k = 7 → st_G2 T h σ → st_g9 T σ → ∃ σ1, EB 181 18 [some (.inr (.inl 182)), some (.inl b), some (.inl (i)), p3] [] σ = EB 181 19 [some (.inr (.inl 182)), some (.inl b), some (.inl (7)), p3] [] σ1 ∧ st_G2 T (st_fo (st_h6 T b) k i h) σ1 ∧ σ1 189 = σ 189 ∧ st_N σ σ1 := by
  intro k
  induction k with
  | zero =>
    intro i h σ h0 h1 hG hu
    have m183 := hG.1
    have hI := hG.2.2.2
    obtain ⟨i0, i1, i2, i3, i4, i5⟩ := hI.1
    obtain rfl : i = 7 := by omega
    refine ⟨σ, ?_, hG, rfl, st_N_r⟩
    clear hG hI hu
    rw [bk_181_18]
    repeat' (first | (simp (disch := first | assumption | exact Nat.le_of_ble_eq_true rfl | omega) only [bk_181_0, eo_1_0, eo_8, g11_31, eo_6, eo_3_1n, eo_3_1i, eo_3_1r, eo_53, eo_0_1, v11_2, ev_ki, ev_kv, eo_23_1n, eo_23_1i, eo_23_1r, eo_52, bk_181_2, g11_28_0, eo_12, eo_10, bk_181_4, eo_3_2n, eo_3_2i, eo_3_2r, eo_0_2, v11_3, eo_23_2n, eo_23_2i, eo_23_2r, bk_181_7, eo_3_3n, eo_3_3i, eo_3_3r, eo_0_3, v11_4, eo_23_3n, eo_23_3i, eo_23_3r, bk_181_10, bk_181_11, bk_181_12, v11_1, bk_181_15, g11_28_8, bk_181_16, bk_181_20, g11_29, eo_57, a32_183, a32_189, m183, Int.add_zero, Int.add_sub_cancel, Int.reduceAdd, Int.reduceMul, Int.reduceSub, Int.reduceNeg, ev_wr_id]) | ((first | with_reducible refine br_40 ?_ ?_ | with_reducible refine br_41 ?_ ?_ | with_reducible refine br_42 ?_ ?_ | with_reducible refine br_43 ?_ ?_ | with_reducible refine br_44 ?_ ?_ | with_reducible refine br_45 ?_ ?_ | with_reducible refine br_46 ?_ ?_ | with_reducible refine br_47 ?_ ?_ | with_reducible refine br_48 ?_ ?_ | with_reducible refine br_49 ?_ ?_ | with_reducible refine br_50 ?_ ?_ | with_reducible refine br_51 ?_ ?_) <;> intro h <;> try simp (disch := first | assumption | exact Nat.le_of_ble_eq_true rfl | omega) only [ev_wr_id, not_true_eq_false, not_false_eq_true, Int.reduceEq, Int.reduceLT, Int.reduceLE, and_self, and_true, true_and, and_false, false_and, reduceIte] at h <;> try (exfalso; omega; done)))
  | succ k ih =>
    intro i h σ h0 h1 hG hu
    have m183 := hG.1
    have hI := hG.2.2.2
    obtain ⟨i0, i1, i2, i3, i4, i5⟩ := hI.1
    have e := d_164 (b := b) (q := i) m183 hI hu hr (by omega)
    obtain ⟨σ2, e2, g2, k2, n2⟩ := d_180 (v := st_vd T b i) hG
    obtain ⟨σ3, e3, g3, k3, n3⟩ := ih (i + 1) ((st_h6 T b) i h) σ2 (by omega) (by omega) g2 (by unfold st_g9; rw [k2]; exact hu)
    refine ⟨σ3, ?_, by rw [st_fo_s (F := st_h6 T b) (k := k) (i := i) (h := h) rfl]; exact g3, by rw [k3, k2], st_N_t n2 n3⟩
    have hi9 : i < 7 := by omega
    rw [← e3]
    clear e3 g3 k3 n3 ih hG g2 n2 k2 h1 hI hu
    rw [bk_181_18]
    repeat' (first | (simp (disch := first | assumption | exact Nat.le_of_ble_eq_true rfl | omega) only [bk_181_0, eo_1_0, eo_8, g11_31, eo_6, eo_3_1n, eo_3_1i, eo_3_1r, eo_53, eo_0_1, v11_2, ev_ki, ev_kv, eo_23_1n, eo_23_1i, eo_23_1r, eo_52, bk_181_2, g11_28_0, eo_12, eo_10, bk_181_4, eo_3_2n, eo_3_2i, eo_3_2r, eo_0_2, v11_3, eo_23_2n, eo_23_2i, eo_23_2r, bk_181_7, eo_3_3n, eo_3_3i, eo_3_3r, eo_0_3, v11_4, eo_23_3n, eo_23_3i, eo_23_3r, bk_181_10, bk_181_11, bk_181_12, v11_1, bk_181_15, g11_28_8, bk_181_16, bk_181_20, g11_29, eo_57, a32_183, a32_189, m183, e, e2, Int.add_zero, Int.add_sub_cancel, Int.reduceAdd, Int.reduceMul, Int.reduceSub, Int.reduceNeg, ev_wr_id]) | ((first | with_reducible refine br_40 ?_ ?_ | with_reducible refine br_41 ?_ ?_ | with_reducible refine br_42 ?_ ?_ | with_reducible refine br_43 ?_ ?_ | with_reducible refine br_44 ?_ ?_ | with_reducible refine br_45 ?_ ?_ | with_reducible refine br_46 ?_ ?_ | with_reducible refine br_47 ?_ ?_ | with_reducible refine br_48 ?_ ?_ | with_reducible refine br_49 ?_ ?_ | with_reducible refine br_50 ?_ ?_ | with_reducible refine br_51 ?_ ?_) <;> intro h <;> try simp (disch := first | assumption | exact Nat.le_of_ble_eq_true rfl | omega) only [ev_wr_id, not_true_eq_false, not_false_eq_true, Int.reduceEq, Int.reduceLT, Int.reduceLE, and_self, and_true, true_and, and_false, false_and, reduceIte] at h <;> try (exfalso; omega; done)))
theorem l_181e {T : Int → Int} {b : Int} (hr : 0 ≤ b ∧ b < T 2) : ∀ (k : Nat) (c : Int) (h : Int64) (σ : ev_M) (p3 : Option ev_V), 0 ≤ c → c + k = T (89 + 5 * b + 1) → st_G2 T h σ → ∃ σ1 q3, EB 181 8 [some (.inr (.inl 182)), some (.inl b), some (.inl c), p3] [] σ = EB 181 11 [some (.inr (.inl 182)), some (.inl b), some (.inl (T (89 + 5 * b + 1))), q3] [] σ1 ∧ st_G2 T (st_fo (st_r4 T b) k c h) σ1 ∧ σ1 189 = σ 189 ∧ st_N σ σ1 := by
  intro k
  induction k with
  | zero =>
    intro c h σ p3 h0 h1 hG
    have m183 := hG.1
    have hI := hG.2.2.2
    have i2 := hI.1.2.2.1
    have hbb := hI.2.2.1 b hr.1 hr.2
    obtain rfl : c = T (89 + 5 * b + 1) := by omega
    refine ⟨σ, p3, ?_, hG, rfl, st_N_r⟩
    clear hG hI
    rw [bk_181_8]
    repeat' (first | (simp (disch := first | assumption | exact Nat.le_of_ble_eq_true rfl | omega) only [bk_181_0, eo_1_0, eo_8, g11_31, eo_6, eo_3_1n, eo_3_1i, eo_3_1r, eo_53, eo_0_1, v11_2, ev_ki, ev_kv, eo_23_1n, eo_23_1i, eo_23_1r, eo_52, bk_181_2, g11_28_0, eo_12, eo_10, bk_181_4, eo_3_2n, eo_3_2i, eo_3_2r, eo_0_2, v11_3, eo_23_2n, eo_23_2i, eo_23_2r, bk_181_7, eo_3_3n, eo_3_3i, eo_3_3r, eo_0_3, v11_4, eo_23_3n, eo_23_3i, eo_23_3r, bk_181_10, bk_181_12, v11_1, bk_181_15, g11_28_8, bk_181_16, bk_181_19, bk_181_20, g11_29, eo_57, a32_183, a32_189, c_114, m183, Int.add_zero, Int.add_sub_cancel, Int.reduceAdd, Int.reduceMul, Int.reduceSub, Int.reduceNeg, ev_wr_id]) | ((first | with_reducible refine br_40 ?_ ?_ | with_reducible refine br_41 ?_ ?_ | with_reducible refine br_42 ?_ ?_ | with_reducible refine br_43 ?_ ?_ | with_reducible refine br_44 ?_ ?_ | with_reducible refine br_45 ?_ ?_ | with_reducible refine br_46 ?_ ?_ | with_reducible refine br_47 ?_ ?_ | with_reducible refine br_48 ?_ ?_ | with_reducible refine br_49 ?_ ?_ | with_reducible refine br_50 ?_ ?_ | with_reducible refine br_51 ?_ ?_) <;> intro h <;> try simp (disch := first | assumption | exact Nat.le_of_ble_eq_true rfl | omega) only [ev_wr_id, not_true_eq_false, not_false_eq_true, Int.reduceEq, Int.reduceLT, Int.reduceLE, and_self, and_true, true_and, and_false, false_and, reduceIte] at h <;> try (exfalso; omega; done)))
  | succ k ih =>
    intro c h σ p3 h0 h1 hG
    have m183 := hG.1
    have hI := hG.2.2.2
    have i2 := hI.1.2.2.1
    have hbb := hI.2.2.1 b hr.1 hr.2
    have hc9 : 0 ≤ c ∧ c < T (89 + 5 * b + 1) := by omega
    obtain ⟨σ2, e2, g2, k2, n2⟩ := l_181d (b := b) (c := c) hr hc9 6 0 h σ (by omega) (by omega) hG
    obtain ⟨σ3, q3, e3, g3, k3, n3⟩ := ih (c + 1) (st_r4 T b c h) σ2 (some (.inl 6)) (by omega) (by omega) g2
    refine ⟨σ3, q3, ?_, by rw [st_fo_s (F := st_r4 T b) (k := k) (i := c) (h := h) rfl]; exact g3, by rw [k3, k2], st_N_t n2 n3⟩
    rw [← e3]
    clear e3 g3 k3 n3 ih hG g2 n2 k2 h1 hI
    rw [bk_181_8]
    repeat' (first | (simp (disch := first | assumption | exact Nat.le_of_ble_eq_true rfl | omega) only [bk_181_0, eo_1_0, eo_8, g11_31, eo_6, eo_3_1n, eo_3_1i, eo_3_1r, eo_53, eo_0_1, v11_2, ev_ki, ev_kv, eo_23_1n, eo_23_1i, eo_23_1r, eo_52, bk_181_2, g11_28_0, eo_12, eo_10, bk_181_4, eo_3_2n, eo_3_2i, eo_3_2r, eo_0_2, v11_3, eo_23_2n, eo_23_2i, eo_23_2r, bk_181_7, eo_3_3n, eo_3_3i, eo_3_3r, eo_0_3, v11_4, eo_23_3n, eo_23_3i, eo_23_3r, bk_181_10, bk_181_11, bk_181_12, v11_1, bk_181_15, g11_28_8, bk_181_16, bk_181_19, bk_181_20, g11_29, eo_57, a32_183, a32_189, c_114, m183, Int.add_zero, Int.add_sub_cancel, Int.reduceAdd, Int.reduceMul, Int.reduceSub, Int.reduceNeg, ev_wr_id]) | ((first | with_reducible refine br_40 ?_ ?_ | with_reducible refine br_41 ?_ ?_ | with_reducible refine br_42 ?_ ?_ | with_reducible refine br_43 ?_ ?_ | with_reducible refine br_44 ?_ ?_ | with_reducible refine br_45 ?_ ?_ | with_reducible refine br_46 ?_ ?_ | with_reducible refine br_47 ?_ ?_ | with_reducible refine br_48 ?_ ?_ | with_reducible refine br_49 ?_ ?_ | with_reducible refine br_50 ?_ ?_ | with_reducible refine br_51 ?_ ?_) <;> intro h <;> try simp (disch := first | assumption | exact Nat.le_of_ble_eq_true rfl | omega) only [ev_wr_id, not_true_eq_false, not_false_eq_true, Int.reduceEq, Int.reduceLT, Int.reduceLE, and_self, and_true, true_and, and_false, false_and, reduceIte] at h <;> try (exfalso; omega; done)))
    rw [e2, bk_181_10]
    repeat' (first | (simp (disch := first | assumption | exact Nat.le_of_ble_eq_true rfl | omega) only [bk_181_0, eo_1_0, eo_8, g11_31, eo_6, eo_3_1n, eo_3_1i, eo_3_1r, eo_53, eo_0_1, v11_2, ev_ki, ev_kv, eo_23_1n, eo_23_1i, eo_23_1r, eo_52, bk_181_2, g11_28_0, eo_12, eo_10, bk_181_4, eo_3_2n, eo_3_2i, eo_3_2r, eo_0_2, v11_3, eo_23_2n, eo_23_2i, eo_23_2r, bk_181_7, eo_3_3n, eo_3_3i, eo_3_3r, eo_0_3, v11_4, eo_23_3n, eo_23_3i, eo_23_3r, bk_181_10, bk_181_11, bk_181_12, v11_1, bk_181_15, g11_28_8, bk_181_16, bk_181_19, bk_181_20, g11_29, eo_57, a32_183, a32_189, Int.add_zero, Int.add_sub_cancel, Int.reduceAdd, Int.reduceMul, Int.reduceSub, Int.reduceNeg, ev_wr_id]) | ((first | with_reducible refine br_40 ?_ ?_ | with_reducible refine br_41 ?_ ?_ | with_reducible refine br_42 ?_ ?_ | with_reducible refine br_43 ?_ ?_ | with_reducible refine br_44 ?_ ?_ | with_reducible refine br_45 ?_ ?_ | with_reducible refine br_46 ?_ ?_ | with_reducible refine br_47 ?_ ?_ | with_reducible refine br_48 ?_ ?_ | with_reducible refine br_49 ?_ ?_ | with_reducible refine br_50 ?_ ?_ | with_reducible refine br_51 ?_ ?_) <;> intro h <;> try simp (disch := first | assumption | exact Nat.le_of_ble_eq_true rfl | omega) only [ev_wr_id, not_true_eq_false, not_false_eq_true, Int.reduceEq, Int.reduceLT, Int.reduceLE, and_self, and_true, true_and, and_false, false_and, reduceIte] at h <;> try (exfalso; omega; done)))
theorem l_181f {T : Int → Int} : ∀ (k : Nat) (b : Int) (h : Int64) (σ : ev_M) (p2 p3 : Option ev_V), 0 ≤ b → b + k = T 2 → st_G2 T h σ → ∃ σ1 q2 q3, EB 181 5 [some (.inr (.inl 182)), some (.inl b), p2, p3] [] σ = EB 181 12 [some (.inr (.inl 182)), some (.inl (T 2)), q2, q3] [] σ1 ∧ st_G2 T (st_fo (st_r3 T) k b h) σ1 ∧ σ1 189 = σ 189 ∧ st_N σ σ1 := by
  intro k
  induction k with
  | zero =>
    intro b h σ p2 p3 h0 h1 hG
    have m183 := hG.1
    have i2 := hG.2.2.2.1.2.2.1
    obtain rfl : b = T 2 := by omega
    refine ⟨σ, p2, p3, ?_, hG, rfl, st_N_r⟩
    clear hG
    rw [bk_181_5]
    repeat' (first | (simp (disch := first | assumption | exact Nat.le_of_ble_eq_true rfl | omega) only [bk_181_0, eo_1_0, eo_8, g11_31, eo_6, eo_3_1n, eo_3_1i, eo_3_1r, eo_53, eo_0_1, v11_2, ev_ki, ev_kv, eo_23_1n, eo_23_1i, eo_23_1r, eo_52, bk_181_2, g11_28_0, eo_12, eo_10, bk_181_4, eo_3_2n, eo_3_2i, eo_3_2r, eo_0_2, v11_3, eo_23_2n, eo_23_2i, eo_23_2r, bk_181_7, eo_3_3n, eo_3_3i, eo_3_3r, eo_0_3, v11_4, eo_23_3n, eo_23_3i, eo_23_3r, bk_181_10, bk_181_11, v11_1, bk_181_15, g11_28_8, bk_181_16, bk_181_19, bk_181_20, g11_29, eo_57, a32_183, a32_189, m183, Int.add_zero, Int.add_sub_cancel, Int.reduceAdd, Int.reduceMul, Int.reduceSub, Int.reduceNeg, ev_wr_id]) | ((first | with_reducible refine br_40 ?_ ?_ | with_reducible refine br_41 ?_ ?_ | with_reducible refine br_42 ?_ ?_ | with_reducible refine br_43 ?_ ?_ | with_reducible refine br_44 ?_ ?_ | with_reducible refine br_45 ?_ ?_ | with_reducible refine br_46 ?_ ?_ | with_reducible refine br_47 ?_ ?_ | with_reducible refine br_48 ?_ ?_ | with_reducible refine br_49 ?_ ?_ | with_reducible refine br_50 ?_ ?_ | with_reducible refine br_51 ?_ ?_) <;> intro h <;> try simp (disch := first | assumption | exact Nat.le_of_ble_eq_true rfl | omega) only [ev_wr_id, not_true_eq_false, not_false_eq_true, Int.reduceEq, Int.reduceLT, Int.reduceLE, and_self, and_true, true_and, and_false, false_and, reduceIte] at h <;> try (exfalso; omega; done)))
  | succ k ih =>
    intro b h σ p2 p3 h0 h1 hG
    have m183 := hG.1
    have hI := hG.2.2.2
    have i2 := hI.1.2.2.1
    have hr : 0 ≤ b ∧ b < T 2 := by omega
    have hbb := hI.2.2.1 b hr.1 hr.2
    obtain ⟨σ1, e1, g1, k1, n1⟩ := l_181c (b := b) (p3 := p3) hr 9 0 h σ (by omega) (by omega) hG
    obtain ⟨σ2, q2, e2, g2, k2, n2⟩ := l_181e (b := b) hr (T (89 + 5 * b + 1)).toNat 0 (st_fo (st_h3 T b) 9 0 h) σ1 p3 (by omega) (by omega) g1
    obtain ⟨σ3, r2, r3, e3, g3, k3, n3⟩ := ih (b + 1) (st_r3 T b h) σ2 (some (.inl (T (89 + 5 * b + 1)))) q2 (by omega) (by omega) g2
    refine ⟨σ3, r2, r3, ?_, by rw [st_fo_s (F := st_r3 T) (k := k) (i := b) (h := h) rfl]; exact g3, by rw [k3, k2, k1], st_N_t n1 (st_N_t n2 n3)⟩
    rw [← e3]
    clear e3 g3 k3 n3 ih hG g2 n2 k2 h1 hI g1 k1 n1
    rw [bk_181_5]
    repeat' (first | (simp (disch := first | assumption | exact Nat.le_of_ble_eq_true rfl | omega) only [bk_181_0, eo_1_0, eo_8, g11_31, eo_6, eo_3_1n, eo_3_1i, eo_3_1r, eo_53, eo_0_1, v11_2, ev_ki, ev_kv, eo_23_1n, eo_23_1i, eo_23_1r, eo_52, bk_181_2, g11_28_0, eo_12, eo_10, bk_181_4, eo_3_2n, eo_3_2i, eo_3_2r, eo_0_2, v11_3, eo_23_2n, eo_23_2i, eo_23_2r, bk_181_7, eo_3_3n, eo_3_3i, eo_3_3r, eo_0_3, v11_4, eo_23_3n, eo_23_3i, eo_23_3r, bk_181_10, bk_181_11, bk_181_12, v11_1, bk_181_15, g11_28_8, bk_181_16, bk_181_19, bk_181_20, g11_29, eo_57, a32_183, a32_189, m183, Int.add_zero, Int.add_sub_cancel, Int.reduceAdd, Int.reduceMul, Int.reduceSub, Int.reduceNeg, ev_wr_id]) | ((first | with_reducible refine br_40 ?_ ?_ | with_reducible refine br_41 ?_ ?_ | with_reducible refine br_42 ?_ ?_ | with_reducible refine br_43 ?_ ?_ | with_reducible refine br_44 ?_ ?_ | with_reducible refine br_45 ?_ ?_ | with_reducible refine br_46 ?_ ?_ | with_reducible refine br_47 ?_ ?_ | with_reducible refine br_48 ?_ ?_ | with_reducible refine br_49 ?_ ?_ | with_reducible refine br_50 ?_ ?_ | with_reducible refine br_51 ?_ ?_) <;> intro h <;> try simp (disch := first | assumption | exact Nat.le_of_ble_eq_true rfl | omega) only [ev_wr_id, not_true_eq_false, not_false_eq_true, Int.reduceEq, Int.reduceLT, Int.reduceLE, and_self, and_true, true_and, and_false, false_and, reduceIte] at h <;> try (exfalso; omega; done)))
    rw [e1, bk_181_7]
    repeat' (first | (simp (disch := first | assumption | exact Nat.le_of_ble_eq_true rfl | omega) only [bk_181_0, eo_1_0, eo_8, g11_31, eo_6, eo_3_1n, eo_3_1i, eo_3_1r, eo_53, eo_0_1, v11_2, ev_ki, ev_kv, eo_23_1n, eo_23_1i, eo_23_1r, eo_52, bk_181_2, g11_28_0, eo_12, eo_10, bk_181_4, eo_3_2n, eo_3_2i, eo_3_2r, eo_0_2, v11_3, eo_23_2n, eo_23_2i, eo_23_2r, bk_181_7, eo_3_3n, eo_3_3i, eo_3_3r, eo_0_3, v11_4, eo_23_3n, eo_23_3i, eo_23_3r, bk_181_10, bk_181_11, bk_181_12, v11_1, bk_181_15, g11_28_8, bk_181_16, bk_181_19, bk_181_20, g11_29, eo_57, a32_183, a32_189, Int.add_zero, Int.add_sub_cancel, Int.reduceAdd, Int.reduceMul, Int.reduceSub, Int.reduceNeg, ev_wr_id]) | ((first | with_reducible refine br_40 ?_ ?_ | with_reducible refine br_41 ?_ ?_ | with_reducible refine br_42 ?_ ?_ | with_reducible refine br_43 ?_ ?_ | with_reducible refine br_44 ?_ ?_ | with_reducible refine br_45 ?_ ?_ | with_reducible refine br_46 ?_ ?_ | with_reducible refine br_47 ?_ ?_ | with_reducible refine br_48 ?_ ?_ | with_reducible refine br_49 ?_ ?_ | with_reducible refine br_50 ?_ ?_ | with_reducible refine br_51 ?_ ?_) <;> intro h <;> try simp (disch := first | assumption | exact Nat.le_of_ble_eq_true rfl | omega) only [ev_wr_id, not_true_eq_false, not_false_eq_true, Int.reduceEq, Int.reduceLT, Int.reduceLE, and_self, and_true, true_and, and_false, false_and, reduceIte] at h <;> try (exfalso; omega; done)))
    rw [e2, bk_181_11]
    repeat' (first | (simp (disch := first | assumption | exact Nat.le_of_ble_eq_true rfl | omega) only [bk_181_0, eo_1_0, eo_8, g11_31, eo_6, eo_3_1n, eo_3_1i, eo_3_1r, eo_53, eo_0_1, v11_2, ev_ki, ev_kv, eo_23_1n, eo_23_1i, eo_23_1r, eo_52, bk_181_2, g11_28_0, eo_12, eo_10, bk_181_4, eo_3_2n, eo_3_2i, eo_3_2r, eo_0_2, v11_3, eo_23_2n, eo_23_2i, eo_23_2r, bk_181_7, eo_3_3n, eo_3_3i, eo_3_3r, eo_0_3, v11_4, eo_23_3n, eo_23_3i, eo_23_3r, bk_181_10, bk_181_11, bk_181_12, v11_1, bk_181_15, g11_28_8, bk_181_16, bk_181_19, bk_181_20, g11_29, eo_57, a32_183, a32_189, Int.add_zero, Int.add_sub_cancel, Int.reduceAdd, Int.reduceMul, Int.reduceSub, Int.reduceNeg, ev_wr_id]) | ((first | with_reducible refine br_40 ?_ ?_ | with_reducible refine br_41 ?_ ?_ | with_reducible refine br_42 ?_ ?_ | with_reducible refine br_43 ?_ ?_ | with_reducible refine br_44 ?_ ?_ | with_reducible refine br_45 ?_ ?_ | with_reducible refine br_46 ?_ ?_ | with_reducible refine br_47 ?_ ?_ | with_reducible refine br_48 ?_ ?_ | with_reducible refine br_49 ?_ ?_ | with_reducible refine br_50 ?_ ?_ | with_reducible refine br_51 ?_ ?_) <;> intro h <;> try simp (disch := first | assumption | exact Nat.le_of_ble_eq_true rfl | omega) only [ev_wr_id, not_true_eq_false, not_false_eq_true, Int.reduceEq, Int.reduceLT, Int.reduceLE, and_self, and_true, true_and, and_false, false_and, reduceIte] at h <;> try (exfalso; omega; done)))
theorem l_181h {T : Int → Int} : ∀ (k : Nat) (b : Int) (h : Int64) (σ : ev_M) (p2 p3 : Option ev_V), 0 ≤ b → b + k = T 3 → st_G2 T h σ → st_g9 T σ → ∃ σ1 q2, EB 181 13 [some (.inr (.inl 182)), some (.inl b), p2, p3] [] σ = EB 181 16 [some (.inr (.inl 182)), some (.inl (T 3)), q2, p3] [] σ1 ∧ st_G2 T (st_fo (st_r5 T) k b h) σ1 ∧ σ1 189 = σ 189 ∧ st_N σ σ1 := by
  intro k
  induction k with
  | zero =>
    intro b h σ p2 p3 h0 h1 hG hu
    have m183 := hG.1
    have i3 := hG.2.2.2.1.2.2.2.1
    obtain rfl : b = T 3 := by omega
    refine ⟨σ, p2, ?_, hG, rfl, st_N_r⟩
    clear hG hu
    rw [bk_181_13]
    repeat' (first | (simp (disch := first | assumption | exact Nat.le_of_ble_eq_true rfl | omega) only [bk_181_0, eo_1_0, eo_8, g11_31, eo_6, eo_3_1n, eo_3_1i, eo_3_1r, eo_53, eo_0_1, v11_2, ev_ki, ev_kv, eo_23_1n, eo_23_1i, eo_23_1r, eo_52, bk_181_2, g11_28_0, eo_12, eo_10, bk_181_4, eo_3_2n, eo_3_2i, eo_3_2r, eo_0_2, v11_3, eo_23_2n, eo_23_2i, eo_23_2r, bk_181_7, eo_3_3n, eo_3_3i, eo_3_3r, eo_0_3, v11_4, eo_23_3n, eo_23_3i, eo_23_3r, bk_181_10, bk_181_11, bk_181_12, v11_1, bk_181_15, g11_28_8, bk_181_19, bk_181_20, g11_29, eo_57, a32_183, a32_189, m183, Int.add_zero, Int.add_sub_cancel, Int.reduceAdd, Int.reduceMul, Int.reduceSub, Int.reduceNeg, ev_wr_id]) | ((first | with_reducible refine br_40 ?_ ?_ | with_reducible refine br_41 ?_ ?_ | with_reducible refine br_42 ?_ ?_ | with_reducible refine br_43 ?_ ?_ | with_reducible refine br_44 ?_ ?_ | with_reducible refine br_45 ?_ ?_ | with_reducible refine br_46 ?_ ?_ | with_reducible refine br_47 ?_ ?_ | with_reducible refine br_48 ?_ ?_ | with_reducible refine br_49 ?_ ?_ | with_reducible refine br_50 ?_ ?_ | with_reducible refine br_51 ?_ ?_) <;> intro h <;> try simp (disch := first | assumption | exact Nat.le_of_ble_eq_true rfl | omega) only [ev_wr_id, not_true_eq_false, not_false_eq_true, Int.reduceEq, Int.reduceLT, Int.reduceLE, and_self, and_true, true_and, and_false, false_and, reduceIte] at h <;> try (exfalso; omega; done)))
  | succ k ih =>
    intro b h σ p2 p3 h0 h1 hG hu
    have m183 := hG.1
    have hI := hG.2.2.2
    have i3 := hI.1.2.2.2.1
    have hr : 0 ≤ b ∧ b < T 3 := by omega
    obtain ⟨σ1, e1, g1, k1, n1⟩ := l_181g (b := b) (p3 := p3) hr 3 0 h σ (by omega) (by omega) hG
    have hub := (hu b hr.1 hr.2).1
    have w1 : σ1 189 b = st_ut T b := by rw [k1]; exact hub
    obtain ⟨σ2, e2, g2, k2, n2⟩ := d_180 (v := st_ut T b) g1
    obtain ⟨σ3, r2, e3, g3, k3, n3⟩ := ih (b + 1) (st_r5 T b h) σ2 (some (.inl 3)) p3 (by omega) (by omega) g2 (by unfold st_g9; rw [k2, k1]; exact hu)
    refine ⟨σ3, r2, ?_, by rw [st_fo_s (F := st_r5 T) (k := k) (i := b) (h := h) rfl]; exact g3, by rw [k3, k2, k1], st_N_t n1 (st_N_t n2 n3)⟩
    rw [← e3]
    clear e3 g3 k3 n3 ih hG g2 n2 k2 h1 hI g1 k1 n1 hu
    rw [bk_181_13]
    repeat' (first | (simp (disch := first | assumption | exact Nat.le_of_ble_eq_true rfl | omega) only [bk_181_0, eo_1_0, eo_8, g11_31, eo_6, eo_3_1n, eo_3_1i, eo_3_1r, eo_53, eo_0_1, v11_2, ev_ki, ev_kv, eo_23_1n, eo_23_1i, eo_23_1r, eo_52, bk_181_2, g11_28_0, eo_12, eo_10, bk_181_4, eo_3_2n, eo_3_2i, eo_3_2r, eo_0_2, v11_3, eo_23_2n, eo_23_2i, eo_23_2r, bk_181_7, eo_3_3n, eo_3_3i, eo_3_3r, eo_0_3, v11_4, eo_23_3n, eo_23_3i, eo_23_3r, bk_181_10, bk_181_11, bk_181_12, v11_1, bk_181_15, g11_28_8, bk_181_16, bk_181_19, bk_181_20, g11_29, eo_57, a32_183, a32_189, m183, Int.add_zero, Int.add_sub_cancel, Int.reduceAdd, Int.reduceMul, Int.reduceSub, Int.reduceNeg, ev_wr_id]) | ((first | with_reducible refine br_40 ?_ ?_ | with_reducible refine br_41 ?_ ?_ | with_reducible refine br_42 ?_ ?_ | with_reducible refine br_43 ?_ ?_ | with_reducible refine br_44 ?_ ?_ | with_reducible refine br_45 ?_ ?_ | with_reducible refine br_46 ?_ ?_ | with_reducible refine br_47 ?_ ?_ | with_reducible refine br_48 ?_ ?_ | with_reducible refine br_49 ?_ ?_ | with_reducible refine br_50 ?_ ?_ | with_reducible refine br_51 ?_ ?_) <;> intro h <;> try simp (disch := first | assumption | exact Nat.le_of_ble_eq_true rfl | omega) only [ev_wr_id, not_true_eq_false, not_false_eq_true, Int.reduceEq, Int.reduceLT, Int.reduceLE, and_self, and_true, true_and, and_false, false_and, reduceIte] at h <;> try (exfalso; omega; done)))
    rw [e1, bk_181_15]
    repeat' (first | (simp (disch := first | assumption | exact Nat.le_of_ble_eq_true rfl | omega) only [bk_181_0, eo_1_0, eo_8, g11_31, eo_6, eo_3_1n, eo_3_1i, eo_3_1r, eo_53, eo_0_1, v11_2, ev_ki, ev_kv, eo_23_1n, eo_23_1i, eo_23_1r, eo_52, bk_181_2, g11_28_0, eo_12, eo_10, bk_181_4, eo_3_2n, eo_3_2i, eo_3_2r, eo_0_2, v11_3, eo_23_2n, eo_23_2i, eo_23_2r, bk_181_7, eo_3_3n, eo_3_3i, eo_3_3r, eo_0_3, v11_4, eo_23_3n, eo_23_3i, eo_23_3r, bk_181_10, bk_181_11, bk_181_12, v11_1, bk_181_15, g11_28_8, bk_181_16, bk_181_19, bk_181_20, g11_29, eo_57, a32_183, a32_189, w1, e2, Int.add_zero, Int.add_sub_cancel, Int.reduceAdd, Int.reduceMul, Int.reduceSub, Int.reduceNeg, ev_wr_id]) | ((first | with_reducible refine br_40 ?_ ?_ | with_reducible refine br_41 ?_ ?_ | with_reducible refine br_42 ?_ ?_ | with_reducible refine br_43 ?_ ?_ | with_reducible refine br_44 ?_ ?_ | with_reducible refine br_45 ?_ ?_ | with_reducible refine br_46 ?_ ?_ | with_reducible refine br_47 ?_ ?_ | with_reducible refine br_48 ?_ ?_ | with_reducible refine br_49 ?_ ?_ | with_reducible refine br_50 ?_ ?_ | with_reducible refine br_51 ?_ ?_) <;> intro h <;> try simp (disch := first | assumption | exact Nat.le_of_ble_eq_true rfl | omega) only [ev_wr_id, not_true_eq_false, not_false_eq_true, Int.reduceEq, Int.reduceLT, Int.reduceLE, and_self, and_true, true_and, and_false, false_and, reduceIte] at h <;> try (exfalso; omega; done)))
theorem l_181j {T : Int → Int} : ∀ (k : Nat) (b : Int) (h : Int64) (σ : ev_M) (p2 p3 : Option ev_V), 0 ≤ b → b + k = T 4 → st_G2 T h σ → st_g9 T σ → ∃ σ1, EB 181 17 [some (.inr (.inl 182)), some (.inl b), p2, p3] [] σ = some (some (.inr (.inr (st_fo (st_r6 T) k b h))), σ1) ∧ st_G2 T (st_fo (st_r6 T) k b h) σ1 ∧ st_N σ σ1 := by
  intro k
  induction k with
  | zero =>
    intro b h σ p2 p3 h0 h1 hG hu
    have m183 := hG.1
    have i4 := hG.2.2.2.1.2.2.2.2.1
    obtain rfl : b = T 4 := by omega
    have e : Int64.ofInt (σ 182 14) = h := by rw [hG.2.1]; exact Int64.ofInt_toInt h
    refine ⟨σ, ?_, hG, st_N_r⟩
    rw [show st_fo (st_r6 T) 0 (T 4) h = h from rfl]
    clear hG hu
    rw [bk_181_17]
    repeat' (first | (simp (disch := first | assumption | exact Nat.le_of_ble_eq_true rfl | omega) only [bk_181_0, eo_1_0, eo_8, g11_31, eo_6, eo_3_1n, eo_3_1i, eo_3_1r, eo_53, eo_0_1, v11_2, ev_ki, ev_kv, eo_23_1n, eo_23_1i, eo_23_1r, eo_52, bk_181_2, g11_28_0, eo_12, eo_10, bk_181_4, eo_3_2n, eo_3_2i, eo_3_2r, eo_0_2, v11_3, eo_23_2n, eo_23_2i, eo_23_2r, bk_181_7, eo_3_3n, eo_3_3i, eo_3_3r, eo_0_3, v11_4, eo_23_3n, eo_23_3i, eo_23_3r, bk_181_10, bk_181_11, bk_181_12, v11_1, bk_181_15, g11_28_8, bk_181_16, bk_181_19, bk_181_20, g11_29, eo_57, a32_183, a32_189, m183, e, Int.add_zero, Int.add_sub_cancel, Int.reduceAdd, Int.reduceMul, Int.reduceSub, Int.reduceNeg, ev_wr_id]) | ((first | with_reducible refine br_40 ?_ ?_ | with_reducible refine br_41 ?_ ?_ | with_reducible refine br_42 ?_ ?_ | with_reducible refine br_43 ?_ ?_ | with_reducible refine br_44 ?_ ?_ | with_reducible refine br_45 ?_ ?_ | with_reducible refine br_46 ?_ ?_ | with_reducible refine br_47 ?_ ?_ | with_reducible refine br_48 ?_ ?_ | with_reducible refine br_49 ?_ ?_ | with_reducible refine br_50 ?_ ?_ | with_reducible refine br_51 ?_ ?_) <;> intro h <;> try simp (disch := first | assumption | exact Nat.le_of_ble_eq_true rfl | omega) only [ev_wr_id, not_true_eq_false, not_false_eq_true, Int.reduceEq, Int.reduceLT, Int.reduceLE, and_self, and_true, true_and, and_false, false_and, reduceIte] at h <;> try (exfalso; omega; done)))
  | succ k ih =>
    intro b h σ p2 p3 h0 h1 hG hu
    have m183 := hG.1
    have hI := hG.2.2.2
    have i4 := hI.1.2.2.2.2.1
    have hr : 0 ≤ b ∧ b < T 4 := by omega
    obtain ⟨σ1, e1, g1, k1, n1⟩ := l_181i (b := b) (p3 := p3) hr 7 0 h σ (by omega) (by omega) hG hu
    obtain ⟨σ3, e3, g3, n3⟩ := ih (b + 1) (st_r6 T b h) σ1 (some (.inl 7)) p3 (by omega) (by omega) g1 (by unfold st_g9; rw [k1]; exact hu)
    rw [st_fo_s (F := st_r6 T) (k := k) (i := b) (h := h) rfl]
    refine ⟨σ3, ?_, g3, st_N_t n1 n3⟩
    rw [← e3]
    clear e3 g3 n3 ih hG h1 hI g1 k1 n1 hu
    rw [bk_181_17]
    repeat' (first | (simp (disch := first | assumption | exact Nat.le_of_ble_eq_true rfl | omega) only [bk_181_0, eo_1_0, eo_8, g11_31, eo_6, eo_3_1n, eo_3_1i, eo_3_1r, eo_53, eo_0_1, v11_2, ev_ki, ev_kv, eo_23_1n, eo_23_1i, eo_23_1r, eo_52, bk_181_2, g11_28_0, eo_12, eo_10, bk_181_4, eo_3_2n, eo_3_2i, eo_3_2r, eo_0_2, v11_3, eo_23_2n, eo_23_2i, eo_23_2r, bk_181_7, eo_3_3n, eo_3_3i, eo_3_3r, eo_0_3, v11_4, eo_23_3n, eo_23_3i, eo_23_3r, bk_181_10, bk_181_11, bk_181_12, v11_1, bk_181_15, g11_28_8, bk_181_16, bk_181_19, bk_181_20, g11_29, eo_57, a32_183, a32_189, m183, Int.add_zero, Int.add_sub_cancel, Int.reduceAdd, Int.reduceMul, Int.reduceSub, Int.reduceNeg, ev_wr_id]) | ((first | with_reducible refine br_40 ?_ ?_ | with_reducible refine br_41 ?_ ?_ | with_reducible refine br_42 ?_ ?_ | with_reducible refine br_43 ?_ ?_ | with_reducible refine br_44 ?_ ?_ | with_reducible refine br_45 ?_ ?_ | with_reducible refine br_46 ?_ ?_ | with_reducible refine br_47 ?_ ?_ | with_reducible refine br_48 ?_ ?_ | with_reducible refine br_49 ?_ ?_ | with_reducible refine br_50 ?_ ?_ | with_reducible refine br_51 ?_ ?_) <;> intro h <;> try simp (disch := first | assumption | exact Nat.le_of_ble_eq_true rfl | omega) only [ev_wr_id, not_true_eq_false, not_false_eq_true, Int.reduceEq, Int.reduceLT, Int.reduceLE, and_self, and_true, true_and, and_false, false_and, reduceIte] at h <;> try (exfalso; omega; done)))
    rw [e1, bk_181_19]
    repeat' (first | (simp (disch := first | assumption | exact Nat.le_of_ble_eq_true rfl | omega) only [bk_181_0, eo_1_0, eo_8, g11_31, eo_6, eo_3_1n, eo_3_1i, eo_3_1r, eo_53, eo_0_1, v11_2, ev_ki, ev_kv, eo_23_1n, eo_23_1i, eo_23_1r, eo_52, bk_181_2, g11_28_0, eo_12, eo_10, bk_181_4, eo_3_2n, eo_3_2i, eo_3_2r, eo_0_2, v11_3, eo_23_2n, eo_23_2i, eo_23_2r, bk_181_7, eo_3_3n, eo_3_3i, eo_3_3r, eo_0_3, v11_4, eo_23_3n, eo_23_3i, eo_23_3r, bk_181_10, bk_181_11, bk_181_12, v11_1, bk_181_15, g11_28_8, bk_181_16, bk_181_19, bk_181_20, g11_29, eo_57, a32_183, a32_189, Int.add_zero, Int.add_sub_cancel, Int.reduceAdd, Int.reduceMul, Int.reduceSub, Int.reduceNeg, ev_wr_id]) | ((first | with_reducible refine br_40 ?_ ?_ | with_reducible refine br_41 ?_ ?_ | with_reducible refine br_42 ?_ ?_ | with_reducible refine br_43 ?_ ?_ | with_reducible refine br_44 ?_ ?_ | with_reducible refine br_45 ?_ ?_ | with_reducible refine br_46 ?_ ?_ | with_reducible refine br_47 ?_ ?_ | with_reducible refine br_48 ?_ ?_ | with_reducible refine br_49 ?_ ?_ | with_reducible refine br_50 ?_ ?_ | with_reducible refine br_51 ?_ ?_) <;> intro h <;> try simp (disch := first | assumption | exact Nat.le_of_ble_eq_true rfl | omega) only [ev_wr_id, not_true_eq_false, not_false_eq_true, Int.reduceEq, Int.reduceLT, Int.reduceLE, and_self, and_true, true_and, and_false, false_and, reduceIte] at h <;> try (exfalso; omega; done)))
theorem st_fo_rows {T : Int → Int} : ∀ (R : Nat) (r : Int) (h : Int64), st_fo (fun i h => st_nt h (T (9 + i))) (4 * R) (4 * r) h = st_fo (st_r2 T) R r h := by
  intro R
  induction R with
  | zero => intro r h; rfl
  | succ R ih =>
    intro r h
    rw [show 4 * (R + 1) = 4 * R + 1 + 1 + 1 + 1 by omega]
    show st_fo _ (4 * R) (4 * r + 1 + 1 + 1 + 1) (st_nt (st_nt (st_nt (st_nt h (T (9 + 4 * r))) (T (9 + (4 * r + 1)))) (T (9 + (4 * r + 1 + 1)))) (T (9 + (4 * r + 1 + 1 + 1)))) = st_fo (st_r2 T) R (r + 1) (st_nt (st_nt (st_nt (st_nt h (T (9 + 4 * r + 0))) (T (9 + 4 * r + (0 + 1)))) (T (9 + 4 * r + (0 + 1 + 1)))) (T (9 + 4 * r + (0 + 1 + 1 + 1))))
    rw [show 4 * r + 1 + 1 + 1 + 1 = 4 * (r + 1) by omega, ih, show 9 + (4 * r + 1 + 1 + 1) = 9 + 4 * r + (0 + 1 + 1 + 1) by omega, show 9 + (4 * r + 1 + 1) = 9 + 4 * r + (0 + 1 + 1) by omega, show 9 + (4 * r + 1) = 9 + 4 * r + (0 + 1) by omega, show 9 + 4 * r + 0 = 9 + 4 * r by omega]
theorem c_181 {T : Int → Int} {σ : ev_M} (h183 : σ 183 = T) (hI : st_I T) (a8 : ∀ r, 0 ≤ r → r ≤ 9 → σ 184 r = ev_ps r) : ∃ σ1, EM 181 [.inr (.inl 182)] σ = some (some (.inr (.inr (st_dig T))), σ1) ∧ st_N σ σ1 := by
  obtain ⟨i0, i1, i2, i3, i4, i5⟩ := hI.1
  obtain ⟨σ0, d0⟩ : ∃ z, z = ev_up σ 182 14 (Int64.ofInt 17).toInt := ⟨_, rfl⟩
  have g0 : st_G2 T (Int64.ofInt 17) σ0 := ⟨by rw [d0, ← h183]; funext z; exact ev_up_ne (by omega), by rw [d0]; exact ev_up_eq ⟨rfl, rfl⟩, fun r r0 r1 => by rw [d0, ev_up_ne (by omega)]; exact a8 r r0 r1, hI⟩
  have n0 : st_N σ σ0 := by
    rw [d0]
    exact ⟨fun i hi => by funext z; exact ev_up_ne (by omega), ev_up_ne (by omega), ev_up_ne (by omega), ev_up_ne (by omega), ev_up_ne (by omega), fun k _ _ => ev_up_ne (by omega)⟩
  obtain ⟨σ1, e1, g1, -, n1⟩ := l_181a (p2 := none) (p3 := none) 11 0 (Int64.ofInt 17) σ0 (by omega) (by omega) g0
  obtain ⟨σ2, e2, g2, -, n2⟩ := l_181b (p2 := none) (p3 := none) (4 * (T 1).toNat) 0 (st_fo (st_h1 T) 11 0 (Int64.ofInt 17)) σ1 (by omega) (by omega) g1
  have hrows := st_fo_rows (T := T) (T 1).toNat 0 (st_fo (st_h1 T) 11 0 (Int64.ofInt 17))
  rw [show (4 : Int) * 0 = 0 by omega] at hrows
  rw [hrows] at g2
  obtain ⟨σ3, p2, p3, e3, g3, -, n3⟩ := l_181f (T 2).toNat 0 (st_fo (st_r2 T) (T 1).toNat 0 (st_fo (st_h1 T) 11 0 (Int64.ofInt 17))) σ2 none none (by omega) (by omega) g2
  obtain ⟨c, g, e161, hw, hc⟩ := c_161 (σ := σ3) (by rw [g3.1]; exact hI)
  rw [g3.1] at hw
  obtain ⟨σ4, d4⟩ : ∃ z, z = st_v σ3 c g := ⟨_, rfl⟩
  rw [← d4] at e161
  have n4 : st_N σ3 σ4 := by rw [d4]; exact st_v_N
  have g4 : st_G2 T (st_fo (st_r3 T) (T 2).toNat 0 (st_fo (st_r2 T) (T 1).toNat 0 (st_fo (st_h1 T) 11 0 (Int64.ofInt 17)))) σ4 := ⟨by rw [d4, st_v_o (by omega)]; exact g3.1, by rw [d4, st_v_z (by omega)]; exact g3.2.1, by rw [d4, st_v_o (by omega)]; exact g3.2.2.1, hI⟩
  have hu : st_g9 T σ4 := fun k h0 h1 => by
    rw [d4, st_v_1]
    exact ⟨st_ut_e hI hw k h0 h1, st_aw_in hI hw k h0 h1⟩
  obtain ⟨σ5, p4, e5, g5, k5, n5⟩ := l_181h (T 3).toNat 0 (st_fo (st_r3 T) (T 2).toNat 0 (st_fo (st_r2 T) (T 1).toNat 0 (st_fo (st_h1 T) 11 0 (Int64.ofInt 17)))) σ4 p2 p3 (by omega) (by omega) g4 hu
  obtain ⟨σ6, e6, g6, n6⟩ := l_181j (T 4).toNat 0 (st_fo (st_r5 T) (T 3).toNat 0 (st_fo (st_r3 T) (T 2).toNat 0 (st_fo (st_r2 T) (T 1).toNat 0 (st_fo (st_h1 T) 11 0 (Int64.ofInt 17))))) σ5 p4 p3 (by omega) (by omega) g5 (by unfold st_g9; rw [k5]; exact hu)
  refine ⟨σ6, ?_, st_N_t n0 (st_N_t n1 (st_N_t n2 (st_N_t n3 (st_N_t n4 (st_N_t n5 n6)))))⟩
  unfold st_dig
  rw [← e6]
  have d0s := d0.symm
  clear e6 n1 n2 n3 n4 n5 n6 g1 g2 g3 g4 g5 g6 hu hw hI a8 n0 g0 hrows k5
  rw [mm_181]
  repeat' (first | (simp (disch := first | assumption | exact Nat.le_of_ble_eq_true rfl | omega) only [bk_181_0, eo_1_0, eo_8, g11_31, eo_6, eo_3_1n, eo_3_1i, eo_3_1r, eo_53, eo_0_1, v11_2, ev_ki, ev_kv, eo_23_1n, eo_23_1i, eo_23_1r, eo_52, bk_181_2, g11_28_0, eo_12, eo_10, bk_181_4, eo_3_2n, eo_3_2i, eo_3_2r, eo_0_2, v11_3, eo_23_2n, eo_23_2i, eo_23_2r, bk_181_7, eo_3_3n, eo_3_3i, eo_3_3r, eo_0_3, v11_4, eo_23_3n, eo_23_3i, eo_23_3r, bk_181_10, bk_181_11, bk_181_12, v11_1, bk_181_15, g11_28_8, bk_181_16, bk_181_19, bk_181_20, g11_29, eo_57, a32_183, a32_189, d0s, Int.add_zero, Int.add_sub_cancel, Int.reduceAdd, Int.reduceMul, Int.reduceSub, Int.reduceNeg, ev_wr_id]) | ((first | with_reducible refine br_40 ?_ ?_ | with_reducible refine br_41 ?_ ?_ | with_reducible refine br_42 ?_ ?_ | with_reducible refine br_43 ?_ ?_ | with_reducible refine br_44 ?_ ?_ | with_reducible refine br_45 ?_ ?_ | with_reducible refine br_46 ?_ ?_ | with_reducible refine br_47 ?_ ?_ | with_reducible refine br_48 ?_ ?_ | with_reducible refine br_49 ?_ ?_ | with_reducible refine br_50 ?_ ?_ | with_reducible refine br_51 ?_ ?_) <;> intro h <;> try simp (disch := first | assumption | exact Nat.le_of_ble_eq_true rfl | omega) only [ev_wr_id, not_true_eq_false, not_false_eq_true, Int.reduceEq, Int.reduceLT, Int.reduceLE, and_self, and_true, true_and, and_false, false_and, reduceIte] at h <;> try (exfalso; omega; done)))
  rw [e1, bk_181_2]
  repeat' (first | (simp (disch := first | assumption | exact Nat.le_of_ble_eq_true rfl | omega) only [bk_181_0, eo_1_0, eo_8, g11_31, eo_6, eo_3_1n, eo_3_1i, eo_3_1r, eo_53, eo_0_1, v11_2, ev_ki, ev_kv, eo_23_1n, eo_23_1i, eo_23_1r, eo_52, bk_181_2, g11_28_0, eo_12, eo_10, bk_181_4, eo_3_2n, eo_3_2i, eo_3_2r, eo_0_2, v11_3, eo_23_2n, eo_23_2i, eo_23_2r, bk_181_7, eo_3_3n, eo_3_3i, eo_3_3r, eo_0_3, v11_4, eo_23_3n, eo_23_3i, eo_23_3r, bk_181_10, bk_181_11, bk_181_12, v11_1, bk_181_15, g11_28_8, bk_181_16, bk_181_19, bk_181_20, g11_29, eo_57, a32_183, a32_189, Int.add_zero, Int.add_sub_cancel, Int.reduceAdd, Int.reduceMul, Int.reduceSub, Int.reduceNeg, ev_wr_id]) | ((first | with_reducible refine br_40 ?_ ?_ | with_reducible refine br_41 ?_ ?_ | with_reducible refine br_42 ?_ ?_ | with_reducible refine br_43 ?_ ?_ | with_reducible refine br_44 ?_ ?_ | with_reducible refine br_45 ?_ ?_ | with_reducible refine br_46 ?_ ?_ | with_reducible refine br_47 ?_ ?_ | with_reducible refine br_48 ?_ ?_ | with_reducible refine br_49 ?_ ?_ | with_reducible refine br_50 ?_ ?_ | with_reducible refine br_51 ?_ ?_) <;> intro h <;> try simp (disch := first | assumption | exact Nat.le_of_ble_eq_true rfl | omega) only [ev_wr_id, not_true_eq_false, not_false_eq_true, Int.reduceEq, Int.reduceLT, Int.reduceLE, and_self, and_true, true_and, and_false, false_and, reduceIte] at h <;> try (exfalso; omega; done)))
  rw [e2, bk_181_4]
  repeat' (first | (simp (disch := first | assumption | exact Nat.le_of_ble_eq_true rfl | omega) only [bk_181_0, eo_1_0, eo_8, g11_31, eo_6, eo_3_1n, eo_3_1i, eo_3_1r, eo_53, eo_0_1, v11_2, ev_ki, ev_kv, eo_23_1n, eo_23_1i, eo_23_1r, eo_52, bk_181_2, g11_28_0, eo_12, eo_10, bk_181_4, eo_3_2n, eo_3_2i, eo_3_2r, eo_0_2, v11_3, eo_23_2n, eo_23_2i, eo_23_2r, bk_181_7, eo_3_3n, eo_3_3i, eo_3_3r, eo_0_3, v11_4, eo_23_3n, eo_23_3i, eo_23_3r, bk_181_10, bk_181_11, bk_181_12, v11_1, bk_181_15, g11_28_8, bk_181_16, bk_181_19, bk_181_20, g11_29, eo_57, a32_183, a32_189, Int.add_zero, Int.add_sub_cancel, Int.reduceAdd, Int.reduceMul, Int.reduceSub, Int.reduceNeg, ev_wr_id]) | ((first | with_reducible refine br_40 ?_ ?_ | with_reducible refine br_41 ?_ ?_ | with_reducible refine br_42 ?_ ?_ | with_reducible refine br_43 ?_ ?_ | with_reducible refine br_44 ?_ ?_ | with_reducible refine br_45 ?_ ?_ | with_reducible refine br_46 ?_ ?_ | with_reducible refine br_47 ?_ ?_ | with_reducible refine br_48 ?_ ?_ | with_reducible refine br_49 ?_ ?_ | with_reducible refine br_50 ?_ ?_ | with_reducible refine br_51 ?_ ?_) <;> intro h <;> try simp (disch := first | assumption | exact Nat.le_of_ble_eq_true rfl | omega) only [ev_wr_id, not_true_eq_false, not_false_eq_true, Int.reduceEq, Int.reduceLT, Int.reduceLE, and_self, and_true, true_and, and_false, false_and, reduceIte] at h <;> try (exfalso; omega; done)))
  rw [e3, bk_181_12]
  repeat' (first | (simp (disch := first | assumption | exact Nat.le_of_ble_eq_true rfl | omega) only [bk_181_0, eo_1_0, eo_8, g11_31, eo_6, eo_3_1n, eo_3_1i, eo_3_1r, eo_53, eo_0_1, v11_2, ev_ki, ev_kv, eo_23_1n, eo_23_1i, eo_23_1r, eo_52, bk_181_2, g11_28_0, eo_12, eo_10, bk_181_4, eo_3_2n, eo_3_2i, eo_3_2r, eo_0_2, v11_3, eo_23_2n, eo_23_2i, eo_23_2r, bk_181_7, eo_3_3n, eo_3_3i, eo_3_3r, eo_0_3, v11_4, eo_23_3n, eo_23_3i, eo_23_3r, bk_181_10, bk_181_11, bk_181_12, v11_1, bk_181_15, g11_28_8, bk_181_16, bk_181_19, bk_181_20, g11_29, eo_57, a32_183, a32_189, e161, Int.add_zero, Int.add_sub_cancel, Int.reduceAdd, Int.reduceMul, Int.reduceSub, Int.reduceNeg, ev_wr_id]) | ((first | with_reducible refine br_40 ?_ ?_ | with_reducible refine br_41 ?_ ?_ | with_reducible refine br_42 ?_ ?_ | with_reducible refine br_43 ?_ ?_ | with_reducible refine br_44 ?_ ?_ | with_reducible refine br_45 ?_ ?_ | with_reducible refine br_46 ?_ ?_ | with_reducible refine br_47 ?_ ?_ | with_reducible refine br_48 ?_ ?_ | with_reducible refine br_49 ?_ ?_ | with_reducible refine br_50 ?_ ?_ | with_reducible refine br_51 ?_ ?_) <;> intro h <;> try simp (disch := first | assumption | exact Nat.le_of_ble_eq_true rfl | omega) only [ev_wr_id, not_true_eq_false, not_false_eq_true, Int.reduceEq, Int.reduceLT, Int.reduceLE, and_self, and_true, true_and, and_false, false_and, reduceIte] at h <;> try (exfalso; omega; done)))
  rw [e5, bk_181_16]
  repeat' (first | (simp (disch := first | assumption | exact Nat.le_of_ble_eq_true rfl | omega) only [bk_181_0, eo_1_0, eo_8, g11_31, eo_6, eo_3_1n, eo_3_1i, eo_3_1r, eo_53, eo_0_1, v11_2, ev_ki, ev_kv, eo_23_1n, eo_23_1i, eo_23_1r, eo_52, bk_181_2, g11_28_0, eo_12, eo_10, bk_181_4, eo_3_2n, eo_3_2i, eo_3_2r, eo_0_2, v11_3, eo_23_2n, eo_23_2i, eo_23_2r, bk_181_7, eo_3_3n, eo_3_3i, eo_3_3r, eo_0_3, v11_4, eo_23_3n, eo_23_3i, eo_23_3r, bk_181_10, bk_181_11, bk_181_12, v11_1, bk_181_15, g11_28_8, bk_181_16, bk_181_19, bk_181_20, g11_29, eo_57, a32_183, a32_189, Int.add_zero, Int.add_sub_cancel, Int.reduceAdd, Int.reduceMul, Int.reduceSub, Int.reduceNeg, ev_wr_id]) | ((first | with_reducible refine br_40 ?_ ?_ | with_reducible refine br_41 ?_ ?_ | with_reducible refine br_42 ?_ ?_ | with_reducible refine br_43 ?_ ?_ | with_reducible refine br_44 ?_ ?_ | with_reducible refine br_45 ?_ ?_ | with_reducible refine br_46 ?_ ?_ | with_reducible refine br_47 ?_ ?_ | with_reducible refine br_48 ?_ ?_ | with_reducible refine br_49 ?_ ?_ | with_reducible refine br_50 ?_ ?_ | with_reducible refine br_51 ?_ ?_) <;> intro h <;> try simp (disch := first | assumption | exact Nat.le_of_ble_eq_true rfl | omega) only [ev_wr_id, not_true_eq_false, not_false_eq_true, Int.reduceEq, Int.reduceLT, Int.reduceLE, and_self, and_true, true_and, and_false, false_and, reduceIte] at h <;> try (exfalso; omega; done)))
theorem pr_102 {σ : ev_M} (hJ : st_J σ) : st_P 102 181 [] σ := by
  obtain ⟨a1, a2, a3, a4, a5, a6, a7, a8⟩ := id hJ
  obtain ⟨σ1, e1, n1, g1⟩ := c_102 (T := σ 183) (σ := σ) ⟨a1, rfl, a2⟩
  obtain ⟨σ2, e2, n2⟩ := c_181 (T := σ 183) (σ := σ1) g1.2.1 a2 (by rw [n1.1 184 (by omega)]; exact a8)
  exact st_P_N hJ e1 e2 (st_N_t n1 n2)
