/-! calls of the award on both sides -/
theorem st_J_save3 {σ σa σ1 σb σ2 : ev_M} (h : st_J σ) (hC : st_HC σ σa) (h1 : ∀ i, st_k i → i ≠ 182 → σ1 i = σa i) (h1a : σ1 182 1 = σa 182 1) (h1b : σ1 182 11 = σa 182 11) (hM : st_HM σ1 σb) (h2 : ∀ i, st_k i → i ≠ 182 → i ≠ 183 → σ2 i = σb i) (h21 : σ2 182 1 = σb 182 1) (h22 : σ2 182 11 = σb 182 11) (h20 : ∀ i, 0 ≤ i → i ≤ 22 → σ2 i = σ1 i) (h3 : ∀ k, 338 ≤ k → k < 2028 → σ2 183 k = σb 183 k) (hT : st_E (st_T σ1 ev_n) (σ2 183)) (hI : st_I (σ2 183)) : st_J σ2 := by
  obtain ⟨a1, a2, a3, a4, a5, a6, a7, a8⟩ := h
  obtain ⟨c1, c2, c3, c4, c5⟩ := hC
  obtain ⟨m1, m2, m3, m4, m5, m6⟩ := hM
  have s1n : σ1 182 1 = σ 162 0 := by rw [h1a, c1 182 (by omega), a5]
  have hd : 0 ≤ st_d (σ 162 0) ∧ st_d (σ 162 0) ≤ 1 ∧ (σ 162 0 = 5 → st_d (σ 162 0) = 1) ∧ (σ 162 0 ≠ 5 → st_d (σ 162 0) = 0) := by
    unfold st_d
    split <;> omega
  rw [s1n] at m3 m5 m6
  have e162 : σ2 162 = σa 162 := by rw [h2 162 (by unfold st_k; omega) (by omega) (by omega), m1 162 (by omega) (by omega), h1 162 (by unfold st_k; omega) (by omega)]
  have e163 : σ2 163 = σa 163 := by rw [h2 163 (by unfold st_k; omega) (by omega) (by omega), m1 163 (by omega) (by omega), h1 163 (by unfold st_k; omega) (by omega)]
  have e2n : σ2 162 0 = σ 162 0 - st_d (σ 162 0) + 1 := by rw [e162, c3]
  have eF : ∀ i, 46 ≤ i → i < 161 → σ2 i = σa i := fun i q0 q1 => by rw [h2 i (by unfold st_k; omega) (by omega) (by omega), m1 i (by omega) (by omega), h1 i (by unfold st_k; omega) (by omega)]
  refine ⟨st_E_t (fun k k0 k1 => ?_) hT, hI, ?_, by omega, ?_, ?_, ?_, ?_⟩
  · exact st_T_congr (fun o q0 q1 => h20 _ (by unfold ev_n; omega) (by unfold ev_n; omega)) k k0 k1
  · unfold st_K
    rw [e163]
    exact c2
  · rw [h21, m3, e2n]
  · rw [e2n, e163]
    intro i i0 i1
    have hk := c2.1 i i0 (by omega)
    have hkS := hk.1
    unfold ev_S at hkS
    have hTa : st_E (st_T σ2 (σa 163 i)) (st_T σa (σa 163 i)) := st_T_congr (fun o q0 q1 => eF _ (by omega) (by omega))
    have hrow : st_E (fun k => σ2 183 (338 * (i + 1) + k)) (fun k => σb 183 (338 * (i + 1) + k)) := fun k k0 k1 => h3 _ (by omega) (by omega)
    have r183 : σ1 183 = σ 183 := by rw [h1 183 (by unfold st_k; omega) (by omega), c1 183 (by omega)]
    by_cases hlt : i < σ 162 0 - st_d (σ 162 0)
    · have ha := a6 (i + st_d (σ 162 0)) (by omega) (by omega)
      have hmr : st_E (fun k => σb 183 (338 * (i + 1) + k)) (fun k => σ 183 (338 * (i + st_d (σ 162 0) + 1) + k)) := fun k k0 k1 => by
        show σb 183 (338 * (i + 1) + k) = _
        rw [m5 i i0 hlt k k0 k1, r183]
      exact ⟨st_E_t hTa (st_E_t (c4 i i0 hlt) (st_E_t ha.1 (st_E_s (st_E_t hrow hmr)))), st_I_E (st_E_s (st_E_t hrow hmr)) ha.2⟩
    · obtain rfl : i = σ 162 0 - st_d (σ 162 0) := by omega
      have hmr : st_E (fun k => σb 183 (338 * (σ 162 0 - st_d (σ 162 0) + 1) + k)) (σ 183) := fun k k0 k1 => by
        show σb 183 (338 * (σ 162 0 - st_d (σ 162 0) + 1) + k) = _
        rw [m6 k k0 k1, r183]
      exact ⟨st_E_t hTa (st_E_t c5 (st_E_t a1 (st_E_s (st_E_t hrow hmr)))), st_I_E (st_E_s (st_E_t hrow hmr)) a2⟩
  · have e164 : σ2 164 = σ 164 := by rw [h2 164 (by unfold st_k; omega) (by omega) (by omega), m1 164 (by omega) (by omega), h1 164 (by unfold st_k; omega) (by omega), c1 164 (by omega)]
    have e165 : σ2 165 = σ 165 := by rw [h2 165 (by unfold st_k; omega) (by omega) (by omega), m1 165 (by omega) (by omega), h1 165 (by unfold st_k; omega) (by omega), c1 165 (by omega)]
    have e190 : σ2 190 = σ 190 := by rw [h2 190 (by unfold st_k; omega) (by omega) (by omega), m1 190 (by omega) (by omega), h1 190 (by unfold st_k; omega) (by omega), c1 190 (by omega)]
    have e11 : σ2 182 11 = σ 182 11 := by rw [h22, m2 11 (by omega), h1b, c1 182 (by omega)]
    unfold st_X
    rw [e164, e165, e190, e11]
    exact a7
  · rw [h2 184 (by unfold st_k; omega) (by omega) (by omega), m1 184 (by omega) (by omega), h1 184 (by unfold st_k; omega) (by omega), c1 184 (by omega)]
    exact a8
theorem st_w_N {σ : ev_M} {c : Int} {u t : Int → Int} : st_N σ (st_w σ c u t) := by
  refine ⟨fun i h => st_w_o (by omega), by rw [st_w_o (by omega)], by rw [st_w_o (by omega)], by rw [st_w_o (by omega)], by rw [st_w_o (by omega)], fun k _ _ => by rw [st_w_o (by omega)]⟩
def st_pf (T : Int → Int) (u : Int → Int) (b l : Int) : Int := if u l = b then st_co T l b else 0
def st_py (T : Int → Int) (u : Int → Int) (b : Int) : Int := if st_us u b (T 3).toNat = 1 then ev_ss (st_pf T u b) (T 3).toNat 0 0 + st_fe T b else 0
theorem l_4 {σ : ev_M} {b : Int} (a1 : st_E (st_T σ ev_n) (σ 183)) (a2 : st_I (σ 183)) (hb9 : 0 ≤ b ∧ b < σ 183 4) (hu : ∀ k, 0 ≤ k → k < σ 183 3 → -1 ≤ σ 180 k ∧ σ 180 k ≤ 2) : ∀ (k m : Nat) (l sum fl : Int), l = m → l + k = σ 183 3 → fl = st_us (σ 180) b m → EB 4 1 [some (.inr (.inl 179)), some (.inr (.inl ev_n)), some (.inl b), some (.inl sum), some (.inl fl), some (.inl l)] [] σ = some (some (.inl (if st_us (σ 180) b (σ 183 3).toNat = 1 then ev_ss (st_pf (σ 183) (σ 180) b) k l sum + st_fe (σ 183) b else 0)), σ) := by
  obtain ⟨t0, t1, t2, t3, t4, t5, t6, t7, t8, r2, r3, r4, r5, r7, r11, r8, r9, r10, r12, r13, r14, r15, r16, r18, r19, r20, r21, r22⟩ := st_rd a1; obtain ⟨⟨i0, i1, i2, i3, i4, i5⟩, hr, hb, hc, hp, hl, hq⟩ := id a2; have hSn := ev_S_n; have hn0 : ev_n = 0 := rfl
  intro k
  induction k with
  | zero =>
    intro m l sum fl hlm hl hfl
    rw [show (σ 183 3).toNat = m by omega, ← hfl, show ev_ss (st_pf (σ 183) (σ 180) b) 0 l sum = sum from rfl]
    have hf01 := st_us_in (a := σ 180) (b := b) m
    rw [← hfl] at hf01
    have e21 := r21 b hb9.1 (by omega)
    have hl2 : l = σ 183 3 := by omega
    clear hlm hl hfl
    unfold st_fe
    by_cases c1 : fl = 1
    · rw [if_pos c1, bk_4_1]
      repeat' (first | (simp (disch := first | assumption | exact Nat.le_of_ble_eq_true rfl | omega) only [bk_4_0, eo_6, eo_3_3n, eo_3_3i, eo_3_3r, eo_3_4n, eo_3_4i, eo_3_4r, eo_3_5n, eo_3_5i, eo_3_5r, eo_53, eo_0_5, eo_1_1, g7_28_2, g4_27, eo_1_0, g0_28_1, eo_0_2, eo_0_3, v7_3, ev_ki, ev_kv, eo_10, bk_4_2, eo_23_5n, eo_23_5i, eo_23_5r, eo_52, bk_4_3, eo_0_4, g4_28_5, bk_4_4, bk_4_5, eo_56i, a32_180, a32_s21, t3, e21, Int.add_zero, Int.add_sub_cancel, Int.reduceAdd, Int.reduceMul, Int.reduceSub, Int.reduceNeg, ev_wr_id]) | ((first | with_reducible refine br_40 ?_ ?_ | with_reducible refine br_41 ?_ ?_ | with_reducible refine br_42 ?_ ?_ | with_reducible refine br_43 ?_ ?_ | with_reducible refine br_44 ?_ ?_ | with_reducible refine br_45 ?_ ?_ | with_reducible refine br_46 ?_ ?_ | with_reducible refine br_47 ?_ ?_ | with_reducible refine br_48 ?_ ?_ | with_reducible refine br_49 ?_ ?_ | with_reducible refine br_50 ?_ ?_ | with_reducible refine br_51 ?_ ?_) <;> intro h <;> try simp (disch := first | assumption | exact Nat.le_of_ble_eq_true rfl | omega) only [ev_wr_id, not_true_eq_false, not_false_eq_true, Int.reduceEq, Int.reduceLT, Int.reduceLE, and_self, and_true, true_and, and_false, false_and, reduceIte] at h <;> try (exfalso; omega; done)))
    · rw [if_neg c1, bk_4_1]
      repeat' (first | (simp (disch := first | assumption | exact Nat.le_of_ble_eq_true rfl | omega) only [bk_4_0, eo_6, eo_3_3n, eo_3_3i, eo_3_3r, eo_3_4n, eo_3_4i, eo_3_4r, eo_3_5n, eo_3_5i, eo_3_5r, eo_53, eo_0_5, eo_1_1, g7_28_2, g4_27, eo_1_0, g0_28_1, eo_0_2, eo_0_3, v7_3, ev_ki, ev_kv, eo_10, bk_4_2, eo_23_5n, eo_23_5i, eo_23_5r, eo_52, bk_4_3, eo_0_4, g4_28_5, bk_4_4, bk_4_5, eo_56i, a32_180, a32_s21, t3, e21, Int.add_zero, Int.add_sub_cancel, Int.reduceAdd, Int.reduceMul, Int.reduceSub, Int.reduceNeg, ev_wr_id]) | ((first | with_reducible refine br_40 ?_ ?_ | with_reducible refine br_41 ?_ ?_ | with_reducible refine br_42 ?_ ?_ | with_reducible refine br_43 ?_ ?_ | with_reducible refine br_44 ?_ ?_ | with_reducible refine br_45 ?_ ?_ | with_reducible refine br_46 ?_ ?_ | with_reducible refine br_47 ?_ ?_ | with_reducible refine br_48 ?_ ?_ | with_reducible refine br_49 ?_ ?_ | with_reducible refine br_50 ?_ ?_ | with_reducible refine br_51 ?_ ?_) <;> intro h <;> try simp (disch := first | assumption | exact Nat.le_of_ble_eq_true rfl | omega) only [ev_wr_id, not_true_eq_false, not_false_eq_true, Int.reduceEq, Int.reduceLT, Int.reduceLE, and_self, and_true, true_and, and_false, false_and, reduceIte] at h <;> try (exfalso; omega; done)))
  | succ k ih =>
    intro m l sum fl hlm hl hfl
    have hf01 := st_us_in (a := σ 180) (b := b) m
    rw [← hfl] at hf01
    have hul := hu l (by omega) (by omega)
    have e1 := e_53 a1 a2 (l := l) (q := b) (by omega) hb9
    have hl0 : 0 ≤ l ∧ l < σ 183 3 := by omega
    by_cases c1 : σ 180 l = b
    · have e := ih (m + 1) (l + 1) (sum + st_co (σ 183) l b) 1 (by omega) (by omega) (by
        show 1 = if σ 180 m = b then 1 else st_us (σ 180) b m
        rw [← hlm, if_pos c1])
      rw [show ev_ss (st_pf (σ 183) (σ 180) b) (k + 1) l sum = ev_ss (st_pf (σ 183) (σ 180) b) k (l + 1) (sum + st_pf (σ 183) (σ 180) b l) from rfl, show st_pf (σ 183) (σ 180) b l = st_co (σ 183) l b from if_pos c1, ← e]
      clear e ih hlm hl hfl
      rw [bk_4_1]
      repeat' (first | (simp (disch := first | assumption | exact Nat.le_of_ble_eq_true rfl | omega) only [bk_4_0, eo_6, eo_3_3n, eo_3_3i, eo_3_3r, eo_3_4n, eo_3_4i, eo_3_4r, eo_3_5n, eo_3_5i, eo_3_5r, eo_53, eo_0_5, eo_1_1, g7_28_2, g4_27, eo_1_0, g0_28_1, eo_0_2, eo_0_3, v7_3, ev_ki, ev_kv, eo_10, bk_4_2, eo_23_5n, eo_23_5i, eo_23_5r, eo_52, bk_4_3, eo_0_4, g4_28_5, bk_4_4, bk_4_5, eo_56i, a32_180, a32_s21, t3, e1, Int.add_zero, Int.add_sub_cancel, Int.reduceAdd, Int.reduceMul, Int.reduceSub, Int.reduceNeg, ev_wr_id]) | ((first | with_reducible refine br_40 ?_ ?_ | with_reducible refine br_41 ?_ ?_ | with_reducible refine br_42 ?_ ?_ | with_reducible refine br_43 ?_ ?_ | with_reducible refine br_44 ?_ ?_ | with_reducible refine br_45 ?_ ?_ | with_reducible refine br_46 ?_ ?_ | with_reducible refine br_47 ?_ ?_ | with_reducible refine br_48 ?_ ?_ | with_reducible refine br_49 ?_ ?_ | with_reducible refine br_50 ?_ ?_ | with_reducible refine br_51 ?_ ?_) <;> intro h <;> try simp (disch := first | assumption | exact Nat.le_of_ble_eq_true rfl | omega) only [ev_wr_id, not_true_eq_false, not_false_eq_true, Int.reduceEq, Int.reduceLT, Int.reduceLE, and_self, and_true, true_and, and_false, false_and, reduceIte] at h <;> try (exfalso; omega; done)))
    · have e := ih (m + 1) (l + 1) sum fl (by omega) (by omega) (by
        show fl = if σ 180 m = b then 1 else st_us (σ 180) b m
        rw [← hlm, if_neg c1, hfl])
      rw [show ev_ss (st_pf (σ 183) (σ 180) b) (k + 1) l sum = ev_ss (st_pf (σ 183) (σ 180) b) k (l + 1) (sum + st_pf (σ 183) (σ 180) b l) from rfl, show st_pf (σ 183) (σ 180) b l = 0 from if_neg c1, Int.add_zero, ← e]
      clear e ih hlm hl hfl
      rw [bk_4_1]
      repeat' (first | (simp (disch := first | assumption | exact Nat.le_of_ble_eq_true rfl | omega) only [bk_4_0, eo_6, eo_3_3n, eo_3_3i, eo_3_3r, eo_3_4n, eo_3_4i, eo_3_4r, eo_3_5n, eo_3_5i, eo_3_5r, eo_53, eo_0_5, eo_1_1, g7_28_2, g4_27, eo_1_0, g0_28_1, eo_0_2, eo_0_3, v7_3, ev_ki, ev_kv, eo_10, bk_4_2, eo_23_5n, eo_23_5i, eo_23_5r, eo_52, bk_4_3, eo_0_4, g4_28_5, bk_4_4, bk_4_5, eo_56i, a32_180, a32_s21, t3, e1, Int.add_zero, Int.add_sub_cancel, Int.reduceAdd, Int.reduceMul, Int.reduceSub, Int.reduceNeg, ev_wr_id]) | ((first | with_reducible refine br_40 ?_ ?_ | with_reducible refine br_41 ?_ ?_ | with_reducible refine br_42 ?_ ?_ | with_reducible refine br_43 ?_ ?_ | with_reducible refine br_44 ?_ ?_ | with_reducible refine br_45 ?_ ?_ | with_reducible refine br_46 ?_ ?_ | with_reducible refine br_47 ?_ ?_ | with_reducible refine br_48 ?_ ?_ | with_reducible refine br_49 ?_ ?_ | with_reducible refine br_50 ?_ ?_ | with_reducible refine br_51 ?_ ?_) <;> intro h <;> try simp (disch := first | assumption | exact Nat.le_of_ble_eq_true rfl | omega) only [ev_wr_id, not_true_eq_false, not_false_eq_true, Int.reduceEq, Int.reduceLT, Int.reduceLE, and_self, and_true, true_and, and_false, false_and, reduceIte] at h <;> try (exfalso; omega; done)))
theorem c_4 {σ : ev_M} {b : Int} (a1 : st_E (st_T σ ev_n) (σ 183)) (a2 : st_I (σ 183)) (hb9 : 0 ≤ b ∧ b < σ 183 4) (hu : ∀ k, 0 ≤ k → k < σ 183 3 → -1 ≤ σ 180 k ∧ σ 180 k ≤ 2) : EM 4 [.inr (.inl 179), .inr (.inl ev_n), .inl b] σ = some (some (.inl (st_py (σ 183) (σ 180) b)), σ) := by
  have i3 := a2.1.2.2.2.1
  have e := l_4 a1 a2 hb9 hu (σ 183 3).toNat 0 0 0 0 rfl (by omega) rfl
  unfold st_py
  rw [mm_4, ← e]
  repeat' (first | (simp (disch := first | assumption | exact Nat.le_of_ble_eq_true rfl | omega) only [bk_4_0, eo_6, eo_3_3n, eo_3_3i, eo_3_3r, eo_3_4n, eo_3_4i, eo_3_4r, eo_3_5n, eo_3_5i, eo_3_5r, eo_53, eo_0_5, eo_1_1, g7_28_2, g4_27, eo_1_0, g0_28_1, eo_0_2, eo_0_3, v7_3, ev_ki, ev_kv, eo_10, bk_4_2, eo_23_5n, eo_23_5i, eo_23_5r, eo_52, bk_4_3, eo_0_4, g4_28_5, bk_4_4, bk_4_5, eo_56i, a32_180, a32_s21, c_53, Int.add_zero, Int.add_sub_cancel, Int.reduceAdd, Int.reduceMul, Int.reduceSub, Int.reduceNeg, ev_wr_id]) | ((first | with_reducible refine br_40 ?_ ?_ | with_reducible refine br_41 ?_ ?_ | with_reducible refine br_42 ?_ ?_ | with_reducible refine br_43 ?_ ?_ | with_reducible refine br_44 ?_ ?_ | with_reducible refine br_45 ?_ ?_ | with_reducible refine br_46 ?_ ?_ | with_reducible refine br_47 ?_ ?_ | with_reducible refine br_48 ?_ ?_ | with_reducible refine br_49 ?_ ?_ | with_reducible refine br_50 ?_ ?_ | with_reducible refine br_51 ?_ ?_) <;> intro h <;> try simp (disch := first | assumption | exact Nat.le_of_ble_eq_true rfl | omega) only [ev_wr_id, not_true_eq_false, not_false_eq_true, Int.reduceEq, Int.reduceLT, Int.reduceLE, and_self, and_true, true_and, and_false, false_and, reduceIte] at h <;> try (exfalso; omega; done)))
theorem st_py_eq {T : Int → Int} {u g : Int → Int} {b : Int} (h : ∀ k, 0 ≤ k → k < T 3 → u k = g k) : st_py T u b = st_py T g b := by
  unfold st_py
  rw [st_us_eq (a := u) (b := g) (T 3).toNat (fun k hk => h k (by omega) (by omega)), ev_ss_congr (f := st_pf T u b) (g := st_pf T g b) (T 3).toNat 0 0 (fun q h0 h1 => by unfold st_pf; rw [h q h0 (by omega)])]
theorem l_54 {σ : ev_M} {b : Int} (a1 : st_E (st_T σ ev_n) (σ 183)) (a2 : st_I (σ 183)) (hb9 : 0 ≤ b ∧ b < σ 183 4) : ∀ (k : Nat) (l sum : Int), 0 ≤ l → l + k = σ 183 3 → EB 54 3 [some (.inr (.inl ev_n)), some (.inl b), some (.inl sum), some (.inl l)] [] σ = some (some (.inl (ev_ss (fun l => st_co (σ 183) l b) k l sum)), σ) := by
  obtain ⟨t0, t1, t2, t3, t4, t5, t6, t7, t8, r2, r3, r4, r5, r7, r11, r8, r9, r10, r12, r13, r14, r15, r16, r18, r19, r20, r21, r22⟩ := st_rd a1; obtain ⟨⟨i0, i1, i2, i3, i4, i5⟩, hr, hb, hc, hp, hl, hq⟩ := id a2; have hSn := ev_S_n; have hn0 : ev_n = 0 := rfl
  intro k
  induction k with
  | zero =>
    intro l sum h0 hl
    rw [show ev_ss (fun l => st_co (σ 183) l b) 0 l sum = sum from rfl]
    have hl2 : l = σ 183 3 := by omega
    clear hl
    rw [bk_54_3]
    repeat' (first | (simp (disch := first | assumption | exact Nat.le_of_ble_eq_true rfl | omega) only [bk_54_0, eo_1_0, g7_28_2, g4_27, eo_6, eo_52, bk_54_1, g4_28_5, eo_0_1, eo_53, bk_54_2, eo_3_2n, eo_3_2i, eo_3_2r, eo_3_3n, eo_3_3i, eo_3_3r, eo_0_3, eo_0_2, v7_3, ev_ki, ev_kv, eo_10, eo_23_3n, eo_23_3i, eo_23_3r, bk_54_4, eo_56i, a32_s21, t3, Int.add_zero, Int.add_sub_cancel, Int.reduceAdd, Int.reduceMul, Int.reduceSub, Int.reduceNeg, ev_wr_id]) | ((first | with_reducible refine br_40 ?_ ?_ | with_reducible refine br_41 ?_ ?_ | with_reducible refine br_42 ?_ ?_ | with_reducible refine br_43 ?_ ?_ | with_reducible refine br_44 ?_ ?_ | with_reducible refine br_45 ?_ ?_ | with_reducible refine br_46 ?_ ?_ | with_reducible refine br_47 ?_ ?_ | with_reducible refine br_48 ?_ ?_ | with_reducible refine br_49 ?_ ?_ | with_reducible refine br_50 ?_ ?_ | with_reducible refine br_51 ?_ ?_) <;> intro h <;> try simp (disch := first | assumption | exact Nat.le_of_ble_eq_true rfl | omega) only [ev_wr_id, not_true_eq_false, not_false_eq_true, Int.reduceEq, Int.reduceLT, Int.reduceLE, and_self, and_true, true_and, and_false, false_and, reduceIte] at h <;> try (exfalso; omega; done)))
  | succ k ih =>
    intro l sum h0 hl
    have e1 := e_53 a1 a2 (l := l) (q := b) (by omega) hb9
    have hl0 : 0 ≤ l ∧ l < σ 183 3 := by omega
    have e := ih (l + 1) (sum + st_co (σ 183) l b) (by omega) (by omega)
    rw [show ev_ss (fun l => st_co (σ 183) l b) (k + 1) l sum = ev_ss (fun l => st_co (σ 183) l b) k (l + 1) (sum + st_co (σ 183) l b) from rfl, ← e]
    clear e ih hl
    rw [bk_54_3]
    repeat' (first | (simp (disch := first | assumption | exact Nat.le_of_ble_eq_true rfl | omega) only [bk_54_0, eo_1_0, g7_28_2, g4_27, eo_6, eo_52, bk_54_1, g4_28_5, eo_0_1, eo_53, bk_54_2, eo_3_2n, eo_3_2i, eo_3_2r, eo_3_3n, eo_3_3i, eo_3_3r, eo_0_3, eo_0_2, v7_3, ev_ki, ev_kv, eo_10, eo_23_3n, eo_23_3i, eo_23_3r, bk_54_4, eo_56i, a32_s21, t3, e1, Int.add_zero, Int.add_sub_cancel, Int.reduceAdd, Int.reduceMul, Int.reduceSub, Int.reduceNeg, ev_wr_id]) | ((first | with_reducible refine br_40 ?_ ?_ | with_reducible refine br_41 ?_ ?_ | with_reducible refine br_42 ?_ ?_ | with_reducible refine br_43 ?_ ?_ | with_reducible refine br_44 ?_ ?_ | with_reducible refine br_45 ?_ ?_ | with_reducible refine br_46 ?_ ?_ | with_reducible refine br_47 ?_ ?_ | with_reducible refine br_48 ?_ ?_ | with_reducible refine br_49 ?_ ?_ | with_reducible refine br_50 ?_ ?_ | with_reducible refine br_51 ?_ ?_) <;> intro h <;> try simp (disch := first | assumption | exact Nat.le_of_ble_eq_true rfl | omega) only [ev_wr_id, not_true_eq_false, not_false_eq_true, Int.reduceEq, Int.reduceLT, Int.reduceLE, and_self, and_true, true_and, and_false, false_and, reduceIte] at h <;> try (exfalso; omega; done)))
def st_pa (T : Int → Int) (b : Int) : Int := if 0 < T 3 then ev_ss (fun l => st_co T l b) (T 3).toNat 0 0 + st_fe T b else 0
theorem c_54 {σ : ev_M} {b : Int} (a1 : st_E (st_T σ ev_n) (σ 183)) (a2 : st_I (σ 183)) (hb9 : 0 ≤ b ∧ b < σ 183 4) : EM 54 [.inr (.inl ev_n), .inl b] σ = some (some (.inl (st_pa (σ 183) b)), σ) := by
  obtain ⟨t0, t1, t2, t3, t4, t5, t6, t7, t8, r2, r3, r4, r5, r7, r11, r8, r9, r10, r12, r13, r14, r15, r16, r18, r19, r20, r21, r22⟩ := st_rd a1; obtain ⟨⟨i0, i1, i2, i3, i4, i5⟩, hr, hb, hc, hp, hl, hq⟩ := id a2; have hSn := ev_S_n; have hn0 : ev_n = 0 := rfl
  have e21 := r21 b hb9.1 (by omega)
  unfold st_pa
  rw [mm_54]
  by_cases c1 : 0 < σ 183 3
  · have e := l_54 a1 a2 hb9 (σ 183 3).toNat 0 (0 + σ 183 (323 + 5 * b)) (by omega) (by omega)
    rw [ev_ss_acc, Int.zero_add] at e
    rw [if_pos c1]
    unfold st_fe
    rw [← e]
    repeat' (first | (simp (disch := first | assumption | exact Nat.le_of_ble_eq_true rfl | omega) only [bk_54_0, eo_1_0, g7_28_2, g4_27, eo_6, eo_52, bk_54_1, g4_28_5, eo_0_1, eo_53, bk_54_2, eo_3_2n, eo_3_2i, eo_3_2r, eo_3_3n, eo_3_3i, eo_3_3r, eo_0_3, eo_0_2, v7_3, ev_ki, ev_kv, eo_10, eo_23_3n, eo_23_3i, eo_23_3r, bk_54_4, eo_56i, a32_s21, t3, e21, Int.add_zero, Int.add_sub_cancel, Int.reduceAdd, Int.reduceMul, Int.reduceSub, Int.reduceNeg, ev_wr_id]) | ((first | with_reducible refine br_40 ?_ ?_ | with_reducible refine br_41 ?_ ?_ | with_reducible refine br_42 ?_ ?_ | with_reducible refine br_43 ?_ ?_ | with_reducible refine br_44 ?_ ?_ | with_reducible refine br_45 ?_ ?_ | with_reducible refine br_46 ?_ ?_ | with_reducible refine br_47 ?_ ?_ | with_reducible refine br_48 ?_ ?_ | with_reducible refine br_49 ?_ ?_ | with_reducible refine br_50 ?_ ?_ | with_reducible refine br_51 ?_ ?_) <;> intro h <;> try simp (disch := first | assumption | exact Nat.le_of_ble_eq_true rfl | omega) only [ev_wr_id, not_true_eq_false, not_false_eq_true, Int.reduceEq, Int.reduceLT, Int.reduceLE, and_self, and_true, true_and, and_false, false_and, reduceIte] at h <;> try (exfalso; omega; done)))
  · have e := l_54 a1 a2 hb9 0 0 0 (by omega) (by omega)
    rw [if_neg c1]
    rw [show ev_ss (fun l => st_co (σ 183) l b) 0 0 0 = 0 from rfl] at e
    have c2 : σ 183 3 = 0 := by omega
    rw [← e]
    repeat' (first | (simp (disch := first | assumption | exact Nat.le_of_ble_eq_true rfl | omega) only [bk_54_0, eo_1_0, g7_28_2, g4_27, eo_6, eo_52, bk_54_1, g4_28_5, eo_0_1, eo_53, bk_54_2, eo_3_2n, eo_3_2i, eo_3_2r, eo_3_3n, eo_3_3i, eo_3_3r, eo_0_3, eo_0_2, v7_3, ev_ki, ev_kv, eo_10, eo_23_3n, eo_23_3i, eo_23_3r, bk_54_4, eo_56i, a32_s21, t3, c2, Int.add_zero, Int.add_sub_cancel, Int.reduceAdd, Int.reduceMul, Int.reduceSub, Int.reduceNeg, ev_wr_id]) | ((first | with_reducible refine br_40 ?_ ?_ | with_reducible refine br_41 ?_ ?_ | with_reducible refine br_42 ?_ ?_ | with_reducible refine br_43 ?_ ?_ | with_reducible refine br_44 ?_ ?_ | with_reducible refine br_45 ?_ ?_ | with_reducible refine br_46 ?_ ?_ | with_reducible refine br_47 ?_ ?_ | with_reducible refine br_48 ?_ ?_ | with_reducible refine br_49 ?_ ?_ | with_reducible refine br_50 ?_ ?_ | with_reducible refine br_51 ?_ ?_) <;> intro h <;> try simp (disch := first | assumption | exact Nat.le_of_ble_eq_true rfl | omega) only [ev_wr_id, not_true_eq_false, not_false_eq_true, Int.reduceEq, Int.reduceLT, Int.reduceLE, and_self, and_true, true_and, and_false, false_and, reduceIte] at h <;> try (exfalso; omega; done)))
