/-! recorded calls that also use scratch rows -/
def st_k (i : Int) : Prop := (46 ≤ i ∧ i ≤ 160) ∨ i = 162 ∨ i = 163 ∨ i = 164 ∨ i = 165 ∨ i = 182 ∨ i = 183 ∨ i = 184 ∨ i = 190
/-- a recorded call on both sides -/
theorem st_J_save2 {σ σa σ1 σb σ2 : ev_M} (h : st_J σ) (hC : st_HC σ σa) (h1 : ∀ i, st_k i → σ1 i = σa i) (hM : st_HM σ1 σb) (h2 : ∀ i, st_k i → i ≠ 182 → i ≠ 183 → σ2 i = σb i) (h21 : σ2 182 1 = σb 182 1) (h22 : σ2 182 11 = σb 182 11) (h20 : ∀ i, 0 ≤ i → i ≤ 22 → σ2 i = σ1 i) (h3 : ∀ k, 338 ≤ k → k < 2028 → σ2 183 k = σb 183 k) (hT : st_E (st_T σ1 ev_n) (σ2 183)) (hI : st_I (σ2 183)) : st_J σ2 := by
  obtain ⟨a1, a2, a3, a4, a5, a6, a7, a8⟩ := h
  obtain ⟨c1, c2, c3, c4, c5⟩ := hC
  obtain ⟨m1, m2, m3, m4, m5, m6⟩ := hM
  have s1n : σ1 182 1 = σ 162 0 := by rw [h1 182 (by unfold st_k; omega), c1 182 (by omega), a5]
  have hd : 0 ≤ st_d (σ 162 0) ∧ st_d (σ 162 0) ≤ 1 ∧ (σ 162 0 = 5 → st_d (σ 162 0) = 1) ∧ (σ 162 0 ≠ 5 → st_d (σ 162 0) = 0) := by
    unfold st_d
    split <;> omega
  rw [s1n] at m3 m5 m6
  have e162 : σ2 162 = σa 162 := by rw [h2 162 (by unfold st_k; omega) (by omega) (by omega), m1 162 (by omega) (by omega), h1 162 (by unfold st_k; omega)]
  have e163 : σ2 163 = σa 163 := by rw [h2 163 (by unfold st_k; omega) (by omega) (by omega), m1 163 (by omega) (by omega), h1 163 (by unfold st_k; omega)]
  have e2n : σ2 162 0 = σ 162 0 - st_d (σ 162 0) + 1 := by rw [e162, c3]
  have eF : ∀ i, 46 ≤ i → i < 161 → σ2 i = σa i := fun i q0 q1 => by rw [h2 i (by unfold st_k; omega) (by omega) (by omega), m1 i (by omega) (by omega), h1 i (by unfold st_k; omega)]
  refine ⟨st_E_t (fun k k0 k1 => ?_) hT, hI, ?_, by omega, ?_, ?_, ?_, ?_⟩
  · exact st_T_congr (fun o q0 q1 => h20 _ (by unfold ev_n; omega) (by unfold ev_n; omega)) k k0 k1
  · unfold st_K
    rw [e163]
    exact c2
  · rw [h21, m3, e2n]
  · rw [e2n, e163]
    intro i i0 i1
    have hk := c2.1 i i0 (by omega)
    have hkS := hk.1
    unfold ev_S at hkS
    have hTa : st_E (st_T σ2 (σa 163 i)) (st_T σa (σa 163 i)) := st_T_congr (fun o q0 q1 => eF _ (by omega) (by omega))
    have hrow : st_E (fun k => σ2 183 (338 * (i + 1) + k)) (fun k => σb 183 (338 * (i + 1) + k)) := fun k k0 k1 => h3 _ (by omega) (by omega)
    have r183 : σ1 183 = σ 183 := by rw [h1 183 (by unfold st_k; omega), c1 183 (by omega)]
    by_cases hlt : i < σ 162 0 - st_d (σ 162 0)
    · have ha := a6 (i + st_d (σ 162 0)) (by omega) (by omega)
      have hmr : st_E (fun k => σb 183 (338 * (i + 1) + k)) (fun k => σ 183 (338 * (i + st_d (σ 162 0) + 1) + k)) := fun k k0 k1 => by
        show σb 183 (338 * (i + 1) + k) = _
        rw [m5 i i0 hlt k k0 k1, r183]
      exact ⟨st_E_t hTa (st_E_t (c4 i i0 hlt) (st_E_t ha.1 (st_E_s (st_E_t hrow hmr)))), st_I_E (st_E_s (st_E_t hrow hmr)) ha.2⟩
    · obtain rfl : i = σ 162 0 - st_d (σ 162 0) := by omega
      have hmr : st_E (fun k => σb 183 (338 * (σ 162 0 - st_d (σ 162 0) + 1) + k)) (σ 183) := fun k k0 k1 => by
        show σb 183 (338 * (σ 162 0 - st_d (σ 162 0) + 1) + k) = _
        rw [m6 k k0 k1, r183]
      exact ⟨st_E_t hTa (st_E_t c5 (st_E_t a1 (st_E_s (st_E_t hrow hmr)))), st_I_E (st_E_s (st_E_t hrow hmr)) a2⟩
  · have e164 : σ2 164 = σ 164 := by rw [h2 164 (by unfold st_k; omega) (by omega) (by omega), m1 164 (by omega) (by omega), h1 164 (by unfold st_k; omega), c1 164 (by omega)]
    have e165 : σ2 165 = σ 165 := by rw [h2 165 (by unfold st_k; omega) (by omega) (by omega), m1 165 (by omega) (by omega), h1 165 (by unfold st_k; omega), c1 165 (by omega)]
    have e190 : σ2 190 = σ 190 := by rw [h2 190 (by unfold st_k; omega) (by omega) (by omega), m1 190 (by omega) (by omega), h1 190 (by unfold st_k; omega), c1 190 (by omega)]
    have e11 : σ2 182 11 = σ 182 11 := by rw [h22, m2 11 (by omega), h1 182 (by unfold st_k; omega), c1 182 (by omega)]
    unfold st_X
    rw [e164, e165, e190, e11]
    exact a7
  · rw [h2 184 (by unfold st_k; omega) (by omega) (by omega), m1 184 (by omega) (by omega), h1 184 (by unfold st_k; omega), c1 184 (by omega)]
    exact a8
/-- saving on both sides, and what is to be shown behind it -/
theorem st_sv2 {σ : ev_M} (hJ : st_J σ) : ∃ σa, EM 26 [.inr (.inl 162), .inr (.inl ev_n)] σ = some (none, σa) ∧ (∀ i, i < 46 ∨ 163 < i → σa i = σ i) ∧ ∀ σ1, (∀ i, st_k i → σ1 i = σa i) → ∃ σb, EM 108 [.inr (.inl 182)] σ1 = some (none, σb) ∧ (∀ i, i ≠ 182 → i ≠ 183 → σb i = σ1 i) ∧ st_E (st_T σa ev_n) (σb 183) ∧ st_I (σb 183) ∧ (∀ k, 0 ≤ k → k < 338 → σb 183 k = σ 183 k) ∧ ∀ σ2, (∀ i, st_k i → i ≠ 182 → i ≠ 183 → σ2 i = σb i) → σ2 182 1 = σb 182 1 → σ2 182 11 = σb 182 11 → (∀ i, 0 ≤ i → i ≤ 22 → σ2 i = σ1 i) → (∀ k, 338 ≤ k → k < 2028 → σ2 183 k = σb 183 k) → st_E (st_T σ1 ev_n) (σ2 183) → st_I (σ2 183) → st_J σ2 := by
  obtain ⟨a1, a2, a3, a4, a5, a6, a7, a8⟩ := id hJ
  have hcl : ∀ b, 0 ≤ b → b < 6 → 0 ≤ σ (ev_n + 10) b ∧ σ (ev_n + 10) b ≤ 1 := fun b h0 h1 => by
    rw [tr_10 (σ := σ) (s := ev_n) ⟨h0, h1⟩, a1 _ (by omega) (by omega)]
    exact a2.2.2.2.1 b h0 h1
  obtain ⟨σa, e26, hC⟩ := c_26 a3 a4 hcl
  refine ⟨σa, e26, hC.1, fun σ1 h1 => ?_⟩
  have s1n : σ1 182 1 = σ 162 0 := by rw [h1 182 (by unfold st_k; omega), hC.1 182 (by omega), a5]
  obtain ⟨σb, e108, hM⟩ := c_108 (σ := σ1) (by omega)
  have hb : ∀ k, 0 ≤ k → k < 338 → σb 183 k = σ 183 k := fun k h0 h2 => by rw [hM.2.2.2.1 k h0 h2, h1 183 (by unfold st_k; omega), hC.1 183 (by omega)]
  have hE : st_E (σb 183) (σ 183) := hb
  refine ⟨σb, e108, hM.1, ?_, st_I_E (st_E_s hE) a2, hb, fun σ2 q1 q2 q3 q4 q5 q6 q7 => st_J_save2 hJ hC h1 hM q1 q2 q3 q4 q5 q6 q7⟩
  · refine st_E_t (fun k h0 h1 => ?_) (st_E_t a1 (st_E_s hE))
    exact st_T_congr (fun o q0 q1 => hC.1 _ (by unfold ev_n; omega)) k h0 h1
theorem ev_ua_comm {σ : ev_M} {i k : Int} {f g : Int → Int} (h : i ≠ k) : ev_ua (ev_ua σ i f) k g = ev_ua (ev_ua σ k g) i f := by
  funext a b
  unfold ev_ua
  by_cases c : a = k
  · subst c
    simp [Ne.symm h]
  · simp [c]
theorem st_part {σ : ev_M} {b c q : Int} (hI : st_I (σ 183)) (hb : 0 ≤ b ∧ b < σ 183 2) (hc : 0 ≤ c ∧ c < σ 183 (89 + 5 * b + 1)) (hq : 0 ≤ q ∧ q ≤ 5) : ∃ g v, EM 135 [.inr (.inl 182), .inl b, .inl c, .inl q] σ = some (some (.inl v), ev_ua σ 185 g) ∧ v = if q < 4 then σ 183 (119 + 30 * b + 5 * c + q) else if q = 4 then ev_sf (fun c => σ 183 (119 + 30 * b + 5 * c + 1)) (fun c => σ 183 (119 + 30 * b + 5 * c + 4)) (σ 183 (89 + 5 * b + 1)) (σ 183 (89 + 5 * b + 1)).toNat c else σ 183 (119 + 30 * b + 5 * c + 4) := by
  obtain ⟨g, e, hg⟩ := c_117T hI hb
  have hbb := hI.2.2.1 b hb.1 hb.2
  have i2 := hI.1.2.2.1
  refine ⟨g, _, ?_, rfl⟩
  rw [mm_135]
  by_cases c1 : q < 4
  · rw [if_pos c1]
    repeat' (first | (simp (disch := first | assumption | exact Nat.le_of_ble_eq_true rfl | omega) only [bk_135_0, eo_1_0, eo_0_1, v11_2, ev_ki, ev_kv, eo_3_4n, eo_3_4i, eo_3_4r, eo_0_3, eo_6, eo_0_2, v11_4, eo_52, bk_135_1, g11_28_3, bk_135_2, eo_53, bk_135_3, eo_56i, a32_185, c_115, e, ev_ua_ne, Int.add_zero, Int.add_sub_cancel, Int.reduceAdd, Int.reduceMul, Int.reduceSub, Int.reduceNeg, ev_wr_id]) | ((first | with_reducible refine br_40 ?_ ?_ | with_reducible refine br_41 ?_ ?_ | with_reducible refine br_42 ?_ ?_ | with_reducible refine br_43 ?_ ?_ | with_reducible refine br_44 ?_ ?_ | with_reducible refine br_45 ?_ ?_ | with_reducible refine br_46 ?_ ?_ | with_reducible refine br_47 ?_ ?_ | with_reducible refine br_48 ?_ ?_ | with_reducible refine br_49 ?_ ?_ | with_reducible refine br_50 ?_ ?_ | with_reducible refine br_51 ?_ ?_) <;> intro h <;> try simp (disch := first | assumption | exact Nat.le_of_ble_eq_true rfl | omega) only [ev_wr_id, not_true_eq_false, not_false_eq_true, Int.reduceEq, Int.reduceLT, Int.reduceLE, and_self, and_true, true_and, and_false, false_and, reduceIte] at h <;> try (exfalso; omega; done)))
  · rw [if_neg c1]
    by_cases c2 : q = 4
    · rw [if_pos c2, ← hg c hc.1 hc.2]
      repeat' (first | (simp (disch := first | assumption | exact Nat.le_of_ble_eq_true rfl | omega) only [bk_135_0, eo_1_0, eo_0_1, v11_2, ev_ki, ev_kv, eo_3_4n, eo_3_4i, eo_3_4r, eo_0_3, eo_6, eo_0_2, v11_4, eo_52, bk_135_1, g11_28_3, bk_135_2, eo_53, bk_135_3, eo_56i, a32_185, c_115, e, ev_ua_eq, Int.add_zero, Int.add_sub_cancel, Int.reduceAdd, Int.reduceMul, Int.reduceSub, Int.reduceNeg, ev_wr_id]) | ((first | with_reducible refine br_40 ?_ ?_ | with_reducible refine br_41 ?_ ?_ | with_reducible refine br_42 ?_ ?_ | with_reducible refine br_43 ?_ ?_ | with_reducible refine br_44 ?_ ?_ | with_reducible refine br_45 ?_ ?_ | with_reducible refine br_46 ?_ ?_ | with_reducible refine br_47 ?_ ?_ | with_reducible refine br_48 ?_ ?_ | with_reducible refine br_49 ?_ ?_ | with_reducible refine br_50 ?_ ?_ | with_reducible refine br_51 ?_ ?_) <;> intro h <;> try simp (disch := first | assumption | exact Nat.le_of_ble_eq_true rfl | omega) only [ev_wr_id, not_true_eq_false, not_false_eq_true, Int.reduceEq, Int.reduceLT, Int.reduceLE, and_self, and_true, true_and, and_false, false_and, reduceIte] at h <;> try (exfalso; omega; done)))
    · rw [if_neg c2]
      repeat' (first | (simp (disch := first | assumption | exact Nat.le_of_ble_eq_true rfl | omega) only [bk_135_0, eo_1_0, eo_0_1, v11_2, ev_ki, ev_kv, eo_3_4n, eo_3_4i, eo_3_4r, eo_0_3, eo_6, eo_0_2, v11_4, eo_52, bk_135_1, g11_28_3, bk_135_2, eo_53, bk_135_3, eo_56i, a32_185, c_115, e, ev_ua_ne, Int.add_zero, Int.add_sub_cancel, Int.reduceAdd, Int.reduceMul, Int.reduceSub, Int.reduceNeg, ev_wr_id]) | ((first | with_reducible refine br_40 ?_ ?_ | with_reducible refine br_41 ?_ ?_ | with_reducible refine br_42 ?_ ?_ | with_reducible refine br_43 ?_ ?_ | with_reducible refine br_44 ?_ ?_ | with_reducible refine br_45 ?_ ?_ | with_reducible refine br_46 ?_ ?_ | with_reducible refine br_47 ?_ ?_ | with_reducible refine br_48 ?_ ?_ | with_reducible refine br_49 ?_ ?_ | with_reducible refine br_50 ?_ ?_ | with_reducible refine br_51 ?_ ?_) <;> intro h <;> try simp (disch := first | assumption | exact Nat.le_of_ble_eq_true rfl | omega) only [ev_wr_id, not_true_eq_false, not_false_eq_true, Int.reduceEq, Int.reduceLT, Int.reduceLE, and_self, and_true, true_and, and_false, false_and, reduceIte] at h <;> try (exfalso; omega; done)))
theorem pr_78 {σ : ev_M} {b c q : Int} (hJ : st_J σ) (hb9 : -2147483648 ≤ b ∧ b ≤ 2147483647) (hc9 : -2147483648 ≤ c ∧ c ≤ 2147483647) (hq9 : -2147483648 ≤ q ∧ q ≤ 2147483647) : st_P 78 136 [.inl b, .inl c, .inl q] σ := by
  obtain ⟨a1, a2, a3, a4, a5, a6, a7, a8⟩ := id hJ
  obtain ⟨t0, t1, t2, t3, t4, t5, t6, t7, t8, r2, r3, r4, r5, r7, r11, r8, r9, r10, r12, r13, r14, r15, r16, r18, r19, r20, r21, r22⟩ := st_rd a1; obtain ⟨⟨i0, i1, i2, i3, i4, i5⟩, hr, hb, hc, hp, hl, hq⟩ := id a2; have hSn := ev_S_n; have hn0 : ev_n = 0 := rfl
  have e11 := r11 b
  have hbb := hb b
  have h7 : 0 ≤ b ∧ b < σ (ev_n + 6) 0 → 0 ≤ σ (ev_n + 11) b ∧ σ (ev_n + 11) b ≤ 6 := fun h => by
    rw [e11 h.1 (by omega)]
    exact (hbb h.1 (by omega)).2.1
  have hm7 : 0 ≤ b ∧ b < σ 183 2 → 0 ≤ σ 183 (89 + 5 * b + 1) ∧ σ 183 (89 + 5 * b + 1) ≤ 6 := fun h => (hbb h.1 h.2).2.1
  by_cases c1 : (0 ≤ b ∧ b < σ 183 2) ∧ 0 ≤ c ∧ c < σ 183 (89 + 5 * b + 1)
  · have e11q := e11 c1.1.1 (by omega)
    have hb2 := hm7 c1.1
    have e12 := r12 b c c1.1.1 (by omega) c1.2.1 (by omega)
    have e13 := r13 b c c1.1.1 (by omega) c1.2.1 (by omega)
    have e14 := r14 b c c1.1.1 (by omega) c1.2.1 (by omega)
    have e15 := r15 b c c1.1.1 (by omega) c1.2.1 (by omega)
    have e16 := r16 b c c1.1.1 (by omega) c1.2.1 (by omega)
    by_cases c2 : 0 ≤ q ∧ q ≤ 5
    · by_cases c4 : q = 4
      · subst c4
        obtain ⟨f, g, e18, -, hg⟩ := c_18T a1 a2 c1.1
        have m183 : ev_fr σ f g 183 = σ 183 := ev_fr_row (by omega)
        have s2 := congrFun m183 2
        obtain ⟨g2, v, e135, hv⟩ := st_part (σ := ev_fr σ f g) (b := b) (c := c) (q := 4) (by rw [m183]; exact a2) (by rw [m183]; exact c1.1) (by rw [m183]; exact c1.2) (by omega)
        rw [m183, if_neg (by omega), if_pos rfl, ← hg c c1.2.1 c1.2.2] at hv
        have hm8 : 0 ≤ b ∧ b < ev_fr σ f g 183 2 → 0 ≤ ev_fr σ f g 183 (89 + 5 * b + 1) ∧ ev_fr σ f g 183 (89 + 5 * b + 1) ≤ 6 := by rw [m183]; exact hm7
        have e172 : ∀ z, ev_fr σ f g 172 z = g z := fun z => ev_ua_eq
        subst hv
        refine st_P_N hJ (σ1 := ev_fr σ f g) (σ2 := ev_ua (ev_fr σ f g) 185 g2) (v := .inl (g c)) ?_ ?_ (st_N_t st_N_fr (st_N_ua (by omega)))
        · rw [mm_78]
          repeat' (first | (simp (disch := first | assumption | exact Nat.le_of_ble_eq_true rfl | omega) only [bk_78_0, eo_1_0, g10_28_0, g7_28_1, eo_0_1, eo_0_2, v1_3, ev_ki, ev_kv, eo_6, eo_56i, bk_78_1, eo_60_2, eo_3_4n, eo_3_4i, eo_3_4r, eo_0_3, eo_54, sw_4, ev_sel, reduceIte, Int.reduceEq, bk_78_2, g1_28_6, eo_0_4, bk_78_3, g1_28_7, bk_78_4, g1_28_8, bk_78_5, g1_28_9, bk_78_6, g10_28_4, v2_3, eo_26, g2_28_1, bk_78_7, g1_28_10, bk_78_8, a32_s12, a32_s13, a32_s14, a32_s15, a32_172, a32_s16, c_7, c_5, t2, e11q, e18, e172, Int.add_zero, Int.add_sub_cancel, Int.reduceAdd, Int.reduceMul, Int.reduceSub, Int.reduceNeg, ev_wr_id]) | ((first | with_reducible refine br_40 ?_ ?_ | with_reducible refine br_41 ?_ ?_ | with_reducible refine br_42 ?_ ?_ | with_reducible refine br_43 ?_ ?_ | with_reducible refine br_44 ?_ ?_ | with_reducible refine br_45 ?_ ?_ | with_reducible refine br_46 ?_ ?_ | with_reducible refine br_47 ?_ ?_ | with_reducible refine br_48 ?_ ?_ | with_reducible refine br_49 ?_ ?_ | with_reducible refine br_50 ?_ ?_ | with_reducible refine br_51 ?_ ?_) <;> intro h <;> try simp (disch := first | assumption | exact Nat.le_of_ble_eq_true rfl | omega) only [ev_wr_id, not_true_eq_false, not_false_eq_true, Int.reduceEq, Int.reduceLT, Int.reduceLE, and_self, and_true, true_and, and_false, false_and, reduceIte] at h <;> try (exfalso; omega; done)))
        · rw [mm_136]
          repeat' (first | (simp (disch := first | assumption | exact Nat.le_of_ble_eq_true rfl | omega) only [bk_136_0, eo_1_0, eo_0_1, eo_0_2, v11_3, ev_ki, ev_kv, eo_6, eo_56i, bk_136_1, eo_0_3, eo_60_3, v11_4, eo_52, bk_136_2, eo_53, bk_136_3, c_112, c_106, m183, e135, Int.add_zero, Int.add_sub_cancel, Int.reduceAdd, Int.reduceMul, Int.reduceSub, Int.reduceNeg, ev_wr_id]) | ((first | with_reducible refine br_40 ?_ ?_ | with_reducible refine br_41 ?_ ?_ | with_reducible refine br_42 ?_ ?_ | with_reducible refine br_43 ?_ ?_ | with_reducible refine br_44 ?_ ?_ | with_reducible refine br_45 ?_ ?_ | with_reducible refine br_46 ?_ ?_ | with_reducible refine br_47 ?_ ?_ | with_reducible refine br_48 ?_ ?_ | with_reducible refine br_49 ?_ ?_ | with_reducible refine br_50 ?_ ?_ | with_reducible refine br_51 ?_ ?_) <;> intro h <;> try simp (disch := first | assumption | exact Nat.le_of_ble_eq_true rfl | omega) only [ev_wr_id, not_true_eq_false, not_false_eq_true, Int.reduceEq, Int.reduceLT, Int.reduceLE, and_self, and_true, true_and, and_false, false_and, reduceIte] at h <;> try (exfalso; omega; done)))
      · obtain ⟨g2, v, e135, hv⟩ := st_part (σ := σ) (b := b) (c := c) (q := q) a2 c1.1 c1.2 c2
        refine st_P_N hJ (σ1 := σ) (σ2 := ev_ua σ 185 g2) (v := .inl v) ?_ ?_ (st_N_ua (by omega))
        · rw [mm_78]
          rcases (show q = 0 ∨ q = 1 ∨ q = 2 ∨ q = 3 ∨ q = 5 by omega) with rfl | rfl | rfl | rfl | rfl
          · rw [if_pos (by omega), Int.add_zero] at hv
            repeat' (first | (simp (disch := first | assumption | exact Nat.le_of_ble_eq_true rfl | omega) only [bk_78_0, eo_1_0, g10_28_0, g7_28_1, eo_0_1, eo_0_2, v1_3, ev_ki, ev_kv, eo_6, eo_56i, bk_78_1, eo_60_2, eo_3_4n, eo_3_4i, eo_3_4r, eo_0_3, eo_54, sw_4, ev_sel, reduceIte, Int.reduceEq, bk_78_2, g1_28_6, eo_0_4, bk_78_3, g1_28_7, bk_78_4, g1_28_8, bk_78_5, g1_28_9, bk_78_6, g10_28_4, v2_3, eo_26, g2_28_1, bk_78_7, g1_28_10, bk_78_8, a32_s12, a32_s13, a32_s14, a32_s15, a32_172, a32_s16, c_7, c_5, t2, e11q, e12, hv, Int.add_zero, Int.add_sub_cancel, Int.reduceAdd, Int.reduceMul, Int.reduceSub, Int.reduceNeg, ev_wr_id]) | ((first | with_reducible refine br_40 ?_ ?_ | with_reducible refine br_41 ?_ ?_ | with_reducible refine br_42 ?_ ?_ | with_reducible refine br_43 ?_ ?_ | with_reducible refine br_44 ?_ ?_ | with_reducible refine br_45 ?_ ?_ | with_reducible refine br_46 ?_ ?_ | with_reducible refine br_47 ?_ ?_ | with_reducible refine br_48 ?_ ?_ | with_reducible refine br_49 ?_ ?_ | with_reducible refine br_50 ?_ ?_ | with_reducible refine br_51 ?_ ?_) <;> intro h <;> try simp (disch := first | assumption | exact Nat.le_of_ble_eq_true rfl | omega) only [ev_wr_id, not_true_eq_false, not_false_eq_true, Int.reduceEq, Int.reduceLT, Int.reduceLE, and_self, and_true, true_and, and_false, false_and, reduceIte] at h <;> try (exfalso; omega; done)))
          · rw [if_pos (by omega)] at hv
            repeat' (first | (simp (disch := first | assumption | exact Nat.le_of_ble_eq_true rfl | omega) only [bk_78_0, eo_1_0, g10_28_0, g7_28_1, eo_0_1, eo_0_2, v1_3, ev_ki, ev_kv, eo_6, eo_56i, bk_78_1, eo_60_2, eo_3_4n, eo_3_4i, eo_3_4r, eo_0_3, eo_54, sw_4, ev_sel, reduceIte, Int.reduceEq, bk_78_2, g1_28_6, eo_0_4, bk_78_3, g1_28_7, bk_78_4, g1_28_8, bk_78_5, g1_28_9, bk_78_6, g10_28_4, v2_3, eo_26, g2_28_1, bk_78_7, g1_28_10, bk_78_8, a32_s12, a32_s13, a32_s14, a32_s15, a32_172, a32_s16, c_7, c_5, t2, e11q, e13, hv, Int.add_zero, Int.add_sub_cancel, Int.reduceAdd, Int.reduceMul, Int.reduceSub, Int.reduceNeg, ev_wr_id]) | ((first | with_reducible refine br_40 ?_ ?_ | with_reducible refine br_41 ?_ ?_ | with_reducible refine br_42 ?_ ?_ | with_reducible refine br_43 ?_ ?_ | with_reducible refine br_44 ?_ ?_ | with_reducible refine br_45 ?_ ?_ | with_reducible refine br_46 ?_ ?_ | with_reducible refine br_47 ?_ ?_ | with_reducible refine br_48 ?_ ?_ | with_reducible refine br_49 ?_ ?_ | with_reducible refine br_50 ?_ ?_ | with_reducible refine br_51 ?_ ?_) <;> intro h <;> try simp (disch := first | assumption | exact Nat.le_of_ble_eq_true rfl | omega) only [ev_wr_id, not_true_eq_false, not_false_eq_true, Int.reduceEq, Int.reduceLT, Int.reduceLE, and_self, and_true, true_and, and_false, false_and, reduceIte] at h <;> try (exfalso; omega; done)))
          · rw [if_pos (by omega)] at hv
            repeat' (first | (simp (disch := first | assumption | exact Nat.le_of_ble_eq_true rfl | omega) only [bk_78_0, eo_1_0, g10_28_0, g7_28_1, eo_0_1, eo_0_2, v1_3, ev_ki, ev_kv, eo_6, eo_56i, bk_78_1, eo_60_2, eo_3_4n, eo_3_4i, eo_3_4r, eo_0_3, eo_54, sw_4, ev_sel, reduceIte, Int.reduceEq, bk_78_2, g1_28_6, eo_0_4, bk_78_3, g1_28_7, bk_78_4, g1_28_8, bk_78_5, g1_28_9, bk_78_6, g10_28_4, v2_3, eo_26, g2_28_1, bk_78_7, g1_28_10, bk_78_8, a32_s12, a32_s13, a32_s14, a32_s15, a32_172, a32_s16, c_7, c_5, t2, e11q, e14, hv, Int.add_zero, Int.add_sub_cancel, Int.reduceAdd, Int.reduceMul, Int.reduceSub, Int.reduceNeg, ev_wr_id]) | ((first | with_reducible refine br_40 ?_ ?_ | with_reducible refine br_41 ?_ ?_ | with_reducible refine br_42 ?_ ?_ | with_reducible refine br_43 ?_ ?_ | with_reducible refine br_44 ?_ ?_ | with_reducible refine br_45 ?_ ?_ | with_reducible refine br_46 ?_ ?_ | with_reducible refine br_47 ?_ ?_ | with_reducible refine br_48 ?_ ?_ | with_reducible refine br_49 ?_ ?_ | with_reducible refine br_50 ?_ ?_ | with_reducible refine br_51 ?_ ?_) <;> intro h <;> try simp (disch := first | assumption | exact Nat.le_of_ble_eq_true rfl | omega) only [ev_wr_id, not_true_eq_false, not_false_eq_true, Int.reduceEq, Int.reduceLT, Int.reduceLE, and_self, and_true, true_and, and_false, false_and, reduceIte] at h <;> try (exfalso; omega; done)))
          · rw [if_pos (by omega)] at hv
            repeat' (first | (simp (disch := first | assumption | exact Nat.le_of_ble_eq_true rfl | omega) only [bk_78_0, eo_1_0, g10_28_0, g7_28_1, eo_0_1, eo_0_2, v1_3, ev_ki, ev_kv, eo_6, eo_56i, bk_78_1, eo_60_2, eo_3_4n, eo_3_4i, eo_3_4r, eo_0_3, eo_54, sw_4, ev_sel, reduceIte, Int.reduceEq, bk_78_2, g1_28_6, eo_0_4, bk_78_3, g1_28_7, bk_78_4, g1_28_8, bk_78_5, g1_28_9, bk_78_6, g10_28_4, v2_3, eo_26, g2_28_1, bk_78_7, g1_28_10, bk_78_8, a32_s12, a32_s13, a32_s14, a32_s15, a32_172, a32_s16, c_7, c_5, t2, e11q, e15, hv, Int.add_zero, Int.add_sub_cancel, Int.reduceAdd, Int.reduceMul, Int.reduceSub, Int.reduceNeg, ev_wr_id]) | ((first | with_reducible refine br_40 ?_ ?_ | with_reducible refine br_41 ?_ ?_ | with_reducible refine br_42 ?_ ?_ | with_reducible refine br_43 ?_ ?_ | with_reducible refine br_44 ?_ ?_ | with_reducible refine br_45 ?_ ?_ | with_reducible refine br_46 ?_ ?_ | with_reducible refine br_47 ?_ ?_ | with_reducible refine br_48 ?_ ?_ | with_reducible refine br_49 ?_ ?_ | with_reducible refine br_50 ?_ ?_ | with_reducible refine br_51 ?_ ?_) <;> intro h <;> try simp (disch := first | assumption | exact Nat.le_of_ble_eq_true rfl | omega) only [ev_wr_id, not_true_eq_false, not_false_eq_true, Int.reduceEq, Int.reduceLT, Int.reduceLE, and_self, and_true, true_and, and_false, false_and, reduceIte] at h <;> try (exfalso; omega; done)))
          · rw [if_neg (by omega), if_neg (by omega)] at hv
            repeat' (first | (simp (disch := first | assumption | exact Nat.le_of_ble_eq_true rfl | omega) only [bk_78_0, eo_1_0, g10_28_0, g7_28_1, eo_0_1, eo_0_2, v1_3, ev_ki, ev_kv, eo_6, eo_56i, bk_78_1, eo_60_2, eo_3_4n, eo_3_4i, eo_3_4r, eo_0_3, eo_54, sw_4, ev_sel, reduceIte, Int.reduceEq, bk_78_2, g1_28_6, eo_0_4, bk_78_3, g1_28_7, bk_78_4, g1_28_8, bk_78_5, g1_28_9, bk_78_6, g10_28_4, v2_3, eo_26, g2_28_1, bk_78_7, g1_28_10, bk_78_8, a32_s12, a32_s13, a32_s14, a32_s15, a32_172, a32_s16, c_7, c_5, t2, e11q, e16, hv, Int.add_zero, Int.add_sub_cancel, Int.reduceAdd, Int.reduceMul, Int.reduceSub, Int.reduceNeg, ev_wr_id]) | ((first | with_reducible refine br_40 ?_ ?_ | with_reducible refine br_41 ?_ ?_ | with_reducible refine br_42 ?_ ?_ | with_reducible refine br_43 ?_ ?_ | with_reducible refine br_44 ?_ ?_ | with_reducible refine br_45 ?_ ?_ | with_reducible refine br_46 ?_ ?_ | with_reducible refine br_47 ?_ ?_ | with_reducible refine br_48 ?_ ?_ | with_reducible refine br_49 ?_ ?_ | with_reducible refine br_50 ?_ ?_ | with_reducible refine br_51 ?_ ?_) <;> intro h <;> try simp (disch := first | assumption | exact Nat.le_of_ble_eq_true rfl | omega) only [ev_wr_id, not_true_eq_false, not_false_eq_true, Int.reduceEq, Int.reduceLT, Int.reduceLE, and_self, and_true, true_and, and_false, false_and, reduceIte] at h <;> try (exfalso; omega; done)))
        · rw [mm_136]
          repeat' (first | (simp (disch := first | assumption | exact Nat.le_of_ble_eq_true rfl | omega) only [bk_136_0, eo_1_0, eo_0_1, eo_0_2, v11_3, ev_ki, ev_kv, eo_6, eo_56i, bk_136_1, eo_0_3, eo_60_3, v11_4, eo_52, bk_136_2, eo_53, bk_136_3, c_112, c_106, e135, Int.add_zero, Int.add_sub_cancel, Int.reduceAdd, Int.reduceMul, Int.reduceSub, Int.reduceNeg, ev_wr_id]) | ((first | with_reducible refine br_40 ?_ ?_ | with_reducible refine br_41 ?_ ?_ | with_reducible refine br_42 ?_ ?_ | with_reducible refine br_43 ?_ ?_ | with_reducible refine br_44 ?_ ?_ | with_reducible refine br_45 ?_ ?_ | with_reducible refine br_46 ?_ ?_ | with_reducible refine br_47 ?_ ?_ | with_reducible refine br_48 ?_ ?_ | with_reducible refine br_49 ?_ ?_ | with_reducible refine br_50 ?_ ?_ | with_reducible refine br_51 ?_ ?_) <;> intro h <;> try simp (disch := first | assumption | exact Nat.le_of_ble_eq_true rfl | omega) only [ev_wr_id, not_true_eq_false, not_false_eq_true, Int.reduceEq, Int.reduceLT, Int.reduceLE, and_self, and_true, true_and, and_false, false_and, reduceIte] at h <;> try (exfalso; omega; done)))
    · refine st_P_N hJ (σ1 := σ) (σ2 := σ) (v := .inl (-3)) ?_ ?_ st_N_r
      · rw [mm_78]
        repeat' (first | (simp (disch := first | assumption | exact Nat.le_of_ble_eq_true rfl | omega) only [bk_78_0, eo_1_0, g10_28_0, g7_28_1, eo_0_1, eo_0_2, v1_3, ev_ki, ev_kv, eo_6, eo_56i, bk_78_1, eo_60_2, eo_3_4n, eo_3_4i, eo_3_4r, eo_0_3, eo_54, sw_4, ev_sel, reduceIte, Int.reduceEq, bk_78_2, g1_28_6, eo_0_4, bk_78_3, g1_28_7, bk_78_4, g1_28_8, bk_78_5, g1_28_9, bk_78_6, g10_28_4, v2_3, eo_26, g2_28_1, bk_78_7, g1_28_10, bk_78_8, a32_s12, a32_s13, a32_s14, a32_s15, a32_172, a32_s16, c_7, c_5, t2, e11q, if_neg, Int.add_zero, Int.add_sub_cancel, Int.reduceAdd, Int.reduceMul, Int.reduceSub, Int.reduceNeg, ev_wr_id]) | ((first | with_reducible refine br_40 ?_ ?_ | with_reducible refine br_41 ?_ ?_ | with_reducible refine br_42 ?_ ?_ | with_reducible refine br_43 ?_ ?_ | with_reducible refine br_44 ?_ ?_ | with_reducible refine br_45 ?_ ?_ | with_reducible refine br_46 ?_ ?_ | with_reducible refine br_47 ?_ ?_ | with_reducible refine br_48 ?_ ?_ | with_reducible refine br_49 ?_ ?_ | with_reducible refine br_50 ?_ ?_ | with_reducible refine br_51 ?_ ?_) <;> intro h <;> try simp (disch := first | assumption | exact Nat.le_of_ble_eq_true rfl | omega) only [ev_wr_id, not_true_eq_false, not_false_eq_true, Int.reduceEq, Int.reduceLT, Int.reduceLE, and_self, and_true, true_and, and_false, false_and, reduceIte] at h <;> try (exfalso; omega; done)))
      · rw [mm_136]
        repeat' (first | (simp (disch := first | assumption | exact Nat.le_of_ble_eq_true rfl | omega) only [bk_136_0, eo_1_0, eo_0_1, eo_0_2, v11_3, ev_ki, ev_kv, eo_6, eo_56i, bk_136_1, eo_0_3, eo_60_3, v11_4, eo_52, bk_136_2, eo_53, bk_136_3, c_112, c_106, Int.add_zero, Int.add_sub_cancel, Int.reduceAdd, Int.reduceMul, Int.reduceSub, Int.reduceNeg, ev_wr_id]) | ((first | with_reducible refine br_40 ?_ ?_ | with_reducible refine br_41 ?_ ?_ | with_reducible refine br_42 ?_ ?_ | with_reducible refine br_43 ?_ ?_ | with_reducible refine br_44 ?_ ?_ | with_reducible refine br_45 ?_ ?_ | with_reducible refine br_46 ?_ ?_ | with_reducible refine br_47 ?_ ?_ | with_reducible refine br_48 ?_ ?_ | with_reducible refine br_49 ?_ ?_ | with_reducible refine br_50 ?_ ?_ | with_reducible refine br_51 ?_ ?_) <;> intro h <;> try simp (disch := first | assumption | exact Nat.le_of_ble_eq_true rfl | omega) only [ev_wr_id, not_true_eq_false, not_false_eq_true, Int.reduceEq, Int.reduceLT, Int.reduceLE, and_self, and_true, true_and, and_false, false_and, reduceIte] at h <;> try (exfalso; omega; done)))
  · refine st_P_N hJ (σ1 := σ) (σ2 := σ) (v := .inl (-2)) ?_ ?_ st_N_r
    · rw [mm_78]
      repeat' (first | (simp (disch := first | assumption | exact Nat.le_of_ble_eq_true rfl | omega) only [bk_78_0, eo_1_0, g10_28_0, g7_28_1, eo_0_1, eo_0_2, v1_3, ev_ki, ev_kv, eo_6, eo_56i, bk_78_1, eo_60_2, eo_3_4n, eo_3_4i, eo_3_4r, eo_0_3, eo_54, sw_4, ev_sel, reduceIte, Int.reduceEq, bk_78_2, g1_28_6, eo_0_4, bk_78_3, g1_28_7, bk_78_4, g1_28_8, bk_78_5, g1_28_9, bk_78_6, g10_28_4, v2_3, eo_26, g2_28_1, bk_78_7, g1_28_10, bk_78_8, a32_s12, a32_s13, a32_s14, a32_s15, a32_172, a32_s16, c_7, c_5, t2, Int.add_zero, Int.add_sub_cancel, Int.reduceAdd, Int.reduceMul, Int.reduceSub, Int.reduceNeg, ev_wr_id]) | ((first | with_reducible refine br_40 ?_ ?_ | with_reducible refine br_41 ?_ ?_ | with_reducible refine br_42 ?_ ?_ | with_reducible refine br_43 ?_ ?_ | with_reducible refine br_44 ?_ ?_ | with_reducible refine br_45 ?_ ?_ | with_reducible refine br_46 ?_ ?_ | with_reducible refine br_47 ?_ ?_ | with_reducible refine br_48 ?_ ?_ | with_reducible refine br_49 ?_ ?_ | with_reducible refine br_50 ?_ ?_ | with_reducible refine br_51 ?_ ?_) <;> intro h <;> try simp (disch := first | assumption | exact Nat.le_of_ble_eq_true rfl | omega) only [ev_wr_id, not_true_eq_false, not_false_eq_true, Int.reduceEq, Int.reduceLT, Int.reduceLE, and_self, and_true, true_and, and_false, false_and, reduceIte] at h <;> try (exfalso; omega; done)))
    · rw [mm_136]
      repeat' (first | (simp (disch := first | assumption | exact Nat.le_of_ble_eq_true rfl | omega) only [bk_136_0, eo_1_0, eo_0_1, eo_0_2, v11_3, ev_ki, ev_kv, eo_6, eo_56i, bk_136_1, eo_0_3, eo_60_3, v11_4, eo_52, bk_136_2, eo_53, bk_136_3, c_112, c_106, Int.add_zero, Int.add_sub_cancel, Int.reduceAdd, Int.reduceMul, Int.reduceSub, Int.reduceNeg, ev_wr_id]) | ((first | with_reducible refine br_40 ?_ ?_ | with_reducible refine br_41 ?_ ?_ | with_reducible refine br_42 ?_ ?_ | with_reducible refine br_43 ?_ ?_ | with_reducible refine br_44 ?_ ?_ | with_reducible refine br_45 ?_ ?_ | with_reducible refine br_46 ?_ ?_ | with_reducible refine br_47 ?_ ?_ | with_reducible refine br_48 ?_ ?_ | with_reducible refine br_49 ?_ ?_ | with_reducible refine br_50 ?_ ?_ | with_reducible refine br_51 ?_ ?_) <;> intro h <;> try simp (disch := first | assumption | exact Nat.le_of_ble_eq_true rfl | omega) only [ev_wr_id, not_true_eq_false, not_false_eq_true, Int.reduceEq, Int.reduceLT, Int.reduceLE, and_self, and_true, true_and, and_false, false_and, reduceIte] at h <;> try (exfalso; omega; done)))
theorem pi_look {T : Int → Int} {b v y w z : Int} (h : st_I T) (hb1 : 0 ≤ b ∧ b < T 2) (hv : 0 ≤ v ∧ v ≤ 9) (hy : T 5 = y) : st_I (ev_u1 (ev_u1 (ev_u1 (ev_u1 T (89 + 5 * b + 2) v) (89 + 5 * b + 3) y) 6 w) 7 z) := by
  obtain ⟨⟨i0, i1, i2, i3, i4, i5⟩, hr, hb, hc, hp, hl, hq⟩ := h
  refine ⟨?_, fun q h0 h1 => ?_, fun q h0 h1 => ?_, fun q h0 h1 => ?_, fun q c h0 h1 h2 h3 => ?_, fun l h0 h1 => ?_, fun q h0 h1 => ⟨?_, fun z z0 z1 => ?_⟩⟩
  · simp (disch := omega) only [ev_u1_eq, ev_u1_ne]
    omega
  · simp (disch := omega) only [ev_u1_eq, ev_u1_ne] at h1
    have h7 := hr q h0 h1
    simp (disch := omega) only [ev_u1_eq, ev_u1_ne]
    exact h7
  · simp (disch := omega) only [ev_u1_eq, ev_u1_ne] at h1
    have h7 := hb q h0 h1
    by_cases hqb : q = b
    · subst hqb
      simp (disch := omega) only [ev_u1_eq, ev_u1_ne]
      omega
    · simp (disch := omega) only [ev_u1_eq, ev_u1_ne]
      exact h7
  · simp (disch := omega) only [ev_u1_eq, ev_u1_ne]
    exact hc q h0 h1
  · simp (disch := omega) only [ev_u1_eq, ev_u1_ne] at h1
    have h6 := hb q h0 h1
    simp (disch := omega) only [ev_u1_eq, ev_u1_ne] at h3
    have h7 := hp q c h0 h1 h2 h3
    simp (disch := omega) only [ev_u1_eq, ev_u1_ne]
    exact h7
  · simp (disch := omega) only [ev_u1_eq, ev_u1_ne] at h1
    have h7 := hl l h0 h1
    simp (disch := omega) only [ev_u1_eq, ev_u1_ne]
    exact h7
  · simp (disch := omega) only [ev_u1_eq, ev_u1_ne] at h1
    have h7 := (hq q h0 h1).1
    simp (disch := omega) only [ev_u1_eq, ev_u1_ne]
    exact h7
  · simp (disch := omega) only [ev_u1_eq, ev_u1_ne] at h1
    have h7 := (hq q h0 h1).2 z z0 z1
    simp (disch := omega) only [ev_u1_eq, ev_u1_ne]
    exact h7
/-- the row behind a look -/
def st_look (T : Int → Int) (b : Int) : Int → Int := ev_u1 (ev_u1 (ev_u1 (ev_u1 T (89 + 5 * b + 2) (st_rt T b)) (89 + 5 * b + 3) (T 5)) 6 (T 6 + 1)) 7 (T 7 + (5 + T (89 + 5 * b + 1)))
theorem c_140 {b : Int} {σ : ev_M} (hI : st_I (σ 183)) (hb : 0 ≤ b ∧ b < σ 183 2) : ∃ g, EM 140 [.inr (.inl 182), .inl b] σ = some (none, ev_ua (ev_ua σ 183 (st_look (σ 183) b)) 185 g) := by
  obtain ⟨g, e, hg⟩ := c_117T hI hb
  have hbb := hI.2.2.1 b hb.1 hb.2
  have i2 := hI.1.2.2.1
  refine ⟨g, ?_⟩
  rw [ev_ua_comm (by omega), mm_140]
  unfold st_look
  repeat' (first | (simp (disch := first | assumption | exact Nat.le_of_ble_eq_true rfl | omega) only [bk_140_0, eo_1_0, g11_28_0, eo_6, eo_0_1, eo_12, eo_10, v11_2, ev_ki, ev_kv, eo_25, v11_3, eo_58, a32_183, a33_183, c_114, e, ev_ua_ne, ev_ua_row, ev_up_as, ev_ua_ua, ev_ua_rs, ev_ua_eq, ev_u1_ne, ev_u1_eq, Int.add_zero, Int.add_sub_cancel, Int.reduceAdd, Int.reduceMul, Int.reduceSub, Int.reduceNeg, ev_wr_id]) | ((first | with_reducible refine br_40 ?_ ?_ | with_reducible refine br_41 ?_ ?_ | with_reducible refine br_42 ?_ ?_ | with_reducible refine br_43 ?_ ?_ | with_reducible refine br_44 ?_ ?_ | with_reducible refine br_45 ?_ ?_ | with_reducible refine br_46 ?_ ?_ | with_reducible refine br_47 ?_ ?_ | with_reducible refine br_48 ?_ ?_ | with_reducible refine br_49 ?_ ?_ | with_reducible refine br_50 ?_ ?_ | with_reducible refine br_51 ?_ ?_) <;> intro h <;> try simp (disch := first | assumption | exact Nat.le_of_ble_eq_true rfl | omega) only [ev_wr_id, not_true_eq_false, not_false_eq_true, Int.reduceEq, Int.reduceLT, Int.reduceLE, and_self, and_true, true_and, and_false, false_and, reduceIte] at h <;> try (exfalso; omega; done)))
