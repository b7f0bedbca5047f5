/-! lay on both sides -/
theorem st_J_save4 {σ σa σ1 σb σ2 : ev_M} (h : st_J σ) (hC : st_HC σ σa) (h1 : ∀ i, st_k i → i ≠ 182 → i ≠ 183 → σ1 i = σa i) (h1c : ∀ q, 0 ≤ q → q < 2028 → σ1 183 q = σa 183 q) (h1a : σ1 182 1 = σa 182 1) (h1b : σ1 182 11 = σa 182 11) (hM : st_HM σ1 σb) (h2 : ∀ i, st_k i → i ≠ 182 → i ≠ 183 → σ2 i = σb i) (h21 : σ2 182 1 = σb 182 1) (h22 : σ2 182 11 = σb 182 11) (h20 : ∀ i, 0 ≤ i → i ≤ 22 → σ2 i = σ1 i) (h3 : ∀ k, 338 ≤ k → k < 2028 → σ2 183 k = σb 183 k) (hT : st_E (st_T σ1 ev_n) (σ2 183)) (hI : st_I (σ2 183)) : st_J σ2 := by
  obtain ⟨a1, a2, a3, a4, a5, a6, a7, a8⟩ := h
  obtain ⟨c1, c2, c3, c4, c5⟩ := hC
  obtain ⟨m1, m2, m3, m4, m5, m6⟩ := hM
  have s1n : σ1 182 1 = σ 162 0 := by rw [h1a, c1 182 (by omega), a5]
  have hd : 0 ≤ st_d (σ 162 0) ∧ st_d (σ 162 0) ≤ 1 ∧ (σ 162 0 = 5 → st_d (σ 162 0) = 1) ∧ (σ 162 0 ≠ 5 → st_d (σ 162 0) = 0) := by
    unfold st_d
    split <;> omega
  rw [s1n] at m3 m5 m6
  have e162 : σ2 162 = σa 162 := by rw [h2 162 (by unfold st_k; omega) (by omega) (by omega), m1 162 (by omega) (by omega), h1 162 (by unfold st_k; omega) (by omega) (by omega)]
  have e163 : σ2 163 = σa 163 := by rw [h2 163 (by unfold st_k; omega) (by omega) (by omega), m1 163 (by omega) (by omega), h1 163 (by unfold st_k; omega) (by omega) (by omega)]
  have e2n : σ2 162 0 = σ 162 0 - st_d (σ 162 0) + 1 := by rw [e162, c3]
  have eF : ∀ i, 46 ≤ i → i < 161 → σ2 i = σa i := fun i q0 q1 => by rw [h2 i (by unfold st_k; omega) (by omega) (by omega), m1 i (by omega) (by omega), h1 i (by unfold st_k; omega) (by omega) (by omega)]
  refine ⟨st_E_t (fun k k0 k1 => ?_) hT, hI, ?_, by omega, ?_, ?_, ?_, ?_⟩
  · exact st_T_congr (fun o q0 q1 => h20 _ (by unfold ev_n; omega) (by unfold ev_n; omega)) k k0 k1
  · unfold st_K
    rw [e163]
    exact c2
  · rw [h21, m3, e2n]
  · rw [e2n, e163]
    intro i i0 i1
    have hk := c2.1 i i0 (by omega)
    have hkS := hk.1
    unfold ev_S at hkS
    have hTa : st_E (st_T σ2 (σa 163 i)) (st_T σa (σa 163 i)) := st_T_congr (fun o q0 q1 => eF _ (by omega) (by omega))
    have hrow : st_E (fun k => σ2 183 (338 * (i + 1) + k)) (fun k => σb 183 (338 * (i + 1) + k)) := fun k k0 k1 => h3 _ (by omega) (by omega)
    have r183 : ∀ q, 0 ≤ q → q < 2028 → σ1 183 q = σ 183 q := fun q q0 q1 => by rw [h1c q q0 q1, c1 183 (by omega)]
    by_cases hlt : i < σ 162 0 - st_d (σ 162 0)
    · have ha := a6 (i + st_d (σ 162 0)) (by omega) (by omega)
      have hmr : st_E (fun k => σb 183 (338 * (i + 1) + k)) (fun k => σ 183 (338 * (i + st_d (σ 162 0) + 1) + k)) := fun k k0 k1 => by
        show σb 183 (338 * (i + 1) + k) = _
        rw [m5 i i0 hlt k k0 k1, r183 _ (by omega) (by omega)]
      exact ⟨st_E_t hTa (st_E_t (c4 i i0 hlt) (st_E_t ha.1 (st_E_s (st_E_t hrow hmr)))), st_I_E (st_E_s (st_E_t hrow hmr)) ha.2⟩
    · obtain rfl : i = σ 162 0 - st_d (σ 162 0) := by omega
      have hmr : st_E (fun k => σb 183 (338 * (σ 162 0 - st_d (σ 162 0) + 1) + k)) (σ 183) := fun k k0 k1 => by
        show σb 183 (338 * (σ 162 0 - st_d (σ 162 0) + 1) + k) = _
        rw [m6 k k0 k1, r183 _ (by omega) (by omega)]
      exact ⟨st_E_t hTa (st_E_t c5 (st_E_t a1 (st_E_s (st_E_t hrow hmr)))), st_I_E (st_E_s (st_E_t hrow hmr)) a2⟩
  · have e164 : σ2 164 = σ 164 := by rw [h2 164 (by unfold st_k; omega) (by omega) (by omega), m1 164 (by omega) (by omega), h1 164 (by unfold st_k; omega) (by omega) (by omega), c1 164 (by omega)]
    have e165 : σ2 165 = σ 165 := by rw [h2 165 (by unfold st_k; omega) (by omega) (by omega), m1 165 (by omega) (by omega), h1 165 (by unfold st_k; omega) (by omega) (by omega), c1 165 (by omega)]
    have e190 : σ2 190 = σ 190 := by rw [h2 190 (by unfold st_k; omega) (by omega) (by omega), m1 190 (by omega) (by omega), h1 190 (by unfold st_k; omega) (by omega) (by omega), c1 190 (by omega)]
    have e11 : σ2 182 11 = σ 182 11 := by rw [h22, m2 11 (by omega), h1b, c1 182 (by omega)]
    unfold st_X
    rw [e164, e165, e190, e11]
    exact a7
  · rw [h2 184 (by unfold st_k; omega) (by omega) (by omega), m1 184 (by omega) (by omega), h1 184 (by unfold st_k; omega) (by omega) (by omega), c1 184 (by omega)]
    exact a8
/-- saving on both sides, and what is to be shown behind it -/
theorem st_sv4 {σ : ev_M} (hJ : st_J σ) : ∃ σa, EM 26 [.inr (.inl 162), .inr (.inl ev_n)] σ = some (none, σa) ∧ (∀ i, i < 46 ∨ 163 < i → σa i = σ i) ∧ ∀ σ1, (∀ i, st_k i → i ≠ 182 → i ≠ 183 → σ1 i = σa i) → (∀ q, 0 ≤ q → q < 2028 → σ1 183 q = σa 183 q) → σ1 182 1 = σa 182 1 → σ1 182 11 = σa 182 11 → ∃ σb, EM 108 [.inr (.inl 182)] σ1 = some (none, σb) ∧ (∀ i, i ≠ 182 → i ≠ 183 → σb i = σ1 i) ∧ (∀ y, y ≠ 1 → σb 182 y = σ1 182 y) ∧ st_E (st_T σa ev_n) (σb 183) ∧ st_I (σb 183) ∧ (∀ k, 0 ≤ k → k < 338 → σb 183 k = σ 183 k) ∧ ∀ σ2, (∀ i, st_k i → i ≠ 182 → i ≠ 183 → σ2 i = σb i) → σ2 182 1 = σb 182 1 → σ2 182 11 = σb 182 11 → (∀ i, 0 ≤ i → i ≤ 22 → σ2 i = σ1 i) → (∀ k, 338 ≤ k → k < 2028 → σ2 183 k = σb 183 k) → st_E (st_T σ1 ev_n) (σ2 183) → st_I (σ2 183) → st_J σ2 := by
  obtain ⟨a1, a2, a3, a4, a5, a6, a7, a8⟩ := id hJ
  have hcl : ∀ b, 0 ≤ b → b < 6 → 0 ≤ σ (ev_n + 10) b ∧ σ (ev_n + 10) b ≤ 1 := fun b h0 h1 => by
    rw [tr_10 (σ := σ) (s := ev_n) ⟨h0, h1⟩, a1 _ (by omega) (by omega)]
    exact a2.2.2.2.1 b h0 h1
  obtain ⟨σa, e26, hC⟩ := c_26 a3 a4 hcl
  refine ⟨σa, e26, hC.1, fun σ1 h1 h1c h1a h1b => ?_⟩
  have s1n : σ1 182 1 = σ 162 0 := by rw [h1a, hC.1 182 (by omega), a5]
  obtain ⟨σb, e108, hM⟩ := c_108 (σ := σ1) (by omega)
  have hb : ∀ k, 0 ≤ k → k < 338 → σb 183 k = σ 183 k := fun k h0 h2 => by rw [hM.2.2.2.1 k h0 h2, h1c k h0 (by omega), hC.1 183 (by omega)]
  have hE : st_E (σb 183) (σ 183) := hb
  refine ⟨σb, e108, hM.1, hM.2.1, ?_, st_I_E (st_E_s hE) a2, hb, fun σ2 q1 q2 q3 q4 q5 q6 q7 => st_J_save4 hJ hC h1 h1c h1a h1b hM q1 q2 q3 q4 q5 q6 q7⟩
  · refine st_E_t (fun k h0 h1 => ?_) (st_E_t a1 (st_E_s hE))
    exact st_T_congr (fun o q0 q1 => hC.1 _ (by unfold ev_n; omega)) k h0 h1
theorem e_46 {σ : ev_M} {T : Int → Int} {x y l : Int} (hE : st_E (st_T σ ev_n) T) (h : 0 ≤ T 1 ∧ T 1 < 20) : ∃ σ1, EM 46 [.inr (.inl (ev_n + 1)), .inl x, .inl y, .inl l] σ = some (some (.inl (T 1)), σ1) ∧ st_E (st_T σ1 ev_n) (st_l0 T x y l) ∧ ∀ i, 22 < i → σ1 i = σ i := by
  have t1 : σ (ev_n + 1) 1 = T 1 := tr_n1.trans (hE _ (by omega) (by omega))
  have hn0 : ev_n = 0 := rfl
  refine ⟨_, c_46 (σ := σ) (one := x) (two := y) (len := l) ev_S_n t1 h, ?_, fun i hi => ?_⟩
  · unfold st_l0
    exact st_E_t tw_n1 (st_E_u (st_E_t (tw_5 (by omega)) (st_E_u (st_E_t (tw_4 (by omega)) (st_E_u (st_E_t (tw_3 (by omega)) (st_E_u (st_E_t (tw_2 (by omega)) (st_E_u hE)))))))))
  · funext z
    simp (disch := omega) only [ev_up_ne]
theorem e_48 {σ : ev_M} {T : Int → Int} {r : Int} (hE : st_E (st_T σ ev_n) T) (h : 0 ≤ T 2 ∧ T 2 < 6) (hr : 0 ≤ r ∧ r < 20) : ∃ σ1, EM 48 [.inr (.inl ev_n), .inl r] σ = some (some (.inl (T 2)), σ1) ∧ st_E (st_T σ1 ev_n) (st_b0 T r) ∧ ∀ i, 22 < i → σ1 i = σ i := by
  have t2 : σ (ev_n + 6) 0 = T 2 := tr_n2.trans (hE _ (by omega) (by omega))
  have t5 : σ ev_n 3 = T 5 := tr_n5.trans (hE _ (by omega) (by omega))
  have hn0 : ev_n = 0 := rfl
  have e := c_48 (σ := σ) (n := T 2) (r := r) ev_S_n t2 h hr
  rw [t5] at e
  refine ⟨_, e, ?_, fun i hi => ?_⟩
  · have hh : st_E (ev_u1 (ev_u1 (ev_u1 (ev_u1 (ev_u1 (ev_u1 (ev_u1 T (89 + 5 * T 2) r) (89 + 5 * T 2 + 2) 0) (89 + 5 * T 2 + 3) (T 5)) (89 + 5 * T 2 + 4) 0) (89 + 5 * T 2 + 1) 0) 2 (T 2 + 1)) (9 + 4 * r + 3) (T 2)) (st_b0 T r) := by
      intro k k0 k1
      obtain ⟨a, ha⟩ : ∃ a, a = 89 + 5 * T 2 := ⟨_, rfl⟩
      obtain ⟨d, hd⟩ : ∃ d, d = 9 + 4 * r + 3 := ⟨_, rfl⟩
      unfold st_b0
      rw [← ha, ← hd, ev_u1_cm (a := 2) (b := d) (by omega)]
      have har : 89 ≤ a ∧ d < 89 := by omega
      by_cases q1 : k = 2
      · rw [ev_u1_eq q1, ev_u1_eq q1]
      · rw [ev_u1_ne q1, ev_u1_ne q1]
        by_cases q2 : k = d
        · rw [ev_u1_eq q2, ev_u1_eq q2]
        · rw [ev_u1_ne q2, ev_u1_ne q2]
          by_cases q3 : k = a + 1
          · rw [ev_u1_eq q3]
            simp (disch := omega) only [ev_u1_ne, ev_u1_eq]
          · rw [ev_u1_ne q3]
            by_cases q4 : k = a + 4
            · rw [ev_u1_eq q4, ev_u1_eq q4]
            · rw [ev_u1_ne q4, ev_u1_ne q4]
              by_cases q5 : k = a + 3
              · rw [ev_u1_eq q5, ev_u1_eq q5]
              · rw [ev_u1_ne q5, ev_u1_ne q5]
                by_cases q6 : k = a + 2
                · rw [ev_u1_eq q6, ev_u1_eq q6]
                · rw [ev_u1_ne q6, ev_u1_ne q6, ev_u1_ne q3]
    refine st_E_t ?_ hh
    exact st_E_t (tw_5 hr) (st_E_u (st_E_t tw_n2 (st_E_u (st_E_t (tw_11 (by omega)) (st_E_u (st_E_t (tw_10 (by omega)) (st_E_u (st_E_t (tw_9 (by omega)) (st_E_u (st_E_t (tw_8 (by omega)) (st_E_u (st_E_t (tw_7 (by omega)) (st_E_u hE)))))))))))))
  · funext z
    simp (disch := omega) only [ev_up_ne]
theorem l_101 {S : ev_M} {T0 : Int → Int} {K : Nat} {Ki : Int} (hI0 : st_I T0) (hK : Ki = K) (hK20 : K ≤ 20) (hok : st_oks S T0 K) (h5 : S 164 5 = Ki) : ∀ (m j : Nat) (ji : Int) (σ : ev_M) (p2 : Option ev_V), j + m = K → ji = j → (∀ i, 22 < i → σ i = S i) → st_E (st_T σ ev_n) (st_lr S T0 j) → ∃ σ1, EB 101 2 [some (.inr (.inl 161)), some (.inl ji), p2] [] σ = some (some (.inl (st_lr S T0 K 1)), σ1) ∧ st_E (st_T σ1 ev_n) (st_lr S T0 K) ∧ ∀ i, 22 < i → σ1 i = S i := by
  have hn0 : ev_n = 0 := rfl
  have hSn := ev_S_n
  intro m
  induction m with
  | zero =>
    intro j ji σ p2 hj hji hF hE
    obtain rfl : j = K := by omega
    have w5 : σ 164 5 = Ki := by rw [hF 164 (by omega)]; exact h5
    have t1 : σ (ev_n + 1) 1 = st_lr S T0 j 1 := tr_n1.trans (hE _ (by omega) (by omega))
    refine ⟨σ, ?_, hE, hF⟩
    have hjk : ji = Ki ∧ 0 ≤ Ki ∧ Ki ≤ 20 := by omega
    clear hok hE hF hji hK
    rw [bk_101_2]
    repeat' (first | (simp (disch := first | assumption | exact Nat.le_of_ble_eq_true rfl | omega) only [bk_101_0, eo_1_0, g10_28_3, g10_28_0, v5_2, ev_ki, ev_kv, eo_6, eo_56i, bk_101_1, g10_28_2, v3_2, eo_3_1n, eo_3_1i, eo_3_1r, eo_53, eo_0_1, g5_27, g7_28_0, g5_28_7, g5_28_8, g5_28_9, v6_4, eo_3_2n, eo_3_2i, eo_3_2r, g5_28_10, eo_0_2, v7_2, eo_26, bk_101_3, eo_23_1n, eo_23_1i, eo_23_1r, eo_52, bk_101_4, g6_27, a32_166, a32_167, a32_168, a34_169, w5, t1, Int.add_zero, Int.add_sub_cancel, Int.reduceAdd, Int.reduceMul, Int.reduceSub, Int.reduceNeg, ev_wr_id]) | ((first | with_reducible refine br_40 ?_ ?_ | with_reducible refine br_41 ?_ ?_ | with_reducible refine br_42 ?_ ?_ | with_reducible refine br_43 ?_ ?_ | with_reducible refine br_44 ?_ ?_ | with_reducible refine br_45 ?_ ?_ | with_reducible refine br_46 ?_ ?_ | with_reducible refine br_47 ?_ ?_ | with_reducible refine br_48 ?_ ?_ | with_reducible refine br_49 ?_ ?_ | with_reducible refine br_50 ?_ ?_ | with_reducible refine br_51 ?_ ?_) <;> intro h <;> try simp (disch := first | assumption | exact Nat.le_of_ble_eq_true rfl | omega) only [ev_wr_id, not_true_eq_false, not_false_eq_true, Int.reduceEq, Int.reduceLT, Int.reduceLE, and_self, and_true, true_and, and_false, false_and, reduceIte] at h <;> try (exfalso; omega; done)))
  | succ m ih =>
    intro j ji σ p2 hj hji hF hE
    have hokj := hok j (by omega)
    obtain ⟨hIj, v0, v1, v3⟩ := st_lr_v (S := S) hI0 j (fun q hq => hok q (by omega))
    have i1 := hIj.1.2.1
    have i2 := hIj.1.2.2.1
    rw [← hji] at hokj
    have hsucc : st_lr S T0 (j + 1) = st_l1 (st_lr S T0 j) (S 166 ji) (S 167 ji) (S 168 ji) (S 169 ji) := by rw [hji]; rfl
    obtain ⟨T, hT⟩ : ∃ T, T = st_lr S T0 j := ⟨_, rfl⟩
    rw [← hT] at hokj hIj i1 i2 hE hsucc
    have w5 : σ 164 5 = Ki := by rw [hF 164 (by omega)]; exact h5
    have w6 : σ 166 ji = S 166 ji := by rw [hF 166 (by omega)]
    have w7 : σ 167 ji = S 167 ji := by rw [hF 167 (by omega)]
    have w8 : σ 168 ji = S 168 ji := by rw [hF 168 (by omega)]
    obtain ⟨σ1, e46, hE1, hF1⟩ := e_46 (x := S 166 ji) (y := S 167 ji) (l := S 168 ji) hE (by have := hokj.2.2.2.2.2.2; omega)
    have w9 : σ1 169 ji = S 169 ji := by rw [hF1 169 (by omega), hF 169 (by omega)]
    have hj0 : 0 ≤ ji ∧ ji < 20 ∧ ji < Ki ∧ Ki ≤ 20 := by omega
    rcases hokj.2.2.2.2.1 with hb | hb
    · rw [hb] at w9 hsucc
      unfold st_l1 at hsucc
      rw [if_neg (by omega)] at hsucc
      obtain ⟨σ3, e, k1, k2⟩ := ih (j + 1) (ji + 1) σ1 (some (.inl (T 1))) (by omega) (by omega) (fun i hi => by rw [hF1 i hi, hF i hi]) (by rw [hsucc]; exact hE1)
      refine ⟨σ3, ?_, k1, k2⟩
      rw [← e]
      clear e k1 k2 ih hE1 hF1 hok hIj hE hF hokj hsucc hT hji hj hK v3
      rw [bk_101_2]
      repeat' (first | (simp (disch := first | assumption | exact Nat.le_of_ble_eq_true rfl | omega) only [bk_101_0, eo_1_0, g10_28_3, g10_28_0, v5_2, ev_ki, ev_kv, eo_6, eo_56i, bk_101_1, g10_28_2, v3_2, eo_3_1n, eo_3_1i, eo_3_1r, eo_53, eo_0_1, g5_27, g7_28_0, g5_28_7, g5_28_8, g5_28_9, v6_4, eo_3_2n, eo_3_2i, eo_3_2r, g5_28_10, eo_0_2, v7_2, eo_26, bk_101_3, eo_23_1n, eo_23_1i, eo_23_1r, eo_52, bk_101_4, g6_27, a32_166, a32_167, a32_168, a34_169, w5, w6, w7, w8, e46, w9, Int.add_zero, Int.add_sub_cancel, Int.reduceAdd, Int.reduceMul, Int.reduceSub, Int.reduceNeg, ev_wr_id]) | ((first | with_reducible refine br_40 ?_ ?_ | with_reducible refine br_41 ?_ ?_ | with_reducible refine br_42 ?_ ?_ | with_reducible refine br_43 ?_ ?_ | with_reducible refine br_44 ?_ ?_ | with_reducible refine br_45 ?_ ?_ | with_reducible refine br_46 ?_ ?_ | with_reducible refine br_47 ?_ ?_ | with_reducible refine br_48 ?_ ?_ | with_reducible refine br_49 ?_ ?_ | with_reducible refine br_50 ?_ ?_ | with_reducible refine br_51 ?_ ?_) <;> intro h <;> try simp (disch := first | assumption | exact Nat.le_of_ble_eq_true rfl | omega) only [ev_wr_id, not_true_eq_false, not_false_eq_true, Int.reduceEq, Int.reduceLT, Int.reduceLE, and_self, and_true, true_and, and_false, false_and, reduceIte] at h <;> try (exfalso; omega; done)))
    · rw [hb] at w9 hsucc
      unfold st_l1 at hsucc
      rw [if_pos rfl] at hsucc
      obtain ⟨q0, q1, q2, q5, -⟩ := st_l0_v (T := T) (x := S 166 ji) (y := S 167 ji) (l := S 168 ji) (by have := hokj.2.2.2.2.2.2; omega)
      obtain ⟨σ2, e48, hE2, hF2⟩ := e_48 (r := T 1) hE1 (by have := hokj.2.2.2.2.2.1 hb; omega) (by have := hokj.2.2.2.2.2.2; omega)
      obtain ⟨σ3, e, k1, k2⟩ := ih (j + 1) (ji + 1) σ2 (some (.inl (T 1))) (by omega) (by omega) (fun i hi => by rw [hF2 i hi, hF1 i hi, hF i hi]) (by rw [hsucc]; exact hE2)
      refine ⟨σ3, ?_, k1, k2⟩
      rw [← e]
      clear e k1 k2 ih hE1 hF1 hok hIj hE hF hokj hsucc hT hji hj hK v3 hE2 hF2
      rw [bk_101_2]
      repeat' (first | (simp (disch := first | assumption | exact Nat.le_of_ble_eq_true rfl | omega) only [bk_101_0, eo_1_0, g10_28_3, g10_28_0, v5_2, ev_ki, ev_kv, eo_6, eo_56i, bk_101_1, g10_28_2, v3_2, eo_3_1n, eo_3_1i, eo_3_1r, eo_53, eo_0_1, g5_27, g7_28_0, g5_28_7, g5_28_8, g5_28_9, v6_4, eo_3_2n, eo_3_2i, eo_3_2r, g5_28_10, eo_0_2, v7_2, eo_26, bk_101_3, eo_23_1n, eo_23_1i, eo_23_1r, eo_52, bk_101_4, g6_27, a32_166, a32_167, a32_168, a34_169, w5, w6, w7, w8, e46, w9, e48, Int.add_zero, Int.add_sub_cancel, Int.reduceAdd, Int.reduceMul, Int.reduceSub, Int.reduceNeg, ev_wr_id]) | ((first | with_reducible refine br_40 ?_ ?_ | with_reducible refine br_41 ?_ ?_ | with_reducible refine br_42 ?_ ?_ | with_reducible refine br_43 ?_ ?_ | with_reducible refine br_44 ?_ ?_ | with_reducible refine br_45 ?_ ?_ | with_reducible refine br_46 ?_ ?_ | with_reducible refine br_47 ?_ ?_ | with_reducible refine br_48 ?_ ?_ | with_reducible refine br_49 ?_ ?_ | with_reducible refine br_50 ?_ ?_ | with_reducible refine br_51 ?_ ?_) <;> intro h <;> try simp (disch := first | assumption | exact Nat.le_of_ble_eq_true rfl | omega) only [ev_wr_id, not_true_eq_false, not_false_eq_true, Int.reduceEq, Int.reduceLT, Int.reduceLE, and_self, and_true, true_and, and_false, false_and, reduceIte] at h <;> try (exfalso; omega; done)))
theorem pr_101 {σ : ev_M} (hJ : st_J σ) : st_P 101 179 [] σ := by
  obtain ⟨a1, a2, a3, a4, a5, a6, ⟨⟨x1, x2, x3⟩, x4⟩, a8⟩ := id hJ
  have hn0 : ev_n = 0 := rfl
  have htx : st_tx σ (σ 190) (σ 182 11) := ⟨⟨x2, x3⟩, fun i h0 h1 => ⟨(x4 i h0 h1).1, (x4 i h0 h1).2⟩⟩
  have hmy : st_my σ (σ 190) (σ 182 11) := ⟨⟨x2, x3⟩, fun i h0 h1 => ⟨rfl, (x4 i h0 h1).2⟩⟩
  obtain ⟨fl, σ1, ok0, g0, T0, e34, -, -, w1, w2, -, hres⟩ := j_read (σ := σ) (μ := σ) a1 a2 htx hmy x1 rfl
  have det : ∀ {fl2 : Int} {σ2 : ev_M}, EM 34 [.inr (.inl 164), .inr (.inl ev_n)] σ = some (some (.inl fl2), σ2) → fl = fl2 ∧ σ1 = σ2 := fun h => by
    rw [e34] at h
    injection h with q
    injection q with q1 q2
    injection q1 with q1
    injection q1 with q1
    exact ⟨q1, q2⟩
  have h183 : σ1 183 = σ 183 := w2 183 (by omega) (by omega) (by omega) (by omega) (by omega)
  have h182 : σ1 182 = σ 182 := w2 182 (by omega) (by omega) (by omega) (by omega) (by omega)
  have h190 : σ1 190 = σ 190 := w2 190 (by omega) (by omega) (by omega) (by omega) (by omega)
  have hN1 : st_N σ σ1 := ⟨fun j hj => w2 j (by omega) (by omega) (by omega) (by omega) (by omega), by rw [w2 162 (by omega) (by omega) (by omega) (by omega) (by omega)], by rw [w1, x1], by rw [h182], by rw [h182], fun k _ _ => by rw [h183]⟩
  by_cases c1 : fl = -1
  · -- the class lays the roads
    obtain ⟨hK, hoks⟩ : (0 ≤ σ1 164 5 ∧ σ1 164 5 ≤ 20) ∧ st_oks σ1 (σ 183) (σ1 164 5).toNat := by
      rcases hres with q | q
      · omega
      · exact ⟨q.2.2.1, q.2.2.2.2⟩
    have hJ1 : st_J σ1 := st_J_N hJ hN1
    obtain ⟨σa, e26, hF, hS⟩ := st_sv4 hJ1
    have hEa : st_E (st_T σa ev_n) (σ 183) := by
      refine st_E_t (st_T_congr (fun o q0 q1 => by rw [hF _ (by omega), w2 _ (by omega) (by omega) (by omega) (by omega) (by omega)])) a1
    have hlr : ∀ (T : Int → Int) (j : Nat), st_lr σa T j = st_lr σ1 T j := fun T j => st_lr_c j (fun q _ _ => ⟨by rw [hF 166 (by omega)], by rw [hF 167 (by omega)], by rw [hF 168 (by omega)], by rw [hF 169 (by omega)]⟩)
    have hoka : ∀ (T : Int → Int) (K : Nat), st_oks σ1 T K → st_oks σa T K := fun T K h j hj => by
      rw [hlr, hF 166 (by omega), hF 167 (by omega), hF 168 (by omega), hF 169 (by omega)]
      exact h j hj
    have h5a : σa 164 5 = σ1 164 5 := by rw [hF 164 (by omega)]
    obtain ⟨σ2, e2, hE2, hF2⟩ := l_101 (S := σa) (T0 := σ 183) (K := (σ1 164 5).toNat) (Ki := σ1 164 5) a2 (by omega) (by omega) (hoka _ _ hoks) h5a (σ1 164 5).toNat 0 0 σa none (by omega) rfl (fun i _ => rfl) hEa
    have ha : ∀ i, (22 < i ∧ i < 46) ∨ 163 < i → σa i = σ1 i := fun i hi => hF i (by omega)
    have g183 : σ2 183 = σ 183 := by rw [hF2 183 (by omega), ha 183 (by omega), h183]
    have g182 : σ2 182 = σ 182 := by rw [hF2 182 (by omega), ha 182 (by omega), h182]
    have g190 : σ2 190 = σ 190 := by rw [hF2 190 (by omega), ha 190 (by omega), h190]
    -- the reference: the fault first
    obtain ⟨fl2, σ1b, M, e34b, e178, hfl, m1, m2, m3⟩ := c_178j (σ := σ) (μ := σ2) (c := σ 190) (n := σ 182 11) (by rw [g183]; exact a1) (by rw [g183]; exact a2) htx (st_my_o hmy g190) x1 (by rw [g182])
    obtain ⟨rfl, -⟩ := det e34b
    obtain ⟨σv, dv⟩ : ∃ z, z = ev_cp M 183 2028 183 0 338 := ⟨_, rfl⟩
    rw [← dv] at e178
    have v0 : ∀ i, i ≠ 182 → i ≠ 183 → σv i = σ2 i := fun i h0 h1 => by rw [dv]; funext z; rw [ev_cp_ne h1, m1 i h0 h1]
    have v1 : ∀ k, k ≠ 12 → k ≠ 13 → σv 182 k = σ2 182 k := fun k h0 h1 => by rw [dv, ev_cp_ne (by omega), m2 k h0 h1]
    have v2 : ∀ q, 0 ≤ q → q < 2028 → σv 183 q = σ2 183 q := fun q h0 h1 => by
      rw [dv]
      by_cases z : q < 338
      · rw [ev_cp_in (by omega) (by omega), m3 _ (by omega), ev_cp_in (by omega) (by omega)]
        congr 1
        omega
      · rw [ev_cp_out (by omega), m3 q (by omega), ev_cp_out (by omega)]
    obtain ⟨σb, e108, hbF, hb9, hE, hI, hbk, hfin⟩ := hS σv (fun i h0 h1 h2 => by
      unfold st_k at h0
      rw [v0 i h1 h2, hF2 i (by omega)]) (fun q h0 h1 => by rw [v2 q h0 h1, hF2 183 (by omega)]) (by rw [v1 1 (by omega) (by omega), hF2 182 (by omega)]) (by rw [v1 11 (by omega) (by omega), hF2 182 (by omega)])
    have hbE : st_E (σ 183) (σb 183) := fun k h0 h1 => by rw [hbk k h0 h1, h183]
    have b190 : σb 190 = σ 190 := by rw [hbF 190 (by omega) (by omega), v0 190 (by omega) (by omega), g190]
    have b182 : σb 182 11 = σ 182 11 := by rw [hb9 11 (by omega), v1 11 (by omega) (by omega), g182]
    obtain ⟨fl3, σ1c, ok, g, T, e34c, e177, y1, -, -, y4, y5⟩ := j_read (σ := σ) (μ := σb) (c := σ 190) (n := σ 182 11) (st_E_t a1 hbE) hI htx (st_my_o hmy b190) x1 b182
    obtain ⟨rfl, rfl⟩ := det e34c
    obtain ⟨ok1, hT, hoks2⟩ : ok = 1 ∧ T = st_lr σ1 (σb 183) (σ1 164 5).toNat ∧ st_oks σ1 (σb 183) (σ1 164 5).toNat := by
      rcases y5 with q | q
      · omega
      · exact ⟨q.1, q.2.2.2.1, q.2.2.2.2⟩
    obtain ⟨σ2b, e2b, hE2b, -⟩ := l_101 (S := σa) (T0 := σb 183) (K := (σ1 164 5).toNat) (Ki := σ1 164 5) hI (by omega) (by omega) (hoka _ _ hoks2) h5a (σ1 164 5).toNat 0 0 σa none (by omega) rfl (fun i _ => rfl) (st_E_t hEa hbE)
    obtain ⟨hval, rfl⟩ : st_lr σa (σ 183) (σ1 164 5).toNat 1 = st_lr σa (σb 183) (σ1 164 5).toNat 1 ∧ σ2 = σ2b := by
      rw [e2] at e2b
      injection e2b with q
      injection q with q1 q2
      injection q1 with q1
      injection q1 with q1
      exact ⟨q1, q2⟩
    rw [hlr, ← hT] at hE2b
    have hT1 : T 1 = st_lr σa (σ 183) (σ1 164 5).toNat 1 := by rw [hval, hlr, ← hT]
    obtain ⟨hIT, -, -, -⟩ := st_lr_v hI _ hoks2
    rw [← hT] at hIT
    refine ⟨.inl (T 1), σ2, ev_ua (ev_ua σb 183 T) 182 g, ?_, ?_, hfin _ (fun i h0 h1 h2 => by rw [ev_ua_row h1, ev_ua_row h2]) (by rw [ev_ua_eq]; exact y1 1 (by omega) (by omega)) (by rw [ev_ua_eq]; exact y1 11 (by omega) (by omega)) (fun i h0 h1 => by rw [ev_ua_row (by omega), ev_ua_row (by omega), hbF i (by omega) (by omega)]) (fun k h0 h1 => by rw [ev_ua_ne (by omega), ev_ua_eq]; exact y4 k h0) ?_ ?_⟩
    · rw [c1] at e34
      rw [hT1]
      rw [mm_101]
      repeat' (first | (simp (disch := first | assumption | exact Nat.le_of_ble_eq_true rfl | omega) only [bk_101_0, eo_1_0, g10_28_3, g10_28_0, v5_2, ev_ki, ev_kv, eo_6, eo_56i, bk_101_1, g10_28_2, v3_2, eo_3_1n, eo_3_1i, eo_3_1r, eo_53, eo_0_1, g5_27, g7_28_0, g5_28_7, g5_28_8, g5_28_9, v6_4, eo_3_2n, eo_3_2i, eo_3_2r, g5_28_10, eo_0_2, v7_2, eo_26, bk_101_3, eo_23_1n, eo_23_1i, eo_23_1r, eo_52, bk_101_4, g6_27, a32_166, a32_167, a32_168, a34_169, e34, e26, Int.add_zero, Int.add_sub_cancel, Int.reduceAdd, Int.reduceMul, Int.reduceSub, Int.reduceNeg, ev_wr_id]) | ((first | with_reducible refine br_40 ?_ ?_ | with_reducible refine br_41 ?_ ?_ | with_reducible refine br_42 ?_ ?_ | with_reducible refine br_43 ?_ ?_ | with_reducible refine br_44 ?_ ?_ | with_reducible refine br_45 ?_ ?_ | with_reducible refine br_46 ?_ ?_ | with_reducible refine br_47 ?_ ?_ | with_reducible refine br_48 ?_ ?_ | with_reducible refine br_49 ?_ ?_ | with_reducible refine br_50 ?_ ?_ | with_reducible refine br_51 ?_ ?_) <;> intro h <;> try simp (disch := first | assumption | exact Nat.le_of_ble_eq_true rfl | omega) only [ev_wr_id, not_true_eq_false, not_false_eq_true, Int.reduceEq, Int.reduceLT, Int.reduceLE, and_self, and_true, true_and, and_false, false_and, reduceIte] at h <;> try (exfalso; omega; done)))
      exact e2
    · rw [c1] at e178
      rw [ok1] at e177
      clear y1 y4 y5 hfin hbF hb9 hE hI hbk hoks hoks2 hIT hE2b hE2 hF2 m1 m2 m3 v0 v1 v2 hres hlr hoka hT hJ1 hJ
      rw [mm_179]
      repeat' (first | (simp (disch := first | assumption | exact Nat.le_of_ble_eq_true rfl | omega) only [bk_179_0, eo_1_0, v11_1, ev_ki, ev_kv, eo_6, eo_56i, bk_179_1, eo_3_1n, eo_3_1i, eo_3_1r, g11_28_0, a32_183, e178, e108, e177, st_183, Int.add_zero, Int.add_sub_cancel, Int.reduceAdd, Int.reduceMul, Int.reduceSub, Int.reduceNeg, ev_wr_id]) | ((first | with_reducible refine br_40 ?_ ?_ | with_reducible refine br_41 ?_ ?_ | with_reducible refine br_42 ?_ ?_ | with_reducible refine br_43 ?_ ?_ | with_reducible refine br_44 ?_ ?_ | with_reducible refine br_45 ?_ ?_ | with_reducible refine br_46 ?_ ?_ | with_reducible refine br_47 ?_ ?_ | with_reducible refine br_48 ?_ ?_ | with_reducible refine br_49 ?_ ?_ | with_reducible refine br_50 ?_ ?_ | with_reducible refine br_51 ?_ ?_) <;> intro h <;> try simp (disch := first | assumption | exact Nat.le_of_ble_eq_true rfl | omega) only [ev_wr_id, not_true_eq_false, not_false_eq_true, Int.reduceEq, Int.reduceLT, Int.reduceLE, and_self, and_true, true_and, and_false, false_and, reduceIte] at h <;> try (exfalso; omega; done)))
    · rw [ev_ua_row (by omega), ev_ua_rs]
      refine st_E_t (st_T_congr (fun o q0 q1 => v0 _ (by omega) (by omega))) hE2b
    · rw [ev_ua_row (by omega), ev_ua_rs]
      exact hIT
  · obtain ⟨fl2, σ1b, M, e34b, e178, hfl, m1, m2, m3⟩ := c_178j (σ := σ) (μ := σ1) (c := σ 190) (n := σ 182 11) (by rw [h183]; exact a1) (by rw [h183]; exact a2) htx (st_my_o hmy h190) x1 (by rw [h182])
    obtain ⟨rfl, rfl⟩ := det e34b
    refine st_P_N hJ (σ1 := σ1) (σ2 := ev_cp M 183 2028 183 0 338) (v := .inl (-4)) ?_ ?_ (st_N_t hN1 (st_N_sup (fun i hi => m1 i (by omega) (by omega)) (by rw [m1 162 (by omega) (by omega)]) (by rw [m1 164 (by omega) (by omega)]) (m2 1 (by omega) (by omega)) (m2 11 (by omega) (by omega)) m3))
    · clear m1 m2 m3 hres
      rw [mm_101]
      repeat' (first | (simp (disch := first | assumption | exact Nat.le_of_ble_eq_true rfl | omega) only [bk_101_0, eo_1_0, g10_28_3, g10_28_0, v5_2, ev_ki, ev_kv, eo_6, eo_56i, bk_101_1, g10_28_2, v3_2, eo_3_1n, eo_3_1i, eo_3_1r, eo_53, eo_0_1, g5_27, g7_28_0, g5_28_7, g5_28_8, g5_28_9, v6_4, eo_3_2n, eo_3_2i, eo_3_2r, g5_28_10, eo_0_2, v7_2, eo_26, bk_101_3, eo_23_1n, eo_23_1i, eo_23_1r, eo_52, bk_101_4, g6_27, a32_166, a32_167, a32_168, a34_169, e34, Int.add_zero, Int.add_sub_cancel, Int.reduceAdd, Int.reduceMul, Int.reduceSub, Int.reduceNeg, ev_wr_id]) | ((first | with_reducible refine br_40 ?_ ?_ | with_reducible refine br_41 ?_ ?_ | with_reducible refine br_42 ?_ ?_ | with_reducible refine br_43 ?_ ?_ | with_reducible refine br_44 ?_ ?_ | with_reducible refine br_45 ?_ ?_ | with_reducible refine br_46 ?_ ?_ | with_reducible refine br_47 ?_ ?_ | with_reducible refine br_48 ?_ ?_ | with_reducible refine br_49 ?_ ?_ | with_reducible refine br_50 ?_ ?_ | with_reducible refine br_51 ?_ ?_) <;> intro h <;> try simp (disch := first | assumption | exact Nat.le_of_ble_eq_true rfl | omega) only [ev_wr_id, not_true_eq_false, not_false_eq_true, Int.reduceEq, Int.reduceLT, Int.reduceLE, and_self, and_true, true_and, and_false, false_and, reduceIte] at h <;> try (exfalso; omega; done)))
    · clear m1 m2 m3 hres
      rw [mm_179]
      repeat' (first | (simp (disch := first | assumption | exact Nat.le_of_ble_eq_true rfl | omega) only [bk_179_0, eo_1_0, v11_1, ev_ki, ev_kv, eo_6, eo_56i, bk_179_1, eo_3_1n, eo_3_1i, eo_3_1r, g11_28_0, a32_183, e178, Int.add_zero, Int.add_sub_cancel, Int.reduceAdd, Int.reduceMul, Int.reduceSub, Int.reduceNeg, ev_wr_id]) | ((first | with_reducible refine br_40 ?_ ?_ | with_reducible refine br_41 ?_ ?_ | with_reducible refine br_42 ?_ ?_ | with_reducible refine br_43 ?_ ?_ | with_reducible refine br_44 ?_ ?_ | with_reducible refine br_45 ?_ ?_ | with_reducible refine br_46 ?_ ?_ | with_reducible refine br_47 ?_ ?_ | with_reducible refine br_48 ?_ ?_ | with_reducible refine br_49 ?_ ?_ | with_reducible refine br_50 ?_ ?_ | with_reducible refine br_51 ?_ ?_) <;> intro h <;> try simp (disch := first | assumption | exact Nat.le_of_ble_eq_true rfl | omega) only [ev_wr_id, not_true_eq_false, not_false_eq_true, Int.reduceEq, Int.reduceLT, Int.reduceLE, and_self, and_true, true_and, and_false, false_and, reduceIte] at h <;> try (exfalso; omega; done)))
