/-! repair -/
theorem pi_spent {T : Int → Int} {v : Int} (h : st_I T) : st_I (ev_u1 T 8 v) := by
  obtain ⟨⟨i0, i1, i2, i3, i4, i5⟩, hr, hb, hc, hp, hl, hq⟩ := h
  refine ⟨?_, fun q h0 h1 => ?_, fun q h0 h1 => ?_, fun q h0 h1 => ?_, fun q c h0 h1 h2 h3 => ?_, fun l h0 h1 => ?_, fun q h0 h1 => ⟨?_, fun z z0 z1 => ?_⟩⟩
  · simp (disch := omega) only [ev_u1_eq, ev_u1_ne]
    omega
  · simp (disch := omega) only [ev_u1_eq, ev_u1_ne] at h1
    have h7 := hr q h0 h1
    simp (disch := omega) only [ev_u1_eq, ev_u1_ne]
    exact h7
  · simp (disch := omega) only [ev_u1_eq, ev_u1_ne] at h1
    have h7 := hb q h0 h1
    simp (disch := omega) only [ev_u1_eq, ev_u1_ne]
    exact h7
  · simp (disch := omega) only [ev_u1_eq, ev_u1_ne]
    exact hc q h0 h1
  · simp (disch := omega) only [ev_u1_eq, ev_u1_ne] at h1
    have h6 := hb q h0 h1
    simp (disch := omega) only [ev_u1_eq, ev_u1_ne] at h3
    have h7 := hp q c h0 h1 h2 h3
    simp (disch := omega) only [ev_u1_eq, ev_u1_ne]
    exact h7
  · simp (disch := omega) only [ev_u1_eq, ev_u1_ne] at h1
    have h7 := hl l h0 h1
    have h8 := hb _ h7.1.1 h7.1.2
    simp (disch := omega) only [ev_u1_eq, ev_u1_ne]
    exact h7
  · simp (disch := omega) only [ev_u1_eq, ev_u1_ne] at h1
    have h7 := (hq q h0 h1).1
    simp (disch := omega) only [ev_u1_eq, ev_u1_ne]
    exact h7
  · simp (disch := omega) only [ev_u1_eq, ev_u1_ne] at h1
    have h7 := (hq q h0 h1).2 z z0 z1
    simp (disch := omega) only [ev_u1_eq, ev_u1_ne]
    exact h7
theorem st_ml_8 {U : Int → Int} {l v : Int} (h : st_I U) (hl : 0 ≤ l ∧ l < U 3) : st_ml (ev_u1 U 8 v) l = ev_u1 (st_ml U l) 8 v := by
  have g := h.2.2.2.2.2.1 l hl.1 hl.2
  have i2 := h.1.2.2.1
  have hbb := h.2.2.1 _ g.1.1 g.1.2
  obtain ⟨x, hx⟩ : ∃ x, x = 119 + 30 * U (299 + 3 * l) + 5 * U (299 + 3 * l + 1) := ⟨_, rfl⟩
  have hxb : 119 ≤ x := by omega
  have e1 : ev_u1 U 8 v (299 + 3 * l) = U (299 + 3 * l) := ev_u1_ne (by omega)
  have e2 : ev_u1 U 8 v (299 + 3 * l + 1) = U (299 + 3 * l + 1) := ev_u1_ne (by omega)
  have e3 : ev_u1 U 8 v (299 + 3 * l + 2) = U (299 + 3 * l + 2) := ev_u1_ne (by omega)
  unfold st_ml
  rw [e1, e2, e3, ← hx, ev_u1_ne (show x + 1 ≠ 8 by omega), ev_u1_cm (a := 8) (b := x + 1) (by omega), ev_u1_cm (a := 8) (b := x + 2) (by omega)]
theorem st_md_8 {v : Int} : ∀ (k : Nat) (l : Int) (U : Int → Int), st_I U → 0 ≤ l → l + k = U 3 → st_md k l (ev_u1 U 8 v) = ev_u1 (st_md k l U) 8 v := by
  intro k
  induction k with
  | zero =>
    intro l U h h0 h1
    rfl
  | succ k ih =>
    intro l U h h0 h1
    have ho := st_ml_out h (l := l) (by omega)
    rw [show st_md (k + 1) l (ev_u1 U 8 v) = st_md k (l + 1) (st_ml (ev_u1 U 8 v) l) from rfl, st_ml_8 h (by omega), ih (l + 1) _ (st_ml_I h (by omega)) (by omega) (by rw [ho.1 3 (by omega)]; omega)]
    rfl
theorem st_md_low : ∀ (k : Nat) (l : Int) (U : Int → Int), st_I U → 0 ≤ l → l + k = U 3 → ∀ q, q < 119 → st_md k l U q = U q := by
  intro k
  induction k with
  | zero =>
    intro l U h h0 h1 q hq
    rfl
  | succ k ih =>
    intro l U h h0 h1 q hq
    have ho := st_ml_out h (l := l) (by omega)
    rw [show st_md (k + 1) l U = st_md k (l + 1) (st_ml U l) from rfl, ih (l + 1) _ (st_ml_I h (by omega)) (by omega) (by rw [ho.1 3 (by omega)]; omega) q hq, ho.1 q (by omega)]
theorem pr_96 {σ : ev_M} (hJ : st_J σ) : st_P 96 169 [] σ := by
  obtain ⟨a1, a2, a3, a4, a5, a6, a7, a8⟩ := id hJ
  have hSn := ev_S_n
  have hn0 : ev_n = 0 := rfl
  obtain ⟨c, u, t, e0, hm, hc, hu⟩ := st_awd a1 a2
  by_cases c1 : c = -1
  · obtain ⟨g, e161, hg⟩ := hm (st_w σ c u t) (st_w_o (by omega))
    refine st_P_N hJ (σ1 := st_w σ c u t) (σ2 := st_v (st_w σ c u t) c g) (v := .inl (-4)) ?_ ?_ (st_N_t st_w_N st_v_N)
    · rw [mm_96]
      repeat' (first | (simp (disch := first | assumption | exact Nat.le_of_ble_eq_true rfl | omega) only [bk_96_0, eo_1_0, g10_28_7, g10_28_0, v0_2, ev_ki, ev_kv, g0_27, eo_6, eo_56i, bk_96_1, g10_28_2, v3_2, eo_24i, eo_24r, g7_27, eo_10, g7_30, v7_1, e0, st_w_0, Int.add_zero, Int.add_sub_cancel, Int.reduceAdd, Int.reduceMul, Int.reduceSub, Int.reduceNeg, ev_wr_id]) | ((first | with_reducible refine br_40 ?_ ?_ | with_reducible refine br_41 ?_ ?_ | with_reducible refine br_42 ?_ ?_ | with_reducible refine br_43 ?_ ?_ | with_reducible refine br_44 ?_ ?_ | with_reducible refine br_45 ?_ ?_ | with_reducible refine br_46 ?_ ?_ | with_reducible refine br_47 ?_ ?_ | with_reducible refine br_48 ?_ ?_ | with_reducible refine br_49 ?_ ?_ | with_reducible refine br_50 ?_ ?_ | with_reducible refine br_51 ?_ ?_) <;> intro h <;> try simp (disch := first | assumption | exact Nat.le_of_ble_eq_true rfl | omega) only [ev_wr_id, not_true_eq_false, not_false_eq_true, Int.reduceEq, Int.reduceLT, Int.reduceLE, and_self, and_true, true_and, and_false, false_and, reduceIte] at h <;> try (exfalso; omega; done)))
    · rw [mm_169]
      repeat' (first | (simp (disch := first | assumption | exact Nat.le_of_ble_eq_true rfl | omega) only [bk_169_0, eo_1_0, v11_1, ev_ki, ev_kv, g11_27, eo_6, eo_56i, bk_169_1, g11_28_0, eo_25, eo_10, a32_183, a33_183, e161, st_v_0, Int.add_zero, Int.add_sub_cancel, Int.reduceAdd, Int.reduceMul, Int.reduceSub, Int.reduceNeg, ev_wr_id]) | ((first | with_reducible refine br_40 ?_ ?_ | with_reducible refine br_41 ?_ ?_ | with_reducible refine br_42 ?_ ?_ | with_reducible refine br_43 ?_ ?_ | with_reducible refine br_44 ?_ ?_ | with_reducible refine br_45 ?_ ?_ | with_reducible refine br_46 ?_ ?_ | with_reducible refine br_47 ?_ ?_ | with_reducible refine br_48 ?_ ?_ | with_reducible refine br_49 ?_ ?_ | with_reducible refine br_50 ?_ ?_ | with_reducible refine br_51 ?_ ?_) <;> intro h <;> try simp (disch := first | assumption | exact Nat.le_of_ble_eq_true rfl | omega) only [ev_wr_id, not_true_eq_false, not_false_eq_true, Int.reduceEq, Int.reduceLT, Int.reduceLE, and_self, and_true, true_and, and_false, false_and, reduceIte] at h <;> try (exfalso; omega; done)))
  · have hJs : st_J (st_w σ c u t) := st_J_N hJ st_w_N
    obtain ⟨σs, hs⟩ : ∃ z, z = st_w σ c u t := ⟨_, rfl⟩
    rw [← hs] at hJs
    have es0 : EM 0 [.inr (.inl 179), .inr (.inl ev_n)] σ = some (none, σs) := by rw [hs]; exact e0
    have m0 : σs 183 = σ 183 := by rw [hs]; exact st_w_o (by omega)
    have hEs := hJs.1
    have hIs := hJs.2.1
    obtain ⟨t0, t1, t2, t3, t4, t5, t6, t7, t8, -⟩ := st_rd hEs
    rw [m0] at hEs hIs t8
    obtain ⟨σa, e26, hF, hS⟩ := st_sv3 hJs
    have hEa : st_E (st_T σa ev_n) (σ 183) := st_E_t (st_T_congr (fun o q0 q1 => hF _ (by omega))) hEs
    obtain ⟨w, hw⟩ : ∃ w, w = σ 183 8 + c := ⟨_, rfl⟩
    obtain ⟨σ0, d0⟩ : ∃ z, z = ev_up σa ev_n 6 w := ⟨_, rfl⟩
    have hE0 : st_E (st_T σ0 ev_n) (ev_u1 (σ 183) 8 w) := by
      rw [d0]
      exact st_E_t tw_n8 (st_E_u hEa)
    obtain ⟨σ1, e55, hF1, hE1⟩ := c_55 (T := ev_u1 (σ 183) 8 w) (pi_spent hIs) hE0
    rw [ev_u1_ne (show (3 : Int) ≠ 8 by omega)] at hE1
    have i3 := hIs.1.2.2.2.1
    rw [st_md_8 (σ 183 3).toNat 0 (σ 183) hIs (by omega) (by omega)] at hE1
    have f1 : ∀ i, 22 < i → σ1 i = σa i := fun i hi => by
      rw [hF1 i (by omega) (by omega) (by omega), d0]
      funext z
      exact ev_up_ne (by omega)
    have m1 : σ1 183 = σ 183 := by rw [f1 183 (by omega), hF 183 (by omega), m0]
    obtain ⟨g, e161, hg⟩ := hm σ1 m1
    obtain ⟨σv, dv⟩ : ∃ z, z = st_v σ1 c g := ⟨_, rfl⟩
    have hv : ∀ i, i ≠ 182 → i ≠ 189 → σv i = σ1 i := fun i h0 h1 => by rw [dv]; exact st_v_o ⟨h0, h1⟩
    obtain ⟨σb, e108, hbF, hb9, hE, hI, hbk, hfin⟩ := hS σv (fun i h1 h2 => by
      unfold st_k at h1
      rw [hv i h2 (by omega), f1 i (by omega)]) (by rw [dv, st_v_z (by omega), f1 182 (by omega)]) (by rw [dv, st_v_z (by omega), f1 182 (by omega)])
    have b0 : ∀ k, 0 ≤ k → k < 338 → σb 183 k = σ 183 k := fun k h0 h1 => by rw [hbk k h0 h1, m0]
    have b3 := b0 3 (by omega) (by omega)
    have b8 := b0 8 (by omega) (by omega)
    have e167 := c_167 hI
    obtain ⟨W, hW⟩ : ∃ W, W = ev_u1 (st_md (σb 183 3).toNat 0 (σb 183)) 3 0 := ⟨_, rfl⟩
    rw [← hW] at e167
    have hW8 : W 8 = σ 183 8 := by rw [hW, ev_u1_ne (by omega), st_md_low _ _ _ hI (by omega) (by omega) 8 (by omega), b8]
    obtain ⟨hmE, hmI⟩ := st_md_E (σ 183 3).toNat 0 _ _ (show st_E (σb 183) (σ 183) from b0) hI (by omega) (by omega)
    refine ⟨.inl c, σ1, ev_ua σb 183 (ev_u1 W 8 w), ?_, ?_, ?_⟩
    · have w0 : σs 179 0 = c := by rw [hs]; exact st_w_0
      have w1 : σ1 179 0 = c := by rw [f1 179 (by omega), hF 179 (by omega)]; exact w0
      have w2 : σa 179 0 = c := by rw [hF 179 (by omega)]; exact w0
      have w3 : σa ev_n 6 = σ 183 8 := by rw [hF ev_n (by omega)]; exact t8
      have w4 := hw.symm
      have d1 := d0.symm
      rw [mm_96]
      repeat' (first | (simp (disch := first | assumption | exact Nat.le_of_ble_eq_true rfl | omega) only [bk_96_0, eo_1_0, g10_28_7, g10_28_0, v0_2, ev_ki, ev_kv, g0_27, eo_6, eo_56i, bk_96_1, g10_28_2, v3_2, eo_24i, eo_24r, g7_27, eo_10, g7_30, v7_1, es0, w0, w1, w2, e26, w3, w4, d1, e55, Int.add_zero, Int.add_sub_cancel, Int.reduceAdd, Int.reduceMul, Int.reduceSub, Int.reduceNeg, ev_wr_id]) | ((first | with_reducible refine br_40 ?_ ?_ | with_reducible refine br_41 ?_ ?_ | with_reducible refine br_42 ?_ ?_ | with_reducible refine br_43 ?_ ?_ | with_reducible refine br_44 ?_ ?_ | with_reducible refine br_45 ?_ ?_ | with_reducible refine br_46 ?_ ?_ | with_reducible refine br_47 ?_ ?_ | with_reducible refine br_48 ?_ ?_ | with_reducible refine br_49 ?_ ?_ | with_reducible refine br_50 ?_ ?_ | with_reducible refine br_51 ?_ ?_) <;> intro h <;> try simp (disch := first | assumption | exact Nat.le_of_ble_eq_true rfl | omega) only [ev_wr_id, not_true_eq_false, not_false_eq_true, Int.reduceEq, Int.reduceLT, Int.reduceLE, and_self, and_true, true_and, and_false, false_and, reduceIte] at h <;> try (exfalso; omega; done)))
    · have d1 := dv.symm
      have v0 : σv 182 9 = c := by rw [dv]; exact st_v_0
      have v1 : ∀ f, ev_ua σb 183 f 182 9 = c := fun f => by rw [ev_ua_ne (by omega), hb9 9 (by omega), v0]
      have w4 := hw.symm
      rw [mm_169]
      repeat' (first | (simp (disch := first | assumption | exact Nat.le_of_ble_eq_true rfl | omega) only [bk_169_0, eo_1_0, v11_1, ev_ki, ev_kv, g11_27, eo_6, eo_56i, bk_169_1, g11_28_0, eo_25, eo_10, a32_183, a33_183, e161, d1, v0, e108, e167, ev_ua_eq, hW8, v1, w4, ev_up_ua, Int.add_zero, Int.add_sub_cancel, Int.reduceAdd, Int.reduceMul, Int.reduceSub, Int.reduceNeg, ev_wr_id]) | ((first | with_reducible refine br_40 ?_ ?_ | with_reducible refine br_41 ?_ ?_ | with_reducible refine br_42 ?_ ?_ | with_reducible refine br_43 ?_ ?_ | with_reducible refine br_44 ?_ ?_ | with_reducible refine br_45 ?_ ?_ | with_reducible refine br_46 ?_ ?_ | with_reducible refine br_47 ?_ ?_ | with_reducible refine br_48 ?_ ?_ | with_reducible refine br_49 ?_ ?_ | with_reducible refine br_50 ?_ ?_ | with_reducible refine br_51 ?_ ?_) <;> intro h <;> try simp (disch := first | assumption | exact Nat.le_of_ble_eq_true rfl | omega) only [ev_wr_id, not_true_eq_false, not_false_eq_true, Int.reduceEq, Int.reduceLT, Int.reduceLE, and_self, and_true, true_and, and_false, false_and, reduceIte] at h <;> try (exfalso; omega; done)))
    · refine hfin _ (fun i h1 h2 h3 => ev_ua_row h3) (ev_ua_ne (by omega)) (ev_ua_ne (by omega)) (fun i h0 h1 => ?_) (fun k h0 h1 => ?_) ?_ ?_
      · rw [ev_ua_row (by omega), hbF i (by omega) (by omega)]
      · rw [ev_ua_eq, ev_u1_ne (by omega), hW, ev_u1_ne (by omega)]
        exact st_md_hi _ _ _ hI (by omega) (by omega) k (by omega)
      · rw [ev_ua_rs]
        refine st_E_t (st_T_congr (fun o q0 q1 => hv _ (by omega) (by omega))) (st_E_t hE1 ?_)
        rw [hW, b3, ev_u1_cm (a := 8) (b := 3) (by omega)]
        exact st_E_u (st_E_u (st_E_s hmE))
      · rw [ev_ua_rs]
        refine pi_spent ?_
        rw [hW, b3]
        exact pi_lines hmI
