theorem l_25 {T : Int → Int} {b : Int} (hI : st_I T) (hb : 0 ≤ b ∧ b < T 2) : ∀ (k : Nat) (l : Int) (p4 : Option ev_V) (U : Int → Int) (σ : ev_M), st_I U → 0 ≤ l → l + k = U 3 → (∀ q, q < 119 ∨ 299 ≤ q → U q = T q) → (∀ b c, 0 ≤ b → b < 6 → 0 ≤ c → c < 6 → U (119 + 30 * b + 5 * c + 4) = T (119 + 30 * b + 5 * c + 4)) → st_E (st_T σ ev_n) T → (∀ o, 0 ≤ o → o < T (89 + 5 * b + 1) → σ 171 o = U (119 + 30 * b + 5 * o + 1)) → ∃ σ1, EB 25 1 [some (.inr (.inl 170)), some (.inr (.inl ev_n)), some (.inl b), some (.inl l), p4] [] σ = some (some (.inl (st_rt (st_md k l U) b)), σ1) ∧ ∀ i, i ≠ 171 → i ≠ 172 → σ1 i = σ i := by
  have hSn := ev_S_n
  have hn0 : ev_n = 0 := rfl
  have i2 := hI.1.2.2.1
  have hbb := hI.2.2.1 b hb.1 hb.2
  have hp := hI.2.2.2.2.1 b
  intro k
  induction k with
  | zero =>
    intro l p4 U σ h h0 h1 hU h4 hE hf
    have i3 := h.1.2.2.2.1
    have e2 := hU 2 (by omega)
    have e3 := hU 3 (by omega)
    have e89 := hU (89 + 5 * b + 1) (by omega)
    have e17 : σ (ev_n + 17) 0 = l := by rw [tr_n3 (σ := σ) (s := ev_n), hE _ (by omega) (by omega)]; omega
    have e11 : σ (ev_n + 11) b = T (89 + 5 * b + 1) := (tr_11 (by omega)).trans (hE _ (by omega) (by omega))
    obtain ⟨g, e21, -⟩ := c_21 (s := ev_n) (b := b) (σ := σ) (re := fun c => T (119 + 30 * b + 5 * c + 4)) hSn (by omega) (by omega) (fun o q0 q1 => by
      rw [hf o q0 (by omega)]
      exact (h.2.2.2.2.1 b o hb.1 (by omega) q0 (by omega)).2.1) (fun o q0 q1 => by
      rw [tr_16 (σ := σ) (s := ev_n) (b := b) (c := o) (by omega) (by omega), hE _ (by omega) (by omega)]
      exact ⟨rfl, (hp o hb.1 hb.2 q0 (by omega)).2.2.2.2⟩)
    have hval : ev_tr (σ 171) (fun c => T (119 + 30 * b + 5 * c + 4)) (σ (ev_n + 11) b) = st_rt U b := by
      unfold st_rt
      rw [e11, e89]
      exact ev_tr_congr hbb.2.1.1 (fun o q0 q1 => ⟨hf o q0 q1, (h4 b o hb.1 (by omega) q0 (by omega)).symm⟩)
    rw [hval] at e21
    refine ⟨ev_ua σ 172 g, ?_, fun i _ h => ev_ua_row h⟩
    rw [bk_25_1]
    repeat' (first | (simp (disch := first | assumption | exact Nat.le_of_ble_eq_true rfl | omega) only [bk_25_0, eo_1_0, eo_1_1, g7_28_1, eo_0_2, eo_6, v2_4, ev_ki, ev_kv, eo_3_3n, eo_3_3i, eo_3_3r, eo_53, eo_0_3, g7_28_2, g4_27, g4_28_2, g4_28_3, eo_3_4n, eo_3_4i, eo_3_4r, g2_28_0, eo_0_4, g4_28_4, eo_10, eo_63, bk_25_2, eo_23_3n, eo_23_3i, eo_23_3r, eo_52, bk_25_3, v2_3, eo_56i, a32_s18, a33_s18, a32_s19, a33_s19, a32_171, a33_171, a32_s20, a33_s20, e17, e21, Int.add_zero, Int.add_sub_cancel, Int.reduceAdd, Int.reduceMul, Int.reduceSub, Int.reduceNeg, ev_wr_id]) | ((first | with_reducible refine br_40 ?_ ?_ | with_reducible refine br_41 ?_ ?_ | with_reducible refine br_42 ?_ ?_ | with_reducible refine br_43 ?_ ?_ | with_reducible refine br_44 ?_ ?_ | with_reducible refine br_45 ?_ ?_ | with_reducible refine br_46 ?_ ?_ | with_reducible refine br_47 ?_ ?_ | with_reducible refine br_48 ?_ ?_ | with_reducible refine br_49 ?_ ?_ | with_reducible refine br_50 ?_ ?_ | with_reducible refine br_51 ?_ ?_) <;> intro h <;> try simp (disch := first | assumption | exact Nat.le_of_ble_eq_true rfl | omega) only [ev_wr_id, not_true_eq_false, not_false_eq_true, Int.reduceEq, Int.reduceLT, Int.reduceLE, and_self, and_true, true_and, and_false, false_and, reduceIte] at h <;> try (exfalso; omega; done)))
    rfl
  | succ k ih =>
    intro l p4 U σ h h0 h1 hU h4 hE hf
    have i3 := h.1.2.2.2.1
    have e2 := hU 2 (by omega)
    have e3 := hU 3 (by omega)
    have e17 : σ (ev_n + 17) 0 = U 3 := by rw [tr_n3 (σ := σ) (s := ev_n), hE _ (by omega) (by omega), e3]
    have g := h.2.2.2.2.2.1 l h0 (by omega)
    have hbl := h.2.2.1 _ g.1.1 g.1.2
    have e18 : σ (ev_n + 18) l = U (299 + 3 * l) := by rw [tr_18 (σ := σ) (s := ev_n) (by omega), hE _ (by omega) (by omega), hU _ (by omega)]
    have e19 : σ (ev_n + 19) l = U (299 + 3 * l + 1) := by rw [tr_19 (σ := σ) (s := ev_n) (by omega), hE _ (by omega) (by omega), hU _ (by omega)]
    have e20 : σ (ev_n + 20) l = U (299 + 3 * l + 2) := by rw [tr_20 (σ := σ) (s := ev_n) (by omega), hE _ (by omega) (by omega), hU _ (by omega)]
    have hout := st_ml_out h (l := l) (by omega)
    have hml := st_ml_I h (l := l) (by omega)
    have hpc := h.2.2.2.2.1 _ _ g.1.1 g.1.2 g.2.1.1 g.2.1.2
    obtain ⟨bl, hbq⟩ : ∃ b, b = U (299 + 3 * l) := ⟨_, rfl⟩
    obtain ⟨c, hcq⟩ : ∃ c, c = U (299 + 3 * l + 1) := ⟨_, rfl⟩
    have hmd : st_ml U l = ev_u1 (ev_u1 U (119 + 30 * bl + 5 * c + 1) (if U (119 + 30 * bl + 5 * c + 1) + U (299 + 3 * l + 2) < 9 then U (119 + 30 * bl + 5 * c + 1) + U (299 + 3 * l + 2) else 9)) (119 + 30 * bl + 5 * c + 2) 0 := by rw [hbq, hcq]; rfl
    rw [← hbq] at e18 g hbl hpc
    rw [← hcq] at e19 g hpc
    obtain ⟨v, hv⟩ : ∃ v, v = if U (119 + 30 * bl + 5 * c + 1) + U (299 + 3 * l + 2) < 9 then U (119 + 30 * bl + 5 * c + 1) + U (299 + 3 * l + 2) else 9 := ⟨_, rfl⟩
    rw [← hv] at hmd
    have hvs := hv.symm
    rw [show st_md (k + 1) l U = st_md k (l + 1) (st_ml U l) from rfl]
    by_cases c1 : bl = b
    · subst c1
      have hfc := hf c g.2.1.1 (by rw [← hU _ (by omega)]; exact g.2.1.2)
      have hE2 : st_E (st_T (ev_up σ 171 c v) ev_n) T := st_E_t (st_T_congr (fun o q0 q1 => by funext z; exact ev_up_ne (by omega))) hE
      obtain ⟨σ1, e, hF⟩ := ih (l + 1) (some (.inl c)) (st_ml U l) (ev_up σ 171 c v) hml (by omega) (by rw [hout.1 3 (by omega)]; omega) (fun q hq => by rw [hout.1 q hq, hU q hq]) (fun b' c' q0 q1 q2 q3 => by rw [hout.2 b' c' 4 q0 q1 q2 q3 (by omega), h4 b' c' q0 q1 q2 q3]) hE2 (fun o q0 q1 => by
        rw [hmd, ev_u1_ne (by omega)]
        by_cases x : o = c
        · rw [x, ev_up_eq ⟨rfl, rfl⟩, ev_u1_eq rfl]
        · rw [ev_up_ne (by omega), ev_u1_ne (by omega)]
          exact hf o q0 q1)
      refine ⟨σ1, ?_, fun i q0 q1 => by rw [hF i q0 q1]; funext z; exact ev_up_ne (by omega)⟩
      rw [← e, bk_25_1]
      repeat' (first | (simp (disch := first | assumption | exact Nat.le_of_ble_eq_true rfl | omega) only [bk_25_0, eo_1_0, eo_1_1, g7_28_1, eo_0_2, eo_6, v2_4, ev_ki, ev_kv, eo_3_3n, eo_3_3i, eo_3_3r, eo_53, eo_0_3, g7_28_2, g4_27, g4_28_2, g4_28_3, eo_3_4n, eo_3_4i, eo_3_4r, g2_28_0, eo_0_4, g4_28_4, eo_10, eo_63, bk_25_2, eo_23_3n, eo_23_3i, eo_23_3r, eo_52, bk_25_3, v2_3, eo_56i, a32_s18, a33_s18, a32_s19, a33_s19, a32_171, a33_171, a32_s20, a33_s20, e17, e18, e19, e20, hfc, hvs, Int.add_zero, Int.add_sub_cancel, Int.reduceAdd, Int.reduceMul, Int.reduceSub, Int.reduceNeg, ev_wr_id]) | ((first | with_reducible refine br_40 ?_ ?_ | with_reducible refine br_41 ?_ ?_ | with_reducible refine br_42 ?_ ?_ | with_reducible refine br_43 ?_ ?_ | with_reducible refine br_44 ?_ ?_ | with_reducible refine br_45 ?_ ?_ | with_reducible refine br_46 ?_ ?_ | with_reducible refine br_47 ?_ ?_ | with_reducible refine br_48 ?_ ?_ | with_reducible refine br_49 ?_ ?_ | with_reducible refine br_50 ?_ ?_ | with_reducible refine br_51 ?_ ?_) <;> intro h <;> try simp (disch := first | assumption | exact Nat.le_of_ble_eq_true rfl | omega) only [ev_wr_id, not_true_eq_false, not_false_eq_true, Int.reduceEq, Int.reduceLT, Int.reduceLE, and_self, and_true, true_and, and_false, false_and, reduceIte] at h <;> try (exfalso; omega; done)))
    · obtain ⟨σ1, e, hF⟩ := ih (l + 1) p4 (st_ml U l) σ hml (by omega) (by rw [hout.1 3 (by omega)]; omega) (fun q hq => by rw [hout.1 q hq, hU q hq]) (fun b' c' q0 q1 q2 q3 => by rw [hout.2 b' c' 4 q0 q1 q2 q3 (by omega), h4 b' c' q0 q1 q2 q3]) hE (fun o q0 q1 => by
        rw [hmd, ev_u1_ne (by omega), ev_u1_ne (by omega)]
        exact hf o q0 q1)
      refine ⟨σ1, ?_, hF⟩
      rw [← e, bk_25_1]
      repeat' (first | (simp (disch := first | assumption | exact Nat.le_of_ble_eq_true rfl | omega) only [bk_25_0, eo_1_0, eo_1_1, g7_28_1, eo_0_2, eo_6, v2_4, ev_ki, ev_kv, eo_3_3n, eo_3_3i, eo_3_3r, eo_53, eo_0_3, g7_28_2, g4_27, g4_28_2, g4_28_3, eo_3_4n, eo_3_4i, eo_3_4r, g2_28_0, eo_0_4, g4_28_4, eo_10, eo_63, bk_25_2, eo_23_3n, eo_23_3i, eo_23_3r, eo_52, bk_25_3, v2_3, eo_56i, a32_s18, a33_s18, a32_s19, a33_s19, a32_171, a33_171, a32_s20, a33_s20, e17, e18, e19, e20, Int.add_zero, Int.add_sub_cancel, Int.reduceAdd, Int.reduceMul, Int.reduceSub, Int.reduceNeg, ev_wr_id]) | ((first | with_reducible refine br_40 ?_ ?_ | with_reducible refine br_41 ?_ ?_ | with_reducible refine br_42 ?_ ?_ | with_reducible refine br_43 ?_ ?_ | with_reducible refine br_44 ?_ ?_ | with_reducible refine br_45 ?_ ?_ | with_reducible refine br_46 ?_ ?_ | with_reducible refine br_47 ?_ ?_ | with_reducible refine br_48 ?_ ?_ | with_reducible refine br_49 ?_ ?_ | with_reducible refine br_50 ?_ ?_ | with_reducible refine br_51 ?_ ?_) <;> intro h <;> try simp (disch := first | assumption | exact Nat.le_of_ble_eq_true rfl | omega) only [ev_wr_id, not_true_eq_false, not_false_eq_true, Int.reduceEq, Int.reduceLT, Int.reduceLE, and_self, and_true, true_and, and_false, false_and, reduceIte] at h <;> try (exfalso; omega; done)))
theorem c_20T {b : Int} {σ : ev_M} (hE : st_E (st_T σ ev_n) (σ 183)) (hI : st_I (σ 183)) (hb : 0 ≤ b ∧ b < σ 183 2) : ∃ f, EM 20 [.inr (.inl 170), .inr (.inl (ev_n + 6)), .inl b, .inl 0] σ = some (none, ev_ua σ 171 f) ∧ ∀ o, 0 ≤ o → o < σ 183 (89 + 5 * b + 1) → f o = σ 183 (119 + 30 * b + 5 * o + 1) := by
  have hI2 := st_I_E (st_E_s hE) hI
  have e2 := hE 2 (by omega) (by omega)
  have i2 := hI.1.2.2.1
  have hbb := hI.2.2.1 b hb.1 hb.2
  have hpk := st_pk hI2 (b := b) (by omega)
  have e11 : σ (ev_n + 11) b = σ 183 (89 + 5 * b + 1) := (tr_11 (by omega)).trans (hE _ (by omega) (by omega))
  obtain ⟨f, e, hf⟩ := c_20 ev_S_n (b := b) (y := 0) (by omega) hpk (by omega)
  refine ⟨f, e, fun o h0 h1 => ?_⟩
  rw [hf o h0 (by omega), ev_ra_0 hpk h0 (by omega), tr_13 (σ := σ) (s := ev_n) (b := b) (c := o) (by omega) (by omega), hE _ (by omega) (by omega)]
