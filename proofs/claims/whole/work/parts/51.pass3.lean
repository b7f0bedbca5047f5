theorem pi_year {T : Int → Int} {v : Int} (h : st_I T) (h0 : T 5 ≤ v) (h1 : v ≤ 1000) : st_I (ev_u1 T 5 v) := by
  obtain ⟨⟨i0, i1, i2, i3, i4, i5⟩, hr, hb, hc, hp, hl, hq⟩ := h
  refine ⟨?_, fun r h0 h1 => ?_, fun b h0 h1 => ?_, fun b h0 h1 => ?_, fun b c h0 h1 h2 h3 => ?_, fun l h0 h1 => ?_, fun q h0 h1 => ⟨?_, fun z z0 z1 => ?_⟩⟩
  · simp (disch := omega) only [ev_u1_eq, ev_u1_ne]
    omega
  · simp (disch := omega) only [ev_u1_eq, ev_u1_ne] at h1 ⊢
    exact hr r h0 h1
  · simp (disch := omega) only [ev_u1_eq, ev_u1_ne] at h1 ⊢
    have := hb b h0 h1
    omega
  · simp (disch := omega) only [ev_u1_eq, ev_u1_ne]
    exact hc b h0 h1
  · simp (disch := omega) only [ev_u1_eq, ev_u1_ne] at h1 h3 ⊢
    exact hp b c h0 h1 h2 h3
  · simp (disch := omega) only [ev_u1_eq, ev_u1_ne] at h1 ⊢
    have h9 := hl l h0 h1
    rw [ev_u1_ne (by omega)]
    exact h9
  · simp (disch := omega) only [ev_u1_eq, ev_u1_ne] at h1 ⊢
    exact (hq q h0 h1).1
  · simp (disch := omega) only [ev_u1_eq, ev_u1_ne] at h1 ⊢
    exact (hq q h0 h1).2 z z0 z1
theorem l_139b {T : Int → Int} {y kk j : Int} {σ : ev_M} (hI : st_I T) (hj : 0 ≤ j) : ∀ (k : Nat) (b : Int) (U : Int → Int), 0 ≤ b → b + k = T 2 → st_G T U (fun b' _ => if b' < b then j + 1 else j) → ∃ U1 q3, EB 139 4 [some (.inr (.inl 182)), some (.inl y), some (.inl kk), some (.inl b)] [] (ev_ua σ 183 U) = EB 139 5 [some (.inr (.inl 182)), some (.inl y), some (.inl kk), q3] [] (ev_ua σ 183 U1) ∧ st_G T U1 (fun _ _ => j + 1) ∧ ∀ q, 338 ≤ q → U1 q = U q := by
  have i2 := hI.1.2.2.1
  intro k
  induction k with
  | zero =>
    intro b U h0 h1 hG
    have e2 : U 2 = b := by rw [st_G_lo hI hG _ (by omega) (by omega)]; omega
    refine ⟨U, some (.inl b), ?_, st_G_f hG (fun b' c' _ _ _ _ => if_pos (by omega)), fun _ _ => rfl⟩
    rw [bk_139_4]
    repeat' (first | (simp (disch := first | assumption | exact Nat.le_of_ble_eq_true rfl | omega) only [bk_139_0, eo_0_1, eo_6, eo_60_3, ev_ki, ev_kv, eo_56i, bk_139_1, eo_1_0, g11_28_0, eo_10, bk_139_2, v11_1, eo_3_2n, eo_3_2i, eo_3_2r, eo_53, eo_0_2, eo_3_3n, eo_3_3i, eo_3_3r, eo_0_3, v11_2, eo_23_3n, eo_23_3i, eo_23_3r, eo_52, eo_25, eo_23_2n, eo_23_2i, eo_23_2r, bk_139_6, a32_183, a33_183, c_106, ev_ua_eq, e2, Int.add_zero, Int.add_sub_cancel, Int.reduceAdd, Int.reduceMul, Int.reduceSub, Int.reduceNeg, ev_wr_id]) | ((first | with_reducible refine br_40 ?_ ?_ | with_reducible refine br_41 ?_ ?_ | with_reducible refine br_42 ?_ ?_ | with_reducible refine br_43 ?_ ?_ | with_reducible refine br_44 ?_ ?_ | with_reducible refine br_45 ?_ ?_ | with_reducible refine br_46 ?_ ?_ | with_reducible refine br_47 ?_ ?_ | with_reducible refine br_48 ?_ ?_ | with_reducible refine br_49 ?_ ?_ | with_reducible refine br_50 ?_ ?_ | with_reducible refine br_51 ?_ ?_) <;> intro h <;> try simp (disch := first | assumption | exact Nat.le_of_ble_eq_true rfl | omega) only [ev_wr_id, not_true_eq_false, not_false_eq_true, Int.reduceEq, Int.reduceLT, Int.reduceLE, and_self, and_true, true_and, and_false, false_and, reduceIte] at h <;> try (exfalso; omega; done)))
  | succ k ih =>
    intro b U h0 h1 hG
    have e2 : U 2 = T 2 := by rw [st_G_lo hI hG _ (by omega) (by omega)]
    obtain ⟨U1, e, hG1, hk⟩ := c_138 (σ := σ) (b := b) (j := j) (U := U) hI (by omega) hj (fun q hq => by rw [if_neg (by omega)]) hG
    obtain ⟨U2, q3, e3, hG2, hk2⟩ := ih (b + 1) U1 (by omega) (by omega) (st_G_f hG1 (fun b' c' _ _ _ _ => by
      by_cases x : b' = b
      · rw [if_pos x, if_pos (by omega)]
      · rw [if_neg x]
        by_cases x2 : b' < b
        · rw [if_pos x2, if_pos (by omega)]
        · rw [if_neg x2, if_neg (by omega)]))
    refine ⟨U2, q3, ?_, hG2, fun q hq => by rw [hk2 q hq, hk q hq]⟩
    rw [← e3, bk_139_4]
    repeat' (first | (simp (disch := first | assumption | exact Nat.le_of_ble_eq_true rfl | omega) only [bk_139_0, eo_0_1, eo_6, eo_60_3, ev_ki, ev_kv, eo_56i, bk_139_1, eo_1_0, g11_28_0, eo_10, bk_139_2, v11_1, eo_3_2n, eo_3_2i, eo_3_2r, eo_53, eo_0_2, eo_3_3n, eo_3_3i, eo_3_3r, eo_0_3, v11_2, eo_23_3n, eo_23_3i, eo_23_3r, eo_52, eo_25, eo_23_2n, eo_23_2i, eo_23_2r, bk_139_6, a32_183, a33_183, c_106, ev_ua_eq, e2, e, Int.add_zero, Int.add_sub_cancel, Int.reduceAdd, Int.reduceMul, Int.reduceSub, Int.reduceNeg, ev_wr_id]) | ((first | with_reducible refine br_40 ?_ ?_ | with_reducible refine br_41 ?_ ?_ | with_reducible refine br_42 ?_ ?_ | with_reducible refine br_43 ?_ ?_ | with_reducible refine br_44 ?_ ?_ | with_reducible refine br_45 ?_ ?_ | with_reducible refine br_46 ?_ ?_ | with_reducible refine br_47 ?_ ?_ | with_reducible refine br_48 ?_ ?_ | with_reducible refine br_49 ?_ ?_ | with_reducible refine br_50 ?_ ?_ | with_reducible refine br_51 ?_ ?_) <;> intro h <;> try simp (disch := first | assumption | exact Nat.le_of_ble_eq_true rfl | omega) only [ev_wr_id, not_true_eq_false, not_false_eq_true, Int.reduceEq, Int.reduceLT, Int.reduceLE, and_self, and_true, true_and, and_false, false_and, reduceIte] at h <;> try (exfalso; omega; done)))
theorem ev_u1_u1 {f : Int → Int} {a v w : Int} : ev_u1 (ev_u1 f a v) a w = ev_u1 f a w := by
  funext x
  unfold ev_u1
  by_cases c : x = a <;> simp [c]
theorem l_139 {T : Int → Int} {y : Int} {σ : ev_M} (hI : st_I T) (hy : 0 ≤ y ∧ T 5 + y ≤ 1000) : ∀ (k : Nat) (kk : Int) (p3 : Option ev_V) (U : Int → Int), 0 ≤ kk → kk + k = y → st_G (ev_u1 T 5 (T 5 + kk)) U (fun _ _ => kk) → ∃ U1, EB 139 3 [some (.inr (.inl 182)), some (.inl y), some (.inl kk), p3] [] (ev_ua σ 183 U) = some (some (.inl (T 5 + y)), ev_ua σ 183 U1) ∧ st_G (ev_u1 T 5 (T 5 + y)) U1 (fun _ _ => y) ∧ ∀ q, 338 ≤ q → U1 q = U q := by
  have i5 := hI.1.2.2.2.2.2
  intro k
  induction k with
  | zero =>
    intro kk p3 U h0 h1 hG
    obtain rfl : kk = y := by omega
    have hI2 := pi_year hI (v := T 5 + kk) (by omega) (by omega)
    have e5 : U 5 = T 5 + kk := by rw [st_G_lo hI2 hG _ (by omega) (by omega), ev_u1_eq rfl]
    refine ⟨U, ?_, hG, fun _ _ => rfl⟩
    rw [bk_139_3]
    repeat' (first | (simp (disch := first | assumption | exact Nat.le_of_ble_eq_true rfl | omega) only [bk_139_0, eo_0_1, eo_6, eo_60_3, ev_ki, ev_kv, eo_56i, bk_139_1, eo_1_0, g11_28_0, eo_10, bk_139_2, v11_1, eo_3_2n, eo_3_2i, eo_3_2r, eo_53, eo_0_2, eo_3_3n, eo_3_3i, eo_3_3r, eo_0_3, v11_2, eo_23_3n, eo_23_3i, eo_23_3r, eo_52, bk_139_5, eo_25, eo_23_2n, eo_23_2i, eo_23_2r, bk_139_6, a32_183, a33_183, c_106, ev_ua_eq, e5, Int.add_zero, Int.add_sub_cancel, Int.reduceAdd, Int.reduceMul, Int.reduceSub, Int.reduceNeg, ev_wr_id]) | ((first | with_reducible refine br_40 ?_ ?_ | with_reducible refine br_41 ?_ ?_ | with_reducible refine br_42 ?_ ?_ | with_reducible refine br_43 ?_ ?_ | with_reducible refine br_44 ?_ ?_ | with_reducible refine br_45 ?_ ?_ | with_reducible refine br_46 ?_ ?_ | with_reducible refine br_47 ?_ ?_ | with_reducible refine br_48 ?_ ?_ | with_reducible refine br_49 ?_ ?_ | with_reducible refine br_50 ?_ ?_ | with_reducible refine br_51 ?_ ?_) <;> intro h <;> try simp (disch := first | assumption | exact Nat.le_of_ble_eq_true rfl | omega) only [ev_wr_id, not_true_eq_false, not_false_eq_true, Int.reduceEq, Int.reduceLT, Int.reduceLE, and_self, and_true, true_and, and_false, false_and, reduceIte] at h <;> try (exfalso; omega; done)))
  | succ k ih =>
    intro kk p3 U h0 h1 hG
    have hI2 := pi_year hI (v := T 5 + kk) (by omega) (by omega)
    have i2 := hI2.1.2.2.1
    obtain ⟨U1, q3, e, hG1, hk⟩ := l_139b (σ := σ) (y := y) (kk := kk) hI2 h0 ((ev_u1 T 5 (T 5 + kk)) 2).toNat 0 U (by omega) (by omega) (st_G_f hG (fun b' c' _ _ _ _ => by rw [if_neg (by omega)]))
    have e5 : U1 5 = T 5 + kk := by rw [st_G_lo hI2 hG1 _ (by omega) (by omega), ev_u1_eq rfl]
    have hG2 := st_G_5 (v := T 5 + (kk + 1)) hG1
    rw [ev_u1_u1] at hG2
    have hT : T 5 + kk + 1 = T 5 + (kk + 1) := by omega
    obtain ⟨U2, e2, hG3, hk2⟩ := ih (kk + 1) q3 _ (by omega) (by omega) hG2
    refine ⟨U2, ?_, hG3, fun q hq => by rw [hk2 q hq, ev_u1_ne (by omega), hk q hq]⟩
    rw [← e2, bk_139_3]
    repeat' (first | (simp (disch := first | assumption | exact Nat.le_of_ble_eq_true rfl | omega) only [bk_139_0, eo_0_1, eo_6, eo_60_3, ev_ki, ev_kv, eo_56i, bk_139_1, eo_1_0, g11_28_0, eo_10, bk_139_2, v11_1, eo_3_2n, eo_3_2i, eo_3_2r, eo_53, eo_0_2, eo_3_3n, eo_3_3i, eo_3_3r, eo_0_3, v11_2, eo_23_3n, eo_23_3i, eo_23_3r, eo_52, bk_139_5, eo_25, eo_23_2n, eo_23_2i, eo_23_2r, bk_139_6, a32_183, a33_183, c_106, e, ev_ua_eq, e5, ev_up_ua, hT, Int.add_zero, Int.add_sub_cancel, Int.reduceAdd, Int.reduceMul, Int.reduceSub, Int.reduceNeg, ev_wr_id]) | ((first | with_reducible refine br_40 ?_ ?_ | with_reducible refine br_41 ?_ ?_ | with_reducible refine br_42 ?_ ?_ | with_reducible refine br_43 ?_ ?_ | with_reducible refine br_44 ?_ ?_ | with_reducible refine br_45 ?_ ?_ | with_reducible refine br_46 ?_ ?_ | with_reducible refine br_47 ?_ ?_ | with_reducible refine br_48 ?_ ?_ | with_reducible refine br_49 ?_ ?_ | with_reducible refine br_50 ?_ ?_ | with_reducible refine br_51 ?_ ?_) <;> intro h <;> try simp (disch := first | assumption | exact Nat.le_of_ble_eq_true rfl | omega) only [ev_wr_id, not_true_eq_false, not_false_eq_true, Int.reduceEq, Int.reduceLT, Int.reduceLE, and_self, and_true, true_and, and_false, false_and, reduceIte] at h <;> try (exfalso; omega; done)))
theorem pr_80 {σ : ev_M} {y : Int} (hJ : st_J σ) (hy9 : -2147483648 ≤ y ∧ y ≤ 2147483647) : st_P 80 139 [.inl y] σ := by
  obtain ⟨a1, a2, a3, a4, a5, a6, a7, a8⟩ := id hJ
  obtain ⟨t0, t1, t2, t3, t4, t5, t6, t7, t8, r2, r3, r4, r5, r7, r11, r8, r9, r10, r12, r13, r14, r15, r16, r18, r19, r20, r21, r22⟩ := st_rd a1; obtain ⟨⟨i0, i1, i2, i3, i4, i5⟩, hr, hb, hc, hp, hl, hq⟩ := id a2; have hSn := ev_S_n; have hn0 : ev_n = 0 := rfl
  by_cases c1 : 1 ≤ y ∧ y ≤ 50
  · by_cases c2 : σ 183 5 + y ≤ 1000
    · obtain ⟨σa, e26, hF, hS⟩ := st_sv hJ
      have w0 : σa ev_n = σ ev_n := hF _ (by omega)
      obtain ⟨σm, dm⟩ : ∃ z, z = ev_up σa ev_n 3 (σ 183 5 + y) := ⟨_, rfl⟩
      have hIy := pi_year a2 (v := σ 183 5 + y) (by omega) c2
      have hEm : st_E (st_T σm ev_n) (ev_u1 (σ 183) 5 (σ 183 5 + y)) := by
        rw [dm]
        exact st_E_t tw_n5 (st_E_u (st_E_t (st_T_congr (fun o q0 q1 => hF _ (by omega))) a1))
      obtain ⟨σ1, e13, hF1, hG1⟩ := c_13 (σ := σm) (y := y) hIy (by omega) hEm
      have f1 : ∀ i, 22 < i → σ1 i = σa i := fun i hi => by
        rw [hF1 i (by omega) (by omega), dm]
        funext z
        exact ev_up_ne (by omega)
      have qy : σ1 ev_n 3 = σ 183 5 + y := by
        rw [hF1 _ (by omega) (by omega), dm]
        exact ev_up_eq ⟨rfl, rfl⟩
      obtain ⟨σb, e108, hbF, hE, hI, hbk, hfin⟩ := hS σ1 f1
      have m183 : σ1 183 = σ 183 := by rw [f1 183 (by omega), hF 183 (by omega)]
      have s5 := congrFun m183 5
      have b5 := hbk 5 (by omega) (by omega)
      have hEb : st_E (σ 183) (σb 183) := st_E_s hbk
      have hG0 : st_G (ev_u1 (σ 183) 5 (σ 183 5 + 0)) (σb 183) (fun _ _ => 0) := by
        rw [Int.add_zero]
        have hI0 := pi_year a2 (v := σ 183 5) (by omega) (by omega)
        refine st_G_EU hI0 (st_G_0 hI0) (st_E_t (fun k h0 h1 => ?_) hEb)
        by_cases x : k = 5
        · rw [ev_u1_eq x, x]
        · rw [ev_u1_ne x]
      obtain ⟨U1, e, hG2, hk2⟩ := l_139 (σ := σb) (y := y) a2 (by omega) y.toNat 0 none (σb 183) (by omega) (by omega) hG0
      rw [ev_ua_self] at e
      refine ⟨.inl (σ 183 5 + y), σ1, ev_ua σb 183 U1, ?_, ?_, hfin _ (fun k hk => hk2 k hk) ?_ ?_⟩
      · rw [mm_80]
        rw [dm] at e13
        repeat' (first | (simp (disch := first | assumption | exact Nat.le_of_ble_eq_true rfl | omega) only [bk_80_0, eo_0_1, eo_6, eo_60_3, ev_ki, ev_kv, eo_56i, bk_80_1, eo_1_0, g10_28_0, g7_27, eo_10, bk_80_2, g10_28_2, v3_2, eo_24i, eo_24r, g7_30, g7_28_1, v1_2, c_104, t5, e26, w0, e13, qy, Int.add_zero, Int.add_sub_cancel, Int.reduceAdd, Int.reduceMul, Int.reduceSub, Int.reduceNeg, ev_wr_id]) | ((first | with_reducible refine br_40 ?_ ?_ | with_reducible refine br_41 ?_ ?_ | with_reducible refine br_42 ?_ ?_ | with_reducible refine br_43 ?_ ?_ | with_reducible refine br_44 ?_ ?_ | with_reducible refine br_45 ?_ ?_ | with_reducible refine br_46 ?_ ?_ | with_reducible refine br_47 ?_ ?_ | with_reducible refine br_48 ?_ ?_ | with_reducible refine br_49 ?_ ?_ | with_reducible refine br_50 ?_ ?_ | with_reducible refine br_51 ?_ ?_) <;> intro h <;> try simp (disch := first | assumption | exact Nat.le_of_ble_eq_true rfl | omega) only [ev_wr_id, not_true_eq_false, not_false_eq_true, Int.reduceEq, Int.reduceLT, Int.reduceLE, and_self, and_true, true_and, and_false, false_and, reduceIte] at h <;> try (exfalso; omega; done)))
      · rw [mm_139]
        repeat' (first | (simp (disch := first | assumption | exact Nat.le_of_ble_eq_true rfl | omega) only [bk_139_0, eo_0_1, eo_6, eo_60_3, ev_ki, ev_kv, eo_56i, bk_139_1, eo_1_0, g11_28_0, eo_10, bk_139_2, v11_1, eo_3_2n, eo_3_2i, eo_3_2r, eo_53, eo_0_2, eo_3_3n, eo_3_3i, eo_3_3r, eo_0_3, v11_2, eo_23_3n, eo_23_3i, eo_23_3r, eo_52, bk_139_5, eo_25, eo_23_2n, eo_23_2i, eo_23_2r, bk_139_6, a32_183, a33_183, c_106, e108, Int.add_zero, Int.add_sub_cancel, Int.reduceAdd, Int.reduceMul, Int.reduceSub, Int.reduceNeg, ev_wr_id]) | ((first | with_reducible refine br_40 ?_ ?_ | with_reducible refine br_41 ?_ ?_ | with_reducible refine br_42 ?_ ?_ | with_reducible refine br_43 ?_ ?_ | with_reducible refine br_44 ?_ ?_ | with_reducible refine br_45 ?_ ?_ | with_reducible refine br_46 ?_ ?_ | with_reducible refine br_47 ?_ ?_ | with_reducible refine br_48 ?_ ?_ | with_reducible refine br_49 ?_ ?_ | with_reducible refine br_50 ?_ ?_ | with_reducible refine br_51 ?_ ?_) <;> intro h <;> try simp (disch := first | assumption | exact Nat.le_of_ble_eq_true rfl | omega) only [ev_wr_id, not_true_eq_false, not_false_eq_true, Int.reduceEq, Int.reduceLT, Int.reduceLE, and_self, and_true, true_and, and_false, false_and, reduceIte] at h <;> try (exfalso; omega; done)))
        exact e
      · exact st_G_E hG1 hG2
      · exact st_G_I hIy hG2 (fun _ _ => by omega)
    · refine st_P_N hJ (σ1 := σ) (σ2 := σ) (v := .inl (-5)) ?_ ?_ st_N_r
      · rw [mm_80]
        repeat' (first | (simp (disch := first | assumption | exact Nat.le_of_ble_eq_true rfl | omega) only [bk_80_0, eo_0_1, eo_6, eo_60_3, ev_ki, ev_kv, eo_56i, bk_80_1, eo_1_0, g10_28_0, g7_27, eo_10, bk_80_2, g10_28_2, v3_2, eo_24i, eo_24r, g7_30, g7_28_1, v1_2, c_104, t5, Int.add_zero, Int.add_sub_cancel, Int.reduceAdd, Int.reduceMul, Int.reduceSub, Int.reduceNeg, ev_wr_id]) | ((first | with_reducible refine br_40 ?_ ?_ | with_reducible refine br_41 ?_ ?_ | with_reducible refine br_42 ?_ ?_ | with_reducible refine br_43 ?_ ?_ | with_reducible refine br_44 ?_ ?_ | with_reducible refine br_45 ?_ ?_ | with_reducible refine br_46 ?_ ?_ | with_reducible refine br_47 ?_ ?_ | with_reducible refine br_48 ?_ ?_ | with_reducible refine br_49 ?_ ?_ | with_reducible refine br_50 ?_ ?_ | with_reducible refine br_51 ?_ ?_) <;> intro h <;> try simp (disch := first | assumption | exact Nat.le_of_ble_eq_true rfl | omega) only [ev_wr_id, not_true_eq_false, not_false_eq_true, Int.reduceEq, Int.reduceLT, Int.reduceLE, and_self, and_true, true_and, and_false, false_and, reduceIte] at h <;> try (exfalso; omega; done)))
      · rw [mm_139]
        repeat' (first | (simp (disch := first | assumption | exact Nat.le_of_ble_eq_true rfl | omega) only [bk_139_0, eo_0_1, eo_6, eo_60_3, ev_ki, ev_kv, eo_56i, bk_139_1, eo_1_0, g11_28_0, eo_10, bk_139_2, v11_1, eo_3_2n, eo_3_2i, eo_3_2r, eo_53, eo_0_2, eo_3_3n, eo_3_3i, eo_3_3r, eo_0_3, v11_2, eo_23_3n, eo_23_3i, eo_23_3r, eo_52, bk_139_5, eo_25, eo_23_2n, eo_23_2i, eo_23_2r, bk_139_6, a32_183, a33_183, c_106, Int.add_zero, Int.add_sub_cancel, Int.reduceAdd, Int.reduceMul, Int.reduceSub, Int.reduceNeg, ev_wr_id]) | ((first | with_reducible refine br_40 ?_ ?_ | with_reducible refine br_41 ?_ ?_ | with_reducible refine br_42 ?_ ?_ | with_reducible refine br_43 ?_ ?_ | with_reducible refine br_44 ?_ ?_ | with_reducible refine br_45 ?_ ?_ | with_reducible refine br_46 ?_ ?_ | with_reducible refine br_47 ?_ ?_ | with_reducible refine br_48 ?_ ?_ | with_reducible refine br_49 ?_ ?_ | with_reducible refine br_50 ?_ ?_ | with_reducible refine br_51 ?_ ?_) <;> intro h <;> try simp (disch := first | assumption | exact Nat.le_of_ble_eq_true rfl | omega) only [ev_wr_id, not_true_eq_false, not_false_eq_true, Int.reduceEq, Int.reduceLT, Int.reduceLE, and_self, and_true, true_and, and_false, false_and, reduceIte] at h <;> try (exfalso; omega; done)))
  · refine st_P_N hJ (σ1 := σ) (σ2 := σ) (v := .inl (-3)) ?_ ?_ st_N_r
    · rw [mm_80]
      repeat' (first | (simp (disch := first | assumption | exact Nat.le_of_ble_eq_true rfl | omega) only [bk_80_0, eo_0_1, eo_6, eo_60_3, ev_ki, ev_kv, eo_56i, bk_80_1, eo_1_0, g10_28_0, g7_27, eo_10, bk_80_2, g10_28_2, v3_2, eo_24i, eo_24r, g7_30, g7_28_1, v1_2, c_104, t5, Int.add_zero, Int.add_sub_cancel, Int.reduceAdd, Int.reduceMul, Int.reduceSub, Int.reduceNeg, ev_wr_id]) | ((first | with_reducible refine br_40 ?_ ?_ | with_reducible refine br_41 ?_ ?_ | with_reducible refine br_42 ?_ ?_ | with_reducible refine br_43 ?_ ?_ | with_reducible refine br_44 ?_ ?_ | with_reducible refine br_45 ?_ ?_ | with_reducible refine br_46 ?_ ?_ | with_reducible refine br_47 ?_ ?_ | with_reducible refine br_48 ?_ ?_ | with_reducible refine br_49 ?_ ?_ | with_reducible refine br_50 ?_ ?_ | with_reducible refine br_51 ?_ ?_) <;> intro h <;> try simp (disch := first | assumption | exact Nat.le_of_ble_eq_true rfl | omega) only [ev_wr_id, not_true_eq_false, not_false_eq_true, Int.reduceEq, Int.reduceLT, Int.reduceLE, and_self, and_true, true_and, and_false, false_and, reduceIte] at h <;> try (exfalso; omega; done)))
    · rw [mm_139]
      repeat' (first | (simp (disch := first | assumption | exact Nat.le_of_ble_eq_true rfl | omega) only [bk_139_0, eo_0_1, eo_6, eo_60_3, ev_ki, ev_kv, eo_56i, bk_139_1, eo_1_0, g11_28_0, eo_10, bk_139_2, v11_1, eo_3_2n, eo_3_2i, eo_3_2r, eo_53, eo_0_2, eo_3_3n, eo_3_3i, eo_3_3r, eo_0_3, v11_2, eo_23_3n, eo_23_3i, eo_23_3r, eo_52, bk_139_5, eo_25, eo_23_2n, eo_23_2i, eo_23_2r, bk_139_6, a32_183, a33_183, c_106, Int.add_zero, Int.add_sub_cancel, Int.reduceAdd, Int.reduceMul, Int.reduceSub, Int.reduceNeg, ev_wr_id]) | ((first | with_reducible refine br_40 ?_ ?_ | with_reducible refine br_41 ?_ ?_ | with_reducible refine br_42 ?_ ?_ | with_reducible refine br_43 ?_ ?_ | with_reducible refine br_44 ?_ ?_ | with_reducible refine br_45 ?_ ?_ | with_reducible refine br_46 ?_ ?_ | with_reducible refine br_47 ?_ ?_ | with_reducible refine br_48 ?_ ?_ | with_reducible refine br_49 ?_ ?_ | with_reducible refine br_50 ?_ ?_ | with_reducible refine br_51 ?_ ?_) <;> intro h <;> try simp (disch := first | assumption | exact Nat.le_of_ble_eq_true rfl | omega) only [ev_wr_id, not_true_eq_false, not_false_eq_true, Int.reduceEq, Int.reduceLT, Int.reduceLE, and_self, and_true, true_and, and_false, false_and, reduceIte] at h <;> try (exfalso; omega; done)))
