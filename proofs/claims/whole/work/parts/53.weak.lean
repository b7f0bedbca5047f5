/-! calls on both sides: weakensIn, weak, ratingBehind -/
theorem st_N_sup {σ M : ev_M} (h1 : ∀ i, (0 ≤ i ∧ i ≤ 22) ∨ (46 ≤ i ∧ i ≤ 160) ∨ i = 163 ∨ i = 165 ∨ i = 184 ∨ i = 190 → M i = σ i) (h2 : M 162 0 = σ 162 0) (h3 : M 164 1 = σ 164 1) (h4 : M 182 1 = σ 182 1) (h5 : M 182 11 = σ 182 11) (h6 : ∀ q, 338 ≤ q → M 183 q = ev_cp σ 183 0 183 2028 338 183 q) : st_N σ (ev_cp M 183 2028 183 0 338) := by
  refine ⟨fun i h => ?_, ?_, ?_, ?_, ?_, fun k h0 h7 => ?_⟩
  · funext z
    rw [ev_cp_ne (by omega), h1 i h]
  · rw [ev_cp_ne (by omega), h2]
  · rw [ev_cp_ne (by omega), h3]
  · rw [ev_cp_ne (by omega), h4]
  · rw [ev_cp_ne (by omega), h5]
  · by_cases c : k < 338
    · rw [ev_cp_in (by omega) (by omega), h6 _ (by omega), ev_cp_in (by omega) (by omega)]
      congr 1
      omega
    · rw [ev_cp_out (by omega), h6 k (by omega), ev_cp_out (by omega)]
theorem pr_84 {σ : ev_M} {b : Int} (hJ : st_J σ) (hb9 : -2147483648 ≤ b ∧ b ≤ 2147483647) : st_P 84 150 [.inl b] σ := by
  obtain ⟨a1, a2, a3, a4, a5, a6, a7, a8⟩ := id hJ
  obtain ⟨t0, t1, t2, t3, t4, t5, t6, t7, t8, r2, r3, r4, r5, r7, r11, r8, r9, r10, r12, r13, r14, r15, r16, r18, r19, r20, r21, r22⟩ := st_rd a1; obtain ⟨⟨i0, i1, i2, i3, i4, i5⟩, hr, hb, hc, hp, hl, hq⟩ := id a2; have hSn := ev_S_n; have hn0 : ev_n = 0 := rfl
  by_cases c1 : 0 ≤ b ∧ b < σ 183 2
  · obtain ⟨f, g, e18, -, -⟩ := c_18T a1 a2 c1
    have m183 : ev_fr σ f g 183 = σ 183 := ev_fr_row (by omega)
    have hrt := st_rt_in a2 c1
    have hw0 := st_wt_0 a2 c1
    obtain ⟨m, σ1, e24, hN, h183, hm, hm1, hm2⟩ := l_24 (b := b) 10 1024 0 none (ev_fr σ f g) (by decide) (by omega) (ev_fr_E a1) (by rw [m183]; exact a2) (by rw [m183]; exact c1) (by omega) (by rw [m183, hw0]; exact Int.le_refl _) (Or.inl (by omega))
    rw [m183] at e24 hm1 hm2 h183
    have hN1 := st_N_t (st_N_fr (σ := σ) (f := f) (g := g)) hN
    have q24 : EM 24 [.inr (.inl 170), .inr (.inl (ev_n + 6)), .inl b] σ = some (some (.inl (if m < 1000 then m + 1 else -1)), σ1) := by
      rw [mm_24]
      repeat' (first | (simp (disch := first | assumption | exact Nat.le_of_ble_eq_true rfl | omega) only [bk_24_0, eo_1_0, eo_1_1, eo_0_2, v2_3, ev_ki, ev_kv, eo_3_3n, eo_3_3i, eo_3_3r, eo_6, eo_3_4n, eo_3_4i, eo_3_4r, eo_3_5n, eo_3_5i, eo_3_5r, eo_53, eo_0_5, eo_0_4, eo_10, eo_3_6n, eo_3_6i, eo_3_6r, eo_0_6, v2_4, eo_0_3, bk_24_2, eo_13d, ev_div_id, eo_52, bk_24_3, bk_24_4, bk_24_5, eo_56i, e18, Int.add_zero, Int.add_sub_cancel, Int.reduceAdd, Int.reduceMul, Int.reduceSub, Int.reduceNeg, ev_wr_id]) | ((first | with_reducible refine br_40 ?_ ?_ | with_reducible refine br_41 ?_ ?_ | with_reducible refine br_42 ?_ ?_ | with_reducible refine br_43 ?_ ?_ | with_reducible refine br_44 ?_ ?_ | with_reducible refine br_45 ?_ ?_ | with_reducible refine br_46 ?_ ?_ | with_reducible refine br_47 ?_ ?_ | with_reducible refine br_48 ?_ ?_ | with_reducible refine br_49 ?_ ?_ | with_reducible refine br_50 ?_ ?_ | with_reducible refine br_51 ?_ ?_) <;> intro h <;> try simp (disch := first | assumption | exact Nat.le_of_ble_eq_true rfl | omega) only [ev_wr_id, not_true_eq_false, not_false_eq_true, Int.reduceEq, Int.reduceLT, Int.reduceLE, and_self, and_true, true_and, and_false, false_and, reduceIte] at h <;> try (exfalso; omega; done)))
      exact e24
    -- the reference
    obtain ⟨σc, dc⟩ : ∃ z, z = ev_cp σ1 183 0 183 2028 338 := ⟨_, rfl⟩
    have hEc : st_E (σ 183) (σc 183) := fun k h0 h1 => by rw [dc, ev_cp_out (by omega), h183]
    have hIc := st_I_E hEc a2
    obtain ⟨g2, e117, -⟩ := c_117T (σ := σc) (b := b) hIc (by rw [← hEc 2 (by omega) (by omega)]; exact c1)
    rw [← st_rt_E hEc a2 c1] at e117
    obtain ⟨m2, σ2, e150, hF2, hR2, h21, h22, h23⟩ := l_150 a2 c1 1001 0 (ev_ua σc 185 g2) (by omega) (by omega) (by
      rw [ev_ua_row (by omega)]
      exact st_G_f (st_G_EU a2 (st_G_0 a2) hEc) (fun b' c' _ _ _ _ => by split <;> rfl))
    have hmm : (if m < 1000 then m + 1 else -1) = if 1000 < m2 then -1 else m2 := by
      have hlt : m < m2 := by
        by_cases x : m < m2
        · exact x
        · have y1 := h23 (by omega)
          have y2 := st_wt_mono a2 c1 (y := m2) (z := m) (by omega) (by omega)
          omega
      by_cases x : m < 1000
      · have y1 := hm2 x
        by_cases x2 : m + 1 < m2
        · have y2 := h22 (m + 1) (by omega) x2
          omega
        · rw [if_pos x, if_neg (by omega)]
          omega
      · rw [if_neg x, if_pos (by omega)]
    refine st_P_N hJ (σ1 := σ1) (σ2 := ev_cp σ2 183 2028 183 0 338) (v := .inl (if m < 1000 then m + 1 else -1)) ?_ ?_ (st_N_t hN1 (st_N_sup ?_ ?_ ?_ ?_ ?_ ?_))
    · rw [mm_84]
      repeat' (first | (simp (disch := first | assumption | exact Nat.le_of_ble_eq_true rfl | omega) only [bk_84_0, eo_1_0, g10_28_0, g7_28_1, eo_0_1, v1_2, ev_ki, ev_kv, eo_6, eo_56i, bk_84_1, g10_28_4, v2_3, c_6, t2, q24, Int.add_zero, Int.add_sub_cancel, Int.reduceAdd, Int.reduceMul, Int.reduceSub, Int.reduceNeg, ev_wr_id]) | ((first | with_reducible refine br_40 ?_ ?_ | with_reducible refine br_41 ?_ ?_ | with_reducible refine br_42 ?_ ?_ | with_reducible refine br_43 ?_ ?_ | with_reducible refine br_44 ?_ ?_ | with_reducible refine br_45 ?_ ?_ | with_reducible refine br_46 ?_ ?_ | with_reducible refine br_47 ?_ ?_ | with_reducible refine br_48 ?_ ?_ | with_reducible refine br_49 ?_ ?_ | with_reducible refine br_50 ?_ ?_ | with_reducible refine br_51 ?_ ?_) <;> intro h <;> try simp (disch := first | assumption | exact Nat.le_of_ble_eq_true rfl | omega) only [ev_wr_id, not_true_eq_false, not_false_eq_true, Int.reduceEq, Int.reduceLT, Int.reduceLE, and_self, and_true, true_and, and_false, false_and, reduceIte] at h <;> try (exfalso; omega; done)))
    · have s2 : σ1 183 2 = σ 183 2 := by rw [h183]
      rw [hmm, mm_150]
      repeat' (first | (simp (disch := first | assumption | exact Nat.le_of_ble_eq_true rfl | omega) only [bk_150_0, eo_1_0, eo_0_1, v11_2, ev_ki, ev_kv, eo_6, eo_56i, bk_150_1, v11_3, eo_3_2n, eo_3_2i, eo_3_2r, eo_3_3n, eo_3_3i, eo_3_3r, eo_53, eo_0_3, eo_0_2, eo_23_3n, eo_23_3i, eo_23_3r, eo_52, bk_150_3, bk_150_4, bk_150_5, c_111, Int.add_zero, Int.add_sub_cancel, Int.reduceAdd, Int.reduceMul, Int.reduceSub, Int.reduceNeg, ev_wr_id]) | ((first | with_reducible refine br_40 ?_ ?_ | with_reducible refine br_41 ?_ ?_ | with_reducible refine br_42 ?_ ?_ | with_reducible refine br_43 ?_ ?_ | with_reducible refine br_44 ?_ ?_ | with_reducible refine br_45 ?_ ?_ | with_reducible refine br_46 ?_ ?_ | with_reducible refine br_47 ?_ ?_ | with_reducible refine br_48 ?_ ?_ | with_reducible refine br_49 ?_ ?_ | with_reducible refine br_50 ?_ ?_ | with_reducible refine br_51 ?_ ?_) <;> intro h <;> try simp (disch := first | assumption | exact Nat.le_of_ble_eq_true rfl | omega) only [ev_wr_id, not_true_eq_false, not_false_eq_true, Int.reduceEq, Int.reduceLT, Int.reduceLE, and_self, and_true, true_and, and_false, false_and, reduceIte] at h <;> try (exfalso; omega; done)))
      have e107 := c_107 (σ := σ1) (a := 0) (b := 6) (by omega) (by omega) (by omega)
      have e1072 := c_107 (σ := σ2) (a := 6) (b := 0) (by omega) (by omega) (by omega)
      rw [show (338 : Int) * 0 = 0 from rfl, show (338 : Int) * 6 = 2028 from rfl] at e107 e1072
      rw [← dc] at e107
      repeat' (first | (simp (disch := first | assumption | exact Nat.le_of_ble_eq_true rfl | omega) only [bk_150_0, eo_1_0, eo_0_1, v11_2, ev_ki, ev_kv, eo_6, eo_56i, bk_150_1, v11_3, eo_3_2n, eo_3_2i, eo_3_2r, eo_3_3n, eo_3_3i, eo_3_3r, eo_53, eo_0_3, eo_0_2, eo_23_3n, eo_23_3i, eo_23_3r, eo_52, bk_150_3, bk_150_4, bk_150_5, c_111, e107, e117, Int.add_zero, Int.add_sub_cancel, Int.reduceAdd, Int.reduceMul, Int.reduceSub, Int.reduceNeg, ev_wr_id]) | ((first | with_reducible refine br_40 ?_ ?_ | with_reducible refine br_41 ?_ ?_ | with_reducible refine br_42 ?_ ?_ | with_reducible refine br_43 ?_ ?_ | with_reducible refine br_44 ?_ ?_ | with_reducible refine br_45 ?_ ?_ | with_reducible refine br_46 ?_ ?_ | with_reducible refine br_47 ?_ ?_ | with_reducible refine br_48 ?_ ?_ | with_reducible refine br_49 ?_ ?_ | with_reducible refine br_50 ?_ ?_ | with_reducible refine br_51 ?_ ?_) <;> intro h <;> try simp (disch := first | assumption | exact Nat.le_of_ble_eq_true rfl | omega) only [ev_wr_id, not_true_eq_false, not_false_eq_true, Int.reduceEq, Int.reduceLT, Int.reduceLE, and_self, and_true, true_and, and_false, false_and, reduceIte] at h <;> try (exfalso; omega; done)))
      rw [e150, bk_150_3]
      repeat' (first | (simp (disch := first | assumption | exact Nat.le_of_ble_eq_true rfl | omega) only [bk_150_0, eo_1_0, eo_0_1, v11_2, ev_ki, ev_kv, eo_6, eo_56i, bk_150_1, v11_3, eo_3_2n, eo_3_2i, eo_3_2r, eo_3_3n, eo_3_3i, eo_3_3r, eo_53, eo_0_3, eo_0_2, eo_23_3n, eo_23_3i, eo_23_3r, eo_52, bk_150_3, bk_150_4, bk_150_5, c_111, e1072, Int.add_zero, Int.add_sub_cancel, Int.reduceAdd, Int.reduceMul, Int.reduceSub, Int.reduceNeg, ev_wr_id]) | ((first | with_reducible refine br_40 ?_ ?_ | with_reducible refine br_41 ?_ ?_ | with_reducible refine br_42 ?_ ?_ | with_reducible refine br_43 ?_ ?_ | with_reducible refine br_44 ?_ ?_ | with_reducible refine br_45 ?_ ?_ | with_reducible refine br_46 ?_ ?_ | with_reducible refine br_47 ?_ ?_ | with_reducible refine br_48 ?_ ?_ | with_reducible refine br_49 ?_ ?_ | with_reducible refine br_50 ?_ ?_ | with_reducible refine br_51 ?_ ?_) <;> intro h <;> try simp (disch := first | assumption | exact Nat.le_of_ble_eq_true rfl | omega) only [ev_wr_id, not_true_eq_false, not_false_eq_true, Int.reduceEq, Int.reduceLT, Int.reduceLE, and_self, and_true, true_and, and_false, false_and, reduceIte] at h <;> try (exfalso; omega; done)))
      all_goals (repeat' split) <;> first | rfl | omega | (exfalso; omega)
    · exact fun i h => by rw [hF2 i (by omega) (by omega), ev_ua_row (by omega), dc]; funext z; exact ev_cp_ne (by omega)
    · rw [hF2 162 (by omega) (by omega), ev_ua_ne (by omega), dc]
      exact ev_cp_ne (by omega)
    · rw [hF2 164 (by omega) (by omega), ev_ua_ne (by omega), dc]
      exact ev_cp_ne (by omega)
    · rw [hF2 182 (by omega) (by omega), ev_ua_ne (by omega), dc]
      exact ev_cp_ne (by omega)
    · rw [hF2 182 (by omega) (by omega), ev_ua_ne (by omega), dc]
      exact ev_cp_ne (by omega)
    · exact fun q h => by rw [hR2 q h, ev_ua_ne (by omega), dc]
  · refine st_P_N hJ (σ1 := σ) (σ2 := σ) (v := .inl (-2)) ?_ ?_ st_N_r
    · rw [mm_84]
      repeat' (first | (simp (disch := first | assumption | exact Nat.le_of_ble_eq_true rfl | omega) only [bk_84_0, eo_1_0, g10_28_0, g7_28_1, eo_0_1, v1_2, ev_ki, ev_kv, eo_6, eo_56i, bk_84_1, g10_28_4, v2_3, c_6, t2, Int.add_zero, Int.add_sub_cancel, Int.reduceAdd, Int.reduceMul, Int.reduceSub, Int.reduceNeg, ev_wr_id]) | ((first | with_reducible refine br_40 ?_ ?_ | with_reducible refine br_41 ?_ ?_ | with_reducible refine br_42 ?_ ?_ | with_reducible refine br_43 ?_ ?_ | with_reducible refine br_44 ?_ ?_ | with_reducible refine br_45 ?_ ?_ | with_reducible refine br_46 ?_ ?_ | with_reducible refine br_47 ?_ ?_ | with_reducible refine br_48 ?_ ?_ | with_reducible refine br_49 ?_ ?_ | with_reducible refine br_50 ?_ ?_ | with_reducible refine br_51 ?_ ?_) <;> intro h <;> try simp (disch := first | assumption | exact Nat.le_of_ble_eq_true rfl | omega) only [ev_wr_id, not_true_eq_false, not_false_eq_true, Int.reduceEq, Int.reduceLT, Int.reduceLE, and_self, and_true, true_and, and_false, false_and, reduceIte] at h <;> try (exfalso; omega; done)))
    · rw [mm_150]
      repeat' (first | (simp (disch := first | assumption | exact Nat.le_of_ble_eq_true rfl | omega) only [bk_150_0, eo_1_0, eo_0_1, v11_2, ev_ki, ev_kv, eo_6, eo_56i, bk_150_1, v11_3, eo_3_2n, eo_3_2i, eo_3_2r, eo_3_3n, eo_3_3i, eo_3_3r, eo_53, eo_0_3, eo_0_2, eo_23_3n, eo_23_3i, eo_23_3r, eo_52, bk_150_3, bk_150_4, bk_150_5, c_111, c_107, Int.add_zero, Int.add_sub_cancel, Int.reduceAdd, Int.reduceMul, Int.reduceSub, Int.reduceNeg, ev_wr_id]) | ((first | with_reducible refine br_40 ?_ ?_ | with_reducible refine br_41 ?_ ?_ | with_reducible refine br_42 ?_ ?_ | with_reducible refine br_43 ?_ ?_ | with_reducible refine br_44 ?_ ?_ | with_reducible refine br_45 ?_ ?_ | with_reducible refine br_46 ?_ ?_ | with_reducible refine br_47 ?_ ?_ | with_reducible refine br_48 ?_ ?_ | with_reducible refine br_49 ?_ ?_ | with_reducible refine br_50 ?_ ?_ | with_reducible refine br_51 ?_ ?_) <;> intro h <;> try simp (disch := first | assumption | exact Nat.le_of_ble_eq_true rfl | omega) only [ev_wr_id, not_true_eq_false, not_false_eq_true, Int.reduceEq, Int.reduceLT, Int.reduceLE, and_self, and_true, true_and, and_false, false_and, reduceIte] at h <;> try (exfalso; omega; done)))
