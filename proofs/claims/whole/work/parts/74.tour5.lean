theorem pr_83 {σ : ev_M} {x h i : Int} (hJ : st_J σ) (hx9 : -2147483648 ≤ x ∧ x ≤ 2147483647) (hh9 : -2147483648 ≤ h ∧ h ≤ 2147483647) (hi9 : -2147483648 ≤ i ∧ i ≤ 2147483647) : st_P 83 149 [.inl x, .inl h, .inl i] σ := by
  obtain ⟨a1, a2, a3, a4, a5, a6, a7, a8⟩ := id hJ
  obtain ⟨t0, t1, t2, t3, t4, t5, t6, t7, t8, r2, r3, r4, r5, r7, r11, r8, r9, r10, r12, r13, r14, r15, r16, r18, r19, r20, r21, r22⟩ := st_rd a1; obtain ⟨⟨i0, i1, i2, i3, i4, i5⟩, hr, hb, hc, hp, hl, hq⟩ := id a2; have hSn := ev_S_n; have hn0 : ev_n = 0 := rfl
  have hsp : ev_sp = 23 := rfl
  have hSp := ev_S_sp
  by_cases c1 : 0 ≤ x ∧ x < σ 183 0
  · by_cases c2 : (1 ≤ h ∧ h ≤ 200) ∧ 0 ≤ i
    · have hcl : ∀ b, 0 ≤ b → b < 6 → 0 ≤ σ (ev_n + 10) b ∧ σ (ev_n + 10) b ≤ 1 := fun b h0 h1 => by
        rw [r10 b h0 h1]
        exact a2.2.2.2.1 b h0 h1
      obtain ⟨σa, e56, hC, hF⟩ := c_56 (σ := σ) (s := ev_n) (t := ev_sp) hSn ev_S_sp (by omega) hcl
      have hEa : st_E (st_T σa ev_sp) (σ 183) := st_E_t hC a1
      obtain ⟨σ1, e57, f1, -, -, -, -⟩ := c_57 (σ := σa) (s := ev_sp) (x := x) (h := h) (T := σ 183) ev_S_sp hEa a2 c1 (by omega)
      have ff : ∀ j, (j < 23 ∨ 45 < j) → j ≠ 171 → j ≠ 172 → j ≠ 174 → j ≠ 177 → j ≠ 178 → σ1 j = σ j := fun j h0 h1 h2 h3 h4 h5 => by rw [f1 j (by omega) h1 h2 h3 h4 h5, hF j (by omega)]
      have m183 : σ1 183 = σ 183 := ff 183 (by omega) (by omega) (by omega) (by omega) (by omega) (by omega)
      have s0 := congrFun m183 0
      have hN1 : st_N σ σ1 := ⟨fun j hj => ff j (by omega) (by omega) (by omega) (by omega) (by omega) (by omega), by rw [ff 162 (by omega) (by omega) (by omega) (by omega) (by omega) (by omega)], by rw [ff 164 (by omega) (by omega) (by omega) (by omega) (by omega) (by omega)], by rw [ff 182 (by omega) (by omega) (by omega) (by omega) (by omega) (by omega)], by rw [ff 182 (by omega) (by omega) (by omega) (by omega) (by omega) (by omega)], fun k _ _ => by rw [m183]⟩
      obtain ⟨σc, dc⟩ : ∃ z, z = ev_cp σ1 183 0 183 2028 338 := ⟨_, rfl⟩
      have hEc : st_E (σ 183) (σc 183) := fun k h0 h1 => by rw [dc, ev_cp_out (by omega), m183]
      have hIc := st_I_E hEc a2
      have hcF : ∀ j, j ≠ 183 → σc j = σ1 j := fun j hj => by rw [dc]; funext y; exact ev_cp_ne hj
      have c0 := hEc 0 (by omega) (by omega)
      obtain ⟨σ1b, e57b, f1b, k1, k2, k3, k4⟩ := c_57 (σ := σa) (s := ev_sp) (x := x) (h := h) (T := σc 183) ev_S_sp (st_E_t hEa hEc) hIc (by rw [← c0]; exact c1) (by omega)
      obtain rfl : σ1 = σ1b := by
        rw [e57] at e57b
        injection e57b with q
        injection q
      obtain ⟨σ2, e147, g1, g2, g3, g4, g5, g6⟩ := c_147 (σ := σc) (x := x) (h := h) (T := σc 183) rfl hIc (fun r h0 h1 => by rw [hcF 184 (by omega), ff 184 (by omega) (by omega) (by omega) (by omega) (by omega) (by omega)]; exact a8 r h0 h1) (by rw [← c0]; exact c1) (by omega)
      have hrun := st_run_in 6 (σc 183) x h 0 (fun _ => -1)
      have hm6 : 0 ≤ σ1 177 0 ∧ σ1 177 0 ≤ 6 := by
        rw [k3]
        omega
      have e6 : σ2 182 6 = σ1 177 0 := by rw [g5, k3]
      have e107 := c_107 (σ := σ1) (a := 0) (b := 6) (by omega) (by omega) (by omega)
      have e1072 := c_107 (σ := σ2) (a := 6) (b := 0) (by omega) (by omega) (by omega)
      rw [show (338 : Int) * 0 = 0 from rfl, show (338 : Int) * 6 = 2028 from rfl] at e107 e1072
      rw [← dc] at e107
      have w6 : ev_cp σ2 183 2028 183 0 338 182 6 = σ1 177 0 := by rw [ev_cp_ne (by omega), e6]
      have w188 : ∀ j, ev_cp σ2 183 2028 183 0 338 188 j = σ2 188 j := fun j => ev_cp_ne (by omega)
      refine st_P_N hJ (σ1 := σ1) (σ2 := ev_cp σ2 183 2028 183 0 338) (v := .inl (if i < σ1 177 0 then σ1 178 i else -1)) ?_ ?_ (st_N_t hN1 (st_N_sup ?_ ?_ ?_ ?_ ?_ ?_))
      · clear k1 k2 k3 k4 g3 g4 g5 g6 hrun e6 e107 e1072 w6 w188 f1 f1b ff hN1 hcF
        rw [mm_83]
        by_cases c3 : i < σ1 177 0
        · rw [if_pos c3]
          repeat' (first | (simp (disch := first | assumption | exact Nat.le_of_ble_eq_true rfl | omega) only [bk_83_0, eo_1_0, g10_28_0, g7_28_0, eo_0_1, v6_2, ev_ki, ev_kv, eo_6, eo_56i, bk_83_1, eo_0_2, eo_60_3, eo_0_3, eo_53, bk_83_2, bk_83_3, g10_28_1, v7_2, g10_28_6, g10_28_5, g10_28_4, v8_6, g8_27, g8_28_1, eo_52, bk_83_4, bk_83_5, a32_178, c_44, c_104, t0, e56, e57, Int.add_zero, Int.add_sub_cancel, Int.reduceAdd, Int.reduceMul, Int.reduceSub, Int.reduceNeg, ev_wr_id]) | ((first | with_reducible refine br_40 ?_ ?_ | with_reducible refine br_41 ?_ ?_ | with_reducible refine br_42 ?_ ?_ | with_reducible refine br_43 ?_ ?_ | with_reducible refine br_44 ?_ ?_ | with_reducible refine br_45 ?_ ?_ | with_reducible refine br_46 ?_ ?_ | with_reducible refine br_47 ?_ ?_ | with_reducible refine br_48 ?_ ?_ | with_reducible refine br_49 ?_ ?_ | with_reducible refine br_50 ?_ ?_ | with_reducible refine br_51 ?_ ?_) <;> intro h <;> try simp (disch := first | assumption | exact Nat.le_of_ble_eq_true rfl | omega) only [ev_wr_id, not_true_eq_false, not_false_eq_true, Int.reduceEq, Int.reduceLT, Int.reduceLE, and_self, and_true, true_and, and_false, false_and, reduceIte] at h <;> try (exfalso; omega; done)))
        · rw [if_neg c3]
          repeat' (first | (simp (disch := first | assumption | exact Nat.le_of_ble_eq_true rfl | omega) only [bk_83_0, eo_1_0, g10_28_0, g7_28_0, eo_0_1, v6_2, ev_ki, ev_kv, eo_6, eo_56i, bk_83_1, eo_0_2, eo_60_3, eo_0_3, eo_53, bk_83_2, bk_83_3, g10_28_1, v7_2, g10_28_6, g10_28_5, g10_28_4, v8_6, g8_27, g8_28_1, eo_52, bk_83_4, bk_83_5, a32_178, c_44, c_104, t0, e56, e57, Int.add_zero, Int.add_sub_cancel, Int.reduceAdd, Int.reduceMul, Int.reduceSub, Int.reduceNeg, ev_wr_id]) | ((first | with_reducible refine br_40 ?_ ?_ | with_reducible refine br_41 ?_ ?_ | with_reducible refine br_42 ?_ ?_ | with_reducible refine br_43 ?_ ?_ | with_reducible refine br_44 ?_ ?_ | with_reducible refine br_45 ?_ ?_ | with_reducible refine br_46 ?_ ?_ | with_reducible refine br_47 ?_ ?_ | with_reducible refine br_48 ?_ ?_ | with_reducible refine br_49 ?_ ?_ | with_reducible refine br_50 ?_ ?_ | with_reducible refine br_51 ?_ ?_) <;> intro h <;> try simp (disch := first | assumption | exact Nat.le_of_ble_eq_true rfl | omega) only [ev_wr_id, not_true_eq_false, not_false_eq_true, Int.reduceEq, Int.reduceLT, Int.reduceLE, and_self, and_true, true_and, and_false, false_and, reduceIte] at h <;> try (exfalso; omega; done)))
      · by_cases c3 : i < σ1 177 0
        · rw [if_pos c3]
          have w9 : σ2 188 i = σ1 178 i := by rw [g6 i (by omega) (by rw [← k3]; exact c3), k4 i (by omega) (by rw [← k3]; exact c3)]
          clear k1 k2 k3 k4 g3 g4 g5 g6 hrun e6 f1 f1b ff hN1 hcF
          rw [mm_149]
          repeat' (first | (simp (disch := first | assumption | exact Nat.le_of_ble_eq_true rfl | omega) only [bk_149_0, eo_1_0, eo_0_1, v11_2, ev_ki, ev_kv, eo_6, eo_56i, bk_149_1, eo_0_2, eo_60_3, eo_0_3, eo_53, bk_149_2, bk_149_3, v11_3, g11_27, g11_28_7, eo_52, bk_149_4, bk_149_5, a32_188, c_109, c_106, s0, e107, e147, e1072, w6, w188, w9, Int.add_zero, Int.add_sub_cancel, Int.reduceAdd, Int.reduceMul, Int.reduceSub, Int.reduceNeg, ev_wr_id]) | ((first | with_reducible refine br_40 ?_ ?_ | with_reducible refine br_41 ?_ ?_ | with_reducible refine br_42 ?_ ?_ | with_reducible refine br_43 ?_ ?_ | with_reducible refine br_44 ?_ ?_ | with_reducible refine br_45 ?_ ?_ | with_reducible refine br_46 ?_ ?_ | with_reducible refine br_47 ?_ ?_ | with_reducible refine br_48 ?_ ?_ | with_reducible refine br_49 ?_ ?_ | with_reducible refine br_50 ?_ ?_ | with_reducible refine br_51 ?_ ?_) <;> intro h <;> try simp (disch := first | assumption | exact Nat.le_of_ble_eq_true rfl | omega) only [ev_wr_id, not_true_eq_false, not_false_eq_true, Int.reduceEq, Int.reduceLT, Int.reduceLE, and_self, and_true, true_and, and_false, false_and, reduceIte] at h <;> try (exfalso; omega; done)))
        · rw [if_neg c3]
          clear k1 k2 k3 k4 g3 g4 g5 g6 hrun e6 f1 f1b ff hN1 hcF
          rw [mm_149]
          repeat' (first | (simp (disch := first | assumption | exact Nat.le_of_ble_eq_true rfl | omega) only [bk_149_0, eo_1_0, eo_0_1, v11_2, ev_ki, ev_kv, eo_6, eo_56i, bk_149_1, eo_0_2, eo_60_3, eo_0_3, eo_53, bk_149_2, bk_149_3, v11_3, g11_27, g11_28_7, eo_52, bk_149_4, bk_149_5, a32_188, c_109, c_106, s0, e107, e147, e1072, w6, w188, Int.add_zero, Int.add_sub_cancel, Int.reduceAdd, Int.reduceMul, Int.reduceSub, Int.reduceNeg, ev_wr_id]) | ((first | with_reducible refine br_40 ?_ ?_ | with_reducible refine br_41 ?_ ?_ | with_reducible refine br_42 ?_ ?_ | with_reducible refine br_43 ?_ ?_ | with_reducible refine br_44 ?_ ?_ | with_reducible refine br_45 ?_ ?_ | with_reducible refine br_46 ?_ ?_ | with_reducible refine br_47 ?_ ?_ | with_reducible refine br_48 ?_ ?_ | with_reducible refine br_49 ?_ ?_ | with_reducible refine br_50 ?_ ?_ | with_reducible refine br_51 ?_ ?_) <;> intro h <;> try simp (disch := first | assumption | exact Nat.le_of_ble_eq_true rfl | omega) only [ev_wr_id, not_true_eq_false, not_false_eq_true, Int.reduceEq, Int.reduceLT, Int.reduceLE, and_self, and_true, true_and, and_false, false_and, reduceIte] at h <;> try (exfalso; omega; done)))
      · exact fun j hj => by rw [g1 j (by omega) (by omega) (by omega) (by omega) (by omega) (by omega), hcF j (by omega)]
      · rw [g1 162 (by omega) (by omega) (by omega) (by omega) (by omega) (by omega), hcF 162 (by omega)]
      · rw [g1 164 (by omega) (by omega) (by omega) (by omega) (by omega) (by omega), hcF 164 (by omega)]
      · rw [g2 1 (by omega), hcF 182 (by omega)]
      · rw [g2 11 (by omega), hcF 182 (by omega)]
      · intro q hq
        rw [g3 q hq, dc]
    · refine st_P_N hJ (σ1 := σ) (σ2 := σ) (v := .inl (-3)) ?_ ?_ st_N_r
      · rw [mm_83]
        repeat' (first | (simp (disch := first | assumption | exact Nat.le_of_ble_eq_true rfl | omega) only [bk_83_0, eo_1_0, g10_28_0, g7_28_0, eo_0_1, v6_2, ev_ki, ev_kv, eo_6, eo_56i, bk_83_1, eo_0_2, eo_60_3, eo_0_3, eo_53, bk_83_2, bk_83_3, g10_28_1, v7_2, g10_28_6, g10_28_5, g10_28_4, v8_6, g8_27, g8_28_1, eo_52, bk_83_4, bk_83_5, a32_178, c_44, c_104, t0, Int.add_zero, Int.add_sub_cancel, Int.reduceAdd, Int.reduceMul, Int.reduceSub, Int.reduceNeg, ev_wr_id]) | ((first | with_reducible refine br_40 ?_ ?_ | with_reducible refine br_41 ?_ ?_ | with_reducible refine br_42 ?_ ?_ | with_reducible refine br_43 ?_ ?_ | with_reducible refine br_44 ?_ ?_ | with_reducible refine br_45 ?_ ?_ | with_reducible refine br_46 ?_ ?_ | with_reducible refine br_47 ?_ ?_ | with_reducible refine br_48 ?_ ?_ | with_reducible refine br_49 ?_ ?_ | with_reducible refine br_50 ?_ ?_ | with_reducible refine br_51 ?_ ?_) <;> intro h <;> try simp (disch := first | assumption | exact Nat.le_of_ble_eq_true rfl | omega) only [ev_wr_id, not_true_eq_false, not_false_eq_true, Int.reduceEq, Int.reduceLT, Int.reduceLE, and_self, and_true, true_and, and_false, false_and, reduceIte] at h <;> try (exfalso; omega; done)))
      · rw [mm_149]
        repeat' (first | (simp (disch := first | assumption | exact Nat.le_of_ble_eq_true rfl | omega) only [bk_149_0, eo_1_0, eo_0_1, v11_2, ev_ki, ev_kv, eo_6, eo_56i, bk_149_1, eo_0_2, eo_60_3, eo_0_3, eo_53, bk_149_2, bk_149_3, v11_3, g11_27, g11_28_7, eo_52, bk_149_4, bk_149_5, a32_188, c_109, c_106, c_107, Int.add_zero, Int.add_sub_cancel, Int.reduceAdd, Int.reduceMul, Int.reduceSub, Int.reduceNeg, ev_wr_id]) | ((first | with_reducible refine br_40 ?_ ?_ | with_reducible refine br_41 ?_ ?_ | with_reducible refine br_42 ?_ ?_ | with_reducible refine br_43 ?_ ?_ | with_reducible refine br_44 ?_ ?_ | with_reducible refine br_45 ?_ ?_ | with_reducible refine br_46 ?_ ?_ | with_reducible refine br_47 ?_ ?_ | with_reducible refine br_48 ?_ ?_ | with_reducible refine br_49 ?_ ?_ | with_reducible refine br_50 ?_ ?_ | with_reducible refine br_51 ?_ ?_) <;> intro h <;> try simp (disch := first | assumption | exact Nat.le_of_ble_eq_true rfl | omega) only [ev_wr_id, not_true_eq_false, not_false_eq_true, Int.reduceEq, Int.reduceLT, Int.reduceLE, and_self, and_true, true_and, and_false, false_and, reduceIte] at h <;> try (exfalso; omega; done)))
  · refine st_P_N hJ (σ1 := σ) (σ2 := σ) (v := .inl (-2)) ?_ ?_ st_N_r
    · rw [mm_83]
      repeat' (first | (simp (disch := first | assumption | exact Nat.le_of_ble_eq_true rfl | omega) only [bk_83_0, eo_1_0, g10_28_0, g7_28_0, eo_0_1, v6_2, ev_ki, ev_kv, eo_6, eo_56i, bk_83_1, eo_0_2, eo_60_3, eo_0_3, eo_53, bk_83_2, bk_83_3, g10_28_1, v7_2, g10_28_6, g10_28_5, g10_28_4, v8_6, g8_27, g8_28_1, eo_52, bk_83_4, bk_83_5, a32_178, c_44, c_104, t0, Int.add_zero, Int.add_sub_cancel, Int.reduceAdd, Int.reduceMul, Int.reduceSub, Int.reduceNeg, ev_wr_id]) | ((first | with_reducible refine br_40 ?_ ?_ | with_reducible refine br_41 ?_ ?_ | with_reducible refine br_42 ?_ ?_ | with_reducible refine br_43 ?_ ?_ | with_reducible refine br_44 ?_ ?_ | with_reducible refine br_45 ?_ ?_ | with_reducible refine br_46 ?_ ?_ | with_reducible refine br_47 ?_ ?_ | with_reducible refine br_48 ?_ ?_ | with_reducible refine br_49 ?_ ?_ | with_reducible refine br_50 ?_ ?_ | with_reducible refine br_51 ?_ ?_) <;> intro h <;> try simp (disch := first | assumption | exact Nat.le_of_ble_eq_true rfl | omega) only [ev_wr_id, not_true_eq_false, not_false_eq_true, Int.reduceEq, Int.reduceLT, Int.reduceLE, and_self, and_true, true_and, and_false, false_and, reduceIte] at h <;> try (exfalso; omega; done)))
    · rw [mm_149]
      repeat' (first | (simp (disch := first | assumption | exact Nat.le_of_ble_eq_true rfl | omega) only [bk_149_0, eo_1_0, eo_0_1, v11_2, ev_ki, ev_kv, eo_6, eo_56i, bk_149_1, eo_0_2, eo_60_3, eo_0_3, eo_53, bk_149_2, bk_149_3, v11_3, g11_27, g11_28_7, eo_52, bk_149_4, bk_149_5, a32_188, c_109, c_106, c_107, Int.add_zero, Int.add_sub_cancel, Int.reduceAdd, Int.reduceMul, Int.reduceSub, Int.reduceNeg, ev_wr_id]) | ((first | with_reducible refine br_40 ?_ ?_ | with_reducible refine br_41 ?_ ?_ | with_reducible refine br_42 ?_ ?_ | with_reducible refine br_43 ?_ ?_ | with_reducible refine br_44 ?_ ?_ | with_reducible refine br_45 ?_ ?_ | with_reducible refine br_46 ?_ ?_ | with_reducible refine br_47 ?_ ?_ | with_reducible refine br_48 ?_ ?_ | with_reducible refine br_49 ?_ ?_ | with_reducible refine br_50 ?_ ?_ | with_reducible refine br_51 ?_ ?_) <;> intro h <;> try simp (disch := first | assumption | exact Nat.le_of_ble_eq_true rfl | omega) only [ev_wr_id, not_true_eq_false, not_false_eq_true, Int.reduceEq, Int.reduceLT, Int.reduceLE, and_self, and_true, true_and, and_false, false_and, reduceIte] at h <;> try (exfalso; omega; done)))
