/-! ways on both sides -/
theorem st_N_174 {σ : ev_M} {F : Int → Int} : st_N σ (ev_ua σ 174 F) := st_N_ua (by omega)
theorem st_fg {F f : Int → Int} {y : Int} (h1 : F y = st_F f y) (h2 : f y = -1 ∨ (0 ≤ f y ∧ f y ≤ 990)) : (f y = -1 ∧ F y = 1000000) ∨ (0 ≤ f y ∧ f y ≤ 990 ∧ F y = f y) := by
  unfold st_F at h1
  by_cases c : f y = -1
  · rw [if_pos c] at h1
    exact Or.inl ⟨c, h1⟩
  · rw [if_neg c] at h1
    omega
/-- the search on both sides -/
theorem st_both {σ : ev_M} {fr w o : Int} (a1 : st_E (st_T σ ev_n) (σ 183)) (a2 : st_I (σ 183)) (a8 : ∀ r, 0 ≤ r → r ≤ 9 → σ 184 r = ev_ps r) (hf : 0 ≤ fr ∧ fr < σ 183 0) (hw : 0 ≤ w ∧ w ≤ 60) (ho : -1 ≤ o ∧ o < 20) : ∃ F f, EM 62 [.inr (.inl 173), .inr (.inl ev_n), .inl fr, .inl w, .inl o] σ = some (none, ev_ua σ 174 F) ∧ (∀ y, 0 ≤ y → y < 10 → (f y = -1 ∧ F y = 1000000) ∨ (0 ≤ f y ∧ f y ≤ 990 ∧ F y = f y)) ∧ st_sp (σ 183) w o fr (st_F f) ∧ ∀ σ1, σ1 183 = σ 183 → σ1 184 = σ 184 → ∃ f1 d, EM 144 [.inr (.inl 182), .inl fr, .inl w, .inl o] σ1 = some (none, st_dd σ1 f1 d) ∧ ∀ y, 0 ≤ y → y < 10 → f1 y = f y := by
  obtain ⟨f, d, e, hsp, hr⟩ := c_144 a2 a8 hf hw ho
  obtain ⟨F, e62, hF⟩ := c_62 (σ := σ) (s := ev_n) (T := σ 183) (G := st_F f) ev_S_n a1 a2 hf hw ho hsp
  refine ⟨F, f, e62, fun y h0 h1 => st_fg (hF y h0 h1) (hr y h0 h1), hsp, fun σ1 h1 h2 => ?_⟩
  obtain ⟨f1, d1, e1, hsp1, hr1⟩ := c_144 (σ := σ1) (s := fr) (w := w) (o := o) (by rw [h1]; exact a2) (by rw [h2]; exact a8) (by rw [h1]; exact hf) hw ho
  rw [h1] at hsp1
  refine ⟨f1, d1, e1, fun y h0 h3 => ?_⟩
  have q := st_sp_u a2 hsp1 hsp y h0 h3
  have q1 := hr y h0 h3
  have q2 := hr1 y h0 h3
  unfold st_F at q
  by_cases c1 : f1 y = -1
  · rw [if_pos c1] at q
    by_cases c2 : f y = -1
    · omega
    · rw [if_neg c2] at q
      omega
  · rw [if_neg c1] at q
    by_cases c2 : f y = -1
    · rw [if_pos c2] at q
      omega
    · rw [if_neg c2] at q
      exact q
theorem pr_85 {σ : ev_M} {a b w : Int} (hJ : st_J σ) (ha9 : -2147483648 ≤ a ∧ a ≤ 2147483647) (hb9 : -2147483648 ≤ b ∧ b ≤ 2147483647) (hw9 : -2147483648 ≤ w ∧ w ≤ 2147483647) : st_P 85 152 [.inl a, .inl b, .inl w] σ := by
  obtain ⟨a1, a2, a3, a4, a5, a6, a7, a8⟩ := id hJ
  obtain ⟨t0, t1, t2, t3, t4, t5, t6, t7, t8, r2, r3, r4, r5, r7, r11, r8, r9, r10, r12, r13, r14, r15, r16, r18, r19, r20, r21, r22⟩ := st_rd a1; obtain ⟨⟨i0, i1, i2, i3, i4, i5⟩, hr, hb, hc, hp, hl, hq⟩ := id a2; have hSn := ev_S_n; have hn0 : ev_n = 0 := rfl
  by_cases c1 : (0 ≤ a ∧ a < σ 183 0) ∧ 0 ≤ b ∧ b < σ 183 0
  · by_cases c2 : 1 ≤ w ∧ w ≤ 60
    · obtain ⟨F, f, e62, hF, hsp, hm⟩ := st_both (w := w) (o := -1) a1 a2 a8 c1.1 (by omega) (by omega)
      obtain ⟨f1, d, e144, hf1⟩ := hm (ev_ua σ 174 F) (ev_ua_row (by omega)) (ev_ua_row (by omega))
      have hFb := hF b c1.2.1 (by omega)
      have hfb := hf1 b c1.2.1 (by omega)
      have hb10 : 0 ≤ b ∧ b < 10 := by omega
      have m183 : ev_ua σ 174 F 183 = σ 183 := ev_ua_row (by omega)
      have s0 := congrFun m183 0
      refine st_P_N hJ (σ1 := ev_ua σ 174 F) (σ2 := st_dd (ev_ua σ 174 F) f1 d) (v := .inl (f b)) ?_ ?_ (st_N_t st_N_174 st_dd_N)
      · rw [mm_85]
        have e61 := c_61 (σ := ev_ua σ 174 F) (t := b) hb10 (by rw [ev_ua_eq]; omega)
        rw [ev_ua_eq] at e61
        rcases hFb with q | q
        · rw [if_neg (by omega)] at e61
          rw [q.1]
          repeat' (first | (simp (disch := first | assumption | exact Nat.le_of_ble_eq_true rfl | omega) only [bk_85_0, eo_1_0, g10_28_0, g7_28_0, eo_0_1, v6_2, ev_ki, ev_kv, eo_0_2, eo_53, bk_85_1, eo_6, eo_56i, bk_85_2, eo_0_3, eo_60_3, bk_85_3, g10_28_5, v9_5, v9_2, g9_28_0, eo_52, bk_85_4, bk_85_5, a32_174, c_44, c_104, t0, e62, e61, ev_ua_eq, Int.add_zero, Int.add_sub_cancel, Int.reduceAdd, Int.reduceMul, Int.reduceSub, Int.reduceNeg, ev_wr_id]) | ((first | with_reducible refine br_40 ?_ ?_ | with_reducible refine br_41 ?_ ?_ | with_reducible refine br_42 ?_ ?_ | with_reducible refine br_43 ?_ ?_ | with_reducible refine br_44 ?_ ?_ | with_reducible refine br_45 ?_ ?_ | with_reducible refine br_46 ?_ ?_ | with_reducible refine br_47 ?_ ?_ | with_reducible refine br_48 ?_ ?_ | with_reducible refine br_49 ?_ ?_ | with_reducible refine br_50 ?_ ?_ | with_reducible refine br_51 ?_ ?_) <;> intro h <;> try simp (disch := first | assumption | exact Nat.le_of_ble_eq_true rfl | omega) only [ev_wr_id, not_true_eq_false, not_false_eq_true, Int.reduceEq, Int.reduceLT, Int.reduceLE, and_self, and_true, true_and, and_false, false_and, reduceIte] at h <;> try (exfalso; omega; done)))
        · rw [if_pos (by omega)] at e61
          have q2 := q.2.2
          repeat' (first | (simp (disch := first | assumption | exact Nat.le_of_ble_eq_true rfl | omega) only [bk_85_0, eo_1_0, g10_28_0, g7_28_0, eo_0_1, v6_2, ev_ki, ev_kv, eo_0_2, eo_53, bk_85_1, eo_6, eo_56i, bk_85_2, eo_0_3, eo_60_3, bk_85_3, g10_28_5, v9_5, v9_2, g9_28_0, eo_52, bk_85_4, bk_85_5, a32_174, c_44, c_104, t0, e62, e61, ev_ua_eq, q2, Int.add_zero, Int.add_sub_cancel, Int.reduceAdd, Int.reduceMul, Int.reduceSub, Int.reduceNeg, ev_wr_id]) | ((first | with_reducible refine br_40 ?_ ?_ | with_reducible refine br_41 ?_ ?_ | with_reducible refine br_42 ?_ ?_ | with_reducible refine br_43 ?_ ?_ | with_reducible refine br_44 ?_ ?_ | with_reducible refine br_45 ?_ ?_ | with_reducible refine br_46 ?_ ?_ | with_reducible refine br_47 ?_ ?_ | with_reducible refine br_48 ?_ ?_ | with_reducible refine br_49 ?_ ?_ | with_reducible refine br_50 ?_ ?_ | with_reducible refine br_51 ?_ ?_) <;> intro h <;> try simp (disch := first | assumption | exact Nat.le_of_ble_eq_true rfl | omega) only [ev_wr_id, not_true_eq_false, not_false_eq_true, Int.reduceEq, Int.reduceLT, Int.reduceLE, and_self, and_true, true_and, and_false, false_and, reduceIte] at h <;> try (exfalso; omega; done)))
      · rw [mm_152]
        repeat' (first | (simp (disch := first | assumption | exact Nat.le_of_ble_eq_true rfl | omega) only [bk_152_0, eo_1_0, eo_0_1, v11_2, ev_ki, ev_kv, eo_0_2, eo_53, bk_152_1, eo_6, eo_56i, bk_152_2, eo_0_3, eo_60_1, bk_152_3, v11_4, g11_28_4, a32_186, c_109, c_151, s0, e144, st_dd_1, hfb, Int.add_zero, Int.add_sub_cancel, Int.reduceAdd, Int.reduceMul, Int.reduceSub, Int.reduceNeg, ev_wr_id]) | ((first | with_reducible refine br_40 ?_ ?_ | with_reducible refine br_41 ?_ ?_ | with_reducible refine br_42 ?_ ?_ | with_reducible refine br_43 ?_ ?_ | with_reducible refine br_44 ?_ ?_ | with_reducible refine br_45 ?_ ?_ | with_reducible refine br_46 ?_ ?_ | with_reducible refine br_47 ?_ ?_ | with_reducible refine br_48 ?_ ?_ | with_reducible refine br_49 ?_ ?_ | with_reducible refine br_50 ?_ ?_ | with_reducible refine br_51 ?_ ?_) <;> intro h <;> try simp (disch := first | assumption | exact Nat.le_of_ble_eq_true rfl | omega) only [ev_wr_id, not_true_eq_false, not_false_eq_true, Int.reduceEq, Int.reduceLT, Int.reduceLE, and_self, and_true, true_and, and_false, false_and, reduceIte] at h <;> try (exfalso; omega; done)))
    · refine st_P_N hJ (σ1 := σ) (σ2 := σ) (v := .inl (-3)) ?_ ?_ st_N_r
      · rw [mm_85]
        repeat' (first | (simp (disch := first | assumption | exact Nat.le_of_ble_eq_true rfl | omega) only [bk_85_0, eo_1_0, g10_28_0, g7_28_0, eo_0_1, v6_2, ev_ki, ev_kv, eo_0_2, eo_53, bk_85_1, eo_6, eo_56i, bk_85_2, eo_0_3, eo_60_3, bk_85_3, g10_28_5, v9_5, v9_2, g9_28_0, eo_52, bk_85_4, bk_85_5, a32_174, c_44, c_104, t0, Int.add_zero, Int.add_sub_cancel, Int.reduceAdd, Int.reduceMul, Int.reduceSub, Int.reduceNeg, ev_wr_id]) | ((first | with_reducible refine br_40 ?_ ?_ | with_reducible refine br_41 ?_ ?_ | with_reducible refine br_42 ?_ ?_ | with_reducible refine br_43 ?_ ?_ | with_reducible refine br_44 ?_ ?_ | with_reducible refine br_45 ?_ ?_ | with_reducible refine br_46 ?_ ?_ | with_reducible refine br_47 ?_ ?_ | with_reducible refine br_48 ?_ ?_ | with_reducible refine br_49 ?_ ?_ | with_reducible refine br_50 ?_ ?_ | with_reducible refine br_51 ?_ ?_) <;> intro h <;> try simp (disch := first | assumption | exact Nat.le_of_ble_eq_true rfl | omega) only [ev_wr_id, not_true_eq_false, not_false_eq_true, Int.reduceEq, Int.reduceLT, Int.reduceLE, and_self, and_true, true_and, and_false, false_and, reduceIte] at h <;> try (exfalso; omega; done)))
      · rw [mm_152]
        repeat' (first | (simp (disch := first | assumption | exact Nat.le_of_ble_eq_true rfl | omega) only [bk_152_0, eo_1_0, eo_0_1, v11_2, ev_ki, ev_kv, eo_0_2, eo_53, bk_152_1, eo_6, eo_56i, bk_152_2, eo_0_3, eo_60_1, bk_152_3, v11_4, g11_28_4, a32_186, c_109, c_151, Int.add_zero, Int.add_sub_cancel, Int.reduceAdd, Int.reduceMul, Int.reduceSub, Int.reduceNeg, ev_wr_id]) | ((first | with_reducible refine br_40 ?_ ?_ | with_reducible refine br_41 ?_ ?_ | with_reducible refine br_42 ?_ ?_ | with_reducible refine br_43 ?_ ?_ | with_reducible refine br_44 ?_ ?_ | with_reducible refine br_45 ?_ ?_ | with_reducible refine br_46 ?_ ?_ | with_reducible refine br_47 ?_ ?_ | with_reducible refine br_48 ?_ ?_ | with_reducible refine br_49 ?_ ?_ | with_reducible refine br_50 ?_ ?_ | with_reducible refine br_51 ?_ ?_) <;> intro h <;> try simp (disch := first | assumption | exact Nat.le_of_ble_eq_true rfl | omega) only [ev_wr_id, not_true_eq_false, not_false_eq_true, Int.reduceEq, Int.reduceLT, Int.reduceLE, and_self, and_true, true_and, and_false, false_and, reduceIte] at h <;> try (exfalso; omega; done)))
  · refine st_P_N hJ (σ1 := σ) (σ2 := σ) (v := .inl (-2)) ?_ ?_ st_N_r
    · rw [mm_85]
      repeat' (first | (simp (disch := first | assumption | exact Nat.le_of_ble_eq_true rfl | omega) only [bk_85_0, eo_1_0, g10_28_0, g7_28_0, eo_0_1, v6_2, ev_ki, ev_kv, eo_0_2, eo_53, bk_85_1, eo_6, eo_56i, bk_85_2, eo_0_3, eo_60_3, bk_85_3, g10_28_5, v9_5, v9_2, g9_28_0, eo_52, bk_85_4, bk_85_5, a32_174, c_44, c_104, t0, Int.add_zero, Int.add_sub_cancel, Int.reduceAdd, Int.reduceMul, Int.reduceSub, Int.reduceNeg, ev_wr_id]) | ((first | with_reducible refine br_40 ?_ ?_ | with_reducible refine br_41 ?_ ?_ | with_reducible refine br_42 ?_ ?_ | with_reducible refine br_43 ?_ ?_ | with_reducible refine br_44 ?_ ?_ | with_reducible refine br_45 ?_ ?_ | with_reducible refine br_46 ?_ ?_ | with_reducible refine br_47 ?_ ?_ | with_reducible refine br_48 ?_ ?_ | with_reducible refine br_49 ?_ ?_ | with_reducible refine br_50 ?_ ?_ | with_reducible refine br_51 ?_ ?_) <;> intro h <;> try simp (disch := first | assumption | exact Nat.le_of_ble_eq_true rfl | omega) only [ev_wr_id, not_true_eq_false, not_false_eq_true, Int.reduceEq, Int.reduceLT, Int.reduceLE, and_self, and_true, true_and, and_false, false_and, reduceIte] at h <;> try (exfalso; omega; done)))
    · rw [mm_152]
      repeat' (first | (simp (disch := first | assumption | exact Nat.le_of_ble_eq_true rfl | omega) only [bk_152_0, eo_1_0, eo_0_1, v11_2, ev_ki, ev_kv, eo_0_2, eo_53, bk_152_1, eo_6, eo_56i, bk_152_2, eo_0_3, eo_60_1, bk_152_3, v11_4, g11_28_4, a32_186, c_109, c_151, Int.add_zero, Int.add_sub_cancel, Int.reduceAdd, Int.reduceMul, Int.reduceSub, Int.reduceNeg, ev_wr_id]) | ((first | with_reducible refine br_40 ?_ ?_ | with_reducible refine br_41 ?_ ?_ | with_reducible refine br_42 ?_ ?_ | with_reducible refine br_43 ?_ ?_ | with_reducible refine br_44 ?_ ?_ | with_reducible refine br_45 ?_ ?_ | with_reducible refine br_46 ?_ ?_ | with_reducible refine br_47 ?_ ?_ | with_reducible refine br_48 ?_ ?_ | with_reducible refine br_49 ?_ ?_ | with_reducible refine br_50 ?_ ?_ | with_reducible refine br_51 ?_ ?_) <;> intro h <;> try simp (disch := first | assumption | exact Nat.le_of_ble_eq_true rfl | omega) only [ev_wr_id, not_true_eq_false, not_false_eq_true, Int.reduceEq, Int.reduceLT, Int.reduceLE, and_self, and_true, true_and, and_false, false_and, reduceIte] at h <;> try (exfalso; omega; done)))
theorem pr_87 {σ : ev_M} {b w : Int} (hJ : st_J σ) (hb9 : -2147483648 ≤ b ∧ b ≤ 2147483647) (hw9 : -2147483648 ≤ w ∧ w ≤ 2147483647) : st_P 87 155 [.inl b, .inl w] σ := by
  obtain ⟨a1, a2, a3, a4, a5, a6, a7, a8⟩ := id hJ
  obtain ⟨t0, t1, t2, t3, t4, t5, t6, t7, t8, r2, r3, r4, r5, r7, r11, r8, r9, r10, r12, r13, r14, r15, r16, r18, r19, r20, r21, r22⟩ := st_rd a1; obtain ⟨⟨i0, i1, i2, i3, i4, i5⟩, hr, hb, hc, hp, hl, hq⟩ := id a2; have hSn := ev_S_n; have hn0 : ev_n = 0 := rfl
  by_cases c1 : 0 ≤ b ∧ b < σ 183 2
  · by_cases c2 : 1 ≤ w ∧ w ≤ 60
    · have hbb := hb b c1.1 c1.2
      obtain ⟨r, hrd⟩ : ∃ r, r = σ 183 (89 + 5 * b) := ⟨_, rfl⟩
      have hrr := hrd.symm
      rw [hrr] at hbb
      have g := hr r (by omega) (by omega)
      have e7 : σ (ev_n + 7) b = r := by rw [r7 b (by omega) (by omega), hrr]
      have e2 := r2 r (by omega) (by omega)
      have e3 := r3 r (by omega) (by omega)
      have e4 := r4 r (by omega) (by omega)
      obtain ⟨z, hz⟩ : ∃ z, z = σ 183 (9 + 4 * r + 1) := ⟨_, rfl⟩
      have hzz := hz.symm
      rw [hzz] at g e3
      obtain ⟨F, f, e62, hF, hsp, hm⟩ := st_both (fr := σ 183 (9 + 4 * r)) (w := w) (o := r) a1 a2 a8 (by omega) (by omega) (by omega)
      obtain ⟨f1, d, e144, hf1⟩ := hm (ev_ua σ 174 F) (ev_ua_row (by omega)) (ev_ua_row (by omega))
      have hFz := hF z (by omega) (by omega)
      have hfz := hf1 z (by omega) (by omega)
      have hz10 : 0 ≤ z ∧ z < 10 := by omega
      have hr20 : 0 ≤ r ∧ r < 20 := by omega
      have hb6 : 0 ≤ b ∧ b < 6 := by omega
      have m183 : ev_ua σ 174 F 183 = σ 183 := ev_ua_row (by omega)
      have s2 := congrFun m183 2
      have md : st_dd (ev_ua σ 174 F) f1 d 183 = σ 183 := by rw [st_dd_o (by omega), m183]
      refine st_P_N hJ (σ1 := ev_ua σ 174 F) (σ2 := st_dd (ev_ua σ 174 F) f1 d) (v := .inl (if f z = -1 then -1 else 1000 + f z - σ 183 (9 + 4 * r + 2))) ?_ ?_ (st_N_t st_N_174 st_dd_N)
      · rw [mm_87]
        have e61 := c_61 (σ := ev_ua σ 174 F) (t := z) hz10 (by rw [ev_ua_eq]; omega)
        rw [ev_ua_eq] at e61
        rcases hFz with q | q
        · rw [if_neg (by omega)] at e61
          rw [if_pos q.1]
          repeat' (first | (simp (disch := first | assumption | exact Nat.le_of_ble_eq_true rfl | omega) only [bk_87_0, eo_1_0, g10_28_0, g7_28_1, eo_0_1, v1_2, ev_ki, ev_kv, eo_6, eo_56i, bk_87_1, eo_0_2, eo_60_3, bk_87_2, g1_28_1, eo_3_3n, eo_3_3i, eo_3_3r, g7_28_0, g6_28_3, eo_0_3, eo_3_4n, eo_3_4i, eo_3_4r, g10_28_5, g6_28_2, v9_5, eo_0_4, v9_2, g9_28_0, eo_10, g6_28_4, eo_11, eo_52, bk_87_3, eo_53, bk_87_4, a32_s7, a32_s3, a32_s2, a32_174, a32_s4, c_6, c_104, t2, e7, e2, e3, e62, e61, ev_ua_eq, Int.add_zero, Int.add_sub_cancel, Int.reduceAdd, Int.reduceMul, Int.reduceSub, Int.reduceNeg, ev_wr_id]) | ((first | with_reducible refine br_40 ?_ ?_ | with_reducible refine br_41 ?_ ?_ | with_reducible refine br_42 ?_ ?_ | with_reducible refine br_43 ?_ ?_ | with_reducible refine br_44 ?_ ?_ | with_reducible refine br_45 ?_ ?_ | with_reducible refine br_46 ?_ ?_ | with_reducible refine br_47 ?_ ?_ | with_reducible refine br_48 ?_ ?_ | with_reducible refine br_49 ?_ ?_ | with_reducible refine br_50 ?_ ?_ | with_reducible refine br_51 ?_ ?_) <;> intro h <;> try simp (disch := first | assumption | exact Nat.le_of_ble_eq_true rfl | omega) only [ev_wr_id, not_true_eq_false, not_false_eq_true, Int.reduceEq, Int.reduceLT, Int.reduceLE, and_self, and_true, true_and, and_false, false_and, reduceIte] at h <;> try (exfalso; omega; done)))
        · rw [if_pos (by omega)] at e61
          rw [if_neg (by omega)]
          have q2 := q.2.2
          have q4 : ev_ua σ 174 F (ev_n + 4) r = σ 183 (9 + 4 * r + 2) := by rw [ev_ua_ne (by omega), e4]
          repeat' (first | (simp (disch := first | assumption | exact Nat.le_of_ble_eq_true rfl | omega) only [bk_87_0, eo_1_0, g10_28_0, g7_28_1, eo_0_1, v1_2, ev_ki, ev_kv, eo_6, eo_56i, bk_87_1, eo_0_2, eo_60_3, bk_87_2, g1_28_1, eo_3_3n, eo_3_3i, eo_3_3r, g7_28_0, g6_28_3, eo_0_3, eo_3_4n, eo_3_4i, eo_3_4r, g10_28_5, g6_28_2, v9_5, eo_0_4, v9_2, g9_28_0, eo_10, g6_28_4, eo_11, eo_52, bk_87_3, eo_53, bk_87_4, a32_s7, a32_s3, a32_s2, a32_174, a32_s4, c_6, c_104, t2, e7, e2, e3, e62, e61, ev_ua_eq, q2, q4, Int.add_zero, Int.add_sub_cancel, Int.reduceAdd, Int.reduceMul, Int.reduceSub, Int.reduceNeg, ev_wr_id]) | ((first | with_reducible refine br_40 ?_ ?_ | with_reducible refine br_41 ?_ ?_ | with_reducible refine br_42 ?_ ?_ | with_reducible refine br_43 ?_ ?_ | with_reducible refine br_44 ?_ ?_ | with_reducible refine br_45 ?_ ?_ | with_reducible refine br_46 ?_ ?_ | with_reducible refine br_47 ?_ ?_ | with_reducible refine br_48 ?_ ?_ | with_reducible refine br_49 ?_ ?_ | with_reducible refine br_50 ?_ ?_ | with_reducible refine br_51 ?_ ?_) <;> intro h <;> try simp (disch := first | assumption | exact Nat.le_of_ble_eq_true rfl | omega) only [ev_wr_id, not_true_eq_false, not_false_eq_true, Int.reduceEq, Int.reduceLT, Int.reduceLE, and_self, and_true, true_and, and_false, false_and, reduceIte] at h <;> try (exfalso; omega; done)))
      · rw [mm_155]
        have hfr : f z = -1 ∨ (0 ≤ f z ∧ f z ≤ 990) := by omega
        by_cases c3 : f z = -1
        · rw [if_pos c3]
          rw [c3] at hfz
          repeat' (first | (simp (disch := first | assumption | exact Nat.le_of_ble_eq_true rfl | omega) only [bk_155_0, eo_1_0, eo_0_1, v11_2, ev_ki, ev_kv, eo_6, eo_56i, bk_155_1, eo_0_2, eo_60_1, bk_155_2, v11_3, eo_3_3n, eo_3_3i, eo_3_3r, eo_0_3, v11_4, g11_28_4, eo_3_4n, eo_3_4i, eo_3_4r, eo_0_4, eo_52, bk_155_3, eo_10, eo_11, eo_53, bk_155_4, a32_186, c_111, c_151, c_114, c_113, m183, hrr, hzz, e144, st_dd_1, hfz, md, Int.add_zero, Int.add_sub_cancel, Int.reduceAdd, Int.reduceMul, Int.reduceSub, Int.reduceNeg, ev_wr_id]) | ((first | with_reducible refine br_40 ?_ ?_ | with_reducible refine br_41 ?_ ?_ | with_reducible refine br_42 ?_ ?_ | with_reducible refine br_43 ?_ ?_ | with_reducible refine br_44 ?_ ?_ | with_reducible refine br_45 ?_ ?_ | with_reducible refine br_46 ?_ ?_ | with_reducible refine br_47 ?_ ?_ | with_reducible refine br_48 ?_ ?_ | with_reducible refine br_49 ?_ ?_ | with_reducible refine br_50 ?_ ?_ | with_reducible refine br_51 ?_ ?_) <;> intro h <;> try simp (disch := first | assumption | exact Nat.le_of_ble_eq_true rfl | omega) only [ev_wr_id, not_true_eq_false, not_false_eq_true, Int.reduceEq, Int.reduceLT, Int.reduceLE, and_self, and_true, true_and, and_false, false_and, reduceIte] at h <;> try (exfalso; omega; done)))
        · rw [if_neg c3]
          repeat' (first | (simp (disch := first | assumption | exact Nat.le_of_ble_eq_true rfl | omega) only [bk_155_0, eo_1_0, eo_0_1, v11_2, ev_ki, ev_kv, eo_6, eo_56i, bk_155_1, eo_0_2, eo_60_1, bk_155_2, v11_3, eo_3_3n, eo_3_3i, eo_3_3r, eo_0_3, v11_4, g11_28_4, eo_3_4n, eo_3_4i, eo_3_4r, eo_0_4, eo_52, bk_155_3, eo_10, eo_11, eo_53, bk_155_4, a32_186, c_111, c_151, c_114, c_113, m183, hrr, hzz, e144, st_dd_1, hfz, md, Int.add_zero, Int.add_sub_cancel, Int.reduceAdd, Int.reduceMul, Int.reduceSub, Int.reduceNeg, ev_wr_id]) | ((first | with_reducible refine br_40 ?_ ?_ | with_reducible refine br_41 ?_ ?_ | with_reducible refine br_42 ?_ ?_ | with_reducible refine br_43 ?_ ?_ | with_reducible refine br_44 ?_ ?_ | with_reducible refine br_45 ?_ ?_ | with_reducible refine br_46 ?_ ?_ | with_reducible refine br_47 ?_ ?_ | with_reducible refine br_48 ?_ ?_ | with_reducible refine br_49 ?_ ?_ | with_reducible refine br_50 ?_ ?_ | with_reducible refine br_51 ?_ ?_) <;> intro h <;> try simp (disch := first | assumption | exact Nat.le_of_ble_eq_true rfl | omega) only [ev_wr_id, not_true_eq_false, not_false_eq_true, Int.reduceEq, Int.reduceLT, Int.reduceLE, and_self, and_true, true_and, and_false, false_and, reduceIte] at h <;> try (exfalso; omega; done)))
    · refine st_P_N hJ (σ1 := σ) (σ2 := σ) (v := .inl (-3)) ?_ ?_ st_N_r
      · rw [mm_87]
        repeat' (first | (simp (disch := first | assumption | exact Nat.le_of_ble_eq_true rfl | omega) only [bk_87_0, eo_1_0, g10_28_0, g7_28_1, eo_0_1, v1_2, ev_ki, ev_kv, eo_6, eo_56i, bk_87_1, eo_0_2, eo_60_3, bk_87_2, g1_28_1, eo_3_3n, eo_3_3i, eo_3_3r, g7_28_0, g6_28_3, eo_0_3, eo_3_4n, eo_3_4i, eo_3_4r, g10_28_5, g6_28_2, v9_5, eo_0_4, v9_2, g9_28_0, eo_10, g6_28_4, eo_11, eo_52, bk_87_3, eo_53, bk_87_4, a32_s7, a32_s3, a32_s2, a32_174, a32_s4, c_6, c_104, t2, Int.add_zero, Int.add_sub_cancel, Int.reduceAdd, Int.reduceMul, Int.reduceSub, Int.reduceNeg, ev_wr_id]) | ((first | with_reducible refine br_40 ?_ ?_ | with_reducible refine br_41 ?_ ?_ | with_reducible refine br_42 ?_ ?_ | with_reducible refine br_43 ?_ ?_ | with_reducible refine br_44 ?_ ?_ | with_reducible refine br_45 ?_ ?_ | with_reducible refine br_46 ?_ ?_ | with_reducible refine br_47 ?_ ?_ | with_reducible refine br_48 ?_ ?_ | with_reducible refine br_49 ?_ ?_ | with_reducible refine br_50 ?_ ?_ | with_reducible refine br_51 ?_ ?_) <;> intro h <;> try simp (disch := first | assumption | exact Nat.le_of_ble_eq_true rfl | omega) only [ev_wr_id, not_true_eq_false, not_false_eq_true, Int.reduceEq, Int.reduceLT, Int.reduceLE, and_self, and_true, true_and, and_false, false_and, reduceIte] at h <;> try (exfalso; omega; done)))
      · rw [mm_155]
        repeat' (first | (simp (disch := first | assumption | exact Nat.le_of_ble_eq_true rfl | omega) only [bk_155_0, eo_1_0, eo_0_1, v11_2, ev_ki, ev_kv, eo_6, eo_56i, bk_155_1, eo_0_2, eo_60_1, bk_155_2, v11_3, eo_3_3n, eo_3_3i, eo_3_3r, eo_0_3, v11_4, g11_28_4, eo_3_4n, eo_3_4i, eo_3_4r, eo_0_4, eo_52, bk_155_3, eo_10, eo_11, eo_53, bk_155_4, a32_186, c_111, c_151, c_114, c_113, Int.add_zero, Int.add_sub_cancel, Int.reduceAdd, Int.reduceMul, Int.reduceSub, Int.reduceNeg, ev_wr_id]) | ((first | with_reducible refine br_40 ?_ ?_ | with_reducible refine br_41 ?_ ?_ | with_reducible refine br_42 ?_ ?_ | with_reducible refine br_43 ?_ ?_ | with_reducible refine br_44 ?_ ?_ | with_reducible refine br_45 ?_ ?_ | with_reducible refine br_46 ?_ ?_ | with_reducible refine br_47 ?_ ?_ | with_reducible refine br_48 ?_ ?_ | with_reducible refine br_49 ?_ ?_ | with_reducible refine br_50 ?_ ?_ | with_reducible refine br_51 ?_ ?_) <;> intro h <;> try simp (disch := first | assumption | exact Nat.le_of_ble_eq_true rfl | omega) only [ev_wr_id, not_true_eq_false, not_false_eq_true, Int.reduceEq, Int.reduceLT, Int.reduceLE, and_self, and_true, true_and, and_false, false_and, reduceIte] at h <;> try (exfalso; omega; done)))
  · refine st_P_N hJ (σ1 := σ) (σ2 := σ) (v := .inl (-2)) ?_ ?_ st_N_r
    · rw [mm_87]
      repeat' (first | (simp (disch := first | assumption | exact Nat.le_of_ble_eq_true rfl | omega) only [bk_87_0, eo_1_0, g10_28_0, g7_28_1, eo_0_1, v1_2, ev_ki, ev_kv, eo_6, eo_56i, bk_87_1, eo_0_2, eo_60_3, bk_87_2, g1_28_1, eo_3_3n, eo_3_3i, eo_3_3r, g7_28_0, g6_28_3, eo_0_3, eo_3_4n, eo_3_4i, eo_3_4r, g10_28_5, g6_28_2, v9_5, eo_0_4, v9_2, g9_28_0, eo_10, g6_28_4, eo_11, eo_52, bk_87_3, eo_53, bk_87_4, a32_s7, a32_s3, a32_s2, a32_174, a32_s4, c_6, c_104, t2, Int.add_zero, Int.add_sub_cancel, Int.reduceAdd, Int.reduceMul, Int.reduceSub, Int.reduceNeg, ev_wr_id]) | ((first | with_reducible refine br_40 ?_ ?_ | with_reducible refine br_41 ?_ ?_ | with_reducible refine br_42 ?_ ?_ | with_reducible refine br_43 ?_ ?_ | with_reducible refine br_44 ?_ ?_ | with_reducible refine br_45 ?_ ?_ | with_reducible refine br_46 ?_ ?_ | with_reducible refine br_47 ?_ ?_ | with_reducible refine br_48 ?_ ?_ | with_reducible refine br_49 ?_ ?_ | with_reducible refine br_50 ?_ ?_ | with_reducible refine br_51 ?_ ?_) <;> intro h <;> try simp (disch := first | assumption | exact Nat.le_of_ble_eq_true rfl | omega) only [ev_wr_id, not_true_eq_false, not_false_eq_true, Int.reduceEq, Int.reduceLT, Int.reduceLE, and_self, and_true, true_and, and_false, false_and, reduceIte] at h <;> try (exfalso; omega; done)))
    · rw [mm_155]
      repeat' (first | (simp (disch := first | assumption | exact Nat.le_of_ble_eq_true rfl | omega) only [bk_155_0, eo_1_0, eo_0_1, v11_2, ev_ki, ev_kv, eo_6, eo_56i, bk_155_1, eo_0_2, eo_60_1, bk_155_2, v11_3, eo_3_3n, eo_3_3i, eo_3_3r, eo_0_3, v11_4, g11_28_4, eo_3_4n, eo_3_4i, eo_3_4r, eo_0_4, eo_52, bk_155_3, eo_10, eo_11, eo_53, bk_155_4, a32_186, c_111, c_151, c_114, c_113, Int.add_zero, Int.add_sub_cancel, Int.reduceAdd, Int.reduceMul, Int.reduceSub, Int.reduceNeg, ev_wr_id]) | ((first | with_reducible refine br_40 ?_ ?_ | with_reducible refine br_41 ?_ ?_ | with_reducible refine br_42 ?_ ?_ | with_reducible refine br_43 ?_ ?_ | with_reducible refine br_44 ?_ ?_ | with_reducible refine br_45 ?_ ?_ | with_reducible refine br_46 ?_ ?_ | with_reducible refine br_47 ?_ ?_ | with_reducible refine br_48 ?_ ?_ | with_reducible refine br_49 ?_ ?_ | with_reducible refine br_50 ?_ ?_ | with_reducible refine br_51 ?_ ?_) <;> intro h <;> try simp (disch := first | assumption | exact Nat.le_of_ble_eq_true rfl | omega) only [ev_wr_id, not_true_eq_false, not_false_eq_true, Int.reduceEq, Int.reduceLT, Int.reduceLE, and_self, and_true, true_and, and_false, false_and, reduceIte] at h <;> try (exfalso; omega; done)))
