/-! calls on both sides: inspect, rest, count -/
theorem pr_81 {σ : ev_M} {b : Int} (hJ : st_J σ) (hb9 : -2147483648 ≤ b ∧ b ≤ 2147483647) : st_P 81 141 [.inl b] σ := by
  obtain ⟨a1, a2, a3, a4, a5, a6, a7, a8⟩ := id hJ
  obtain ⟨t0, t1, t2, t3, t4, t5, t6, t7, t8, r2, r3, r4, r5, r7, r11, r8, r9, r10, r12, r13, r14, r15, r16, r18, r19, r20, r21, r22⟩ := st_rd a1; obtain ⟨⟨i0, i1, i2, i3, i4, i5⟩, hr, hb, hc, hp, hl, hq⟩ := id a2; have hSn := ev_S_n; have hn0 : ev_n = 0 := rfl
  by_cases c1 : 0 ≤ b ∧ b < σ 183 2
  · have hbb := hb b c1.1 c1.2
    obtain ⟨σa, e26, hF, hS⟩ := st_sv2 hJ
    have ha183 := hF 183 (by omega)
    have hEa : st_E (st_T σa ev_n) (σa 183) := by
      rw [ha183]
      exact st_E_t (st_T_congr (fun o q0 q1 => hF _ (by omega))) a1
    obtain ⟨f, g, e18, -, -⟩ := c_18T (σ := σa) (b := b) hEa (by rw [ha183]; exact a2) (by rw [ha183]; exact c1)
    rw [ha183] at e18
    obtain ⟨σf, df⟩ : ∃ z, z = ev_fr σa f g := ⟨_, rfl⟩
    rw [← df] at e18
    have hf : ∀ i, i ≠ 171 → i ≠ 172 → σf i = σa i := fun i h0 h1 => by rw [df]; exact ev_fr_row ⟨h0, h1⟩
    obtain ⟨σ1, d1⟩ : ∃ z, z = ev_up (ev_up (ev_up (ev_up σf (ev_n + 8) b (st_rt (σ 183) b)) (ev_n + 9) b (σf ev_n 3)) ev_n 4 (σf ev_n 4 + 1)) ev_n 5 (σf ev_n 5 + (5 + σf (ev_n + 11) b)) := ⟨_, rfl⟩
    have e51 := c_51 (σ := σf) (s := ev_n) (b := b) (v := st_rt (σ 183) b) hSn (by omega)
    rw [← d1] at e51
    have f1 : ∀ i, 22 < i → σ1 i = σf i := fun i hi => by rw [d1]; funext y; simp (disch := omega) only [ev_up_ne]
    obtain ⟨σb, e108, hbF, hE, hI, hbk, hfin⟩ := hS σ1 (fun i hi => by unfold st_k at hi; rw [f1 i (by omega), hf i (by omega) (by omega)])
    have m183 : σ1 183 = σ 183 := by rw [f1 183 (by omega), hf 183 (by omega) (by omega), ha183]
    have s2 := congrFun m183 2
    have q3 : σf ev_n 3 = σ 183 5 := by rw [hf _ (by omega) (by omega), hF _ (by omega)]; exact t5
    have q4 : σf ev_n 4 = σ 183 6 := by rw [hf _ (by omega) (by omega), hF _ (by omega)]; exact t6
    have q5 : σf ev_n 5 = σ 183 7 := by rw [hf _ (by omega) (by omega), hF _ (by omega)]; exact t7
    have q11 : σf (ev_n + 11) b = σ 183 (89 + 5 * b + 1) := by rw [hf _ (by omega) (by omega), hF _ (by omega)]; exact r11 b (by omega) (by omega)
    have qv : σ1 (ev_n + 8) b = st_rt (σ 183) b := by rw [d1]; simp (disch := omega) only [ev_up_ne, ev_up_eq]
    have hbE : st_E (σb 183) (σ 183) := hbk
    have b2 := hbk 2 (by omega) (by omega)
    have b5 := hbk 5 (by omega) (by omega)
    have b6 := hbk 6 (by omega) (by omega)
    have b7 := hbk 7 (by omega) (by omega)
    have b11 := hbk (89 + 5 * b + 1) (by omega) (by omega)
    have hrt : st_rt (σb 183) b = st_rt (σ 183) b := st_rt_E hbE hI (by omega)
    obtain ⟨g2, e140⟩ := c_140 (σ := σb) (b := b) hI (by omega)
    have hrb := st_rt_in (T := σb 183) (b := b) hI (by omega)
    refine ⟨.inl (st_rt (σ 183) b), σ1, ev_ua (ev_ua σb 183 (st_look (σb 183) b)) 185 g2, ?_, ?_, ?_⟩
    · have w6 : σa (ev_n + 6) = σ (ev_n + 6) := hF _ (by omega)
      rw [mm_81]
      repeat' (first | (simp (disch := first | assumption | exact Nat.le_of_ble_eq_true rfl | omega) only [bk_81_0, eo_1_0, g10_28_0, g7_28_1, eo_0_1, v1_2, ev_ki, ev_kv, eo_6, eo_56i, bk_81_1, g10_28_2, v3_2, g10_28_4, v2_3, v7_3, g1_28_2, a32_s8, c_6, t2, e26, e18, e51, qv, Int.add_zero, Int.add_sub_cancel, Int.reduceAdd, Int.reduceMul, Int.reduceSub, Int.reduceNeg, ev_wr_id]) | ((first | with_reducible refine br_40 ?_ ?_ | with_reducible refine br_41 ?_ ?_ | with_reducible refine br_42 ?_ ?_ | with_reducible refine br_43 ?_ ?_ | with_reducible refine br_44 ?_ ?_ | with_reducible refine br_45 ?_ ?_ | with_reducible refine br_46 ?_ ?_ | with_reducible refine br_47 ?_ ?_ | with_reducible refine br_48 ?_ ?_ | with_reducible refine br_49 ?_ ?_ | with_reducible refine br_50 ?_ ?_ | with_reducible refine br_51 ?_ ?_) <;> intro h <;> try simp (disch := first | assumption | exact Nat.le_of_ble_eq_true rfl | omega) only [ev_wr_id, not_true_eq_false, not_false_eq_true, Int.reduceEq, Int.reduceLT, Int.reduceLE, and_self, and_true, true_and, and_false, false_and, reduceIte] at h <;> try (exfalso; omega; done)))
    · have e9 : st_look (σb 183) b (89 + 5 * b + 2) = st_rt (σ 183) b := by
        unfold st_look
        simp (disch := omega) only [ev_u1_eq, ev_u1_ne]
        exact hrt
      rw [mm_141]
      repeat' (first | (simp (disch := first | assumption | exact Nat.le_of_ble_eq_true rfl | omega) only [bk_141_0, eo_1_0, eo_0_1, v11_2, ev_ki, ev_kv, eo_6, eo_56i, bk_141_1, v11_1, v11_3, c_111, c_114, e108, e140, ev_ua_ne, ev_ua_eq, e9, Int.add_zero, Int.add_sub_cancel, Int.reduceAdd, Int.reduceMul, Int.reduceSub, Int.reduceNeg, ev_wr_id]) | ((first | with_reducible refine br_40 ?_ ?_ | with_reducible refine br_41 ?_ ?_ | with_reducible refine br_42 ?_ ?_ | with_reducible refine br_43 ?_ ?_ | with_reducible refine br_44 ?_ ?_ | with_reducible refine br_45 ?_ ?_ | with_reducible refine br_46 ?_ ?_ | with_reducible refine br_47 ?_ ?_ | with_reducible refine br_48 ?_ ?_ | with_reducible refine br_49 ?_ ?_ | with_reducible refine br_50 ?_ ?_ | with_reducible refine br_51 ?_ ?_) <;> intro h <;> try simp (disch := first | assumption | exact Nat.le_of_ble_eq_true rfl | omega) only [ev_wr_id, not_true_eq_false, not_false_eq_true, Int.reduceEq, Int.reduceLT, Int.reduceLE, and_self, and_true, true_and, and_false, false_and, reduceIte] at h <;> try (exfalso; omega; done)))
    · refine hfin _ (fun i h0 h1 h2 => ?_) ?_ ?_ (fun i h0 h1 => ?_) (fun k h0 h1 => ?_) ?_ ?_
      · unfold st_k at h0
        rw [ev_ua_row (by omega), ev_ua_row (by omega)]
      · rw [ev_ua_ne (by omega), ev_ua_ne (by omega)]
      · rw [ev_ua_ne (by omega), ev_ua_ne (by omega)]
      · rw [ev_ua_row (by omega), ev_ua_row (by omega), hbF i (by omega) (by omega)]
      · rw [ev_ua_ne (by omega), ev_ua_eq]
        unfold st_look
        simp (disch := omega) only [ev_u1_eq, ev_u1_ne]
      · rw [ev_ua_row (by omega), ev_ua_rs, d1, q3, q4, q5, q11]
        unfold st_look
        rw [hrt, b5, b6, b7, b11]
        have hfE : st_E (st_T σf ev_n) (σb 183) := st_E_t (st_T_congr (fun o q0 q1 => hf _ (by omega) (by omega))) hE
        exact st_E_t tw_n7 (st_E_u (st_E_t tw_n6 (st_E_u (st_E_t (tw_9 (by omega)) (st_E_u (st_E_t (tw_8 (by omega)) (st_E_u hfE)))))))
      · rw [ev_ua_row (by omega), ev_ua_rs]
        exact pi_look hI (by omega) hrb rfl
  · refine st_P_N hJ (σ1 := σ) (σ2 := σ) (v := .inl (-2)) ?_ ?_ st_N_r
    · rw [mm_81]
      repeat' (first | (simp (disch := first | assumption | exact Nat.le_of_ble_eq_true rfl | omega) only [bk_81_0, eo_1_0, g10_28_0, g7_28_1, eo_0_1, v1_2, ev_ki, ev_kv, eo_6, eo_56i, bk_81_1, g10_28_2, v3_2, g10_28_4, v2_3, v7_3, g1_28_2, a32_s8, c_6, t2, Int.add_zero, Int.add_sub_cancel, Int.reduceAdd, Int.reduceMul, Int.reduceSub, Int.reduceNeg, ev_wr_id]) | ((first | with_reducible refine br_40 ?_ ?_ | with_reducible refine br_41 ?_ ?_ | with_reducible refine br_42 ?_ ?_ | with_reducible refine br_43 ?_ ?_ | with_reducible refine br_44 ?_ ?_ | with_reducible refine br_45 ?_ ?_ | with_reducible refine br_46 ?_ ?_ | with_reducible refine br_47 ?_ ?_ | with_reducible refine br_48 ?_ ?_ | with_reducible refine br_49 ?_ ?_ | with_reducible refine br_50 ?_ ?_ | with_reducible refine br_51 ?_ ?_) <;> intro h <;> try simp (disch := first | assumption | exact Nat.le_of_ble_eq_true rfl | omega) only [ev_wr_id, not_true_eq_false, not_false_eq_true, Int.reduceEq, Int.reduceLT, Int.reduceLE, and_self, and_true, true_and, and_false, false_and, reduceIte] at h <;> try (exfalso; omega; done)))
    · rw [mm_141]
      repeat' (first | (simp (disch := first | assumption | exact Nat.le_of_ble_eq_true rfl | omega) only [bk_141_0, eo_1_0, eo_0_1, v11_2, ev_ki, ev_kv, eo_6, eo_56i, bk_141_1, v11_1, v11_3, c_111, c_114, Int.add_zero, Int.add_sub_cancel, Int.reduceAdd, Int.reduceMul, Int.reduceSub, Int.reduceNeg, ev_wr_id]) | ((first | with_reducible refine br_40 ?_ ?_ | with_reducible refine br_41 ?_ ?_ | with_reducible refine br_42 ?_ ?_ | with_reducible refine br_43 ?_ ?_ | with_reducible refine br_44 ?_ ?_ | with_reducible refine br_45 ?_ ?_ | with_reducible refine br_46 ?_ ?_ | with_reducible refine br_47 ?_ ?_ | with_reducible refine br_48 ?_ ?_ | with_reducible refine br_49 ?_ ?_ | with_reducible refine br_50 ?_ ?_ | with_reducible refine br_51 ?_ ?_) <;> intro h <;> try simp (disch := first | assumption | exact Nat.le_of_ble_eq_true rfl | omega) only [ev_wr_id, not_true_eq_false, not_false_eq_true, Int.reduceEq, Int.reduceLT, Int.reduceLE, and_self, and_true, true_and, and_false, false_and, reduceIte] at h <;> try (exfalso; omega; done)))
theorem ev_xo_tab : ∀ r : Fin 128, ∀ o : Fin 7, let m := if o.val = 6 then (64 : Int) else ev_shl 1 (o.val : Int); (0 ≤ ev_xor (r.val : Int) m ∧ ev_xor (r.val : Int) m ≤ 127) ∧ 0 ≤ ev_and (ev_xor (r.val : Int) m) m ∧ ev_and (ev_xor (r.val : Int) m) m ≤ 127 := by decide +kernel
theorem ev_xo {r m : Int} (hr : 0 ≤ r ∧ r ≤ 127) (hm : m = 64 ∨ ∃ o, 0 ≤ o ∧ o < 6 ∧ m = ev_shl 1 o) : (0 ≤ ev_xor r m ∧ ev_xor r m ≤ 127) ∧ 0 ≤ ev_and (ev_xor r m) m ∧ ev_and (ev_xor r m) m ≤ 127 := by
  obtain ⟨n, rfl⟩ : ∃ n : Nat, r = n := ⟨r.toNat, by omega⟩
  rcases hm with rfl | ⟨o, h0, h1, rfl⟩
  · exact ev_xo_tab ⟨n, by omega⟩ ⟨6, by omega⟩
  · obtain ⟨k, rfl⟩ : ∃ k : Nat, o = k := ⟨o.toNat, by omega⟩
    have h := ev_xo_tab ⟨n, by omega⟩ ⟨k, by omega⟩
    dsimp only at h
    rw [if_neg (by omega)] at h
    exact h
theorem pr_72 {σ : ev_M} {b c o : Int} (hJ : st_J σ) (hb9 : -2147483648 ≤ b ∧ b ≤ 2147483647) (hc9 : -2147483648 ≤ c ∧ c ≤ 2147483647) (ho9 : -2147483648 ≤ o ∧ o ≤ 2147483647) : st_P 72 127 [.inl b, .inl c, .inl o] σ := by
  obtain ⟨a1, a2, a3, a4, a5, a6, a7, a8⟩ := id hJ
  obtain ⟨t0, t1, t2, t3, t4, t5, t6, t7, t8, r2, r3, r4, r5, r7, r11, r8, r9, r10, r12, r13, r14, r15, r16, r18, r19, r20, r21, r22⟩ := st_rd a1; obtain ⟨⟨i0, i1, i2, i3, i4, i5⟩, hr, hb, hc, hp, hl, hq⟩ := id a2; have hSn := ev_S_n; have hn0 : ev_n = 0 := rfl
  have e11 := r11 b
  have hbb := hb b
  have h7 : 0 ≤ b ∧ b < σ (ev_n + 6) 0 → 0 ≤ σ (ev_n + 11) b ∧ σ (ev_n + 11) b ≤ 6 := fun h => by
    rw [e11 h.1 (by omega)]
    exact (hbb h.1 (by omega)).2.1
  have hm7 : 0 ≤ b ∧ b < σ 183 2 → 0 ≤ σ 183 (89 + 5 * b + 1) ∧ σ 183 (89 + 5 * b + 1) ≤ 6 := fun h => (hbb h.1 h.2).2.1
  by_cases c1 : ((0 ≤ b ∧ b < σ 183 2) ∧ 0 ≤ c ∧ c < σ 183 (89 + 5 * b + 1)) ∧ (o = -1 ∨ 0 ≤ o ∧ o < σ 183 (89 + 5 * b + 1))
  · have e11q := e11 c1.1.1.1 (by omega)
    have hb2 := hm7 c1.1.1
    have hpc := (hp b c c1.1.1.1 c1.1.1.2 c1.1.2.1 c1.1.2.2).2.2.2.2
    have e16 := r16 b c c1.1.1.1 (by omega) c1.1.2.1 (by omega)
    by_cases c2 : o = -1 ∨ c < o
    · obtain ⟨m, hm, hmo⟩ : ∃ m, (m = 64 ∨ ∃ o, 0 ≤ o ∧ o < 6 ∧ m = ev_shl 1 o) ∧ ((o = -1 ∧ m = 64) ∨ (o ≠ -1 ∧ m = ev_shl 1 o)) := by
        by_cases h : o = -1
        · exact ⟨64, Or.inl rfl, Or.inl ⟨h, rfl⟩⟩
        · exact ⟨ev_shl 1 o, Or.inr ⟨o, by omega, by omega, rfl⟩, Or.inr ⟨h, rfl⟩⟩
      have hx := ev_xo hpc hm
      clear hm
      obtain ⟨x, hxx⟩ : ∃ x, x = ev_xor (σ 183 (119 + 30 * b + 5 * c + 4)) m := ⟨_, rfl⟩
      rw [← hxx] at hx
      obtain ⟨σa, e26, hF, hS⟩ := st_sv hJ
      obtain ⟨σ1, d1⟩ : ∃ z, z = ev_up σa (ev_n + 16) (b * 6 + c) x := ⟨_, rfl⟩
      have f1 : ∀ i, 22 < i → σ1 i = σa i := fun i hi => by rw [d1]; funext y; simp (disch := omega) only [ev_up_ne]
      obtain ⟨σb, e108, hbF, hE, hI, hbk, hfin⟩ := hS σ1 f1
      have m183 : σ1 183 = σ 183 := by rw [f1 183 (by omega), hF 183 (by omega)]
      have w : ∀ o, 0 ≤ o → o ≤ 22 → σa (ev_n + o) = σ (ev_n + o) := fun o h0 h1 => hF _ (by omega)
      have w0 : σa ev_n = σ ev_n := hF _ (by omega)
      have s0 := congrFun m183 0
      have s1 := congrFun m183 1
      have s2 := congrFun m183 2
      have s3 := congrFun m183 3
      have s4 := congrFun m183 4
      have s5 := congrFun m183 5
      have hm8 : 0 ≤ b ∧ b < σ1 183 2 → 0 ≤ σ1 183 (89 + 5 * b + 1) ∧ σ1 183 (89 + 5 * b + 1) ≤ 6 := by rw [m183]; exact hm7
      have q16 : ev_xor (σa (ev_n + 16) (b * 6 + c)) m = x := by rw [w 16 (by omega) (by omega), e16, hxx]
      have e10 := c_10 (σ := σa) (s := ev_n) (b := b) (c := c) (m := m) (v := x) hSn q16 (by omega) (by omega) (by omega)
      have hxr := hxx.symm
      refine ⟨.inl (if ev_and x m = 0 then 0 else 1), σ1, ev_ua σb 183 (ev_u1 (σb 183) (119 + 30 * b + 5 * c + 4) x), ?_, ?_, hfin _ (fun k hk => by simp (disch := omega) only [ev_u1_eq, ev_u1_ne]) ?_ ?_⟩
      · rw [mm_72, d1]
        rcases hmo with ⟨rfl, rfl⟩ | ⟨h, rfl⟩
        · repeat' (first | (simp (disch := first | assumption | exact Nat.le_of_ble_eq_true rfl | omega) only [bk_72_0, eo_1_0, g10_28_0, g7_28_1, eo_0_1, eo_0_2, v1_3, ev_ki, ev_kv, eo_6, eo_56i, bk_72_1, eo_0_3, bk_72_2, bk_72_3, g10_28_2, v3_2, eo_52, bk_72_4, eo_18, eo_53, bk_72_5, eo_3_4n, eo_3_4i, eo_3_4r, eo_0_4, v1_4, bk_72_6, bk_72_7, c_7, t2, e26, w, e11q, e10, Int.add_zero, Int.add_sub_cancel, Int.reduceAdd, Int.reduceMul, Int.reduceSub, Int.reduceNeg, ev_wr_id]) | ((first | with_reducible refine br_40 ?_ ?_ | with_reducible refine br_41 ?_ ?_ | with_reducible refine br_42 ?_ ?_ | with_reducible refine br_43 ?_ ?_ | with_reducible refine br_44 ?_ ?_ | with_reducible refine br_45 ?_ ?_ | with_reducible refine br_46 ?_ ?_ | with_reducible refine br_47 ?_ ?_ | with_reducible refine br_48 ?_ ?_ | with_reducible refine br_49 ?_ ?_ | with_reducible refine br_50 ?_ ?_ | with_reducible refine br_51 ?_ ?_) <;> intro h <;> try simp (disch := first | assumption | exact Nat.le_of_ble_eq_true rfl | omega) only [ev_wr_id, not_true_eq_false, not_false_eq_true, Int.reduceEq, Int.reduceLT, Int.reduceLE, and_self, and_true, true_and, and_false, false_and, reduceIte] at h <;> try (exfalso; omega; done)))
          all_goals (repeat' split) <;> first | rfl | omega | (exfalso; omega)
        · repeat' (first | (simp (disch := first | assumption | exact Nat.le_of_ble_eq_true rfl | omega) only [bk_72_0, eo_1_0, g10_28_0, g7_28_1, eo_0_1, eo_0_2, v1_3, ev_ki, ev_kv, eo_6, eo_56i, bk_72_1, eo_0_3, bk_72_2, bk_72_3, g10_28_2, v3_2, eo_52, bk_72_4, eo_18, eo_53, bk_72_5, eo_3_4n, eo_3_4i, eo_3_4r, eo_0_4, v1_4, bk_72_6, bk_72_7, c_7, t2, e26, w, e11q, e10, Int.add_zero, Int.add_sub_cancel, Int.reduceAdd, Int.reduceMul, Int.reduceSub, Int.reduceNeg, ev_wr_id]) | ((first | with_reducible refine br_40 ?_ ?_ | with_reducible refine br_41 ?_ ?_ | with_reducible refine br_42 ?_ ?_ | with_reducible refine br_43 ?_ ?_ | with_reducible refine br_44 ?_ ?_ | with_reducible refine br_45 ?_ ?_ | with_reducible refine br_46 ?_ ?_ | with_reducible refine br_47 ?_ ?_ | with_reducible refine br_48 ?_ ?_ | with_reducible refine br_49 ?_ ?_ | with_reducible refine br_50 ?_ ?_ | with_reducible refine br_51 ?_ ?_) <;> intro h <;> try simp (disch := first | assumption | exact Nat.le_of_ble_eq_true rfl | omega) only [ev_wr_id, not_true_eq_false, not_false_eq_true, Int.reduceEq, Int.reduceLT, Int.reduceLE, and_self, and_true, true_and, and_false, false_and, reduceIte] at h <;> try (exfalso; omega; done)))
          all_goals (repeat' split) <;> first | rfl | omega | (exfalso; omega)
      · rw [mm_127]
        rcases hmo with ⟨rfl, rfl⟩ | ⟨h, rfl⟩
        · repeat' (first | (simp (disch := first | assumption | exact Nat.le_of_ble_eq_true rfl | omega) only [bk_127_0, eo_1_0, eo_0_1, eo_0_2, v11_3, ev_ki, ev_kv, eo_0_3, eo_6, eo_53, bk_127_1, eo_56i, bk_127_2, bk_127_3, v11_1, eo_52, bk_127_4, eo_18, bk_127_5, eo_3_4n, eo_3_4i, eo_3_4r, v11_4, eo_0_4, eo_17, v11_5, eo_15, bk_127_6, bk_127_7, c_112, c_115, c_116, e108, m183, hbk, hxr, ev_up_as, ev_ua_eq, ev_u1_eq, Int.add_zero, Int.add_sub_cancel, Int.reduceAdd, Int.reduceMul, Int.reduceSub, Int.reduceNeg, ev_wr_id]) | ((first | with_reducible refine br_40 ?_ ?_ | with_reducible refine br_41 ?_ ?_ | with_reducible refine br_42 ?_ ?_ | with_reducible refine br_43 ?_ ?_ | with_reducible refine br_44 ?_ ?_ | with_reducible refine br_45 ?_ ?_ | with_reducible refine br_46 ?_ ?_ | with_reducible refine br_47 ?_ ?_ | with_reducible refine br_48 ?_ ?_ | with_reducible refine br_49 ?_ ?_ | with_reducible refine br_50 ?_ ?_ | with_reducible refine br_51 ?_ ?_) <;> intro h <;> try simp (disch := first | assumption | exact Nat.le_of_ble_eq_true rfl | omega) only [ev_wr_id, not_true_eq_false, not_false_eq_true, Int.reduceEq, Int.reduceLT, Int.reduceLE, and_self, and_true, true_and, and_false, false_and, reduceIte] at h <;> try (exfalso; omega; done)))
          all_goals (repeat' split) <;> first | rfl | omega | (exfalso; omega)
        · repeat' (first | (simp (disch := first | assumption | exact Nat.le_of_ble_eq_true rfl | omega) only [bk_127_0, eo_1_0, eo_0_1, eo_0_2, v11_3, ev_ki, ev_kv, eo_0_3, eo_6, eo_53, bk_127_1, eo_56i, bk_127_2, bk_127_3, v11_1, eo_52, bk_127_4, eo_18, bk_127_5, eo_3_4n, eo_3_4i, eo_3_4r, v11_4, eo_0_4, eo_17, v11_5, eo_15, bk_127_6, bk_127_7, c_112, c_115, c_116, e108, m183, hbk, hxr, ev_up_as, ev_ua_eq, ev_u1_eq, Int.add_zero, Int.add_sub_cancel, Int.reduceAdd, Int.reduceMul, Int.reduceSub, Int.reduceNeg, ev_wr_id]) | ((first | with_reducible refine br_40 ?_ ?_ | with_reducible refine br_41 ?_ ?_ | with_reducible refine br_42 ?_ ?_ | with_reducible refine br_43 ?_ ?_ | with_reducible refine br_44 ?_ ?_ | with_reducible refine br_45 ?_ ?_ | with_reducible refine br_46 ?_ ?_ | with_reducible refine br_47 ?_ ?_ | with_reducible refine br_48 ?_ ?_ | with_reducible refine br_49 ?_ ?_ | with_reducible refine br_50 ?_ ?_ | with_reducible refine br_51 ?_ ?_) <;> intro h <;> try simp (disch := first | assumption | exact Nat.le_of_ble_eq_true rfl | omega) only [ev_wr_id, not_true_eq_false, not_false_eq_true, Int.reduceEq, Int.reduceLT, Int.reduceLE, and_self, and_true, true_and, and_false, false_and, reduceIte] at h <;> try (exfalso; omega; done)))
          all_goals (repeat' split) <;> first | rfl | omega | (exfalso; omega)
      · rw [d1]
        exact st_E_t (tw_16 (by omega) (by omega)) (st_E_u hE)
      · exact pi_part (o := 4) (v := x) (b := b) (n := c) hI (by rw [hbk 2 (by omega) (by omega)]; exact c1.1.1) (by rw [hbk _ (by omega) (by omega)]; exact c1.1.2) (Or.inr (Or.inr ⟨rfl, hx.1⟩))
    · refine st_P_N hJ (σ1 := σ) (σ2 := σ) (v := .inl (-3)) ?_ ?_ st_N_r
      · rw [mm_72]
        repeat' (first | (simp (disch := first | assumption | exact Nat.le_of_ble_eq_true rfl | omega) only [bk_72_0, eo_1_0, g10_28_0, g7_28_1, eo_0_1, eo_0_2, v1_3, ev_ki, ev_kv, eo_6, eo_56i, bk_72_1, eo_0_3, bk_72_2, bk_72_3, g10_28_2, v3_2, eo_52, bk_72_4, eo_18, eo_53, bk_72_5, eo_3_4n, eo_3_4i, eo_3_4r, eo_0_4, v1_4, bk_72_6, bk_72_7, c_7, t2, e11q, Int.add_zero, Int.add_sub_cancel, Int.reduceAdd, Int.reduceMul, Int.reduceSub, Int.reduceNeg, ev_wr_id]) | ((first | with_reducible refine br_40 ?_ ?_ | with_reducible refine br_41 ?_ ?_ | with_reducible refine br_42 ?_ ?_ | with_reducible refine br_43 ?_ ?_ | with_reducible refine br_44 ?_ ?_ | with_reducible refine br_45 ?_ ?_ | with_reducible refine br_46 ?_ ?_ | with_reducible refine br_47 ?_ ?_ | with_reducible refine br_48 ?_ ?_ | with_reducible refine br_49 ?_ ?_ | with_reducible refine br_50 ?_ ?_ | with_reducible refine br_51 ?_ ?_) <;> intro h <;> try simp (disch := first | assumption | exact Nat.le_of_ble_eq_true rfl | omega) only [ev_wr_id, not_true_eq_false, not_false_eq_true, Int.reduceEq, Int.reduceLT, Int.reduceLE, and_self, and_true, true_and, and_false, false_and, reduceIte] at h <;> try (exfalso; omega; done)))
      · rw [mm_127]
        repeat' (first | (simp (disch := first | assumption | exact Nat.le_of_ble_eq_true rfl | omega) only [bk_127_0, eo_1_0, eo_0_1, eo_0_2, v11_3, ev_ki, ev_kv, eo_0_3, eo_6, eo_53, bk_127_1, eo_56i, bk_127_2, bk_127_3, v11_1, eo_52, bk_127_4, eo_18, bk_127_5, eo_3_4n, eo_3_4i, eo_3_4r, v11_4, eo_0_4, eo_17, v11_5, eo_15, bk_127_6, bk_127_7, c_112, c_115, c_116, Int.add_zero, Int.add_sub_cancel, Int.reduceAdd, Int.reduceMul, Int.reduceSub, Int.reduceNeg, ev_wr_id]) | ((first | with_reducible refine br_40 ?_ ?_ | with_reducible refine br_41 ?_ ?_ | with_reducible refine br_42 ?_ ?_ | with_reducible refine br_43 ?_ ?_ | with_reducible refine br_44 ?_ ?_ | with_reducible refine br_45 ?_ ?_ | with_reducible refine br_46 ?_ ?_ | with_reducible refine br_47 ?_ ?_ | with_reducible refine br_48 ?_ ?_ | with_reducible refine br_49 ?_ ?_ | with_reducible refine br_50 ?_ ?_ | with_reducible refine br_51 ?_ ?_) <;> intro h <;> try simp (disch := first | assumption | exact Nat.le_of_ble_eq_true rfl | omega) only [ev_wr_id, not_true_eq_false, not_false_eq_true, Int.reduceEq, Int.reduceLT, Int.reduceLE, and_self, and_true, true_and, and_false, false_and, reduceIte] at h <;> try (exfalso; omega; done)))
  · refine st_P_N hJ (σ1 := σ) (σ2 := σ) (v := .inl (-2)) ?_ ?_ st_N_r
    · rw [mm_72]
      repeat' (first | (simp (disch := first | assumption | exact Nat.le_of_ble_eq_true rfl | omega) only [bk_72_0, eo_1_0, g10_28_0, g7_28_1, eo_0_1, eo_0_2, v1_3, ev_ki, ev_kv, eo_6, eo_56i, bk_72_1, eo_0_3, bk_72_2, bk_72_3, g10_28_2, v3_2, eo_52, bk_72_4, eo_18, eo_53, bk_72_5, eo_3_4n, eo_3_4i, eo_3_4r, eo_0_4, v1_4, bk_72_6, bk_72_7, c_7, t2, Int.add_zero, Int.add_sub_cancel, Int.reduceAdd, Int.reduceMul, Int.reduceSub, Int.reduceNeg, ev_wr_id]) | ((first | with_reducible refine br_40 ?_ ?_ | with_reducible refine br_41 ?_ ?_ | with_reducible refine br_42 ?_ ?_ | with_reducible refine br_43 ?_ ?_ | with_reducible refine br_44 ?_ ?_ | with_reducible refine br_45 ?_ ?_ | with_reducible refine br_46 ?_ ?_ | with_reducible refine br_47 ?_ ?_ | with_reducible refine br_48 ?_ ?_ | with_reducible refine br_49 ?_ ?_ | with_reducible refine br_50 ?_ ?_ | with_reducible refine br_51 ?_ ?_) <;> intro h <;> try simp (disch := first | assumption | exact Nat.le_of_ble_eq_true rfl | omega) only [ev_wr_id, not_true_eq_false, not_false_eq_true, Int.reduceEq, Int.reduceLT, Int.reduceLE, and_self, and_true, true_and, and_false, false_and, reduceIte] at h <;> try (exfalso; omega; done)))
    · rw [mm_127]
      repeat' (first | (simp (disch := first | assumption | exact Nat.le_of_ble_eq_true rfl | omega) only [bk_127_0, eo_1_0, eo_0_1, eo_0_2, v11_3, ev_ki, ev_kv, eo_0_3, eo_6, eo_53, bk_127_1, eo_56i, bk_127_2, bk_127_3, v11_1, eo_52, bk_127_4, eo_18, bk_127_5, eo_3_4n, eo_3_4i, eo_3_4r, v11_4, eo_0_4, eo_17, v11_5, eo_15, bk_127_6, bk_127_7, c_112, c_115, c_116, Int.add_zero, Int.add_sub_cancel, Int.reduceAdd, Int.reduceMul, Int.reduceSub, Int.reduceNeg, ev_wr_id]) | ((first | with_reducible refine br_40 ?_ ?_ | with_reducible refine br_41 ?_ ?_ | with_reducible refine br_42 ?_ ?_ | with_reducible refine br_43 ?_ ?_ | with_reducible refine br_44 ?_ ?_ | with_reducible refine br_45 ?_ ?_ | with_reducible refine br_46 ?_ ?_ | with_reducible refine br_47 ?_ ?_ | with_reducible refine br_48 ?_ ?_ | with_reducible refine br_49 ?_ ?_ | with_reducible refine br_50 ?_ ?_ | with_reducible refine br_51 ?_ ?_) <;> intro h <;> try simp (disch := first | assumption | exact Nat.le_of_ble_eq_true rfl | omega) only [ev_wr_id, not_true_eq_false, not_false_eq_true, Int.reduceEq, Int.reduceLT, Int.reduceLE, and_self, and_true, true_and, and_false, false_and, reduceIte] at h <;> try (exfalso; omega; done)))
