/-! the calls that change components, lines, years -/
def st_nline (T : Int → Int) (b c p : Int) : Int → Int := ev_u1 (ev_u1 (ev_u1 (ev_u1 T (299 + 3 * T 3) b) (299 + 3 * T 3 + 1) c) (299 + 3 * T 3 + 2) p) 3 (T 3 + 1)
theorem q_90 {σ : ev_M} {T : Int → Int} {hs : List (Int → Int)} {b c p : Int} (hA : ab_A σ T hs) (hb9 : -2147483648 ≤ b ∧ b ≤ 2147483647) (hc9 : -2147483648 ≤ c ∧ c ≤ 2147483647) (hp9 : -2147483648 ≤ p ∧ p ≤ 2147483647) : ((0 ≤ b ∧ b < T 2) ∧ 0 ≤ c ∧ c < T (89 + 5 * b + 1) → 1 ≤ p ∧ p ≤ 9 → T 3 < 8 → ab_Q 90 [.inl b, .inl c, .inl p] σ (T 3) (st_nline T b c p) (ab_kp T hs)) ∧ ((0 ≤ b ∧ b < T 2) ∧ 0 ≤ c ∧ c < T (89 + 5 * b + 1) → 1 ≤ p ∧ p ≤ 9 → ¬ T 3 < 8 → ab_Q 90 [.inl b, .inl c, .inl p] σ (-5) T hs) ∧ ((0 ≤ b ∧ b < T 2) ∧ 0 ≤ c ∧ c < T (89 + 5 * b + 1) → ¬ (1 ≤ p ∧ p ≤ 9) → ab_Q 90 [.inl b, .inl c, .inl p] σ (-3) T hs) ∧ (¬ ((0 ≤ b ∧ b < T 2) ∧ 0 ≤ c ∧ c < T (89 + 5 * b + 1)) → ab_Q 90 [.inl b, .inl c, .inl p] σ (-2) T hs) := by
  refine ⟨fun c1 c2 c3 => ?_, fun c1 c2 c3 => ?_, fun c1 c2 => ?_, fun c1 => ?_⟩
  · refine q_gw (fun σ hT hA => ?_) hA; subst hT; obtain ⟨a1, a2, a3, a4, a5, a6⟩ := id hA
    obtain ⟨t0, t1, t2, t3, t4, t5, t6, t7, t8, r2, r3, r4, r5, r7, r11, r8, r9, r10, r12, r13, r14, r15, r16, r18, r19, r20, r21, r22⟩ := st_rd a1; obtain ⟨⟨i0, i1, i2, i3, i4, i5⟩, hr, hb, hc, hp, hl, hq⟩ := id a2; have hSn := ev_S_n; have hn0 : ev_n = 0 := rfl
    have e11 := r11 b
    have hbb := hb b
    have h7 : 0 ≤ b ∧ b < σ (ev_n + 6) 0 → 0 ≤ σ (ev_n + 11) b ∧ σ (ev_n + 11) b ≤ 6 := fun h => by
      rw [e11 h.1 (by omega)]
      exact (hbb h.1 (by omega)).2.1
    have e11q := e11 c1.1.1 (by omega)
    obtain ⟨σa, e26, hF, hfin⟩ := A_sv hA
    obtain ⟨σ1, d1⟩ : ∃ z, z = ev_up (ev_up (ev_up (ev_up σa (ev_n + 18) (σ 183 3) b) (ev_n + 19) (σ 183 3) c) (ev_n + 20) (σ 183 3) p) (ev_n + 17) 0 (σ 183 3 + 1) := ⟨_, rfl⟩
    have f1 : ∀ i, 22 < i → σ1 i = σa i := fun i hi => by rw [d1]; funext y; simp (disch := omega) only [ev_up_ne]
    have w : ∀ o, 0 ≤ o → o ≤ 22 → σa (ev_n + o) = σ (ev_n + o) := fun o h0 h1 => hF _ (by omega)
    have w0 : σa ev_n = σ ev_n := hF _ (by omega)
    have hE : st_E (st_T σa ev_n) (σ 183) := st_E_t (st_T_congr (fun o q0 q1 => hF _ (by omega))) a1
    have hfin := fun U => hfin σ1 U (fun i hi => f1 i (by omega))
    have e32 := c_32 (σ := σa) (n := σ 183 3) (b := b) (c := c) (p := p) hSn ((congrFun (w 17 (by omega) (by omega)) 0).trans t3) (by omega)
    refine ⟨σ1, ?_, hfin _ ?_ (pi_line a2 rfl c3 c1.1 c1.2 c2)⟩
    · rw [mm_90, d1]
      repeat' (first | (simp (disch := first | assumption | exact Nat.le_of_ble_eq_true rfl | omega) only [bk_90_0, eo_1_0, g10_28_0, g7_28_1, eo_0_1, eo_0_2, v1_3, ev_ki, ev_kv, eo_6, eo_56i, bk_90_1, eo_0_3, eo_60_3, bk_90_2, g7_28_2, g4_27, bk_90_3, g10_28_2, v3_2, v4_4, c_7, c_104, t2, t3, e26, w, e11q, e32, Int.add_zero, Int.add_sub_cancel, Int.reduceAdd, Int.reduceMul, Int.reduceSub, Int.reduceNeg, ev_wr_id]) | ((first | with_reducible refine br_40 ?_ ?_ | with_reducible refine br_41 ?_ ?_ | with_reducible refine br_42 ?_ ?_ | with_reducible refine br_43 ?_ ?_ | with_reducible refine br_44 ?_ ?_ | with_reducible refine br_45 ?_ ?_ | with_reducible refine br_46 ?_ ?_ | with_reducible refine br_47 ?_ ?_ | with_reducible refine br_48 ?_ ?_ | with_reducible refine br_49 ?_ ?_ | with_reducible refine br_50 ?_ ?_ | with_reducible refine br_51 ?_ ?_) <;> intro h <;> try simp (disch := first | assumption | exact Nat.le_of_ble_eq_true rfl | omega) only [ev_wr_id, not_true_eq_false, not_false_eq_true, Int.reduceEq, Int.reduceLT, Int.reduceLE, and_self, and_true, true_and, and_false, false_and, reduceIte] at h <;> try (exfalso; omega; done)))
    · rw [d1]
      exact st_E_t tw_n3 (st_E_u (st_E_t (tw_20 (by omega)) (st_E_u (st_E_t (tw_19 (by omega)) (st_E_u (st_E_t (tw_18 (by omega)) (st_E_u hE)))))))
  · refine q_gw (fun σ hT hA => ?_) hA; subst hT; obtain ⟨a1, a2, a3, a4, a5, a6⟩ := id hA
    obtain ⟨t0, t1, t2, t3, t4, t5, t6, t7, t8, r2, r3, r4, r5, r7, r11, r8, r9, r10, r12, r13, r14, r15, r16, r18, r19, r20, r21, r22⟩ := st_rd a1; obtain ⟨⟨i0, i1, i2, i3, i4, i5⟩, hr, hb, hc, hp, hl, hq⟩ := id a2; have hSn := ev_S_n; have hn0 : ev_n = 0 := rfl
    have e11 := r11 b
    have hbb := hb b
    have h7 : 0 ≤ b ∧ b < σ (ev_n + 6) 0 → 0 ≤ σ (ev_n + 11) b ∧ σ (ev_n + 11) b ≤ 6 := fun h => by
      rw [e11 h.1 (by omega)]
      exact (hbb h.1 (by omega)).2.1
    have e11q := e11 c1.1.1 (by omega)
    refine q_N hA (σ1 := σ) ?_ st_N_r
    rw [mm_90]
    repeat' (first | (simp (disch := first | assumption | exact Nat.le_of_ble_eq_true rfl | omega) only [bk_90_0, eo_1_0, g10_28_0, g7_28_1, eo_0_1, eo_0_2, v1_3, ev_ki, ev_kv, eo_6, eo_56i, bk_90_1, eo_0_3, eo_60_3, bk_90_2, g7_28_2, g4_27, bk_90_3, g10_28_2, v3_2, v4_4, c_7, c_104, t2, t3, e11q, Int.add_zero, Int.add_sub_cancel, Int.reduceAdd, Int.reduceMul, Int.reduceSub, Int.reduceNeg, ev_wr_id]) | ((first | with_reducible refine br_40 ?_ ?_ | with_reducible refine br_41 ?_ ?_ | with_reducible refine br_42 ?_ ?_ | with_reducible refine br_43 ?_ ?_ | with_reducible refine br_44 ?_ ?_ | with_reducible refine br_45 ?_ ?_ | with_reducible refine br_46 ?_ ?_ | with_reducible refine br_47 ?_ ?_ | with_reducible refine br_48 ?_ ?_ | with_reducible refine br_49 ?_ ?_ | with_reducible refine br_50 ?_ ?_ | with_reducible refine br_51 ?_ ?_) <;> intro h <;> try simp (disch := first | assumption | exact Nat.le_of_ble_eq_true rfl | omega) only [ev_wr_id, not_true_eq_false, not_false_eq_true, Int.reduceEq, Int.reduceLT, Int.reduceLE, and_self, and_true, true_and, and_false, false_and, reduceIte] at h <;> try (exfalso; omega; done)))
  · refine q_gw (fun σ hT hA => ?_) hA; subst hT; obtain ⟨a1, a2, a3, a4, a5, a6⟩ := id hA
    obtain ⟨t0, t1, t2, t3, t4, t5, t6, t7, t8, r2, r3, r4, r5, r7, r11, r8, r9, r10, r12, r13, r14, r15, r16, r18, r19, r20, r21, r22⟩ := st_rd a1; obtain ⟨⟨i0, i1, i2, i3, i4, i5⟩, hr, hb, hc, hp, hl, hq⟩ := id a2; have hSn := ev_S_n; have hn0 : ev_n = 0 := rfl
    have e11 := r11 b
    have hbb := hb b
    have h7 : 0 ≤ b ∧ b < σ (ev_n + 6) 0 → 0 ≤ σ (ev_n + 11) b ∧ σ (ev_n + 11) b ≤ 6 := fun h => by
      rw [e11 h.1 (by omega)]
      exact (hbb h.1 (by omega)).2.1
    have e11q := e11 c1.1.1 (by omega)
    refine q_N hA (σ1 := σ) ?_ st_N_r
    rw [mm_90]
    repeat' (first | (simp (disch := first | assumption | exact Nat.le_of_ble_eq_true rfl | omega) only [bk_90_0, eo_1_0, g10_28_0, g7_28_1, eo_0_1, eo_0_2, v1_3, ev_ki, ev_kv, eo_6, eo_56i, bk_90_1, eo_0_3, eo_60_3, bk_90_2, g7_28_2, g4_27, bk_90_3, g10_28_2, v3_2, v4_4, c_7, c_104, t2, t3, e11q, Int.add_zero, Int.add_sub_cancel, Int.reduceAdd, Int.reduceMul, Int.reduceSub, Int.reduceNeg, ev_wr_id]) | ((first | with_reducible refine br_40 ?_ ?_ | with_reducible refine br_41 ?_ ?_ | with_reducible refine br_42 ?_ ?_ | with_reducible refine br_43 ?_ ?_ | with_reducible refine br_44 ?_ ?_ | with_reducible refine br_45 ?_ ?_ | with_reducible refine br_46 ?_ ?_ | with_reducible refine br_47 ?_ ?_ | with_reducible refine br_48 ?_ ?_ | with_reducible refine br_49 ?_ ?_ | with_reducible refine br_50 ?_ ?_ | with_reducible refine br_51 ?_ ?_) <;> intro h <;> try simp (disch := first | assumption | exact Nat.le_of_ble_eq_true rfl | omega) only [ev_wr_id, not_true_eq_false, not_false_eq_true, Int.reduceEq, Int.reduceLT, Int.reduceLE, and_self, and_true, true_and, and_false, false_and, reduceIte] at h <;> try (exfalso; omega; done)))
  · refine q_gw (fun σ hT hA => ?_) hA; subst hT; obtain ⟨a1, a2, a3, a4, a5, a6⟩ := id hA
    obtain ⟨t0, t1, t2, t3, t4, t5, t6, t7, t8, r2, r3, r4, r5, r7, r11, r8, r9, r10, r12, r13, r14, r15, r16, r18, r19, r20, r21, r22⟩ := st_rd a1; obtain ⟨⟨i0, i1, i2, i3, i4, i5⟩, hr, hb, hc, hp, hl, hq⟩ := id a2; have hSn := ev_S_n; have hn0 : ev_n = 0 := rfl
    have e11 := r11 b
    have hbb := hb b
    have h7 : 0 ≤ b ∧ b < σ (ev_n + 6) 0 → 0 ≤ σ (ev_n + 11) b ∧ σ (ev_n + 11) b ≤ 6 := fun h => by
      rw [e11 h.1 (by omega)]
      exact (hbb h.1 (by omega)).2.1
    have hm7 : 0 ≤ b ∧ b < σ 183 2 → 0 ≤ σ 183 (89 + 5 * b + 1) ∧ σ 183 (89 + 5 * b + 1) ≤ 6 := fun h => (hbb h.1 h.2).2.1
    refine q_N hA (σ1 := σ) ?_ st_N_r
    rw [mm_90]
    repeat' (first | (simp (disch := first | assumption | exact Nat.le_of_ble_eq_true rfl | omega) only [bk_90_0, eo_1_0, g10_28_0, g7_28_1, eo_0_1, eo_0_2, v1_3, ev_ki, ev_kv, eo_6, eo_56i, bk_90_1, eo_0_3, eo_60_3, bk_90_2, g7_28_2, g4_27, bk_90_3, g10_28_2, v3_2, v4_4, c_7, c_104, t2, Int.add_zero, Int.add_sub_cancel, Int.reduceAdd, Int.reduceMul, Int.reduceSub, Int.reduceNeg, ev_wr_id]) | ((first | with_reducible refine br_40 ?_ ?_ | with_reducible refine br_41 ?_ ?_ | with_reducible refine br_42 ?_ ?_ | with_reducible refine br_43 ?_ ?_ | with_reducible refine br_44 ?_ ?_ | with_reducible refine br_45 ?_ ?_ | with_reducible refine br_46 ?_ ?_ | with_reducible refine br_47 ?_ ?_ | with_reducible refine br_48 ?_ ?_ | with_reducible refine br_49 ?_ ?_ | with_reducible refine br_50 ?_ ?_ | with_reducible refine br_51 ?_ ?_) <;> intro h <;> try simp (disch := first | assumption | exact Nat.le_of_ble_eq_true rfl | omega) only [ev_wr_id, not_true_eq_false, not_false_eq_true, Int.reduceEq, Int.reduceLT, Int.reduceLE, and_self, and_true, true_and, and_false, false_and, reduceIte] at h <;> try (exfalso; omega; done)))
def st_nrate (T : Int → Int) (b c v : Int) : Int → Int := ev_u1 (ev_u1 T (119 + 30 * b + 5 * c + 1) v) (119 + 30 * b + 5 * c + 2) 0
theorem st_nrate_I {T : Int → Int} {b c v : Int} (hI : st_I T) (hb1 : 0 ≤ b ∧ b < T 2) (hc1 : 0 ≤ c ∧ c < T (89 + 5 * b + 1)) (hv : 0 ≤ v ∧ v ≤ 9) : st_I (st_nrate T b c v) := by
  have i2 := hI.1.2.2.1
  have h11 := (hI.2.2.1 b hb1.1 hb1.2).2.1
  have hI2 := pi_part (o := 1) (v := v) (b := b) (n := c) hI hb1 hc1 (Or.inl ⟨rfl, hv⟩)
  exact pi_part (o := 2) (v := 0) (b := b) (n := c) hI2 (by rw [ev_u1_ne (by omega)]; exact hb1) (by rw [ev_u1_ne (by omega)]; exact hc1) (Or.inr (Or.inl ⟨rfl, by omega⟩))
theorem q_73 {σ : ev_M} {T : Int → Int} {hs : List (Int → Int)} {b c v : Int} (hA : ab_A σ T hs) (hb9 : -2147483648 ≤ b ∧ b ≤ 2147483647) (hc9 : -2147483648 ≤ c ∧ c ≤ 2147483647) (hv9 : -2147483648 ≤ v ∧ v ≤ 2147483647) : ((0 ≤ b ∧ b < T 2) ∧ 0 ≤ c ∧ c < T (89 + 5 * b + 1) → 0 ≤ v ∧ v ≤ 9 → ab_Q 73 [.inl b, .inl c, .inl v] σ (T (119 + 30 * b + 5 * c + 1)) (st_nrate T b c v) (ab_kp T hs)) ∧ ((0 ≤ b ∧ b < T 2) ∧ 0 ≤ c ∧ c < T (89 + 5 * b + 1) → ¬ (0 ≤ v ∧ v ≤ 9) → ab_Q 73 [.inl b, .inl c, .inl v] σ (-3) T hs) ∧ (¬ ((0 ≤ b ∧ b < T 2) ∧ 0 ≤ c ∧ c < T (89 + 5 * b + 1)) → ab_Q 73 [.inl b, .inl c, .inl v] σ (-2) T hs) := by
  refine ⟨fun c1 c2 => ?_, fun c1 c2 => ?_, fun c1 => ?_⟩
  · refine q_gw (fun σ hT hA => ?_) hA; subst hT; obtain ⟨a1, a2, a3, a4, a5, a6⟩ := id hA
    obtain ⟨t0, t1, t2, t3, t4, t5, t6, t7, t8, r2, r3, r4, r5, r7, r11, r8, r9, r10, r12, r13, r14, r15, r16, r18, r19, r20, r21, r22⟩ := st_rd a1; obtain ⟨⟨i0, i1, i2, i3, i4, i5⟩, hr, hb, hc, hp, hl, hq⟩ := id a2; have hSn := ev_S_n; have hn0 : ev_n = 0 := rfl
    have e11 := r11 b
    have hbb := hb b
    have h7 : 0 ≤ b ∧ b < σ (ev_n + 6) 0 → 0 ≤ σ (ev_n + 11) b ∧ σ (ev_n + 11) b ≤ 6 := fun h => by
      rw [e11 h.1 (by omega)]
      exact (hbb h.1 (by omega)).2.1
    have e11q := e11 c1.1.1 (by omega)
    have hb2 := (hbb c1.1.1 c1.1.2).2.1
    have e13 := r13 b c c1.1.1 (by omega) c1.2.1 (by omega)
    obtain ⟨σa, e26, hF, hfin⟩ := A_sv hA
    obtain ⟨σ1, d1⟩ : ∃ z, z = ev_up (ev_up σa (ev_n + 13) (b * 6 + c) v) (ev_n + 14) (b * 6 + c) 0 := ⟨_, rfl⟩
    have f1 : ∀ i, 22 < i → σ1 i = σa i := fun i hi => by rw [d1]; funext y; simp (disch := omega) only [ev_up_ne]
    have w : ∀ o, 0 ≤ o → o ≤ 22 → σa (ev_n + o) = σ (ev_n + o) := fun o h0 h1 => hF _ (by omega)
    have w0 : σa ev_n = σ ev_n := hF _ (by omega)
    have hE : st_E (st_T σa ev_n) (σ 183) := st_E_t (st_T_congr (fun o q0 q1 => hF _ (by omega))) a1
    have hfin := fun U => hfin σ1 U (fun i hi => f1 i (by omega))
    refine ⟨σ1, ?_, hfin _ ?_ (st_nrate_I a2 c1.1 c1.2 c2)⟩
    · rw [mm_73, d1]
      repeat' (first | (simp (disch := first | assumption | exact Nat.le_of_ble_eq_true rfl | omega) only [bk_73_0, eo_1_0, g10_28_0, g7_28_1, eo_0_1, eo_0_2, v1_3, ev_ki, ev_kv, eo_6, eo_56i, bk_73_1, eo_0_3, eo_60_3, bk_73_2, g10_28_2, v3_2, eo_60_2, eo_3_4n, eo_3_4i, eo_3_4r, g1_28_7, eo_0_4, eo_3_5n, eo_3_5i, eo_3_5r, eo_0_5, a32_s13, c_7, c_104, c_5, c_11, t2, e26, w, e11q, e13, Int.add_zero, Int.add_sub_cancel, Int.reduceAdd, Int.reduceMul, Int.reduceSub, Int.reduceNeg, ev_wr_id]) | ((first | with_reducible refine br_40 ?_ ?_ | with_reducible refine br_41 ?_ ?_ | with_reducible refine br_42 ?_ ?_ | with_reducible refine br_43 ?_ ?_ | with_reducible refine br_44 ?_ ?_ | with_reducible refine br_45 ?_ ?_ | with_reducible refine br_46 ?_ ?_ | with_reducible refine br_47 ?_ ?_ | with_reducible refine br_48 ?_ ?_ | with_reducible refine br_49 ?_ ?_ | with_reducible refine br_50 ?_ ?_ | with_reducible refine br_51 ?_ ?_) <;> intro h <;> try simp (disch := first | assumption | exact Nat.le_of_ble_eq_true rfl | omega) only [ev_wr_id, not_true_eq_false, not_false_eq_true, Int.reduceEq, Int.reduceLT, Int.reduceLE, and_self, and_true, true_and, and_false, false_and, reduceIte] at h <;> try (exfalso; omega; done)))
    · rw [d1]
      exact st_E_t (tw_14 (by omega) (by omega)) (st_E_u (st_E_t (tw_13 (by omega) (by omega)) (st_E_u hE)))
  · refine q_gw (fun σ hT hA => ?_) hA; subst hT; obtain ⟨a1, a2, a3, a4, a5, a6⟩ := id hA
    obtain ⟨t0, t1, t2, t3, t4, t5, t6, t7, t8, r2, r3, r4, r5, r7, r11, r8, r9, r10, r12, r13, r14, r15, r16, r18, r19, r20, r21, r22⟩ := st_rd a1; obtain ⟨⟨i0, i1, i2, i3, i4, i5⟩, hr, hb, hc, hp, hl, hq⟩ := id a2; have hSn := ev_S_n; have hn0 : ev_n = 0 := rfl
    have e11 := r11 b
    have hbb := hb b
    have h7 : 0 ≤ b ∧ b < σ (ev_n + 6) 0 → 0 ≤ σ (ev_n + 11) b ∧ σ (ev_n + 11) b ≤ 6 := fun h => by
      rw [e11 h.1 (by omega)]
      exact (hbb h.1 (by omega)).2.1
    have e11q := e11 c1.1.1 (by omega)
    refine q_N hA (σ1 := σ) ?_ st_N_r
    rw [mm_73]
    repeat' (first | (simp (disch := first | assumption | exact Nat.le_of_ble_eq_true rfl | omega) only [bk_73_0, eo_1_0, g10_28_0, g7_28_1, eo_0_1, eo_0_2, v1_3, ev_ki, ev_kv, eo_6, eo_56i, bk_73_1, eo_0_3, eo_60_3, bk_73_2, g10_28_2, v3_2, eo_60_2, eo_3_4n, eo_3_4i, eo_3_4r, g1_28_7, eo_0_4, eo_3_5n, eo_3_5i, eo_3_5r, eo_0_5, a32_s13, c_7, c_104, c_5, c_11, t2, e11q, Int.add_zero, Int.add_sub_cancel, Int.reduceAdd, Int.reduceMul, Int.reduceSub, Int.reduceNeg, ev_wr_id]) | ((first | with_reducible refine br_40 ?_ ?_ | with_reducible refine br_41 ?_ ?_ | with_reducible refine br_42 ?_ ?_ | with_reducible refine br_43 ?_ ?_ | with_reducible refine br_44 ?_ ?_ | with_reducible refine br_45 ?_ ?_ | with_reducible refine br_46 ?_ ?_ | with_reducible refine br_47 ?_ ?_ | with_reducible refine br_48 ?_ ?_ | with_reducible refine br_49 ?_ ?_ | with_reducible refine br_50 ?_ ?_ | with_reducible refine br_51 ?_ ?_) <;> intro h <;> try simp (disch := first | assumption | exact Nat.le_of_ble_eq_true rfl | omega) only [ev_wr_id, not_true_eq_false, not_false_eq_true, Int.reduceEq, Int.reduceLT, Int.reduceLE, and_self, and_true, true_and, and_false, false_and, reduceIte] at h <;> try (exfalso; omega; done)))
  · refine q_gw (fun σ hT hA => ?_) hA; subst hT; obtain ⟨a1, a2, a3, a4, a5, a6⟩ := id hA
    obtain ⟨t0, t1, t2, t3, t4, t5, t6, t7, t8, r2, r3, r4, r5, r7, r11, r8, r9, r10, r12, r13, r14, r15, r16, r18, r19, r20, r21, r22⟩ := st_rd a1; obtain ⟨⟨i0, i1, i2, i3, i4, i5⟩, hr, hb, hc, hp, hl, hq⟩ := id a2; have hSn := ev_S_n; have hn0 : ev_n = 0 := rfl
    have e11 := r11 b
    have hbb := hb b
    have h7 : 0 ≤ b ∧ b < σ (ev_n + 6) 0 → 0 ≤ σ (ev_n + 11) b ∧ σ (ev_n + 11) b ≤ 6 := fun h => by
      rw [e11 h.1 (by omega)]
      exact (hbb h.1 (by omega)).2.1
    have hm7 : 0 ≤ b ∧ b < σ 183 2 → 0 ≤ σ 183 (89 + 5 * b + 1) ∧ σ 183 (89 + 5 * b + 1) ≤ 6 := fun h => (hbb h.1 h.2).2.1
    refine q_N hA (σ1 := σ) ?_ st_N_r
    rw [mm_73]
    repeat' (first | (simp (disch := first | assumption | exact Nat.le_of_ble_eq_true rfl | omega) only [bk_73_0, eo_1_0, g10_28_0, g7_28_1, eo_0_1, eo_0_2, v1_3, ev_ki, ev_kv, eo_6, eo_56i, bk_73_1, eo_0_3, eo_60_3, bk_73_2, g10_28_2, v3_2, eo_60_2, eo_3_4n, eo_3_4i, eo_3_4r, g1_28_7, eo_0_4, eo_3_5n, eo_3_5i, eo_3_5r, eo_0_5, a32_s13, c_7, c_104, c_5, c_11, t2, Int.add_zero, Int.add_sub_cancel, Int.reduceAdd, Int.reduceMul, Int.reduceSub, Int.reduceNeg, ev_wr_id]) | ((first | with_reducible refine br_40 ?_ ?_ | with_reducible refine br_41 ?_ ?_ | with_reducible refine br_42 ?_ ?_ | with_reducible refine br_43 ?_ ?_ | with_reducible refine br_44 ?_ ?_ | with_reducible refine br_45 ?_ ?_ | with_reducible refine br_46 ?_ ?_ | with_reducible refine br_47 ?_ ?_ | with_reducible refine br_48 ?_ ?_ | with_reducible refine br_49 ?_ ?_ | with_reducible refine br_50 ?_ ?_ | with_reducible refine br_51 ?_ ?_) <;> intro h <;> try simp (disch := first | assumption | exact Nat.le_of_ble_eq_true rfl | omega) only [ev_wr_id, not_true_eq_false, not_false_eq_true, Int.reduceEq, Int.reduceLT, Int.reduceLE, and_self, and_true, true_and, and_false, false_and, reduceIte] at h <;> try (exfalso; omega; done)))
theorem q_74 {σ : ev_M} {T : Int → Int} {hs : List (Int → Int)} {b v : Int} (hA : ab_A σ T hs) (hb9 : -2147483648 ≤ b ∧ b ≤ 2147483647) (hv9 : v = 0 ∨ v = 1) : (0 ≤ b ∧ b < T 2 → ab_Q 74 [.inl b, .inl v] σ (T (89 + 5 * b + 4)) (ev_u1 T (89 + 5 * b + 4) v) (ab_kp T hs)) ∧ (¬ (0 ≤ b ∧ b < T 2) → ab_Q 74 [.inl b, .inl v] σ (-2) T hs) := by
  refine ⟨fun c1 => ?_, fun c1 => ?_⟩
  · refine q_gw (fun σ hT hA => ?_) hA; subst hT; obtain ⟨a1, a2, a3, a4, a5, a6⟩ := id hA
    obtain ⟨t0, t1, t2, t3, t4, t5, t6, t7, t8, r2, r3, r4, r5, r7, r11, r8, r9, r10, r12, r13, r14, r15, r16, r18, r19, r20, r21, r22⟩ := st_rd a1; obtain ⟨⟨i0, i1, i2, i3, i4, i5⟩, hr, hb, hc, hp, hl, hq⟩ := id a2; have hSn := ev_S_n; have hn0 : ev_n = 0 := rfl
    have e10 := r10 b c1.1 (by omega)
    have hcb := hc b c1.1 (by omega)
    obtain ⟨σa, e26, hF, hfin⟩ := A_sv hA
    obtain ⟨σ1, d1⟩ : ∃ z, z = ev_up σa (ev_n + 10) b v := ⟨_, rfl⟩
    have f1 : ∀ i, 22 < i → σ1 i = σa i := fun i hi => by rw [d1]; funext y; simp (disch := omega) only [ev_up_ne]
    have w : ∀ o, 0 ≤ o → o ≤ 22 → σa (ev_n + o) = σ (ev_n + o) := fun o h0 h1 => hF _ (by omega)
    have w0 : σa ev_n = σ ev_n := hF _ (by omega)
    have hE : st_E (st_T σa ev_n) (σ 183) := st_E_t (st_T_congr (fun o q0 q1 => hF _ (by omega))) a1
    have hfin := fun U => hfin σ1 U (fun i hi => f1 i (by omega))
    refine ⟨σ1, ?_, hfin _ ?_ (pi_close a2 (by omega) (by omega))⟩
    · rw [mm_74, d1]
      rcases (show σ 183 (89 + 5 * b + 4) = 0 ∨ σ 183 (89 + 5 * b + 4) = 1 by omega) with ho | ho
      · repeat' (first | (simp (disch := first | assumption | exact Nat.le_of_ble_eq_true rfl | omega) only [bk_74_0, eo_1_0, g10_28_0, g7_28_1, eo_0_1, v1_2, ev_ki, ev_kv, eo_6, eo_56i, bk_74_1, g10_28_2, v3_2, g1_28_4, eo_3_3n, eo_3_3i, eo_3_3r, eo_0_2, eo_0_3, eo_52, bk_74_2, eo_53, bk_74_3, a34_s10, a35_s10, c_6, t2, e26, w, e10, ho, Int.add_zero, Int.add_sub_cancel, Int.reduceAdd, Int.reduceMul, Int.reduceSub, Int.reduceNeg, ev_wr_id]) | ((first | with_reducible refine br_40 ?_ ?_ | with_reducible refine br_41 ?_ ?_ | with_reducible refine br_42 ?_ ?_ | with_reducible refine br_43 ?_ ?_ | with_reducible refine br_44 ?_ ?_ | with_reducible refine br_45 ?_ ?_ | with_reducible refine br_46 ?_ ?_ | with_reducible refine br_47 ?_ ?_ | with_reducible refine br_48 ?_ ?_ | with_reducible refine br_49 ?_ ?_ | with_reducible refine br_50 ?_ ?_ | with_reducible refine br_51 ?_ ?_) <;> intro h <;> try simp (disch := first | assumption | exact Nat.le_of_ble_eq_true rfl | omega) only [ev_wr_id, not_true_eq_false, not_false_eq_true, Int.reduceEq, Int.reduceLT, Int.reduceLE, and_self, and_true, true_and, and_false, false_and, reduceIte] at h <;> try (exfalso; omega; done)))
      · repeat' (first | (simp (disch := first | assumption | exact Nat.le_of_ble_eq_true rfl | omega) only [bk_74_0, eo_1_0, g10_28_0, g7_28_1, eo_0_1, v1_2, ev_ki, ev_kv, eo_6, eo_56i, bk_74_1, g10_28_2, v3_2, g1_28_4, eo_3_3n, eo_3_3i, eo_3_3r, eo_0_2, eo_0_3, eo_52, bk_74_2, eo_53, bk_74_3, a34_s10, a35_s10, c_6, t2, e26, w, e10, ho, Int.add_zero, Int.add_sub_cancel, Int.reduceAdd, Int.reduceMul, Int.reduceSub, Int.reduceNeg, ev_wr_id]) | ((first | with_reducible refine br_40 ?_ ?_ | with_reducible refine br_41 ?_ ?_ | with_reducible refine br_42 ?_ ?_ | with_reducible refine br_43 ?_ ?_ | with_reducible refine br_44 ?_ ?_ | with_reducible refine br_45 ?_ ?_ | with_reducible refine br_46 ?_ ?_ | with_reducible refine br_47 ?_ ?_ | with_reducible refine br_48 ?_ ?_ | with_reducible refine br_49 ?_ ?_ | with_reducible refine br_50 ?_ ?_ | with_reducible refine br_51 ?_ ?_) <;> intro h <;> try simp (disch := first | assumption | exact Nat.le_of_ble_eq_true rfl | omega) only [ev_wr_id, not_true_eq_false, not_false_eq_true, Int.reduceEq, Int.reduceLT, Int.reduceLE, and_self, and_true, true_and, and_false, false_and, reduceIte] at h <;> try (exfalso; omega; done)))
    · rw [d1]
      exact st_E_t (tw_10 (by omega)) (st_E_u hE)
  · refine q_gw (fun σ hT hA => ?_) hA; subst hT; obtain ⟨a1, a2, a3, a4, a5, a6⟩ := id hA
    obtain ⟨t0, t1, t2, t3, t4, t5, t6, t7, t8, r2, r3, r4, r5, r7, r11, r8, r9, r10, r12, r13, r14, r15, r16, r18, r19, r20, r21, r22⟩ := st_rd a1; obtain ⟨⟨i0, i1, i2, i3, i4, i5⟩, hr, hb, hc, hp, hl, hq⟩ := id a2; have hSn := ev_S_n; have hn0 : ev_n = 0 := rfl
    refine q_N hA (σ1 := σ) ?_ st_N_r
    rw [mm_74]
    repeat' (first | (simp (disch := first | assumption | exact Nat.le_of_ble_eq_true rfl | omega) only [bk_74_0, eo_1_0, g10_28_0, g7_28_1, eo_0_1, v1_2, ev_ki, ev_kv, eo_6, eo_56i, bk_74_1, g10_28_2, v3_2, g1_28_4, eo_3_3n, eo_3_3i, eo_3_3r, eo_0_2, eo_0_3, eo_52, bk_74_2, eo_53, bk_74_3, a34_s10, a35_s10, c_6, t2, Int.add_zero, Int.add_sub_cancel, Int.reduceAdd, Int.reduceMul, Int.reduceSub, Int.reduceNeg, ev_wr_id]) | ((first | with_reducible refine br_40 ?_ ?_ | with_reducible refine br_41 ?_ ?_ | with_reducible refine br_42 ?_ ?_ | with_reducible refine br_43 ?_ ?_ | with_reducible refine br_44 ?_ ?_ | with_reducible refine br_45 ?_ ?_ | with_reducible refine br_46 ?_ ?_ | with_reducible refine br_47 ?_ ?_ | with_reducible refine br_48 ?_ ?_ | with_reducible refine br_49 ?_ ?_ | with_reducible refine br_50 ?_ ?_ | with_reducible refine br_51 ?_ ?_) <;> intro h <;> try simp (disch := first | assumption | exact Nat.le_of_ble_eq_true rfl | omega) only [ev_wr_id, not_true_eq_false, not_false_eq_true, Int.reduceEq, Int.reduceLT, Int.reduceLE, and_self, and_true, true_and, and_false, false_and, reduceIte] at h <;> try (exfalso; omega; done)))
def st_rm (o : Int) : Int := if o = -1 then 64 else ev_shl 1 o
def st_nrest (T : Int → Int) (b c o : Int) : Int → Int := ev_u1 T (119 + 30 * b + 5 * c + 4) (ev_xor (T (119 + 30 * b + 5 * c + 4)) (st_rm o))
theorem q_72 {σ : ev_M} {T : Int → Int} {hs : List (Int → Int)} {b c o : Int} (hA : ab_A σ T hs) (hb9 : -2147483648 ≤ b ∧ b ≤ 2147483647) (hc9 : -2147483648 ≤ c ∧ c ≤ 2147483647) (ho9 : -2147483648 ≤ o ∧ o ≤ 2147483647) : (((0 ≤ b ∧ b < T 2) ∧ 0 ≤ c ∧ c < T (89 + 5 * b + 1)) ∧ (o = -1 ∨ 0 ≤ o ∧ o < T (89 + 5 * b + 1)) → o = -1 ∨ c < o → ab_Q 72 [.inl b, .inl c, .inl o] σ (if ev_and (ev_xor (T (119 + 30 * b + 5 * c + 4)) (st_rm o)) (st_rm o) = 0 then 0 else 1) (st_nrest T b c o) (ab_kp T hs)) ∧ (((0 ≤ b ∧ b < T 2) ∧ 0 ≤ c ∧ c < T (89 + 5 * b + 1)) ∧ (o = -1 ∨ 0 ≤ o ∧ o < T (89 + 5 * b + 1)) → ¬ (o = -1 ∨ c < o) → ab_Q 72 [.inl b, .inl c, .inl o] σ (-3) T hs) ∧ (¬ (((0 ≤ b ∧ b < T 2) ∧ 0 ≤ c ∧ c < T (89 + 5 * b + 1)) ∧ (o = -1 ∨ 0 ≤ o ∧ o < T (89 + 5 * b + 1))) → ab_Q 72 [.inl b, .inl c, .inl o] σ (-2) T hs) := by
  refine ⟨fun c1 c2 => ?_, fun c1 c2 => ?_, fun c1 => ?_⟩
  · refine q_gw (fun σ hT hA => ?_) hA; subst hT; obtain ⟨a1, a2, a3, a4, a5, a6⟩ := id hA
    obtain ⟨t0, t1, t2, t3, t4, t5, t6, t7, t8, r2, r3, r4, r5, r7, r11, r8, r9, r10, r12, r13, r14, r15, r16, r18, r19, r20, r21, r22⟩ := st_rd a1; obtain ⟨⟨i0, i1, i2, i3, i4, i5⟩, hr, hb, hc, hp, hl, hq⟩ := id a2; have hSn := ev_S_n; have hn0 : ev_n = 0 := rfl
    have e11 := r11 b
    have hbb := hb b
    have h7 : 0 ≤ b ∧ b < σ (ev_n + 6) 0 → 0 ≤ σ (ev_n + 11) b ∧ σ (ev_n + 11) b ≤ 6 := fun h => by
      rw [e11 h.1 (by omega)]
      exact (hbb h.1 (by omega)).2.1
    have e11q := e11 c1.1.1.1 (by omega)
    have hb2 := (hbb c1.1.1.1 c1.1.1.2).2.1
    have hpc := (hp b c c1.1.1.1 c1.1.1.2 c1.1.2.1 c1.1.2.2).2.2.2.2
    have e16 := r16 b c c1.1.1.1 (by omega) c1.1.2.1 (by omega)
    obtain ⟨m, hmd, hm, hmo⟩ : ∃ m, m = st_rm o ∧ (m = 64 ∨ ∃ o, 0 ≤ o ∧ o < 6 ∧ m = ev_shl 1 o) ∧ ((o = -1 ∧ m = 64) ∨ (o ≠ -1 ∧ m = ev_shl 1 o)) := by
      by_cases h : o = -1
      · exact ⟨64, by unfold st_rm; rw [if_pos h], Or.inl rfl, Or.inl ⟨h, rfl⟩⟩
      · exact ⟨ev_shl 1 o, by unfold st_rm; rw [if_neg h], Or.inr ⟨o, by omega, by omega, rfl⟩, Or.inr ⟨h, rfl⟩⟩
    unfold st_nrest
    rw [← hmd]
    clear hmd
    have hx := ev_xo hpc hm
    clear hm
    obtain ⟨x, hxx⟩ : ∃ x, x = ev_xor (σ 183 (119 + 30 * b + 5 * c + 4)) m := ⟨_, rfl⟩
    rw [← hxx] at hx ⊢
    obtain ⟨σa, e26, hF, hfin⟩ := A_sv hA
    obtain ⟨σ1, d1⟩ : ∃ z, z = ev_up σa (ev_n + 16) (b * 6 + c) x := ⟨_, rfl⟩
    have f1 : ∀ i, 22 < i → σ1 i = σa i := fun i hi => by rw [d1]; funext y; simp (disch := omega) only [ev_up_ne]
    have w : ∀ o, 0 ≤ o → o ≤ 22 → σa (ev_n + o) = σ (ev_n + o) := fun o h0 h1 => hF _ (by omega)
    have w0 : σa ev_n = σ ev_n := hF _ (by omega)
    have hE : st_E (st_T σa ev_n) (σ 183) := st_E_t (st_T_congr (fun o q0 q1 => hF _ (by omega))) a1
    have hfin := fun U => hfin σ1 U (fun i hi => f1 i (by omega))
    have q16 : ev_xor (σa (ev_n + 16) (b * 6 + c)) m = x := by rw [w 16 (by omega) (by omega), e16, hxx]
    have e10 := c_10 (σ := σa) (s := ev_n) (b := b) (c := c) (m := m) (v := x) hSn q16 (by omega) (by omega) (by omega)
    have hxr := hxx.symm
    refine ⟨σ1, ?_, hfin _ ?_ (pi_part (o := 4) (v := x) (b := b) (n := c) a2 c1.1.1 c1.1.2 (Or.inr (Or.inr ⟨rfl, hx.1⟩)))⟩
    · rw [mm_72, d1]
      rcases hmo with ⟨rfl, rfl⟩ | ⟨h, rfl⟩
      · repeat' (first | (simp (disch := first | assumption | exact Nat.le_of_ble_eq_true rfl | omega) only [bk_72_0, eo_1_0, g10_28_0, g7_28_1, eo_0_1, eo_0_2, v1_3, ev_ki, ev_kv, eo_6, eo_56i, bk_72_1, eo_0_3, bk_72_2, bk_72_3, g10_28_2, v3_2, eo_52, bk_72_4, eo_18, eo_53, bk_72_5, eo_3_4n, eo_3_4i, eo_3_4r, eo_0_4, v1_4, bk_72_6, bk_72_7, c_7, t2, e26, w, e11q, e10, Int.add_zero, Int.add_sub_cancel, Int.reduceAdd, Int.reduceMul, Int.reduceSub, Int.reduceNeg, ev_wr_id]) | ((first | with_reducible refine br_40 ?_ ?_ | with_reducible refine br_41 ?_ ?_ | with_reducible refine br_42 ?_ ?_ | with_reducible refine br_43 ?_ ?_ | with_reducible refine br_44 ?_ ?_ | with_reducible refine br_45 ?_ ?_ | with_reducible refine br_46 ?_ ?_ | with_reducible refine br_47 ?_ ?_ | with_reducible refine br_48 ?_ ?_ | with_reducible refine br_49 ?_ ?_ | with_reducible refine br_50 ?_ ?_ | with_reducible refine br_51 ?_ ?_) <;> intro h <;> try simp (disch := first | assumption | exact Nat.le_of_ble_eq_true rfl | omega) only [ev_wr_id, not_true_eq_false, not_false_eq_true, Int.reduceEq, Int.reduceLT, Int.reduceLE, and_self, and_true, true_and, and_false, false_and, reduceIte] at h <;> try (exfalso; omega; done)))
        all_goals (repeat' split) <;> first | rfl | omega | (exfalso; omega)
      · repeat' (first | (simp (disch := first | assumption | exact Nat.le_of_ble_eq_true rfl | omega) only [bk_72_0, eo_1_0, g10_28_0, g7_28_1, eo_0_1, eo_0_2, v1_3, ev_ki, ev_kv, eo_6, eo_56i, bk_72_1, eo_0_3, bk_72_2, bk_72_3, g10_28_2, v3_2, eo_52, bk_72_4, eo_18, eo_53, bk_72_5, eo_3_4n, eo_3_4i, eo_3_4r, eo_0_4, v1_4, bk_72_6, bk_72_7, c_7, t2, e26, w, e11q, e10, Int.add_zero, Int.add_sub_cancel, Int.reduceAdd, Int.reduceMul, Int.reduceSub, Int.reduceNeg, ev_wr_id]) | ((first | with_reducible refine br_40 ?_ ?_ | with_reducible refine br_41 ?_ ?_ | with_reducible refine br_42 ?_ ?_ | with_reducible refine br_43 ?_ ?_ | with_reducible refine br_44 ?_ ?_ | with_reducible refine br_45 ?_ ?_ | with_reducible refine br_46 ?_ ?_ | with_reducible refine br_47 ?_ ?_ | with_reducible refine br_48 ?_ ?_ | with_reducible refine br_49 ?_ ?_ | with_reducible refine br_50 ?_ ?_ | with_reducible refine br_51 ?_ ?_) <;> intro h <;> try simp (disch := first | assumption | exact Nat.le_of_ble_eq_true rfl | omega) only [ev_wr_id, not_true_eq_false, not_false_eq_true, Int.reduceEq, Int.reduceLT, Int.reduceLE, and_self, and_true, true_and, and_false, false_and, reduceIte] at h <;> try (exfalso; omega; done)))
        all_goals (repeat' split) <;> first | rfl | omega | (exfalso; omega)
    · rw [d1]
      exact st_E_t (tw_16 (by omega) (by omega)) (st_E_u hE)
  · refine q_gw (fun σ hT hA => ?_) hA; subst hT; obtain ⟨a1, a2, a3, a4, a5, a6⟩ := id hA
    obtain ⟨t0, t1, t2, t3, t4, t5, t6, t7, t8, r2, r3, r4, r5, r7, r11, r8, r9, r10, r12, r13, r14, r15, r16, r18, r19, r20, r21, r22⟩ := st_rd a1; obtain ⟨⟨i0, i1, i2, i3, i4, i5⟩, hr, hb, hc, hp, hl, hq⟩ := id a2; have hSn := ev_S_n; have hn0 : ev_n = 0 := rfl
    have e11 := r11 b
    have hbb := hb b
    have h7 : 0 ≤ b ∧ b < σ (ev_n + 6) 0 → 0 ≤ σ (ev_n + 11) b ∧ σ (ev_n + 11) b ≤ 6 := fun h => by
      rw [e11 h.1 (by omega)]
      exact (hbb h.1 (by omega)).2.1
    have hm7 : 0 ≤ b ∧ b < σ 183 2 → 0 ≤ σ 183 (89 + 5 * b + 1) ∧ σ 183 (89 + 5 * b + 1) ≤ 6 := fun h => (hbb h.1 h.2).2.1
    have e11q := e11 c1.1.1.1 (by omega)
    have hb2 := hm7 c1.1.1
    refine q_N hA (σ1 := σ) ?_ st_N_r
    rw [mm_72]
    repeat' (first | (simp (disch := first | assumption | exact Nat.le_of_ble_eq_true rfl | omega) only [bk_72_0, eo_1_0, g10_28_0, g7_28_1, eo_0_1, eo_0_2, v1_3, ev_ki, ev_kv, eo_6, eo_56i, bk_72_1, eo_0_3, bk_72_2, bk_72_3, g10_28_2, v3_2, eo_52, bk_72_4, eo_18, eo_53, bk_72_5, eo_3_4n, eo_3_4i, eo_3_4r, eo_0_4, v1_4, bk_72_6, bk_72_7, c_7, t2, e11q, Int.add_zero, Int.add_sub_cancel, Int.reduceAdd, Int.reduceMul, Int.reduceSub, Int.reduceNeg, ev_wr_id]) | ((first | with_reducible refine br_40 ?_ ?_ | with_reducible refine br_41 ?_ ?_ | with_reducible refine br_42 ?_ ?_ | with_reducible refine br_43 ?_ ?_ | with_reducible refine br_44 ?_ ?_ | with_reducible refine br_45 ?_ ?_ | with_reducible refine br_46 ?_ ?_ | with_reducible refine br_47 ?_ ?_ | with_reducible refine br_48 ?_ ?_ | with_reducible refine br_49 ?_ ?_ | with_reducible refine br_50 ?_ ?_ | with_reducible refine br_51 ?_ ?_) <;> intro h <;> try simp (disch := first | assumption | exact Nat.le_of_ble_eq_true rfl | omega) only [ev_wr_id, not_true_eq_false, not_false_eq_true, Int.reduceEq, Int.reduceLT, Int.reduceLE, and_self, and_true, true_and, and_false, false_and, reduceIte] at h <;> try (exfalso; omega; done)))
  · refine q_gw (fun σ hT hA => ?_) hA; subst hT; obtain ⟨a1, a2, a3, a4, a5, a6⟩ := id hA
    obtain ⟨t0, t1, t2, t3, t4, t5, t6, t7, t8, r2, r3, r4, r5, r7, r11, r8, r9, r10, r12, r13, r14, r15, r16, r18, r19, r20, r21, r22⟩ := st_rd a1; obtain ⟨⟨i0, i1, i2, i3, i4, i5⟩, hr, hb, hc, hp, hl, hq⟩ := id a2; have hSn := ev_S_n; have hn0 : ev_n = 0 := rfl
    have e11 := r11 b
    have hbb := hb b
    have h7 : 0 ≤ b ∧ b < σ (ev_n + 6) 0 → 0 ≤ σ (ev_n + 11) b ∧ σ (ev_n + 11) b ≤ 6 := fun h => by
      rw [e11 h.1 (by omega)]
      exact (hbb h.1 (by omega)).2.1
    have hm7 : 0 ≤ b ∧ b < σ 183 2 → 0 ≤ σ 183 (89 + 5 * b + 1) ∧ σ 183 (89 + 5 * b + 1) ≤ 6 := fun h => (hbb h.1 h.2).2.1
    refine q_N hA (σ1 := σ) ?_ st_N_r
    rw [mm_72]
    repeat' (first | (simp (disch := first | assumption | exact Nat.le_of_ble_eq_true rfl | omega) only [bk_72_0, eo_1_0, g10_28_0, g7_28_1, eo_0_1, eo_0_2, v1_3, ev_ki, ev_kv, eo_6, eo_56i, bk_72_1, eo_0_3, bk_72_2, bk_72_3, g10_28_2, v3_2, eo_52, bk_72_4, eo_18, eo_53, bk_72_5, eo_3_4n, eo_3_4i, eo_3_4r, eo_0_4, v1_4, bk_72_6, bk_72_7, c_7, t2, Int.add_zero, Int.add_sub_cancel, Int.reduceAdd, Int.reduceMul, Int.reduceSub, Int.reduceNeg, ev_wr_id]) | ((first | with_reducible refine br_40 ?_ ?_ | with_reducible refine br_41 ?_ ?_ | with_reducible refine br_42 ?_ ?_ | with_reducible refine br_43 ?_ ?_ | with_reducible refine br_44 ?_ ?_ | with_reducible refine br_45 ?_ ?_ | with_reducible refine br_46 ?_ ?_ | with_reducible refine br_47 ?_ ?_ | with_reducible refine br_48 ?_ ?_ | with_reducible refine br_49 ?_ ?_ | with_reducible refine br_50 ?_ ?_ | with_reducible refine br_51 ?_ ?_) <;> intro h <;> try simp (disch := first | assumption | exact Nat.le_of_ble_eq_true rfl | omega) only [ev_wr_id, not_true_eq_false, not_false_eq_true, Int.reduceEq, Int.reduceLT, Int.reduceLE, and_self, and_true, true_and, and_false, false_and, reduceIte] at h <;> try (exfalso; omega; done)))
/-- the row when y years have passed -/
def st_nyear (T : Int → Int) (y : Int) (U : Int → Int) : Prop := st_G (ev_u1 T 5 (T 5 + y)) U (fun _ _ => y)
theorem q_80 {σ : ev_M} {T : Int → Int} {hs : List (Int → Int)} {y : Int} (hA : ab_A σ T hs) (hy9 : -2147483648 ≤ y ∧ y ≤ 2147483647) : (1 ≤ y ∧ y ≤ 50 → T 5 + y ≤ 1000 → ∃ U, st_nyear T y U ∧ ab_Q 80 [.inl y] σ (T 5 + y) U (ab_kp T hs)) ∧ (1 ≤ y ∧ y ≤ 50 → ¬ T 5 + y ≤ 1000 → ab_Q 80 [.inl y] σ (-5) T hs) ∧ (¬ (1 ≤ y ∧ y ≤ 50) → ab_Q 80 [.inl y] σ (-3) T hs) := by
  refine ⟨fun c1 c2 => ?_, fun c1 c2 => ?_, fun c1 => ?_⟩
  · obtain ⟨a1, a2, a3, a4, a5, a6⟩ := id hA
    have i5 := a2.1.2.2.2.2.2
    have t5 : σ ev_n 3 = T 5 := (tr_n5 (σ := σ) (s := ev_n)).trans (a1 5 (by omega) (by omega))
    have hn0 : ev_n = 0 := rfl
    have hSn := ev_S_n
    obtain ⟨σa, e26, hF, hfin⟩ := A_sv hA
    have w0 : σa ev_n = σ ev_n := hF _ (by omega)
    obtain ⟨σm, dm⟩ : ∃ z, z = ev_up σa ev_n 3 (T 5 + y) := ⟨_, rfl⟩
    have hIy := pi_year a2 (v := T 5 + y) (by omega) c2
    have hEm : st_E (st_T σm ev_n) (ev_u1 T 5 (T 5 + y)) := by
      rw [dm]
      exact st_E_t tw_n5 (st_E_u (st_E_t (st_T_congr (fun o q0 q1 => hF _ (by omega))) a1))
    obtain ⟨σ1, e13, hF1, hG1⟩ := c_13 (σ := σm) (y := y) hIy (by omega) hEm
    have f1 : ∀ i, 22 < i → σ1 i = σa i := fun i hi => by
      rw [hF1 i (by omega) (by omega), dm]
      funext z
      exact ev_up_ne (by omega)
    have qy : σ1 ev_n 3 = T 5 + y := by
      rw [hF1 _ (by omega) (by omega), dm]
      exact ev_up_eq ⟨rfl, rfl⟩
    refine ⟨st_T σ1 ev_n, hG1, σ1, ?_, hfin σ1 _ (fun i hi => f1 i (by omega)) st_E_r (st_G_I hIy hG1 (fun _ _ => by omega))⟩
    rw [mm_80]
    rw [dm] at e13
    repeat' (first | (simp (disch := first | assumption | exact Nat.le_of_ble_eq_true rfl | omega) only [bk_80_0, eo_0_1, eo_6, eo_60_3, ev_ki, ev_kv, eo_56i, bk_80_1, eo_1_0, g10_28_0, g7_27, eo_10, bk_80_2, g10_28_2, v3_2, eo_24i, eo_24r, g7_30, g7_28_1, v1_2, c_104, t5, e26, w0, e13, qy, Int.add_zero, Int.add_sub_cancel, Int.reduceAdd, Int.reduceMul, Int.reduceSub, Int.reduceNeg, ev_wr_id]) | ((first | with_reducible refine br_40 ?_ ?_ | with_reducible refine br_41 ?_ ?_ | with_reducible refine br_42 ?_ ?_ | with_reducible refine br_43 ?_ ?_ | with_reducible refine br_44 ?_ ?_ | with_reducible refine br_45 ?_ ?_ | with_reducible refine br_46 ?_ ?_ | with_reducible refine br_47 ?_ ?_ | with_reducible refine br_48 ?_ ?_ | with_reducible refine br_49 ?_ ?_ | with_reducible refine br_50 ?_ ?_ | with_reducible refine br_51 ?_ ?_) <;> intro h <;> try simp (disch := first | assumption | exact Nat.le_of_ble_eq_true rfl | omega) only [ev_wr_id, not_true_eq_false, not_false_eq_true, Int.reduceEq, Int.reduceLT, Int.reduceLE, and_self, and_true, true_and, and_false, false_and, reduceIte] at h <;> try (exfalso; omega; done)))
  · refine q_gw (fun σ hT hA => ?_) hA; subst hT; obtain ⟨a1, a2, a3, a4, a5, a6⟩ := id hA
    obtain ⟨t0, t1, t2, t3, t4, t5, t6, t7, t8, r2, r3, r4, r5, r7, r11, r8, r9, r10, r12, r13, r14, r15, r16, r18, r19, r20, r21, r22⟩ := st_rd a1; obtain ⟨⟨i0, i1, i2, i3, i4, i5⟩, hr, hb, hc, hp, hl, hq⟩ := id a2; have hSn := ev_S_n; have hn0 : ev_n = 0 := rfl
    refine q_N hA (σ1 := σ) ?_ st_N_r
    rw [mm_80]
    repeat' (first | (simp (disch := first | assumption | exact Nat.le_of_ble_eq_true rfl | omega) only [bk_80_0, eo_0_1, eo_6, eo_60_3, ev_ki, ev_kv, eo_56i, bk_80_1, eo_1_0, g10_28_0, g7_27, eo_10, bk_80_2, g10_28_2, v3_2, eo_24i, eo_24r, g7_30, g7_28_1, v1_2, c_104, t5, Int.add_zero, Int.add_sub_cancel, Int.reduceAdd, Int.reduceMul, Int.reduceSub, Int.reduceNeg, ev_wr_id]) | ((first | with_reducible refine br_40 ?_ ?_ | with_reducible refine br_41 ?_ ?_ | with_reducible refine br_42 ?_ ?_ | with_reducible refine br_43 ?_ ?_ | with_reducible refine br_44 ?_ ?_ | with_reducible refine br_45 ?_ ?_ | with_reducible refine br_46 ?_ ?_ | with_reducible refine br_47 ?_ ?_ | with_reducible refine br_48 ?_ ?_ | with_reducible refine br_49 ?_ ?_ | with_reducible refine br_50 ?_ ?_ | with_reducible refine br_51 ?_ ?_) <;> intro h <;> try simp (disch := first | assumption | exact Nat.le_of_ble_eq_true rfl | omega) only [ev_wr_id, not_true_eq_false, not_false_eq_true, Int.reduceEq, Int.reduceLT, Int.reduceLE, and_self, and_true, true_and, and_false, false_and, reduceIte] at h <;> try (exfalso; omega; done)))
  · refine q_gw (fun σ hT hA => ?_) hA; subst hT; obtain ⟨a1, a2, a3, a4, a5, a6⟩ := id hA
    obtain ⟨t0, t1, t2, t3, t4, t5, t6, t7, t8, r2, r3, r4, r5, r7, r11, r8, r9, r10, r12, r13, r14, r15, r16, r18, r19, r20, r21, r22⟩ := st_rd a1; obtain ⟨⟨i0, i1, i2, i3, i4, i5⟩, hr, hb, hc, hp, hl, hq⟩ := id a2; have hSn := ev_S_n; have hn0 : ev_n = 0 := rfl
    refine q_N hA (σ1 := σ) ?_ st_N_r
    rw [mm_80]
    repeat' (first | (simp (disch := first | assumption | exact Nat.le_of_ble_eq_true rfl | omega) only [bk_80_0, eo_0_1, eo_6, eo_60_3, ev_ki, ev_kv, eo_56i, bk_80_1, eo_1_0, g10_28_0, g7_27, eo_10, bk_80_2, g10_28_2, v3_2, eo_24i, eo_24r, g7_30, g7_28_1, v1_2, c_104, t5, Int.add_zero, Int.add_sub_cancel, Int.reduceAdd, Int.reduceMul, Int.reduceSub, Int.reduceNeg, ev_wr_id]) | ((first | with_reducible refine br_40 ?_ ?_ | with_reducible refine br_41 ?_ ?_ | with_reducible refine br_42 ?_ ?_ | with_reducible refine br_43 ?_ ?_ | with_reducible refine br_44 ?_ ?_ | with_reducible refine br_45 ?_ ?_ | with_reducible refine br_46 ?_ ?_ | with_reducible refine br_47 ?_ ?_ | with_reducible refine br_48 ?_ ?_ | with_reducible refine br_49 ?_ ?_ | with_reducible refine br_50 ?_ ?_ | with_reducible refine br_51 ?_ ?_) <;> intro h <;> try simp (disch := first | assumption | exact Nat.le_of_ble_eq_true rfl | omega) only [ev_wr_id, not_true_eq_false, not_false_eq_true, Int.reduceEq, Int.reduceLT, Int.reduceLE, and_self, and_true, true_and, and_false, false_and, reduceIte] at h <;> try (exfalso; omega; done)))
theorem q_81 {σ : ev_M} {T : Int → Int} {hs : List (Int → Int)} {b : Int} (hA : ab_A σ T hs) (hb9 : -2147483648 ≤ b ∧ b ≤ 2147483647) : (0 ≤ b ∧ b < T 2 → ab_Q 81 [.inl b] σ (st_rt T b) (st_look T b) (ab_kp T hs)) ∧ (¬ (0 ≤ b ∧ b < T 2) → ab_Q 81 [.inl b] σ (-2) T hs) := by
  refine ⟨fun c1 => ?_, fun c1 => ?_⟩
  · refine q_gw (fun σ hT hA => ?_) hA; subst hT; obtain ⟨a1, a2, a3, a4, a5, a6⟩ := id hA
    obtain ⟨t0, t1, t2, t3, t4, t5, t6, t7, t8, r2, r3, r4, r5, r7, r11, r8, r9, r10, r12, r13, r14, r15, r16, r18, r19, r20, r21, r22⟩ := st_rd a1; obtain ⟨⟨i0, i1, i2, i3, i4, i5⟩, hr, hb, hc, hp, hl, hq⟩ := id a2; have hSn := ev_S_n; have hn0 : ev_n = 0 := rfl
    have hbb := hb b c1.1 c1.2
    obtain ⟨σa, e26, hF, hfin⟩ := A_sv hA
    have ha183 := hF 183 (by omega)
    have hEa : st_E (st_T σa ev_n) (σa 183) := by
      rw [ha183]
      exact st_E_t (st_T_congr (fun o q0 q1 => hF _ (by omega))) a1
    obtain ⟨f, g, e18, -, -⟩ := c_18T (σ := σa) (b := b) hEa (by rw [ha183]; exact a2) (by rw [ha183]; exact c1)
    rw [ha183] at e18 hEa
    obtain ⟨σf, df⟩ : ∃ z, z = ev_fr σa f g := ⟨_, rfl⟩
    rw [← df] at e18
    have hf : ∀ i, i ≠ 171 → i ≠ 172 → σf i = σa i := fun i h0 h1 => by rw [df]; exact ev_fr_row ⟨h0, h1⟩
    obtain ⟨σ1, d1⟩ : ∃ z, z = ev_up (ev_up (ev_up (ev_up σf (ev_n + 8) b (st_rt (σ 183) b)) (ev_n + 9) b (σf ev_n 3)) ev_n 4 (σf ev_n 4 + 1)) ev_n 5 (σf ev_n 5 + (5 + σf (ev_n + 11) b)) := ⟨_, rfl⟩
    have e51 := c_51 (σ := σf) (s := ev_n) (b := b) (v := st_rt (σ 183) b) hSn (by omega)
    rw [← d1] at e51
    have f1 : ∀ i, 22 < i → σ1 i = σf i := fun i hi => by rw [d1]; funext y; simp (disch := omega) only [ev_up_ne]
    have q3 : σf ev_n 3 = σ 183 5 := by rw [hf _ (by omega) (by omega), hF _ (by omega)]; exact t5
    have q4 : σf ev_n 4 = σ 183 6 := by rw [hf _ (by omega) (by omega), hF _ (by omega)]; exact t6
    have q5 : σf ev_n 5 = σ 183 7 := by rw [hf _ (by omega) (by omega), hF _ (by omega)]; exact t7
    have q11 : σf (ev_n + 11) b = σ 183 (89 + 5 * b + 1) := by rw [hf _ (by omega) (by omega), hF _ (by omega)]; exact r11 b (by omega) (by omega)
    have qv : σ1 (ev_n + 8) b = st_rt (σ 183) b := by rw [d1]; simp (disch := omega) only [ev_up_ne, ev_up_eq]
    refine ⟨σ1, ?_, hfin σ1 _ (fun i hi => by rw [f1 i (by omega), hf i (by omega) (by omega)]) ?_ (pi_look a2 c1 (st_rt_in a2 c1) rfl)⟩
    · have w6 : σa (ev_n + 6) = σ (ev_n + 6) := hF _ (by omega)
      rw [mm_81]
      repeat' (first | (simp (disch := first | assumption | exact Nat.le_of_ble_eq_true rfl | omega) only [bk_81_0, eo_1_0, g10_28_0, g7_28_1, eo_0_1, v1_2, ev_ki, ev_kv, eo_6, eo_56i, bk_81_1, g10_28_2, v3_2, g10_28_4, v2_3, v7_3, g1_28_2, a32_s8, c_6, t2, e26, e18, e51, qv, Int.add_zero, Int.add_sub_cancel, Int.reduceAdd, Int.reduceMul, Int.reduceSub, Int.reduceNeg, ev_wr_id]) | ((first | with_reducible refine br_40 ?_ ?_ | with_reducible refine br_41 ?_ ?_ | with_reducible refine br_42 ?_ ?_ | with_reducible refine br_43 ?_ ?_ | with_reducible refine br_44 ?_ ?_ | with_reducible refine br_45 ?_ ?_ | with_reducible refine br_46 ?_ ?_ | with_reducible refine br_47 ?_ ?_ | with_reducible refine br_48 ?_ ?_ | with_reducible refine br_49 ?_ ?_ | with_reducible refine br_50 ?_ ?_ | with_reducible refine br_51 ?_ ?_) <;> intro h <;> try simp (disch := first | assumption | exact Nat.le_of_ble_eq_true rfl | omega) only [ev_wr_id, not_true_eq_false, not_false_eq_true, Int.reduceEq, Int.reduceLT, Int.reduceLE, and_self, and_true, true_and, and_false, false_and, reduceIte] at h <;> try (exfalso; omega; done)))
    · rw [d1, q3, q4, q5, q11]
      have hfE : st_E (st_T σf ev_n) (σ 183) := st_E_t (st_T_congr (fun o q0 q1 => hf _ (by omega) (by omega))) hEa
      exact st_E_t tw_n7 (st_E_u (st_E_t tw_n6 (st_E_u (st_E_t (tw_9 (by omega)) (st_E_u (st_E_t (tw_8 (by omega)) (st_E_u hfE)))))))
  · refine q_gw (fun σ hT hA => ?_) hA; subst hT; obtain ⟨a1, a2, a3, a4, a5, a6⟩ := id hA
    obtain ⟨t0, t1, t2, t3, t4, t5, t6, t7, t8, r2, r3, r4, r5, r7, r11, r8, r9, r10, r12, r13, r14, r15, r16, r18, r19, r20, r21, r22⟩ := st_rd a1; obtain ⟨⟨i0, i1, i2, i3, i4, i5⟩, hr, hb, hc, hp, hl, hq⟩ := id a2; have hSn := ev_S_n; have hn0 : ev_n = 0 := rfl
    refine q_N hA (σ1 := σ) ?_ st_N_r
    rw [mm_81]
    repeat' (first | (simp (disch := first | assumption | exact Nat.le_of_ble_eq_true rfl | omega) only [bk_81_0, eo_1_0, g10_28_0, g7_28_1, eo_0_1, v1_2, ev_ki, ev_kv, eo_6, eo_56i, bk_81_1, g10_28_2, v3_2, g10_28_4, v2_3, v7_3, g1_28_2, a32_s8, c_6, t2, Int.add_zero, Int.add_sub_cancel, Int.reduceAdd, Int.reduceMul, Int.reduceSub, Int.reduceNeg, ev_wr_id]) | ((first | with_reducible refine br_40 ?_ ?_ | with_reducible refine br_41 ?_ ?_ | with_reducible refine br_42 ?_ ?_ | with_reducible refine br_43 ?_ ?_ | with_reducible refine br_44 ?_ ?_ | with_reducible refine br_45 ?_ ?_ | with_reducible refine br_46 ?_ ?_ | with_reducible refine br_47 ?_ ?_ | with_reducible refine br_48 ?_ ?_ | with_reducible refine br_49 ?_ ?_ | with_reducible refine br_50 ?_ ?_ | with_reducible refine br_51 ?_ ?_) <;> intro h <;> try simp (disch := first | assumption | exact Nat.le_of_ble_eq_true rfl | omega) only [ev_wr_id, not_true_eq_false, not_false_eq_true, Int.reduceEq, Int.reduceLT, Int.reduceLE, and_self, and_true, true_and, and_false, false_and, reduceIte] at h <;> try (exfalso; omega; done)))
/-- the latest kept row comes back -/
theorem q_97 {σ : ev_M} {T U : Int → Int} {hs : List (Int → Int)} (hA : ab_A σ T (U :: hs)) : ab_Q 97 [] σ hs.length U hs := by
  obtain ⟨a1, a2, a3, a4, a5, a6⟩ := id hA
  have hn0 : ev_n = 0 := rfl
  have hSn := ev_S_n
  have hl : σ 162 0 = hs.length + 1 := by rw [a5.2, List.length_cons]; omega
  have hl5 : hs.length + 1 ≤ 5 := by have := a5.1; rw [List.length_cons] at this; exact this
  have h6 := a6 0 U rfl
  rw [List.length_cons, show (((hs.length + 1 : Nat) : Int) - 1 - ((0 : Nat) : Int)) = σ 162 0 - 1 by omega] at h6
  have hk := a3.1 (σ 162 0 - 1) (by omega) (by omega)
  have hkS := hk.1
  unfold ev_S at hkS
  obtain ⟨σ1, e28, hC⟩ := c_28 a3 (by omega) (fun b b0 b1 => by
    rw [tr_10 (σ := σ) (s := σ 163 (σ 162 0 - 1)) ⟨b0, b1⟩, h6.1 _ (by omega) (by omega)]
    exact h6.2.2.2.2.1 b b0 b1)
  have f1 : ∀ i, 22 < i → i ≠ 162 → σ1 i = σ i := fun i h0 h1 => by
    rw [hC.2 i (by omega)]
    funext y
    exact ev_up_ne (by omega)
  have e162 : σ1 162 0 = σ 162 0 - 1 := by
    rw [hC.2 162 (by omega), ev_up_eq ⟨rfl, rfl⟩]
  have e163 : σ1 163 = σ 163 := f1 163 (by omega) (by omega)
  refine ⟨σ1, ?_, ?_, h6.2, ?_, by rw [f1 164 (by omega) (by omega)]; exact a4, ⟨by omega, by rw [e162, hl]; omega⟩, fun i h hi => ?_⟩
  · have e9 : σ 162 0 - 1 = (hs.length : Int) := by omega
    rw [mm_97]
    repeat' (first | (simp (disch := first | assumption | exact Nat.le_of_ble_eq_true rfl | omega) only [bk_97_0, eo_1_0, g10_28_2, g10_28_0, v3_2, ev_ki, ev_kv, eo_6, eo_56i, bk_97_1, g3_27, e28, e162, e9, Int.add_zero, Int.add_sub_cancel, Int.reduceAdd, Int.reduceMul, Int.reduceSub, Int.reduceNeg, ev_wr_id]) | ((first | with_reducible refine br_40 ?_ ?_ | with_reducible refine br_41 ?_ ?_ | with_reducible refine br_42 ?_ ?_ | with_reducible refine br_43 ?_ ?_ | with_reducible refine br_44 ?_ ?_ | with_reducible refine br_45 ?_ ?_ | with_reducible refine br_46 ?_ ?_ | with_reducible refine br_47 ?_ ?_ | with_reducible refine br_48 ?_ ?_ | with_reducible refine br_49 ?_ ?_ | with_reducible refine br_50 ?_ ?_ | with_reducible refine br_51 ?_ ?_) <;> intro h <;> try simp (disch := first | assumption | exact Nat.le_of_ble_eq_true rfl | omega) only [ev_wr_id, not_true_eq_false, not_false_eq_true, Int.reduceEq, Int.reduceLT, Int.reduceLE, and_self, and_true, true_and, and_false, false_and, reduceIte] at h <;> try (exfalso; omega; done)))
  · refine st_E_t (fun k h0 h1 => ?_) h6.1
    rw [hC.1 k h0 h1]
    exact st_T_up hk.1 (by omega) k h0 h1
  · unfold st_K
    rw [e163]
    exact a3
  · have hi2 := (List.getElem?_eq_some_iff.mp hi).1
    have g := a6 (i + 1) h (by rw [List.getElem?_cons_succ]; exact hi)
    rw [List.length_cons, show (((hs.length + 1 : Nat) : Int) - 1 - ((i + 1 : Nat) : Int)) = hs.length - 1 - i by omega] at g
    have hki := a3.1 (hs.length - 1 - i) (by omega) (by omega)
    have hkiS := hki.1
    unfold ev_S at hkiS
    refine ⟨?_, g.2⟩
    rw [e163]
    exact st_E_t (st_T_congr (fun o q0 q1 => f1 _ (by omega) (by omega))) g.1
theorem q_97e {σ : ev_M} {T : Int → Int} (hA : ab_A σ T []) : ab_Q 97 [] σ (-4) T [] := by
  obtain ⟨a1, a2, a3, a4, a5, a6⟩ := id hA
  have hn0 : ev_n = 0 := rfl
  have hSn := ev_S_n
  have c1 : σ 162 0 = 0 := by rw [a5.2]; rfl
  have e28 : EM 28 [.inr (.inl 162), .inr (.inl ev_n)] σ = some (some (.inl 0), σ) := by
    rw [mm_28]
    repeat' (first | (simp (disch := first | assumption | exact Nat.le_of_ble_eq_true rfl | omega) only [bk_28_0, eo_1_0, g3_27, eo_6, eo_56z, bk_28_1, eo_24i, eo_24r, eo_11, g3_30, eo_1_1, g3_28_1, v7_2, ev_ki, ev_kv, a36_163, Int.add_zero, Int.add_sub_cancel, Int.reduceAdd, Int.reduceMul, Int.reduceSub, Int.reduceNeg, ev_wr_id]) | ((first | with_reducible refine br_40 ?_ ?_ | with_reducible refine br_41 ?_ ?_ | with_reducible refine br_42 ?_ ?_ | with_reducible refine br_43 ?_ ?_ | with_reducible refine br_44 ?_ ?_ | with_reducible refine br_45 ?_ ?_ | with_reducible refine br_46 ?_ ?_ | with_reducible refine br_47 ?_ ?_ | with_reducible refine br_48 ?_ ?_ | with_reducible refine br_49 ?_ ?_ | with_reducible refine br_50 ?_ ?_ | with_reducible refine br_51 ?_ ?_) <;> intro h <;> try simp (disch := first | assumption | exact Nat.le_of_ble_eq_true rfl | omega) only [ev_wr_id, not_true_eq_false, not_false_eq_true, Int.reduceEq, Int.reduceLT, Int.reduceLE, and_self, and_true, true_and, and_false, false_and, reduceIte] at h <;> try (exfalso; omega; done)))
  refine q_N hA (σ1 := σ) ?_ st_N_r
  rw [mm_97]
  repeat' (first | (simp (disch := first | assumption | exact Nat.le_of_ble_eq_true rfl | omega) only [bk_97_0, eo_1_0, g10_28_2, g10_28_0, v3_2, ev_ki, ev_kv, eo_6, eo_56i, bk_97_1, g3_27, e28, Int.add_zero, Int.add_sub_cancel, Int.reduceAdd, Int.reduceMul, Int.reduceSub, Int.reduceNeg, ev_wr_id]) | ((first | with_reducible refine br_40 ?_ ?_ | with_reducible refine br_41 ?_ ?_ | with_reducible refine br_42 ?_ ?_ | with_reducible refine br_43 ?_ ?_ | with_reducible refine br_44 ?_ ?_ | with_reducible refine br_45 ?_ ?_ | with_reducible refine br_46 ?_ ?_ | with_reducible refine br_47 ?_ ?_ | with_reducible refine br_48 ?_ ?_ | with_reducible refine br_49 ?_ ?_ | with_reducible refine br_50 ?_ ?_ | with_reducible refine br_51 ?_ ?_) <;> intro h <;> try simp (disch := first | assumption | exact Nat.le_of_ble_eq_true rfl | omega) only [ev_wr_id, not_true_eq_false, not_false_eq_true, Int.reduceEq, Int.reduceLT, Int.reduceLE, and_self, and_true, true_and, and_false, false_and, reduceIte] at h <;> try (exfalso; omega; done)))
