/-! the calls that only tell -/
theorem q_of {j : Nat} {as : List ev_V} {v : Int} {T : Int → Int} {hs : List (Int → Int)} (h : ∀ σ, st_G1 T σ → st_A j as v T σ) {σ : ev_M} (hA : ab_A σ T hs) : ab_Q j as σ v T hs :=
  q_gw (fun σ hT hA => by
    obtain ⟨σ1, e, n, -⟩ := h σ ⟨hA.1, hT, hA.2.1⟩
    exact q_N hA e n) hA
section ASK
variable {σ : ev_M} {T : Int → Int} {hs : List (Int → Int)}
theorem q_75 {q : Int} (hA : ab_A σ T hs) (hq : 0 ≤ q ∧ q ≤ 10) : ab_Q 75 [.inl q] σ (st_cnt T q) T hs := q_of (fun _ h => d_75 h hq) hA
theorem q_76 {r q : Int} (hA : ab_A σ T hs) (hr : 0 ≤ r ∧ r < T 1) (hq : 0 ≤ q ∧ q ≤ 3) : ab_Q 76 [.inl r, .inl q] σ (T (9 + 4 * r + q)) T hs := q_of (fun _ h => d_76 h hr hq) hA
theorem q_77 {b q : Int} (hA : ab_A σ T hs) (hb : 0 ≤ b ∧ b < T 2) (hq : 0 ≤ q ∧ q ≤ 8) : ab_Q 77 [.inl b, .inl q] σ (st_vb T b q) T hs := q_of (fun _ h => d_77 h hb hq) hA
theorem q_78 {b c q : Int} (hA : ab_A σ T hs) (hb : 0 ≤ b ∧ b < T 2) (hc : 0 ≤ c ∧ c < T (89 + 5 * b + 1)) (hq : 0 ≤ q ∧ q ≤ 5) : ab_Q 78 [.inl b, .inl c, .inl q] σ (st_vc T b c q) T hs := q_of (fun _ h => d_78 h hb hc hq) hA
theorem q_92 {i q : Int} (hA : ab_A σ T hs) (hi : 0 ≤ i ∧ i < T 3) (hq : 0 ≤ q ∧ q ≤ 3) : ab_Q 92 [.inl i, .inl q] σ (st_vl T i q) T hs := q_of (fun _ h => d_92 h hi hq) hA
theorem q_93 {b q : Int} (hA : ab_A σ T hs) (hb : 0 ≤ b ∧ b < T 4) (hq : 0 ≤ q ∧ q ≤ 6) : ab_Q 93 [.inl b, .inl q] σ (st_vd T b q) T hs := q_of (fun _ h => d_93 h hb hq) hA
theorem q_102 (hA : ab_A σ T hs) : ∃ σ1, EM 102 [.inr (.inl 161)] σ = some (some (.inr (.inr (st_dig T))), σ1) ∧ ab_A σ1 T hs :=
  EM_gw (F := T) (A := fun σ => ab_A σ T hs) (B := fun σ => ab_A σ T hs) (fun _ G h => A_gh G h) (fun _ G h => A_gh G h) (fun σ hT hA => by
    obtain ⟨σ1, e, n, -⟩ := c_102 (T := T) (σ := σ) ⟨hA.1, hT, hA.2.1⟩
    exact ⟨σ1, e, A_N hA n⟩) hA
/-- the digest is one of the first 338 numbers alone -/
theorem st_dig_E {U : Int → Int} (hA : ab_A σ T hs) (e : st_E T U) : st_dig T = st_dig U := by
  obtain ⟨σ1, e1, -⟩ := q_102 hA
  obtain ⟨σ2, e2, -⟩ := q_102 (A_E hA e)
  rw [e1] at e2
  injection e2 with e2
  injection e2 with e2
  injection e2 with e2
  injection e2 with e2
  injection e2
/-- what is not told: errors -/
theorem q_75e {q : Int} (hA : ab_A σ T hs) (hq9 : -2147483648 ≤ q ∧ q ≤ 2147483647) (hq : ¬ (0 ≤ q ∧ q ≤ 10)) : ab_Q 75 [.inl q] σ (-3) T hs := by
  refine q_gw (fun σ hT hA => ?_) hA; subst hT; obtain ⟨a1, a2, a3, a4, a5, a6⟩ := id hA
  obtain ⟨t0, t1, t2, t3, t4, t5, t6, t7, t8, r2, r3, r4, r5, r7, r11, r8, r9, r10, r12, r13, r14, r15, r16, r18, r19, r20, r21, r22⟩ := st_rd a1; obtain ⟨⟨i0, i1, i2, i3, i4, i5⟩, hr, hb, hc, hp, hl, hq⟩ := id a2; have hSn := ev_S_n; have hn0 : ev_n = 0 := rfl
  refine q_N hA (σ1 := σ) ?_ st_N_r
  rw [mm_75]
  repeat' (first | (simp (disch := first | assumption | exact Nat.le_of_ble_eq_true rfl | omega) only [bk_75_0, eo_0_1, eo_54, sw_1, ev_sel, reduceIte, Int.reduceEq, bk_75_1, eo_1_0, g10_28_0, g7_28_0, g6_27, eo_56i, bk_75_2, bk_75_3, g7_28_1, g1_27, bk_75_4, g7_28_2, g4_27, bk_75_5, bk_75_6, g7_27, bk_75_7, bk_75_8, bk_75_9, bk_75_10, v7_1, ev_ki, ev_kv, bk_75_11, g10_28_4, v2_2, bk_75_12, eo_6, if_neg, Int.add_zero, Int.add_sub_cancel, Int.reduceAdd, Int.reduceMul, Int.reduceSub, Int.reduceNeg, ev_wr_id]) | ((first | with_reducible refine br_40 ?_ ?_ | with_reducible refine br_41 ?_ ?_ | with_reducible refine br_42 ?_ ?_ | with_reducible refine br_43 ?_ ?_ | with_reducible refine br_44 ?_ ?_ | with_reducible refine br_45 ?_ ?_ | with_reducible refine br_46 ?_ ?_ | with_reducible refine br_47 ?_ ?_ | with_reducible refine br_48 ?_ ?_ | with_reducible refine br_49 ?_ ?_ | with_reducible refine br_50 ?_ ?_ | with_reducible refine br_51 ?_ ?_) <;> intro h <;> try simp (disch := first | assumption | exact Nat.le_of_ble_eq_true rfl | omega) only [ev_wr_id, not_true_eq_false, not_false_eq_true, Int.reduceEq, Int.reduceLT, Int.reduceLE, and_self, and_true, true_and, and_false, false_and, reduceIte] at h <;> try (exfalso; omega; done)))
theorem q_92e {i q : Int} (hA : ab_A σ T hs) (hi9 : -2147483648 ≤ i ∧ i ≤ 2147483647) (hi : ¬ (0 ≤ i ∧ i < T 3)) : ab_Q 92 [.inl i, .inl q] σ (-2) T hs := by
  refine q_gw (fun σ hT hA => ?_) hA; subst hT; obtain ⟨a1, a2, a3, a4, a5, a6⟩ := id hA
  obtain ⟨t0, t1, t2, t3, t4, t5, t6, t7, t8, r2, r3, r4, r5, r7, r11, r8, r9, r10, r12, r13, r14, r15, r16, r18, r19, r20, r21, r22⟩ := st_rd a1; obtain ⟨⟨i0, i1, i2, i3, i4, i5⟩, hr, hb, hc, hp, hl, hq⟩ := id a2; have hSn := ev_S_n; have hn0 : ev_n = 0 := rfl
  refine q_N hA (σ1 := σ) ?_ st_N_r
  rw [mm_92]
  repeat' (first | (simp (disch := first | assumption | exact Nat.le_of_ble_eq_true rfl | omega) only [bk_92_0, eo_1_0, g10_28_0, g7_28_2, eo_0_1, v4_2, ev_ki, ev_kv, eo_6, eo_56i, bk_92_1, eo_0_2, eo_54, sw_5, ev_sel, reduceIte, Int.reduceEq, bk_92_2, g4_28_2, bk_92_3, g4_28_3, bk_92_4, g4_28_4, bk_92_5, g10_28_7, v0_2, g0_28_1, bk_92_6, a32_s18, a32_s19, a32_s20, a32_180, c_29, t3, Int.add_zero, Int.add_sub_cancel, Int.reduceAdd, Int.reduceMul, Int.reduceSub, Int.reduceNeg, ev_wr_id]) | ((first | with_reducible refine br_40 ?_ ?_ | with_reducible refine br_41 ?_ ?_ | with_reducible refine br_42 ?_ ?_ | with_reducible refine br_43 ?_ ?_ | with_reducible refine br_44 ?_ ?_ | with_reducible refine br_45 ?_ ?_ | with_reducible refine br_46 ?_ ?_ | with_reducible refine br_47 ?_ ?_ | with_reducible refine br_48 ?_ ?_ | with_reducible refine br_49 ?_ ?_ | with_reducible refine br_50 ?_ ?_ | with_reducible refine br_51 ?_ ?_) <;> intro h <;> try simp (disch := first | assumption | exact Nat.le_of_ble_eq_true rfl | omega) only [ev_wr_id, not_true_eq_false, not_false_eq_true, Int.reduceEq, Int.reduceLT, Int.reduceLE, and_self, and_true, true_and, and_false, false_and, reduceIte] at h <;> try (exfalso; omega; done)))
theorem q_93e {i q : Int} (hA : ab_A σ T hs) (hi9 : -2147483648 ≤ i ∧ i ≤ 2147483647) (hi : ¬ (0 ≤ i ∧ i < T 4)) : ab_Q 93 [.inl i, .inl q] σ (-2) T hs := by
  refine q_gw (fun σ hT hA => ?_) hA; subst hT; obtain ⟨a1, a2, a3, a4, a5, a6⟩ := id hA
  obtain ⟨t0, t1, t2, t3, t4, t5, t6, t7, t8, r2, r3, r4, r5, r7, r11, r8, r9, r10, r12, r13, r14, r15, r16, r18, r19, r20, r21, r22⟩ := st_rd a1; obtain ⟨⟨i0, i1, i2, i3, i4, i5⟩, hr, hb, hc, hp, hl, hq⟩ := id a2; have hSn := ev_S_n; have hn0 : ev_n = 0 := rfl
  refine q_N hA (σ1 := σ) ?_ st_N_r
  rw [mm_93]
  repeat' (first | (simp (disch := first | assumption | exact Nat.le_of_ble_eq_true rfl | omega) only [bk_93_0, eo_1_0, g10_28_0, g7_28_2, eo_0_1, v4_2, ev_ki, ev_kv, eo_6, eo_56i, bk_93_1, eo_0_2, eo_60_3, g4_28_6, eo_12, eo_10, eo_11, bk_93_2, eo_55, sw_6, ev_sel, reduceIte, Int.reduceEq, bk_93_3, g4_28_5, bk_93_4, g10_28_7, v0_2, v0_3, bk_93_5, v7_2, bk_93_6, a32_s22, a32_s21, c_30, c_104, t4, Int.add_zero, Int.add_sub_cancel, Int.reduceAdd, Int.reduceMul, Int.reduceSub, Int.reduceNeg, ev_wr_id]) | ((first | with_reducible refine br_40 ?_ ?_ | with_reducible refine br_41 ?_ ?_ | with_reducible refine br_42 ?_ ?_ | with_reducible refine br_43 ?_ ?_ | with_reducible refine br_44 ?_ ?_ | with_reducible refine br_45 ?_ ?_ | with_reducible refine br_46 ?_ ?_ | with_reducible refine br_47 ?_ ?_ | with_reducible refine br_48 ?_ ?_ | with_reducible refine br_49 ?_ ?_ | with_reducible refine br_50 ?_ ?_ | with_reducible refine br_51 ?_ ?_) <;> intro h <;> try simp (disch := first | assumption | exact Nat.le_of_ble_eq_true rfl | omega) only [ev_wr_id, not_true_eq_false, not_false_eq_true, Int.reduceEq, Int.reduceLT, Int.reduceLE, and_self, and_true, true_and, and_false, false_and, reduceIte] at h <;> try (exfalso; omega; done)))
/-- the years until the rating falls: the first one -/
theorem q_84 {b : Int} (hA : ab_A σ T hs) (c1 : 0 ≤ b ∧ b < T 2) : ∃ m, (0 ≤ m ∧ m ≤ 1000) ∧ st_rt T b ≤ st_wt T b m ∧ (m < 1000 → st_wt T b (m + 1) < st_rt T b) ∧ ab_Q 84 [.inl b] σ (if m < 1000 then m + 1 else -1) T hs := by
  have key : ∀ σ, σ 183 = T → ab_A σ T hs → ∃ m, (0 ≤ m ∧ m ≤ 1000) ∧ st_rt T b ≤ st_wt T b m ∧ (m < 1000 → st_wt T b (m + 1) < st_rt T b) ∧ ab_Q 84 [.inl b] σ (if m < 1000 then m + 1 else -1) T hs := by
    intro σ hT hA
    subst hT
    obtain ⟨a1, a2, a3, a4, a5, a6⟩ := id hA
    obtain ⟨t0, t1, t2, t3, t4, t5, t6, t7, t8, r2, r3, r4, r5, r7, r11, r8, r9, r10, r12, r13, r14, r15, r16, r18, r19, r20, r21, r22⟩ := st_rd a1; obtain ⟨⟨i0, i1, i2, i3, i4, i5⟩, hr, hb, hc, hp, hl, hq⟩ := id a2; have hSn := ev_S_n; have hn0 : ev_n = 0 := rfl
    obtain ⟨f, g, e18, -, -⟩ := c_18T a1 a2 c1
    have m183 : ev_fr σ f g 183 = σ 183 := ev_fr_row (by omega)
    have hrt := st_rt_in a2 c1
    have hw0 := st_wt_0 a2 c1
    obtain ⟨m, σ1, e24, hN, h183, hm, hm1, hm2⟩ := l_24 (b := b) 10 1024 0 none (ev_fr σ f g) (by decide) (by omega) (ev_fr_E a1) (by rw [m183]; exact a2) (by rw [m183]; exact c1) (by omega) (by rw [m183, hw0]; exact Int.le_refl _) (Or.inl (by omega))
    rw [m183] at e24 hm1 hm2 h183
    have hN1 := st_N_t (st_N_fr (σ := σ) (f := f) (g := g)) hN
    have q24 : EM 24 [.inr (.inl 170), .inr (.inl (ev_n + 6)), .inl b] σ = some (some (.inl (if m < 1000 then m + 1 else -1)), σ1) := by
      rw [mm_24]
      repeat' (first | (simp (disch := first | assumption | exact Nat.le_of_ble_eq_true rfl | omega) only [bk_24_0, eo_1_0, eo_1_1, eo_0_2, v2_3, ev_ki, ev_kv, eo_3_3n, eo_3_3i, eo_3_3r, eo_6, eo_3_4n, eo_3_4i, eo_3_4r, eo_3_5n, eo_3_5i, eo_3_5r, eo_53, eo_0_5, eo_0_4, eo_10, eo_3_6n, eo_3_6i, eo_3_6r, eo_0_6, v2_4, eo_0_3, bk_24_2, eo_13d, ev_div_id, eo_52, bk_24_3, bk_24_4, bk_24_5, eo_56i, e18, Int.add_zero, Int.add_sub_cancel, Int.reduceAdd, Int.reduceMul, Int.reduceSub, Int.reduceNeg, ev_wr_id]) | ((first | with_reducible refine br_40 ?_ ?_ | with_reducible refine br_41 ?_ ?_ | with_reducible refine br_42 ?_ ?_ | with_reducible refine br_43 ?_ ?_ | with_reducible refine br_44 ?_ ?_ | with_reducible refine br_45 ?_ ?_ | with_reducible refine br_46 ?_ ?_ | with_reducible refine br_47 ?_ ?_ | with_reducible refine br_48 ?_ ?_ | with_reducible refine br_49 ?_ ?_ | with_reducible refine br_50 ?_ ?_ | with_reducible refine br_51 ?_ ?_) <;> intro h <;> try simp (disch := first | assumption | exact Nat.le_of_ble_eq_true rfl | omega) only [ev_wr_id, not_true_eq_false, not_false_eq_true, Int.reduceEq, Int.reduceLT, Int.reduceLE, and_self, and_true, true_and, and_false, false_and, reduceIte] at h <;> try (exfalso; omega; done)))
      exact e24
    refine ⟨m, hm, hm1, hm2, q_N hA (σ1 := σ1) ?_ hN1⟩
    rw [mm_84]
    repeat' (first | (simp (disch := first | assumption | exact Nat.le_of_ble_eq_true rfl | omega) only [bk_84_0, eo_1_0, g10_28_0, g7_28_1, eo_0_1, v1_2, ev_ki, ev_kv, eo_6, eo_56i, bk_84_1, g10_28_4, v2_3, c_6, t2, q24, Int.add_zero, Int.add_sub_cancel, Int.reduceAdd, Int.reduceMul, Int.reduceSub, Int.reduceNeg, ev_wr_id]) | ((first | with_reducible refine br_40 ?_ ?_ | with_reducible refine br_41 ?_ ?_ | with_reducible refine br_42 ?_ ?_ | with_reducible refine br_43 ?_ ?_ | with_reducible refine br_44 ?_ ?_ | with_reducible refine br_45 ?_ ?_ | with_reducible refine br_46 ?_ ?_ | with_reducible refine br_47 ?_ ?_ | with_reducible refine br_48 ?_ ?_ | with_reducible refine br_49 ?_ ?_ | with_reducible refine br_50 ?_ ?_ | with_reducible refine br_51 ?_ ?_) <;> intro h <;> try simp (disch := first | assumption | exact Nat.le_of_ble_eq_true rfl | omega) only [ev_wr_id, not_true_eq_false, not_false_eq_true, Int.reduceEq, Int.reduceLT, Int.reduceLE, and_self, and_true, true_and, and_false, false_and, reduceIte] at h <;> try (exfalso; omega; done)))
  obtain ⟨m, h1, h2, h3, h4⟩ := key (ev_ua σ 183 T) (funext fun _ => ev_ua_eq) (A_gh T hA)
  refine ⟨m, h1, h2, h3, ?_⟩
  obtain ⟨σ1, e1, b1⟩ := h4
  have e2 := EM_gh (F := σ 183) e1
  rw [ev_ua_ua, ev_ua_self] at e2
  exact ⟨_, e2, A_gh _ b1⟩
theorem q_79 {b : Int} (hA : ab_A σ T hs) (c1 : 0 ≤ b ∧ b < T 2) : ab_Q 79 [.inl b] σ (st_wkf T b (T (89 + 5 * b + 1)).toNat 0 0) T hs := by
  refine q_gw (fun σ hT hA => ?_) hA; subst hT; obtain ⟨a1, a2, a3, a4, a5, a6⟩ := id hA
  obtain ⟨t0, t1, t2, t3, t4, t5, t6, t7, t8, r2, r3, r4, r5, r7, r11, r8, r9, r10, r12, r13, r14, r15, r16, r18, r19, r20, r21, r22⟩ := st_rd a1; obtain ⟨⟨i0, i1, i2, i3, i4, i5⟩, hr, hb, hc, hp, hl, hq⟩ := id a2; have hSn := ev_S_n; have hn0 : ev_n = 0 := rfl
  have hbb := hb b c1.1 c1.2
  obtain ⟨f, g, e18, hf, -⟩ := c_18T a1 a2 c1
  have m183 : ev_fr σ f g 183 = σ 183 := ev_fr_row (by omega)
  obtain ⟨σ1, e23, hF⟩ := l_23 a2 c1 (σ 183 (89 + 5 * b + 1)).toNat 0 0 (ev_fr σ f g) (by omega) (by omega) (by have := ev_fr_E (f := f) (g := g) a1; rw [m183] at this; exact this) (fun o q0 q1 => by
    unfold ev_fr
    rw [ev_ua_ne (by omega), ev_ua_eq]
    exact hf o q0 q1)
  have hF1 : ∀ i, i ≠ 171 → i ≠ 172 → σ1 i = σ i := fun i h h' => by rw [hF i h h', ev_fr_row ⟨h, h'⟩]
  have q23 : EM 23 [.inr (.inl 170), .inr (.inl (ev_n + 6)), .inl b] σ = some (some (.inl (st_wkf (σ 183) b (σ 183 (89 + 5 * b + 1)).toNat 0 0)), σ1) := by
    rw [mm_23]
    repeat' (first | (simp (disch := first | assumption | exact Nat.le_of_ble_eq_true rfl | omega) only [bk_23_0, eo_1_0, eo_1_1, eo_0_2, v2_3, ev_ki, ev_kv, eo_3_3n, eo_3_3i, eo_3_3r, eo_6, eo_3_4n, eo_3_4i, eo_3_4r, eo_3_5n, eo_3_5i, eo_3_5r, eo_53, eo_0_5, g1_28_5, g2_28_0, eo_25, eo_11, eo_0_3, eo_0_4, eo_18, eo_16, bk_23_2, eo_10, bk_23_3, eo_23_5n, eo_23_5i, eo_23_5r, eo_52, bk_23_4, eo_56i, a32_s11, a33_s11, a32_171, a33_171, e18, Int.add_zero, Int.add_sub_cancel, Int.reduceAdd, Int.reduceMul, Int.reduceSub, Int.reduceNeg, ev_wr_id]) | ((first | with_reducible refine br_40 ?_ ?_ | with_reducible refine br_41 ?_ ?_ | with_reducible refine br_42 ?_ ?_ | with_reducible refine br_43 ?_ ?_ | with_reducible refine br_44 ?_ ?_ | with_reducible refine br_45 ?_ ?_ | with_reducible refine br_46 ?_ ?_ | with_reducible refine br_47 ?_ ?_ | with_reducible refine br_48 ?_ ?_ | with_reducible refine br_49 ?_ ?_ | with_reducible refine br_50 ?_ ?_ | with_reducible refine br_51 ?_ ?_) <;> intro h <;> try simp (disch := first | assumption | exact Nat.le_of_ble_eq_true rfl | omega) only [ev_wr_id, not_true_eq_false, not_false_eq_true, Int.reduceEq, Int.reduceLT, Int.reduceLE, and_self, and_true, true_and, and_false, false_and, reduceIte] at h <;> try (exfalso; omega; done)))
    exact e23
  refine q_N hA (σ1 := σ1) ?_ (st_N_o (fun i h h' h2 => hF1 i h h'))
  rw [mm_79]
  repeat' (first | (simp (disch := first | assumption | exact Nat.le_of_ble_eq_true rfl | omega) only [bk_79_0, eo_1_0, g10_28_0, g7_28_1, eo_0_1, v1_2, ev_ki, ev_kv, eo_6, eo_56i, bk_79_1, g10_28_4, v2_3, c_6, t2, q23, Int.add_zero, Int.add_sub_cancel, Int.reduceAdd, Int.reduceMul, Int.reduceSub, Int.reduceNeg, ev_wr_id]) | ((first | with_reducible refine br_40 ?_ ?_ | with_reducible refine br_41 ?_ ?_ | with_reducible refine br_42 ?_ ?_ | with_reducible refine br_43 ?_ ?_ | with_reducible refine br_44 ?_ ?_ | with_reducible refine br_45 ?_ ?_ | with_reducible refine br_46 ?_ ?_ | with_reducible refine br_47 ?_ ?_ | with_reducible refine br_48 ?_ ?_ | with_reducible refine br_49 ?_ ?_ | with_reducible refine br_50 ?_ ?_ | with_reducible refine br_51 ?_ ?_) <;> intro h <;> try simp (disch := first | assumption | exact Nat.le_of_ble_eq_true rfl | omega) only [ev_wr_id, not_true_eq_false, not_false_eq_true, Int.reduceEq, Int.reduceLT, Int.reduceLE, and_self, and_true, true_and, and_false, false_and, reduceIte] at h <;> try (exfalso; omega; done)))
theorem q_95 {b : Int} (hA : ab_A σ T hs) (c1 : 0 ≤ b ∧ b < T 2) : ab_Q 95 [.inl b] σ (st_rt (st_md (T 3).toNat 0 T) b) T hs := by
  refine q_gw (fun σ hT hA => ?_) hA; subst hT; obtain ⟨a1, a2, a3, a4, a5, a6⟩ := id hA
  obtain ⟨t0, t1, t2, t3, t4, t5, t6, t7, t8, r2, r3, r4, r5, r7, r11, r8, r9, r10, r12, r13, r14, r15, r16, r18, r19, r20, r21, r22⟩ := st_rd a1; obtain ⟨⟨i0, i1, i2, i3, i4, i5⟩, hr, hb, hc, hp, hl, hq⟩ := id a2; have hSn := ev_S_n; have hn0 : ev_n = 0 := rfl
  have hbb := hb b c1.1 c1.2
  obtain ⟨f, e20, hf⟩ := c_20T a1 a2 c1
  obtain ⟨σ1, e25, hF⟩ := l_25 a2 c1 (σ 183 3).toNat 0 none (σ 183) (ev_ua σ 171 f) a2 (by omega) (by omega) (fun _ _ => rfl) (fun _ _ _ _ _ _ => rfl) (st_E_t (st_T_congr (fun o q0 q1 => ev_ua_row (by omega))) a1) (fun o q0 q1 => by rw [ev_ua_eq]; exact hf o q0 q1)
  have q25 : EM 25 [.inr (.inl 170), .inr (.inl ev_n), .inl b] σ = some (some (.inl (st_rt (st_md (σ 183 3).toNat 0 (σ 183)) b)), σ1) := by
    rw [mm_25]
    repeat' (first | (simp (disch := first | assumption | exact Nat.le_of_ble_eq_true rfl | omega) only [bk_25_0, eo_1_0, eo_1_1, g7_28_1, eo_0_2, eo_6, v2_4, ev_ki, ev_kv, eo_3_3n, eo_3_3i, eo_3_3r, eo_53, eo_0_3, g7_28_2, g4_27, g4_28_2, g4_28_3, eo_3_4n, eo_3_4i, eo_3_4r, g2_28_0, eo_0_4, g4_28_4, eo_10, eo_63, bk_25_2, eo_23_3n, eo_23_3i, eo_23_3r, eo_52, bk_25_3, v2_3, eo_56i, a32_s18, a33_s18, a32_s19, a33_s19, a32_171, a33_171, a32_s20, a33_s20, e20, Int.add_zero, Int.add_sub_cancel, Int.reduceAdd, Int.reduceMul, Int.reduceSub, Int.reduceNeg, ev_wr_id]) | ((first | with_reducible refine br_40 ?_ ?_ | with_reducible refine br_41 ?_ ?_ | with_reducible refine br_42 ?_ ?_ | with_reducible refine br_43 ?_ ?_ | with_reducible refine br_44 ?_ ?_ | with_reducible refine br_45 ?_ ?_ | with_reducible refine br_46 ?_ ?_ | with_reducible refine br_47 ?_ ?_ | with_reducible refine br_48 ?_ ?_ | with_reducible refine br_49 ?_ ?_ | with_reducible refine br_50 ?_ ?_ | with_reducible refine br_51 ?_ ?_) <;> intro h <;> try simp (disch := first | assumption | exact Nat.le_of_ble_eq_true rfl | omega) only [ev_wr_id, not_true_eq_false, not_false_eq_true, Int.reduceEq, Int.reduceLT, Int.reduceLE, and_self, and_true, true_and, and_false, false_and, reduceIte] at h <;> try (exfalso; omega; done)))
    exact e25
  have hF1 : ∀ i, i ≠ 171 → i ≠ 172 → σ1 i = σ i := fun i h h' => by rw [hF i h h', ev_ua_row h]
  refine q_N hA (σ1 := σ1) ?_ (st_N_o (fun i h h' h2 => hF1 i h h'))
  rw [mm_95]
  repeat' (first | (simp (disch := first | assumption | exact Nat.le_of_ble_eq_true rfl | omega) only [bk_95_0, eo_1_0, g10_28_0, g7_28_1, eo_0_1, v1_2, ev_ki, ev_kv, eo_6, eo_56i, bk_95_1, g10_28_4, v2_3, c_6, t2, q25, Int.add_zero, Int.add_sub_cancel, Int.reduceAdd, Int.reduceMul, Int.reduceSub, Int.reduceNeg, ev_wr_id]) | ((first | with_reducible refine br_40 ?_ ?_ | with_reducible refine br_41 ?_ ?_ | with_reducible refine br_42 ?_ ?_ | with_reducible refine br_43 ?_ ?_ | with_reducible refine br_44 ?_ ?_ | with_reducible refine br_45 ?_ ?_ | with_reducible refine br_46 ?_ ?_ | with_reducible refine br_47 ?_ ?_ | with_reducible refine br_48 ?_ ?_ | with_reducible refine br_49 ?_ ?_ | with_reducible refine br_50 ?_ ?_ | with_reducible refine br_51 ?_ ?_) <;> intro h <;> try simp (disch := first | assumption | exact Nat.le_of_ble_eq_true rfl | omega) only [ev_wr_id, not_true_eq_false, not_false_eq_true, Int.reduceEq, Int.reduceLT, Int.reduceLE, and_self, and_true, true_and, and_false, false_and, reduceIte] at h <;> try (exfalso; omega; done)))
/-- the award: the cost, by the givings that are best -/
theorem st_cst_e (hA : ab_A σ T hs) : ∃ c, (st_aw (st_co T) (st_fe T) (T 4) (T 3).toNat c (st_ut T) ∧ -1 ≤ c ∧ c ≤ 10125) ∧ ab_Q 94 [] σ c T hs ∧ (c = -1 → ab_Q 96 [] σ (-4) T hs) ∧ (c ≠ -1 → ab_Q 96 [] σ c (ev_u1 (ev_u1 (st_md (T 3).toNat 0 T) 8 (T 8 + c)) 3 0) (ab_kp T hs)) := by
  have key : ∀ σ, σ 183 = T → ab_A σ T hs → ∃ c, (st_aw (st_co T) (st_fe T) (T 4) (T 3).toNat c (st_ut T) ∧ -1 ≤ c ∧ c ≤ 10125) ∧ ab_Q 94 [] σ c T hs ∧ (c = -1 → ab_Q 96 [] σ (-4) T hs) ∧ (c ≠ -1 → ab_Q 96 [] σ c (ev_u1 (ev_u1 (st_md (T 3).toNat 0 T) 8 (T 8 + c)) 3 0) (ab_kp T hs)) := by
    intro σ hT hA
    subst hT
    obtain ⟨a1, a2, a3, a4, a5, a6⟩ := id hA
    have hSn := ev_S_n
    have hn0 : ev_n = 0 := rfl
    obtain ⟨c, u, t, e0, haw, hc⟩ := c_0 a1 a2
    have haw2 : st_aw (st_co (σ 183)) (st_fe (σ 183)) (σ 183 4) (σ 183 3).toNat c (st_ut (σ 183)) := by
      obtain ⟨c2, h2⟩ := Classical.epsilon_spec (p := fun u => ∃ c, st_aw (st_co (σ 183)) (st_fe (σ 183)) (σ 183 4) (σ 183 3).toNat c u) ⟨u, c, haw⟩
      have h3 := st_aw_u a2.1.2.2.2.2.1.2 haw h2
      rw [h3.1]
      exact h2
    refine ⟨c, ⟨haw2, hc⟩, q_N hA (σ1 := st_w σ c u t) ?_ st_w_N, fun c1 => q_N hA (σ1 := st_w σ c u t) ?_ st_w_N, fun c1 => ?_⟩
    · rw [mm_94]
      repeat' (first | (simp (disch := first | assumption | exact Nat.le_of_ble_eq_true rfl | omega) only [bk_94_0, eo_1_0, g10_28_7, g10_28_0, v0_2, ev_ki, ev_kv, g0_27, eo_56i, e0, st_w_0, Int.add_zero, Int.add_sub_cancel, Int.reduceAdd, Int.reduceMul, Int.reduceSub, Int.reduceNeg, ev_wr_id]) | ((first | with_reducible refine br_40 ?_ ?_ | with_reducible refine br_41 ?_ ?_ | with_reducible refine br_42 ?_ ?_ | with_reducible refine br_43 ?_ ?_ | with_reducible refine br_44 ?_ ?_ | with_reducible refine br_45 ?_ ?_ | with_reducible refine br_46 ?_ ?_ | with_reducible refine br_47 ?_ ?_ | with_reducible refine br_48 ?_ ?_ | with_reducible refine br_49 ?_ ?_ | with_reducible refine br_50 ?_ ?_ | with_reducible refine br_51 ?_ ?_) <;> intro h <;> try simp (disch := first | assumption | exact Nat.le_of_ble_eq_true rfl | omega) only [ev_wr_id, not_true_eq_false, not_false_eq_true, Int.reduceEq, Int.reduceLT, Int.reduceLE, and_self, and_true, true_and, and_false, false_and, reduceIte] at h <;> try (exfalso; omega; done)))
    · rw [mm_96]
      repeat' (first | (simp (disch := first | assumption | exact Nat.le_of_ble_eq_true rfl | omega) only [bk_96_0, eo_1_0, g10_28_7, g10_28_0, v0_2, ev_ki, ev_kv, g0_27, eo_6, eo_56i, bk_96_1, g10_28_2, v3_2, eo_24i, eo_24r, g7_27, eo_10, g7_30, v7_1, e0, st_w_0, Int.add_zero, Int.add_sub_cancel, Int.reduceAdd, Int.reduceMul, Int.reduceSub, Int.reduceNeg, ev_wr_id]) | ((first | with_reducible refine br_40 ?_ ?_ | with_reducible refine br_41 ?_ ?_ | with_reducible refine br_42 ?_ ?_ | with_reducible refine br_43 ?_ ?_ | with_reducible refine br_44 ?_ ?_ | with_reducible refine br_45 ?_ ?_ | with_reducible refine br_46 ?_ ?_ | with_reducible refine br_47 ?_ ?_ | with_reducible refine br_48 ?_ ?_ | with_reducible refine br_49 ?_ ?_ | with_reducible refine br_50 ?_ ?_ | with_reducible refine br_51 ?_ ?_) <;> intro h <;> try simp (disch := first | assumption | exact Nat.le_of_ble_eq_true rfl | omega) only [ev_wr_id, not_true_eq_false, not_false_eq_true, Int.reduceEq, Int.reduceLT, Int.reduceLE, and_self, and_true, true_and, and_false, false_and, reduceIte] at h <;> try (exfalso; omega; done)))
    · have hAs : ab_A (st_w σ c u t) (σ 183) hs := A_N hA st_w_N
      obtain ⟨σs, hss⟩ : ∃ z, z = st_w σ c u t := ⟨_, rfl⟩
      rw [← hss] at hAs
      have es0 : EM 0 [.inr (.inl 179), .inr (.inl ev_n)] σ = some (none, σs) := by rw [hss]; exact e0
      have hEs := hAs.1
      have t8 : σs ev_n 6 = σ 183 8 := (tr_n8 (σ := σs) (s := ev_n)).trans (hEs 8 (by omega) (by omega))
      obtain ⟨σa, e26, hF, hfin⟩ := A_sv hAs
      have hEa : st_E (st_T σa ev_n) (σ 183) := st_E_t (st_T_congr (fun o q0 q1 => hF _ (by omega))) hEs
      obtain ⟨w, hw⟩ : ∃ w, w = σ 183 8 + c := ⟨_, rfl⟩
      obtain ⟨σ0, d0⟩ : ∃ z, z = ev_up σa ev_n 6 w := ⟨_, rfl⟩
      have hE0 : st_E (st_T σ0 ev_n) (ev_u1 (σ 183) 8 w) := by
        rw [d0]
        exact st_E_t tw_n8 (st_E_u hEa)
      obtain ⟨σ1, e55, hF1, hE1⟩ := c_55 (T := ev_u1 (σ 183) 8 w) (pi_spent a2) hE0
      rw [ev_u1_ne (show (3 : Int) ≠ 8 by omega)] at hE1
      have i3 := a2.1.2.2.2.1
      rw [st_md_8 (σ 183 3).toNat 0 (σ 183) a2 (by omega) (by omega)] at hE1
      have f1 : ∀ i, 22 < i → σ1 i = σa i := fun i hi => by
        rw [hF1 i (by omega) (by omega) (by omega), d0]
        funext z
        exact ev_up_ne (by omega)
      have hmI := (st_md_E (σ 183 3).toNat 0 _ _ (st_E_r (f := σ 183)) a2 (by omega) (by omega)).2
      rw [← hw]
      refine ⟨σ1, ?_, hfin σ1 _ (fun i hi => f1 i (by omega)) hE1 (pi_lines (pi_spent hmI))⟩
      have w0 : σs 179 0 = c := by rw [hss]; exact st_w_0
      have w1 : σ1 179 0 = c := by rw [f1 179 (by omega), hF 179 (by omega)]; exact w0
      have w2 : σa 179 0 = c := by rw [hF 179 (by omega)]; exact w0
      have w3 : σa ev_n 6 = σ 183 8 := by rw [hF ev_n (by omega)]; exact t8
      have w4 := hw.symm
      have d1 := d0.symm
      rw [mm_96]
      repeat' (first | (simp (disch := first | assumption | exact Nat.le_of_ble_eq_true rfl | omega) only [bk_96_0, eo_1_0, g10_28_7, g10_28_0, v0_2, ev_ki, ev_kv, g0_27, eo_6, eo_56i, bk_96_1, g10_28_2, v3_2, eo_24i, eo_24r, g7_27, eo_10, g7_30, v7_1, es0, w0, w1, w2, e26, w3, w4, d1, e55, Int.add_zero, Int.add_sub_cancel, Int.reduceAdd, Int.reduceMul, Int.reduceSub, Int.reduceNeg, ev_wr_id]) | ((first | with_reducible refine br_40 ?_ ?_ | with_reducible refine br_41 ?_ ?_ | with_reducible refine br_42 ?_ ?_ | with_reducible refine br_43 ?_ ?_ | with_reducible refine br_44 ?_ ?_ | with_reducible refine br_45 ?_ ?_ | with_reducible refine br_46 ?_ ?_ | with_reducible refine br_47 ?_ ?_ | with_reducible refine br_48 ?_ ?_ | with_reducible refine br_49 ?_ ?_ | with_reducible refine br_50 ?_ ?_ | with_reducible refine br_51 ?_ ?_) <;> intro h <;> try simp (disch := first | assumption | exact Nat.le_of_ble_eq_true rfl | omega) only [ev_wr_id, not_true_eq_false, not_false_eq_true, Int.reduceEq, Int.reduceLT, Int.reduceLE, and_self, and_true, true_and, and_false, false_and, reduceIte] at h <;> try (exfalso; omega; done)))
  obtain ⟨c, h1, h2, h3, h4⟩ := key (ev_ua σ 183 T) (funext fun _ => ev_ua_eq) (A_gh T hA)
  have back : ∀ (j : Nat) (v : Int) (U : Int → Int) (ks : List (Int → Int)), ab_Q j [] (ev_ua σ 183 T) v U ks → ab_Q j [] σ v U ks := by
    intro j v U ks h
    obtain ⟨σ1, e1, b1⟩ := h
    have e2 := EM_gh (F := σ 183) e1
    rw [ev_ua_ua, ev_ua_self] at e2
    exact ⟨_, e2, A_gh _ b1⟩
  exact ⟨c, h1, back _ _ _ _ h2, fun q => back _ _ _ _ (h3 q), fun q => back _ _ _ _ (h4 q)⟩
end ASK
