/-! ways and rounds, told and gone -/
noncomputable def st_wy (T : Int → Int) (a b w : Int) : Int := if st_Gs T w (-1) a b < 1000000 then st_Gs T w (-1) a b else -1
def st_pp (T : Int → Int) (a b w : Int) (G : Int → Int) (n : Nat) : Prop := n ≤ 9 ∧ st_it T w G b n = a ∧ ∀ i : Nat, i ≤ n → (0 ≤ st_it T w G b i ∧ st_it T w G b i < 10) ∧ G (st_it T w G b i) ≤ 990 ∧ (i < n → st_it T w G b i ≠ a)
noncomputable def st_pn (T : Int → Int) (a b w : Int) : Nat := Classical.epsilon (fun n => st_pp T a b w (st_Gs T w (-1) a) n)
noncomputable def st_vt (T : Int → Int) (a b w q : Int) : Int := if st_Gs T w (-1) a b < 1000000 then (if q ≤ st_pn T a b w then st_it T w (st_Gs T w (-1) a) b (st_pn T a b w - q.toNat) else -1) else -1
noncomputable def st_vw (T : Int → Int) (b w : Int) : Int := if st_Gs T w (T (89 + 5 * b)) (T (9 + 4 * T (89 + 5 * b))) (T (9 + 4 * T (89 + 5 * b) + 1)) < 1000000 then 1000 + st_Gs T w (T (89 + 5 * b)) (T (9 + 4 * T (89 + 5 * b))) (T (9 + 4 * T (89 + 5 * b) + 1)) - T (9 + 4 * T (89 + 5 * b) + 2) else -1
theorem st_pn_p {T : Int → Int} {a b w : Int} (hI : st_I T) (ha : 0 ≤ a ∧ a < T 0) (hb : 0 ≤ b ∧ b < 10) (hw : 1 ≤ w ∧ w ≤ 60) (hr : st_Gs T w (-1) a b < 1000000) : st_pp T a b w (st_Gs T w (-1) a) (st_pn T a b w) := by
  have hsp := st_Gs_sp (w := w) (o := -1) hI ha (by omega) (by omega)
  have h1 := hsp.2.1 b hb.1 hb.2
  obtain ⟨n, hn, hxn, hxi⟩ := st_ch hI hsp 9 b hb (by omega) (st_ni_9 hb)
  exact Classical.epsilon_spec (p := fun n => st_pp T a b w (st_Gs T w (-1) a) n) ⟨n, hn, hxn, hxi⟩
section WYS
variable {σ : ev_M} {T : Int → Int} {hs : List (Int → Int)}
theorem q_85 {a b w : Int} (hA : ab_A σ T hs) (c1 : (0 ≤ a ∧ a < T 0) ∧ 0 ≤ b ∧ b < T 0) (c2 : 1 ≤ w ∧ w ≤ 60) : ab_Q 85 [.inl a, .inl b, .inl w] σ (st_wy T a b w) T hs := by
  refine q_gw (fun σ hT hA => ?_) hA; subst hT; obtain ⟨a1, a2, a3, a4, a5, a6⟩ := id hA
  obtain ⟨t0, t1, t2, t3, t4, t5, t6, t7, t8, r2, r3, r4, r5, r7, r11, r8, r9, r10, r12, r13, r14, r15, r16, r18, r19, r20, r21, r22⟩ := st_rd a1; obtain ⟨⟨i0, i1, i2, i3, i4, i5⟩, hr, hb, hc, hp, hl, hq⟩ := id a2; have hSn := ev_S_n; have hn0 : ev_n = 0 := rfl
  have hsp := st_Gs_sp (w := w) (o := -1) a2 c1.1 (by omega) (by omega)
  unfold st_wy
  generalize st_Gs (σ 183) w (-1) a = G at hsp ⊢
  obtain ⟨F, e62, hF⟩ := c_62 (σ := σ) (s := ev_n) (T := σ 183) (G := G) (w := w) (o := -1) hSn a1 a2 c1.1 (by omega) (by omega) hsp
  have hFb := hF b c1.2.1 (by omega)
  have hGb := hsp.2.1 b c1.2.1 (by omega)
  have hb10 : 0 ≤ b ∧ b < 10 := by omega
  refine q_N hA (σ1 := ev_ua σ 174 F) ?_ st_N_174
  rw [mm_85]
  have e61 := c_61 (σ := ev_ua σ 174 F) (t := b) hb10 (by rw [ev_ua_eq]; omega)
  rw [ev_ua_eq] at e61
  by_cases q : G b < 1000000
  · rw [if_pos (by omega)] at e61
    rw [if_pos q]
    repeat' (first | (simp (disch := first | assumption | exact Nat.le_of_ble_eq_true rfl | omega) only [bk_85_0, eo_1_0, g10_28_0, g7_28_0, eo_0_1, v6_2, ev_ki, ev_kv, eo_0_2, eo_53, bk_85_1, eo_6, eo_56i, bk_85_2, eo_0_3, eo_60_3, bk_85_3, g10_28_5, v9_5, v9_2, g9_28_0, eo_52, bk_85_4, bk_85_5, a32_174, c_44, c_104, t0, e62, e61, ev_ua_eq, hFb, Int.add_zero, Int.add_sub_cancel, Int.reduceAdd, Int.reduceMul, Int.reduceSub, Int.reduceNeg, ev_wr_id]) | ((first | with_reducible refine br_40 ?_ ?_ | with_reducible refine br_41 ?_ ?_ | with_reducible refine br_42 ?_ ?_ | with_reducible refine br_43 ?_ ?_ | with_reducible refine br_44 ?_ ?_ | with_reducible refine br_45 ?_ ?_ | with_reducible refine br_46 ?_ ?_ | with_reducible refine br_47 ?_ ?_ | with_reducible refine br_48 ?_ ?_ | with_reducible refine br_49 ?_ ?_ | with_reducible refine br_50 ?_ ?_ | with_reducible refine br_51 ?_ ?_) <;> intro h <;> try simp (disch := first | assumption | exact Nat.le_of_ble_eq_true rfl | omega) only [ev_wr_id, not_true_eq_false, not_false_eq_true, Int.reduceEq, Int.reduceLT, Int.reduceLE, and_self, and_true, true_and, and_false, false_and, reduceIte] at h <;> try (exfalso; omega; done)))
  · rw [if_neg (by omega)] at e61
    rw [if_neg q]
    repeat' (first | (simp (disch := first | assumption | exact Nat.le_of_ble_eq_true rfl | omega) only [bk_85_0, eo_1_0, g10_28_0, g7_28_0, eo_0_1, v6_2, ev_ki, ev_kv, eo_0_2, eo_53, bk_85_1, eo_6, eo_56i, bk_85_2, eo_0_3, eo_60_3, bk_85_3, g10_28_5, v9_5, v9_2, g9_28_0, eo_52, bk_85_4, bk_85_5, a32_174, c_44, c_104, t0, e62, e61, ev_ua_eq, Int.add_zero, Int.add_sub_cancel, Int.reduceAdd, Int.reduceMul, Int.reduceSub, Int.reduceNeg, ev_wr_id]) | ((first | with_reducible refine br_40 ?_ ?_ | with_reducible refine br_41 ?_ ?_ | with_reducible refine br_42 ?_ ?_ | with_reducible refine br_43 ?_ ?_ | with_reducible refine br_44 ?_ ?_ | with_reducible refine br_45 ?_ ?_ | with_reducible refine br_46 ?_ ?_ | with_reducible refine br_47 ?_ ?_ | with_reducible refine br_48 ?_ ?_ | with_reducible refine br_49 ?_ ?_ | with_reducible refine br_50 ?_ ?_ | with_reducible refine br_51 ?_ ?_) <;> intro h <;> try simp (disch := first | assumption | exact Nat.le_of_ble_eq_true rfl | omega) only [ev_wr_id, not_true_eq_false, not_false_eq_true, Int.reduceEq, Int.reduceLT, Int.reduceLE, and_self, and_true, true_and, and_false, false_and, reduceIte] at h <;> try (exfalso; omega; done)))
theorem q_85e {a b w : Int} (hA : ab_A σ T hs) (ha9 : -2147483648 ≤ a ∧ a ≤ 2147483647) (hb9 : -2147483648 ≤ b ∧ b ≤ 2147483647) (hw9 : -2147483648 ≤ w ∧ w ≤ 2147483647) : ((0 ≤ a ∧ a < T 0) ∧ 0 ≤ b ∧ b < T 0 → ¬ (1 ≤ w ∧ w ≤ 60) → ab_Q 85 [.inl a, .inl b, .inl w] σ (-3) T hs) ∧ (¬ ((0 ≤ a ∧ a < T 0) ∧ 0 ≤ b ∧ b < T 0) → ab_Q 85 [.inl a, .inl b, .inl w] σ (-2) T hs) := by
  refine ⟨fun c1 c2 => ?_, fun c1 => ?_⟩
  · refine q_gw (fun σ hT hA => ?_) hA; subst hT; obtain ⟨a1, a2, a3, a4, a5, a6⟩ := id hA
    obtain ⟨t0, t1, t2, t3, t4, t5, t6, t7, t8, r2, r3, r4, r5, r7, r11, r8, r9, r10, r12, r13, r14, r15, r16, r18, r19, r20, r21, r22⟩ := st_rd a1; obtain ⟨⟨i0, i1, i2, i3, i4, i5⟩, hr, hb, hc, hp, hl, hq⟩ := id a2; have hSn := ev_S_n; have hn0 : ev_n = 0 := rfl
    refine q_N hA (σ1 := σ) ?_ st_N_r
    rw [mm_85]
    repeat' (first | (simp (disch := first | assumption | exact Nat.le_of_ble_eq_true rfl | omega) only [bk_85_0, eo_1_0, g10_28_0, g7_28_0, eo_0_1, v6_2, ev_ki, ev_kv, eo_0_2, eo_53, bk_85_1, eo_6, eo_56i, bk_85_2, eo_0_3, eo_60_3, bk_85_3, g10_28_5, v9_5, v9_2, g9_28_0, eo_52, bk_85_4, bk_85_5, a32_174, c_44, c_104, t0, Int.add_zero, Int.add_sub_cancel, Int.reduceAdd, Int.reduceMul, Int.reduceSub, Int.reduceNeg, ev_wr_id]) | ((first | with_reducible refine br_40 ?_ ?_ | with_reducible refine br_41 ?_ ?_ | with_reducible refine br_42 ?_ ?_ | with_reducible refine br_43 ?_ ?_ | with_reducible refine br_44 ?_ ?_ | with_reducible refine br_45 ?_ ?_ | with_reducible refine br_46 ?_ ?_ | with_reducible refine br_47 ?_ ?_ | with_reducible refine br_48 ?_ ?_ | with_reducible refine br_49 ?_ ?_ | with_reducible refine br_50 ?_ ?_ | with_reducible refine br_51 ?_ ?_) <;> intro h <;> try simp (disch := first | assumption | exact Nat.le_of_ble_eq_true rfl | omega) only [ev_wr_id, not_true_eq_false, not_false_eq_true, Int.reduceEq, Int.reduceLT, Int.reduceLE, and_self, and_true, true_and, and_false, false_and, reduceIte] at h <;> try (exfalso; omega; done)))
  · refine q_gw (fun σ hT hA => ?_) hA; subst hT; obtain ⟨a1, a2, a3, a4, a5, a6⟩ := id hA
    obtain ⟨t0, t1, t2, t3, t4, t5, t6, t7, t8, r2, r3, r4, r5, r7, r11, r8, r9, r10, r12, r13, r14, r15, r16, r18, r19, r20, r21, r22⟩ := st_rd a1; obtain ⟨⟨i0, i1, i2, i3, i4, i5⟩, hr, hb, hc, hp, hl, hq⟩ := id a2; have hSn := ev_S_n; have hn0 : ev_n = 0 := rfl
    refine q_N hA (σ1 := σ) ?_ st_N_r
    rw [mm_85]
    repeat' (first | (simp (disch := first | assumption | exact Nat.le_of_ble_eq_true rfl | omega) only [bk_85_0, eo_1_0, g10_28_0, g7_28_0, eo_0_1, v6_2, ev_ki, ev_kv, eo_0_2, eo_53, bk_85_1, eo_6, eo_56i, bk_85_2, eo_0_3, eo_60_3, bk_85_3, g10_28_5, v9_5, v9_2, g9_28_0, eo_52, bk_85_4, bk_85_5, a32_174, c_44, c_104, t0, Int.add_zero, Int.add_sub_cancel, Int.reduceAdd, Int.reduceMul, Int.reduceSub, Int.reduceNeg, ev_wr_id]) | ((first | with_reducible refine br_40 ?_ ?_ | with_reducible refine br_41 ?_ ?_ | with_reducible refine br_42 ?_ ?_ | with_reducible refine br_43 ?_ ?_ | with_reducible refine br_44 ?_ ?_ | with_reducible refine br_45 ?_ ?_ | with_reducible refine br_46 ?_ ?_ | with_reducible refine br_47 ?_ ?_ | with_reducible refine br_48 ?_ ?_ | with_reducible refine br_49 ?_ ?_ | with_reducible refine br_50 ?_ ?_ | with_reducible refine br_51 ?_ ?_) <;> intro h <;> try simp (disch := first | assumption | exact Nat.le_of_ble_eq_true rfl | omega) only [ev_wr_id, not_true_eq_false, not_false_eq_true, Int.reduceEq, Int.reduceLT, Int.reduceLE, and_self, and_true, true_and, and_false, false_and, reduceIte] at h <;> try (exfalso; omega; done)))
theorem q_87 {b w : Int} (hA : ab_A σ T hs) (c1 : 0 ≤ b ∧ b < T 2) (c2 : 1 ≤ w ∧ w ≤ 60) : ab_Q 87 [.inl b, .inl w] σ (st_vw T b w) T hs := by
  refine q_gw (fun σ hT hA => ?_) hA; subst hT; obtain ⟨a1, a2, a3, a4, a5, a6⟩ := id hA
  obtain ⟨t0, t1, t2, t3, t4, t5, t6, t7, t8, r2, r3, r4, r5, r7, r11, r8, r9, r10, r12, r13, r14, r15, r16, r18, r19, r20, r21, r22⟩ := st_rd a1; obtain ⟨⟨i0, i1, i2, i3, i4, i5⟩, hr, hb, hc, hp, hl, hq⟩ := id a2; have hSn := ev_S_n; have hn0 : ev_n = 0 := rfl
  have hbb := hb b c1.1 c1.2
  unfold st_vw
  obtain ⟨r, hrd⟩ : ∃ r, r = σ 183 (89 + 5 * b) := ⟨_, rfl⟩
  have hrr := hrd.symm
  rw [hrr] at hbb ⊢
  have g := hr r (by omega) (by omega)
  have e7 : σ (ev_n + 7) b = r := by rw [r7 b (by omega) (by omega), hrr]
  have e2 := r2 r (by omega) (by omega)
  have e3 := r3 r (by omega) (by omega)
  have e4 := r4 r (by omega) (by omega)
  obtain ⟨z, hz⟩ : ∃ z, z = σ 183 (9 + 4 * r + 1) := ⟨_, rfl⟩
  have hzz := hz.symm
  rw [hzz] at g e3 ⊢
  have hsp := st_Gs_sp (s := σ 183 (9 + 4 * r)) (w := w) (o := r) a2 (by omega) (by omega) (by omega)
  generalize st_Gs (σ 183) w r (σ 183 (9 + 4 * r)) = G at hsp ⊢
  obtain ⟨F, e62, hF⟩ := c_62 (σ := σ) (s := ev_n) (T := σ 183) (G := G) (fr := σ 183 (9 + 4 * r)) (w := w) (o := r) hSn a1 a2 (by omega) (by omega) (by omega) hsp
  have hFz := hF z (by omega) (by omega)
  have hGz := hsp.2.1 z (by omega) (by omega)
  have hz10 : 0 ≤ z ∧ z < 10 := by omega
  have hr20 : 0 ≤ r ∧ r < 20 := by omega
  have hb6 : 0 ≤ b ∧ b < 6 := by omega
  refine q_N hA (σ1 := ev_ua σ 174 F) ?_ st_N_174
  rw [mm_87]
  have e61 := c_61 (σ := ev_ua σ 174 F) (t := z) hz10 (by rw [ev_ua_eq]; omega)
  rw [ev_ua_eq] at e61
  by_cases q : G z < 1000000
  · rw [if_pos (by omega)] at e61
    rw [if_pos q]
    have q4 : ev_ua σ 174 F (ev_n + 4) r = σ 183 (9 + 4 * r + 2) := by rw [ev_ua_ne (by omega), e4]
    repeat' (first | (simp (disch := first | assumption | exact Nat.le_of_ble_eq_true rfl | omega) only [bk_87_0, eo_1_0, g10_28_0, g7_28_1, eo_0_1, v1_2, ev_ki, ev_kv, eo_6, eo_56i, bk_87_1, eo_0_2, eo_60_3, bk_87_2, g1_28_1, eo_3_3n, eo_3_3i, eo_3_3r, g7_28_0, g6_28_3, eo_0_3, eo_3_4n, eo_3_4i, eo_3_4r, g10_28_5, g6_28_2, v9_5, eo_0_4, v9_2, g9_28_0, eo_10, g6_28_4, eo_11, eo_52, bk_87_3, eo_53, bk_87_4, a32_s7, a32_s3, a32_s2, a32_174, a32_s4, c_6, c_104, t2, e7, e2, e3, e62, e61, ev_ua_eq, hFz, q4, Int.add_zero, Int.add_sub_cancel, Int.reduceAdd, Int.reduceMul, Int.reduceSub, Int.reduceNeg, ev_wr_id]) | ((first | with_reducible refine br_40 ?_ ?_ | with_reducible refine br_41 ?_ ?_ | with_reducible refine br_42 ?_ ?_ | with_reducible refine br_43 ?_ ?_ | with_reducible refine br_44 ?_ ?_ | with_reducible refine br_45 ?_ ?_ | with_reducible refine br_46 ?_ ?_ | with_reducible refine br_47 ?_ ?_ | with_reducible refine br_48 ?_ ?_ | with_reducible refine br_49 ?_ ?_ | with_reducible refine br_50 ?_ ?_ | with_reducible refine br_51 ?_ ?_) <;> intro h <;> try simp (disch := first | assumption | exact Nat.le_of_ble_eq_true rfl | omega) only [ev_wr_id, not_true_eq_false, not_false_eq_true, Int.reduceEq, Int.reduceLT, Int.reduceLE, and_self, and_true, true_and, and_false, false_and, reduceIte] at h <;> try (exfalso; omega; done)))
  · rw [if_neg (by omega)] at e61
    rw [if_neg q]
    repeat' (first | (simp (disch := first | assumption | exact Nat.le_of_ble_eq_true rfl | omega) only [bk_87_0, eo_1_0, g10_28_0, g7_28_1, eo_0_1, v1_2, ev_ki, ev_kv, eo_6, eo_56i, bk_87_1, eo_0_2, eo_60_3, bk_87_2, g1_28_1, eo_3_3n, eo_3_3i, eo_3_3r, g7_28_0, g6_28_3, eo_0_3, eo_3_4n, eo_3_4i, eo_3_4r, g10_28_5, g6_28_2, v9_5, eo_0_4, v9_2, g9_28_0, eo_10, g6_28_4, eo_11, eo_52, bk_87_3, eo_53, bk_87_4, a32_s7, a32_s3, a32_s2, a32_174, a32_s4, c_6, c_104, t2, e7, e2, e3, e62, e61, ev_ua_eq, Int.add_zero, Int.add_sub_cancel, Int.reduceAdd, Int.reduceMul, Int.reduceSub, Int.reduceNeg, ev_wr_id]) | ((first | with_reducible refine br_40 ?_ ?_ | with_reducible refine br_41 ?_ ?_ | with_reducible refine br_42 ?_ ?_ | with_reducible refine br_43 ?_ ?_ | with_reducible refine br_44 ?_ ?_ | with_reducible refine br_45 ?_ ?_ | with_reducible refine br_46 ?_ ?_ | with_reducible refine br_47 ?_ ?_ | with_reducible refine br_48 ?_ ?_ | with_reducible refine br_49 ?_ ?_ | with_reducible refine br_50 ?_ ?_ | with_reducible refine br_51 ?_ ?_) <;> intro h <;> try simp (disch := first | assumption | exact Nat.le_of_ble_eq_true rfl | omega) only [ev_wr_id, not_true_eq_false, not_false_eq_true, Int.reduceEq, Int.reduceLT, Int.reduceLE, and_self, and_true, true_and, and_false, false_and, reduceIte] at h <;> try (exfalso; omega; done)))
theorem q_86 {a b w q : Int} (hA : ab_A σ T hs) (c1 : (0 ≤ a ∧ a < T 0) ∧ 0 ≤ b ∧ b < T 0) (c2 : (1 ≤ w ∧ w ≤ 60) ∧ 0 ≤ q) (hq9 : q ≤ 2147483647) : ab_Q 86 [.inl a, .inl b, .inl w, .inl q] σ (st_vt T a b w q) T hs := by
  refine q_gw (fun σ hT hA => ?_) hA; subst hT; obtain ⟨a1, a2, a3, a4, a5, a6⟩ := id hA
  obtain ⟨t0, t1, t2, t3, t4, t5, t6, t7, t8, r2, r3, r4, r5, r7, r11, r8, r9, r10, r12, r13, r14, r15, r16, r18, r19, r20, r21, r22⟩ := st_rd a1; obtain ⟨⟨i0, i1, i2, i3, i4, i5⟩, hr, hb, hc, hp, hl, hq⟩ := id a2; have hSn := ev_S_n; have hn0 : ev_n = 0 := rfl
  have hb10 : 0 ≤ b ∧ b < 10 := by omega
  have hsp := st_Gs_sp (w := w) (o := -1) a2 c1.1 (by omega) (by omega)
  have hpn := st_pn_p (b := b) a2 c1.1 hb10 c2.1
  unfold st_vt
  generalize st_Gs (σ 183) w (-1) a = G at hsp hpn ⊢
  generalize st_pn (σ 183) a b w = n at hpn ⊢
  obtain ⟨F, e62, hF⟩ := c_62 (σ := σ) (s := ev_n) (T := σ 183) (G := G) (w := w) (o := -1) hSn a1 a2 c1.1 (by omega) (by omega) hsp
  have hFb := hF b c1.2.1 (by omega)
  have hGb := hsp.2.1 b c1.2.1 (by omega)
  have e61 := c_61 (σ := ev_ua σ 174 F) (t := b) hb10 (by rw [ev_ua_eq]; omega)
  rw [ev_ua_eq] at e61
  by_cases c3 : G b < 1000000
  · rw [if_pos c3]
    obtain ⟨hn, hxn, hxi⟩ := hpn c3
    obtain ⟨x, hx⟩ : ∃ x, x = st_it (σ 183) w G b := ⟨_, rfl⟩
    rw [← hx] at hxn hxi ⊢
    have hx1 : ∀ i : Nat, x (i + 1) = st_nx (σ 183) w G (x i) := fun i => by rw [hx]; rfl
    have hx0 : x 0 = b := by rw [hx]; rfl
    have ra : 0 ≤ a ∧ a < 10 := by omega
    obtain ⟨B, e64, hB⟩ := c_64 (σ := ev_ua σ 174 F) (s := ev_n) (fr := a) (to := b) (w := w) (n := n) (x := x) hSn hn ra (fun i hi => (hxi i hi).1) hx0 hxn (fun i hi => (hxi i (by omega)).2.2 hi) (by rw [ev_ua_eq]; omega) (fun i B hi => by
      rw [hx1 i]
      refine c_65 hSn (st_E_t (st_T_congr (fun o q0 q1 => by rw [ev_ua_row (by omega), ev_ua_row (by omega)])) a1) a2 (hxi i (by omega)).1 c2.1 (fun y y0 y1 => ?_)
      rw [ev_ua_ne (by omega), ev_ua_eq, hF y y0 y1]
      have h3 := hsp.2.1 y y0 y1
      omega)
    obtain ⟨σ1, d1⟩ : ∃ z, z = ev_ua (ev_ua σ 174 F) 176 B := ⟨_, rfl⟩
    rw [← d1] at e64
    obtain ⟨v, hv⟩ : ∃ v : Int, v = if q ≤ n then x (n - q.toNat) else -1 := ⟨_, rfl⟩
    rw [← hv]
    refine q_N hA (σ1 := σ1) ?_ (by rw [d1]; exact st_N_t st_N_174 (st_N_ua (by omega)))
    obtain ⟨ni, hni⟩ : ∃ ni : Int, ni = n := ⟨_, rfl⟩
    have hni9 : 0 ≤ ni ∧ ni ≤ 9 := by omega
    rw [← hni] at e64
    by_cases c4 : q ≤ ni
    · have hBv : σ1 176 (ni - q) = v := by
        rw [d1, ev_ua_eq, hv, if_pos (by omega), ← hB (n - q.toNat) (by omega)]
        congr 1
        omega
      have hBw : σ1 176 (ni + 1 - 1 - q) = v := by rw [← hBv]; congr 1; omega
      clear hB hxi hx1 hx0 hxn hx hn hF hni hv hpn hsp
      rw [mm_86]
      repeat' (first | (simp (disch := first | assumption | exact Nat.le_of_ble_eq_true rfl | omega) only [bk_86_0, eo_1_0, g10_28_0, g7_28_0, eo_0_1, v6_2, ev_ki, ev_kv, eo_0_2, eo_53, bk_86_1, eo_6, eo_56i, bk_86_2, eo_0_3, eo_60_3, eo_0_4, bk_86_3, bk_86_4, g10_28_5, v9_5, eo_3_5n, eo_3_5i, eo_3_5r, eo_0_5, g9_28_2, eo_11, eo_52, bk_86_5, bk_86_6, a32_176, c_44, c_104, t0, e62, e64, hBv, hBw, Int.add_zero, Int.add_sub_cancel, Int.reduceAdd, Int.reduceMul, Int.reduceSub, Int.reduceNeg, ev_wr_id]) | ((first | with_reducible refine br_40 ?_ ?_ | with_reducible refine br_41 ?_ ?_ | with_reducible refine br_42 ?_ ?_ | with_reducible refine br_43 ?_ ?_ | with_reducible refine br_44 ?_ ?_ | with_reducible refine br_45 ?_ ?_ | with_reducible refine br_46 ?_ ?_ | with_reducible refine br_47 ?_ ?_ | with_reducible refine br_48 ?_ ?_ | with_reducible refine br_49 ?_ ?_ | with_reducible refine br_50 ?_ ?_ | with_reducible refine br_51 ?_ ?_) <;> intro h <;> try simp (disch := first | assumption | exact Nat.le_of_ble_eq_true rfl | omega) only [ev_wr_id, not_true_eq_false, not_false_eq_true, Int.reduceEq, Int.reduceLT, Int.reduceLE, and_self, and_true, true_and, and_false, false_and, reduceIte] at h <;> try (exfalso; omega; done)))
    · rw [if_neg (by omega)] at hv
      rw [hv]
      clear hB hxi hx1 hx0 hxn hx hn hF hni hv hpn hsp
      rw [mm_86]
      repeat' (first | (simp (disch := first | assumption | exact Nat.le_of_ble_eq_true rfl | omega) only [bk_86_0, eo_1_0, g10_28_0, g7_28_0, eo_0_1, v6_2, ev_ki, ev_kv, eo_0_2, eo_53, bk_86_1, eo_6, eo_56i, bk_86_2, eo_0_3, eo_60_3, eo_0_4, bk_86_3, bk_86_4, g10_28_5, v9_5, eo_3_5n, eo_3_5i, eo_3_5r, eo_0_5, g9_28_2, eo_11, eo_52, bk_86_5, bk_86_6, a32_176, c_44, c_104, t0, e62, e64, Int.add_zero, Int.add_sub_cancel, Int.reduceAdd, Int.reduceMul, Int.reduceSub, Int.reduceNeg, ev_wr_id]) | ((first | with_reducible refine br_40 ?_ ?_ | with_reducible refine br_41 ?_ ?_ | with_reducible refine br_42 ?_ ?_ | with_reducible refine br_43 ?_ ?_ | with_reducible refine br_44 ?_ ?_ | with_reducible refine br_45 ?_ ?_ | with_reducible refine br_46 ?_ ?_ | with_reducible refine br_47 ?_ ?_ | with_reducible refine br_48 ?_ ?_ | with_reducible refine br_49 ?_ ?_ | with_reducible refine br_50 ?_ ?_ | with_reducible refine br_51 ?_ ?_) <;> intro h <;> try simp (disch := first | assumption | exact Nat.le_of_ble_eq_true rfl | omega) only [ev_wr_id, not_true_eq_false, not_false_eq_true, Int.reduceEq, Int.reduceLT, Int.reduceLE, and_self, and_true, true_and, and_false, false_and, reduceIte] at h <;> try (exfalso; omega; done)))
  · rw [if_neg c3]
    rw [if_neg (by omega)] at e61
    have e64 : EM 64 [.inr (.inl 173), .inr (.inl ev_n), .inl a, .inl b, .inl w] (ev_ua σ 174 F) = some (some (.inl 0), ev_ua σ 174 F) := by
      rw [mm_64]
      repeat' (first | (simp (disch := first | assumption | exact Nat.le_of_ble_eq_true rfl | omega) only [bk_64_0, eo_1_0, eo_0_3, v9_2, ev_ki, ev_kv, eo_6, eo_56i, bk_64_1, eo_3_5n, eo_3_5i, eo_3_5r, eo_3_6n, eo_3_6i, eo_3_6r, eo_53, eo_0_5, eo_0_6, g9_28_2, eo_23_5n, eo_23_5i, eo_23_5r, eo_0_2, eo_52, bk_64_3, eo_1_1, eo_0_4, v9_4, bk_64_4, bk_64_5, a33_176, e61, Int.add_zero, Int.add_sub_cancel, Int.reduceAdd, Int.reduceMul, Int.reduceSub, Int.reduceNeg, ev_wr_id]) | ((first | with_reducible refine br_40 ?_ ?_ | with_reducible refine br_41 ?_ ?_ | with_reducible refine br_42 ?_ ?_ | with_reducible refine br_43 ?_ ?_ | with_reducible refine br_44 ?_ ?_ | with_reducible refine br_45 ?_ ?_ | with_reducible refine br_46 ?_ ?_ | with_reducible refine br_47 ?_ ?_ | with_reducible refine br_48 ?_ ?_ | with_reducible refine br_49 ?_ ?_ | with_reducible refine br_50 ?_ ?_ | with_reducible refine br_51 ?_ ?_) <;> intro h <;> try simp (disch := first | assumption | exact Nat.le_of_ble_eq_true rfl | omega) only [ev_wr_id, not_true_eq_false, not_false_eq_true, Int.reduceEq, Int.reduceLT, Int.reduceLE, and_self, and_true, true_and, and_false, false_and, reduceIte] at h <;> try (exfalso; omega; done)))
    refine q_N hA (σ1 := ev_ua σ 174 F) ?_ st_N_174
    clear hpn hsp
    rw [mm_86]
    repeat' (first | (simp (disch := first | assumption | exact Nat.le_of_ble_eq_true rfl | omega) only [bk_86_0, eo_1_0, g10_28_0, g7_28_0, eo_0_1, v6_2, ev_ki, ev_kv, eo_0_2, eo_53, bk_86_1, eo_6, eo_56i, bk_86_2, eo_0_3, eo_60_3, eo_0_4, bk_86_3, bk_86_4, g10_28_5, v9_5, eo_3_5n, eo_3_5i, eo_3_5r, eo_0_5, g9_28_2, eo_11, eo_52, bk_86_5, bk_86_6, a32_176, c_44, c_104, t0, e62, e64, Int.add_zero, Int.add_sub_cancel, Int.reduceAdd, Int.reduceMul, Int.reduceSub, Int.reduceNeg, ev_wr_id]) | ((first | with_reducible refine br_40 ?_ ?_ | with_reducible refine br_41 ?_ ?_ | with_reducible refine br_42 ?_ ?_ | with_reducible refine br_43 ?_ ?_ | with_reducible refine br_44 ?_ ?_ | with_reducible refine br_45 ?_ ?_ | with_reducible refine br_46 ?_ ?_ | with_reducible refine br_47 ?_ ?_ | with_reducible refine br_48 ?_ ?_ | with_reducible refine br_49 ?_ ?_ | with_reducible refine br_50 ?_ ?_ | with_reducible refine br_51 ?_ ?_) <;> intro h <;> try simp (disch := first | assumption | exact Nat.le_of_ble_eq_true rfl | omega) only [ev_wr_id, not_true_eq_false, not_false_eq_true, Int.reduceEq, Int.reduceLT, Int.reduceLE, and_self, and_true, true_and, and_false, false_and, reduceIte] at h <;> try (exfalso; omega; done)))
theorem q_88 {a b : Int} (hA : ab_A σ T hs) (c1 : (0 ≤ a ∧ a < T 0) ∧ 0 ≤ b ∧ b < T 0) (c2 : ¬ a = b) : ∃ L, (0 ≤ L ∧ L ≤ 60) ∧ (∀ w, 1 ≤ w → w ≤ 60 → (w ≤ L ↔ st_R T a w b)) ∧ ab_Q 88 [.inl a, .inl b] σ (if 0 < L then L else -1) T hs := by
  have key : ∀ σ, σ 183 = T → ab_A σ T hs → ∃ L, (0 ≤ L ∧ L ≤ 60) ∧ (∀ w, 1 ≤ w → w ≤ 60 → (w ≤ L ↔ st_R T a w b)) ∧ ab_Q 88 [.inl a, .inl b] σ (if 0 < L then L else -1) T hs := by
    intro σ hT hA
    subst hT
    obtain ⟨a1, a2, a3, a4, a5, a6⟩ := id hA
    obtain ⟨t0, t1, t2, t3, t4, t5, t6, t7, t8, r2, r3, r4, r5, r7, r11, r8, r9, r10, r12, r13, r14, r15, r16, r18, r19, r20, r21, r22⟩ := st_rd a1; obtain ⟨⟨i0, i1, i2, i3, i4, i5⟩, hr, hb, hc, hp, hl, hq⟩ := id a2; have hSn := ev_S_n; have hn0 : ev_n = 0 := rfl
    have hb10 : 0 ≤ b ∧ b < 10 := by omega
    obtain ⟨L, e66, hL⟩ := c_66 (σ := σ) (s := ev_n) (fr := a) (to := b) (T := σ 183) hSn a1 a2 c1.1 hb10 (fun w w0 w1 => st_sp_ex a2 c1.1)
    have hLb := hL.1 b hb10.1 hb10.2
    refine ⟨L b, hLb, fun w w0 w1 => hL.2 w b w0 w1 hb10.1 hb10.2, q_N hA (σ1 := ev_ua σ 175 L) ?_ (st_N_ua (by omega))⟩
    rw [mm_88]
    by_cases c3 : 0 < L b
    · rw [if_pos c3]
      repeat' (first | (simp (disch := first | assumption | exact Nat.le_of_ble_eq_true rfl | omega) only [bk_88_0, eo_1_0, g10_28_0, g7_28_0, eo_0_1, v6_2, ev_ki, ev_kv, eo_0_2, eo_53, bk_88_1, eo_6, eo_56i, bk_88_2, bk_88_3, g10_28_5, v9_4, eo_3_3n, eo_3_3i, eo_3_3r, eo_0_3, eo_52, bk_88_4, bk_88_5, c_44, t0, e66, Int.add_zero, Int.add_sub_cancel, Int.reduceAdd, Int.reduceMul, Int.reduceSub, Int.reduceNeg, ev_wr_id]) | ((first | with_reducible refine br_40 ?_ ?_ | with_reducible refine br_41 ?_ ?_ | with_reducible refine br_42 ?_ ?_ | with_reducible refine br_43 ?_ ?_ | with_reducible refine br_44 ?_ ?_ | with_reducible refine br_45 ?_ ?_ | with_reducible refine br_46 ?_ ?_ | with_reducible refine br_47 ?_ ?_ | with_reducible refine br_48 ?_ ?_ | with_reducible refine br_49 ?_ ?_ | with_reducible refine br_50 ?_ ?_ | with_reducible refine br_51 ?_ ?_) <;> intro h <;> try simp (disch := first | assumption | exact Nat.le_of_ble_eq_true rfl | omega) only [ev_wr_id, not_true_eq_false, not_false_eq_true, Int.reduceEq, Int.reduceLT, Int.reduceLE, and_self, and_true, true_and, and_false, false_and, reduceIte] at h <;> try (exfalso; omega; done)))
    · rw [if_neg c3]
      repeat' (first | (simp (disch := first | assumption | exact Nat.le_of_ble_eq_true rfl | omega) only [bk_88_0, eo_1_0, g10_28_0, g7_28_0, eo_0_1, v6_2, ev_ki, ev_kv, eo_0_2, eo_53, bk_88_1, eo_6, eo_56i, bk_88_2, bk_88_3, g10_28_5, v9_4, eo_3_3n, eo_3_3i, eo_3_3r, eo_0_3, eo_52, bk_88_4, bk_88_5, c_44, t0, e66, Int.add_zero, Int.add_sub_cancel, Int.reduceAdd, Int.reduceMul, Int.reduceSub, Int.reduceNeg, ev_wr_id]) | ((first | with_reducible refine br_40 ?_ ?_ | with_reducible refine br_41 ?_ ?_ | with_reducible refine br_42 ?_ ?_ | with_reducible refine br_43 ?_ ?_ | with_reducible refine br_44 ?_ ?_ | with_reducible refine br_45 ?_ ?_ | with_reducible refine br_46 ?_ ?_ | with_reducible refine br_47 ?_ ?_ | with_reducible refine br_48 ?_ ?_ | with_reducible refine br_49 ?_ ?_ | with_reducible refine br_50 ?_ ?_ | with_reducible refine br_51 ?_ ?_) <;> intro h <;> try simp (disch := first | assumption | exact Nat.le_of_ble_eq_true rfl | omega) only [ev_wr_id, not_true_eq_false, not_false_eq_true, Int.reduceEq, Int.reduceLT, Int.reduceLE, and_self, and_true, true_and, and_false, false_and, reduceIte] at h <;> try (exfalso; omega; done)))
  obtain ⟨L, h1, h2, h3⟩ := key (ev_ua σ 183 T) (funext fun _ => ev_ua_eq) (A_gh T hA)
  refine ⟨L, h1, h2, ?_⟩
  obtain ⟨σ1, e1, b1⟩ := h3
  have e2 := EM_gh (F := σ 183) e1
  rw [ev_ua_ua, ev_ua_self] at e2
  exact ⟨_, e2, A_gh _ b1⟩
theorem q_88e {a : Int} (hA : ab_A σ T hs) (c1 : 0 ≤ a ∧ a < T 0) : ab_Q 88 [.inl a, .inl a] σ (-4) T hs := by
  refine q_gw (fun σ hT hA => ?_) hA; subst hT; obtain ⟨a1, a2, a3, a4, a5, a6⟩ := id hA
  obtain ⟨t0, t1, t2, t3, t4, t5, t6, t7, t8, r2, r3, r4, r5, r7, r11, r8, r9, r10, r12, r13, r14, r15, r16, r18, r19, r20, r21, r22⟩ := st_rd a1; obtain ⟨⟨i0, i1, i2, i3, i4, i5⟩, hr, hb, hc, hp, hl, hq⟩ := id a2; have hSn := ev_S_n; have hn0 : ev_n = 0 := rfl
  refine q_N hA (σ1 := σ) ?_ st_N_r
  rw [mm_88]
  repeat' (first | (simp (disch := first | assumption | exact Nat.le_of_ble_eq_true rfl | omega) only [bk_88_0, eo_1_0, g10_28_0, g7_28_0, eo_0_1, v6_2, ev_ki, ev_kv, eo_0_2, eo_53, bk_88_1, eo_6, eo_56i, bk_88_2, bk_88_3, g10_28_5, v9_4, eo_3_3n, eo_3_3i, eo_3_3r, eo_0_3, eo_52, bk_88_4, bk_88_5, c_44, t0, Int.add_zero, Int.add_sub_cancel, Int.reduceAdd, Int.reduceMul, Int.reduceSub, Int.reduceNeg, ev_wr_id]) | ((first | with_reducible refine br_40 ?_ ?_ | with_reducible refine br_41 ?_ ?_ | with_reducible refine br_42 ?_ ?_ | with_reducible refine br_43 ?_ ?_ | with_reducible refine br_44 ?_ ?_ | with_reducible refine br_45 ?_ ?_ | with_reducible refine br_46 ?_ ?_ | with_reducible refine br_47 ?_ ?_ | with_reducible refine br_48 ?_ ?_ | with_reducible refine br_49 ?_ ?_ | with_reducible refine br_50 ?_ ?_ | with_reducible refine br_51 ?_ ?_) <;> intro h <;> try simp (disch := first | assumption | exact Nat.le_of_ble_eq_true rfl | omega) only [ev_wr_id, not_true_eq_false, not_false_eq_true, Int.reduceEq, Int.reduceLT, Int.reduceLE, and_self, and_true, true_and, and_false, false_and, reduceIte] at h <;> try (exfalso; omega; done)))
theorem q_82 {x h : Int} (hA : ab_A σ T hs) (hx9 : -2147483648 ≤ x ∧ x ≤ 2147483647) (hh9 : -2147483648 ≤ h ∧ h ≤ 2147483647) : (0 ≤ x ∧ x < T 0 → 1 ≤ h ∧ h ≤ 200 → ab_Q 82 [.inl x, .inl h] σ (st_run 6 T x h 0 (fun _ => -1)).2.1 (st_run 6 T x h 0 (fun _ => -1)).1 (ab_kp T hs)) ∧ (¬ (0 ≤ x ∧ x < T 0) → ab_Q 82 [.inl x, .inl h] σ (-2) T hs) := by
  refine ⟨fun c1 c2 => ?_, fun c1 => ?_⟩
  · refine q_gw (fun σ hT hA => ?_) hA; subst hT; obtain ⟨a1, a2, a3, a4, a5, a6⟩ := id hA
    obtain ⟨t0, t1, t2, t3, t4, t5, t6, t7, t8, r2, r3, r4, r5, r7, r11, r8, r9, r10, r12, r13, r14, r15, r16, r18, r19, r20, r21, r22⟩ := st_rd a1; obtain ⟨⟨i0, i1, i2, i3, i4, i5⟩, hr, hb, hc, hp, hl, hq⟩ := id a2; have hSn := ev_S_n; have hn0 : ev_n = 0 := rfl
    obtain ⟨σa, e26, hF, hfin⟩ := A_sv hA
    have hEa : st_E (st_T σa ev_n) (σ 183) := st_E_t (st_T_congr (fun o q0 q1 => hF _ (by omega))) a1
    obtain ⟨σ1, e57, f1, k1, k2, k3, k4⟩ := c_57 (σ := σa) (s := ev_n) (x := x) (h := h) (T := σ 183) hSn hEa a2 c1 (by omega)
    refine ⟨σ1, ?_, hfin σ1 _ (fun i hi => f1 i (by omega) (by omega) (by omega) (by omega) (by omega) (by omega)) k1 k2⟩
    rw [← k3, mm_82]
    clear k1 k2 k3 k4
    repeat' (first | (simp (disch := first | assumption | exact Nat.le_of_ble_eq_true rfl | omega) only [bk_82_0, eo_1_0, g10_28_0, g7_28_0, eo_0_1, v6_2, ev_ki, ev_kv, eo_6, eo_56i, bk_82_1, eo_0_2, eo_60_3, bk_82_2, g10_28_2, v3_2, g10_28_6, g10_28_5, g10_28_4, v8_6, g8_27, c_44, c_104, t0, e26, e57, Int.add_zero, Int.add_sub_cancel, Int.reduceAdd, Int.reduceMul, Int.reduceSub, Int.reduceNeg, ev_wr_id]) | ((first | with_reducible refine br_40 ?_ ?_ | with_reducible refine br_41 ?_ ?_ | with_reducible refine br_42 ?_ ?_ | with_reducible refine br_43 ?_ ?_ | with_reducible refine br_44 ?_ ?_ | with_reducible refine br_45 ?_ ?_ | with_reducible refine br_46 ?_ ?_ | with_reducible refine br_47 ?_ ?_ | with_reducible refine br_48 ?_ ?_ | with_reducible refine br_49 ?_ ?_ | with_reducible refine br_50 ?_ ?_ | with_reducible refine br_51 ?_ ?_) <;> intro h <;> try simp (disch := first | assumption | exact Nat.le_of_ble_eq_true rfl | omega) only [ev_wr_id, not_true_eq_false, not_false_eq_true, Int.reduceEq, Int.reduceLT, Int.reduceLE, and_self, and_true, true_and, and_false, false_and, reduceIte] at h <;> try (exfalso; omega; done)))
  · refine q_gw (fun σ hT hA => ?_) hA; subst hT; obtain ⟨a1, a2, a3, a4, a5, a6⟩ := id hA
    obtain ⟨t0, t1, t2, t3, t4, t5, t6, t7, t8, r2, r3, r4, r5, r7, r11, r8, r9, r10, r12, r13, r14, r15, r16, r18, r19, r20, r21, r22⟩ := st_rd a1; obtain ⟨⟨i0, i1, i2, i3, i4, i5⟩, hr, hb, hc, hp, hl, hq⟩ := id a2; have hSn := ev_S_n; have hn0 : ev_n = 0 := rfl
    refine q_N hA (σ1 := σ) ?_ st_N_r
    rw [mm_82]
    repeat' (first | (simp (disch := first | assumption | exact Nat.le_of_ble_eq_true rfl | omega) only [bk_82_0, eo_1_0, g10_28_0, g7_28_0, eo_0_1, v6_2, ev_ki, ev_kv, eo_6, eo_56i, bk_82_1, eo_0_2, eo_60_3, bk_82_2, g10_28_2, v3_2, g10_28_6, g10_28_5, g10_28_4, v8_6, g8_27, c_44, c_104, t0, Int.add_zero, Int.add_sub_cancel, Int.reduceAdd, Int.reduceMul, Int.reduceSub, Int.reduceNeg, ev_wr_id]) | ((first | with_reducible refine br_40 ?_ ?_ | with_reducible refine br_41 ?_ ?_ | with_reducible refine br_42 ?_ ?_ | with_reducible refine br_43 ?_ ?_ | with_reducible refine br_44 ?_ ?_ | with_reducible refine br_45 ?_ ?_ | with_reducible refine br_46 ?_ ?_ | with_reducible refine br_47 ?_ ?_ | with_reducible refine br_48 ?_ ?_ | with_reducible refine br_49 ?_ ?_ | with_reducible refine br_50 ?_ ?_ | with_reducible refine br_51 ?_ ?_) <;> intro h <;> try simp (disch := first | assumption | exact Nat.le_of_ble_eq_true rfl | omega) only [ev_wr_id, not_true_eq_false, not_false_eq_true, Int.reduceEq, Int.reduceLT, Int.reduceLE, and_self, and_true, true_and, and_false, false_and, reduceIte] at h <;> try (exfalso; omega; done)))
theorem q_83 {x h i : Int} (hA : ab_A σ T hs) (c1 : 0 ≤ x ∧ x < T 0) (c2 : (1 ≤ h ∧ h ≤ 200) ∧ 0 ≤ i) (hi9 : i ≤ 2147483647) : ab_Q 83 [.inl x, .inl h, .inl i] σ (if i < (st_run 6 T x h 0 (fun _ => -1)).2.1 then (st_run 6 T x h 0 (fun _ => -1)).2.2 i else -1) T hs := by
  refine q_gw (fun σ hT hA => ?_) hA; subst hT; obtain ⟨a1, a2, a3, a4, a5, a6⟩ := id hA
  obtain ⟨t0, t1, t2, t3, t4, t5, t6, t7, t8, r2, r3, r4, r5, r7, r11, r8, r9, r10, r12, r13, r14, r15, r16, r18, r19, r20, r21, r22⟩ := st_rd a1; obtain ⟨⟨i0, i1, i2, i3, i4, i5⟩, hr, hb, hc, hp, hl, hq⟩ := id a2; have hSn := ev_S_n; have hn0 : ev_n = 0 := rfl
  have hsp : ev_sp = 23 := rfl
  have hSp := ev_S_sp
  have hcl : ∀ b, 0 ≤ b → b < 6 → 0 ≤ σ (ev_n + 10) b ∧ σ (ev_n + 10) b ≤ 1 := fun b h0 h1 => by
    rw [r10 b h0 h1]
    exact a2.2.2.2.1 b h0 h1
  obtain ⟨σa, e56, hC, hF⟩ := c_56 (σ := σ) (s := ev_n) (t := ev_sp) hSn ev_S_sp (by omega) hcl
  have hEa : st_E (st_T σa ev_sp) (σ 183) := st_E_t hC a1
  obtain ⟨σ1, e57, f1, k1, k2, k3, k4⟩ := c_57 (σ := σa) (s := ev_sp) (x := x) (h := h) (T := σ 183) ev_S_sp hEa a2 c1 (by omega)
  have ff : ∀ j, (j < 23 ∨ 45 < j) → j ≠ 171 → j ≠ 172 → j ≠ 174 → j ≠ 177 → j ≠ 178 → σ1 j = σ j := fun j h0 h1 h2 h3 h4 h5 => by rw [f1 j (by omega) h1 h2 h3 h4 h5, hF j (by omega)]
  have hrun := st_run_in 6 (σ 183) x h 0 (fun _ => -1)
  have hm6 : 0 ≤ σ1 177 0 ∧ σ1 177 0 ≤ 6 := by
    rw [k3]
    omega
  refine ⟨σ1, ?_, A_rows hA (fun j hj => ff j (by omega) (by omega) (by omega) (by omega) (by omega) (by omega)) (by rw [ff 162 (by omega) (by omega) (by omega) (by omega) (by omega) (by omega)]) (by rw [ff 164 (by omega) (by omega) (by omega) (by omega) (by omega) (by omega)])⟩
  have k5 := k4 i c2.2
  rw [← k3] at k5 ⊢
  by_cases c3 : i < σ1 177 0
  · rw [if_pos c3, ← k5 c3]
    clear k1 k2 k3 k4 k5 hrun f1 ff
    rw [mm_83]
    repeat' (first | (simp (disch := first | assumption | exact Nat.le_of_ble_eq_true rfl | omega) only [bk_83_0, eo_1_0, g10_28_0, g7_28_0, eo_0_1, v6_2, ev_ki, ev_kv, eo_6, eo_56i, bk_83_1, eo_0_2, eo_60_3, eo_0_3, eo_53, bk_83_2, bk_83_3, g10_28_1, v7_2, g10_28_6, g10_28_5, g10_28_4, v8_6, g8_27, g8_28_1, eo_52, bk_83_4, bk_83_5, a32_178, c_44, c_104, t0, e56, e57, Int.add_zero, Int.add_sub_cancel, Int.reduceAdd, Int.reduceMul, Int.reduceSub, Int.reduceNeg, ev_wr_id]) | ((first | with_reducible refine br_40 ?_ ?_ | with_reducible refine br_41 ?_ ?_ | with_reducible refine br_42 ?_ ?_ | with_reducible refine br_43 ?_ ?_ | with_reducible refine br_44 ?_ ?_ | with_reducible refine br_45 ?_ ?_ | with_reducible refine br_46 ?_ ?_ | with_reducible refine br_47 ?_ ?_ | with_reducible refine br_48 ?_ ?_ | with_reducible refine br_49 ?_ ?_ | with_reducible refine br_50 ?_ ?_ | with_reducible refine br_51 ?_ ?_) <;> intro h <;> try simp (disch := first | assumption | exact Nat.le_of_ble_eq_true rfl | omega) only [ev_wr_id, not_true_eq_false, not_false_eq_true, Int.reduceEq, Int.reduceLT, Int.reduceLE, and_self, and_true, true_and, and_false, false_and, reduceIte] at h <;> try (exfalso; omega; done)))
  · rw [if_neg c3]
    clear k1 k2 k3 k4 k5 hrun f1 ff
    rw [mm_83]
    repeat' (first | (simp (disch := first | assumption | exact Nat.le_of_ble_eq_true rfl | omega) only [bk_83_0, eo_1_0, g10_28_0, g7_28_0, eo_0_1, v6_2, ev_ki, ev_kv, eo_6, eo_56i, bk_83_1, eo_0_2, eo_60_3, eo_0_3, eo_53, bk_83_2, bk_83_3, g10_28_1, v7_2, g10_28_6, g10_28_5, g10_28_4, v8_6, g8_27, g8_28_1, eo_52, bk_83_4, bk_83_5, a32_178, c_44, c_104, t0, e56, e57, Int.add_zero, Int.add_sub_cancel, Int.reduceAdd, Int.reduceMul, Int.reduceSub, Int.reduceNeg, ev_wr_id]) | ((first | with_reducible refine br_40 ?_ ?_ | with_reducible refine br_41 ?_ ?_ | with_reducible refine br_42 ?_ ?_ | with_reducible refine br_43 ?_ ?_ | with_reducible refine br_44 ?_ ?_ | with_reducible refine br_45 ?_ ?_ | with_reducible refine br_46 ?_ ?_ | with_reducible refine br_47 ?_ ?_ | with_reducible refine br_48 ?_ ?_ | with_reducible refine br_49 ?_ ?_ | with_reducible refine br_50 ?_ ?_ | with_reducible refine br_51 ?_ ?_) <;> intro h <;> try simp (disch := first | assumption | exact Nat.le_of_ble_eq_true rfl | omega) only [ev_wr_id, not_true_eq_false, not_false_eq_true, Int.reduceEq, Int.reduceLT, Int.reduceLE, and_self, and_true, true_and, and_false, false_and, reduceIte] at h <;> try (exfalso; omega; done)))
end WYS
