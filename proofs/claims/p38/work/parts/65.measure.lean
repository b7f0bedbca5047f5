/-! ways: the class's search -/
theorem ev_S_in {s : Int} (hs : ev_S s) : 0 ≤ s ∧ s ≤ 138 := by
  unfold ev_S at hs
  omega
theorem e_52 {σ : ev_M} {s r : Int} {T : Int → Int} (hs : ev_S s) (hE : st_E (st_T σ s) T) (hI : st_I T) (hr : 0 ≤ r ∧ r < T 1) : EM 52 [.inr (.inl s), .inl r] σ = some (some (.inl (st_lim T r)), σ) := by
  have i1 := hI.1.2.1
  have i2 := hI.1.2.2.1
  have g := hI.2.1 r hr.1 hr.2
  have hb := hI.2.2.1 (T (9 + 4 * r + 3))
  have hc := hI.2.2.2.1 (T (9 + 4 * r + 3))
  have e5 : σ (s + 5) r = T (9 + 4 * r + 3) := by rw [tr_5 (σ := σ) (s := s) (by omega), hE _ (by omega) (by omega)]
  have e6 : σ (s + 6) 0 = T 2 := by rw [tr_n2 (σ := σ) (s := s), hE _ (by omega) (by omega)]
  unfold st_lim
  by_cases c1 : T (9 + 4 * r + 3) = -1
  · rw [c_52 hs (by omega) e5 (by omega) (by omega) (fun h => absurd c1 h), if_pos c1, if_pos c1]
  · have hbb := hb (by omega) (by omega)
    have hcc := hc (by omega) (by omega)
    have e8 : σ (s + 8) (T (9 + 4 * r + 3)) = T (89 + 5 * T (9 + 4 * r + 3) + 2) := by rw [tr_8 (σ := σ) (s := s) (by omega), hE _ (by omega) (by omega)]
    have e10 : σ (s + 10) (T (9 + 4 * r + 3)) = T (89 + 5 * T (9 + 4 * r + 3) + 4) := by rw [tr_10 (σ := σ) (s := s) (by omega), hE _ (by omega) (by omega)]
    rw [c_52 hs (by omega) e5 (by omega) (by omega) (fun _ => by omega), if_neg c1, if_neg c1, e8, e10]
    by_cases c2 : T (89 + 5 * T (9 + 4 * r + 3) + 4) = 1
    · rw [if_pos c2, if_neg (by omega)]
    · rw [if_neg c2, if_pos (by omega)]
def st_nr (F F2 : Int → Int) (v one two len : Int) : Prop := (v = 0 ∨ v = 1) ∧ (v = 0 → F2 = F ∧ F two ≤ F one + len ∧ F one ≤ F two + len) ∧ (∀ y, F2 y ≤ F y) ∧ F2 two ≤ F one + len ∧ F2 one ≤ F two + len ∧ ∀ y, F2 y = F y ∨ (y = two ∧ F2 y = F one + len) ∨ (y = one ∧ F2 y = F two + len)
theorem c_63 {σ : ev_M} {s r one two len : Int} {F : Int → Int} (hs : ev_S s) (hr : 0 ≤ r ∧ r < 20) (h1 : σ (s + 2) r = one) (h2 : σ (s + 3) r = two) (h3 : σ (s + 4) r = len) (b1 : 0 ≤ one ∧ one < 10) (b2 : 0 ≤ two ∧ two < 10) (h12 : one ≠ two) (b3 : 1 ≤ len ∧ len ≤ 99) (hF1 : 0 ≤ F one ∧ F one ≤ 1000000) (hF2 : 0 ≤ F two ∧ F two ≤ 1000000) : ∃ F2 v, EM 63 [.inr (.inl 173), .inr (.inl (s + 1)), .inl r] (ev_ua σ 174 F) = some (some (.inl v), ev_ua σ 174 F2) ∧ st_nr F F2 v one two len := by
  have hsb := ev_S_in hs
  by_cases c1 : F one + len < F two
  · refine ⟨ev_u1 F two (F one + len), 1, ?_, Or.inr rfl, fun h => by omega, fun y => ?_, by rw [ev_u1_eq rfl]; exact Int.le_refl _, by rw [ev_u1_ne h12]; omega, fun y => ?_⟩
    · rw [mm_63]
      repeat' (first | (simp (disch := first | assumption | exact Nat.le_of_ble_eq_true rfl | omega) only [bk_63_0, eo_1_1, g6_28_2, eo_0_2, eo_3_3n, eo_3_3i, eo_3_3r, g6_28_3, eo_3_4n, eo_3_4i, eo_3_4r, g6_28_4, eo_3_5n, eo_3_5i, eo_3_5r, eo_6, eo_3_6n, eo_3_6i, eo_3_6r, eo_1_0, g9_28_0, eo_0_3, eo_0_5, eo_10, eo_0_4, eo_53, bk_63_1, bk_63_2, eo_0_6, eo_56z, a32_s2, a33_s2, a32_s3, a33_s3, a32_s4, a33_s4, a32_174, a33_174, ev_ua_ne, ev_ua_eq, h1, h2, h3, ev_up_ua, ev_u1_eq, ev_u1_ne, Int.add_zero, Int.add_sub_cancel, Int.reduceAdd, Int.reduceMul, Int.reduceSub, Int.reduceNeg, ev_wr_id]) | ((first | with_reducible refine br_40 ?_ ?_ | with_reducible refine br_41 ?_ ?_ | with_reducible refine br_42 ?_ ?_ | with_reducible refine br_43 ?_ ?_ | with_reducible refine br_44 ?_ ?_ | with_reducible refine br_45 ?_ ?_ | with_reducible refine br_46 ?_ ?_ | with_reducible refine br_47 ?_ ?_ | with_reducible refine br_48 ?_ ?_ | with_reducible refine br_49 ?_ ?_ | with_reducible refine br_50 ?_ ?_ | with_reducible refine br_51 ?_ ?_) <;> intro h <;> try simp (disch := first | assumption | exact Nat.le_of_ble_eq_true rfl | omega) only [ev_wr_id, not_true_eq_false, not_false_eq_true, Int.reduceEq, Int.reduceLT, Int.reduceLE, and_self, and_true, true_and, and_false, false_and, reduceIte] at h <;> try (exfalso; omega; done)))
    · by_cases c : y = two
      · rw [ev_u1_eq c, c]
        omega
      · rw [ev_u1_ne c]
        exact Int.le_refl _
    · by_cases c : y = two
      · rw [ev_u1_eq c]
        exact Or.inr (Or.inl ⟨c, rfl⟩)
      · exact Or.inl (ev_u1_ne c)
  · by_cases c2 : F two + len < F one
    · refine ⟨ev_u1 F one (F two + len), 1, ?_, Or.inr rfl, fun h => by omega, fun y => ?_, by rw [ev_u1_ne (by omega)]; omega, by rw [ev_u1_eq rfl]; exact Int.le_refl _, fun y => ?_⟩
      · rw [mm_63]
        repeat' (first | (simp (disch := first | assumption | exact Nat.le_of_ble_eq_true rfl | omega) only [bk_63_0, eo_1_1, g6_28_2, eo_0_2, eo_3_3n, eo_3_3i, eo_3_3r, g6_28_3, eo_3_4n, eo_3_4i, eo_3_4r, g6_28_4, eo_3_5n, eo_3_5i, eo_3_5r, eo_6, eo_3_6n, eo_3_6i, eo_3_6r, eo_1_0, g9_28_0, eo_0_3, eo_0_5, eo_10, eo_0_4, eo_53, bk_63_1, bk_63_2, eo_0_6, eo_56z, a32_s2, a33_s2, a32_s3, a33_s3, a32_s4, a33_s4, a32_174, a33_174, ev_ua_ne, ev_ua_eq, h1, h2, h3, ev_up_ua, Int.add_zero, Int.add_sub_cancel, Int.reduceAdd, Int.reduceMul, Int.reduceSub, Int.reduceNeg, ev_wr_id]) | ((first | with_reducible refine br_40 ?_ ?_ | with_reducible refine br_41 ?_ ?_ | with_reducible refine br_42 ?_ ?_ | with_reducible refine br_43 ?_ ?_ | with_reducible refine br_44 ?_ ?_ | with_reducible refine br_45 ?_ ?_ | with_reducible refine br_46 ?_ ?_ | with_reducible refine br_47 ?_ ?_ | with_reducible refine br_48 ?_ ?_ | with_reducible refine br_49 ?_ ?_ | with_reducible refine br_50 ?_ ?_ | with_reducible refine br_51 ?_ ?_) <;> intro h <;> try simp (disch := first | assumption | exact Nat.le_of_ble_eq_true rfl | omega) only [ev_wr_id, not_true_eq_false, not_false_eq_true, Int.reduceEq, Int.reduceLT, Int.reduceLE, and_self, and_true, true_and, and_false, false_and, reduceIte] at h <;> try (exfalso; omega; done)))
      · by_cases c : y = one
        · rw [ev_u1_eq c, c]
          omega
        · rw [ev_u1_ne c]
          exact Int.le_refl _
      · by_cases c : y = one
        · rw [ev_u1_eq c]
          exact Or.inr (Or.inr ⟨c, rfl⟩)
        · exact Or.inl (ev_u1_ne c)
    · refine ⟨F, 0, ?_, Or.inl rfl, fun _ => ⟨rfl, by omega, by omega⟩, fun y => Int.le_refl _, by omega, by omega, fun y => Or.inl rfl⟩
      rw [mm_63]
      repeat' (first | (simp (disch := first | assumption | exact Nat.le_of_ble_eq_true rfl | omega) only [bk_63_0, eo_1_1, g6_28_2, eo_0_2, eo_3_3n, eo_3_3i, eo_3_3r, g6_28_3, eo_3_4n, eo_3_4i, eo_3_4r, g6_28_4, eo_3_5n, eo_3_5i, eo_3_5r, eo_6, eo_3_6n, eo_3_6i, eo_3_6r, eo_1_0, g9_28_0, eo_0_3, eo_0_5, eo_10, eo_0_4, eo_53, bk_63_1, bk_63_2, eo_0_6, eo_56z, a32_s2, a33_s2, a32_s3, a33_s3, a32_s4, a33_s4, a32_174, a33_174, ev_ua_ne, ev_ua_eq, h1, h2, h3, Int.add_zero, Int.add_sub_cancel, Int.reduceAdd, Int.reduceMul, Int.reduceSub, Int.reduceNeg, ev_wr_id]) | ((first | with_reducible refine br_40 ?_ ?_ | with_reducible refine br_41 ?_ ?_ | with_reducible refine br_42 ?_ ?_ | with_reducible refine br_43 ?_ ?_ | with_reducible refine br_44 ?_ ?_ | with_reducible refine br_45 ?_ ?_ | with_reducible refine br_46 ?_ ?_ | with_reducible refine br_47 ?_ ?_ | with_reducible refine br_48 ?_ ?_ | with_reducible refine br_49 ?_ ?_ | with_reducible refine br_50 ?_ ?_ | with_reducible refine br_51 ?_ ?_) <;> intro h <;> try simp (disch := first | assumption | exact Nat.le_of_ble_eq_true rfl | omega) only [ev_wr_id, not_true_eq_false, not_false_eq_true, Int.reduceEq, Int.reduceLT, Int.reduceLE, and_self, and_true, true_and, and_false, false_and, reduceIte] at h <;> try (exfalso; omega; done)))
/-- a turn over the roads, as far as r -/
def st_tu (T : Int → Int) (w o : Int) (G F0 F : Int → Int) (r v : Int) : Prop := (v = 0 ∨ v = 1) ∧ (v = 0 → F = F0) ∧ (∀ y, F y ≤ F0 y) ∧ (∀ y, 0 ≤ y → y < 10 → G y ≤ F y) ∧ ∀ q x y, q < r → st_ej T w o q x y → F y ≤ F0 x + T (9 + 4 * q + 2)
theorem st_tu_n {T : Int → Int} {w o r v : Int} {G F0 F : Int → Int} (h : st_tu T w o G F0 F r v) (hn : ¬ st_ub T w o r) : st_tu T w o G F0 F (r + 1) v := ⟨h.1, h.2.1, h.2.2.1, h.2.2.2.1, fun q x y hq he => by
  by_cases c : q = r
  · rw [c] at he
    exact absurd he.2.1 hn
  · exact h.2.2.2.2 q x y (by omega) he⟩
theorem st_tu_e {T : Int → Int} {w o s r v v2 : Int} {G F0 F F2 : Int → Int} (hI : st_I T) (hG : st_sp T w o s G) (hr : 0 ≤ r ∧ r < T 1) (h : st_tu T w o G F0 F r v) (hu : st_ub T w o r) (hn : st_nr F F2 v2 (T (9 + 4 * r)) (T (9 + 4 * r + 1)) (T (9 + 4 * r + 2))) (v3 : Int) (hv3 : (v2 = 0 → v3 = v) ∧ (v2 = 1 → v3 = 1)) : st_tu T w o G F0 F2 (r + 1) v3 := by
  obtain ⟨k1, k2, k3, k4, k5⟩ := h
  obtain ⟨n1, n2, n3, n4, n5, n6⟩ := hn
  have g := hI.2.1 r hr.1 hr.2
  have i0 := hI.1.1
  have g1 := hG.2.2.1 r _ _ ⟨hr, hu, Or.inl ⟨rfl, rfl⟩⟩
  have g2 := hG.2.2.1 r _ _ ⟨hr, hu, Or.inr ⟨rfl, rfl⟩⟩
  refine ⟨by omega, fun h0 => ?_, fun y => ?_, fun y y0 y1 => ?_, fun q x y hq he => ?_⟩
  · have hv2 : v2 = 0 := by omega
    rw [(n2 hv2).1]
    exact k2 (by omega)
  · have := n3 y
    have := k3 y
    omega
  · have a1 := k4 (T (9 + 4 * r)) (by omega) (by omega)
    have a2 := k4 (T (9 + 4 * r + 1)) (by omega) (by omega)
    have a3 := k4 y y0 y1
    rcases n6 y with q | ⟨q, p⟩ | ⟨q, p⟩
    · omega
    · rw [p, q]
      omega
    · rw [p, q]
      omega
  · by_cases c : q = r
    · rw [c] at he ⊢
      have b1 := k3 (T (9 + 4 * r))
      have b2 := k3 (T (9 + 4 * r + 1))
      rcases he.2.2 with p | p
      · rw [← p.1, ← p.2]
        omega
      · rw [← p.1, ← p.2]
        omega
    · have := k5 q x y (by omega) he
      have := n3 y
      omega
theorem l_62r {σ : ev_M} {s fr w o tn : Int} {T G F0 : Int → Int} (hs : ev_S s) (hE : st_E (st_T σ s) T) (hI : st_I T) (hw : 0 ≤ w ∧ w ≤ 60) (ho : -1 ≤ o ∧ o < 20) (hG : st_sp T w o fr G) (hF0 : ∀ y, 0 ≤ y → y < 10 → F0 y ≤ 1000000) : ∀ (k : Nat) (r v : Int) (F : Int → Int), 0 ≤ r → r + k = T 1 → st_tu T w o G F0 F r v → ∃ F2 v2, EB 62 4 [some (.inr (.inl 173)), some (.inr (.inl s)), some (.inl fr), some (.inl w), some (.inl o), some (.inl v), some (.inl tn), some (.inl r)] [] (ev_ua σ 174 F) = EB 62 9 [some (.inr (.inl 173)), some (.inr (.inl s)), some (.inl fr), some (.inl w), some (.inl o), some (.inl v2), some (.inl tn), some (.inl (T 1))] [] (ev_ua σ 174 F2) ∧ st_tu T w o G F0 F2 (T 1) v2 := by
  have hsb := ev_S_in hs
  have i0 := hI.1.1
  have i1 := hI.1.2.1
  have t1 : σ (s + 1) 1 = T 1 := by rw [tr_n1 (σ := σ) (s := s), hE _ (by omega) (by omega)]
  intro k
  induction k with
  | zero =>
    intro r v F h0 h1 ht
    obtain rfl : r = T 1 := by omega
    refine ⟨F, v, ?_, ht⟩
    clear ht hF0 h1
    rw [bk_62_4]
    repeat' (first | (simp (disch := first | assumption | exact Nat.le_of_ble_eq_true rfl | omega) only [bk_62_0, eo_6, eo_3_5n, eo_3_5i, eo_3_5r, eo_53, eo_0_5, eo_1_0, g9_28_0, eo_7, eo_23_5n, eo_23_5i, eo_23_5r, eo_52, bk_62_2, eo_0_2, eo_3_6n, eo_3_6i, eo_3_6r, eo_0_6, eo_3_7n, eo_3_7i, eo_3_7r, eo_0_7, eo_1_1, g7_28_0, g6_27, eo_0_4, v7_2, ev_ki, ev_kv, eo_0_3, v9_3, bk_62_5, bk_62_6, bk_62_7, bk_62_8, eo_23_7n, eo_23_7i, eo_23_7r, eo_23_6n, eo_23_6i, eo_23_6r, bk_62_10, eo_58, a33_174, ev_ua_ne, t1, Int.add_zero, Int.add_sub_cancel, Int.reduceAdd, Int.reduceMul, Int.reduceSub, Int.reduceNeg, ev_wr_id]) | ((first | with_reducible refine br_40 ?_ ?_ | with_reducible refine br_41 ?_ ?_ | with_reducible refine br_42 ?_ ?_ | with_reducible refine br_43 ?_ ?_ | with_reducible refine br_44 ?_ ?_ | with_reducible refine br_45 ?_ ?_ | with_reducible refine br_46 ?_ ?_ | with_reducible refine br_47 ?_ ?_ | with_reducible refine br_48 ?_ ?_ | with_reducible refine br_49 ?_ ?_ | with_reducible refine br_50 ?_ ?_ | with_reducible refine br_51 ?_ ?_) <;> intro h <;> try simp (disch := first | assumption | exact Nat.le_of_ble_eq_true rfl | omega) only [ev_wr_id, not_true_eq_false, not_false_eq_true, Int.reduceEq, Int.reduceLT, Int.reduceLE, and_self, and_true, true_and, and_false, false_and, reduceIte] at h <;> try (exfalso; omega; done)))
  | succ k ih =>
    intro r v F h0 h1 ht
    have hr : 0 ≤ r ∧ r < T 1 := by omega
    have g := hI.2.1 r h0 hr.2
    have hEa : st_E (st_T (ev_ua σ 174 F) s) T := st_E_t (st_T_congr (fun z q0 q1 => ev_ua_row (by omega))) hE
    have e52 := e_52 (σ := ev_ua σ 174 F) hs hEa hI hr
    have hps : st_lim T r ≤ 60 ∧ 0 ≤ st_lim T r := by
      unfold st_lim
      split
      · omega
      · split
        · omega
        · have := ev_ps_in (r := T (89 + 5 * T (9 + 4 * r + 3) + 2))
          omega
    have e2 : σ (s + 2) r = T (9 + 4 * r) := by rw [tr_2 (σ := σ) (s := s) (by omega), hE _ (by omega) (by omega)]
    have e3 : σ (s + 3) r = T (9 + 4 * r + 1) := by rw [tr_3 (σ := σ) (s := s) (by omega), hE _ (by omega) (by omega)]
    have e4 : σ (s + 4) r = T (9 + 4 * r + 2) := by rw [tr_4 (σ := σ) (s := s) (by omega), hE _ (by omega) (by omega)]
    have hv := ht.1
    have hr20 : r < 20 := by omega
    by_cases c1 : st_ub T w o r
    · have fb : ∀ y, 0 ≤ y → y < 10 → 0 ≤ F y ∧ F y ≤ 1000000 := fun y y0 y1 => by
        have q1 := ht.2.2.1 y
        have q2 := ht.2.2.2.1 y y0 y1
        have q3 := (hG.2.1 y y0 y1).1
        have q4 := hF0 y y0 y1
        omega
      obtain ⟨F2, v2, e63, hn⟩ := c_63 (σ := σ) (s := s) (r := r) (F := F) hs (by omega) e2 e3 e4 (by omega) (by omega) (by omega) (by omega) (fb _ (by omega) (by omega)) (fb _ (by omega) (by omega))
      obtain ⟨v3, hv3⟩ : ∃ v3, v3 = if v2 = 0 then v else 1 := ⟨_, rfl⟩
      have hv2 := hn.1
      have h4 := st_tu_e hI hG hr ht c1 hn v3 ⟨fun q => by rw [hv3, if_pos q], fun q => by rw [hv3, if_neg (by omega)]⟩
      obtain ⟨F5, v5, e, h⟩ := ih (r + 1) v3 F2 (by omega) (by omega) h4
      refine ⟨F5, v5, ?_, h⟩
      rw [← e]
      have c2 := c1.1
      have c3 := c1.2
      clear e h h4 hn ih fb ht hF0 hG hI h1 c1 hEa
      rw [bk_62_4]
      rcases hv2 with q | q
      · rw [if_pos q] at hv3
        rw [hv3]
        rw [q] at e63
        rcases hv with q2 | q2
        · rw [q2]
          repeat' (first | (simp (disch := first | assumption | exact Nat.le_of_ble_eq_true rfl | omega) only [bk_62_0, eo_6, eo_3_5n, eo_3_5i, eo_3_5r, eo_53, eo_0_5, eo_1_0, g9_28_0, eo_7, eo_23_5n, eo_23_5i, eo_23_5r, eo_52, bk_62_2, eo_0_2, eo_3_6n, eo_3_6i, eo_3_6r, eo_0_6, eo_3_7n, eo_3_7i, eo_3_7r, eo_0_7, eo_1_1, g7_28_0, g6_27, eo_0_4, v7_2, ev_ki, ev_kv, eo_0_3, v9_3, bk_62_5, bk_62_6, bk_62_7, bk_62_8, eo_23_7n, eo_23_7i, eo_23_7r, eo_23_6n, eo_23_6i, eo_23_6r, bk_62_10, eo_58, a33_174, ev_ua_ne, t1, e52, e63, Int.add_zero, Int.add_sub_cancel, Int.reduceAdd, Int.reduceMul, Int.reduceSub, Int.reduceNeg, ev_wr_id]) | ((first | with_reducible refine br_40 ?_ ?_ | with_reducible refine br_41 ?_ ?_ | with_reducible refine br_42 ?_ ?_ | with_reducible refine br_43 ?_ ?_ | with_reducible refine br_44 ?_ ?_ | with_reducible refine br_45 ?_ ?_ | with_reducible refine br_46 ?_ ?_ | with_reducible refine br_47 ?_ ?_ | with_reducible refine br_48 ?_ ?_ | with_reducible refine br_49 ?_ ?_ | with_reducible refine br_50 ?_ ?_ | with_reducible refine br_51 ?_ ?_) <;> intro h <;> try simp (disch := first | assumption | exact Nat.le_of_ble_eq_true rfl | omega) only [ev_wr_id, not_true_eq_false, not_false_eq_true, Int.reduceEq, Int.reduceLT, Int.reduceLE, and_self, and_true, true_and, and_false, false_and, reduceIte] at h <;> try (exfalso; omega; done)))
        · rw [q2]
          repeat' (first | (simp (disch := first | assumption | exact Nat.le_of_ble_eq_true rfl | omega) only [bk_62_0, eo_6, eo_3_5n, eo_3_5i, eo_3_5r, eo_53, eo_0_5, eo_1_0, g9_28_0, eo_7, eo_23_5n, eo_23_5i, eo_23_5r, eo_52, bk_62_2, eo_0_2, eo_3_6n, eo_3_6i, eo_3_6r, eo_0_6, eo_3_7n, eo_3_7i, eo_3_7r, eo_0_7, eo_1_1, g7_28_0, g6_27, eo_0_4, v7_2, ev_ki, ev_kv, eo_0_3, v9_3, bk_62_5, bk_62_6, bk_62_7, bk_62_8, eo_23_7n, eo_23_7i, eo_23_7r, eo_23_6n, eo_23_6i, eo_23_6r, bk_62_10, eo_58, a33_174, ev_ua_ne, t1, e52, e63, Int.add_zero, Int.add_sub_cancel, Int.reduceAdd, Int.reduceMul, Int.reduceSub, Int.reduceNeg, ev_wr_id]) | ((first | with_reducible refine br_40 ?_ ?_ | with_reducible refine br_41 ?_ ?_ | with_reducible refine br_42 ?_ ?_ | with_reducible refine br_43 ?_ ?_ | with_reducible refine br_44 ?_ ?_ | with_reducible refine br_45 ?_ ?_ | with_reducible refine br_46 ?_ ?_ | with_reducible refine br_47 ?_ ?_ | with_reducible refine br_48 ?_ ?_ | with_reducible refine br_49 ?_ ?_ | with_reducible refine br_50 ?_ ?_ | with_reducible refine br_51 ?_ ?_) <;> intro h <;> try simp (disch := first | assumption | exact Nat.le_of_ble_eq_true rfl | omega) only [ev_wr_id, not_true_eq_false, not_false_eq_true, Int.reduceEq, Int.reduceLT, Int.reduceLE, and_self, and_true, true_and, and_false, false_and, reduceIte] at h <;> try (exfalso; omega; done)))
      · rw [if_neg (by omega)] at hv3
        rw [hv3]
        rw [q] at e63
        repeat' (first | (simp (disch := first | assumption | exact Nat.le_of_ble_eq_true rfl | omega) only [bk_62_0, eo_6, eo_3_5n, eo_3_5i, eo_3_5r, eo_53, eo_0_5, eo_1_0, g9_28_0, eo_7, eo_23_5n, eo_23_5i, eo_23_5r, eo_52, bk_62_2, eo_0_2, eo_3_6n, eo_3_6i, eo_3_6r, eo_0_6, eo_3_7n, eo_3_7i, eo_3_7r, eo_0_7, eo_1_1, g7_28_0, g6_27, eo_0_4, v7_2, ev_ki, ev_kv, eo_0_3, v9_3, bk_62_5, bk_62_6, bk_62_7, bk_62_8, eo_23_7n, eo_23_7i, eo_23_7r, eo_23_6n, eo_23_6i, eo_23_6r, bk_62_10, eo_58, a33_174, ev_ua_ne, t1, e52, e63, Int.add_zero, Int.add_sub_cancel, Int.reduceAdd, Int.reduceMul, Int.reduceSub, Int.reduceNeg, ev_wr_id]) | ((first | with_reducible refine br_40 ?_ ?_ | with_reducible refine br_41 ?_ ?_ | with_reducible refine br_42 ?_ ?_ | with_reducible refine br_43 ?_ ?_ | with_reducible refine br_44 ?_ ?_ | with_reducible refine br_45 ?_ ?_ | with_reducible refine br_46 ?_ ?_ | with_reducible refine br_47 ?_ ?_ | with_reducible refine br_48 ?_ ?_ | with_reducible refine br_49 ?_ ?_ | with_reducible refine br_50 ?_ ?_ | with_reducible refine br_51 ?_ ?_) <;> intro h <;> try simp (disch := first | assumption | exact Nat.le_of_ble_eq_true rfl | omega) only [ev_wr_id, not_true_eq_false, not_false_eq_true, Int.reduceEq, Int.reduceLT, Int.reduceLE, and_self, and_true, true_and, and_false, false_and, reduceIte] at h <;> try (exfalso; omega; done)))
    · obtain ⟨F5, v5, e, h⟩ := ih (r + 1) v F (by omega) (by omega) (st_tu_n ht c1)
      refine ⟨F5, v5, ?_, h⟩
      rw [← e]
      have c2 : r = o ∨ st_lim T r < w := by
        unfold st_ub at c1
        omega
      clear e h ih ht hF0 hG hI h1 c1 hEa
      rw [bk_62_4]
      repeat' (first | (simp (disch := first | assumption | exact Nat.le_of_ble_eq_true rfl | omega) only [bk_62_0, eo_6, eo_3_5n, eo_3_5i, eo_3_5r, eo_53, eo_0_5, eo_1_0, g9_28_0, eo_7, eo_23_5n, eo_23_5i, eo_23_5r, eo_52, bk_62_2, eo_0_2, eo_3_6n, eo_3_6i, eo_3_6r, eo_0_6, eo_3_7n, eo_3_7i, eo_3_7r, eo_0_7, eo_1_1, g7_28_0, g6_27, eo_0_4, v7_2, ev_ki, ev_kv, eo_0_3, v9_3, bk_62_5, bk_62_6, bk_62_7, bk_62_8, eo_23_7n, eo_23_7i, eo_23_7r, eo_23_6n, eo_23_6i, eo_23_6r, bk_62_10, eo_58, a33_174, ev_ua_ne, t1, e52, Int.add_zero, Int.add_sub_cancel, Int.reduceAdd, Int.reduceMul, Int.reduceSub, Int.reduceNeg, ev_wr_id]) | ((first | with_reducible refine br_40 ?_ ?_ | with_reducible refine br_41 ?_ ?_ | with_reducible refine br_42 ?_ ?_ | with_reducible refine br_43 ?_ ?_ | with_reducible refine br_44 ?_ ?_ | with_reducible refine br_45 ?_ ?_ | with_reducible refine br_46 ?_ ?_ | with_reducible refine br_47 ?_ ?_ | with_reducible refine br_48 ?_ ?_ | with_reducible refine br_49 ?_ ?_ | with_reducible refine br_50 ?_ ?_ | with_reducible refine br_51 ?_ ?_) <;> intro h <;> try simp (disch := first | assumption | exact Nat.le_of_ble_eq_true rfl | omega) only [ev_wr_id, not_true_eq_false, not_false_eq_true, Int.reduceEq, Int.reduceLT, Int.reduceLE, and_self, and_true, true_and, and_false, false_and, reduceIte] at h <;> try (exfalso; omega; done)))
def st_eq (F G : Int → Int) (y : Int) : Prop := 0 ≤ y ∧ y < 10 ∧ F y = G y
/-- a turn brings one more, or all are there -/
theorem st_prog {T : Int → Int} {w o s : Int} {F G : Int → Int} (hI : st_I T) (hG : st_sp T w o s G) (hs : F s = 0) (hb : ∀ y, 0 ≤ y → y < 10 → G y ≤ F y ∧ F y ≤ 1000000) : ∀ (n : Nat) (y : Int), 0 ≤ y → y < 10 → G y ≤ n → F y ≠ G y → ∃ r x z, (0 ≤ z ∧ z < 10) ∧ st_ej T w o r x z ∧ F x = G x ∧ G z = G x + T (9 + 4 * r + 2) ∧ F z ≠ G z := by
  intro n
  induction n with
  | zero =>
    intro y h0 h1 h2 h3
    have h4 := hb y h0 h1
    have hys : y ≠ s := fun c => h3 (by rw [c, hs, hG.1])
    obtain ⟨r, x, q1, q2⟩ := hG.2.2.2 y h0 h1 hys (by omega)
    have q3 := st_ej_in hI q1
    have q4 := hG.2.1 x q3.1.1 (by omega)
    omega
  | succ n ih =>
    intro y h0 h1 h2 h3
    have h4 := hb y h0 h1
    have hys : y ≠ s := fun c => h3 (by rw [c, hs, hG.1])
    obtain ⟨r, x, q1, q2⟩ := hG.2.2.2 y h0 h1 hys (by omega)
    have q3 := st_ej_in hI q1
    by_cases c : F x = G x
    · exact ⟨r, x, y, ⟨h0, h1⟩, q1, c, q2, h3⟩
    · exact ih x q3.1.1 (by omega) (by omega) c
theorem l_62 {σ : ev_M} {s fr w o : Int} {T G : Int → Int} (hs : ev_S s) (hE : st_E (st_T σ s) T) (hI : st_I T) (hf : 0 ≤ fr ∧ fr < T 0) (hw : 0 ≤ w ∧ w ≤ 60) (ho : -1 ≤ o ∧ o < 20) (hG : st_sp T w o fr G) : ∀ (k tt : Nat) (tn v : Int) (F : Int → Int) (p7 : Option ev_V), tn = tt → tt + k = 10 → F fr = 0 → (∀ y, 0 ≤ y → y < 10 → G y ≤ F y ∧ F y ≤ 1000000) → (v = 0 ∨ v = 1) → (v = 0 → ∀ r x y, st_ej T w o r x y → F y ≤ F x + T (9 + 4 * r + 2)) → (tt + 1 ≤ ev_nu (st_eq F G) 10 ∨ ∀ y, 0 ≤ y → y < 10 → F y = G y) → ∃ F2, EB 62 3 [some (.inr (.inl 173)), some (.inr (.inl s)), some (.inl fr), some (.inl w), some (.inl o), some (.inl v), some (.inl tn), p7] [] (ev_ua σ 174 F) = some (none, ev_ua σ 174 F2) ∧ ∀ y, 0 ≤ y → y < 10 → F2 y = G y := by
  have hsb := ev_S_in hs
  have i0 := hI.1.1
  have i1 := hI.1.2.1
  have stop : ∀ (tn : Int) (F : Int → Int) (p7 : Option ev_V), 0 ≤ tn ∧ tn ≤ 10 → F fr = 0 → (∀ y, 0 ≤ y → y < 10 → G y ≤ F y ∧ F y ≤ 1000000) → (∀ r x y, st_ej T w o r x y → F y ≤ F x + T (9 + 4 * r + 2)) → ∃ F2, EB 62 3 [some (.inr (.inl 173)), some (.inr (.inl s)), some (.inl fr), some (.inl w), some (.inl o), some (.inl 0), some (.inl tn), p7] [] (ev_ua σ 174 F) = some (none, ev_ua σ 174 F2) ∧ ∀ y, 0 ≤ y → y < 10 → F2 y = G y := by
    intro tn F p7 htn h1 h2 h3
    refine ⟨F, ?_, fun y y0 y1 => ?_⟩
    · clear h1 h2 h3 hG hI
      rw [bk_62_3]
      repeat' (first | (simp (disch := first | assumption | exact Nat.le_of_ble_eq_true rfl | omega) only [bk_62_0, eo_6, eo_3_5n, eo_3_5i, eo_3_5r, eo_53, eo_0_5, eo_1_0, g9_28_0, eo_7, eo_23_5n, eo_23_5i, eo_23_5r, eo_52, bk_62_2, eo_0_2, eo_3_6n, eo_3_6i, eo_3_6r, eo_0_6, eo_3_7n, eo_3_7i, eo_3_7r, eo_0_7, eo_1_1, g7_28_0, g6_27, eo_0_4, v7_2, ev_ki, ev_kv, eo_0_3, v9_3, bk_62_5, bk_62_6, bk_62_7, bk_62_8, eo_23_7n, eo_23_7i, eo_23_7r, bk_62_9, eo_23_6n, eo_23_6i, eo_23_6r, bk_62_10, eo_58, a33_174, c_52, Int.add_zero, Int.add_sub_cancel, Int.reduceAdd, Int.reduceMul, Int.reduceSub, Int.reduceNeg, ev_wr_id]) | ((first | with_reducible refine br_40 ?_ ?_ | with_reducible refine br_41 ?_ ?_ | with_reducible refine br_42 ?_ ?_ | with_reducible refine br_43 ?_ ?_ | with_reducible refine br_44 ?_ ?_ | with_reducible refine br_45 ?_ ?_ | with_reducible refine br_46 ?_ ?_ | with_reducible refine br_47 ?_ ?_ | with_reducible refine br_48 ?_ ?_ | with_reducible refine br_49 ?_ ?_ | with_reducible refine br_50 ?_ ?_ | with_reducible refine br_51 ?_ ?_) <;> intro h <;> try simp (disch := first | assumption | exact Nat.le_of_ble_eq_true rfl | omega) only [ev_wr_id, not_true_eq_false, not_false_eq_true, Int.reduceEq, Int.reduceLT, Int.reduceLE, and_self, and_true, true_and, and_false, false_and, reduceIte] at h <;> try (exfalso; omega; done)))
    · have q := h2 y y0 y1
      have q2 := hG.2.1 y y0 y1
      have := st_sp_le hI h1 (fun z z0 z1 => (h2 z z0 z1).2) h3 hG (G y).toNat y y0 y1 (by omega)
      omega
  intro k
  induction k with
  | zero =>
    intro tt tn v F p7 htn htt h1 h2 hv h3 h4
    rcases hv with c | c
    · rw [c] at h3 ⊢
      exact stop tn F p7 (by omega) h1 h2 (h3 rfl)
    · have hall : ∀ y, 0 ≤ y → y < 10 → F y = G y := by
        rcases h4 with q | q
        · have := ev_nu_le (p := st_eq F G) 10
          omega
        · exact q
      refine ⟨F, ?_, hall⟩
      have htn2 : tn = 10 := by omega
      rw [c, htn2]
      clear h1 h2 h3 hG hI h4 hall stop htn htt
      rw [bk_62_3]
      repeat' (first | (simp (disch := first | assumption | exact Nat.le_of_ble_eq_true rfl | omega) only [bk_62_0, eo_6, eo_3_5n, eo_3_5i, eo_3_5r, eo_53, eo_0_5, eo_1_0, g9_28_0, eo_7, eo_23_5n, eo_23_5i, eo_23_5r, eo_52, bk_62_2, eo_0_2, eo_3_6n, eo_3_6i, eo_3_6r, eo_0_6, eo_3_7n, eo_3_7i, eo_3_7r, eo_0_7, eo_1_1, g7_28_0, g6_27, eo_0_4, v7_2, ev_ki, ev_kv, eo_0_3, v9_3, bk_62_5, bk_62_6, bk_62_7, bk_62_8, eo_23_7n, eo_23_7i, eo_23_7r, bk_62_9, eo_23_6n, eo_23_6i, eo_23_6r, bk_62_10, eo_58, a33_174, c_52, Int.add_zero, Int.add_sub_cancel, Int.reduceAdd, Int.reduceMul, Int.reduceSub, Int.reduceNeg, ev_wr_id]) | ((first | with_reducible refine br_40 ?_ ?_ | with_reducible refine br_41 ?_ ?_ | with_reducible refine br_42 ?_ ?_ | with_reducible refine br_43 ?_ ?_ | with_reducible refine br_44 ?_ ?_ | with_reducible refine br_45 ?_ ?_ | with_reducible refine br_46 ?_ ?_ | with_reducible refine br_47 ?_ ?_ | with_reducible refine br_48 ?_ ?_ | with_reducible refine br_49 ?_ ?_ | with_reducible refine br_50 ?_ ?_ | with_reducible refine br_51 ?_ ?_) <;> intro h <;> try simp (disch := first | assumption | exact Nat.le_of_ble_eq_true rfl | omega) only [ev_wr_id, not_true_eq_false, not_false_eq_true, Int.reduceEq, Int.reduceLT, Int.reduceLE, and_self, and_true, true_and, and_false, false_and, reduceIte] at h <;> try (exfalso; omega; done)))
  | succ k ih =>
    intro tt tn v F p7 htn htt h1 h2 hv h3 h4
    rcases hv with c | c
    · rw [c] at h3 ⊢
      exact stop tn F p7 (by omega) h1 h2 (h3 rfl)
    · obtain ⟨F2, v2, er, hr⟩ := l_62r (σ := σ) (s := s) (fr := fr) (w := w) (o := o) (tn := tn) (T := T) (G := G) (F0 := F) hs hE hI hw ho hG (fun y y0 y1 => (h2 y y0 y1).2) (T 1).toNat 0 0 F (by omega) (by omega) ⟨Or.inl rfl, fun _ => rfl, fun y => Int.le_refl _, fun y y0 y1 => (h2 y y0 y1).1, fun q x y hq he => by have := he.1.1; omega⟩
      obtain ⟨k1, k2, k3, k4, k5⟩ := hr
      have b2 : ∀ y, 0 ≤ y → y < 10 → G y ≤ F2 y ∧ F2 y ≤ 1000000 := fun y y0 y1 => by
        have := k3 y
        have := k4 y y0 y1
        have := h2 y y0 y1
        omega
      have z2 : F2 fr = 0 := by
        have q1 := k3 fr
        have q2 := b2 fr hf.1 (by omega)
        have q3 := hG.1
        omega
      obtain ⟨F5, e, h⟩ := ih (tt + 1) (tn + 1) v2 F2 (some (.inl (T 1))) (by omega) (by omega) z2 b2 k1 (fun hv2 r x y he => by
        have q := k5 r x y he.1.2 he
        rw [k2 hv2] at q ⊢
        exact q) (by
        by_cases hall : ∀ y, 0 ≤ y → y < 10 → F2 y = G y
        · exact Or.inr hall
        · refine Or.inl ?_
          have hne : ∃ y, 0 ≤ y ∧ y < 10 ∧ F y ≠ G y := by
            apply Classical.byContradiction
            intro hno
            refine hall (fun y y0 y1 => ?_)
            by_cases q : F y = G y
            · have q1 := k3 y
              have q2 := k4 y y0 y1
              omega
            · exact absurd ⟨y, y0, y1, q⟩ hno
          obtain ⟨y, y0, y1, yn⟩ := hne
          have q4 := hG.2.1 y y0 y1
          obtain ⟨r, x, z, z0, p1, p2, p3, p4⟩ := st_prog hI hG h1 h2 (G y).toNat y y0 y1 (by omega) yn
          have p5 := k5 r x z p1.1.2 p1
          have p6 := k4 z z0.1 z0.2
          have hlt := ev_nu_1 (p := st_eq F G) (q := st_eq F2 G) (y := z) z0 (fun u hu => ⟨hu.1, hu.2.1, by
            have q1 := k3 u
            have q2 := k4 u hu.1 hu.2.1
            have q3 := hu.2.2
            omega⟩) ⟨z0.1, z0.2, by omega⟩ (fun hu => p4 hu.2.2)
          rcases h4 with q | q
          · omega
          · exact absurd (q z z0.1 z0.2) p4)
      refine ⟨F5, ?_, h⟩
      have htn2 : 0 ≤ tn ∧ tn < 10 := by omega
      rw [← e, c]
      clear e h z2 b2 k1 k2 k3 k4 k5 h1 h2 h3 h4 stop ih hG hI htn htt
      rw [bk_62_3]
      repeat' (first | (simp (disch := first | assumption | exact Nat.le_of_ble_eq_true rfl | omega) only [bk_62_0, eo_6, eo_3_5n, eo_3_5i, eo_3_5r, eo_53, eo_0_5, eo_1_0, g9_28_0, eo_7, eo_23_5n, eo_23_5i, eo_23_5r, eo_52, bk_62_2, eo_0_2, eo_3_6n, eo_3_6i, eo_3_6r, eo_0_6, eo_3_7n, eo_3_7i, eo_3_7r, eo_0_7, eo_1_1, g7_28_0, g6_27, eo_0_4, v7_2, ev_ki, ev_kv, eo_0_3, v9_3, bk_62_5, bk_62_6, bk_62_7, bk_62_8, eo_23_7n, eo_23_7i, eo_23_7r, bk_62_9, eo_23_6n, eo_23_6i, eo_23_6r, bk_62_10, eo_58, a33_174, c_52, Int.add_zero, Int.add_sub_cancel, Int.reduceAdd, Int.reduceMul, Int.reduceSub, Int.reduceNeg, ev_wr_id]) | ((first | with_reducible refine br_40 ?_ ?_ | with_reducible refine br_41 ?_ ?_ | with_reducible refine br_42 ?_ ?_ | with_reducible refine br_43 ?_ ?_ | with_reducible refine br_44 ?_ ?_ | with_reducible refine br_45 ?_ ?_ | with_reducible refine br_46 ?_ ?_ | with_reducible refine br_47 ?_ ?_ | with_reducible refine br_48 ?_ ?_ | with_reducible refine br_49 ?_ ?_ | with_reducible refine br_50 ?_ ?_ | with_reducible refine br_51 ?_ ?_) <;> intro h <;> try simp (disch := first | assumption | exact Nat.le_of_ble_eq_true rfl | omega) only [ev_wr_id, not_true_eq_false, not_false_eq_true, Int.reduceEq, Int.reduceLT, Int.reduceLE, and_self, and_true, true_and, and_false, false_and, reduceIte] at h <;> try (exfalso; omega; done)))
      rw [er, bk_62_9]
      repeat' (first | (simp (disch := first | assumption | exact Nat.le_of_ble_eq_true rfl | omega) only [bk_62_0, eo_6, eo_3_5n, eo_3_5i, eo_3_5r, eo_53, eo_0_5, eo_1_0, g9_28_0, eo_7, eo_23_5n, eo_23_5i, eo_23_5r, eo_52, bk_62_2, eo_0_2, eo_3_6n, eo_3_6i, eo_3_6r, eo_0_6, eo_3_7n, eo_3_7i, eo_3_7r, eo_0_7, eo_1_1, g7_28_0, g6_27, eo_0_4, v7_2, ev_ki, ev_kv, eo_0_3, v9_3, bk_62_5, bk_62_6, bk_62_7, bk_62_8, eo_23_7n, eo_23_7i, eo_23_7r, bk_62_9, eo_23_6n, eo_23_6i, eo_23_6r, bk_62_10, eo_58, a33_174, c_52, Int.add_zero, Int.add_sub_cancel, Int.reduceAdd, Int.reduceMul, Int.reduceSub, Int.reduceNeg, ev_wr_id]) | ((first | with_reducible refine br_40 ?_ ?_ | with_reducible refine br_41 ?_ ?_ | with_reducible refine br_42 ?_ ?_ | with_reducible refine br_43 ?_ ?_ | with_reducible refine br_44 ?_ ?_ | with_reducible refine br_45 ?_ ?_ | with_reducible refine br_46 ?_ ?_ | with_reducible refine br_47 ?_ ?_ | with_reducible refine br_48 ?_ ?_ | with_reducible refine br_49 ?_ ?_ | with_reducible refine br_50 ?_ ?_ | with_reducible refine br_51 ?_ ?_) <;> intro h <;> try simp (disch := first | assumption | exact Nat.le_of_ble_eq_true rfl | omega) only [ev_wr_id, not_true_eq_false, not_false_eq_true, Int.reduceEq, Int.reduceLT, Int.reduceLE, and_self, and_true, true_and, and_false, false_and, reduceIte] at h <;> try (exfalso; omega; done)))
theorem l_62a {σ : ev_M} {s fr w o : Int} {p6 p7 : Option ev_V} : ∀ (k : Nat) (n : Int) (F : Int → Int), 0 ≤ n → n + k = 10 → (∀ y, 0 ≤ y → y < n → F y = 1000000) → ∃ F2, EB 62 1 [some (.inr (.inl 173)), some (.inr (.inl s)), some (.inl fr), some (.inl w), some (.inl o), some (.inl n), p6, p7] [] (ev_ua σ 174 F) = EB 62 2 [some (.inr (.inl 173)), some (.inr (.inl s)), some (.inl fr), some (.inl w), some (.inl o), some (.inl 10), p6, p7] [] (ev_ua σ 174 F2) ∧ ∀ y, 0 ≤ y → y < 10 → F2 y = 1000000 := by
  intro k
  induction k with
  | zero =>
    intro n F h0 h1 hf
    obtain rfl : n = 10 := by omega
    refine ⟨F, ?_, hf⟩
    clear hf
    rw [bk_62_1]
    repeat' (first | (simp (disch := first | assumption | exact Nat.le_of_ble_eq_true rfl | omega) only [bk_62_0, eo_6, eo_3_5n, eo_3_5i, eo_3_5r, eo_53, eo_0_5, eo_1_0, g9_28_0, eo_7, eo_23_5n, eo_23_5i, eo_23_5r, eo_52, eo_0_2, eo_3_6n, eo_3_6i, eo_3_6r, eo_0_6, eo_3_7n, eo_3_7i, eo_3_7r, eo_0_7, eo_1_1, g7_28_0, g6_27, eo_0_4, v7_2, ev_ki, ev_kv, eo_0_3, v9_3, bk_62_5, bk_62_6, bk_62_7, bk_62_8, eo_23_7n, eo_23_7i, eo_23_7r, bk_62_9, eo_23_6n, eo_23_6i, eo_23_6r, bk_62_10, eo_58, a33_174, c_52, Int.add_zero, Int.add_sub_cancel, Int.reduceAdd, Int.reduceMul, Int.reduceSub, Int.reduceNeg, ev_wr_id]) | ((first | with_reducible refine br_40 ?_ ?_ | with_reducible refine br_41 ?_ ?_ | with_reducible refine br_42 ?_ ?_ | with_reducible refine br_43 ?_ ?_ | with_reducible refine br_44 ?_ ?_ | with_reducible refine br_45 ?_ ?_ | with_reducible refine br_46 ?_ ?_ | with_reducible refine br_47 ?_ ?_ | with_reducible refine br_48 ?_ ?_ | with_reducible refine br_49 ?_ ?_ | with_reducible refine br_50 ?_ ?_ | with_reducible refine br_51 ?_ ?_) <;> intro h <;> try simp (disch := first | assumption | exact Nat.le_of_ble_eq_true rfl | omega) only [ev_wr_id, not_true_eq_false, not_false_eq_true, Int.reduceEq, Int.reduceLT, Int.reduceLE, and_self, and_true, true_and, and_false, false_and, reduceIte] at h <;> try (exfalso; omega; done)))
  | succ k ih =>
    intro n F h0 h1 hf
    obtain ⟨F2, e, h⟩ := ih (n + 1) (ev_u1 F n 1000000) (by omega) (by omega) (fun y y0 y1 => by
      by_cases c : y = n
      · exact ev_u1_eq c
      · rw [ev_u1_ne c]
        exact hf y y0 (by omega))
    refine ⟨F2, ?_, h⟩
    rw [← e]
    clear e h hf ih
    rw [bk_62_1]
    repeat' (first | (simp (disch := first | assumption | exact Nat.le_of_ble_eq_true rfl | omega) only [bk_62_0, eo_6, eo_3_5n, eo_3_5i, eo_3_5r, eo_53, eo_0_5, eo_1_0, g9_28_0, eo_7, eo_23_5n, eo_23_5i, eo_23_5r, eo_52, eo_0_2, eo_3_6n, eo_3_6i, eo_3_6r, eo_0_6, eo_3_7n, eo_3_7i, eo_3_7r, eo_0_7, eo_1_1, g7_28_0, g6_27, eo_0_4, v7_2, ev_ki, ev_kv, eo_0_3, v9_3, bk_62_5, bk_62_6, bk_62_7, bk_62_8, eo_23_7n, eo_23_7i, eo_23_7r, bk_62_9, eo_23_6n, eo_23_6i, eo_23_6r, bk_62_10, eo_58, a33_174, c_52, ev_up_ua, Int.add_zero, Int.add_sub_cancel, Int.reduceAdd, Int.reduceMul, Int.reduceSub, Int.reduceNeg, ev_wr_id]) | ((first | with_reducible refine br_40 ?_ ?_ | with_reducible refine br_41 ?_ ?_ | with_reducible refine br_42 ?_ ?_ | with_reducible refine br_43 ?_ ?_ | with_reducible refine br_44 ?_ ?_ | with_reducible refine br_45 ?_ ?_ | with_reducible refine br_46 ?_ ?_ | with_reducible refine br_47 ?_ ?_ | with_reducible refine br_48 ?_ ?_ | with_reducible refine br_49 ?_ ?_ | with_reducible refine br_50 ?_ ?_ | with_reducible refine br_51 ?_ ?_) <;> intro h <;> try simp (disch := first | assumption | exact Nat.le_of_ble_eq_true rfl | omega) only [ev_wr_id, not_true_eq_false, not_false_eq_true, Int.reduceEq, Int.reduceLT, Int.reduceLE, and_self, and_true, true_and, and_false, false_and, reduceIte] at h <;> try (exfalso; omega; done)))
theorem c_62 {σ : ev_M} {s fr w o : Int} {T G : Int → Int} (hs : ev_S s) (hE : st_E (st_T σ s) T) (hI : st_I T) (hf : 0 ≤ fr ∧ fr < T 0) (hw : 0 ≤ w ∧ w ≤ 60) (ho : -1 ≤ o ∧ o < 20) (hG : st_sp T w o fr G) : ∃ F, EM 62 [.inr (.inl 173), .inr (.inl s), .inl fr, .inl w, .inl o] σ = some (none, ev_ua σ 174 F) ∧ ∀ y, 0 ≤ y → y < 10 → F y = G y := by
  have i0 := hI.1.1
  obtain ⟨F1, e1, h1⟩ := l_62a (σ := σ) (s := s) (fr := fr) (w := w) (o := o) (p6 := none) (p7 := none) 10 0 (σ 174) (by omega) (by omega) (fun y y0 y1 => by omega)
  rw [ev_ua_self] at e1
  obtain ⟨F2, hF2⟩ : ∃ F2, F2 = ev_u1 F1 fr 0 := ⟨_, rfl⟩
  have z2 : F2 fr = 0 := by rw [hF2]; exact ev_u1_eq rfl
  obtain ⟨F, e, h⟩ := l_62 hs hE hI hf hw ho hG 10 0 0 1 F2 none rfl (by omega) z2 (fun y y0 y1 => by
    have q := hG.2.1 y y0 y1
    by_cases c : y = fr
    · rw [c, z2, hG.1]
      omega
    · rw [hF2, ev_u1_ne c, h1 y y0 y1]
      omega) (Or.inr rfl) (fun q => by omega) (Or.inl (ev_nu_pos (k := 10) hf.1 (by omega) ⟨hf.1, by omega, by rw [z2, hG.1]⟩))
  refine ⟨F, ?_, h⟩
  rw [mm_62]
  repeat' (first | (simp (disch := first | assumption | exact Nat.le_of_ble_eq_true rfl | omega) only [bk_62_0, eo_6, eo_3_5n, eo_3_5i, eo_3_5r, eo_53, eo_0_5, eo_1_0, g9_28_0, eo_7, eo_23_5n, eo_23_5i, eo_23_5r, eo_52, bk_62_2, eo_0_2, eo_3_6n, eo_3_6i, eo_3_6r, eo_0_6, eo_3_7n, eo_3_7i, eo_3_7r, eo_0_7, eo_1_1, g7_28_0, g6_27, eo_0_4, v7_2, ev_ki, ev_kv, eo_0_3, v9_3, bk_62_5, bk_62_6, bk_62_7, bk_62_8, eo_23_7n, eo_23_7i, eo_23_7r, bk_62_9, eo_23_6n, eo_23_6i, eo_23_6r, bk_62_10, eo_58, a33_174, c_52, Int.add_zero, Int.add_sub_cancel, Int.reduceAdd, Int.reduceMul, Int.reduceSub, Int.reduceNeg, ev_wr_id]) | ((first | with_reducible refine br_40 ?_ ?_ | with_reducible refine br_41 ?_ ?_ | with_reducible refine br_42 ?_ ?_ | with_reducible refine br_43 ?_ ?_ | with_reducible refine br_44 ?_ ?_ | with_reducible refine br_45 ?_ ?_ | with_reducible refine br_46 ?_ ?_ | with_reducible refine br_47 ?_ ?_ | with_reducible refine br_48 ?_ ?_ | with_reducible refine br_49 ?_ ?_ | with_reducible refine br_50 ?_ ?_ | with_reducible refine br_51 ?_ ?_) <;> intro h <;> try simp (disch := first | assumption | exact Nat.le_of_ble_eq_true rfl | omega) only [ev_wr_id, not_true_eq_false, not_false_eq_true, Int.reduceEq, Int.reduceLT, Int.reduceLE, and_self, and_true, true_and, and_false, false_and, reduceIte] at h <;> try (exfalso; omega; done)))
  rw [e1, bk_62_2]
  rw [hF2] at e
  repeat' (first | (simp (disch := first | assumption | exact Nat.le_of_ble_eq_true rfl | omega) only [bk_62_0, eo_6, eo_3_5n, eo_3_5i, eo_3_5r, eo_53, eo_0_5, eo_1_0, g9_28_0, eo_7, eo_23_5n, eo_23_5i, eo_23_5r, eo_52, bk_62_2, eo_0_2, eo_3_6n, eo_3_6i, eo_3_6r, eo_0_6, eo_3_7n, eo_3_7i, eo_3_7r, eo_0_7, eo_1_1, g7_28_0, g6_27, eo_0_4, v7_2, ev_ki, ev_kv, eo_0_3, v9_3, bk_62_5, bk_62_6, bk_62_7, bk_62_8, eo_23_7n, eo_23_7i, eo_23_7r, bk_62_9, eo_23_6n, eo_23_6i, eo_23_6r, bk_62_10, eo_58, a33_174, c_52, ev_up_ua, Int.add_zero, Int.add_sub_cancel, Int.reduceAdd, Int.reduceMul, Int.reduceSub, Int.reduceNeg, ev_wr_id]) | ((first | with_reducible refine br_40 ?_ ?_ | with_reducible refine br_41 ?_ ?_ | with_reducible refine br_42 ?_ ?_ | with_reducible refine br_43 ?_ ?_ | with_reducible refine br_44 ?_ ?_ | with_reducible refine br_45 ?_ ?_ | with_reducible refine br_46 ?_ ?_ | with_reducible refine br_47 ?_ ?_ | with_reducible refine br_48 ?_ ?_ | with_reducible refine br_49 ?_ ?_ | with_reducible refine br_50 ?_ ?_ | with_reducible refine br_51 ?_ ?_) <;> intro h <;> try simp (disch := first | assumption | exact Nat.le_of_ble_eq_true rfl | omega) only [ev_wr_id, not_true_eq_false, not_false_eq_true, Int.reduceEq, Int.reduceLT, Int.reduceLE, and_self, and_true, true_and, and_false, false_and, reduceIte] at h <;> try (exfalso; omega; done)))
  exact e

