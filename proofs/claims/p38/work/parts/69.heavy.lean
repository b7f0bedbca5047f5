/-! heaviest on both sides -/
def st_R (T : Int → Int) (fr w y : Int) : Prop := ∃ G, st_sp T w (-1) fr G ∧ G y < 1000000
theorem st_R_G {T : Int → Int} {fr w y : Int} {G : Int → Int} (hI : st_I T) (hG : st_sp T w (-1) fr G) (hy : 0 ≤ y ∧ y < 10) : st_R T fr w y ↔ G y < 1000000 := by
  constructor
  · intro ⟨G2, h1, h2⟩
    rw [st_sp_u hI hG h1 y hy.1 hy.2]
    exact h2
  · exact fun h => ⟨G, hG, h⟩
theorem st_R_e {T : Int → Int} {fr w q x y : Int} (hI : st_I T) (h : st_R T fr w x) (he : st_ej T w (-1) q x y) : st_R T fr w y := by
  obtain ⟨G, h1, h2⟩ := h
  have g := st_ej_in hI he
  have b := h1.2.1 x g.1.1 (by omega)
  have c := h1.2.2.1 q x y he
  exact ⟨G, h1, by omega⟩
def st_hv (L L2 : Int → Int) (v one two lim : Int) : Prop := (v = 0 ∨ v = 1) ∧ (v = 0 → L2 = L) ∧ (∀ y, L y ≤ L2 y) ∧ (∀ w, w ≤ L one → w ≤ lim → w ≤ L2 two) ∧ (∀ w, w ≤ L two → w ≤ lim → w ≤ L2 one) ∧ ∀ y, L2 y = L y ∨ (y = two ∧ L2 y ≤ L one ∧ L2 y ≤ lim) ∨ (y = one ∧ L2 y ≤ L two ∧ L2 y ≤ lim)
theorem c_67 {σ : ev_M} {s r one two lim : Int} {L : Int → Int} (hs : ev_S s) (hr : 0 ≤ r ∧ r < 20) (h1 : σ (s + 2) r = one) (h2 : σ (s + 3) r = two) (e52 : EM 52 [.inr (.inl s), .inl r] (ev_ua σ 175 L) = some (some (.inl lim), ev_ua σ 175 L)) (b1 : 0 ≤ one ∧ one < 10) (b2 : 0 ≤ two ∧ two < 10) (h12 : one ≠ two) (b3 : 0 ≤ lim ∧ lim ≤ 60) (hF1 : 0 ≤ L one ∧ L one ≤ 60) (hF2 : 0 ≤ L two ∧ L two ≤ 60) : ∃ L2 v, EM 67 [.inr (.inl 173), .inr (.inl s), .inl r] (ev_ua σ 175 L) = some (some (.inl v), ev_ua σ 175 L2) ∧ st_hv L L2 v one two lim := by
  have hsb := ev_S_in hs
  obtain ⟨m1, hm1⟩ : ∃ m1, m1 = if lim < L one then lim else L one := ⟨_, rfl⟩
  obtain ⟨m2, hm2⟩ : ∃ m2, m2 = if lim < L two then lim else L two := ⟨_, rfl⟩
  have r1 : m1 ≤ lim ∧ m1 ≤ L one ∧ (∀ w, w ≤ L one → w ≤ lim → w ≤ m1) ∧ 0 ≤ m1 := by
    rw [hm1]
    split
    · exact ⟨by omega, by omega, fun w _ _ => by omega, by omega⟩
    · exact ⟨by omega, by omega, fun w _ _ => by omega, by omega⟩
  have r2 : m2 ≤ lim ∧ m2 ≤ L two ∧ (∀ w, w ≤ L two → w ≤ lim → w ≤ m2) ∧ 0 ≤ m2 := by
    rw [hm2]
    split
    · exact ⟨by omega, by omega, fun w _ _ => by omega, by omega⟩
    · exact ⟨by omega, by omega, fun w _ _ => by omega, by omega⟩
  have q1 := hm1.symm
  have q2 := hm2.symm
  obtain ⟨r11, r12, r13, r14⟩ := r1
  obtain ⟨r21, r22, r23, r24⟩ := r2
  by_cases c1 : L two < m1
  · refine ⟨ev_u1 L two m1, 1, ?_, Or.inr rfl, fun h => by omega, fun y => ?_, fun w h h' => by rw [ev_u1_eq rfl]; exact r13 w h h', fun w h h' => by rw [ev_u1_ne h12]; omega, fun y => ?_⟩
    · have q3 : (if lim < m1 then lim else m1) = m1 := if_neg (by omega)
      clear r13 r23 hm1 hm2
      rw [mm_67]
      repeat' (first | (simp (disch := first | assumption | exact Nat.le_of_ble_eq_true rfl | omega) only [bk_67_0, eo_1_1, g7_28_0, g6_28_2, eo_0_2, eo_3_3n, eo_3_3i, eo_3_3r, g6_28_3, eo_3_4n, eo_3_4i, eo_3_4r, v7_2, ev_ki, ev_kv, eo_3_5n, eo_3_5i, eo_3_5r, eo_6, eo_3_6n, eo_3_6i, eo_3_6r, eo_1_0, g9_28_1, eo_0_3, eo_0_5, eo_63, eo_0_4, eo_53, bk_67_1, bk_67_2, eo_0_6, eo_56z, a32_s2, a33_s2, a32_s3, a33_s3, a32_175, a33_175, ev_ua_ne, ev_ua_eq, h1, h2, e52, ev_up_ua, ev_u1_eq, ev_u1_ne, q1, q3, Int.add_zero, Int.add_sub_cancel, Int.reduceAdd, Int.reduceMul, Int.reduceSub, Int.reduceNeg, ev_wr_id]) | ((first | with_reducible refine br_40 ?_ ?_ | with_reducible refine br_41 ?_ ?_ | with_reducible refine br_42 ?_ ?_ | with_reducible refine br_43 ?_ ?_ | with_reducible refine br_44 ?_ ?_ | with_reducible refine br_45 ?_ ?_ | with_reducible refine br_46 ?_ ?_ | with_reducible refine br_47 ?_ ?_ | with_reducible refine br_48 ?_ ?_ | with_reducible refine br_49 ?_ ?_ | with_reducible refine br_50 ?_ ?_ | with_reducible refine br_51 ?_ ?_) <;> intro h <;> try simp (disch := first | assumption | exact Nat.le_of_ble_eq_true rfl | omega) only [ev_wr_id, not_true_eq_false, not_false_eq_true, Int.reduceEq, Int.reduceLT, Int.reduceLE, and_self, and_true, true_and, and_false, false_and, reduceIte] at h <;> try (exfalso; omega; done)))
    · by_cases c : y = two
      · rw [ev_u1_eq c, c]
        omega
      · rw [ev_u1_ne c]
        exact Int.le_refl _
    · by_cases c : y = two
      · rw [ev_u1_eq c]
        exact Or.inr (Or.inl ⟨c, r12, r11⟩)
      · exact Or.inl (ev_u1_ne c)
  · by_cases c2 : L one < m2
    · refine ⟨ev_u1 L one m2, 1, ?_, Or.inr rfl, fun h => by omega, fun y => ?_, fun w h h' => by rw [ev_u1_ne (by omega)]; have := r13 w h h'; omega, fun w h h' => by rw [ev_u1_eq rfl]; exact r23 w h h', fun y => ?_⟩
      · clear r13 r23 hm1 hm2
        rw [mm_67]
        repeat' (first | (simp (disch := first | assumption | exact Nat.le_of_ble_eq_true rfl | omega) only [bk_67_0, eo_1_1, g7_28_0, g6_28_2, eo_0_2, eo_3_3n, eo_3_3i, eo_3_3r, g6_28_3, eo_3_4n, eo_3_4i, eo_3_4r, v7_2, ev_ki, ev_kv, eo_3_5n, eo_3_5i, eo_3_5r, eo_6, eo_3_6n, eo_3_6i, eo_3_6r, eo_1_0, g9_28_1, eo_0_3, eo_0_5, eo_63, eo_0_4, eo_53, bk_67_1, bk_67_2, eo_0_6, eo_56z, a32_s2, a33_s2, a32_s3, a33_s3, a32_175, a33_175, ev_ua_ne, ev_ua_eq, h1, h2, e52, ev_up_ua, q1, q2, Int.add_zero, Int.add_sub_cancel, Int.reduceAdd, Int.reduceMul, Int.reduceSub, Int.reduceNeg, ev_wr_id]) | ((first | with_reducible refine br_40 ?_ ?_ | with_reducible refine br_41 ?_ ?_ | with_reducible refine br_42 ?_ ?_ | with_reducible refine br_43 ?_ ?_ | with_reducible refine br_44 ?_ ?_ | with_reducible refine br_45 ?_ ?_ | with_reducible refine br_46 ?_ ?_ | with_reducible refine br_47 ?_ ?_ | with_reducible refine br_48 ?_ ?_ | with_reducible refine br_49 ?_ ?_ | with_reducible refine br_50 ?_ ?_ | with_reducible refine br_51 ?_ ?_) <;> intro h <;> try simp (disch := first | assumption | exact Nat.le_of_ble_eq_true rfl | omega) only [ev_wr_id, not_true_eq_false, not_false_eq_true, Int.reduceEq, Int.reduceLT, Int.reduceLE, and_self, and_true, true_and, and_false, false_and, reduceIte] at h <;> try (exfalso; omega; done)))
      · by_cases c : y = one
        · rw [ev_u1_eq c, c]
          omega
        · rw [ev_u1_ne c]
          exact Int.le_refl _
      · by_cases c : y = one
        · rw [ev_u1_eq c]
          exact Or.inr (Or.inr ⟨c, r22, r21⟩)
        · exact Or.inl (ev_u1_ne c)
    · refine ⟨L, 0, ?_, Or.inl rfl, fun _ => rfl, fun y => Int.le_refl _, fun w h h' => by have := r13 w h h'; omega, fun w h h' => by have := r23 w h h'; omega, fun y => Or.inl rfl⟩
      clear r13 r23 hm1 hm2
      rw [mm_67]
      repeat' (first | (simp (disch := first | assumption | exact Nat.le_of_ble_eq_true rfl | omega) only [bk_67_0, eo_1_1, g7_28_0, g6_28_2, eo_0_2, eo_3_3n, eo_3_3i, eo_3_3r, g6_28_3, eo_3_4n, eo_3_4i, eo_3_4r, v7_2, ev_ki, ev_kv, eo_3_5n, eo_3_5i, eo_3_5r, eo_6, eo_3_6n, eo_3_6i, eo_3_6r, eo_1_0, g9_28_1, eo_0_3, eo_0_5, eo_63, eo_0_4, eo_53, bk_67_1, bk_67_2, eo_0_6, eo_56z, a32_s2, a33_s2, a32_s3, a33_s3, a32_175, a33_175, ev_ua_ne, ev_ua_eq, h1, h2, e52, q1, q2, Int.add_zero, Int.add_sub_cancel, Int.reduceAdd, Int.reduceMul, Int.reduceSub, Int.reduceNeg, ev_wr_id]) | ((first | with_reducible refine br_40 ?_ ?_ | with_reducible refine br_41 ?_ ?_ | with_reducible refine br_42 ?_ ?_ | with_reducible refine br_43 ?_ ?_ | with_reducible refine br_44 ?_ ?_ | with_reducible refine br_45 ?_ ?_ | with_reducible refine br_46 ?_ ?_ | with_reducible refine br_47 ?_ ?_ | with_reducible refine br_48 ?_ ?_ | with_reducible refine br_49 ?_ ?_ | with_reducible refine br_50 ?_ ?_ | with_reducible refine br_51 ?_ ?_) <;> intro h <;> try simp (disch := first | assumption | exact Nat.le_of_ble_eq_true rfl | omega) only [ev_wr_id, not_true_eq_false, not_false_eq_true, Int.reduceEq, Int.reduceLT, Int.reduceLE, and_self, and_true, true_and, and_false, false_and, reduceIte] at h <;> try (exfalso; omega; done)))
/-- a turn over the roads, as far as r -/
def st_th (T : Int → Int) (fr : Int) (L0 L : Int → Int) (r v : Int) : Prop := (v = 0 ∨ v = 1) ∧ (v = 0 → L = L0) ∧ (∀ y, L0 y ≤ L y) ∧ (∀ y, 0 ≤ y → y < 10 → 0 ≤ L y ∧ L y ≤ 60) ∧ (∀ w y, 1 ≤ w → w ≤ 60 → 0 ≤ y → y < 10 → w ≤ L y → st_R T fr w y) ∧ ∀ q x y w, q < r → 1 ≤ w → w ≤ 60 → st_ej T w (-1) q x y → w ≤ L0 x → w ≤ L y
theorem st_th_e {T : Int → Int} {fr r v v2 : Int} {L0 L L2 : Int → Int} (hI : st_I T) (hr : 0 ≤ r ∧ r < T 1) (hl : 0 ≤ st_lim T r ∧ st_lim T r ≤ 60) (h : st_th T fr L0 L r v) (hn : st_hv L L2 v2 (T (9 + 4 * r)) (T (9 + 4 * r + 1)) (st_lim T r)) (v3 : Int) (hv3 : (v2 = 0 → v3 = v) ∧ (v2 = 1 → v3 = 1)) : st_th T fr L0 L2 (r + 1) v3 := by
  obtain ⟨k1, k2, k3, k4, k5, k6⟩ := h
  obtain ⟨n1, n2, n3, n4, n5, n6⟩ := hn
  have g := hI.2.1 r hr.1 hr.2
  have i0 := hI.1.1
  refine ⟨by omega, fun h0 => ?_, fun y => ?_, fun y y0 y1 => ?_, fun w y w0 w1 y0 y1 hy => ?_, fun q x y w hq w0 w1 he hx => ?_⟩
  · have hv2 : v2 = 0 := by omega
    rw [n2 hv2]
    exact k2 (by omega)
  · have := n3 y
    have := k3 y
    omega
  · have a1 := k4 (T (9 + 4 * r)) (by omega) (by omega)
    have a2 := k4 (T (9 + 4 * r + 1)) (by omega) (by omega)
    have a3 := k4 y y0 y1
    have a4 := n3 y
    rcases n6 y with q | ⟨q, p⟩ | ⟨q, p⟩
    · omega
    · omega
    · omega
  · rcases n6 y with q | ⟨q, p⟩ | ⟨q, p⟩
    · rw [q] at hy
      exact k5 w y w0 w1 y0 y1 hy
    · have := k5 w (T (9 + 4 * r)) w0 w1 (by omega) (by omega) (by omega)
      exact st_R_e hI this ⟨hr, ⟨by omega, by omega⟩, Or.inl ⟨rfl, q.symm⟩⟩
    · have := k5 w (T (9 + 4 * r + 1)) w0 w1 (by omega) (by omega) (by omega)
      exact st_R_e hI this ⟨hr, ⟨by omega, by omega⟩, Or.inr ⟨q.symm, rfl⟩⟩
  · by_cases c : q = r
    · rw [c] at he
      have hlm := he.2.1.2
      rcases he.2.2 with p | p
      · rw [← p.2]
        refine n4 w ?_ hlm
        have := k3 (T (9 + 4 * r))
        rw [p.1] at this ⊢
        omega
      · rw [← p.1]
        refine n5 w ?_ hlm
        have := k3 (T (9 + 4 * r + 1))
        rw [p.2] at this ⊢
        omega
    · have := k6 q x y w (by omega) w0 w1 he hx
      have := n3 y
      omega
theorem l_66r {σ : ev_M} {s fr to tn : Int} {T L0 : Int → Int} (hs : ev_S s) (hE : st_E (st_T σ s) T) (hI : st_I T) : ∀ (k : Nat) (r v : Int) (L : Int → Int), 0 ≤ r → r + k = T 1 → st_th T fr L0 L r v → ∃ L2 v2, EB 66 4 [some (.inr (.inl 173)), some (.inr (.inl s)), some (.inl fr), some (.inl to), some (.inl v), some (.inl tn), some (.inl r)] [] (ev_ua σ 175 L) = EB 66 8 [some (.inr (.inl 173)), some (.inr (.inl s)), some (.inl fr), some (.inl to), some (.inl v2), some (.inl tn), some (.inl (T 1))] [] (ev_ua σ 175 L2) ∧ st_th T fr L0 L2 (T 1) v2 := by
  have hsb := ev_S_in hs
  have i0 := hI.1.1
  have i1 := hI.1.2.1
  have t1 : σ (s + 1) 1 = T 1 := by rw [tr_n1 (σ := σ) (s := s), hE _ (by omega) (by omega)]
  intro k
  induction k with
  | zero =>
    intro r v L h0 h1 ht
    obtain rfl : r = T 1 := by omega
    refine ⟨L, v, ?_, ht⟩
    clear ht h1
    rw [bk_66_4]
    repeat' (first | (simp (disch := first | assumption | exact Nat.le_of_ble_eq_true rfl | omega) only [bk_66_0, eo_6, eo_3_4n, eo_3_4i, eo_3_4r, eo_53, eo_0_4, eo_1_0, g9_28_1, eo_23_4n, eo_23_4i, eo_23_4r, eo_52, bk_66_2, eo_0_2, eo_3_5n, eo_3_5i, eo_3_5r, eo_0_5, eo_3_6n, eo_3_6i, eo_3_6r, eo_0_6, eo_1_1, g7_28_0, g6_27, v9_3, ev_ki, ev_kv, bk_66_5, bk_66_6, bk_66_7, eo_23_6n, eo_23_6i, eo_23_6r, eo_23_5n, eo_23_5i, eo_23_5r, bk_66_9, eo_0_3, eo_56i, a32_175, a33_175, ev_ua_ne, t1, Int.add_zero, Int.add_sub_cancel, Int.reduceAdd, Int.reduceMul, Int.reduceSub, Int.reduceNeg, ev_wr_id]) | ((first | with_reducible refine br_40 ?_ ?_ | with_reducible refine br_41 ?_ ?_ | with_reducible refine br_42 ?_ ?_ | with_reducible refine br_43 ?_ ?_ | with_reducible refine br_44 ?_ ?_ | with_reducible refine br_45 ?_ ?_ | with_reducible refine br_46 ?_ ?_ | with_reducible refine br_47 ?_ ?_ | with_reducible refine br_48 ?_ ?_ | with_reducible refine br_49 ?_ ?_ | with_reducible refine br_50 ?_ ?_ | with_reducible refine br_51 ?_ ?_) <;> intro h <;> try simp (disch := first | assumption | exact Nat.le_of_ble_eq_true rfl | omega) only [ev_wr_id, not_true_eq_false, not_false_eq_true, Int.reduceEq, Int.reduceLT, Int.reduceLE, and_self, and_true, true_and, and_false, false_and, reduceIte] at h <;> try (exfalso; omega; done)))
  | succ k ih =>
    intro r v L h0 h1 ht
    have hr : 0 ≤ r ∧ r < T 1 := by omega
    have g := hI.2.1 r h0 hr.2
    have hEa : st_E (st_T (ev_ua σ 175 L) s) T := st_E_t (st_T_congr (fun z q0 q1 => ev_ua_row (by omega))) hE
    have e52 := e_52 (σ := ev_ua σ 175 L) hs hEa hI hr
    have hps : 0 ≤ st_lim T r ∧ st_lim T r ≤ 60 := by
      unfold st_lim
      split
      · omega
      · split
        · omega
        · exact ev_ps_in
    have e2 : σ (s + 2) r = T (9 + 4 * r) := by rw [tr_2 (σ := σ) (s := s) (by omega), hE _ (by omega) (by omega)]
    have e3 : σ (s + 3) r = T (9 + 4 * r + 1) := by rw [tr_3 (σ := σ) (s := s) (by omega), hE _ (by omega) (by omega)]
    have hv := ht.1
    have hb := ht.2.2.2.1
    obtain ⟨L2, v2, e67, hn⟩ := c_67 (σ := σ) (s := s) (r := r) (L := L) hs (by omega) e2 e3 e52 (by omega) (by omega) (by omega) hps (hb _ (by omega) (by omega)) (hb _ (by omega) (by omega))
    obtain ⟨v3, hv3⟩ : ∃ v3, v3 = if v2 = 0 then v else 1 := ⟨_, rfl⟩
    have hv2 := hn.1
    have h4 := st_th_e hI hr hps ht hn v3 ⟨fun q => by rw [hv3, if_pos q], fun q => by rw [hv3, if_neg (by omega)]⟩
    obtain ⟨L5, v5, e, h⟩ := ih (r + 1) v3 L2 (by omega) (by omega) h4
    refine ⟨L5, v5, ?_, h⟩
    rw [← e]
    clear e h h4 hn ih hb ht hI h1 hEa
    rw [bk_66_4]
    rcases hv2 with q | q
    · rw [if_pos q] at hv3
      rw [hv3]
      rw [q] at e67
      rcases hv with q2 | q2
      · rw [q2]
        repeat' (first | (simp (disch := first | assumption | exact Nat.le_of_ble_eq_true rfl | omega) only [bk_66_0, eo_6, eo_3_4n, eo_3_4i, eo_3_4r, eo_53, eo_0_4, eo_1_0, g9_28_1, eo_23_4n, eo_23_4i, eo_23_4r, eo_52, bk_66_2, eo_0_2, eo_3_5n, eo_3_5i, eo_3_5r, eo_0_5, eo_3_6n, eo_3_6i, eo_3_6r, eo_0_6, eo_1_1, g7_28_0, g6_27, v9_3, ev_ki, ev_kv, bk_66_5, bk_66_6, bk_66_7, eo_23_6n, eo_23_6i, eo_23_6r, eo_23_5n, eo_23_5i, eo_23_5r, bk_66_9, eo_0_3, eo_56i, a32_175, a33_175, ev_ua_ne, t1, e67, Int.add_zero, Int.add_sub_cancel, Int.reduceAdd, Int.reduceMul, Int.reduceSub, Int.reduceNeg, ev_wr_id]) | ((first | with_reducible refine br_40 ?_ ?_ | with_reducible refine br_41 ?_ ?_ | with_reducible refine br_42 ?_ ?_ | with_reducible refine br_43 ?_ ?_ | with_reducible refine br_44 ?_ ?_ | with_reducible refine br_45 ?_ ?_ | with_reducible refine br_46 ?_ ?_ | with_reducible refine br_47 ?_ ?_ | with_reducible refine br_48 ?_ ?_ | with_reducible refine br_49 ?_ ?_ | with_reducible refine br_50 ?_ ?_ | with_reducible refine br_51 ?_ ?_) <;> intro h <;> try simp (disch := first | assumption | exact Nat.le_of_ble_eq_true rfl | omega) only [ev_wr_id, not_true_eq_false, not_false_eq_true, Int.reduceEq, Int.reduceLT, Int.reduceLE, and_self, and_true, true_and, and_false, false_and, reduceIte] at h <;> try (exfalso; omega; done)))
      · rw [q2]
        repeat' (first | (simp (disch := first | assumption | exact Nat.le_of_ble_eq_true rfl | omega) only [bk_66_0, eo_6, eo_3_4n, eo_3_4i, eo_3_4r, eo_53, eo_0_4, eo_1_0, g9_28_1, eo_23_4n, eo_23_4i, eo_23_4r, eo_52, bk_66_2, eo_0_2, eo_3_5n, eo_3_5i, eo_3_5r, eo_0_5, eo_3_6n, eo_3_6i, eo_3_6r, eo_0_6, eo_1_1, g7_28_0, g6_27, v9_3, ev_ki, ev_kv, bk_66_5, bk_66_6, bk_66_7, eo_23_6n, eo_23_6i, eo_23_6r, eo_23_5n, eo_23_5i, eo_23_5r, bk_66_9, eo_0_3, eo_56i, a32_175, a33_175, ev_ua_ne, t1, e67, Int.add_zero, Int.add_sub_cancel, Int.reduceAdd, Int.reduceMul, Int.reduceSub, Int.reduceNeg, ev_wr_id]) | ((first | with_reducible refine br_40 ?_ ?_ | with_reducible refine br_41 ?_ ?_ | with_reducible refine br_42 ?_ ?_ | with_reducible refine br_43 ?_ ?_ | with_reducible refine br_44 ?_ ?_ | with_reducible refine br_45 ?_ ?_ | with_reducible refine br_46 ?_ ?_ | with_reducible refine br_47 ?_ ?_ | with_reducible refine br_48 ?_ ?_ | with_reducible refine br_49 ?_ ?_ | with_reducible refine br_50 ?_ ?_ | with_reducible refine br_51 ?_ ?_) <;> intro h <;> try simp (disch := first | assumption | exact Nat.le_of_ble_eq_true rfl | omega) only [ev_wr_id, not_true_eq_false, not_false_eq_true, Int.reduceEq, Int.reduceLT, Int.reduceLE, and_self, and_true, true_and, and_false, false_and, reduceIte] at h <;> try (exfalso; omega; done)))
    · rw [if_neg (by omega)] at hv3
      rw [hv3]
      rw [q] at e67
      repeat' (first | (simp (disch := first | assumption | exact Nat.le_of_ble_eq_true rfl | omega) only [bk_66_0, eo_6, eo_3_4n, eo_3_4i, eo_3_4r, eo_53, eo_0_4, eo_1_0, g9_28_1, eo_23_4n, eo_23_4i, eo_23_4r, eo_52, bk_66_2, eo_0_2, eo_3_5n, eo_3_5i, eo_3_5r, eo_0_5, eo_3_6n, eo_3_6i, eo_3_6r, eo_0_6, eo_1_1, g7_28_0, g6_27, v9_3, ev_ki, ev_kv, bk_66_5, bk_66_6, bk_66_7, eo_23_6n, eo_23_6i, eo_23_6r, eo_23_5n, eo_23_5i, eo_23_5r, bk_66_9, eo_0_3, eo_56i, a32_175, a33_175, ev_ua_ne, t1, e67, Int.add_zero, Int.add_sub_cancel, Int.reduceAdd, Int.reduceMul, Int.reduceSub, Int.reduceNeg, ev_wr_id]) | ((first | with_reducible refine br_40 ?_ ?_ | with_reducible refine br_41 ?_ ?_ | with_reducible refine br_42 ?_ ?_ | with_reducible refine br_43 ?_ ?_ | with_reducible refine br_44 ?_ ?_ | with_reducible refine br_45 ?_ ?_ | with_reducible refine br_46 ?_ ?_ | with_reducible refine br_47 ?_ ?_ | with_reducible refine br_48 ?_ ?_ | with_reducible refine br_49 ?_ ?_ | with_reducible refine br_50 ?_ ?_ | with_reducible refine br_51 ?_ ?_) <;> intro h <;> try simp (disch := first | assumption | exact Nat.le_of_ble_eq_true rfl | omega) only [ev_wr_id, not_true_eq_false, not_false_eq_true, Int.reduceEq, Int.reduceLT, Int.reduceLE, and_self, and_true, true_and, and_false, false_and, reduceIte] at h <;> try (exfalso; omega; done)))
/-- what is stable reaches all -/
theorem st_hfull {T : Int → Int} {fr w : Int} {L G : Int → Int} (hI : st_I T) (hw : 1 ≤ w ∧ w ≤ 60) (hG : st_sp T w (-1) fr G) (h60 : L fr = 60) (hst : ∀ q x y, st_ej T w (-1) q x y → w ≤ L x → w ≤ L y) : ∀ (n : Nat) (y : Int), 0 ≤ y → y < 10 → G y ≤ n → G y < 1000000 → w ≤ L y := by
  intro n
  induction n with
  | zero =>
    intro y h0 h1 h2 h3
    by_cases c : y = fr
    · rw [c]
      omega
    · obtain ⟨r, x, q1, q2⟩ := hG.2.2.2 y h0 h1 c h3
      have q3 := st_ej_in hI q1
      have q4 := hG.2.1 x q3.1.1 (by omega)
      omega
  | succ n ih =>
    intro y h0 h1 h2 h3
    by_cases c : y = fr
    · rw [c]
      omega
    · obtain ⟨r, x, q1, q2⟩ := hG.2.2.2 y h0 h1 c h3
      have q3 := st_ej_in hI q1
      exact hst r x y q1 (ih x q3.1.1 (by omega) (by omega) (by omega))
theorem st_hprog {T : Int → Int} {fr w : Int} {L G : Int → Int} (hI : st_I T) (hw : 1 ≤ w ∧ w ≤ 60) (hG : st_sp T w (-1) fr G) (h60 : L fr = 60) : ∀ (n : Nat) (y : Int), 0 ≤ y → y < 10 → G y ≤ n → G y < 1000000 → ¬ w ≤ L y → ∃ q x z, (0 ≤ z ∧ z < 10) ∧ st_ej T w (-1) q x z ∧ w ≤ L x ∧ ¬ w ≤ L z := by
  intro n
  induction n with
  | zero =>
    intro y h0 h1 h2 h3 h4
    have hys : y ≠ fr := fun c => h4 (by rw [c]; omega)
    obtain ⟨r, x, q1, q2⟩ := hG.2.2.2 y h0 h1 hys h3
    have q3 := st_ej_in hI q1
    have q4 := hG.2.1 x q3.1.1 (by omega)
    omega
  | succ n ih =>
    intro y h0 h1 h2 h3 h4
    have hys : y ≠ fr := fun c => h4 (by rw [c]; omega)
    obtain ⟨r, x, q1, q2⟩ := hG.2.2.2 y h0 h1 hys h3
    have q3 := st_ej_in hI q1
    by_cases c : w ≤ L x
    · exact ⟨r, x, y, ⟨h0, h1⟩, q1, c, h4⟩
    · exact ih x q3.1.1 (by omega) (by omega) (by omega) c
def st_le (L : Int → Int) (w y : Int) : Prop := 0 ≤ y ∧ y < 10 ∧ w ≤ L y
/-- what is found -/
def st_hd (T : Int → Int) (fr : Int) (L : Int → Int) : Prop := (∀ y, 0 ≤ y → y < 10 → 0 ≤ L y ∧ L y ≤ 60) ∧ ∀ w y, 1 ≤ w → w ≤ 60 → 0 ≤ y → y < 10 → (w ≤ L y ↔ st_R T fr w y)
theorem l_66 {σ : ev_M} {s fr to : Int} {T : Int → Int} (hs : ev_S s) (hE : st_E (st_T σ s) T) (hI : st_I T) (hf : 0 ≤ fr ∧ fr < T 0) (hto : 0 ≤ to ∧ to < 10) (hex : ∀ w, 1 ≤ w → w ≤ 60 → ∃ G, st_sp T w (-1) fr G) : ∀ (k tt : Nat) (tn v : Int) (L : Int → Int) (p6 : Option ev_V), tn = tt → tt + k = 10 → L fr = 60 → (v = 0 ∨ v = 1) → (∀ y, 0 ≤ y → y < 10 → 0 ≤ L y ∧ L y ≤ 60) → (∀ w y, 1 ≤ w → w ≤ 60 → 0 ≤ y → y < 10 → w ≤ L y → st_R T fr w y) → (v = 0 → ∀ q x y w, 1 ≤ w → w ≤ 60 → st_ej T w (-1) q x y → w ≤ L x → w ≤ L y) → (∀ w, 1 ≤ w → w ≤ 60 → tt + 1 ≤ ev_nu (st_le L w) 10 ∨ ∀ y, 0 ≤ y → y < 10 → st_R T fr w y → w ≤ L y) → ∃ L2, EB 66 3 [some (.inr (.inl 173)), some (.inr (.inl s)), some (.inl fr), some (.inl to), some (.inl v), some (.inl tn), p6] [] (ev_ua σ 175 L) = some (some (.inl (L2 to)), ev_ua σ 175 L2) ∧ st_hd T fr L2 := by
  have hsb := ev_S_in hs
  have i0 := hI.1.1
  have i1 := hI.1.2.1
  have stop : ∀ (tn : Int) (L : Int → Int) (p6 : Option ev_V), 0 ≤ tn ∧ tn ≤ 10 → L fr = 60 → (∀ y, 0 ≤ y → y < 10 → 0 ≤ L y ∧ L y ≤ 60) → (∀ w y, 1 ≤ w → w ≤ 60 → 0 ≤ y → y < 10 → w ≤ L y → st_R T fr w y) → (∀ q x y w, 1 ≤ w → w ≤ 60 → st_ej T w (-1) q x y → w ≤ L x → w ≤ L y) → ∃ L2, EB 66 3 [some (.inr (.inl 173)), some (.inr (.inl s)), some (.inl fr), some (.inl to), some (.inl 0), some (.inl tn), p6] [] (ev_ua σ 175 L) = some (some (.inl (L2 to)), ev_ua σ 175 L2) ∧ st_hd T fr L2 := by
    intro tn L p6 htn h1 h2 h3 h4
    refine ⟨L, ?_, h2, fun w y w0 w1 y0 y1 => ⟨fun h => h3 w y w0 w1 y0 y1 h, fun h => ?_⟩⟩
    · clear h1 h2 h3 h4 hI hex
      rw [bk_66_3]
      repeat' (first | (simp (disch := first | assumption | exact Nat.le_of_ble_eq_true rfl | omega) only [bk_66_0, eo_6, eo_3_4n, eo_3_4i, eo_3_4r, eo_53, eo_0_4, eo_1_0, g9_28_1, eo_23_4n, eo_23_4i, eo_23_4r, eo_52, bk_66_2, eo_0_2, eo_3_5n, eo_3_5i, eo_3_5r, eo_0_5, eo_3_6n, eo_3_6i, eo_3_6r, eo_0_6, eo_1_1, g7_28_0, g6_27, v9_3, ev_ki, ev_kv, bk_66_5, bk_66_6, bk_66_7, eo_23_6n, eo_23_6i, eo_23_6r, bk_66_8, eo_23_5n, eo_23_5i, eo_23_5r, bk_66_9, eo_0_3, eo_56i, a32_175, a33_175, ev_ua_eq, Int.add_zero, Int.add_sub_cancel, Int.reduceAdd, Int.reduceMul, Int.reduceSub, Int.reduceNeg, ev_wr_id]) | ((first | with_reducible refine br_40 ?_ ?_ | with_reducible refine br_41 ?_ ?_ | with_reducible refine br_42 ?_ ?_ | with_reducible refine br_43 ?_ ?_ | with_reducible refine br_44 ?_ ?_ | with_reducible refine br_45 ?_ ?_ | with_reducible refine br_46 ?_ ?_ | with_reducible refine br_47 ?_ ?_ | with_reducible refine br_48 ?_ ?_ | with_reducible refine br_49 ?_ ?_ | with_reducible refine br_50 ?_ ?_ | with_reducible refine br_51 ?_ ?_) <;> intro h <;> try simp (disch := first | assumption | exact Nat.le_of_ble_eq_true rfl | omega) only [ev_wr_id, not_true_eq_false, not_false_eq_true, Int.reduceEq, Int.reduceLT, Int.reduceLE, and_self, and_true, true_and, and_false, false_and, reduceIte] at h <;> try (exfalso; omega; done)))
    · obtain ⟨G, hG, hGy⟩ := h
      have := (hG.2.1 y y0 y1).1
      exact st_hfull hI ⟨w0, w1⟩ hG h1 (fun q x z he hx => h4 q x z w w0 w1 he hx) (G y).toNat y y0 y1 (by omega) hGy
  intro k
  induction k with
  | zero =>
    intro tt tn v L p6 htn htt h1 hv h2 h3 h4 h5
    rcases hv with c | c
    · rw [c] at h4 ⊢
      exact stop tn L p6 (by omega) h1 h2 h3 (h4 rfl)
    · refine ⟨L, ?_, h2, fun w y w0 w1 y0 y1 => ⟨fun h => h3 w y w0 w1 y0 y1 h, fun h => ?_⟩⟩
      · have htn2 : tn = 10 := by omega
        rw [c, htn2]
        clear h1 h2 h3 hI h4 h5 stop htn htt hex
        rw [bk_66_3]
        repeat' (first | (simp (disch := first | assumption | exact Nat.le_of_ble_eq_true rfl | omega) only [bk_66_0, eo_6, eo_3_4n, eo_3_4i, eo_3_4r, eo_53, eo_0_4, eo_1_0, g9_28_1, eo_23_4n, eo_23_4i, eo_23_4r, eo_52, bk_66_2, eo_0_2, eo_3_5n, eo_3_5i, eo_3_5r, eo_0_5, eo_3_6n, eo_3_6i, eo_3_6r, eo_0_6, eo_1_1, g7_28_0, g6_27, v9_3, ev_ki, ev_kv, bk_66_5, bk_66_6, bk_66_7, eo_23_6n, eo_23_6i, eo_23_6r, bk_66_8, eo_23_5n, eo_23_5i, eo_23_5r, bk_66_9, eo_0_3, eo_56i, a32_175, a33_175, ev_ua_eq, Int.add_zero, Int.add_sub_cancel, Int.reduceAdd, Int.reduceMul, Int.reduceSub, Int.reduceNeg, ev_wr_id]) | ((first | with_reducible refine br_40 ?_ ?_ | with_reducible refine br_41 ?_ ?_ | with_reducible refine br_42 ?_ ?_ | with_reducible refine br_43 ?_ ?_ | with_reducible refine br_44 ?_ ?_ | with_reducible refine br_45 ?_ ?_ | with_reducible refine br_46 ?_ ?_ | with_reducible refine br_47 ?_ ?_ | with_reducible refine br_48 ?_ ?_ | with_reducible refine br_49 ?_ ?_ | with_reducible refine br_50 ?_ ?_ | with_reducible refine br_51 ?_ ?_) <;> intro h <;> try simp (disch := first | assumption | exact Nat.le_of_ble_eq_true rfl | omega) only [ev_wr_id, not_true_eq_false, not_false_eq_true, Int.reduceEq, Int.reduceLT, Int.reduceLE, and_self, and_true, true_and, and_false, false_and, reduceIte] at h <;> try (exfalso; omega; done)))
      · rcases h5 w w0 w1 with q | q
        · have := ev_nu_le (p := st_le L w) 10
          omega
        · exact q y y0 y1 h
  | succ k ih =>
    intro tt tn v L p6 htn htt h1 hv h2 h3 h4 h5
    rcases hv with c | c
    · rw [c] at h4 ⊢
      exact stop tn L p6 (by omega) h1 h2 h3 (h4 rfl)
    · obtain ⟨L2, v2, er, hr⟩ := l_66r (σ := σ) (s := s) (fr := fr) (to := to) (tn := tn) (T := T) (L0 := L) hs hE hI (T 1).toNat 0 0 L (by omega) (by omega) ⟨Or.inl rfl, fun _ => rfl, fun y => Int.le_refl _, h2, h3, fun q x y w hq w0 w1 he => by have := he.1.1; omega⟩
      obtain ⟨k1, k2, k3, k4, k5, k6⟩ := hr
      have z2 : L2 fr = 60 := by
        have q1 := k3 fr
        have q2 := k4 fr hf.1 (by omega)
        omega
      obtain ⟨L5, e, h⟩ := ih (tt + 1) (tn + 1) v2 L2 (some (.inl (T 1))) (by omega) (by omega) z2 k1 k4 k5 (fun hv2 q x y w w0 w1 he hx => by
        have q2 := k6 q x y w he.1.2 w0 w1 he
        rw [k2 hv2] at hx ⊢
        rw [k2 hv2] at q2
        exact q2 hx) (fun w w0 w1 => by
        by_cases hall : ∀ y, 0 ≤ y → y < 10 → st_R T fr w y → w ≤ L2 y
        · exact Or.inr hall
        · refine Or.inl ?_
          obtain ⟨G, hG⟩ := hex w w0 w1
          have hne : ∃ y, 0 ≤ y ∧ y < 10 ∧ G y < 1000000 ∧ ¬ w ≤ L y := by
            apply Classical.byContradiction
            intro hno
            refine hall (fun y y0 y1 hy => ?_)
            by_cases q : w ≤ L y
            · have q1 := k3 y
              omega
            · exact absurd ⟨y, y0, y1, (st_R_G hI hG ⟨y0, y1⟩).mp hy, q⟩ hno
          obtain ⟨y, y0, y1, yr, yn⟩ := hne
          have q4 := hG.2.1 y y0 y1
          obtain ⟨r, x, z, z0, p1, p2, p3⟩ := st_hprog hI ⟨w0, w1⟩ hG h1 (G y).toNat y y0 y1 (by omega) yr yn
          have p5 := k6 r x z w p1.1.2 w0 w1 p1 p2
          have hlt := ev_nu_1 (p := st_le L w) (q := st_le L2 w) (y := z) z0 (fun u hu => ⟨hu.1, hu.2.1, by
            have q1 := k3 u
            have q3 := hu.2.2
            omega⟩) ⟨z0.1, z0.2, p5⟩ (fun hu => p3 hu.2.2)
          rcases h5 w w0 w1 with q | q
          · omega
          · exact absurd (q y y0 y1 ((st_R_G hI hG ⟨y0, y1⟩).mpr yr)) yn)
      refine ⟨L5, ?_, h⟩
      have htn2 : 0 ≤ tn ∧ tn < 10 := by omega
      rw [← e, c]
      clear e h z2 k1 k2 k3 k4 k5 k6 h1 h2 h3 h4 h5 stop ih hI htn htt hex
      rw [bk_66_3]
      repeat' (first | (simp (disch := first | assumption | exact Nat.le_of_ble_eq_true rfl | omega) only [bk_66_0, eo_6, eo_3_4n, eo_3_4i, eo_3_4r, eo_53, eo_0_4, eo_1_0, g9_28_1, eo_23_4n, eo_23_4i, eo_23_4r, eo_52, bk_66_2, eo_0_2, eo_3_5n, eo_3_5i, eo_3_5r, eo_0_5, eo_3_6n, eo_3_6i, eo_3_6r, eo_0_6, eo_1_1, g7_28_0, g6_27, v9_3, ev_ki, ev_kv, bk_66_5, bk_66_6, bk_66_7, eo_23_6n, eo_23_6i, eo_23_6r, bk_66_8, eo_23_5n, eo_23_5i, eo_23_5r, bk_66_9, eo_0_3, eo_56i, a32_175, a33_175, Int.add_zero, Int.add_sub_cancel, Int.reduceAdd, Int.reduceMul, Int.reduceSub, Int.reduceNeg, ev_wr_id]) | ((first | with_reducible refine br_40 ?_ ?_ | with_reducible refine br_41 ?_ ?_ | with_reducible refine br_42 ?_ ?_ | with_reducible refine br_43 ?_ ?_ | with_reducible refine br_44 ?_ ?_ | with_reducible refine br_45 ?_ ?_ | with_reducible refine br_46 ?_ ?_ | with_reducible refine br_47 ?_ ?_ | with_reducible refine br_48 ?_ ?_ | with_reducible refine br_49 ?_ ?_ | with_reducible refine br_50 ?_ ?_ | with_reducible refine br_51 ?_ ?_) <;> intro h <;> try simp (disch := first | assumption | exact Nat.le_of_ble_eq_true rfl | omega) only [ev_wr_id, not_true_eq_false, not_false_eq_true, Int.reduceEq, Int.reduceLT, Int.reduceLE, and_self, and_true, true_and, and_false, false_and, reduceIte] at h <;> try (exfalso; omega; done)))
      rw [er, bk_66_8]
      repeat' (first | (simp (disch := first | assumption | exact Nat.le_of_ble_eq_true rfl | omega) only [bk_66_0, eo_6, eo_3_4n, eo_3_4i, eo_3_4r, eo_53, eo_0_4, eo_1_0, g9_28_1, eo_23_4n, eo_23_4i, eo_23_4r, eo_52, bk_66_2, eo_0_2, eo_3_5n, eo_3_5i, eo_3_5r, eo_0_5, eo_3_6n, eo_3_6i, eo_3_6r, eo_0_6, eo_1_1, g7_28_0, g6_27, v9_3, ev_ki, ev_kv, bk_66_5, bk_66_6, bk_66_7, eo_23_6n, eo_23_6i, eo_23_6r, bk_66_8, eo_23_5n, eo_23_5i, eo_23_5r, bk_66_9, eo_0_3, eo_56i, a32_175, a33_175, Int.add_zero, Int.add_sub_cancel, Int.reduceAdd, Int.reduceMul, Int.reduceSub, Int.reduceNeg, ev_wr_id]) | ((first | with_reducible refine br_40 ?_ ?_ | with_reducible refine br_41 ?_ ?_ | with_reducible refine br_42 ?_ ?_ | with_reducible refine br_43 ?_ ?_ | with_reducible refine br_44 ?_ ?_ | with_reducible refine br_45 ?_ ?_ | with_reducible refine br_46 ?_ ?_ | with_reducible refine br_47 ?_ ?_ | with_reducible refine br_48 ?_ ?_ | with_reducible refine br_49 ?_ ?_ | with_reducible refine br_50 ?_ ?_ | with_reducible refine br_51 ?_ ?_) <;> intro h <;> try simp (disch := first | assumption | exact Nat.le_of_ble_eq_true rfl | omega) only [ev_wr_id, not_true_eq_false, not_false_eq_true, Int.reduceEq, Int.reduceLT, Int.reduceLE, and_self, and_true, true_and, and_false, false_and, reduceIte] at h <;> try (exfalso; omega; done)))
theorem l_66a {σ : ev_M} {s fr to : Int} {p5 p6 : Option ev_V} : ∀ (k : Nat) (n : Int) (F : Int → Int), 0 ≤ n → n + k = 10 → (∀ y, 0 ≤ y → y < n → F y = 0) → ∃ F2, EB 66 1 [some (.inr (.inl 173)), some (.inr (.inl s)), some (.inl fr), some (.inl to), some (.inl n), p5, p6] [] (ev_ua σ 175 F) = EB 66 2 [some (.inr (.inl 173)), some (.inr (.inl s)), some (.inl fr), some (.inl to), some (.inl 10), p5, p6] [] (ev_ua σ 175 F2) ∧ ∀ y, 0 ≤ y → y < 10 → F2 y = 0 := by
  intro k
  induction k with
  | zero =>
    intro n F h0 h1 hf
    obtain rfl : n = 10 := by omega
    refine ⟨F, ?_, hf⟩
    clear hf
    rw [bk_66_1]
    repeat' (first | (simp (disch := first | assumption | exact Nat.le_of_ble_eq_true rfl | omega) only [bk_66_0, eo_6, eo_3_4n, eo_3_4i, eo_3_4r, eo_53, eo_0_4, eo_1_0, g9_28_1, eo_23_4n, eo_23_4i, eo_23_4r, eo_52, eo_0_2, eo_3_5n, eo_3_5i, eo_3_5r, eo_0_5, eo_3_6n, eo_3_6i, eo_3_6r, eo_0_6, eo_1_1, g7_28_0, g6_27, v9_3, ev_ki, ev_kv, bk_66_5, bk_66_6, bk_66_7, eo_23_6n, eo_23_6i, eo_23_6r, bk_66_8, eo_23_5n, eo_23_5i, eo_23_5r, bk_66_9, eo_0_3, eo_56i, a32_175, a33_175, Int.add_zero, Int.add_sub_cancel, Int.reduceAdd, Int.reduceMul, Int.reduceSub, Int.reduceNeg, ev_wr_id]) | ((first | with_reducible refine br_40 ?_ ?_ | with_reducible refine br_41 ?_ ?_ | with_reducible refine br_42 ?_ ?_ | with_reducible refine br_43 ?_ ?_ | with_reducible refine br_44 ?_ ?_ | with_reducible refine br_45 ?_ ?_ | with_reducible refine br_46 ?_ ?_ | with_reducible refine br_47 ?_ ?_ | with_reducible refine br_48 ?_ ?_ | with_reducible refine br_49 ?_ ?_ | with_reducible refine br_50 ?_ ?_ | with_reducible refine br_51 ?_ ?_) <;> intro h <;> try simp (disch := first | assumption | exact Nat.le_of_ble_eq_true rfl | omega) only [ev_wr_id, not_true_eq_false, not_false_eq_true, Int.reduceEq, Int.reduceLT, Int.reduceLE, and_self, and_true, true_and, and_false, false_and, reduceIte] at h <;> try (exfalso; omega; done)))
  | succ k ih =>
    intro n F h0 h1 hf
    obtain ⟨F2, e, h⟩ := ih (n + 1) (ev_u1 F n 0) (by omega) (by omega) (fun y y0 y1 => by
      by_cases c : y = n
      · exact ev_u1_eq c
      · rw [ev_u1_ne c]
        exact hf y y0 (by omega))
    refine ⟨F2, ?_, h⟩
    rw [← e]
    clear e h hf ih
    rw [bk_66_1]
    repeat' (first | (simp (disch := first | assumption | exact Nat.le_of_ble_eq_true rfl | omega) only [bk_66_0, eo_6, eo_3_4n, eo_3_4i, eo_3_4r, eo_53, eo_0_4, eo_1_0, g9_28_1, eo_23_4n, eo_23_4i, eo_23_4r, eo_52, eo_0_2, eo_3_5n, eo_3_5i, eo_3_5r, eo_0_5, eo_3_6n, eo_3_6i, eo_3_6r, eo_0_6, eo_1_1, g7_28_0, g6_27, v9_3, ev_ki, ev_kv, bk_66_5, bk_66_6, bk_66_7, eo_23_6n, eo_23_6i, eo_23_6r, bk_66_8, eo_23_5n, eo_23_5i, eo_23_5r, bk_66_9, eo_0_3, eo_56i, a32_175, a33_175, ev_up_ua, Int.add_zero, Int.add_sub_cancel, Int.reduceAdd, Int.reduceMul, Int.reduceSub, Int.reduceNeg, ev_wr_id]) | ((first | with_reducible refine br_40 ?_ ?_ | with_reducible refine br_41 ?_ ?_ | with_reducible refine br_42 ?_ ?_ | with_reducible refine br_43 ?_ ?_ | with_reducible refine br_44 ?_ ?_ | with_reducible refine br_45 ?_ ?_ | with_reducible refine br_46 ?_ ?_ | with_reducible refine br_47 ?_ ?_ | with_reducible refine br_48 ?_ ?_ | with_reducible refine br_49 ?_ ?_ | with_reducible refine br_50 ?_ ?_ | with_reducible refine br_51 ?_ ?_) <;> intro h <;> try simp (disch := first | assumption | exact Nat.le_of_ble_eq_true rfl | omega) only [ev_wr_id, not_true_eq_false, not_false_eq_true, Int.reduceEq, Int.reduceLT, Int.reduceLE, and_self, and_true, true_and, and_false, false_and, reduceIte] at h <;> try (exfalso; omega; done)))
theorem c_66 {σ : ev_M} {s fr to : Int} {T : Int → Int} (hs : ev_S s) (hE : st_E (st_T σ s) T) (hI : st_I T) (hf : 0 ≤ fr ∧ fr < T 0) (hto : 0 ≤ to ∧ to < 10) (hex : ∀ w, 1 ≤ w → w ≤ 60 → ∃ G, st_sp T w (-1) fr G) : ∃ L, EM 66 [.inr (.inl 173), .inr (.inl s), .inl fr, .inl to] σ = some (some (.inl (L to)), ev_ua σ 175 L) ∧ st_hd T fr L := by
  have i0 := hI.1.1
  obtain ⟨F1, e1, h1⟩ := l_66a (σ := σ) (s := s) (fr := fr) (to := to) (p5 := none) (p6 := none) 10 0 (σ 175) (by omega) (by omega) (fun y y0 y1 => by omega)
  rw [ev_ua_self] at e1
  obtain ⟨F2, hF2⟩ : ∃ F2, F2 = ev_u1 F1 fr 60 := ⟨_, rfl⟩
  have z2 : F2 fr = 60 := by rw [hF2]; exact ev_u1_eq rfl
  have zo : ∀ y, 0 ≤ y → y < 10 → y ≠ fr → F2 y = 0 := fun y y0 y1 c => by rw [hF2, ev_u1_ne c, h1 y y0 y1]
  obtain ⟨L, e, h⟩ := l_66 hs hE hI hf hto hex 10 0 0 1 F2 none rfl (by omega) z2 (Or.inr rfl) (fun y y0 y1 => by
    by_cases c : y = fr
    · rw [c, z2]
      omega
    · rw [zo y y0 y1 c]
      omega) (fun w y w0 w1 y0 y1 hy => by
    by_cases c : y = fr
    · obtain ⟨G, hG⟩ := hex w w0 w1
      exact ⟨G, hG, by rw [c, hG.1]; omega⟩
    · rw [zo y y0 y1 c] at hy
      omega) (fun q => by omega) (fun w w0 w1 => Or.inl (ev_nu_pos (k := 10) hf.1 (by omega) ⟨hf.1, by omega, by rw [z2]; exact w1⟩))
  refine ⟨L, ?_, h⟩
  rw [mm_66]
  repeat' (first | (simp (disch := first | assumption | exact Nat.le_of_ble_eq_true rfl | omega) only [bk_66_0, eo_6, eo_3_4n, eo_3_4i, eo_3_4r, eo_53, eo_0_4, eo_1_0, g9_28_1, eo_23_4n, eo_23_4i, eo_23_4r, eo_52, bk_66_2, eo_0_2, eo_3_5n, eo_3_5i, eo_3_5r, eo_0_5, eo_3_6n, eo_3_6i, eo_3_6r, eo_0_6, eo_1_1, g7_28_0, g6_27, v9_3, ev_ki, ev_kv, bk_66_5, bk_66_6, bk_66_7, eo_23_6n, eo_23_6i, eo_23_6r, bk_66_8, eo_23_5n, eo_23_5i, eo_23_5r, bk_66_9, eo_0_3, eo_56i, a32_175, a33_175, Int.add_zero, Int.add_sub_cancel, Int.reduceAdd, Int.reduceMul, Int.reduceSub, Int.reduceNeg, ev_wr_id]) | ((first | with_reducible refine br_40 ?_ ?_ | with_reducible refine br_41 ?_ ?_ | with_reducible refine br_42 ?_ ?_ | with_reducible refine br_43 ?_ ?_ | with_reducible refine br_44 ?_ ?_ | with_reducible refine br_45 ?_ ?_ | with_reducible refine br_46 ?_ ?_ | with_reducible refine br_47 ?_ ?_ | with_reducible refine br_48 ?_ ?_ | with_reducible refine br_49 ?_ ?_ | with_reducible refine br_50 ?_ ?_ | with_reducible refine br_51 ?_ ?_) <;> intro h <;> try simp (disch := first | assumption | exact Nat.le_of_ble_eq_true rfl | omega) only [ev_wr_id, not_true_eq_false, not_false_eq_true, Int.reduceEq, Int.reduceLT, Int.reduceLE, and_self, and_true, true_and, and_false, false_and, reduceIte] at h <;> try (exfalso; omega; done)))
  rw [e1, bk_66_2]
  rw [hF2] at e
  repeat' (first | (simp (disch := first | assumption | exact Nat.le_of_ble_eq_true rfl | omega) only [bk_66_0, eo_6, eo_3_4n, eo_3_4i, eo_3_4r, eo_53, eo_0_4, eo_1_0, g9_28_1, eo_23_4n, eo_23_4i, eo_23_4r, eo_52, bk_66_2, eo_0_2, eo_3_5n, eo_3_5i, eo_3_5r, eo_0_5, eo_3_6n, eo_3_6i, eo_3_6r, eo_0_6, eo_1_1, g7_28_0, g6_27, v9_3, ev_ki, ev_kv, bk_66_5, bk_66_6, bk_66_7, eo_23_6n, eo_23_6i, eo_23_6r, bk_66_8, eo_23_5n, eo_23_5i, eo_23_5r, bk_66_9, eo_0_3, eo_56i, a32_175, a33_175, ev_up_ua, Int.add_zero, Int.add_sub_cancel, Int.reduceAdd, Int.reduceMul, Int.reduceSub, Int.reduceNeg, ev_wr_id]) | ((first | with_reducible refine br_40 ?_ ?_ | with_reducible refine br_41 ?_ ?_ | with_reducible refine br_42 ?_ ?_ | with_reducible refine br_43 ?_ ?_ | with_reducible refine br_44 ?_ ?_ | with_reducible refine br_45 ?_ ?_ | with_reducible refine br_46 ?_ ?_ | with_reducible refine br_47 ?_ ?_ | with_reducible refine br_48 ?_ ?_ | with_reducible refine br_49 ?_ ?_ | with_reducible refine br_50 ?_ ?_ | with_reducible refine br_51 ?_ ?_) <;> intro h <;> try simp (disch := first | assumption | exact Nat.le_of_ble_eq_true rfl | omega) only [ev_wr_id, not_true_eq_false, not_false_eq_true, Int.reduceEq, Int.reduceLT, Int.reduceLE, and_self, and_true, true_and, and_false, false_and, reduceIte] at h <;> try (exfalso; omega; done)))
  exact e
