/-! the law's look at the ways -/
theorem st_gin {T : Int → Int} {w o s : Int} {G : Int → Int} (hG : st_sp T w o s G) (y : Int) (h : 0 ≤ y ∧ y < 10) : 0 ≤ G y ∧ (G y = 1000000 ∨ G y ≤ 990) := hG.2.1 y h.1 h.2
/-- an edge ahead -/
theorem st_pre {T : Int → Int} {w o s x r : Int} {G H : Int → Int} (hI : st_I T) (hG : st_sp T w o s G) (hH : st_sp T w o x H) (he : st_ej T w o r s x) : ∀ (n : Nat) (y : Int), 0 ≤ y → y < 10 → H y ≤ n → H y < 1000000 → G y ≤ H y + T (9 + 4 * r + 2) := by
  intro n
  induction n with
  | zero =>
    intro y h0 h1 h2 h3
    have g := st_gin hH y ⟨h0, h1⟩
    by_cases c : y = x
    · subst c
      have k := hG.2.2.1 _ _ _ he
      rw [hG.1] at k
      rw [hH.1]
      exact k
    · obtain ⟨q, z, k1, k2⟩ := hH.2.2.2 y h0 h1 c h3
      have e := st_ej_in hI k1
      have g2 := st_gin hH z (by omega)
      omega
  | succ n ih =>
    intro y h0 h1 h2 h3
    by_cases c : y = x
    · subst c
      have k := hG.2.2.1 _ _ _ he
      rw [hG.1] at k
      rw [hH.1]
      exact k
    · obtain ⟨q, z, k1, k2⟩ := hH.2.2.2 y h0 h1 c h3
      have e := st_ej_in hI k1
      have g2 := st_gin hH z (by omega)
      have k3 := ih z e.1.1 (by omega) (by omega) (by omega)
      have k4 := hG.2.2.1 _ _ _ k1
      omega
theorem st_sy1 {T : Int → Int} {w o a : Int} {G : Int → Int} (hI : st_I T) (ha : 0 ≤ a ∧ a < 10) (hw : 0 ≤ w ∧ w ≤ 60) (ho : -1 ≤ o ∧ o < 20) (hG : st_sp T w o a G) : ∀ (n : Nat) (t : Int), 0 ≤ t → t < T 0 → G t ≤ n → G t < 1000000 → st_Gs T w o t a ≤ G t := by
  have i0 := hI.1.1
  intro n
  induction n with
  | zero =>
    intro t h0 h1 h2 h3
    have g := st_gin hG t (by omega)
    by_cases c : t = a
    · subst c
      have k := (st_Gs_sp (w := w) (o := o) hI ⟨h0, h1⟩ hw ho).1
      omega
    · obtain ⟨q, z, k1, k2⟩ := hG.2.2.2 t h0 (by omega) c h3
      have e := st_ej_in hI k1
      have g2 := st_gin hG z (by omega)
      omega
  | succ n ih =>
    intro t h0 h1 h2 h3
    have g := st_gin hG t (by omega)
    by_cases c : t = a
    · subst c
      have k := (st_Gs_sp (w := w) (o := o) hI ⟨h0, h1⟩ hw ho).1
      omega
    · obtain ⟨q, z, k1, k2⟩ := hG.2.2.2 t h0 (by omega) c h3
      have e := st_ej_in hI k1
      have g2 := st_gin hG z (by omega)
      have k3 := ih z e.1.1 e.1.2 (by omega) (by omega)
      have hz := st_Gs_sp (w := w) (o := o) hI e.1 hw ho
      have ht := st_Gs_sp (w := w) (o := o) hI e.2.1 hw ho
      have ga := st_gin hz a ha
      have k4 := st_pre hI ht hz (st_ej_s k1) (st_Gs T w o z a).toNat a ha.1 ha.2 (by omega) (by omega)
      omega
/-- the way there is as long as the way back -/
theorem st_wy_s {T : Int → Int} {a t w : Int} (hI : st_I T) (ha : 0 ≤ a ∧ a < T 0) (ht : 0 ≤ t ∧ t < T 0) (hw : 1 ≤ w ∧ w ≤ 60) : st_wy T t a w = st_wy T a t w := by
  have i0 := hI.1.1
  have hA := st_Gs_sp (w := w) (o := -1) hI ha (by omega) (by omega)
  have hT := st_Gs_sp (w := w) (o := -1) hI ht (by omega) (by omega)
  have g1 := st_gin hA t (by omega)
  have g2 := st_gin hT a (by omega)
  have k1 := st_sy1 hI (by omega) (by omega) (by omega) hA (st_Gs T w (-1) a t).toNat t ht.1 ht.2 (by omega)
  have k2 := st_sy1 hI (by omega) (by omega) (by omega) hT (st_Gs T w (-1) t a).toNat a ha.1 ha.2 (by omega)
  unfold st_wy
  by_cases c : st_Gs T w (-1) a t < 1000000
  · have k3 := k1 c
    have k4 := k2 (by omega)
    rw [if_pos c, if_pos (by omega)]
    omega
  · rw [if_neg c]
    by_cases d : st_Gs T w (-1) t a < 1000000
    · have k4 := k2 d
      omega
    · rw [if_neg d]
theorem st_wy_in {T : Int → Int} {a t w : Int} (hI : st_I T) (ha : 0 ≤ a ∧ a < T 0) (ht : 0 ≤ t ∧ t < T 0) (hw : 1 ≤ w ∧ w ≤ 60) : (-1 ≤ st_wy T a t w ∧ st_wy T a t w ≤ 990) ∧ (t = a ↔ st_wy T a t w = 0) := by
  have i0 := hI.1.1
  have hA := st_Gs_sp (w := w) (o := -1) hI ha (by omega) (by omega)
  have g1 := st_gin hA t (by omega)
  unfold st_wy
  by_cases c : st_Gs T w (-1) a t < 1000000
  · rw [if_pos c]
    refine ⟨by omega, fun h => ?_, fun h => ?_⟩
    · subst h
      exact hA.1
    · by_cases d : t = a
      · exact d
      · obtain ⟨q, z, k1, k2⟩ := hA.2.2.2 t ht.1 (by omega) d c
        have e := st_ej_in hI k1
        have g2 := st_gin hA z (by omega)
        omega
  · rw [if_neg c]
    refine ⟨by omega, fun h => ?_, fun h => by omega⟩
    subst h
    have := hA.1
    omega
theorem st_wy_e {T : Int → Int} {a t y r w : Int} (hI : st_I T) (ha : 0 ≤ a ∧ a < T 0) (he : st_ej T w (-1) r y t) (hw : 1 ≤ w ∧ w ≤ 60) (h : 0 ≤ st_wy T a y w) : 0 ≤ st_wy T a t w ∧ st_wy T a t w ≤ st_wy T a y w + T (9 + 4 * r + 2) := by
  have i0 := hI.1.1
  have hA := st_Gs_sp (w := w) (o := -1) hI ha (by omega) (by omega)
  have e := st_ej_in hI he
  have g1 := st_gin hA t (by omega)
  have g2 := st_gin hA y (by omega)
  have k := hA.2.2.1 _ _ _ he
  unfold st_wy at h ⊢
  by_cases c : st_Gs T w (-1) a y < 1000000
  · rw [if_pos c] at h ⊢
    rw [if_pos (by omega)]
    omega
  · rw [if_neg c] at h
    omega
theorem ev_nu_bd {N : Int} : ∀ k : Nat, (ev_nu (fun y => y < N) k : Int) ≤ if 0 ≤ N then N else 0 := by
  intro k
  induction k with
  | zero =>
    have h := ev_nu_le (p := fun y => y < N) 0
    split <;> omega
  | succ k ih =>
    have h := ev_nu_le (p := fun y : Int => y < N) (k + 1)
    by_cases c : (k : Int) < N
    · split <;> omega
    · rw [ev_nu_n (p := fun y => y < N) c]
      exact ih
theorem st_pp_u {T : Int → Int} {a b w : Int} {G : Int → Int} {n m : Nat} (h1 : st_pp T a b w G n) (h2 : st_pp T a b w G m) : n = m := by
  rcases Nat.lt_trichotomy n m with q | q | q
  · exact absurd h1.2.1 ((h2.2.2 n (by omega)).2.2 q)
  · exact q
  · exact absurd h2.2.1 ((h1.2.2 m (by omega)).2.2 q)
/-- a way has no more towns than there are -/
theorem st_pn_b {T : Int → Int} {a b w : Int} (hI : st_I T) (ha : 0 ≤ a ∧ a < T 0) (hb : 0 ≤ b ∧ b < T 0) (hw : 1 ≤ w ∧ w ≤ 60) (hr : st_Gs T w (-1) a b < 1000000) : (st_pn T a b w : Int) + 1 ≤ T 0 := by
  have i0 := hI.1.1
  have hsp := st_Gs_sp (w := w) (o := -1) hI ha (by omega) (by omega)
  have h1 := hsp.2.1 b hb.1 (by omega)
  obtain ⟨n, hn, hxn, hxi⟩ := st_ch hI hsp (st_ni (st_Gs T w (-1) a) b) b (by omega) (by omega) (Nat.le_refl _)
  have h9 := st_ni_9 (G := st_Gs T w (-1) a) (x := b) (by omega)
  have hu := st_pp_u (st_pn_p hI ha (by omega) hw hr) ⟨by omega, hxn, hxi⟩
  rw [hu]
  have k1 : st_ni (st_Gs T w (-1) a) b < ev_nu (fun y => y < T 0) 10 := by
    refine ev_nu_lt 10 (fun y hy hp => ?_) ⟨b.toNat, by omega, by omega, fun hp => ?_⟩
    · by_cases c : (y : Int) = a
      · omega
      · obtain ⟨q, z, k1, k2⟩ := hsp.2.2.2 y hp.1 hp.2.1 c (by omega)
        exact (st_ej_in hI k1).2.1.2
    · have := hp.2.2
      rw [show ((b.toNat : Nat) : Int) = b by omega] at this
      omega
  have k2 := ev_nu_bd (N := T 0) 10
  rw [if_pos (by omega)] at k2
  omega
section LWY
variable {T : Int → Int} {hs : List (Int → Int)}
theorem h_108 {σ : ev_M} {r w : Int} (hA : ab_A σ T hs) (hr : 0 ≤ r ∧ r < T 1) (hw : 1 ≤ w ∧ w ≤ 60) : ab_Q 108 [.inl r, .inl w] σ (if w ≤ st_lim T r then 1 else 0) T hs := by
  have hI := hA.2.1
  have i2 := hI.1.2.2.1
  have i1 := hI.1.2.1
  have hrr := (hI.2.1 r hr.1 hr.2).2.2.2.2
  refine ab_Qw ?_
  obtain ⟨br, hbr⟩ : ∃ x, x = T (9 + 4 * r + 3) := ⟨_, rfl⟩
  have g3 := hbr.symm
  unfold st_lim
  rw [g3] at hrr ⊢
  by_cases c : br = -1
  · rw [if_pos c, if_pos hw.2]
    rw [mm_108, bk_108_0]
    repeat' (first | (simp (disch := first | assumption | exact Nat.le_of_ble_eq_true rfl | omega) only [bk_108_0, eo_1_0, eo_0_1, eo_6, v10_3, ev_ki, ev_kv, eo_3_3n, eo_3_3i, eo_3_3r, eo_0_3, eo_0_2, eo_53, bk_108_1, eo_52, bk_108_2, bk_108_3, eo_56z, g3, vb_0, vb_1, vb_2, vb_3, vb_4, vb_6, vb_7, vc_0, vc_1, vc_2, vc_3, vc_4, vc_5, vn_0, vn_1, vn_2, vn_3, vn_4, vn_5, vn_6, vn_7, vn_9, vn_10, vr_0, ev_lc_s, el_3, el_4, el_6, Int.add_zero, Int.add_sub_cancel, Int.reduceAdd, Int.reduceMul, Int.reduceSub, Int.reduceNeg, ev_wr_id]) | ((first | with_reducible refine wb_40 ?_ ?_ | with_reducible refine wb_41 ?_ ?_ | with_reducible refine wb_42 ?_ ?_ | with_reducible refine wb_43 ?_ ?_ | with_reducible refine wb_44 ?_ ?_ | with_reducible refine wb_45 ?_ ?_ | with_reducible refine wb_46 ?_ ?_ | with_reducible refine wb_47 ?_ ?_ | with_reducible refine wb_48 ?_ ?_ | with_reducible refine wb_49 ?_ ?_ | with_reducible refine wb_50 ?_ ?_ | with_reducible refine wb_51 ?_ ?_) <;> intro h <;> try simp (disch := first | assumption | exact Nat.le_of_ble_eq_true rfl | omega) only [ev_wr_id, not_true_eq_false, not_false_eq_true, Int.reduceEq, Int.reduceLT, Int.reduceLE, and_self, and_true, true_and, and_false, false_and, reduceIte] at h <;> try (exfalso; omega; done)) | refine wk (q_76 (by assumption) (by omega) (by omega)) (fun σ hA => ?_) | refine wk (q_77 (by assumption) (by omega) (by omega)) (fun σ hA => ?_))
    exact ab_Pr (by assumption)
  · rw [if_neg c]
    have hcl := hI.2.2.2.1 br (by omega) (by omega)
    have hv8 := vb_8 (T := T) (b := br)
    obtain ⟨ps, hps⟩ : ∃ x, x = ev_ps (T (89 + 5 * br + 2)) := ⟨_, rfl⟩
    have hps2 := ev_ps_in (r := T (89 + 5 * br + 2))
    rw [← hps] at hps2 hv8 ⊢
    have hb : 0 ≤ br ∧ br < T 2 := by omega
    by_cases c2 : T (89 + 5 * br + 4) = 1
    · rw [if_neg (by omega)] at hv8
      rw [if_pos c2, if_neg (by omega)]
      rw [mm_108, bk_108_0]
      repeat' (first | (simp (disch := first | assumption | exact Nat.le_of_ble_eq_true rfl | omega) only [bk_108_0, eo_1_0, eo_0_1, eo_6, v10_3, ev_ki, ev_kv, eo_3_3n, eo_3_3i, eo_3_3r, eo_0_3, eo_0_2, eo_53, bk_108_1, eo_52, bk_108_2, bk_108_3, eo_56z, g3, hv8, vb_0, vb_1, vb_2, vb_3, vb_4, vb_6, vb_7, vc_0, vc_1, vc_2, vc_3, vc_4, vc_5, vn_0, vn_1, vn_2, vn_3, vn_4, vn_5, vn_6, vn_7, vn_9, vn_10, vr_0, ev_lc_s, el_3, el_4, el_6, Int.add_zero, Int.add_sub_cancel, Int.reduceAdd, Int.reduceMul, Int.reduceSub, Int.reduceNeg, ev_wr_id]) | ((first | with_reducible refine wb_40 ?_ ?_ | with_reducible refine wb_41 ?_ ?_ | with_reducible refine wb_42 ?_ ?_ | with_reducible refine wb_43 ?_ ?_ | with_reducible refine wb_44 ?_ ?_ | with_reducible refine wb_45 ?_ ?_ | with_reducible refine wb_46 ?_ ?_ | with_reducible refine wb_47 ?_ ?_ | with_reducible refine wb_48 ?_ ?_ | with_reducible refine wb_49 ?_ ?_ | with_reducible refine wb_50 ?_ ?_ | with_reducible refine wb_51 ?_ ?_) <;> intro h <;> try simp (disch := first | assumption | exact Nat.le_of_ble_eq_true rfl | omega) only [ev_wr_id, not_true_eq_false, not_false_eq_true, Int.reduceEq, Int.reduceLT, Int.reduceLE, and_self, and_true, true_and, and_false, false_and, reduceIte] at h <;> try (exfalso; omega; done)) | refine wk (q_76 (by assumption) (by omega) (by omega)) (fun σ hA => ?_) | refine wk (q_77 (by assumption) (by omega) (by omega)) (fun σ hA => ?_))
      exact ab_Pr (by assumption)
    · rw [if_pos (by omega)] at hv8
      rw [if_neg c2]
      by_cases c3 : w ≤ ps
      · rw [if_pos c3]
        rw [mm_108, bk_108_0]
        repeat' (first | (simp (disch := first | assumption | exact Nat.le_of_ble_eq_true rfl | omega) only [bk_108_0, eo_1_0, eo_0_1, eo_6, v10_3, ev_ki, ev_kv, eo_3_3n, eo_3_3i, eo_3_3r, eo_0_3, eo_0_2, eo_53, bk_108_1, eo_52, bk_108_2, bk_108_3, eo_56z, g3, hv8, vb_0, vb_1, vb_2, vb_3, vb_4, vb_6, vb_7, vc_0, vc_1, vc_2, vc_3, vc_4, vc_5, vn_0, vn_1, vn_2, vn_3, vn_4, vn_5, vn_6, vn_7, vn_9, vn_10, vr_0, ev_lc_s, el_3, el_4, el_6, Int.add_zero, Int.add_sub_cancel, Int.reduceAdd, Int.reduceMul, Int.reduceSub, Int.reduceNeg, ev_wr_id]) | ((first | with_reducible refine wb_40 ?_ ?_ | with_reducible refine wb_41 ?_ ?_ | with_reducible refine wb_42 ?_ ?_ | with_reducible refine wb_43 ?_ ?_ | with_reducible refine wb_44 ?_ ?_ | with_reducible refine wb_45 ?_ ?_ | with_reducible refine wb_46 ?_ ?_ | with_reducible refine wb_47 ?_ ?_ | with_reducible refine wb_48 ?_ ?_ | with_reducible refine wb_49 ?_ ?_ | with_reducible refine wb_50 ?_ ?_ | with_reducible refine wb_51 ?_ ?_) <;> intro h <;> try simp (disch := first | assumption | exact Nat.le_of_ble_eq_true rfl | omega) only [ev_wr_id, not_true_eq_false, not_false_eq_true, Int.reduceEq, Int.reduceLT, Int.reduceLE, and_self, and_true, true_and, and_false, false_and, reduceIte] at h <;> try (exfalso; omega; done)) | refine wk (q_76 (by assumption) (by omega) (by omega)) (fun σ hA => ?_) | refine wk (q_77 (by assumption) (by omega) (by omega)) (fun σ hA => ?_))
        exact ab_Pr (by assumption)
      · rw [if_neg c3]
        rw [mm_108, bk_108_0]
        repeat' (first | (simp (disch := first | assumption | exact Nat.le_of_ble_eq_true rfl | omega) only [bk_108_0, eo_1_0, eo_0_1, eo_6, v10_3, ev_ki, ev_kv, eo_3_3n, eo_3_3i, eo_3_3r, eo_0_3, eo_0_2, eo_53, bk_108_1, eo_52, bk_108_2, bk_108_3, eo_56z, g3, hv8, vb_0, vb_1, vb_2, vb_3, vb_4, vb_6, vb_7, vc_0, vc_1, vc_2, vc_3, vc_4, vc_5, vn_0, vn_1, vn_2, vn_3, vn_4, vn_5, vn_6, vn_7, vn_9, vn_10, vr_0, ev_lc_s, el_3, el_4, el_6, Int.add_zero, Int.add_sub_cancel, Int.reduceAdd, Int.reduceMul, Int.reduceSub, Int.reduceNeg, ev_wr_id]) | ((first | with_reducible refine wb_40 ?_ ?_ | with_reducible refine wb_41 ?_ ?_ | with_reducible refine wb_42 ?_ ?_ | with_reducible refine wb_43 ?_ ?_ | with_reducible refine wb_44 ?_ ?_ | with_reducible refine wb_45 ?_ ?_ | with_reducible refine wb_46 ?_ ?_ | with_reducible refine wb_47 ?_ ?_ | with_reducible refine wb_48 ?_ ?_ | with_reducible refine wb_49 ?_ ?_ | with_reducible refine wb_50 ?_ ?_ | with_reducible refine wb_51 ?_ ?_) <;> intro h <;> try simp (disch := first | assumption | exact Nat.le_of_ble_eq_true rfl | omega) only [ev_wr_id, not_true_eq_false, not_false_eq_true, Int.reduceEq, Int.reduceLT, Int.reduceLE, and_self, and_true, true_and, and_false, false_and, reduceIte] at h <;> try (exfalso; omega; done)) | refine wk (q_76 (by assumption) (by omega) (by omega)) (fun σ hA => ?_) | refine wk (q_77 (by assumption) (by omega) (by omega)) (fun σ hA => ?_))
        exact ab_Pr (by assumption)
theorem l_109r {P : ev_R → Prop} {a w t wt : Int} (hI : st_I T) (ha : 0 ≤ a ∧ a < T 0) (ht : 0 ≤ t ∧ t < T 0) (hw : 1 ≤ w ∧ w ≤ 60) (hwt : st_wy T a t w = wt) (kk : ∀ (σ : ev_M) (p6 p7 p8 p9 p10 p11 p12 : Option ev_V), ab_A σ T hs → Wp P (EB 109 14 [some (.inr (.inl 161)), some (.inl a), some (.inl w), some (.inl t), some (.inl wt), some (.inl (T 1)), p6, p7, p8, p9, p10, p11, p12] [] σ)) : ∀ (m : Nat) (r : Int) (p6 p7 p8 p9 p10 p11 p12 : Option ev_V) (σ : ev_M), 0 ≤ r → r + m = T 1 → ab_A σ T hs → Wp P (EB 109 8 [some (.inr (.inl 161)), some (.inl a), some (.inl w), some (.inl t), some (.inl wt), some (.inl r), p6, p7, p8, p9, p10, p11, p12] [] σ) := by
  have i0 := hI.1.1
  have i1 := hI.1.2.1
  have hwb := (st_wy_in hI ha ht hw).1
  rw [hwt] at hwb
  intro m
  induction m with
  | zero =>
    intro r p6 p7 p8 p9 p10 p11 p12 σ r0 r1 hA
    have e : r = T 1 := by omega
    rw [e]
    rw [bk_109_8]
    repeat' (first | (simp (disch := first | assumption | exact Nat.le_of_ble_eq_true rfl | omega) only [bk_109_0, eo_6, eo_3_3n, eo_3_3i, eo_3_3r, eo_53, eo_0_3, eo_1_0, v10_2, ev_ki, ev_kv, eo_0_1, eo_0_2, v10_4, eo_3_4n, eo_3_4i, eo_3_4r, eo_0_4, eo_52, bk_109_2, bk_109_3, bk_109_4, bk_109_5, bk_109_6, eo_56z, bk_109_7, eo_3_5n, eo_3_5i, eo_3_5r, eo_0_5, eo_60_3, v10_3, bk_109_9, bk_109_10, bk_109_11, eo_3_6n, eo_3_6i, eo_3_6r, eo_0_6, eo_3_7n, eo_3_7i, eo_3_7r, eo_0_7, eo_10, bk_109_12, bk_109_13, eo_23_5n, eo_23_5i, eo_23_5r, v10_5, bk_109_16, bk_109_17, bk_109_18, eo_3_8n, eo_3_8i, eo_3_8r, eo_3_9n, eo_3_9i, eo_3_9r, eo_3_10n, eo_3_10i, eo_3_10r, eo_0_10, bk_109_20, bk_109_21, bk_109_22, eo_3_11n, eo_3_11i, eo_3_11r, eo_0_11, bk_109_23, bk_109_24, eo_3_12n, eo_3_12i, eo_3_12r, eo_0_12, eo_0_9, bk_109_25, bk_109_26, bk_109_27, eo_23_10n, eo_23_10i, eo_23_10r, bk_109_28, eo_11, eo_0_8, bk_109_29, bk_109_30, bk_109_31, bk_109_32, bk_109_33, bk_109_34, eo_23_3n, eo_23_3i, eo_23_3r, bk_109_35, vb_0, vb_1, vb_2, vb_3, vb_4, vb_6, vb_7, vc_0, vc_1, vc_2, vc_3, vc_4, vc_5, vn_0, vn_1, vn_2, vn_3, vn_4, vn_5, vn_6, vn_7, vn_9, vn_10, vr_0, ev_lc_s, el_3, el_4, el_6, Int.add_zero, Int.add_sub_cancel, Int.reduceAdd, Int.reduceMul, Int.reduceSub, Int.reduceNeg, ev_wr_id]) | ((first | with_reducible refine wb_40 ?_ ?_ | with_reducible refine wb_41 ?_ ?_ | with_reducible refine wb_42 ?_ ?_ | with_reducible refine wb_43 ?_ ?_ | with_reducible refine wb_44 ?_ ?_ | with_reducible refine wb_45 ?_ ?_ | with_reducible refine wb_46 ?_ ?_ | with_reducible refine wb_47 ?_ ?_ | with_reducible refine wb_48 ?_ ?_ | with_reducible refine wb_49 ?_ ?_ | with_reducible refine wb_50 ?_ ?_ | with_reducible refine wb_51 ?_ ?_) <;> intro h <;> try simp (disch := first | assumption | exact Nat.le_of_ble_eq_true rfl | omega) only [ev_wr_id, not_true_eq_false, not_false_eq_true, Int.reduceEq, Int.reduceLT, Int.reduceLE, and_self, and_true, true_and, and_false, false_and, reduceIte] at h <;> try (exfalso; omega; done)) | refine wk (q_75 (by assumption) (by omega)) (fun σ hA => ?_) | refine wk (q_76 (by assumption) (by omega) (by omega)) (fun σ hA => ?_) | refine wk (q_85 (by assumption) (by omega) (by omega)) (fun σ hA => ?_) | refine wk (q_86 (by assumption) (by omega) (by omega) (by omega)) (fun σ hA => ?_) | refine wk (h_108 (by assumption) (by omega) (by omega)) (fun σ hA => ?_))
    exact kk _ _ _ _ _ _ _ _ (by assumption)
  | succ m ih =>
    intro r p6 p7 p8 p9 p10 p11 p12 σ r0 r1 hA
    have hr : 0 ≤ r ∧ r < T 1 := by omega
    obtain ⟨h1, h2, h3, h4, h5⟩ := hI.2.1 r hr.1 hr.2
    obtain ⟨x, hx⟩ : ∃ x, x = T (9 + 4 * r) := ⟨_, rfl⟩
    obtain ⟨y, hy⟩ : ∃ y, y = T (9 + 4 * r + 1) := ⟨_, rfl⟩
    obtain ⟨ln, hln⟩ : ∃ y, y = T (9 + 4 * r + 2) := ⟨_, rfl⟩
    have g0 := hx.symm
    have g1 := hy.symm
    have g2 := hln.symm
    have hej : w ≤ st_lim T r → st_ej T w (-1) r x y := fun h => ⟨hr, ⟨by omega, h⟩, Or.inl ⟨g0, g1⟩⟩
    have hex : w ≤ st_lim T r → 0 ≤ st_wy T a x w → 0 ≤ st_wy T a y w ∧ st_wy T a y w ≤ st_wy T a x w + ln := fun h => by
      have := st_wy_e hI ha (hej h) hw
      rw [g2] at this
      exact this
    have hey : w ≤ st_lim T r → 0 ≤ st_wy T a y w → 0 ≤ st_wy T a x w ∧ st_wy T a x w ≤ st_wy T a y w + ln := fun h => by
      have := st_wy_e hI ha (st_ej_s (hej h)) hw
      rw [g2] at this
      exact this
    clear hej
    rw [g0] at h1 h3
    rw [g1] at h2 h3
    rw [g2] at h4
    have hbx := (st_wy_in hI ha h1 hw).1
    have hby := (st_wy_in hI ha h2 hw).1
    have ih := fun p6 p7 p8 p9 p10 p11 p12 σ hA => ih (r + 1) p6 p7 p8 p9 p10 p11 p12 σ (by omega) (by omega) hA
    by_cases u : w ≤ st_lim T r
    · have gu : (if w ≤ st_lim T r then (1 : Int) else 0) = 1 := if_pos u
      have hex := hex u
      have hey := hey u
      clear u
      by_cases cx : x = t
      · subst cx
        rw [hwt] at hey
        have hey2 : ¬ (st_wy T a y w < 0) → ¬ (wt < 0) ∧ ¬ (st_wy T a y w + ln < wt) := fun h => by have := hey (by omega); omega
        obtain ⟨wy, hwy⟩ : ∃ z, z = st_wy T a y w := ⟨_, rfl⟩
        have gy := hwy.symm
        rw [gy] at hey2 hby
        clear hex hey kk
        by_cases cw : wy < 0
        · clear hey2
          rw [bk_109_8]
          repeat' (first | (simp (disch := first | assumption | exact Nat.le_of_ble_eq_true rfl | omega) only [bk_109_0, eo_6, eo_3_3n, eo_3_3i, eo_3_3r, eo_53, eo_0_3, eo_1_0, v10_2, ev_ki, ev_kv, eo_0_1, eo_0_2, v10_4, eo_3_4n, eo_3_4i, eo_3_4r, eo_0_4, eo_52, bk_109_2, bk_109_3, bk_109_4, bk_109_5, bk_109_6, eo_56z, bk_109_7, eo_3_5n, eo_3_5i, eo_3_5r, eo_0_5, eo_60_3, v10_3, bk_109_9, bk_109_10, bk_109_11, eo_3_6n, eo_3_6i, eo_3_6r, eo_0_6, eo_3_7n, eo_3_7i, eo_3_7r, eo_0_7, eo_10, bk_109_12, bk_109_13, eo_23_5n, eo_23_5i, eo_23_5r, bk_109_14, v10_5, bk_109_16, bk_109_17, bk_109_18, eo_3_8n, eo_3_8i, eo_3_8r, eo_3_9n, eo_3_9i, eo_3_9r, eo_3_10n, eo_3_10i, eo_3_10r, eo_0_10, bk_109_20, bk_109_21, bk_109_22, eo_3_11n, eo_3_11i, eo_3_11r, eo_0_11, bk_109_23, bk_109_24, eo_3_12n, eo_3_12i, eo_3_12r, eo_0_12, eo_0_9, bk_109_25, bk_109_26, bk_109_27, eo_23_10n, eo_23_10i, eo_23_10r, bk_109_28, eo_11, eo_0_8, bk_109_29, bk_109_30, bk_109_31, bk_109_32, bk_109_33, bk_109_34, eo_23_3n, eo_23_3i, eo_23_3r, bk_109_35, gu, g0, g1, g2, gy, vb_0, vb_1, vb_2, vb_3, vb_4, vb_6, vb_7, vc_0, vc_1, vc_2, vc_3, vc_4, vc_5, vn_0, vn_1, vn_2, vn_3, vn_4, vn_5, vn_6, vn_7, vn_9, vn_10, vr_0, ev_lc_s, el_3, el_4, el_6, Int.add_zero, Int.add_sub_cancel, Int.reduceAdd, Int.reduceMul, Int.reduceSub, Int.reduceNeg, ev_wr_id]) | ((first | with_reducible refine wb_40 ?_ ?_ | with_reducible refine wb_41 ?_ ?_ | with_reducible refine wb_42 ?_ ?_ | with_reducible refine wb_43 ?_ ?_ | with_reducible refine wb_44 ?_ ?_ | with_reducible refine wb_45 ?_ ?_ | with_reducible refine wb_46 ?_ ?_ | with_reducible refine wb_47 ?_ ?_ | with_reducible refine wb_48 ?_ ?_ | with_reducible refine wb_49 ?_ ?_ | with_reducible refine wb_50 ?_ ?_ | with_reducible refine wb_51 ?_ ?_) <;> intro h <;> try simp (disch := first | assumption | exact Nat.le_of_ble_eq_true rfl | omega) only [ev_wr_id, not_true_eq_false, not_false_eq_true, Int.reduceEq, Int.reduceLT, Int.reduceLE, and_self, and_true, true_and, and_false, false_and, reduceIte] at h <;> try (exfalso; omega; done)) | refine wk (q_75 (by assumption) (by omega)) (fun σ hA => ?_) | refine wk (q_76 (by assumption) (by omega) (by omega)) (fun σ hA => ?_) | refine wk (q_85 (by assumption) (by omega) (by omega)) (fun σ hA => ?_) | refine wk (q_86 (by assumption) (by omega) (by omega) (by omega)) (fun σ hA => ?_) | refine wk (h_108 (by assumption) (by omega) (by omega)) (fun σ hA => ?_))
          exact ih _ _ _ _ _ _ _ _ (by assumption)
        · have q := hey2 cw
          clear hey2
          rw [bk_109_8]
          repeat' (first | (simp (disch := first | assumption | exact Nat.le_of_ble_eq_true rfl | omega) only [bk_109_0, eo_6, eo_3_3n, eo_3_3i, eo_3_3r, eo_53, eo_0_3, eo_1_0, v10_2, ev_ki, ev_kv, eo_0_1, eo_0_2, v10_4, eo_3_4n, eo_3_4i, eo_3_4r, eo_0_4, eo_52, bk_109_2, bk_109_3, bk_109_4, bk_109_5, bk_109_6, eo_56z, bk_109_7, eo_3_5n, eo_3_5i, eo_3_5r, eo_0_5, eo_60_3, v10_3, bk_109_9, bk_109_10, bk_109_11, eo_3_6n, eo_3_6i, eo_3_6r, eo_0_6, eo_3_7n, eo_3_7i, eo_3_7r, eo_0_7, eo_10, bk_109_12, bk_109_13, eo_23_5n, eo_23_5i, eo_23_5r, bk_109_14, v10_5, bk_109_16, bk_109_17, bk_109_18, eo_3_8n, eo_3_8i, eo_3_8r, eo_3_9n, eo_3_9i, eo_3_9r, eo_3_10n, eo_3_10i, eo_3_10r, eo_0_10, bk_109_20, bk_109_21, bk_109_22, eo_3_11n, eo_3_11i, eo_3_11r, eo_0_11, bk_109_23, bk_109_24, eo_3_12n, eo_3_12i, eo_3_12r, eo_0_12, eo_0_9, bk_109_25, bk_109_26, bk_109_27, eo_23_10n, eo_23_10i, eo_23_10r, bk_109_28, eo_11, eo_0_8, bk_109_29, bk_109_30, bk_109_31, bk_109_32, bk_109_33, bk_109_34, eo_23_3n, eo_23_3i, eo_23_3r, bk_109_35, gu, g0, g1, g2, gy, vb_0, vb_1, vb_2, vb_3, vb_4, vb_6, vb_7, vc_0, vc_1, vc_2, vc_3, vc_4, vc_5, vn_0, vn_1, vn_2, vn_3, vn_4, vn_5, vn_6, vn_7, vn_9, vn_10, vr_0, ev_lc_s, el_3, el_4, el_6, Int.add_zero, Int.add_sub_cancel, Int.reduceAdd, Int.reduceMul, Int.reduceSub, Int.reduceNeg, ev_wr_id]) | ((first | with_reducible refine wb_40 ?_ ?_ | with_reducible refine wb_41 ?_ ?_ | with_reducible refine wb_42 ?_ ?_ | with_reducible refine wb_43 ?_ ?_ | with_reducible refine wb_44 ?_ ?_ | with_reducible refine wb_45 ?_ ?_ | with_reducible refine wb_46 ?_ ?_ | with_reducible refine wb_47 ?_ ?_ | with_reducible refine wb_48 ?_ ?_ | with_reducible refine wb_49 ?_ ?_ | with_reducible refine wb_50 ?_ ?_ | with_reducible refine wb_51 ?_ ?_) <;> intro h <;> try simp (disch := first | assumption | exact Nat.le_of_ble_eq_true rfl | omega) only [ev_wr_id, not_true_eq_false, not_false_eq_true, Int.reduceEq, Int.reduceLT, Int.reduceLE, and_self, and_true, true_and, and_false, false_and, reduceIte] at h <;> try (exfalso; omega; done)) | refine wk (q_75 (by assumption) (by omega)) (fun σ hA => ?_) | refine wk (q_76 (by assumption) (by omega) (by omega)) (fun σ hA => ?_) | refine wk (q_85 (by assumption) (by omega) (by omega)) (fun σ hA => ?_) | refine wk (q_86 (by assumption) (by omega) (by omega) (by omega)) (fun σ hA => ?_) | refine wk (h_108 (by assumption) (by omega) (by omega)) (fun σ hA => ?_))
          exact ih _ _ _ _ _ _ _ _ (by assumption)
      · by_cases cy : y = t
        · subst cy
          rw [hwt] at hex
          have hex2 : ¬ (st_wy T a x w < 0) → ¬ (wt < 0) ∧ ¬ (st_wy T a x w + ln < wt) := fun h => by have := hex (by omega); omega
          obtain ⟨wx, hwx⟩ : ∃ z, z = st_wy T a x w := ⟨_, rfl⟩
          have gx := hwx.symm
          rw [gx] at hex2 hbx
          clear hex hey kk
          by_cases cw : wx < 0
          · clear hex2
            rw [bk_109_8]
            repeat' (first | (simp (disch := first | assumption | exact Nat.le_of_ble_eq_true rfl | omega) only [bk_109_0, eo_6, eo_3_3n, eo_3_3i, eo_3_3r, eo_53, eo_0_3, eo_1_0, v10_2, ev_ki, ev_kv, eo_0_1, eo_0_2, v10_4, eo_3_4n, eo_3_4i, eo_3_4r, eo_0_4, eo_52, bk_109_2, bk_109_3, bk_109_4, bk_109_5, bk_109_6, eo_56z, bk_109_7, eo_3_5n, eo_3_5i, eo_3_5r, eo_0_5, eo_60_3, v10_3, bk_109_9, bk_109_10, bk_109_11, eo_3_6n, eo_3_6i, eo_3_6r, eo_0_6, eo_3_7n, eo_3_7i, eo_3_7r, eo_0_7, eo_10, bk_109_12, bk_109_13, eo_23_5n, eo_23_5i, eo_23_5r, bk_109_14, v10_5, bk_109_16, bk_109_17, bk_109_18, eo_3_8n, eo_3_8i, eo_3_8r, eo_3_9n, eo_3_9i, eo_3_9r, eo_3_10n, eo_3_10i, eo_3_10r, eo_0_10, bk_109_20, bk_109_21, bk_109_22, eo_3_11n, eo_3_11i, eo_3_11r, eo_0_11, bk_109_23, bk_109_24, eo_3_12n, eo_3_12i, eo_3_12r, eo_0_12, eo_0_9, bk_109_25, bk_109_26, bk_109_27, eo_23_10n, eo_23_10i, eo_23_10r, bk_109_28, eo_11, eo_0_8, bk_109_29, bk_109_30, bk_109_31, bk_109_32, bk_109_33, bk_109_34, eo_23_3n, eo_23_3i, eo_23_3r, bk_109_35, gu, g0, g1, g2, gx, vb_0, vb_1, vb_2, vb_3, vb_4, vb_6, vb_7, vc_0, vc_1, vc_2, vc_3, vc_4, vc_5, vn_0, vn_1, vn_2, vn_3, vn_4, vn_5, vn_6, vn_7, vn_9, vn_10, vr_0, ev_lc_s, el_3, el_4, el_6, Int.add_zero, Int.add_sub_cancel, Int.reduceAdd, Int.reduceMul, Int.reduceSub, Int.reduceNeg, ev_wr_id]) | ((first | with_reducible refine wb_40 ?_ ?_ | with_reducible refine wb_41 ?_ ?_ | with_reducible refine wb_42 ?_ ?_ | with_reducible refine wb_43 ?_ ?_ | with_reducible refine wb_44 ?_ ?_ | with_reducible refine wb_45 ?_ ?_ | with_reducible refine wb_46 ?_ ?_ | with_reducible refine wb_47 ?_ ?_ | with_reducible refine wb_48 ?_ ?_ | with_reducible refine wb_49 ?_ ?_ | with_reducible refine wb_50 ?_ ?_ | with_reducible refine wb_51 ?_ ?_) <;> intro h <;> try simp (disch := first | assumption | exact Nat.le_of_ble_eq_true rfl | omega) only [ev_wr_id, not_true_eq_false, not_false_eq_true, Int.reduceEq, Int.reduceLT, Int.reduceLE, and_self, and_true, true_and, and_false, false_and, reduceIte] at h <;> try (exfalso; omega; done)) | refine wk (q_75 (by assumption) (by omega)) (fun σ hA => ?_) | refine wk (q_76 (by assumption) (by omega) (by omega)) (fun σ hA => ?_) | refine wk (q_85 (by assumption) (by omega) (by omega)) (fun σ hA => ?_) | refine wk (q_86 (by assumption) (by omega) (by omega) (by omega)) (fun σ hA => ?_) | refine wk (h_108 (by assumption) (by omega) (by omega)) (fun σ hA => ?_))
            exact ih _ _ _ _ _ _ _ _ (by assumption)
          · have q := hex2 cw
            clear hex2
            rw [bk_109_8]
            repeat' (first | (simp (disch := first | assumption | exact Nat.le_of_ble_eq_true rfl | omega) only [bk_109_0, eo_6, eo_3_3n, eo_3_3i, eo_3_3r, eo_53, eo_0_3, eo_1_0, v10_2, ev_ki, ev_kv, eo_0_1, eo_0_2, v10_4, eo_3_4n, eo_3_4i, eo_3_4r, eo_0_4, eo_52, bk_109_2, bk_109_3, bk_109_4, bk_109_5, bk_109_6, eo_56z, bk_109_7, eo_3_5n, eo_3_5i, eo_3_5r, eo_0_5, eo_60_3, v10_3, bk_109_9, bk_109_10, bk_109_11, eo_3_6n, eo_3_6i, eo_3_6r, eo_0_6, eo_3_7n, eo_3_7i, eo_3_7r, eo_0_7, eo_10, bk_109_12, bk_109_13, eo_23_5n, eo_23_5i, eo_23_5r, bk_109_14, v10_5, bk_109_16, bk_109_17, bk_109_18, eo_3_8n, eo_3_8i, eo_3_8r, eo_3_9n, eo_3_9i, eo_3_9r, eo_3_10n, eo_3_10i, eo_3_10r, eo_0_10, bk_109_20, bk_109_21, bk_109_22, eo_3_11n, eo_3_11i, eo_3_11r, eo_0_11, bk_109_23, bk_109_24, eo_3_12n, eo_3_12i, eo_3_12r, eo_0_12, eo_0_9, bk_109_25, bk_109_26, bk_109_27, eo_23_10n, eo_23_10i, eo_23_10r, bk_109_28, eo_11, eo_0_8, bk_109_29, bk_109_30, bk_109_31, bk_109_32, bk_109_33, bk_109_34, eo_23_3n, eo_23_3i, eo_23_3r, bk_109_35, gu, g0, g1, g2, gx, vb_0, vb_1, vb_2, vb_3, vb_4, vb_6, vb_7, vc_0, vc_1, vc_2, vc_3, vc_4, vc_5, vn_0, vn_1, vn_2, vn_3, vn_4, vn_5, vn_6, vn_7, vn_9, vn_10, vr_0, ev_lc_s, el_3, el_4, el_6, Int.add_zero, Int.add_sub_cancel, Int.reduceAdd, Int.reduceMul, Int.reduceSub, Int.reduceNeg, ev_wr_id]) | ((first | with_reducible refine wb_40 ?_ ?_ | with_reducible refine wb_41 ?_ ?_ | with_reducible refine wb_42 ?_ ?_ | with_reducible refine wb_43 ?_ ?_ | with_reducible refine wb_44 ?_ ?_ | with_reducible refine wb_45 ?_ ?_ | with_reducible refine wb_46 ?_ ?_ | with_reducible refine wb_47 ?_ ?_ | with_reducible refine wb_48 ?_ ?_ | with_reducible refine wb_49 ?_ ?_ | with_reducible refine wb_50 ?_ ?_ | with_reducible refine wb_51 ?_ ?_) <;> intro h <;> try simp (disch := first | assumption | exact Nat.le_of_ble_eq_true rfl | omega) only [ev_wr_id, not_true_eq_false, not_false_eq_true, Int.reduceEq, Int.reduceLT, Int.reduceLE, and_self, and_true, true_and, and_false, false_and, reduceIte] at h <;> try (exfalso; omega; done)) | refine wk (q_75 (by assumption) (by omega)) (fun σ hA => ?_) | refine wk (q_76 (by assumption) (by omega) (by omega)) (fun σ hA => ?_) | refine wk (q_85 (by assumption) (by omega) (by omega)) (fun σ hA => ?_) | refine wk (q_86 (by assumption) (by omega) (by omega) (by omega)) (fun σ hA => ?_) | refine wk (h_108 (by assumption) (by omega) (by omega)) (fun σ hA => ?_))
            exact ih _ _ _ _ _ _ _ _ (by assumption)
        · clear hex hey kk
          rw [bk_109_8]
          repeat' (first | (simp (disch := first | assumption | exact Nat.le_of_ble_eq_true rfl | omega) only [bk_109_0, eo_6, eo_3_3n, eo_3_3i, eo_3_3r, eo_53, eo_0_3, eo_1_0, v10_2, ev_ki, ev_kv, eo_0_1, eo_0_2, v10_4, eo_3_4n, eo_3_4i, eo_3_4r, eo_0_4, eo_52, bk_109_2, bk_109_3, bk_109_4, bk_109_5, bk_109_6, eo_56z, bk_109_7, eo_3_5n, eo_3_5i, eo_3_5r, eo_0_5, eo_60_3, v10_3, bk_109_9, bk_109_10, bk_109_11, eo_3_6n, eo_3_6i, eo_3_6r, eo_0_6, eo_3_7n, eo_3_7i, eo_3_7r, eo_0_7, eo_10, bk_109_12, bk_109_13, eo_23_5n, eo_23_5i, eo_23_5r, bk_109_14, v10_5, bk_109_16, bk_109_17, bk_109_18, eo_3_8n, eo_3_8i, eo_3_8r, eo_3_9n, eo_3_9i, eo_3_9r, eo_3_10n, eo_3_10i, eo_3_10r, eo_0_10, bk_109_20, bk_109_21, bk_109_22, eo_3_11n, eo_3_11i, eo_3_11r, eo_0_11, bk_109_23, bk_109_24, eo_3_12n, eo_3_12i, eo_3_12r, eo_0_12, eo_0_9, bk_109_25, bk_109_26, bk_109_27, eo_23_10n, eo_23_10i, eo_23_10r, bk_109_28, eo_11, eo_0_8, bk_109_29, bk_109_30, bk_109_31, bk_109_32, bk_109_33, bk_109_34, eo_23_3n, eo_23_3i, eo_23_3r, bk_109_35, gu, g0, g1, g2, vb_0, vb_1, vb_2, vb_3, vb_4, vb_6, vb_7, vc_0, vc_1, vc_2, vc_3, vc_4, vc_5, vn_0, vn_1, vn_2, vn_3, vn_4, vn_5, vn_6, vn_7, vn_9, vn_10, vr_0, ev_lc_s, el_3, el_4, el_6, Int.add_zero, Int.add_sub_cancel, Int.reduceAdd, Int.reduceMul, Int.reduceSub, Int.reduceNeg, ev_wr_id]) | ((first | with_reducible refine wb_40 ?_ ?_ | with_reducible refine wb_41 ?_ ?_ | with_reducible refine wb_42 ?_ ?_ | with_reducible refine wb_43 ?_ ?_ | with_reducible refine wb_44 ?_ ?_ | with_reducible refine wb_45 ?_ ?_ | with_reducible refine wb_46 ?_ ?_ | with_reducible refine wb_47 ?_ ?_ | with_reducible refine wb_48 ?_ ?_ | with_reducible refine wb_49 ?_ ?_ | with_reducible refine wb_50 ?_ ?_ | with_reducible refine wb_51 ?_ ?_) <;> intro h <;> try simp (disch := first | assumption | exact Nat.le_of_ble_eq_true rfl | omega) only [ev_wr_id, not_true_eq_false, not_false_eq_true, Int.reduceEq, Int.reduceLT, Int.reduceLE, and_self, and_true, true_and, and_false, false_and, reduceIte] at h <;> try (exfalso; omega; done)) | refine wk (q_75 (by assumption) (by omega)) (fun σ hA => ?_) | refine wk (q_76 (by assumption) (by omega) (by omega)) (fun σ hA => ?_) | refine wk (q_85 (by assumption) (by omega) (by omega)) (fun σ hA => ?_) | refine wk (q_86 (by assumption) (by omega) (by omega) (by omega)) (fun σ hA => ?_) | refine wk (h_108 (by assumption) (by omega) (by omega)) (fun σ hA => ?_))
          exact ih _ _ _ _ _ _ _ _ (by assumption)
    · have gu : (if w ≤ st_lim T r then (1 : Int) else 0) = 0 := if_neg u
      clear hex hey kk u
      rw [bk_109_8]
      repeat' (first | (simp (disch := first | assumption | exact Nat.le_of_ble_eq_true rfl | omega) only [bk_109_0, eo_6, eo_3_3n, eo_3_3i, eo_3_3r, eo_53, eo_0_3, eo_1_0, v10_2, ev_ki, ev_kv, eo_0_1, eo_0_2, v10_4, eo_3_4n, eo_3_4i, eo_3_4r, eo_0_4, eo_52, bk_109_2, bk_109_3, bk_109_4, bk_109_5, bk_109_6, eo_56z, bk_109_7, eo_3_5n, eo_3_5i, eo_3_5r, eo_0_5, eo_60_3, v10_3, bk_109_9, bk_109_10, bk_109_11, eo_3_6n, eo_3_6i, eo_3_6r, eo_0_6, eo_3_7n, eo_3_7i, eo_3_7r, eo_0_7, eo_10, bk_109_12, bk_109_13, eo_23_5n, eo_23_5i, eo_23_5r, bk_109_14, v10_5, bk_109_16, bk_109_17, bk_109_18, eo_3_8n, eo_3_8i, eo_3_8r, eo_3_9n, eo_3_9i, eo_3_9r, eo_3_10n, eo_3_10i, eo_3_10r, eo_0_10, bk_109_20, bk_109_21, bk_109_22, eo_3_11n, eo_3_11i, eo_3_11r, eo_0_11, bk_109_23, bk_109_24, eo_3_12n, eo_3_12i, eo_3_12r, eo_0_12, eo_0_9, bk_109_25, bk_109_26, bk_109_27, eo_23_10n, eo_23_10i, eo_23_10r, bk_109_28, eo_11, eo_0_8, bk_109_29, bk_109_30, bk_109_31, bk_109_32, bk_109_33, bk_109_34, eo_23_3n, eo_23_3i, eo_23_3r, bk_109_35, gu, vb_0, vb_1, vb_2, vb_3, vb_4, vb_6, vb_7, vc_0, vc_1, vc_2, vc_3, vc_4, vc_5, vn_0, vn_1, vn_2, vn_3, vn_4, vn_5, vn_6, vn_7, vn_9, vn_10, vr_0, ev_lc_s, el_3, el_4, el_6, Int.add_zero, Int.add_sub_cancel, Int.reduceAdd, Int.reduceMul, Int.reduceSub, Int.reduceNeg, ev_wr_id]) | ((first | with_reducible refine wb_40 ?_ ?_ | with_reducible refine wb_41 ?_ ?_ | with_reducible refine wb_42 ?_ ?_ | with_reducible refine wb_43 ?_ ?_ | with_reducible refine wb_44 ?_ ?_ | with_reducible refine wb_45 ?_ ?_ | with_reducible refine wb_46 ?_ ?_ | with_reducible refine wb_47 ?_ ?_ | with_reducible refine wb_48 ?_ ?_ | with_reducible refine wb_49 ?_ ?_ | with_reducible refine wb_50 ?_ ?_ | with_reducible refine wb_51 ?_ ?_) <;> intro h <;> try simp (disch := first | assumption | exact Nat.le_of_ble_eq_true rfl | omega) only [ev_wr_id, not_true_eq_false, not_false_eq_true, Int.reduceEq, Int.reduceLT, Int.reduceLE, and_self, and_true, true_and, and_false, false_and, reduceIte] at h <;> try (exfalso; omega; done)) | refine wk (q_75 (by assumption) (by omega)) (fun σ hA => ?_) | refine wk (q_76 (by assumption) (by omega) (by omega)) (fun σ hA => ?_) | refine wk (q_85 (by assumption) (by omega) (by omega)) (fun σ hA => ?_) | refine wk (q_86 (by assumption) (by omega) (by omega) (by omega)) (fun σ hA => ?_) | refine wk (h_108 (by assumption) (by omega) (by omega)) (fun σ hA => ?_))
      exact ih _ _ _ _ _ _ _ _ (by assumption)
/-- the lowest town ahead, road by road -/
theorem l_109k {P : ev_R → Prop} {a w t wt q x sm bf F : Int} (hI : st_I T) (ha : 0 ≤ a ∧ a < T 0) (hw : 1 ≤ w ∧ w ≤ 60) (hx : 0 ≤ x ∧ x < T 0) (hsm : st_Gs T w (-1) a x = sm) (hsm9 : sm < 1000000) (kk : ∀ (σ : ev_M) (p11 p12 : Option ev_V), ab_A σ T hs → Wp P (EB 109 28 [some (.inr (.inl 161)), some (.inl a), some (.inl w), some (.inl t), some (.inl wt), some (.inl q), some (.inl sm), some (.inl x), some (.inl bf), some (.inl F), some (.inl (T 1)), p11, p12] [] σ)) : ∀ (m : Nat) (r c : Int) (p11 p12 : Option ev_V) (σ : ev_M), 0 ≤ r → r + m = T 1 → (-1 ≤ c ∧ c < 10) → st_ah T w (st_Gs T w (-1) a) x m r c = F → ab_A σ T hs → Wp P (EB 109 19 [some (.inr (.inl 161)), some (.inl a), some (.inl w), some (.inl t), some (.inl wt), some (.inl q), some (.inl sm), some (.inl x), some (.inl bf), some (.inl c), some (.inl r), p11, p12] [] σ) := by
  have i0 := hI.1.1
  have i1 := hI.1.2.1
  have hsp := st_Gs_sp (w := w) (o := -1) hI ha (by omega) (by omega)
  have hsb := st_gin hsp x (by omega)
  rw [hsm] at hsb
  intro m
  induction m with
  | zero =>
    intro r c p11 p12 σ r0 r1 hc hF hA
    have e : r = T 1 := by omega
    have e2 : c = F := hF
    rw [e, e2]
    rw [bk_109_19]
    repeat' (first | (simp (disch := first | assumption | exact Nat.le_of_ble_eq_true rfl | omega) only [bk_109_0, eo_6, eo_3_3n, eo_3_3i, eo_3_3r, eo_53, eo_0_3, eo_1_0, v10_2, ev_ki, ev_kv, eo_0_1, eo_0_2, v10_4, eo_3_4n, eo_3_4i, eo_3_4r, eo_0_4, eo_52, bk_109_2, bk_109_3, bk_109_4, bk_109_5, bk_109_6, eo_56z, bk_109_7, eo_3_5n, eo_3_5i, eo_3_5r, eo_0_5, eo_60_3, v10_3, bk_109_9, bk_109_10, bk_109_11, eo_3_6n, eo_3_6i, eo_3_6r, eo_0_6, eo_3_7n, eo_3_7i, eo_3_7r, eo_0_7, eo_10, bk_109_12, bk_109_13, eo_23_5n, eo_23_5i, eo_23_5r, bk_109_14, v10_5, bk_109_16, bk_109_17, bk_109_18, eo_3_8n, eo_3_8i, eo_3_8r, eo_3_9n, eo_3_9i, eo_3_9r, eo_3_10n, eo_3_10i, eo_3_10r, eo_0_10, bk_109_20, bk_109_21, bk_109_22, eo_3_11n, eo_3_11i, eo_3_11r, eo_0_11, bk_109_23, bk_109_24, eo_3_12n, eo_3_12i, eo_3_12r, eo_0_12, eo_0_9, bk_109_25, bk_109_26, bk_109_27, eo_23_10n, eo_23_10i, eo_23_10r, eo_11, eo_0_8, bk_109_29, bk_109_30, bk_109_31, bk_109_32, bk_109_33, bk_109_34, eo_23_3n, eo_23_3i, eo_23_3r, bk_109_35, vb_0, vb_1, vb_2, vb_3, vb_4, vb_6, vb_7, vc_0, vc_1, vc_2, vc_3, vc_4, vc_5, vn_0, vn_1, vn_2, vn_3, vn_4, vn_5, vn_6, vn_7, vn_9, vn_10, vr_0, ev_lc_s, el_3, el_4, el_6, Int.add_zero, Int.add_sub_cancel, Int.reduceAdd, Int.reduceMul, Int.reduceSub, Int.reduceNeg, ev_wr_id]) | ((first | with_reducible refine wb_40 ?_ ?_ | with_reducible refine wb_41 ?_ ?_ | with_reducible refine wb_42 ?_ ?_ | with_reducible refine wb_43 ?_ ?_ | with_reducible refine wb_44 ?_ ?_ | with_reducible refine wb_45 ?_ ?_ | with_reducible refine wb_46 ?_ ?_ | with_reducible refine wb_47 ?_ ?_ | with_reducible refine wb_48 ?_ ?_ | with_reducible refine wb_49 ?_ ?_ | with_reducible refine wb_50 ?_ ?_ | with_reducible refine wb_51 ?_ ?_) <;> intro h <;> try simp (disch := first | assumption | exact Nat.le_of_ble_eq_true rfl | omega) only [ev_wr_id, not_true_eq_false, not_false_eq_true, Int.reduceEq, Int.reduceLT, Int.reduceLE, and_self, and_true, true_and, and_false, false_and, reduceIte] at h <;> try (exfalso; omega; done)) | refine wk (q_75 (by assumption) (by omega)) (fun σ hA => ?_) | refine wk (q_76 (by assumption) (by omega) (by omega)) (fun σ hA => ?_) | refine wk (q_85 (by assumption) (by omega) (by omega)) (fun σ hA => ?_) | refine wk (q_86 (by assumption) (by omega) (by omega) (by omega)) (fun σ hA => ?_) | refine wk (h_108 (by assumption) (by omega) (by omega)) (fun σ hA => ?_))
    exact kk _ _ _ (by assumption)
  | succ m ih =>
    intro r c p11 p12 σ r0 r1 hc hF hA
    have hr : 0 ≤ r ∧ r < T 1 := by omega
    obtain ⟨h1, h2, h3, h4, h5⟩ := hI.2.1 r hr.1 hr.2
    have ihy : ∀ (p11 p12 : Option ev_V) (σ : ev_M), st_cd T w (st_Gs T w (-1) a) x r ∧ (c = -1 ∨ st_en T r x < c) → ab_A σ T hs → Wp P (EB 109 19 [some (.inr (.inl 161)), some (.inl a), some (.inl w), some (.inl t), some (.inl wt), some (.inl q), some (.inl sm), some (.inl x), some (.inl bf), some (.inl (st_en T r x)), some (.inl (r + 1)), p11, p12] [] σ) := fun p11 p12 σ h hA => by
      rw [st_ah_y h] at hF
      refine ih (r + 1) _ p11 p12 σ (by omega) (by omega) ?_ hF hA
      unfold st_en
      split <;> omega
    have ihn : ∀ (p11 p12 : Option ev_V) (σ : ev_M), ¬ (st_cd T w (st_Gs T w (-1) a) x r ∧ (c = -1 ∨ st_en T r x < c)) → ab_A σ T hs → Wp P (EB 109 19 [some (.inr (.inl 161)), some (.inl a), some (.inl w), some (.inl t), some (.inl wt), some (.inl q), some (.inl sm), some (.inl x), some (.inl bf), some (.inl c), some (.inl (r + 1)), p11, p12] [] σ) := fun p11 p12 σ h hA => by
      rw [st_ah_n h] at hF
      exact ih (r + 1) _ p11 p12 σ (by omega) (by omega) hc hF hA
    clear ih hF kk
    unfold st_cd at ihy ihn
    rw [hsm] at ihy ihn
    obtain ⟨y, hy⟩ : ∃ y, y = T (9 + 4 * r) := ⟨_, rfl⟩
    obtain ⟨z, hz⟩ : ∃ y, y = T (9 + 4 * r + 1) := ⟨_, rfl⟩
    obtain ⟨ln, hln⟩ : ∃ y, y = T (9 + 4 * r + 2) := ⟨_, rfl⟩
    have g0 := hy.symm
    have g1 := hz.symm
    have g2 := hln.symm
    rw [g0] at h1 h3
    rw [g1] at h2 h3
    rw [g2] at h4
    by_cases cx : y = x ∨ z = x
    · obtain ⟨e, he, hed⟩ : ∃ e, st_en T r x = e ∧ ((y = x ∧ e = z) ∨ (¬ y = x ∧ z = x ∧ e = y)) := by
        unfold st_en
        rw [g0, g1]
        by_cases c9 : y = x
        · exact ⟨z, if_pos c9, Or.inl ⟨c9, rfl⟩⟩
        · exact ⟨y, if_neg c9, Or.inr ⟨c9, by omega, rfl⟩⟩
      rw [he, g0, g1, g2] at ihy ihn
      have he0 : 0 ≤ e ∧ e < T 0 := by omega
      have ge := st_gin hsp e (by omega)
      obtain ⟨G, hG⟩ : ∃ G, G = st_Gs T w (-1) a e := ⟨_, rfl⟩
      rw [← hG] at ihy ihn ge
      have gw : st_wy T a e w = if G < 1000000 then G else -1 := by rw [hG]; rfl
      by_cases u : w ≤ st_lim T r
      · have gu : (if w ≤ st_lim T r then (1 : Int) else 0) = 1 := if_pos u
        by_cases cG : G + ln = sm
        · rw [if_pos (by omega)] at gw
          by_cases cc : c = -1 ∨ e < c
          · have ky := fun p11 p12 σ hA => ihy p11 p12 σ ⟨⟨u, cx, cG⟩, cc⟩ hA
            clear ihy ihn u hsp hsm
            rcases hed with ⟨c8, rfl⟩ | ⟨c9, c8, rfl⟩
            · subst c8
              rw [bk_109_19]
              repeat' (first | (simp (disch := first | assumption | exact Nat.le_of_ble_eq_true rfl | omega) only [bk_109_0, eo_6, eo_3_3n, eo_3_3i, eo_3_3r, eo_53, eo_0_3, eo_1_0, v10_2, ev_ki, ev_kv, eo_0_1, eo_0_2, v10_4, eo_3_4n, eo_3_4i, eo_3_4r, eo_0_4, eo_52, bk_109_2, bk_109_3, bk_109_4, bk_109_5, bk_109_6, eo_56z, bk_109_7, eo_3_5n, eo_3_5i, eo_3_5r, eo_0_5, eo_60_3, v10_3, bk_109_9, bk_109_10, bk_109_11, eo_3_6n, eo_3_6i, eo_3_6r, eo_0_6, eo_3_7n, eo_3_7i, eo_3_7r, eo_0_7, eo_10, bk_109_12, bk_109_13, eo_23_5n, eo_23_5i, eo_23_5r, bk_109_14, v10_5, bk_109_16, bk_109_17, bk_109_18, eo_3_8n, eo_3_8i, eo_3_8r, eo_3_9n, eo_3_9i, eo_3_9r, eo_3_10n, eo_3_10i, eo_3_10r, eo_0_10, bk_109_20, bk_109_21, bk_109_22, eo_3_11n, eo_3_11i, eo_3_11r, eo_0_11, bk_109_23, bk_109_24, eo_3_12n, eo_3_12i, eo_3_12r, eo_0_12, eo_0_9, bk_109_25, bk_109_26, bk_109_27, eo_23_10n, eo_23_10i, eo_23_10r, bk_109_28, eo_11, eo_0_8, bk_109_29, bk_109_30, bk_109_31, bk_109_32, bk_109_33, bk_109_34, eo_23_3n, eo_23_3i, eo_23_3r, bk_109_35, gu, g0, g1, g2, gw, vb_0, vb_1, vb_2, vb_3, vb_4, vb_6, vb_7, vc_0, vc_1, vc_2, vc_3, vc_4, vc_5, vn_0, vn_1, vn_2, vn_3, vn_4, vn_5, vn_6, vn_7, vn_9, vn_10, vr_0, ev_lc_s, el_3, el_4, el_6, Int.add_zero, Int.add_sub_cancel, Int.reduceAdd, Int.reduceMul, Int.reduceSub, Int.reduceNeg, ev_wr_id]) | ((first | with_reducible refine wb_40 ?_ ?_ | with_reducible refine wb_41 ?_ ?_ | with_reducible refine wb_42 ?_ ?_ | with_reducible refine wb_43 ?_ ?_ | with_reducible refine wb_44 ?_ ?_ | with_reducible refine wb_45 ?_ ?_ | with_reducible refine wb_46 ?_ ?_ | with_reducible refine wb_47 ?_ ?_ | with_reducible refine wb_48 ?_ ?_ | with_reducible refine wb_49 ?_ ?_ | with_reducible refine wb_50 ?_ ?_ | with_reducible refine wb_51 ?_ ?_) <;> intro h <;> try simp (disch := first | assumption | exact Nat.le_of_ble_eq_true rfl | omega) only [ev_wr_id, not_true_eq_false, not_false_eq_true, Int.reduceEq, Int.reduceLT, Int.reduceLE, and_self, and_true, true_and, and_false, false_and, reduceIte] at h <;> try (exfalso; omega; done)) | refine wk (q_75 (by assumption) (by omega)) (fun σ hA => ?_) | refine wk (q_76 (by assumption) (by omega) (by omega)) (fun σ hA => ?_) | refine wk (q_85 (by assumption) (by omega) (by omega)) (fun σ hA => ?_) | refine wk (q_86 (by assumption) (by omega) (by omega) (by omega)) (fun σ hA => ?_) | refine wk (h_108 (by assumption) (by omega) (by omega)) (fun σ hA => ?_))
              all_goals exact ky _ _ _ (by assumption)
            · subst c8
              rw [bk_109_19]
              repeat' (first | (simp (disch := first | assumption | exact Nat.le_of_ble_eq_true rfl | omega) only [bk_109_0, eo_6, eo_3_3n, eo_3_3i, eo_3_3r, eo_53, eo_0_3, eo_1_0, v10_2, ev_ki, ev_kv, eo_0_1, eo_0_2, v10_4, eo_3_4n, eo_3_4i, eo_3_4r, eo_0_4, eo_52, bk_109_2, bk_109_3, bk_109_4, bk_109_5, bk_109_6, eo_56z, bk_109_7, eo_3_5n, eo_3_5i, eo_3_5r, eo_0_5, eo_60_3, v10_3, bk_109_9, bk_109_10, bk_109_11, eo_3_6n, eo_3_6i, eo_3_6r, eo_0_6, eo_3_7n, eo_3_7i, eo_3_7r, eo_0_7, eo_10, bk_109_12, bk_109_13, eo_23_5n, eo_23_5i, eo_23_5r, bk_109_14, v10_5, bk_109_16, bk_109_17, bk_109_18, eo_3_8n, eo_3_8i, eo_3_8r, eo_3_9n, eo_3_9i, eo_3_9r, eo_3_10n, eo_3_10i, eo_3_10r, eo_0_10, bk_109_20, bk_109_21, bk_109_22, eo_3_11n, eo_3_11i, eo_3_11r, eo_0_11, bk_109_23, bk_109_24, eo_3_12n, eo_3_12i, eo_3_12r, eo_0_12, eo_0_9, bk_109_25, bk_109_26, bk_109_27, eo_23_10n, eo_23_10i, eo_23_10r, bk_109_28, eo_11, eo_0_8, bk_109_29, bk_109_30, bk_109_31, bk_109_32, bk_109_33, bk_109_34, eo_23_3n, eo_23_3i, eo_23_3r, bk_109_35, gu, g0, g1, g2, gw, vb_0, vb_1, vb_2, vb_3, vb_4, vb_6, vb_7, vc_0, vc_1, vc_2, vc_3, vc_4, vc_5, vn_0, vn_1, vn_2, vn_3, vn_4, vn_5, vn_6, vn_7, vn_9, vn_10, vr_0, ev_lc_s, el_3, el_4, el_6, Int.add_zero, Int.add_sub_cancel, Int.reduceAdd, Int.reduceMul, Int.reduceSub, Int.reduceNeg, ev_wr_id]) | ((first | with_reducible refine wb_40 ?_ ?_ | with_reducible refine wb_41 ?_ ?_ | with_reducible refine wb_42 ?_ ?_ | with_reducible refine wb_43 ?_ ?_ | with_reducible refine wb_44 ?_ ?_ | with_reducible refine wb_45 ?_ ?_ | with_reducible refine wb_46 ?_ ?_ | with_reducible refine wb_47 ?_ ?_ | with_reducible refine wb_48 ?_ ?_ | with_reducible refine wb_49 ?_ ?_ | with_reducible refine wb_50 ?_ ?_ | with_reducible refine wb_51 ?_ ?_) <;> intro h <;> try simp (disch := first | assumption | exact Nat.le_of_ble_eq_true rfl | omega) only [ev_wr_id, not_true_eq_false, not_false_eq_true, Int.reduceEq, Int.reduceLT, Int.reduceLE, and_self, and_true, true_and, and_false, false_and, reduceIte] at h <;> try (exfalso; omega; done)) | refine wk (q_75 (by assumption) (by omega)) (fun σ hA => ?_) | refine wk (q_76 (by assumption) (by omega) (by omega)) (fun σ hA => ?_) | refine wk (q_85 (by assumption) (by omega) (by omega)) (fun σ hA => ?_) | refine wk (q_86 (by assumption) (by omega) (by omega) (by omega)) (fun σ hA => ?_) | refine wk (h_108 (by assumption) (by omega) (by omega)) (fun σ hA => ?_))
              all_goals exact ky _ _ _ (by assumption)
          · have kn := fun p11 p12 σ hA => ihn p11 p12 σ (fun h => cc h.2) hA
            clear ihy ihn u hsp hsm
            rcases hed with ⟨c8, rfl⟩ | ⟨c9, c8, rfl⟩
            · subst c8
              rw [bk_109_19]
              repeat' (first | (simp (disch := first | assumption | exact Nat.le_of_ble_eq_true rfl | omega) only [bk_109_0, eo_6, eo_3_3n, eo_3_3i, eo_3_3r, eo_53, eo_0_3, eo_1_0, v10_2, ev_ki, ev_kv, eo_0_1, eo_0_2, v10_4, eo_3_4n, eo_3_4i, eo_3_4r, eo_0_4, eo_52, bk_109_2, bk_109_3, bk_109_4, bk_109_5, bk_109_6, eo_56z, bk_109_7, eo_3_5n, eo_3_5i, eo_3_5r, eo_0_5, eo_60_3, v10_3, bk_109_9, bk_109_10, bk_109_11, eo_3_6n, eo_3_6i, eo_3_6r, eo_0_6, eo_3_7n, eo_3_7i, eo_3_7r, eo_0_7, eo_10, bk_109_12, bk_109_13, eo_23_5n, eo_23_5i, eo_23_5r, bk_109_14, v10_5, bk_109_16, bk_109_17, bk_109_18, eo_3_8n, eo_3_8i, eo_3_8r, eo_3_9n, eo_3_9i, eo_3_9r, eo_3_10n, eo_3_10i, eo_3_10r, eo_0_10, bk_109_20, bk_109_21, bk_109_22, eo_3_11n, eo_3_11i, eo_3_11r, eo_0_11, bk_109_23, bk_109_24, eo_3_12n, eo_3_12i, eo_3_12r, eo_0_12, eo_0_9, bk_109_25, bk_109_26, bk_109_27, eo_23_10n, eo_23_10i, eo_23_10r, bk_109_28, eo_11, eo_0_8, bk_109_29, bk_109_30, bk_109_31, bk_109_32, bk_109_33, bk_109_34, eo_23_3n, eo_23_3i, eo_23_3r, bk_109_35, gu, g0, g1, g2, gw, vb_0, vb_1, vb_2, vb_3, vb_4, vb_6, vb_7, vc_0, vc_1, vc_2, vc_3, vc_4, vc_5, vn_0, vn_1, vn_2, vn_3, vn_4, vn_5, vn_6, vn_7, vn_9, vn_10, vr_0, ev_lc_s, el_3, el_4, el_6, Int.add_zero, Int.add_sub_cancel, Int.reduceAdd, Int.reduceMul, Int.reduceSub, Int.reduceNeg, ev_wr_id]) | ((first | with_reducible refine wb_40 ?_ ?_ | with_reducible refine wb_41 ?_ ?_ | with_reducible refine wb_42 ?_ ?_ | with_reducible refine wb_43 ?_ ?_ | with_reducible refine wb_44 ?_ ?_ | with_reducible refine wb_45 ?_ ?_ | with_reducible refine wb_46 ?_ ?_ | with_reducible refine wb_47 ?_ ?_ | with_reducible refine wb_48 ?_ ?_ | with_reducible refine wb_49 ?_ ?_ | with_reducible refine wb_50 ?_ ?_ | with_reducible refine wb_51 ?_ ?_) <;> intro h <;> try simp (disch := first | assumption | exact Nat.le_of_ble_eq_true rfl | omega) only [ev_wr_id, not_true_eq_false, not_false_eq_true, Int.reduceEq, Int.reduceLT, Int.reduceLE, and_self, and_true, true_and, and_false, false_and, reduceIte] at h <;> try (exfalso; omega; done)) | refine wk (q_75 (by assumption) (by omega)) (fun σ hA => ?_) | refine wk (q_76 (by assumption) (by omega) (by omega)) (fun σ hA => ?_) | refine wk (q_85 (by assumption) (by omega) (by omega)) (fun σ hA => ?_) | refine wk (q_86 (by assumption) (by omega) (by omega) (by omega)) (fun σ hA => ?_) | refine wk (h_108 (by assumption) (by omega) (by omega)) (fun σ hA => ?_))
              all_goals exact kn _ _ _ (by assumption)
            · subst c8
              rw [bk_109_19]
              repeat' (first | (simp (disch := first | assumption | exact Nat.le_of_ble_eq_true rfl | omega) only [bk_109_0, eo_6, eo_3_3n, eo_3_3i, eo_3_3r, eo_53, eo_0_3, eo_1_0, v10_2, ev_ki, ev_kv, eo_0_1, eo_0_2, v10_4, eo_3_4n, eo_3_4i, eo_3_4r, eo_0_4, eo_52, bk_109_2, bk_109_3, bk_109_4, bk_109_5, bk_109_6, eo_56z, bk_109_7, eo_3_5n, eo_3_5i, eo_3_5r, eo_0_5, eo_60_3, v10_3, bk_109_9, bk_109_10, bk_109_11, eo_3_6n, eo_3_6i, eo_3_6r, eo_0_6, eo_3_7n, eo_3_7i, eo_3_7r, eo_0_7, eo_10, bk_109_12, bk_109_13, eo_23_5n, eo_23_5i, eo_23_5r, bk_109_14, v10_5, bk_109_16, bk_109_17, bk_109_18, eo_3_8n, eo_3_8i, eo_3_8r, eo_3_9n, eo_3_9i, eo_3_9r, eo_3_10n, eo_3_10i, eo_3_10r, eo_0_10, bk_109_20, bk_109_21, bk_109_22, eo_3_11n, eo_3_11i, eo_3_11r, eo_0_11, bk_109_23, bk_109_24, eo_3_12n, eo_3_12i, eo_3_12r, eo_0_12, eo_0_9, bk_109_25, bk_109_26, bk_109_27, eo_23_10n, eo_23_10i, eo_23_10r, bk_109_28, eo_11, eo_0_8, bk_109_29, bk_109_30, bk_109_31, bk_109_32, bk_109_33, bk_109_34, eo_23_3n, eo_23_3i, eo_23_3r, bk_109_35, gu, g0, g1, g2, gw, vb_0, vb_1, vb_2, vb_3, vb_4, vb_6, vb_7, vc_0, vc_1, vc_2, vc_3, vc_4, vc_5, vn_0, vn_1, vn_2, vn_3, vn_4, vn_5, vn_6, vn_7, vn_9, vn_10, vr_0, ev_lc_s, el_3, el_4, el_6, Int.add_zero, Int.add_sub_cancel, Int.reduceAdd, Int.reduceMul, Int.reduceSub, Int.reduceNeg, ev_wr_id]) | ((first | with_reducible refine wb_40 ?_ ?_ | with_reducible refine wb_41 ?_ ?_ | with_reducible refine wb_42 ?_ ?_ | with_reducible refine wb_43 ?_ ?_ | with_reducible refine wb_44 ?_ ?_ | with_reducible refine wb_45 ?_ ?_ | with_reducible refine wb_46 ?_ ?_ | with_reducible refine wb_47 ?_ ?_ | with_reducible refine wb_48 ?_ ?_ | with_reducible refine wb_49 ?_ ?_ | with_reducible refine wb_50 ?_ ?_ | with_reducible refine wb_51 ?_ ?_) <;> intro h <;> try simp (disch := first | assumption | exact Nat.le_of_ble_eq_true rfl | omega) only [ev_wr_id, not_true_eq_false, not_false_eq_true, Int.reduceEq, Int.reduceLT, Int.reduceLE, and_self, and_true, true_and, and_false, false_and, reduceIte] at h <;> try (exfalso; omega; done)) | refine wk (q_75 (by assumption) (by omega)) (fun σ hA => ?_) | refine wk (q_76 (by assumption) (by omega) (by omega)) (fun σ hA => ?_) | refine wk (q_85 (by assumption) (by omega) (by omega)) (fun σ hA => ?_) | refine wk (q_86 (by assumption) (by omega) (by omega) (by omega)) (fun σ hA => ?_) | refine wk (h_108 (by assumption) (by omega) (by omega)) (fun σ hA => ?_))
              all_goals exact kn _ _ _ (by assumption)
        · have kn := fun p11 p12 σ hA => ihn p11 p12 σ (fun h => cG h.1.2.2) hA
          clear ihy ihn u hsp hsm
          by_cases cl : G < 1000000
          · rw [if_pos cl] at gw
            rcases hed with ⟨c8, rfl⟩ | ⟨c9, c8, rfl⟩
            · subst c8
              rw [bk_109_19]
              repeat' (first | (simp (disch := first | assumption | exact Nat.le_of_ble_eq_true rfl | omega) only [bk_109_0, eo_6, eo_3_3n, eo_3_3i, eo_3_3r, eo_53, eo_0_3, eo_1_0, v10_2, ev_ki, ev_kv, eo_0_1, eo_0_2, v10_4, eo_3_4n, eo_3_4i, eo_3_4r, eo_0_4, eo_52, bk_109_2, bk_109_3, bk_109_4, bk_109_5, bk_109_6, eo_56z, bk_109_7, eo_3_5n, eo_3_5i, eo_3_5r, eo_0_5, eo_60_3, v10_3, bk_109_9, bk_109_10, bk_109_11, eo_3_6n, eo_3_6i, eo_3_6r, eo_0_6, eo_3_7n, eo_3_7i, eo_3_7r, eo_0_7, eo_10, bk_109_12, bk_109_13, eo_23_5n, eo_23_5i, eo_23_5r, bk_109_14, v10_5, bk_109_16, bk_109_17, bk_109_18, eo_3_8n, eo_3_8i, eo_3_8r, eo_3_9n, eo_3_9i, eo_3_9r, eo_3_10n, eo_3_10i, eo_3_10r, eo_0_10, bk_109_20, bk_109_21, bk_109_22, eo_3_11n, eo_3_11i, eo_3_11r, eo_0_11, bk_109_23, bk_109_24, eo_3_12n, eo_3_12i, eo_3_12r, eo_0_12, eo_0_9, bk_109_25, bk_109_26, bk_109_27, eo_23_10n, eo_23_10i, eo_23_10r, bk_109_28, eo_11, eo_0_8, bk_109_29, bk_109_30, bk_109_31, bk_109_32, bk_109_33, bk_109_34, eo_23_3n, eo_23_3i, eo_23_3r, bk_109_35, gu, g0, g1, g2, gw, vb_0, vb_1, vb_2, vb_3, vb_4, vb_6, vb_7, vc_0, vc_1, vc_2, vc_3, vc_4, vc_5, vn_0, vn_1, vn_2, vn_3, vn_4, vn_5, vn_6, vn_7, vn_9, vn_10, vr_0, ev_lc_s, el_3, el_4, el_6, Int.add_zero, Int.add_sub_cancel, Int.reduceAdd, Int.reduceMul, Int.reduceSub, Int.reduceNeg, ev_wr_id]) | ((first | with_reducible refine wb_40 ?_ ?_ | with_reducible refine wb_41 ?_ ?_ | with_reducible refine wb_42 ?_ ?_ | with_reducible refine wb_43 ?_ ?_ | with_reducible refine wb_44 ?_ ?_ | with_reducible refine wb_45 ?_ ?_ | with_reducible refine wb_46 ?_ ?_ | with_reducible refine wb_47 ?_ ?_ | with_reducible refine wb_48 ?_ ?_ | with_reducible refine wb_49 ?_ ?_ | with_reducible refine wb_50 ?_ ?_ | with_reducible refine wb_51 ?_ ?_) <;> intro h <;> try simp (disch := first | assumption | exact Nat.le_of_ble_eq_true rfl | omega) only [ev_wr_id, not_true_eq_false, not_false_eq_true, Int.reduceEq, Int.reduceLT, Int.reduceLE, and_self, and_true, true_and, and_false, false_and, reduceIte] at h <;> try (exfalso; omega; done)) | refine wk (q_75 (by assumption) (by omega)) (fun σ hA => ?_) | refine wk (q_76 (by assumption) (by omega) (by omega)) (fun σ hA => ?_) | refine wk (q_85 (by assumption) (by omega) (by omega)) (fun σ hA => ?_) | refine wk (q_86 (by assumption) (by omega) (by omega) (by omega)) (fun σ hA => ?_) | refine wk (h_108 (by assumption) (by omega) (by omega)) (fun σ hA => ?_))
              all_goals exact kn _ _ _ (by assumption)
            · subst c8
              rw [bk_109_19]
              repeat' (first | (simp (disch := first | assumption | exact Nat.le_of_ble_eq_true rfl | omega) only [bk_109_0, eo_6, eo_3_3n, eo_3_3i, eo_3_3r, eo_53, eo_0_3, eo_1_0, v10_2, ev_ki, ev_kv, eo_0_1, eo_0_2, v10_4, eo_3_4n, eo_3_4i, eo_3_4r, eo_0_4, eo_52, bk_109_2, bk_109_3, bk_109_4, bk_109_5, bk_109_6, eo_56z, bk_109_7, eo_3_5n, eo_3_5i, eo_3_5r, eo_0_5, eo_60_3, v10_3, bk_109_9, bk_109_10, bk_109_11, eo_3_6n, eo_3_6i, eo_3_6r, eo_0_6, eo_3_7n, eo_3_7i, eo_3_7r, eo_0_7, eo_10, bk_109_12, bk_109_13, eo_23_5n, eo_23_5i, eo_23_5r, bk_109_14, v10_5, bk_109_16, bk_109_17, bk_109_18, eo_3_8n, eo_3_8i, eo_3_8r, eo_3_9n, eo_3_9i, eo_3_9r, eo_3_10n, eo_3_10i, eo_3_10r, eo_0_10, bk_109_20, bk_109_21, bk_109_22, eo_3_11n, eo_3_11i, eo_3_11r, eo_0_11, bk_109_23, bk_109_24, eo_3_12n, eo_3_12i, eo_3_12r, eo_0_12, eo_0_9, bk_109_25, bk_109_26, bk_109_27, eo_23_10n, eo_23_10i, eo_23_10r, bk_109_28, eo_11, eo_0_8, bk_109_29, bk_109_30, bk_109_31, bk_109_32, bk_109_33, bk_109_34, eo_23_3n, eo_23_3i, eo_23_3r, bk_109_35, gu, g0, g1, g2, gw, vb_0, vb_1, vb_2, vb_3, vb_4, vb_6, vb_7, vc_0, vc_1, vc_2, vc_3, vc_4, vc_5, vn_0, vn_1, vn_2, vn_3, vn_4, vn_5, vn_6, vn_7, vn_9, vn_10, vr_0, ev_lc_s, el_3, el_4, el_6, Int.add_zero, Int.add_sub_cancel, Int.reduceAdd, Int.reduceMul, Int.reduceSub, Int.reduceNeg, ev_wr_id]) | ((first | with_reducible refine wb_40 ?_ ?_ | with_reducible refine wb_41 ?_ ?_ | with_reducible refine wb_42 ?_ ?_ | with_reducible refine wb_43 ?_ ?_ | with_reducible refine wb_44 ?_ ?_ | with_reducible refine wb_45 ?_ ?_ | with_reducible refine wb_46 ?_ ?_ | with_reducible refine wb_47 ?_ ?_ | with_reducible refine wb_48 ?_ ?_ | with_reducible refine wb_49 ?_ ?_ | with_reducible refine wb_50 ?_ ?_ | with_reducible refine wb_51 ?_ ?_) <;> intro h <;> try simp (disch := first | assumption | exact Nat.le_of_ble_eq_true rfl | omega) only [ev_wr_id, not_true_eq_false, not_false_eq_true, Int.reduceEq, Int.reduceLT, Int.reduceLE, and_self, and_true, true_and, and_false, false_and, reduceIte] at h <;> try (exfalso; omega; done)) | refine wk (q_75 (by assumption) (by omega)) (fun σ hA => ?_) | refine wk (q_76 (by assumption) (by omega) (by omega)) (fun σ hA => ?_) | refine wk (q_85 (by assumption) (by omega) (by omega)) (fun σ hA => ?_) | refine wk (q_86 (by assumption) (by omega) (by omega) (by omega)) (fun σ hA => ?_) | refine wk (h_108 (by assumption) (by omega) (by omega)) (fun σ hA => ?_))
              all_goals exact kn _ _ _ (by assumption)
          · rw [if_neg cl] at gw
            rcases hed with ⟨c8, rfl⟩ | ⟨c9, c8, rfl⟩
            · subst c8
              rw [bk_109_19]
              repeat' (first | (simp (disch := first | assumption | exact Nat.le_of_ble_eq_true rfl | omega) only [bk_109_0, eo_6, eo_3_3n, eo_3_3i, eo_3_3r, eo_53, eo_0_3, eo_1_0, v10_2, ev_ki, ev_kv, eo_0_1, eo_0_2, v10_4, eo_3_4n, eo_3_4i, eo_3_4r, eo_0_4, eo_52, bk_109_2, bk_109_3, bk_109_4, bk_109_5, bk_109_6, eo_56z, bk_109_7, eo_3_5n, eo_3_5i, eo_3_5r, eo_0_5, eo_60_3, v10_3, bk_109_9, bk_109_10, bk_109_11, eo_3_6n, eo_3_6i, eo_3_6r, eo_0_6, eo_3_7n, eo_3_7i, eo_3_7r, eo_0_7, eo_10, bk_109_12, bk_109_13, eo_23_5n, eo_23_5i, eo_23_5r, bk_109_14, v10_5, bk_109_16, bk_109_17, bk_109_18, eo_3_8n, eo_3_8i, eo_3_8r, eo_3_9n, eo_3_9i, eo_3_9r, eo_3_10n, eo_3_10i, eo_3_10r, eo_0_10, bk_109_20, bk_109_21, bk_109_22, eo_3_11n, eo_3_11i, eo_3_11r, eo_0_11, bk_109_23, bk_109_24, eo_3_12n, eo_3_12i, eo_3_12r, eo_0_12, eo_0_9, bk_109_25, bk_109_26, bk_109_27, eo_23_10n, eo_23_10i, eo_23_10r, bk_109_28, eo_11, eo_0_8, bk_109_29, bk_109_30, bk_109_31, bk_109_32, bk_109_33, bk_109_34, eo_23_3n, eo_23_3i, eo_23_3r, bk_109_35, gu, g0, g1, g2, gw, vb_0, vb_1, vb_2, vb_3, vb_4, vb_6, vb_7, vc_0, vc_1, vc_2, vc_3, vc_4, vc_5, vn_0, vn_1, vn_2, vn_3, vn_4, vn_5, vn_6, vn_7, vn_9, vn_10, vr_0, ev_lc_s, el_3, el_4, el_6, Int.add_zero, Int.add_sub_cancel, Int.reduceAdd, Int.reduceMul, Int.reduceSub, Int.reduceNeg, ev_wr_id]) | ((first | with_reducible refine wb_40 ?_ ?_ | with_reducible refine wb_41 ?_ ?_ | with_reducible refine wb_42 ?_ ?_ | with_reducible refine wb_43 ?_ ?_ | with_reducible refine wb_44 ?_ ?_ | with_reducible refine wb_45 ?_ ?_ | with_reducible refine wb_46 ?_ ?_ | with_reducible refine wb_47 ?_ ?_ | with_reducible refine wb_48 ?_ ?_ | with_reducible refine wb_49 ?_ ?_ | with_reducible refine wb_50 ?_ ?_ | with_reducible refine wb_51 ?_ ?_) <;> intro h <;> try simp (disch := first | assumption | exact Nat.le_of_ble_eq_true rfl | omega) only [ev_wr_id, not_true_eq_false, not_false_eq_true, Int.reduceEq, Int.reduceLT, Int.reduceLE, and_self, and_true, true_and, and_false, false_and, reduceIte] at h <;> try (exfalso; omega; done)) | refine wk (q_75 (by assumption) (by omega)) (fun σ hA => ?_) | refine wk (q_76 (by assumption) (by omega) (by omega)) (fun σ hA => ?_) | refine wk (q_85 (by assumption) (by omega) (by omega)) (fun σ hA => ?_) | refine wk (q_86 (by assumption) (by omega) (by omega) (by omega)) (fun σ hA => ?_) | refine wk (h_108 (by assumption) (by omega) (by omega)) (fun σ hA => ?_))
              all_goals exact kn _ _ _ (by assumption)
            · subst c8
              rw [bk_109_19]
              repeat' (first | (simp (disch := first | assumption | exact Nat.le_of_ble_eq_true rfl | omega) only [bk_109_0, eo_6, eo_3_3n, eo_3_3i, eo_3_3r, eo_53, eo_0_3, eo_1_0, v10_2, ev_ki, ev_kv, eo_0_1, eo_0_2, v10_4, eo_3_4n, eo_3_4i, eo_3_4r, eo_0_4, eo_52, bk_109_2, bk_109_3, bk_109_4, bk_109_5, bk_109_6, eo_56z, bk_109_7, eo_3_5n, eo_3_5i, eo_3_5r, eo_0_5, eo_60_3, v10_3, bk_109_9, bk_109_10, bk_109_11, eo_3_6n, eo_3_6i, eo_3_6r, eo_0_6, eo_3_7n, eo_3_7i, eo_3_7r, eo_0_7, eo_10, bk_109_12, bk_109_13, eo_23_5n, eo_23_5i, eo_23_5r, bk_109_14, v10_5, bk_109_16, bk_109_17, bk_109_18, eo_3_8n, eo_3_8i, eo_3_8r, eo_3_9n, eo_3_9i, eo_3_9r, eo_3_10n, eo_3_10i, eo_3_10r, eo_0_10, bk_109_20, bk_109_21, bk_109_22, eo_3_11n, eo_3_11i, eo_3_11r, eo_0_11, bk_109_23, bk_109_24, eo_3_12n, eo_3_12i, eo_3_12r, eo_0_12, eo_0_9, bk_109_25, bk_109_26, bk_109_27, eo_23_10n, eo_23_10i, eo_23_10r, bk_109_28, eo_11, eo_0_8, bk_109_29, bk_109_30, bk_109_31, bk_109_32, bk_109_33, bk_109_34, eo_23_3n, eo_23_3i, eo_23_3r, bk_109_35, gu, g0, g1, g2, gw, vb_0, vb_1, vb_2, vb_3, vb_4, vb_6, vb_7, vc_0, vc_1, vc_2, vc_3, vc_4, vc_5, vn_0, vn_1, vn_2, vn_3, vn_4, vn_5, vn_6, vn_7, vn_9, vn_10, vr_0, ev_lc_s, el_3, el_4, el_6, Int.add_zero, Int.add_sub_cancel, Int.reduceAdd, Int.reduceMul, Int.reduceSub, Int.reduceNeg, ev_wr_id]) | ((first | with_reducible refine wb_40 ?_ ?_ | with_reducible refine wb_41 ?_ ?_ | with_reducible refine wb_42 ?_ ?_ | with_reducible refine wb_43 ?_ ?_ | with_reducible refine wb_44 ?_ ?_ | with_reducible refine wb_45 ?_ ?_ | with_reducible refine wb_46 ?_ ?_ | with_reducible refine wb_47 ?_ ?_ | with_reducible refine wb_48 ?_ ?_ | with_reducible refine wb_49 ?_ ?_ | with_reducible refine wb_50 ?_ ?_ | with_reducible refine wb_51 ?_ ?_) <;> intro h <;> try simp (disch := first | assumption | exact Nat.le_of_ble_eq_true rfl | omega) only [ev_wr_id, not_true_eq_false, not_false_eq_true, Int.reduceEq, Int.reduceLT, Int.reduceLE, and_self, and_true, true_and, and_false, false_and, reduceIte] at h <;> try (exfalso; omega; done)) | refine wk (q_75 (by assumption) (by omega)) (fun σ hA => ?_) | refine wk (q_76 (by assumption) (by omega) (by omega)) (fun σ hA => ?_) | refine wk (q_85 (by assumption) (by omega) (by omega)) (fun σ hA => ?_) | refine wk (q_86 (by assumption) (by omega) (by omega) (by omega)) (fun σ hA => ?_) | refine wk (h_108 (by assumption) (by omega) (by omega)) (fun σ hA => ?_))
              all_goals exact kn _ _ _ (by assumption)
      · have gu : (if w ≤ st_lim T r then (1 : Int) else 0) = 0 := if_neg u
        have kn := fun p11 p12 σ hA => ihn p11 p12 σ (fun h => u h.1.1) hA
        clear ihy ihn u hsp hsm gw
        rcases hed with ⟨c8, rfl⟩ | ⟨c9, c8, rfl⟩
        · subst c8
          rw [bk_109_19]
          repeat' (first | (simp (disch := first | assumption | exact Nat.le_of_ble_eq_true rfl | omega) only [bk_109_0, eo_6, eo_3_3n, eo_3_3i, eo_3_3r, eo_53, eo_0_3, eo_1_0, v10_2, ev_ki, ev_kv, eo_0_1, eo_0_2, v10_4, eo_3_4n, eo_3_4i, eo_3_4r, eo_0_4, eo_52, bk_109_2, bk_109_3, bk_109_4, bk_109_5, bk_109_6, eo_56z, bk_109_7, eo_3_5n, eo_3_5i, eo_3_5r, eo_0_5, eo_60_3, v10_3, bk_109_9, bk_109_10, bk_109_11, eo_3_6n, eo_3_6i, eo_3_6r, eo_0_6, eo_3_7n, eo_3_7i, eo_3_7r, eo_0_7, eo_10, bk_109_12, bk_109_13, eo_23_5n, eo_23_5i, eo_23_5r, bk_109_14, v10_5, bk_109_16, bk_109_17, bk_109_18, eo_3_8n, eo_3_8i, eo_3_8r, eo_3_9n, eo_3_9i, eo_3_9r, eo_3_10n, eo_3_10i, eo_3_10r, eo_0_10, bk_109_20, bk_109_21, bk_109_22, eo_3_11n, eo_3_11i, eo_3_11r, eo_0_11, bk_109_23, bk_109_24, eo_3_12n, eo_3_12i, eo_3_12r, eo_0_12, eo_0_9, bk_109_25, bk_109_26, bk_109_27, eo_23_10n, eo_23_10i, eo_23_10r, bk_109_28, eo_11, eo_0_8, bk_109_29, bk_109_30, bk_109_31, bk_109_32, bk_109_33, bk_109_34, eo_23_3n, eo_23_3i, eo_23_3r, bk_109_35, gu, g0, g1, g2, vb_0, vb_1, vb_2, vb_3, vb_4, vb_6, vb_7, vc_0, vc_1, vc_2, vc_3, vc_4, vc_5, vn_0, vn_1, vn_2, vn_3, vn_4, vn_5, vn_6, vn_7, vn_9, vn_10, vr_0, ev_lc_s, el_3, el_4, el_6, Int.add_zero, Int.add_sub_cancel, Int.reduceAdd, Int.reduceMul, Int.reduceSub, Int.reduceNeg, ev_wr_id]) | ((first | with_reducible refine wb_40 ?_ ?_ | with_reducible refine wb_41 ?_ ?_ | with_reducible refine wb_42 ?_ ?_ | with_reducible refine wb_43 ?_ ?_ | with_reducible refine wb_44 ?_ ?_ | with_reducible refine wb_45 ?_ ?_ | with_reducible refine wb_46 ?_ ?_ | with_reducible refine wb_47 ?_ ?_ | with_reducible refine wb_48 ?_ ?_ | with_reducible refine wb_49 ?_ ?_ | with_reducible refine wb_50 ?_ ?_ | with_reducible refine wb_51 ?_ ?_) <;> intro h <;> try simp (disch := first | assumption | exact Nat.le_of_ble_eq_true rfl | omega) only [ev_wr_id, not_true_eq_false, not_false_eq_true, Int.reduceEq, Int.reduceLT, Int.reduceLE, and_self, and_true, true_and, and_false, false_and, reduceIte] at h <;> try (exfalso; omega; done)) | refine wk (q_75 (by assumption) (by omega)) (fun σ hA => ?_) | refine wk (q_76 (by assumption) (by omega) (by omega)) (fun σ hA => ?_) | refine wk (q_85 (by assumption) (by omega) (by omega)) (fun σ hA => ?_) | refine wk (q_86 (by assumption) (by omega) (by omega) (by omega)) (fun σ hA => ?_) | refine wk (h_108 (by assumption) (by omega) (by omega)) (fun σ hA => ?_))
          all_goals exact kn _ _ _ (by assumption)
        · subst c8
          rw [bk_109_19]
          repeat' (first | (simp (disch := first | assumption | exact Nat.le_of_ble_eq_true rfl | omega) only [bk_109_0, eo_6, eo_3_3n, eo_3_3i, eo_3_3r, eo_53, eo_0_3, eo_1_0, v10_2, ev_ki, ev_kv, eo_0_1, eo_0_2, v10_4, eo_3_4n, eo_3_4i, eo_3_4r, eo_0_4, eo_52, bk_109_2, bk_109_3, bk_109_4, bk_109_5, bk_109_6, eo_56z, bk_109_7, eo_3_5n, eo_3_5i, eo_3_5r, eo_0_5, eo_60_3, v10_3, bk_109_9, bk_109_10, bk_109_11, eo_3_6n, eo_3_6i, eo_3_6r, eo_0_6, eo_3_7n, eo_3_7i, eo_3_7r, eo_0_7, eo_10, bk_109_12, bk_109_13, eo_23_5n, eo_23_5i, eo_23_5r, bk_109_14, v10_5, bk_109_16, bk_109_17, bk_109_18, eo_3_8n, eo_3_8i, eo_3_8r, eo_3_9n, eo_3_9i, eo_3_9r, eo_3_10n, eo_3_10i, eo_3_10r, eo_0_10, bk_109_20, bk_109_21, bk_109_22, eo_3_11n, eo_3_11i, eo_3_11r, eo_0_11, bk_109_23, bk_109_24, eo_3_12n, eo_3_12i, eo_3_12r, eo_0_12, eo_0_9, bk_109_25, bk_109_26, bk_109_27, eo_23_10n, eo_23_10i, eo_23_10r, bk_109_28, eo_11, eo_0_8, bk_109_29, bk_109_30, bk_109_31, bk_109_32, bk_109_33, bk_109_34, eo_23_3n, eo_23_3i, eo_23_3r, bk_109_35, gu, g0, g1, g2, vb_0, vb_1, vb_2, vb_3, vb_4, vb_6, vb_7, vc_0, vc_1, vc_2, vc_3, vc_4, vc_5, vn_0, vn_1, vn_2, vn_3, vn_4, vn_5, vn_6, vn_7, vn_9, vn_10, vr_0, ev_lc_s, el_3, el_4, el_6, Int.add_zero, Int.add_sub_cancel, Int.reduceAdd, Int.reduceMul, Int.reduceSub, Int.reduceNeg, ev_wr_id]) | ((first | with_reducible refine wb_40 ?_ ?_ | with_reducible refine wb_41 ?_ ?_ | with_reducible refine wb_42 ?_ ?_ | with_reducible refine wb_43 ?_ ?_ | with_reducible refine wb_44 ?_ ?_ | with_reducible refine wb_45 ?_ ?_ | with_reducible refine wb_46 ?_ ?_ | with_reducible refine wb_47 ?_ ?_ | with_reducible refine wb_48 ?_ ?_ | with_reducible refine wb_49 ?_ ?_ | with_reducible refine wb_50 ?_ ?_ | with_reducible refine wb_51 ?_ ?_) <;> intro h <;> try simp (disch := first | assumption | exact Nat.le_of_ble_eq_true rfl | omega) only [ev_wr_id, not_true_eq_false, not_false_eq_true, Int.reduceEq, Int.reduceLT, Int.reduceLE, and_self, and_true, true_and, and_false, false_and, reduceIte] at h <;> try (exfalso; omega; done)) | refine wk (q_75 (by assumption) (by omega)) (fun σ hA => ?_) | refine wk (q_76 (by assumption) (by omega) (by omega)) (fun σ hA => ?_) | refine wk (q_85 (by assumption) (by omega) (by omega)) (fun σ hA => ?_) | refine wk (q_86 (by assumption) (by omega) (by omega) (by omega)) (fun σ hA => ?_) | refine wk (h_108 (by assumption) (by omega) (by omega)) (fun σ hA => ?_))
          all_goals exact kn _ _ _ (by assumption)
    · have kn := fun p11 p12 σ hA => ihn p11 p12 σ (fun h => cx (by have := h.1.2.1; rw [g0, g1] at this; exact this)) hA
      clear ihy ihn hsp hsm
      rw [bk_109_19]
      repeat' (first | (simp (disch := first | assumption | exact Nat.le_of_ble_eq_true rfl | omega) only [bk_109_0, eo_6, eo_3_3n, eo_3_3i, eo_3_3r, eo_53, eo_0_3, eo_1_0, v10_2, ev_ki, ev_kv, eo_0_1, eo_0_2, v10_4, eo_3_4n, eo_3_4i, eo_3_4r, eo_0_4, eo_52, bk_109_2, bk_109_3, bk_109_4, bk_109_5, bk_109_6, eo_56z, bk_109_7, eo_3_5n, eo_3_5i, eo_3_5r, eo_0_5, eo_60_3, v10_3, bk_109_9, bk_109_10, bk_109_11, eo_3_6n, eo_3_6i, eo_3_6r, eo_0_6, eo_3_7n, eo_3_7i, eo_3_7r, eo_0_7, eo_10, bk_109_12, bk_109_13, eo_23_5n, eo_23_5i, eo_23_5r, bk_109_14, v10_5, bk_109_16, bk_109_17, bk_109_18, eo_3_8n, eo_3_8i, eo_3_8r, eo_3_9n, eo_3_9i, eo_3_9r, eo_3_10n, eo_3_10i, eo_3_10r, eo_0_10, bk_109_20, bk_109_21, bk_109_22, eo_3_11n, eo_3_11i, eo_3_11r, eo_0_11, bk_109_23, bk_109_24, eo_3_12n, eo_3_12i, eo_3_12r, eo_0_12, eo_0_9, bk_109_25, bk_109_26, bk_109_27, eo_23_10n, eo_23_10i, eo_23_10r, bk_109_28, eo_11, eo_0_8, bk_109_29, bk_109_30, bk_109_31, bk_109_32, bk_109_33, bk_109_34, eo_23_3n, eo_23_3i, eo_23_3r, bk_109_35, g0, g1, vb_0, vb_1, vb_2, vb_3, vb_4, vb_6, vb_7, vc_0, vc_1, vc_2, vc_3, vc_4, vc_5, vn_0, vn_1, vn_2, vn_3, vn_4, vn_5, vn_6, vn_7, vn_9, vn_10, vr_0, ev_lc_s, el_3, el_4, el_6, Int.add_zero, Int.add_sub_cancel, Int.reduceAdd, Int.reduceMul, Int.reduceSub, Int.reduceNeg, ev_wr_id]) | ((first | with_reducible refine wb_40 ?_ ?_ | with_reducible refine wb_41 ?_ ?_ | with_reducible refine wb_42 ?_ ?_ | with_reducible refine wb_43 ?_ ?_ | with_reducible refine wb_44 ?_ ?_ | with_reducible refine wb_45 ?_ ?_ | with_reducible refine wb_46 ?_ ?_ | with_reducible refine wb_47 ?_ ?_ | with_reducible refine wb_48 ?_ ?_ | with_reducible refine wb_49 ?_ ?_ | with_reducible refine wb_50 ?_ ?_ | with_reducible refine wb_51 ?_ ?_) <;> intro h <;> try simp (disch := first | assumption | exact Nat.le_of_ble_eq_true rfl | omega) only [ev_wr_id, not_true_eq_false, not_false_eq_true, Int.reduceEq, Int.reduceLT, Int.reduceLE, and_self, and_true, true_and, and_false, false_and, reduceIte] at h <;> try (exfalso; omega; done)) | refine wk (q_75 (by assumption) (by omega)) (fun σ hA => ?_) | refine wk (q_76 (by assumption) (by omega) (by omega)) (fun σ hA => ?_) | refine wk (q_85 (by assumption) (by omega) (by omega)) (fun σ hA => ?_) | refine wk (q_86 (by assumption) (by omega) (by omega) (by omega)) (fun σ hA => ?_) | refine wk (h_108 (by assumption) (by omega) (by omega)) (fun σ hA => ?_))
      all_goals exact kn _ _ _ (by assumption)
theorem st_vt_y {T : Int → Int} {a t w q : Int} {n : Nat} {G : Int → Int} (hG : st_Gs T w (-1) a = G) (hn : st_pn T a t w = n) (c : G t < 1000000) : (q ≤ n → st_vt T a t w q = st_it T w G t (n - q.toNat)) ∧ (¬ q ≤ n → st_vt T a t w q = -1) := by
  unfold st_vt
  rw [hG, hn, if_pos c]
  exact ⟨fun h => if_pos h, fun h => if_neg h⟩
/-- the towns of a way, from its start on -/
theorem l_109w {P : ev_R → Prop} {a w t : Int} (hI : st_I T) (ha : 0 ≤ a ∧ a < T 0) (ht : 0 ≤ t ∧ t < T 0) (hw : 1 ≤ w ∧ w ≤ 60) (c : st_Gs T w (-1) a t < 1000000) (kk : ∀ (σ : ev_M) (p7 p8 p9 p10 p11 p12 : Option ev_V), ab_A σ T hs → Wp P (EB 109 31 [some (.inr (.inl 161)), some (.inl a), some (.inl w), some (.inl t), some (.inl (st_Gs T w (-1) a t)), some (.inl ((st_pn T a t w : Int) + 1)), some (.inl (st_Gs T w (-1) a t)), p7, p8, p9, p10, p11, p12] [] σ)) : ∀ (m : Nat) (q sm : Int) (p7 p8 p9 p10 p11 p12 : Option ev_V) (σ : ev_M), 0 ≤ q → q + m = (st_pn T a t w : Int) + 1 → (q = 0 → sm = 0) → (0 < q → sm = st_Gs T w (-1) a (st_it T w (st_Gs T w (-1) a) t (st_pn T a t w + 1 - q.toNat))) → ab_A σ T hs → Wp P (EB 109 15 [some (.inr (.inl 161)), some (.inl a), some (.inl w), some (.inl t), some (.inl (st_Gs T w (-1) a t)), some (.inl q), some (.inl sm), p7, p8, p9, p10, p11, p12] [] σ) := by
  have i0 := hI.1.1
  have hsp := st_Gs_sp (w := w) (o := -1) hI ha (by omega) (by omega)
  have hpn := st_pn_p hI ha (by omega) hw c
  have hnb := st_pn_b hI ha ht hw c
  obtain ⟨n, hn⟩ : ∃ n, n = st_pn T a t w := ⟨_, rfl⟩
  have hn2 := hn.symm
  rw [hn2] at hpn kk hnb ⊢
  obtain ⟨hn9, hxn, hxi⟩ := hpn
  have hvt := fun q => st_vt_y (q := q) (T := T) (a := a) (t := t) (w := w) rfl hn2 c
  have hin : ∀ i : Nat, i ≤ n → 0 ≤ st_it T w (st_Gs T w (-1) a) t i ∧ st_it T w (st_Gs T w (-1) a) t i < T 0 := fun i hi => by
    have h := hxi i hi
    refine ⟨h.1.1, ?_⟩
    by_cases c9 : st_it T w (st_Gs T w (-1) a) t i = a
    · omega
    · obtain ⟨r, z, k1, -⟩ := hsp.2.2.2 _ h.1.1 h.1.2 c9 (by omega)
      exact (st_ej_in hI k1).2.1.2
  have hwy : ∀ i : Nat, i ≤ n → st_wy T a (st_it T w (st_Gs T w (-1) a) t i) w = st_Gs T w (-1) a (st_it T w (st_Gs T w (-1) a) t i) := fun i hi => by
    have h := hxi i hi
    unfold st_wy
    rw [if_pos (by omega)]
  intro m
  induction m with
  | zero =>
    intro q sm p7 p8 p9 p10 p11 p12 σ q0 q1 h0 h1 hA
    have e : q = (n : Int) + 1 := by omega
    have e2 := h1 (by omega)
    rw [show n + 1 - q.toNat = 0 by omega] at e2
    have e3 : sm = st_Gs T w (-1) a t := e2
    have gv := (hvt q).2 (by omega)
    clear hvt hwy hin hxi hxn h0 h1 e2
    have kk := fun σ => kk σ p7 p8 p9 p10 p11 p12
    rw [← e, ← e3] at kk
    rw [← e3]
    have g := st_gin hsp t (by omega)
    rw [← e3] at g
    clear hsp e3 c hn hn2
    rw [bk_109_15]
    repeat' (first | (simp (disch := first | assumption | exact Nat.le_of_ble_eq_true rfl | omega) only [bk_109_0, eo_6, eo_3_3n, eo_3_3i, eo_3_3r, eo_53, eo_0_3, eo_1_0, v10_2, ev_ki, ev_kv, eo_0_1, eo_0_2, v10_4, eo_3_4n, eo_3_4i, eo_3_4r, eo_0_4, eo_52, bk_109_2, bk_109_3, bk_109_4, bk_109_5, bk_109_6, eo_56z, bk_109_7, eo_3_5n, eo_3_5i, eo_3_5r, eo_0_5, eo_60_3, v10_3, bk_109_9, bk_109_10, bk_109_11, eo_3_6n, eo_3_6i, eo_3_6r, eo_0_6, eo_3_7n, eo_3_7i, eo_3_7r, eo_0_7, eo_10, bk_109_12, bk_109_13, eo_23_5n, eo_23_5i, eo_23_5r, bk_109_14, v10_5, bk_109_16, bk_109_17, bk_109_18, eo_3_8n, eo_3_8i, eo_3_8r, eo_3_9n, eo_3_9i, eo_3_9r, eo_3_10n, eo_3_10i, eo_3_10r, eo_0_10, bk_109_20, bk_109_21, bk_109_22, eo_3_11n, eo_3_11i, eo_3_11r, eo_0_11, bk_109_23, bk_109_24, eo_3_12n, eo_3_12i, eo_3_12r, eo_0_12, eo_0_9, bk_109_25, bk_109_26, bk_109_27, eo_23_10n, eo_23_10i, eo_23_10r, bk_109_28, eo_11, eo_0_8, bk_109_29, bk_109_30, bk_109_32, bk_109_33, bk_109_34, eo_23_3n, eo_23_3i, eo_23_3r, bk_109_35, gv, vb_0, vb_1, vb_2, vb_3, vb_4, vb_6, vb_7, vc_0, vc_1, vc_2, vc_3, vc_4, vc_5, vn_0, vn_1, vn_2, vn_3, vn_4, vn_5, vn_6, vn_7, vn_9, vn_10, vr_0, ev_lc_s, el_3, el_4, el_6, Int.add_zero, Int.add_sub_cancel, Int.reduceAdd, Int.reduceMul, Int.reduceSub, Int.reduceNeg, ev_wr_id]) | ((first | with_reducible refine wb_40 ?_ ?_ | with_reducible refine wb_41 ?_ ?_ | with_reducible refine wb_42 ?_ ?_ | with_reducible refine wb_43 ?_ ?_ | with_reducible refine wb_44 ?_ ?_ | with_reducible refine wb_45 ?_ ?_ | with_reducible refine wb_46 ?_ ?_ | with_reducible refine wb_47 ?_ ?_ | with_reducible refine wb_48 ?_ ?_ | with_reducible refine wb_49 ?_ ?_ | with_reducible refine wb_50 ?_ ?_ | with_reducible refine wb_51 ?_ ?_) <;> intro h <;> try simp (disch := first | assumption | exact Nat.le_of_ble_eq_true rfl | omega) only [ev_wr_id, not_true_eq_false, not_false_eq_true, Int.reduceEq, Int.reduceLT, Int.reduceLE, and_self, and_true, true_and, and_false, false_and, reduceIte] at h <;> try (exfalso; omega; done)) | refine wk (q_75 (by assumption) (by omega)) (fun σ hA => ?_) | refine wk (q_76 (by assumption) (by omega) (by omega)) (fun σ hA => ?_) | refine wk (q_85 (by assumption) (by omega) (by omega)) (fun σ hA => ?_) | refine wk (q_86 (by assumption) (by omega) (by omega) (by omega)) (fun σ hA => ?_) | refine wk (h_108 (by assumption) (by omega) (by omega)) (fun σ hA => ?_))
    all_goals exact kk _ (by assumption)
  | succ m ih =>
    intro q sm p7 p8 p9 p10 p11 p12 σ q0 q1 h0 h1 hA
    have hqn : q ≤ n := by omega
    have gv := (hvt q).1 hqn
    have gh := hin (n - q.toNat) (by omega)
    have gw := hwy (n - q.toNat) (by omega)
    have gx := hxi (n - q.toNat) (by omega)
    have gG := st_gin hsp _ gx.1
    have ih := fun p7 p8 p9 p10 p11 p12 σ hA => ih (q + 1) (st_Gs T w (-1) a (st_it T w (st_Gs T w (-1) a) t (n - q.toNat))) p7 p8 p9 p10 p11 p12 σ (by omega) (by omega) (by omega) (fun _ => by rw [show n + 1 - (q + 1).toNat = n - q.toNat by omega]) hA
    by_cases c0 : q = 0
    · have e1 := h0 c0
      rw [c0, show n - (0 : Int).toNat = n by omega, hxn] at gv gw ih gG
      have ea := hsp.1
      rw [ea] at gw ih
      subst c0
      subst e1
      clear hvt hwy hin hxi hxn h0 h1 gx gh gG
      have gt9 := st_gin hsp t (by omega)
      obtain ⟨wt, hwt⟩ : ∃ x, x = st_Gs T w (-1) a t := ⟨_, rfl⟩
      rw [← hwt] at ih gt9 ⊢
      clear hwt c hsp ea kk
      rw [bk_109_15]
      repeat' (first | (simp (disch := first | assumption | exact Nat.le_of_ble_eq_true rfl | omega) only [bk_109_0, eo_6, eo_3_3n, eo_3_3i, eo_3_3r, eo_53, eo_0_3, eo_1_0, v10_2, ev_ki, ev_kv, eo_0_1, eo_0_2, v10_4, eo_3_4n, eo_3_4i, eo_3_4r, eo_0_4, eo_52, bk_109_2, bk_109_3, bk_109_4, bk_109_5, bk_109_6, eo_56z, bk_109_7, eo_3_5n, eo_3_5i, eo_3_5r, eo_0_5, eo_60_3, v10_3, bk_109_9, bk_109_10, bk_109_11, eo_3_6n, eo_3_6i, eo_3_6r, eo_0_6, eo_3_7n, eo_3_7i, eo_3_7r, eo_0_7, eo_10, bk_109_12, bk_109_13, eo_23_5n, eo_23_5i, eo_23_5r, bk_109_14, v10_5, bk_109_16, bk_109_17, bk_109_18, eo_3_8n, eo_3_8i, eo_3_8r, eo_3_9n, eo_3_9i, eo_3_9r, eo_3_10n, eo_3_10i, eo_3_10r, eo_0_10, bk_109_20, bk_109_21, bk_109_22, eo_3_11n, eo_3_11i, eo_3_11r, eo_0_11, bk_109_23, bk_109_24, eo_3_12n, eo_3_12i, eo_3_12r, eo_0_12, eo_0_9, bk_109_25, bk_109_26, bk_109_27, eo_23_10n, eo_23_10i, eo_23_10r, bk_109_28, eo_11, eo_0_8, bk_109_29, bk_109_30, bk_109_31, bk_109_32, bk_109_33, bk_109_34, eo_23_3n, eo_23_3i, eo_23_3r, bk_109_35, gv, gw, vb_0, vb_1, vb_2, vb_3, vb_4, vb_6, vb_7, vc_0, vc_1, vc_2, vc_3, vc_4, vc_5, vn_0, vn_1, vn_2, vn_3, vn_4, vn_5, vn_6, vn_7, vn_9, vn_10, vr_0, ev_lc_s, el_3, el_4, el_6, Int.add_zero, Int.add_sub_cancel, Int.reduceAdd, Int.reduceMul, Int.reduceSub, Int.reduceNeg, ev_wr_id]) | ((first | with_reducible refine wb_40 ?_ ?_ | with_reducible refine wb_41 ?_ ?_ | with_reducible refine wb_42 ?_ ?_ | with_reducible refine wb_43 ?_ ?_ | with_reducible refine wb_44 ?_ ?_ | with_reducible refine wb_45 ?_ ?_ | with_reducible refine wb_46 ?_ ?_ | with_reducible refine wb_47 ?_ ?_ | with_reducible refine wb_48 ?_ ?_ | with_reducible refine wb_49 ?_ ?_ | with_reducible refine wb_50 ?_ ?_ | with_reducible refine wb_51 ?_ ?_) <;> intro h <;> try simp (disch := first | assumption | exact Nat.le_of_ble_eq_true rfl | omega) only [ev_wr_id, not_true_eq_false, not_false_eq_true, Int.reduceEq, Int.reduceLT, Int.reduceLE, and_self, and_true, true_and, and_false, false_and, reduceIte] at h <;> try (exfalso; omega; done)) | refine wk (q_75 (by assumption) (by omega)) (fun σ hA => ?_) | refine wk (q_76 (by assumption) (by omega) (by omega)) (fun σ hA => ?_) | refine wk (q_85 (by assumption) (by omega) (by omega)) (fun σ hA => ?_) | refine wk (q_86 (by assumption) (by omega) (by omega) (by omega)) (fun σ hA => ?_) | refine wk (h_108 (by assumption) (by omega) (by omega)) (fun σ hA => ?_))
      all_goals exact ih _ _ _ _ _ _ _ (by assumption)
    · have hq9 : 0 < q := by omega
      have e1 := h1 hq9
      rw [show n + 1 - q.toNat = (n - q.toNat) + 1 by omega] at e1
      have gv2 := (hvt (q - 1)).1 (by omega)
      rw [show n - (q - 1).toNat = (n - q.toNat) + 1 by omega] at gv2
      have gh2 := hin ((n - q.toNat) + 1) (by omega)
      have gw2 := hwy ((n - q.toNat) + 1) (by omega)
      have hne := gx.2.2 (by omega)
      have hnx : st_it T w (st_Gs T w (-1) a) t ((n - q.toNat) + 1) = st_nx T w (st_Gs T w (-1) a) (st_it T w (st_Gs T w (-1) a) t (n - q.toNat)) := rfl
      have hdec := (st_nx_in hI hsp gx.1 hne gx.2.1).2
      rw [← hnx] at hdec
      obtain ⟨h, hh⟩ : ∃ h, h = st_it T w (st_Gs T w (-1) a) t (n - q.toNat) := ⟨_, rfl⟩
      obtain ⟨h', hh'⟩ : ∃ h, h = st_it T w (st_Gs T w (-1) a) t ((n - q.toNat) + 1) := ⟨_, rfl⟩
      rw [← hh] at gv gh gw gx gG ih hnx hdec
      rw [← hh'] at e1 gv2 gh2 gw2 hnx hdec
      obtain ⟨sn, hsn⟩ : ∃ s, s = st_Gs T w (-1) a h := ⟨_, rfl⟩
      have hsn2 := hsn.symm
      rw [hsn2] at gw gG ih hdec gx
      rw [← e1] at gw2 hdec
      have gG2 := st_gin hsp h' (by omega)
      rw [← e1] at gG2
      have gt9 := st_gin hsp t (by omega)
      have k19 := l_109k (P := P) (hs := hs) (a := a) (w := w) (t := t) (wt := st_Gs T w (-1) a t) (q := q) (x := h) (sm := sn) (bf := sm) (F := h') hI ha hw gh hsn2 (by omega) (fun σ p11 p12 hA => by
        obtain ⟨wt, hwt⟩ : ∃ x, x = st_Gs T w (-1) a t := ⟨_, rfl⟩
        rw [← hwt] at ih gt9 ⊢
        clear hvt hwy hin hxi hxn h0 h1 hwt c hsp kk hn hn2 hsn hsn2 hh hh' e1 hnx
        rw [bk_109_28]
        repeat' (first | (simp (disch := first | assumption | exact Nat.le_of_ble_eq_true rfl | omega) only [bk_109_0, eo_6, eo_3_3n, eo_3_3i, eo_3_3r, eo_53, eo_0_3, eo_1_0, v10_2, ev_ki, ev_kv, eo_0_1, eo_0_2, v10_4, eo_3_4n, eo_3_4i, eo_3_4r, eo_0_4, eo_52, bk_109_2, bk_109_3, bk_109_4, bk_109_5, bk_109_6, eo_56z, bk_109_7, eo_3_5n, eo_3_5i, eo_3_5r, eo_0_5, eo_60_3, v10_3, bk_109_9, bk_109_10, bk_109_11, eo_3_6n, eo_3_6i, eo_3_6r, eo_0_6, eo_3_7n, eo_3_7i, eo_3_7r, eo_0_7, eo_10, bk_109_12, bk_109_13, eo_23_5n, eo_23_5i, eo_23_5r, bk_109_14, v10_5, bk_109_16, bk_109_17, bk_109_18, eo_3_8n, eo_3_8i, eo_3_8r, eo_3_9n, eo_3_9i, eo_3_9r, eo_3_10n, eo_3_10i, eo_3_10r, eo_0_10, bk_109_20, bk_109_21, bk_109_22, eo_3_11n, eo_3_11i, eo_3_11r, eo_0_11, bk_109_23, bk_109_24, eo_3_12n, eo_3_12i, eo_3_12r, eo_0_12, eo_0_9, bk_109_25, bk_109_26, bk_109_27, eo_23_10n, eo_23_10i, eo_23_10r, bk_109_28, eo_11, eo_0_8, bk_109_29, bk_109_30, bk_109_31, bk_109_32, bk_109_33, bk_109_34, eo_23_3n, eo_23_3i, eo_23_3r, bk_109_35, gv2, gw2, vb_0, vb_1, vb_2, vb_3, vb_4, vb_6, vb_7, vc_0, vc_1, vc_2, vc_3, vc_4, vc_5, vn_0, vn_1, vn_2, vn_3, vn_4, vn_5, vn_6, vn_7, vn_9, vn_10, vr_0, ev_lc_s, el_3, el_4, el_6, Int.add_zero, Int.add_sub_cancel, Int.reduceAdd, Int.reduceMul, Int.reduceSub, Int.reduceNeg, ev_wr_id]) | ((first | with_reducible refine wb_40 ?_ ?_ | with_reducible refine wb_41 ?_ ?_ | with_reducible refine wb_42 ?_ ?_ | with_reducible refine wb_43 ?_ ?_ | with_reducible refine wb_44 ?_ ?_ | with_reducible refine wb_45 ?_ ?_ | with_reducible refine wb_46 ?_ ?_ | with_reducible refine wb_47 ?_ ?_ | with_reducible refine wb_48 ?_ ?_ | with_reducible refine wb_49 ?_ ?_ | with_reducible refine wb_50 ?_ ?_ | with_reducible refine wb_51 ?_ ?_) <;> intro h <;> try simp (disch := first | assumption | exact Nat.le_of_ble_eq_true rfl | omega) only [ev_wr_id, not_true_eq_false, not_false_eq_true, Int.reduceEq, Int.reduceLT, Int.reduceLE, and_self, and_true, true_and, and_false, false_and, reduceIte] at h <;> try (exfalso; omega; done)) | refine wk (q_75 (by assumption) (by omega)) (fun σ hA => ?_) | refine wk (q_76 (by assumption) (by omega) (by omega)) (fun σ hA => ?_) | refine wk (q_85 (by assumption) (by omega) (by omega)) (fun σ hA => ?_) | refine wk (q_86 (by assumption) (by omega) (by omega) (by omega)) (fun σ hA => ?_) | refine wk (h_108 (by assumption) (by omega) (by omega)) (fun σ hA => ?_))
        all_goals exact ih _ _ _ _ _ _ _ (by assumption)) (T 1).toNat 0 (-1)
      have i1 := hI.1.2.1
      have k19 := fun p11 p12 σ hA => k19 p11 p12 σ (by omega) (by omega) (by omega) hnx.symm hA
      obtain ⟨wt, hwt⟩ : ∃ x, x = st_Gs T w (-1) a t := ⟨_, rfl⟩
      rw [← hwt] at ih gt9 k19 ⊢
      clear hvt hwy hin hxi hxn h0 h1 hwt c hsp kk hn hn2 hsn hsn2 hh hh' e1 hnx
      rw [bk_109_15]
      repeat' (first | (simp (disch := first | assumption | exact Nat.le_of_ble_eq_true rfl | omega) only [bk_109_0, eo_6, eo_3_3n, eo_3_3i, eo_3_3r, eo_53, eo_0_3, eo_1_0, v10_2, ev_ki, ev_kv, eo_0_1, eo_0_2, v10_4, eo_3_4n, eo_3_4i, eo_3_4r, eo_0_4, eo_52, bk_109_2, bk_109_3, bk_109_4, bk_109_5, bk_109_6, eo_56z, bk_109_7, eo_3_5n, eo_3_5i, eo_3_5r, eo_0_5, eo_60_3, v10_3, bk_109_9, bk_109_10, bk_109_11, eo_3_6n, eo_3_6i, eo_3_6r, eo_0_6, eo_3_7n, eo_3_7i, eo_3_7r, eo_0_7, eo_10, bk_109_12, bk_109_13, eo_23_5n, eo_23_5i, eo_23_5r, bk_109_14, v10_5, bk_109_16, bk_109_17, bk_109_18, eo_3_8n, eo_3_8i, eo_3_8r, eo_3_9n, eo_3_9i, eo_3_9r, eo_3_10n, eo_3_10i, eo_3_10r, eo_0_10, bk_109_20, bk_109_21, bk_109_22, eo_3_11n, eo_3_11i, eo_3_11r, eo_0_11, bk_109_23, bk_109_24, eo_3_12n, eo_3_12i, eo_3_12r, eo_0_12, eo_0_9, bk_109_25, bk_109_26, bk_109_27, eo_23_10n, eo_23_10i, eo_23_10r, bk_109_28, eo_11, eo_0_8, bk_109_29, bk_109_30, bk_109_31, bk_109_32, bk_109_33, bk_109_34, eo_23_3n, eo_23_3i, eo_23_3r, bk_109_35, gv, gw, vb_0, vb_1, vb_2, vb_3, vb_4, vb_6, vb_7, vc_0, vc_1, vc_2, vc_3, vc_4, vc_5, vn_0, vn_1, vn_2, vn_3, vn_4, vn_5, vn_6, vn_7, vn_9, vn_10, vr_0, ev_lc_s, el_3, el_4, el_6, Int.add_zero, Int.add_sub_cancel, Int.reduceAdd, Int.reduceMul, Int.reduceSub, Int.reduceNeg, ev_wr_id]) | ((first | with_reducible refine wb_40 ?_ ?_ | with_reducible refine wb_41 ?_ ?_ | with_reducible refine wb_42 ?_ ?_ | with_reducible refine wb_43 ?_ ?_ | with_reducible refine wb_44 ?_ ?_ | with_reducible refine wb_45 ?_ ?_ | with_reducible refine wb_46 ?_ ?_ | with_reducible refine wb_47 ?_ ?_ | with_reducible refine wb_48 ?_ ?_ | with_reducible refine wb_49 ?_ ?_ | with_reducible refine wb_50 ?_ ?_ | with_reducible refine wb_51 ?_ ?_) <;> intro h <;> try simp (disch := first | assumption | exact Nat.le_of_ble_eq_true rfl | omega) only [ev_wr_id, not_true_eq_false, not_false_eq_true, Int.reduceEq, Int.reduceLT, Int.reduceLE, and_self, and_true, true_and, and_false, false_and, reduceIte] at h <;> try (exfalso; omega; done)) | refine wk (q_75 (by assumption) (by omega)) (fun σ hA => ?_) | refine wk (q_76 (by assumption) (by omega) (by omega)) (fun σ hA => ?_) | refine wk (q_85 (by assumption) (by omega) (by omega)) (fun σ hA => ?_) | refine wk (q_86 (by assumption) (by omega) (by omega) (by omega)) (fun σ hA => ?_) | refine wk (h_108 (by assumption) (by omega) (by omega)) (fun σ hA => ?_))
      all_goals exact k19 _ _ _ (by assumption)
theorem l_109 {a w : Int} (hI : st_I T) (ha : 0 ≤ a ∧ a < T 0) (hw : 1 ≤ w ∧ w ≤ 60) : ∀ (m : Nat) (t : Int) (p4 p5 p6 p7 p8 p9 p10 p11 p12 : Option ev_V) (σ : ev_M), 0 ≤ t → t + m = T 0 → ab_A σ T hs → Wp (ab_P 1 T hs) (EB 109 1 [some (.inr (.inl 161)), some (.inl a), some (.inl w), some (.inl t), p4, p5, p6, p7, p8, p9, p10, p11, p12] [] σ) := by
  have i0 := hI.1.1
  have i1 := hI.1.2.1
  intro m
  induction m with
  | zero =>
    intro t p4 p5 p6 p7 p8 p9 p10 p11 p12 σ t0 t1 hA
    have e : t = T 0 := by omega
    rw [e, bk_109_1]
    repeat' (first | (simp (disch := first | assumption | exact Nat.le_of_ble_eq_true rfl | omega) only [bk_109_0, eo_6, eo_3_3n, eo_3_3i, eo_3_3r, eo_53, eo_0_3, eo_1_0, v10_2, ev_ki, ev_kv, eo_0_1, eo_0_2, v10_4, eo_3_4n, eo_3_4i, eo_3_4r, eo_0_4, eo_52, bk_109_2, bk_109_3, bk_109_4, bk_109_5, bk_109_6, eo_56z, eo_3_5n, eo_3_5i, eo_3_5r, eo_0_5, eo_60_3, v10_3, bk_109_9, bk_109_10, bk_109_11, eo_3_6n, eo_3_6i, eo_3_6r, eo_0_6, eo_3_7n, eo_3_7i, eo_3_7r, eo_0_7, eo_10, bk_109_12, bk_109_13, eo_23_5n, eo_23_5i, eo_23_5r, bk_109_14, v10_5, bk_109_16, bk_109_17, bk_109_18, eo_3_8n, eo_3_8i, eo_3_8r, eo_3_9n, eo_3_9i, eo_3_9r, eo_3_10n, eo_3_10i, eo_3_10r, eo_0_10, bk_109_20, bk_109_21, bk_109_22, eo_3_11n, eo_3_11i, eo_3_11r, eo_0_11, bk_109_23, bk_109_24, eo_3_12n, eo_3_12i, eo_3_12r, eo_0_12, eo_0_9, bk_109_25, bk_109_26, bk_109_27, eo_23_10n, eo_23_10i, eo_23_10r, bk_109_28, eo_11, eo_0_8, bk_109_29, bk_109_30, bk_109_31, bk_109_32, bk_109_33, bk_109_34, eo_23_3n, eo_23_3i, eo_23_3r, bk_109_35, vb_0, vb_1, vb_2, vb_3, vb_4, vb_6, vb_7, vc_0, vc_1, vc_2, vc_3, vc_4, vc_5, vn_0, vn_1, vn_2, vn_3, vn_4, vn_5, vn_6, vn_7, vn_9, vn_10, vr_0, ev_lc_s, el_3, el_4, el_6, Int.add_zero, Int.add_sub_cancel, Int.reduceAdd, Int.reduceMul, Int.reduceSub, Int.reduceNeg, ev_wr_id]) | ((first | with_reducible refine wb_40 ?_ ?_ | with_reducible refine wb_41 ?_ ?_ | with_reducible refine wb_42 ?_ ?_ | with_reducible refine wb_43 ?_ ?_ | with_reducible refine wb_44 ?_ ?_ | with_reducible refine wb_45 ?_ ?_ | with_reducible refine wb_46 ?_ ?_ | with_reducible refine wb_47 ?_ ?_ | with_reducible refine wb_48 ?_ ?_ | with_reducible refine wb_49 ?_ ?_ | with_reducible refine wb_50 ?_ ?_ | with_reducible refine wb_51 ?_ ?_) <;> intro h <;> try simp (disch := first | assumption | exact Nat.le_of_ble_eq_true rfl | omega) only [ev_wr_id, not_true_eq_false, not_false_eq_true, Int.reduceEq, Int.reduceLT, Int.reduceLE, and_self, and_true, true_and, and_false, false_and, reduceIte] at h <;> try (exfalso; omega; done)) | refine wk (q_75 (by assumption) (by omega)) (fun σ hA => ?_) | refine wk (q_76 (by assumption) (by omega) (by omega)) (fun σ hA => ?_) | refine wk (q_85 (by assumption) (by omega) (by omega)) (fun σ hA => ?_) | refine wk (q_86 (by assumption) (by omega) (by omega) (by omega)) (fun σ hA => ?_) | refine wk (h_108 (by assumption) (by omega) (by omega)) (fun σ hA => ?_))
    all_goals exact ab_Pr (by assumption)
  | succ m ih =>
    intro t p4 p5 p6 p7 p8 p9 p10 p11 p12 σ t0 t1 hA
    have ht : 0 ≤ t ∧ t < T 0 := by omega
    have gs := st_wy_s hI ha ht hw
    have gi := st_wy_in hI ha ht hw
    have ih := fun p4 p5 p6 p7 p8 p9 p10 p11 p12 σ hA => ih (t + 1) p4 p5 p6 p7 p8 p9 p10 p11 p12 σ (by omega) (by omega) hA
    have k14 : ∀ (σ : ev_M) (p6 p7 p8 p9 p10 p11 p12 : Option ev_V), ab_A σ T hs → Wp (ab_P 1 T hs) (EB 109 14 [some (.inr (.inl 161)), some (.inl a), some (.inl w), some (.inl t), some (.inl (st_wy T a t w)), some (.inl (T 1)), p6, p7, p8, p9, p10, p11, p12] [] σ) := by
      intro σ p6 p7 p8 p9 p10 p11 p12 hA
      by_cases c : st_Gs T w (-1) a t < 1000000
      · have e : st_wy T a t w = st_Gs T w (-1) a t := if_pos c
        have hnb := st_pn_b hI ha ht hw c
        have hvt := (st_vt_y (q := (st_pn T a t w : Int)) (T := T) (a := a) (t := t) (w := w) rfl rfl c).1 (by omega)
        rw [show st_pn T a t w - ((st_pn T a t w : Int)).toNat = 0 by omega] at hvt
        have hvt : st_vt T a t w (st_pn T a t w : Int) = t := hvt
        have k15 := l_109w (P := ab_P 1 T hs) (hs := hs) hI ha ht hw c (fun σ p7 p8 p9 p10 p11 p12 hA => by
          rw [e] at gi
          have gp := (st_gin (st_Gs_sp (w := w) (o := -1) hI ha (by omega) (by omega)) t (by omega)).1
          obtain ⟨wt, hwt⟩ : ∃ x, x = st_Gs T w (-1) a t := ⟨_, rfl⟩
          obtain ⟨n, hn⟩ : ∃ x, x = (st_pn T a t w : Int) := ⟨_, rfl⟩
          have hn0 : 0 ≤ n := by omega
          rw [← hwt] at gi gp ⊢
          rw [← hn] at hnb hvt ⊢
          clear hwt hn c e gs
          rw [bk_109_31]
          repeat' (first | (simp (disch := first | assumption | exact Nat.le_of_ble_eq_true rfl | omega) only [bk_109_0, eo_6, eo_3_3n, eo_3_3i, eo_3_3r, eo_53, eo_0_3, eo_1_0, v10_2, ev_ki, ev_kv, eo_0_1, eo_0_2, v10_4, eo_3_4n, eo_3_4i, eo_3_4r, eo_0_4, eo_52, bk_109_2, bk_109_3, bk_109_4, bk_109_5, bk_109_6, eo_56z, bk_109_7, eo_3_5n, eo_3_5i, eo_3_5r, eo_0_5, eo_60_3, v10_3, bk_109_9, bk_109_10, bk_109_11, eo_3_6n, eo_3_6i, eo_3_6r, eo_0_6, eo_3_7n, eo_3_7i, eo_3_7r, eo_0_7, eo_10, bk_109_12, bk_109_13, eo_23_5n, eo_23_5i, eo_23_5r, bk_109_14, v10_5, bk_109_16, bk_109_17, bk_109_18, eo_3_8n, eo_3_8i, eo_3_8r, eo_3_9n, eo_3_9i, eo_3_9r, eo_3_10n, eo_3_10i, eo_3_10r, eo_0_10, bk_109_20, bk_109_21, bk_109_22, eo_3_11n, eo_3_11i, eo_3_11r, eo_0_11, bk_109_23, bk_109_24, eo_3_12n, eo_3_12i, eo_3_12r, eo_0_12, eo_0_9, bk_109_25, bk_109_26, bk_109_27, eo_23_10n, eo_23_10i, eo_23_10r, bk_109_28, eo_11, eo_0_8, bk_109_29, bk_109_30, bk_109_31, bk_109_32, bk_109_33, bk_109_34, eo_23_3n, eo_23_3i, eo_23_3r, bk_109_35, hvt, vb_0, vb_1, vb_2, vb_3, vb_4, vb_6, vb_7, vc_0, vc_1, vc_2, vc_3, vc_4, vc_5, vn_0, vn_1, vn_2, vn_3, vn_4, vn_5, vn_6, vn_7, vn_9, vn_10, vr_0, ev_lc_s, el_3, el_4, el_6, Int.add_zero, Int.add_sub_cancel, Int.reduceAdd, Int.reduceMul, Int.reduceSub, Int.reduceNeg, ev_wr_id]) | ((first | with_reducible refine wb_40 ?_ ?_ | with_reducible refine wb_41 ?_ ?_ | with_reducible refine wb_42 ?_ ?_ | with_reducible refine wb_43 ?_ ?_ | with_reducible refine wb_44 ?_ ?_ | with_reducible refine wb_45 ?_ ?_ | with_reducible refine wb_46 ?_ ?_ | with_reducible refine wb_47 ?_ ?_ | with_reducible refine wb_48 ?_ ?_ | with_reducible refine wb_49 ?_ ?_ | with_reducible refine wb_50 ?_ ?_ | with_reducible refine wb_51 ?_ ?_) <;> intro h <;> try simp (disch := first | assumption | exact Nat.le_of_ble_eq_true rfl | omega) only [ev_wr_id, not_true_eq_false, not_false_eq_true, Int.reduceEq, Int.reduceLT, Int.reduceLE, and_self, and_true, true_and, and_false, false_and, reduceIte] at h <;> try (exfalso; omega; done)) | refine wk (q_75 (by assumption) (by omega)) (fun σ hA => ?_) | refine wk (q_76 (by assumption) (by omega) (by omega)) (fun σ hA => ?_) | refine wk (q_85 (by assumption) (by omega) (by omega)) (fun σ hA => ?_) | refine wk (q_86 (by assumption) (by omega) (by omega) (by omega)) (fun σ hA => ?_) | refine wk (h_108 (by assumption) (by omega) (by omega)) (fun σ hA => ?_))
          all_goals exact ih _ _ _ _ _ _ _ _ _ _ (by assumption)) (st_pn T a t w + 1) 0 0
        have k15 := fun p7 p8 p9 p10 p11 p12 σ hA => k15 p7 p8 p9 p10 p11 p12 σ (by omega) (by omega) (fun _ => rfl) (by omega) hA
        rw [← e] at k15
        clear hvt hnb e c ih gs
        rw [bk_109_14]
        repeat' (first | (simp (disch := first | assumption | exact Nat.le_of_ble_eq_true rfl | omega) only [bk_109_0, eo_6, eo_3_3n, eo_3_3i, eo_3_3r, eo_53, eo_0_3, eo_1_0, v10_2, ev_ki, ev_kv, eo_0_1, eo_0_2, v10_4, eo_3_4n, eo_3_4i, eo_3_4r, eo_0_4, eo_52, bk_109_2, bk_109_3, bk_109_4, bk_109_5, bk_109_6, eo_56z, bk_109_7, eo_3_5n, eo_3_5i, eo_3_5r, eo_0_5, eo_60_3, v10_3, bk_109_9, bk_109_10, bk_109_11, eo_3_6n, eo_3_6i, eo_3_6r, eo_0_6, eo_3_7n, eo_3_7i, eo_3_7r, eo_0_7, eo_10, bk_109_12, bk_109_13, eo_23_5n, eo_23_5i, eo_23_5r, bk_109_14, v10_5, bk_109_16, bk_109_17, bk_109_18, eo_3_8n, eo_3_8i, eo_3_8r, eo_3_9n, eo_3_9i, eo_3_9r, eo_3_10n, eo_3_10i, eo_3_10r, eo_0_10, bk_109_20, bk_109_21, bk_109_22, eo_3_11n, eo_3_11i, eo_3_11r, eo_0_11, bk_109_23, bk_109_24, eo_3_12n, eo_3_12i, eo_3_12r, eo_0_12, eo_0_9, bk_109_25, bk_109_26, bk_109_27, eo_23_10n, eo_23_10i, eo_23_10r, bk_109_28, eo_11, eo_0_8, bk_109_29, bk_109_30, bk_109_31, bk_109_32, bk_109_33, bk_109_34, eo_23_3n, eo_23_3i, eo_23_3r, bk_109_35, vb_0, vb_1, vb_2, vb_3, vb_4, vb_6, vb_7, vc_0, vc_1, vc_2, vc_3, vc_4, vc_5, vn_0, vn_1, vn_2, vn_3, vn_4, vn_5, vn_6, vn_7, vn_9, vn_10, vr_0, ev_lc_s, el_3, el_4, el_6, Int.add_zero, Int.add_sub_cancel, Int.reduceAdd, Int.reduceMul, Int.reduceSub, Int.reduceNeg, ev_wr_id]) | ((first | with_reducible refine wb_40 ?_ ?_ | with_reducible refine wb_41 ?_ ?_ | with_reducible refine wb_42 ?_ ?_ | with_reducible refine wb_43 ?_ ?_ | with_reducible refine wb_44 ?_ ?_ | with_reducible refine wb_45 ?_ ?_ | with_reducible refine wb_46 ?_ ?_ | with_reducible refine wb_47 ?_ ?_ | with_reducible refine wb_48 ?_ ?_ | with_reducible refine wb_49 ?_ ?_ | with_reducible refine wb_50 ?_ ?_ | with_reducible refine wb_51 ?_ ?_) <;> intro h <;> try simp (disch := first | assumption | exact Nat.le_of_ble_eq_true rfl | omega) only [ev_wr_id, not_true_eq_false, not_false_eq_true, Int.reduceEq, Int.reduceLT, Int.reduceLE, and_self, and_true, true_and, and_false, false_and, reduceIte] at h <;> try (exfalso; omega; done)) | refine wk (q_75 (by assumption) (by omega)) (fun σ hA => ?_) | refine wk (q_76 (by assumption) (by omega) (by omega)) (fun σ hA => ?_) | refine wk (q_85 (by assumption) (by omega) (by omega)) (fun σ hA => ?_) | refine wk (q_86 (by assumption) (by omega) (by omega) (by omega)) (fun σ hA => ?_) | refine wk (h_108 (by assumption) (by omega) (by omega)) (fun σ hA => ?_))
        all_goals exact k15 _ _ _ _ _ _ _ (by assumption)
      · have e : st_wy T a t w = -1 := if_neg c
        have gv : st_vt T a t w 0 = -1 := if_neg c
        rw [e]
        clear e c gs gi
        rw [bk_109_14]
        repeat' (first | (simp (disch := first | assumption | exact Nat.le_of_ble_eq_true rfl | omega) only [bk_109_0, eo_6, eo_3_3n, eo_3_3i, eo_3_3r, eo_53, eo_0_3, eo_1_0, v10_2, ev_ki, ev_kv, eo_0_1, eo_0_2, v10_4, eo_3_4n, eo_3_4i, eo_3_4r, eo_0_4, eo_52, bk_109_2, bk_109_3, bk_109_4, bk_109_5, bk_109_6, eo_56z, bk_109_7, eo_3_5n, eo_3_5i, eo_3_5r, eo_0_5, eo_60_3, v10_3, bk_109_9, bk_109_10, bk_109_11, eo_3_6n, eo_3_6i, eo_3_6r, eo_0_6, eo_3_7n, eo_3_7i, eo_3_7r, eo_0_7, eo_10, bk_109_12, bk_109_13, eo_23_5n, eo_23_5i, eo_23_5r, bk_109_14, v10_5, bk_109_16, bk_109_17, bk_109_18, eo_3_8n, eo_3_8i, eo_3_8r, eo_3_9n, eo_3_9i, eo_3_9r, eo_3_10n, eo_3_10i, eo_3_10r, eo_0_10, bk_109_20, bk_109_21, bk_109_22, eo_3_11n, eo_3_11i, eo_3_11r, eo_0_11, bk_109_23, bk_109_24, eo_3_12n, eo_3_12i, eo_3_12r, eo_0_12, eo_0_9, bk_109_25, bk_109_26, bk_109_27, eo_23_10n, eo_23_10i, eo_23_10r, bk_109_28, eo_11, eo_0_8, bk_109_29, bk_109_30, bk_109_31, bk_109_32, bk_109_33, bk_109_34, eo_23_3n, eo_23_3i, eo_23_3r, bk_109_35, vb_0, vb_1, vb_2, vb_3, vb_4, vb_6, vb_7, vc_0, vc_1, vc_2, vc_3, vc_4, vc_5, vn_0, vn_1, vn_2, vn_3, vn_4, vn_5, vn_6, vn_7, vn_9, vn_10, vr_0, ev_lc_s, el_3, el_4, el_6, Int.add_zero, Int.add_sub_cancel, Int.reduceAdd, Int.reduceMul, Int.reduceSub, Int.reduceNeg, ev_wr_id]) | ((first | with_reducible refine wb_40 ?_ ?_ | with_reducible refine wb_41 ?_ ?_ | with_reducible refine wb_42 ?_ ?_ | with_reducible refine wb_43 ?_ ?_ | with_reducible refine wb_44 ?_ ?_ | with_reducible refine wb_45 ?_ ?_ | with_reducible refine wb_46 ?_ ?_ | with_reducible refine wb_47 ?_ ?_ | with_reducible refine wb_48 ?_ ?_ | with_reducible refine wb_49 ?_ ?_ | with_reducible refine wb_50 ?_ ?_ | with_reducible refine wb_51 ?_ ?_) <;> intro h <;> try simp (disch := first | assumption | exact Nat.le_of_ble_eq_true rfl | omega) only [ev_wr_id, not_true_eq_false, not_false_eq_true, Int.reduceEq, Int.reduceLT, Int.reduceLE, and_self, and_true, true_and, and_false, false_and, reduceIte] at h <;> try (exfalso; omega; done)) | refine wk (q_75 (by assumption) (by omega)) (fun σ hA => ?_) | refine wk (q_76 (by assumption) (by omega) (by omega)) (fun σ hA => ?_) | refine wk (q_85 (by assumption) (by omega) (by omega)) (fun σ hA => ?_) | refine wk (q_86 (by assumption) (by omega) (by omega) (by omega)) (fun σ hA => ?_) | refine wk (h_108 (by assumption) (by omega) (by omega)) (fun σ hA => ?_))
        rw [bk_109_15]
        repeat' (first | (simp (disch := first | assumption | exact Nat.le_of_ble_eq_true rfl | omega) only [bk_109_0, eo_6, eo_3_3n, eo_3_3i, eo_3_3r, eo_53, eo_0_3, eo_1_0, v10_2, ev_ki, ev_kv, eo_0_1, eo_0_2, v10_4, eo_3_4n, eo_3_4i, eo_3_4r, eo_0_4, eo_52, bk_109_2, bk_109_3, bk_109_4, bk_109_5, bk_109_6, eo_56z, bk_109_7, eo_3_5n, eo_3_5i, eo_3_5r, eo_0_5, eo_60_3, v10_3, bk_109_9, bk_109_10, bk_109_11, eo_3_6n, eo_3_6i, eo_3_6r, eo_0_6, eo_3_7n, eo_3_7i, eo_3_7r, eo_0_7, eo_10, bk_109_12, bk_109_13, eo_23_5n, eo_23_5i, eo_23_5r, bk_109_14, v10_5, bk_109_16, bk_109_17, bk_109_18, eo_3_8n, eo_3_8i, eo_3_8r, eo_3_9n, eo_3_9i, eo_3_9r, eo_3_10n, eo_3_10i, eo_3_10r, eo_0_10, bk_109_20, bk_109_21, bk_109_22, eo_3_11n, eo_3_11i, eo_3_11r, eo_0_11, bk_109_23, bk_109_24, eo_3_12n, eo_3_12i, eo_3_12r, eo_0_12, eo_0_9, bk_109_25, bk_109_26, bk_109_27, eo_23_10n, eo_23_10i, eo_23_10r, bk_109_28, eo_11, eo_0_8, bk_109_29, bk_109_30, bk_109_31, bk_109_32, bk_109_33, bk_109_34, eo_23_3n, eo_23_3i, eo_23_3r, bk_109_35, gv, vb_0, vb_1, vb_2, vb_3, vb_4, vb_6, vb_7, vc_0, vc_1, vc_2, vc_3, vc_4, vc_5, vn_0, vn_1, vn_2, vn_3, vn_4, vn_5, vn_6, vn_7, vn_9, vn_10, vr_0, ev_lc_s, el_3, el_4, el_6, Int.add_zero, Int.add_sub_cancel, Int.reduceAdd, Int.reduceMul, Int.reduceSub, Int.reduceNeg, ev_wr_id]) | ((first | with_reducible refine wb_40 ?_ ?_ | with_reducible refine wb_41 ?_ ?_ | with_reducible refine wb_42 ?_ ?_ | with_reducible refine wb_43 ?_ ?_ | with_reducible refine wb_44 ?_ ?_ | with_reducible refine wb_45 ?_ ?_ | with_reducible refine wb_46 ?_ ?_ | with_reducible refine wb_47 ?_ ?_ | with_reducible refine wb_48 ?_ ?_ | with_reducible refine wb_49 ?_ ?_ | with_reducible refine wb_50 ?_ ?_ | with_reducible refine wb_51 ?_ ?_) <;> intro h <;> try simp (disch := first | assumption | exact Nat.le_of_ble_eq_true rfl | omega) only [ev_wr_id, not_true_eq_false, not_false_eq_true, Int.reduceEq, Int.reduceLT, Int.reduceLE, and_self, and_true, true_and, and_false, false_and, reduceIte] at h <;> try (exfalso; omega; done)) | refine wk (q_75 (by assumption) (by omega)) (fun σ hA => ?_) | refine wk (q_76 (by assumption) (by omega) (by omega)) (fun σ hA => ?_) | refine wk (q_85 (by assumption) (by omega) (by omega)) (fun σ hA => ?_) | refine wk (q_86 (by assumption) (by omega) (by omega) (by omega)) (fun σ hA => ?_) | refine wk (h_108 (by assumption) (by omega) (by omega)) (fun σ hA => ?_))
        all_goals exact ih _ _ _ _ _ _ _ _ _ _ (by assumption)
    have k8 := l_109r (P := ab_P 1 T hs) (hs := hs) hI ha ht hw (wt := st_wy T a t w) rfl k14 (T 1).toNat 0
    have k8 := fun p6 p7 p8 p9 p10 p11 p12 σ hA => k8 p6 p7 p8 p9 p10 p11 p12 σ (by omega) (by omega) hA
    clear k14 ih
    by_cases c : t = a
    · have g0 := gi.2.mp c
      rw [g0] at k8 gs
      clear gi
      rw [bk_109_1]
      repeat' (first | (simp (disch := first | assumption | exact Nat.le_of_ble_eq_true rfl | omega) only [bk_109_0, eo_6, eo_3_3n, eo_3_3i, eo_3_3r, eo_53, eo_0_3, eo_1_0, v10_2, ev_ki, ev_kv, eo_0_1, eo_0_2, v10_4, eo_3_4n, eo_3_4i, eo_3_4r, eo_0_4, eo_52, bk_109_2, bk_109_3, bk_109_4, bk_109_5, bk_109_6, eo_56z, bk_109_7, eo_3_5n, eo_3_5i, eo_3_5r, eo_0_5, eo_60_3, v10_3, bk_109_9, bk_109_10, bk_109_11, eo_3_6n, eo_3_6i, eo_3_6r, eo_0_6, eo_3_7n, eo_3_7i, eo_3_7r, eo_0_7, eo_10, bk_109_12, bk_109_13, eo_23_5n, eo_23_5i, eo_23_5r, bk_109_14, v10_5, bk_109_16, bk_109_17, bk_109_18, eo_3_8n, eo_3_8i, eo_3_8r, eo_3_9n, eo_3_9i, eo_3_9r, eo_3_10n, eo_3_10i, eo_3_10r, eo_0_10, bk_109_20, bk_109_21, bk_109_22, eo_3_11n, eo_3_11i, eo_3_11r, eo_0_11, bk_109_23, bk_109_24, eo_3_12n, eo_3_12i, eo_3_12r, eo_0_12, eo_0_9, bk_109_25, bk_109_26, bk_109_27, eo_23_10n, eo_23_10i, eo_23_10r, bk_109_28, eo_11, eo_0_8, bk_109_29, bk_109_30, bk_109_31, bk_109_32, bk_109_33, bk_109_34, eo_23_3n, eo_23_3i, eo_23_3r, bk_109_35, g0, gs, vb_0, vb_1, vb_2, vb_3, vb_4, vb_6, vb_7, vc_0, vc_1, vc_2, vc_3, vc_4, vc_5, vn_0, vn_1, vn_2, vn_3, vn_4, vn_5, vn_6, vn_7, vn_9, vn_10, vr_0, ev_lc_s, el_3, el_4, el_6, Int.add_zero, Int.add_sub_cancel, Int.reduceAdd, Int.reduceMul, Int.reduceSub, Int.reduceNeg, ev_wr_id]) | ((first | with_reducible refine wb_40 ?_ ?_ | with_reducible refine wb_41 ?_ ?_ | with_reducible refine wb_42 ?_ ?_ | with_reducible refine wb_43 ?_ ?_ | with_reducible refine wb_44 ?_ ?_ | with_reducible refine wb_45 ?_ ?_ | with_reducible refine wb_46 ?_ ?_ | with_reducible refine wb_47 ?_ ?_ | with_reducible refine wb_48 ?_ ?_ | with_reducible refine wb_49 ?_ ?_ | with_reducible refine wb_50 ?_ ?_ | with_reducible refine wb_51 ?_ ?_) <;> intro h <;> try simp (disch := first | assumption | exact Nat.le_of_ble_eq_true rfl | omega) only [ev_wr_id, not_true_eq_false, not_false_eq_true, Int.reduceEq, Int.reduceLT, Int.reduceLE, and_self, and_true, true_and, and_false, false_and, reduceIte] at h <;> try (exfalso; omega; done)) | refine wk (q_75 (by assumption) (by omega)) (fun σ hA => ?_) | refine wk (q_76 (by assumption) (by omega) (by omega)) (fun σ hA => ?_) | refine wk (q_85 (by assumption) (by omega) (by omega)) (fun σ hA => ?_) | refine wk (q_86 (by assumption) (by omega) (by omega) (by omega)) (fun σ hA => ?_) | refine wk (h_108 (by assumption) (by omega) (by omega)) (fun σ hA => ?_))
      all_goals exact k8 _ _ _ _ _ _ _ _ (by assumption)
    · have g0 : ¬ st_wy T a t w = 0 := fun h => c (gi.2.mpr h)
      have g1 := gi.1
      clear gi
      obtain ⟨wt, hwt⟩ : ∃ x, x = st_wy T a t w := ⟨_, rfl⟩
      have hwt2 := hwt.symm
      rw [hwt2] at g0 g1 gs k8
      clear hwt
      rw [bk_109_1]
      repeat' (first | (simp (disch := first | assumption | exact Nat.le_of_ble_eq_true rfl | omega) only [bk_109_0, eo_6, eo_3_3n, eo_3_3i, eo_3_3r, eo_53, eo_0_3, eo_1_0, v10_2, ev_ki, ev_kv, eo_0_1, eo_0_2, v10_4, eo_3_4n, eo_3_4i, eo_3_4r, eo_0_4, eo_52, bk_109_2, bk_109_3, bk_109_4, bk_109_5, bk_109_6, eo_56z, bk_109_7, eo_3_5n, eo_3_5i, eo_3_5r, eo_0_5, eo_60_3, v10_3, bk_109_9, bk_109_10, bk_109_11, eo_3_6n, eo_3_6i, eo_3_6r, eo_0_6, eo_3_7n, eo_3_7i, eo_3_7r, eo_0_7, eo_10, bk_109_12, bk_109_13, eo_23_5n, eo_23_5i, eo_23_5r, bk_109_14, v10_5, bk_109_16, bk_109_17, bk_109_18, eo_3_8n, eo_3_8i, eo_3_8r, eo_3_9n, eo_3_9i, eo_3_9r, eo_3_10n, eo_3_10i, eo_3_10r, eo_0_10, bk_109_20, bk_109_21, bk_109_22, eo_3_11n, eo_3_11i, eo_3_11r, eo_0_11, bk_109_23, bk_109_24, eo_3_12n, eo_3_12i, eo_3_12r, eo_0_12, eo_0_9, bk_109_25, bk_109_26, bk_109_27, eo_23_10n, eo_23_10i, eo_23_10r, bk_109_28, eo_11, eo_0_8, bk_109_29, bk_109_30, bk_109_31, bk_109_32, bk_109_33, bk_109_34, eo_23_3n, eo_23_3i, eo_23_3r, bk_109_35, gs, hwt2, vb_0, vb_1, vb_2, vb_3, vb_4, vb_6, vb_7, vc_0, vc_1, vc_2, vc_3, vc_4, vc_5, vn_0, vn_1, vn_2, vn_3, vn_4, vn_5, vn_6, vn_7, vn_9, vn_10, vr_0, ev_lc_s, el_3, el_4, el_6, Int.add_zero, Int.add_sub_cancel, Int.reduceAdd, Int.reduceMul, Int.reduceSub, Int.reduceNeg, ev_wr_id]) | ((first | with_reducible refine wb_40 ?_ ?_ | with_reducible refine wb_41 ?_ ?_ | with_reducible refine wb_42 ?_ ?_ | with_reducible refine wb_43 ?_ ?_ | with_reducible refine wb_44 ?_ ?_ | with_reducible refine wb_45 ?_ ?_ | with_reducible refine wb_46 ?_ ?_ | with_reducible refine wb_47 ?_ ?_ | with_reducible refine wb_48 ?_ ?_ | with_reducible refine wb_49 ?_ ?_ | with_reducible refine wb_50 ?_ ?_ | with_reducible refine wb_51 ?_ ?_) <;> intro h <;> try simp (disch := first | assumption | exact Nat.le_of_ble_eq_true rfl | omega) only [ev_wr_id, not_true_eq_false, not_false_eq_true, Int.reduceEq, Int.reduceLT, Int.reduceLE, and_self, and_true, true_and, and_false, false_and, reduceIte] at h <;> try (exfalso; omega; done)) | refine wk (q_75 (by assumption) (by omega)) (fun σ hA => ?_) | refine wk (q_76 (by assumption) (by omega) (by omega)) (fun σ hA => ?_) | refine wk (q_85 (by assumption) (by omega) (by omega)) (fun σ hA => ?_) | refine wk (q_86 (by assumption) (by omega) (by omega) (by omega)) (fun σ hA => ?_) | refine wk (h_108 (by assumption) (by omega) (by omega)) (fun σ hA => ?_))
      all_goals exact k8 _ _ _ _ _ _ _ _ (by assumption)
/-- THE WAYS ARE SOUND -/
theorem h_109 {σ : ev_M} {a w : Int} (hA : ab_A σ T hs) (ha : 0 ≤ a ∧ a < T 0) (hw : 1 ≤ w ∧ w ≤ 60) : ab_Q 109 [.inl a, .inl w] σ 1 T hs := by
  have key := fun p4 p5 p6 p7 p8 p9 p10 p11 p12 σ hA => l_109 (hs := hs) hA.2.1 ha hw (T 0).toNat 0 p4 p5 p6 p7 p8 p9 p10 p11 p12 σ (by omega) (by have := hA.2.1.1.1; omega) hA
  refine ab_Qw ?_
  rw [mm_109, bk_109_0]
  repeat' (first | (simp (disch := first | assumption | exact Nat.le_of_ble_eq_true rfl | omega) only [bk_109_0, eo_6, eo_3_3n, eo_3_3i, eo_3_3r, eo_53, eo_0_3, eo_1_0, v10_2, ev_ki, ev_kv, eo_0_1, eo_0_2, v10_4, eo_3_4n, eo_3_4i, eo_3_4r, eo_0_4, eo_52, bk_109_2, bk_109_3, bk_109_4, bk_109_5, bk_109_6, eo_56z, bk_109_7, eo_3_5n, eo_3_5i, eo_3_5r, eo_0_5, eo_60_3, v10_3, bk_109_9, bk_109_10, bk_109_11, eo_3_6n, eo_3_6i, eo_3_6r, eo_0_6, eo_3_7n, eo_3_7i, eo_3_7r, eo_0_7, eo_10, bk_109_12, bk_109_13, eo_23_5n, eo_23_5i, eo_23_5r, bk_109_14, v10_5, bk_109_16, bk_109_17, bk_109_18, eo_3_8n, eo_3_8i, eo_3_8r, eo_3_9n, eo_3_9i, eo_3_9r, eo_3_10n, eo_3_10i, eo_3_10r, eo_0_10, bk_109_20, bk_109_21, bk_109_22, eo_3_11n, eo_3_11i, eo_3_11r, eo_0_11, bk_109_23, bk_109_24, eo_3_12n, eo_3_12i, eo_3_12r, eo_0_12, eo_0_9, bk_109_25, bk_109_26, bk_109_27, eo_23_10n, eo_23_10i, eo_23_10r, bk_109_28, eo_11, eo_0_8, bk_109_29, bk_109_30, bk_109_31, bk_109_32, bk_109_33, bk_109_34, eo_23_3n, eo_23_3i, eo_23_3r, bk_109_35, vb_0, vb_1, vb_2, vb_3, vb_4, vb_6, vb_7, vc_0, vc_1, vc_2, vc_3, vc_4, vc_5, vn_0, vn_1, vn_2, vn_3, vn_4, vn_5, vn_6, vn_7, vn_9, vn_10, vr_0, ev_lc_s, el_3, el_4, el_6, Int.add_zero, Int.add_sub_cancel, Int.reduceAdd, Int.reduceMul, Int.reduceSub, Int.reduceNeg, ev_wr_id]) | ((first | with_reducible refine wb_40 ?_ ?_ | with_reducible refine wb_41 ?_ ?_ | with_reducible refine wb_42 ?_ ?_ | with_reducible refine wb_43 ?_ ?_ | with_reducible refine wb_44 ?_ ?_ | with_reducible refine wb_45 ?_ ?_ | with_reducible refine wb_46 ?_ ?_ | with_reducible refine wb_47 ?_ ?_ | with_reducible refine wb_48 ?_ ?_ | with_reducible refine wb_49 ?_ ?_ | with_reducible refine wb_50 ?_ ?_ | with_reducible refine wb_51 ?_ ?_) <;> intro h <;> try simp (disch := first | assumption | exact Nat.le_of_ble_eq_true rfl | omega) only [ev_wr_id, not_true_eq_false, not_false_eq_true, Int.reduceEq, Int.reduceLT, Int.reduceLE, and_self, and_true, true_and, and_false, false_and, reduceIte] at h <;> try (exfalso; omega; done)) | refine wk (q_75 (by assumption) (by omega)) (fun σ hA => ?_) | refine wk (q_76 (by assumption) (by omega) (by omega)) (fun σ hA => ?_) | refine wk (q_85 (by assumption) (by omega) (by omega)) (fun σ hA => ?_) | refine wk (q_86 (by assumption) (by omega) (by omega) (by omega)) (fun σ hA => ?_) | refine wk (h_108 (by assumption) (by omega) (by omega)) (fun σ hA => ?_))
  exact key _ _ _ _ _ _ _ _ _ _ hA
end LWY
