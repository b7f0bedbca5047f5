/-! the law's look at the award -/
theorem ev_ss_sn {f : Int → Int} : ∀ (k : Nat) (b acc : Int), ev_ss f (k + 1) b acc = ev_ss f k b acc + f (b + k) := by
  intro k
  induction k with
  | zero =>
    intro b acc
    rw [show b + ((0 : Nat) : Int) = b by omega]
    rfl
  | succ k ih =>
    intro b acc
    rw [show ev_ss f (k + 1 + 1) b acc = ev_ss f (k + 1) (b + 1) (acc + f b) from rfl, ih (b + 1) (acc + f b), show b + 1 + (k : Int) = b + ((k + 1 : Nat) : Int) by omega]
    rfl
theorem ev_ss_ad {f g : Int → Int} : ∀ (k : Nat) (b x y : Int), ev_ss (fun q => f q + g q) k b (x + y) = ev_ss f k b x + ev_ss g k b y := by
  intro k
  induction k with
  | zero => exact fun b x y => rfl
  | succ k ih =>
    intro b x y
    have h := ih (b + 1) (x + f b) (y + g b)
    rw [show x + f b + (y + g b) = x + y + (f b + g b) by omega] at h
    exact h
theorem ev_ss_dl {h : Int → Int} {u : Int} : ∀ (k : Nat) (b acc : Int), ev_ss (fun q => if u = q then h q else 0) k b acc = if b ≤ u ∧ u < b + k then acc + h u else acc := by
  intro k
  induction k with
  | zero =>
    intro b acc
    rw [if_neg (by omega)]
    rfl
  | succ k ih =>
    intro b acc
    rw [show ev_ss (fun q => if u = q then h q else 0) (k + 1) b acc = ev_ss (fun q => if u = q then h q else 0) k (b + 1) (acc + if u = b then h b else 0) from rfl, ih]
    by_cases c : u = b
    · subst c
      rw [if_pos rfl, if_neg (by omega), if_pos (by omega)]
    · rw [if_neg c]
      by_cases d : b + 1 ≤ u ∧ u < b + 1 + k
      · rw [if_pos d, if_pos (by omega)]
        omega
      · rw [if_neg d, if_neg (by omega)]
        omega
theorem st_pf_s {T u : Int → Int} {B : Int} : ∀ L : Nat, st_va B L u → ev_ss (fun b => ev_ss (st_pf T u b) L 0 0) B.toNat 0 0 = st_sc (st_co T) u L := by
  intro L
  induction L with
  | zero =>
    intro _
    have h : ∀ (k : Nat) (b : Int), ev_ss (fun b => ev_ss (st_pf T u b) 0 0 0) k b 0 = 0 := by
      intro k
      induction k with
      | zero => exact fun b => rfl
      | succ k ih => exact fun b => ih (b + 1)
    exact h _ _
  | succ L ih =>
    intro h
    have h1 := ih (st_va_le h (by omega))
    have h2 := h L (by omega)
    have e : (fun b => ev_ss (st_pf T u b) (L + 1) 0 0) = fun b => ev_ss (st_pf T u b) L 0 0 + (fun q => if u L = q then st_co T L q else 0) b := by
      funext b
      rw [ev_ss_sn, show (0 : Int) + (L : Int) = L by omega]
      rfl
    have h3 := ev_ss_ad (f := fun b => ev_ss (st_pf T u b) L 0 0) (g := fun q => if u L = q then st_co T L q else 0) B.toNat 0 0 0
    rw [e]
    refine h3.trans ?_
    rw [h1, ev_ss_dl, if_pos (by omega)]
    show _ = st_sc (st_co T) u L + st_co T L (u L)
    omega
theorem st_pf_0 {T u : Int → Int} {b : Int} : ∀ L : Nat, st_us u b L = 0 → ev_ss (st_pf T u b) L 0 0 = 0 := by
  intro L
  induction L with
  | zero => exact fun _ => rfl
  | succ L ih =>
    intro h
    have h9 : st_us u b (L + 1) = if u L = b then 1 else st_us u b L := rfl
    rw [h9] at h
    by_cases c : u L = b
    · rw [if_pos c] at h
      omega
    · rw [if_neg c] at h
      rw [ev_ss_sn, ih h, show (0 : Int) + (L : Int) = L by omega]
      unfold st_pf
      rw [if_neg c]
      rfl
/-- what is paid to all comes to the cost -/
theorem st_py_s {T u : Int → Int} {B : Int} (h : st_va B (T 3).toNat u) : ev_ss (st_py T u) B.toNat 0 0 = st_pr (st_co T) (st_fe T) B (T 3).toNat u := by
  have h1 := st_pf_s (T := T) (T 3).toNat h
  have e : st_py T u = fun b => (fun b => ev_ss (st_pf T u b) (T 3).toNat 0 0) b + (fun b => st_us u b (T 3).toNat * st_fe T b) b := by
    funext b
    have h2 := st_us_in (a := u) (b := b) (T 3).toNat
    unfold st_py
    dsimp only
    by_cases c : st_us u b (T 3).toNat = 1
    · rw [if_pos c, c]
      omega
    · rw [if_neg c, show st_us u b (T 3).toNat = 0 by omega, st_pf_0 (T 3).toNat (by omega)]
      omega
  have h3 := ev_ss_ad (f := fun b => ev_ss (st_pf T u b) (T 3).toNat 0 0) (g := fun b => st_us u b (T 3).toNat * st_fe T b) B.toNat 0 0 0
  rw [e]
  refine h3.trans ?_
  rw [h1]
  unfold st_pr
  have h4 := ev_ss_acc (f := fun b => st_us u b (T 3).toNat * st_fe T b) B.toNat 0 0 (st_sc (st_co T) u (T 3).toNat)
  rw [Int.zero_add] at h4
  rw [h4]
  omega
/-- what all lines cost by one -/
theorem st_pa_s {T : Int → Int} {B b : Int} (h3 : 0 < T 3) (hb : 0 ≤ b ∧ b < B) : st_pr (st_co T) (st_fe T) B (T 3).toNat (fun _ => b) = st_pa T b := by
  have h1 : ∀ L : Nat, st_sc (st_co T) (fun _ => b) L = ev_ss (fun l => st_co T l b) L 0 0 := by
    intro L
    induction L with
    | zero => rfl
    | succ L ih =>
      rw [ev_ss_sn, ← ih, show (0 : Int) + (L : Int) = L by omega]
      rfl
  have h2 : ∀ (q : Int) (L : Nat), 0 < L → st_us (fun _ => b) q L = if b = q then 1 else 0 := by
    intro q L
    induction L with
    | zero => intro h; omega
    | succ L ih =>
      intro _
      show (if b = q then 1 else st_us (fun _ => b) q L) = _
      by_cases c : b = q
      · rw [if_pos c, if_pos c]
      · rw [if_neg c, if_neg c]
        by_cases d : 0 < L
        · rw [ih d, if_neg c]
        · rw [show L = 0 by omega]
          rfl
  unfold st_pr st_pa
  rw [if_pos h3, h1]
  have e : (fun q => st_us (fun _ => b) q (T 3).toNat * st_fe T q) = fun q => if b = q then st_fe T q else 0 := by
    funext q
    rw [h2 q (T 3).toNat (by omega)]
    by_cases c : b = q
    · rw [if_pos c, if_pos c]
      omega
    · rw [if_neg c, if_neg c]
      omega
  rw [e, ev_ss_dl, if_pos (by omega)]
section LAW9
variable {T : Int → Int} {hs : List (Int → Int)}
theorem vl_0 {i : Int} : st_vl T i 0 = T (299 + 3 * i) := by
  unfold st_vl
  rw [if_pos (by omega), Int.add_zero]
theorem vl_1 {i : Int} : st_vl T i 1 = T (299 + 3 * i + 1) := by
  unfold st_vl
  rw [if_pos (by omega)]
theorem vl_2 {i : Int} : st_vl T i 2 = T (299 + 3 * i + 2) := by
  unfold st_vl
  rw [if_pos (by omega)]
theorem vl_3 {i : Int} : st_vl T i 3 = st_ut T i := by
  unfold st_vl
  rw [if_neg (by omega)]
theorem vd_0 {b : Int} : st_vd T b 0 = st_fe T b := by
  unfold st_vd st_fe
  rw [if_pos (by omega), Int.add_zero]
theorem vd_5 {b : Int} : st_vd T b 5 = st_py T (st_ut T) b := by
  unfold st_vd
  rw [if_neg (by omega), if_pos rfl]
theorem vd_6 {b : Int} : st_vd T b 6 = st_pa T b := by
  unfold st_vd
  rw [if_neg (by omega), if_neg (by omega)]
theorem l_110k {P : ev_R → Prop} {c sum b : Int} (hI : st_I T) (hb : 0 ≤ b ∧ b < T 4) (hu : ∀ k, 0 ≤ k → k < T 3 → -1 ≤ st_ut T k ∧ st_ut T k ≤ 2) (kk : ∀ (σ : ev_M) (p10 p11 p12 : Option ev_V), ab_A σ T hs → Wp P (EB 110 17 [some (.inr (.inl 161)), some (.inl (T 3)), some (.inl (T 4)), some (.inl c), some (.inl sum), some (.inl b), some (.inl (ev_ss (st_pf T (st_ut T) b) (T 3).toNat 0 0)), some (.inl (ev_ss (fun l => st_co T l b) (T 3).toNat 0 0)), some (.inl (st_us (st_ut T) b (T 3).toNat)), some (.inl (T 3)), p10, p11, p12] [] σ)) : ∀ (m n : Nat) (k : Int) (p10 p11 p12 : Option ev_V) (σ : ev_M), k = n → k + m = T 3 → ab_A σ T hs → Wp P (EB 110 9 [some (.inr (.inl 161)), some (.inl (T 3)), some (.inl (T 4)), some (.inl c), some (.inl sum), some (.inl b), some (.inl (ev_ss (st_pf T (st_ut T) b) n 0 0)), some (.inl (ev_ss (fun l => st_co T l b) n 0 0)), some (.inl (st_us (st_ut T) b n)), some (.inl k), p10, p11, p12] [] σ) := by
  have i3 := hI.1.2.2.2.1
  have i2 := hI.1.2.2.1
  have i4 := hI.1.2.2.2.2.1
  intro m
  induction m with
  | zero =>
    intro n k p10 p11 p12 σ k0 k1 hA
    have e : n = (T 3).toNat := by omega
    have e2 : k = T 3 := by omega
    have kk := kk σ p10 p11 p12 hA
    subst e
    rw [e2]
    clear hu
    rw [bk_110_9]
    repeat' (first | (simp (disch := first | assumption | exact Nat.le_of_ble_eq_true rfl | omega) only [bk_110_0, eo_1_0, eo_6, v10_2, ev_ki, ev_kv, eo_3_1n, eo_3_1i, eo_3_1r, eo_3_2n, eo_3_2i, eo_3_2r, v10_1, eo_3_3n, eo_3_3i, eo_3_3r, eo_0_1, eo_0_2, eo_53, bk_110_1, eo_0_3, eo_52, bk_110_2, bk_110_3, v10_3, bk_110_4, bk_110_5, bk_110_6, eo_56z, bk_110_7, eo_3_4n, eo_3_4i, eo_3_4r, eo_3_5n, eo_3_5i, eo_3_5r, eo_0_5, eo_3_6n, eo_3_6i, eo_3_6r, eo_3_7n, eo_3_7i, eo_3_7r, eo_3_8n, eo_3_8i, eo_3_8r, eo_3_9n, eo_3_9i, eo_3_9r, eo_0_9, v10_4, eo_3_10n, eo_3_10i, eo_3_10r, eo_0_10, eo_10, eo_12, eo_3_11n, eo_3_11i, eo_3_11r, bk_110_10, bk_110_11, eo_3_12n, eo_3_12i, eo_3_12r, eo_0_8, eo_0_12, bk_110_12, bk_110_13, bk_110_14, eo_0_6, eo_0_11, bk_110_15, bk_110_16, eo_0_7, eo_23_9n, eo_23_9i, eo_23_9r, bk_110_18, bk_110_19, bk_110_20, bk_110_21, eo_0_4, eo_23_5n, eo_23_5i, eo_23_5r, bk_110_22, bk_110_23, bk_110_24, vb_0, vb_1, vb_2, vb_3, vb_4, vb_6, vb_7, vc_0, vc_1, vc_2, vc_3, vc_4, vc_5, vn_0, vn_1, vn_2, vn_3, vn_4, vn_5, vn_6, vn_7, vn_9, vn_10, vr_0, ev_lc_s, el_3, el_4, el_6, Int.add_zero, Int.add_sub_cancel, Int.reduceAdd, Int.reduceMul, Int.reduceSub, Int.reduceNeg, ev_wr_id]) | ((first | with_reducible refine wb_40 ?_ ?_ | with_reducible refine wb_41 ?_ ?_ | with_reducible refine wb_42 ?_ ?_ | with_reducible refine wb_43 ?_ ?_ | with_reducible refine wb_44 ?_ ?_ | with_reducible refine wb_45 ?_ ?_ | with_reducible refine wb_46 ?_ ?_ | with_reducible refine wb_47 ?_ ?_ | with_reducible refine wb_48 ?_ ?_ | with_reducible refine wb_49 ?_ ?_ | with_reducible refine wb_50 ?_ ?_ | with_reducible refine wb_51 ?_ ?_) <;> intro h <;> try simp (disch := first | assumption | exact Nat.le_of_ble_eq_true rfl | omega) only [ev_wr_id, not_true_eq_false, not_false_eq_true, Int.reduceEq, Int.reduceLT, Int.reduceLE, and_self, and_true, true_and, and_false, false_and, reduceIte] at h <;> try (exfalso; omega; done)) | refine wk (q_75 (by assumption) (by omega)) (fun σ hA => ?_) | refine wk (q_78 (by assumption) (by omega) (by omega) (by omega)) (fun σ hA => ?_) | refine wk (q_92 (by assumption) (by omega) (by omega)) (fun σ hA => ?_) | refine wk (q_93 (by assumption) (by omega) (by omega)) (fun σ hA => ?_))
    all_goals exact kk
  | succ m ih =>
    intro n k p10 p11 p12 σ k0 k1 hA
    have hk : 0 ≤ k ∧ k < T 3 := by omega
    have g := hI.2.2.2.2.2.1 k hk.1 hk.2
    have huk := hu k hk.1 hk.2
    have hus := st_us_in (a := st_ut T) (b := b) n
    have ih := fun p10 p11 p12 σ hA => ih (n + 1) (k + 1) p10 p11 p12 σ (by omega) (by omega) hA
    have es : st_us (st_ut T) b (n + 1) = if st_ut T k = b then 1 else st_us (st_ut T) b n := by rw [k0]; rfl
    have ep : ev_ss (st_pf T (st_ut T) b) (n + 1) 0 0 = ev_ss (st_pf T (st_ut T) b) n 0 0 + if st_ut T k = b then st_co T k b else 0 := by rw [ev_ss_sn, k0, show (0 : Int) + (n : Int) = n by omega]; rfl
    have ea : ev_ss (fun l => st_co T l b) (n + 1) 0 0 = ev_ss (fun l => st_co T l b) n 0 0 + st_co T k b := by rw [ev_ss_sn, k0, show (0 : Int) + (n : Int) = n by omega]
    rw [es, ep, ea] at ih
    clear es ep ea kk
    have co : st_co T k b = T (299 + 3 * k + 2) * T (323 + 5 * b + 1 + T (119 + 30 * T (299 + 3 * k) + 5 * T (299 + 3 * k + 1))) := rfl
    obtain ⟨lb, hlb⟩ : ∃ x, x = T (299 + 3 * k) := ⟨_, rfl⟩
    obtain ⟨lc, hlc⟩ : ∃ x, x = T (299 + 3 * k + 1) := ⟨_, rfl⟩
    obtain ⟨pt, hpt⟩ : ∃ x, x = T (299 + 3 * k + 2) := ⟨_, rfl⟩
    have g0 := hlb.symm
    have g1 := hlc.symm
    have g2 := hpt.symm
    rw [g0, g1, g2] at g
    rw [g0, g1, g2] at co
    have hkd := (hI.2.2.2.2.1 lb lc g.1.1 g.1.2 g.2.1.1 g.2.1.2).1
    obtain ⟨kd, hkd9⟩ : ∃ x, x = T (119 + 30 * lb + 5 * lc) := ⟨_, rfl⟩
    have g4 := hkd9.symm
    rw [g4] at hkd co
    have gp : st_vd T b (1 + kd) = T (323 + 5 * b + 1 + kd) := by
      unfold st_vd
      rw [if_pos (by omega), show 323 + 5 * b + (1 + kd) = 323 + 5 * b + 1 + kd by omega]
    obtain ⟨pc, hpc⟩ : ∃ x, x = T (323 + 5 * b + 1 + kd) := ⟨_, rfl⟩
    rw [← hpc] at gp co
    obtain ⟨us, hus9⟩ : ∃ x, x = st_us (st_ut T) b n := ⟨_, rfl⟩
    obtain ⟨pp, hpp⟩ : ∃ x, x = ev_ss (st_pf T (st_ut T) b) n 0 0 := ⟨_, rfl⟩
    obtain ⟨aa, haa⟩ : ∃ x, x = ev_ss (fun l => st_co T l b) n 0 0 := ⟨_, rfl⟩
    rw [← hus9] at hus
    rw [← hus9, ← hpp, ← haa] at ih ⊢
    obtain ⟨ta, hta⟩ : ∃ x, x = st_ut T k := ⟨_, rfl⟩
    have g3 := hta.symm
    rw [g3] at huk ih
    have hlb9 := g.1
    have hlc9 := g.2.1
    clear hu hus9 hpp haa hlb hlc hpt hkd9 hta hpc g k0
    rw [co] at ih
    by_cases c1 : ta = b
    · rw [if_pos c1, if_pos c1] at ih
      by_cases c2 : us = 0
      · rw [bk_110_9]
        repeat' (first | (simp (disch := first | assumption | exact Nat.le_of_ble_eq_true rfl | omega) only [bk_110_0, eo_1_0, eo_6, v10_2, ev_ki, ev_kv, eo_3_1n, eo_3_1i, eo_3_1r, eo_3_2n, eo_3_2i, eo_3_2r, v10_1, eo_3_3n, eo_3_3i, eo_3_3r, eo_0_1, eo_0_2, eo_53, bk_110_1, eo_0_3, eo_52, bk_110_2, bk_110_3, v10_3, bk_110_4, bk_110_5, bk_110_6, eo_56z, bk_110_7, eo_3_4n, eo_3_4i, eo_3_4r, eo_3_5n, eo_3_5i, eo_3_5r, eo_0_5, eo_3_6n, eo_3_6i, eo_3_6r, eo_3_7n, eo_3_7i, eo_3_7r, eo_3_8n, eo_3_8i, eo_3_8r, eo_3_9n, eo_3_9i, eo_3_9r, eo_0_9, v10_4, eo_3_10n, eo_3_10i, eo_3_10r, eo_0_10, eo_10, eo_12, eo_3_11n, eo_3_11i, eo_3_11r, bk_110_10, bk_110_11, eo_3_12n, eo_3_12i, eo_3_12r, eo_0_8, eo_0_12, bk_110_12, bk_110_13, bk_110_14, eo_0_6, eo_0_11, bk_110_15, bk_110_16, eo_0_7, eo_23_9n, eo_23_9i, eo_23_9r, bk_110_17, bk_110_18, bk_110_19, bk_110_20, bk_110_21, eo_0_4, eo_23_5n, eo_23_5i, eo_23_5r, bk_110_22, bk_110_23, bk_110_24, vl_0, vl_1, vl_2, vl_3, g0, g1, g2, g3, g4, gp, vb_0, vb_1, vb_2, vb_3, vb_4, vb_6, vb_7, vc_0, vc_1, vc_2, vc_3, vc_4, vc_5, vn_0, vn_1, vn_2, vn_3, vn_4, vn_5, vn_6, vn_7, vn_9, vn_10, vr_0, ev_lc_s, el_3, el_4, el_6, Int.add_zero, Int.add_sub_cancel, Int.reduceAdd, Int.reduceMul, Int.reduceSub, Int.reduceNeg, ev_wr_id]) | ((first | with_reducible refine wb_40 ?_ ?_ | with_reducible refine wb_41 ?_ ?_ | with_reducible refine wb_42 ?_ ?_ | with_reducible refine wb_43 ?_ ?_ | with_reducible refine wb_44 ?_ ?_ | with_reducible refine wb_45 ?_ ?_ | with_reducible refine wb_46 ?_ ?_ | with_reducible refine wb_47 ?_ ?_ | with_reducible refine wb_48 ?_ ?_ | with_reducible refine wb_49 ?_ ?_ | with_reducible refine wb_50 ?_ ?_ | with_reducible refine wb_51 ?_ ?_) <;> intro h <;> try simp (disch := first | assumption | exact Nat.le_of_ble_eq_true rfl | omega) only [ev_wr_id, not_true_eq_false, not_false_eq_true, Int.reduceEq, Int.reduceLT, Int.reduceLE, and_self, and_true, true_and, and_false, false_and, reduceIte] at h <;> try (exfalso; omega; done)) | refine wk (q_75 (by assumption) (by omega)) (fun σ hA => ?_) | refine wk (q_78 (by assumption) (by omega) (by omega) (by omega)) (fun σ hA => ?_) | refine wk (q_92 (by assumption) (by omega) (by omega)) (fun σ hA => ?_) | refine wk (q_93 (by assumption) (by omega) (by omega)) (fun σ hA => ?_))
        all_goals exact ih _ _ _ _ (by assumption)
      · rw [bk_110_9]
        repeat' (first | (simp (disch := first | assumption | exact Nat.le_of_ble_eq_true rfl | omega) only [bk_110_0, eo_1_0, eo_6, v10_2, ev_ki, ev_kv, eo_3_1n, eo_3_1i, eo_3_1r, eo_3_2n, eo_3_2i, eo_3_2r, v10_1, eo_3_3n, eo_3_3i, eo_3_3r, eo_0_1, eo_0_2, eo_53, bk_110_1, eo_0_3, eo_52, bk_110_2, bk_110_3, v10_3, bk_110_4, bk_110_5, bk_110_6, eo_56z, bk_110_7, eo_3_4n, eo_3_4i, eo_3_4r, eo_3_5n, eo_3_5i, eo_3_5r, eo_0_5, eo_3_6n, eo_3_6i, eo_3_6r, eo_3_7n, eo_3_7i, eo_3_7r, eo_3_8n, eo_3_8i, eo_3_8r, eo_3_9n, eo_3_9i, eo_3_9r, eo_0_9, v10_4, eo_3_10n, eo_3_10i, eo_3_10r, eo_0_10, eo_10, eo_12, eo_3_11n, eo_3_11i, eo_3_11r, bk_110_10, bk_110_11, eo_3_12n, eo_3_12i, eo_3_12r, eo_0_8, eo_0_12, bk_110_12, bk_110_13, bk_110_14, eo_0_6, eo_0_11, bk_110_15, bk_110_16, eo_0_7, eo_23_9n, eo_23_9i, eo_23_9r, bk_110_17, bk_110_18, bk_110_19, bk_110_20, bk_110_21, eo_0_4, eo_23_5n, eo_23_5i, eo_23_5r, bk_110_22, bk_110_23, bk_110_24, vl_0, vl_1, vl_2, vl_3, g0, g1, g2, g3, g4, gp, vb_0, vb_1, vb_2, vb_3, vb_4, vb_6, vb_7, vc_0, vc_1, vc_2, vc_3, vc_4, vc_5, vn_0, vn_1, vn_2, vn_3, vn_4, vn_5, vn_6, vn_7, vn_9, vn_10, vr_0, ev_lc_s, el_3, el_4, el_6, Int.add_zero, Int.add_sub_cancel, Int.reduceAdd, Int.reduceMul, Int.reduceSub, Int.reduceNeg, ev_wr_id]) | ((first | with_reducible refine wb_40 ?_ ?_ | with_reducible refine wb_41 ?_ ?_ | with_reducible refine wb_42 ?_ ?_ | with_reducible refine wb_43 ?_ ?_ | with_reducible refine wb_44 ?_ ?_ | with_reducible refine wb_45 ?_ ?_ | with_reducible refine wb_46 ?_ ?_ | with_reducible refine wb_47 ?_ ?_ | with_reducible refine wb_48 ?_ ?_ | with_reducible refine wb_49 ?_ ?_ | with_reducible refine wb_50 ?_ ?_ | with_reducible refine wb_51 ?_ ?_) <;> intro h <;> try simp (disch := first | assumption | exact Nat.le_of_ble_eq_true rfl | omega) only [ev_wr_id, not_true_eq_false, not_false_eq_true, Int.reduceEq, Int.reduceLT, Int.reduceLE, and_self, and_true, true_and, and_false, false_and, reduceIte] at h <;> try (exfalso; omega; done)) | refine wk (q_75 (by assumption) (by omega)) (fun σ hA => ?_) | refine wk (q_78 (by assumption) (by omega) (by omega) (by omega)) (fun σ hA => ?_) | refine wk (q_92 (by assumption) (by omega) (by omega)) (fun σ hA => ?_) | refine wk (q_93 (by assumption) (by omega) (by omega)) (fun σ hA => ?_))
        all_goals exact ih _ _ _ _ (by assumption)
    · rw [if_neg c1, if_neg c1] at ih
      simp only [Int.add_zero] at ih
      by_cases c2 : us = 0
      · rw [c2] at ih
        rw [bk_110_9]
        repeat' (first | (simp (disch := first | assumption | exact Nat.le_of_ble_eq_true rfl | omega) only [bk_110_0, eo_1_0, eo_6, v10_2, ev_ki, ev_kv, eo_3_1n, eo_3_1i, eo_3_1r, eo_3_2n, eo_3_2i, eo_3_2r, v10_1, eo_3_3n, eo_3_3i, eo_3_3r, eo_0_1, eo_0_2, eo_53, bk_110_1, eo_0_3, eo_52, bk_110_2, bk_110_3, v10_3, bk_110_4, bk_110_5, bk_110_6, eo_56z, bk_110_7, eo_3_4n, eo_3_4i, eo_3_4r, eo_3_5n, eo_3_5i, eo_3_5r, eo_0_5, eo_3_6n, eo_3_6i, eo_3_6r, eo_3_7n, eo_3_7i, eo_3_7r, eo_3_8n, eo_3_8i, eo_3_8r, eo_3_9n, eo_3_9i, eo_3_9r, eo_0_9, v10_4, eo_3_10n, eo_3_10i, eo_3_10r, eo_0_10, eo_10, eo_12, eo_3_11n, eo_3_11i, eo_3_11r, bk_110_10, bk_110_11, eo_3_12n, eo_3_12i, eo_3_12r, eo_0_8, eo_0_12, bk_110_12, bk_110_13, bk_110_14, eo_0_6, eo_0_11, bk_110_15, bk_110_16, eo_0_7, eo_23_9n, eo_23_9i, eo_23_9r, bk_110_17, bk_110_18, bk_110_19, bk_110_20, bk_110_21, eo_0_4, eo_23_5n, eo_23_5i, eo_23_5r, bk_110_22, bk_110_23, bk_110_24, vl_0, vl_1, vl_2, vl_3, g0, g1, g2, g3, g4, gp, vb_0, vb_1, vb_2, vb_3, vb_4, vb_6, vb_7, vc_0, vc_1, vc_2, vc_3, vc_4, vc_5, vn_0, vn_1, vn_2, vn_3, vn_4, vn_5, vn_6, vn_7, vn_9, vn_10, vr_0, ev_lc_s, el_3, el_4, el_6, Int.add_zero, Int.add_sub_cancel, Int.reduceAdd, Int.reduceMul, Int.reduceSub, Int.reduceNeg, ev_wr_id]) | ((first | with_reducible refine wb_40 ?_ ?_ | with_reducible refine wb_41 ?_ ?_ | with_reducible refine wb_42 ?_ ?_ | with_reducible refine wb_43 ?_ ?_ | with_reducible refine wb_44 ?_ ?_ | with_reducible refine wb_45 ?_ ?_ | with_reducible refine wb_46 ?_ ?_ | with_reducible refine wb_47 ?_ ?_ | with_reducible refine wb_48 ?_ ?_ | with_reducible refine wb_49 ?_ ?_ | with_reducible refine wb_50 ?_ ?_ | with_reducible refine wb_51 ?_ ?_) <;> intro h <;> try simp (disch := first | assumption | exact Nat.le_of_ble_eq_true rfl | omega) only [ev_wr_id, not_true_eq_false, not_false_eq_true, Int.reduceEq, Int.reduceLT, Int.reduceLE, and_self, and_true, true_and, and_false, false_and, reduceIte] at h <;> try (exfalso; omega; done)) | refine wk (q_75 (by assumption) (by omega)) (fun σ hA => ?_) | refine wk (q_78 (by assumption) (by omega) (by omega) (by omega)) (fun σ hA => ?_) | refine wk (q_92 (by assumption) (by omega) (by omega)) (fun σ hA => ?_) | refine wk (q_93 (by assumption) (by omega) (by omega)) (fun σ hA => ?_))
        all_goals exact ih _ _ _ _ (by assumption)
      · have c3 : us = 1 := by omega
        rw [c3] at ih
        rw [bk_110_9]
        repeat' (first | (simp (disch := first | assumption | exact Nat.le_of_ble_eq_true rfl | omega) only [bk_110_0, eo_1_0, eo_6, v10_2, ev_ki, ev_kv, eo_3_1n, eo_3_1i, eo_3_1r, eo_3_2n, eo_3_2i, eo_3_2r, v10_1, eo_3_3n, eo_3_3i, eo_3_3r, eo_0_1, eo_0_2, eo_53, bk_110_1, eo_0_3, eo_52, bk_110_2, bk_110_3, v10_3, bk_110_4, bk_110_5, bk_110_6, eo_56z, bk_110_7, eo_3_4n, eo_3_4i, eo_3_4r, eo_3_5n, eo_3_5i, eo_3_5r, eo_0_5, eo_3_6n, eo_3_6i, eo_3_6r, eo_3_7n, eo_3_7i, eo_3_7r, eo_3_8n, eo_3_8i, eo_3_8r, eo_3_9n, eo_3_9i, eo_3_9r, eo_0_9, v10_4, eo_3_10n, eo_3_10i, eo_3_10r, eo_0_10, eo_10, eo_12, eo_3_11n, eo_3_11i, eo_3_11r, bk_110_10, bk_110_11, eo_3_12n, eo_3_12i, eo_3_12r, eo_0_8, eo_0_12, bk_110_12, bk_110_13, bk_110_14, eo_0_6, eo_0_11, bk_110_15, bk_110_16, eo_0_7, eo_23_9n, eo_23_9i, eo_23_9r, bk_110_17, bk_110_18, bk_110_19, bk_110_20, bk_110_21, eo_0_4, eo_23_5n, eo_23_5i, eo_23_5r, bk_110_22, bk_110_23, bk_110_24, vl_0, vl_1, vl_2, vl_3, g0, g1, g2, g3, g4, gp, vb_0, vb_1, vb_2, vb_3, vb_4, vb_6, vb_7, vc_0, vc_1, vc_2, vc_3, vc_4, vc_5, vn_0, vn_1, vn_2, vn_3, vn_4, vn_5, vn_6, vn_7, vn_9, vn_10, vr_0, ev_lc_s, el_3, el_4, el_6, Int.add_zero, Int.add_sub_cancel, Int.reduceAdd, Int.reduceMul, Int.reduceSub, Int.reduceNeg, ev_wr_id]) | ((first | with_reducible refine wb_40 ?_ ?_ | with_reducible refine wb_41 ?_ ?_ | with_reducible refine wb_42 ?_ ?_ | with_reducible refine wb_43 ?_ ?_ | with_reducible refine wb_44 ?_ ?_ | with_reducible refine wb_45 ?_ ?_ | with_reducible refine wb_46 ?_ ?_ | with_reducible refine wb_47 ?_ ?_ | with_reducible refine wb_48 ?_ ?_ | with_reducible refine wb_49 ?_ ?_ | with_reducible refine wb_50 ?_ ?_ | with_reducible refine wb_51 ?_ ?_) <;> intro h <;> try simp (disch := first | assumption | exact Nat.le_of_ble_eq_true rfl | omega) only [ev_wr_id, not_true_eq_false, not_false_eq_true, Int.reduceEq, Int.reduceLT, Int.reduceLE, and_self, and_true, true_and, and_false, false_and, reduceIte] at h <;> try (exfalso; omega; done)) | refine wk (q_75 (by assumption) (by omega)) (fun σ hA => ?_) | refine wk (q_78 (by assumption) (by omega) (by omega) (by omega)) (fun σ hA => ?_) | refine wk (q_92 (by assumption) (by omega) (by omega)) (fun σ hA => ?_) | refine wk (q_93 (by assumption) (by omega) (by omega)) (fun σ hA => ?_))
        all_goals exact ih _ _ _ _ (by assumption)
theorem l_110 {c : Int} (hI : st_I T) (h3 : 0 < T 3) (hu : ∀ k, 0 ≤ k → k < T 3 → -1 ≤ st_ut T k ∧ st_ut T k ≤ 2) (hc : 0 ≤ c ∧ c ≤ 10125) (hle : ∀ b, 0 ≤ b → b < T 4 → c ≤ st_pa T b) (hsum : ev_ss (st_py T (st_ut T)) (T 4).toNat 0 0 = c) : ∀ (m n : Nat) (b : Int) (p6 p7 p8 p9 p10 p11 p12 : Option ev_V) (σ : ev_M), b = n → b + m = T 4 → ab_A σ T hs → Wp (ab_P 1 T hs) (EB 110 8 [some (.inr (.inl 161)), some (.inl (T 3)), some (.inl (T 4)), some (.inl c), some (.inl (ev_ss (st_py T (st_ut T)) n 0 0)), some (.inl b), p6, p7, p8, p9, p10, p11, p12] [] σ) := by
  have i3 := hI.1.2.2.2.1
  have i4 := hI.1.2.2.2.2.1
  intro m
  induction m with
  | zero =>
    intro n b p6 p7 p8 p9 p10 p11 p12 σ b0 b1 hA
    have e : n = (T 4).toNat := by omega
    have e2 : b = T 4 := by omega
    subst e
    rw [hsum, e2]
    clear hsum hle hu
    rw [bk_110_8]
    repeat' (first | (simp (disch := first | assumption | exact Nat.le_of_ble_eq_true rfl | omega) only [bk_110_0, eo_1_0, eo_6, v10_2, ev_ki, ev_kv, eo_3_1n, eo_3_1i, eo_3_1r, eo_3_2n, eo_3_2i, eo_3_2r, v10_1, eo_3_3n, eo_3_3i, eo_3_3r, eo_0_1, eo_0_2, eo_53, bk_110_1, eo_0_3, eo_52, bk_110_2, bk_110_3, v10_3, bk_110_4, bk_110_5, bk_110_6, eo_56z, bk_110_7, eo_3_4n, eo_3_4i, eo_3_4r, eo_3_5n, eo_3_5i, eo_3_5r, eo_0_5, eo_3_6n, eo_3_6i, eo_3_6r, eo_3_7n, eo_3_7i, eo_3_7r, eo_3_8n, eo_3_8i, eo_3_8r, eo_3_9n, eo_3_9i, eo_3_9r, eo_0_9, v10_4, eo_3_10n, eo_3_10i, eo_3_10r, eo_0_10, eo_10, eo_12, eo_3_11n, eo_3_11i, eo_3_11r, bk_110_10, bk_110_11, eo_3_12n, eo_3_12i, eo_3_12r, eo_0_8, eo_0_12, bk_110_12, bk_110_13, bk_110_14, eo_0_6, eo_0_11, bk_110_15, bk_110_16, eo_0_7, eo_23_9n, eo_23_9i, eo_23_9r, bk_110_17, bk_110_18, bk_110_19, bk_110_20, bk_110_21, eo_0_4, eo_23_5n, eo_23_5i, eo_23_5r, bk_110_22, bk_110_23, bk_110_24, vb_0, vb_1, vb_2, vb_3, vb_4, vb_6, vb_7, vc_0, vc_1, vc_2, vc_3, vc_4, vc_5, vn_0, vn_1, vn_2, vn_3, vn_4, vn_5, vn_6, vn_7, vn_9, vn_10, vr_0, ev_lc_s, el_3, el_4, el_6, Int.add_zero, Int.add_sub_cancel, Int.reduceAdd, Int.reduceMul, Int.reduceSub, Int.reduceNeg, ev_wr_id]) | ((first | with_reducible refine wb_40 ?_ ?_ | with_reducible refine wb_41 ?_ ?_ | with_reducible refine wb_42 ?_ ?_ | with_reducible refine wb_43 ?_ ?_ | with_reducible refine wb_44 ?_ ?_ | with_reducible refine wb_45 ?_ ?_ | with_reducible refine wb_46 ?_ ?_ | with_reducible refine wb_47 ?_ ?_ | with_reducible refine wb_48 ?_ ?_ | with_reducible refine wb_49 ?_ ?_ | with_reducible refine wb_50 ?_ ?_ | with_reducible refine wb_51 ?_ ?_) <;> intro h <;> try simp (disch := first | assumption | exact Nat.le_of_ble_eq_true rfl | omega) only [ev_wr_id, not_true_eq_false, not_false_eq_true, Int.reduceEq, Int.reduceLT, Int.reduceLE, and_self, and_true, true_and, and_false, false_and, reduceIte] at h <;> try (exfalso; omega; done)) | refine wk (q_75 (by assumption) (by omega)) (fun σ hA => ?_) | refine wk (q_78 (by assumption) (by omega) (by omega) (by omega)) (fun σ hA => ?_) | refine wk (q_92 (by assumption) (by omega) (by omega)) (fun σ hA => ?_) | refine wk (q_93 (by assumption) (by omega) (by omega)) (fun σ hA => ?_))
    all_goals exact ab_Pr (by assumption)
  | succ m ih =>
    intro n b p6 p7 p8 p9 p10 p11 p12 σ b0 b1 hA
    have hb : 0 ≤ b ∧ b < T 4 := by omega
    have hl := hle b hb.1 hb.2
    have ih := fun p6 p7 p8 p9 p10 p11 p12 σ hA => ih (n + 1) (b + 1) p6 p7 p8 p9 p10 p11 p12 σ (by omega) (by omega) hA
    have es : ev_ss (st_py T (st_ut T)) (n + 1) 0 0 = ev_ss (st_py T (st_ut T)) n 0 0 + st_py T (st_ut T) b := by rw [ev_ss_sn, b0, show (0 : Int) + (n : Int) = n by omega]
    rw [es] at ih
    clear es
    have hus := st_us_in (a := st_ut T) (b := b) (T 3).toNat
    have epy : st_py T (st_ut T) b = if st_us (st_ut T) b (T 3).toNat = 1 then ev_ss (st_pf T (st_ut T) b) (T 3).toNat 0 0 + st_fe T b else 0 := rfl
    have epa : st_pa T b = ev_ss (fun l => st_co T l b) (T 3).toNat 0 0 + st_fe T b := if_pos h3
    have hfe := (hI.2.2.2.2.2.2 b hb.1 hb.2).1
    have hco := ev_ss_in (f := fun l => st_co T l b) (m := 891) (T 3).toNat 0 0 (fun q q0 q1 => by have := st_co_in hI (l := q) (q := b) (by omega) hb; omega)
    have hpb : 0 ≤ st_pa T b ∧ st_pa T b ≤ 8127 := by
      rw [epa]
      have : st_fe T b = T (323 + 5 * b) := rfl
      have h9 : ((T 3).toNat : Int) ≤ 8 := by omega
      omega
    obtain ⟨S, hS⟩ : ∃ x, x = ev_ss (st_py T (st_ut T)) n 0 0 := ⟨_, rfl⟩
    rw [← hS] at ih ⊢
    have k9 := l_110k (P := ab_P 1 T hs) (hs := hs) (c := c) (sum := S) hI hb hu (fun σ p10 p11 p12 hA => by
      obtain ⟨us, hus9⟩ : ∃ x, x = st_us (st_ut T) b (T 3).toNat := ⟨_, rfl⟩
      obtain ⟨pp, hpp⟩ : ∃ x, x = ev_ss (st_pf T (st_ut T) b) (T 3).toNat 0 0 := ⟨_, rfl⟩
      obtain ⟨aa, haa⟩ : ∃ x, x = ev_ss (fun l => st_co T l b) (T 3).toNat 0 0 := ⟨_, rfl⟩
      obtain ⟨fe, hfe9⟩ : ∃ x, x = st_fe T b := ⟨_, rfl⟩
      have gf : st_vd T b 0 = fe := by rw [vd_0, hfe9]
      rw [← hus9] at hus epy ⊢
      rw [← hpp] at epy ⊢
      rw [← haa] at epa ⊢
      rw [← hfe9] at epy epa
      rw [epa] at hl hpb
      have g6 : st_vd T b 6 = aa + fe := by rw [vd_6, epa]
      by_cases c1 : us = 1
      · rw [if_pos c1] at epy
        have g5 : st_vd T b 5 = pp + fe := by rw [vd_5, epy]
        rw [epy] at ih
        clear hus9 hpp haa hfe9 hS hle hu hsum hco hfe epy epa
        rw [bk_110_17]
        repeat' (first | (simp (disch := first | assumption | exact Nat.le_of_ble_eq_true rfl | omega) only [bk_110_0, eo_1_0, eo_6, v10_2, ev_ki, ev_kv, eo_3_1n, eo_3_1i, eo_3_1r, eo_3_2n, eo_3_2i, eo_3_2r, v10_1, eo_3_3n, eo_3_3i, eo_3_3r, eo_0_1, eo_0_2, eo_53, bk_110_1, eo_0_3, eo_52, bk_110_2, bk_110_3, v10_3, bk_110_4, bk_110_5, bk_110_6, eo_56z, bk_110_7, eo_3_4n, eo_3_4i, eo_3_4r, eo_3_5n, eo_3_5i, eo_3_5r, eo_0_5, eo_3_6n, eo_3_6i, eo_3_6r, eo_3_7n, eo_3_7i, eo_3_7r, eo_3_8n, eo_3_8i, eo_3_8r, eo_3_9n, eo_3_9i, eo_3_9r, eo_0_9, v10_4, eo_3_10n, eo_3_10i, eo_3_10r, eo_0_10, eo_10, eo_12, eo_3_11n, eo_3_11i, eo_3_11r, bk_110_10, bk_110_11, eo_3_12n, eo_3_12i, eo_3_12r, eo_0_8, eo_0_12, bk_110_12, bk_110_13, bk_110_14, eo_0_6, eo_0_11, bk_110_15, bk_110_16, eo_0_7, eo_23_9n, eo_23_9i, eo_23_9r, bk_110_17, bk_110_18, bk_110_19, bk_110_20, bk_110_21, eo_0_4, eo_23_5n, eo_23_5i, eo_23_5r, bk_110_22, bk_110_23, bk_110_24, gf, g5, g6, vb_0, vb_1, vb_2, vb_3, vb_4, vb_6, vb_7, vc_0, vc_1, vc_2, vc_3, vc_4, vc_5, vn_0, vn_1, vn_2, vn_3, vn_4, vn_5, vn_6, vn_7, vn_9, vn_10, vr_0, ev_lc_s, el_3, el_4, el_6, Int.add_zero, Int.add_sub_cancel, Int.reduceAdd, Int.reduceMul, Int.reduceSub, Int.reduceNeg, ev_wr_id]) | ((first | with_reducible refine wb_40 ?_ ?_ | with_reducible refine wb_41 ?_ ?_ | with_reducible refine wb_42 ?_ ?_ | with_reducible refine wb_43 ?_ ?_ | with_reducible refine wb_44 ?_ ?_ | with_reducible refine wb_45 ?_ ?_ | with_reducible refine wb_46 ?_ ?_ | with_reducible refine wb_47 ?_ ?_ | with_reducible refine wb_48 ?_ ?_ | with_reducible refine wb_49 ?_ ?_ | with_reducible refine wb_50 ?_ ?_ | with_reducible refine wb_51 ?_ ?_) <;> intro h <;> try simp (disch := first | assumption | exact Nat.le_of_ble_eq_true rfl | omega) only [ev_wr_id, not_true_eq_false, not_false_eq_true, Int.reduceEq, Int.reduceLT, Int.reduceLE, and_self, and_true, true_and, and_false, false_and, reduceIte] at h <;> try (exfalso; omega; done)) | refine wk (q_75 (by assumption) (by omega)) (fun σ hA => ?_) | refine wk (q_78 (by assumption) (by omega) (by omega) (by omega)) (fun σ hA => ?_) | refine wk (q_92 (by assumption) (by omega) (by omega)) (fun σ hA => ?_) | refine wk (q_93 (by assumption) (by omega) (by omega)) (fun σ hA => ?_))
        all_goals exact ih _ _ _ _ _ _ _ _ (by assumption)
      · have c2 : us = 0 := by omega
        rw [if_neg c1] at epy
        have g5 : st_vd T b 5 = 0 := by rw [vd_5, epy]
        rw [epy] at ih
        simp only [Int.add_zero] at ih
        clear hus9 hpp haa hfe9 hS hle hu hsum hco hfe epy epa
        rw [bk_110_17]
        repeat' (first | (simp (disch := first | assumption | exact Nat.le_of_ble_eq_true rfl | omega) only [bk_110_0, eo_1_0, eo_6, v10_2, ev_ki, ev_kv, eo_3_1n, eo_3_1i, eo_3_1r, eo_3_2n, eo_3_2i, eo_3_2r, v10_1, eo_3_3n, eo_3_3i, eo_3_3r, eo_0_1, eo_0_2, eo_53, bk_110_1, eo_0_3, eo_52, bk_110_2, bk_110_3, v10_3, bk_110_4, bk_110_5, bk_110_6, eo_56z, bk_110_7, eo_3_4n, eo_3_4i, eo_3_4r, eo_3_5n, eo_3_5i, eo_3_5r, eo_0_5, eo_3_6n, eo_3_6i, eo_3_6r, eo_3_7n, eo_3_7i, eo_3_7r, eo_3_8n, eo_3_8i, eo_3_8r, eo_3_9n, eo_3_9i, eo_3_9r, eo_0_9, v10_4, eo_3_10n, eo_3_10i, eo_3_10r, eo_0_10, eo_10, eo_12, eo_3_11n, eo_3_11i, eo_3_11r, bk_110_10, bk_110_11, eo_3_12n, eo_3_12i, eo_3_12r, eo_0_8, eo_0_12, bk_110_12, bk_110_13, bk_110_14, eo_0_6, eo_0_11, bk_110_15, bk_110_16, eo_0_7, eo_23_9n, eo_23_9i, eo_23_9r, bk_110_17, bk_110_18, bk_110_19, bk_110_20, bk_110_21, eo_0_4, eo_23_5n, eo_23_5i, eo_23_5r, bk_110_22, bk_110_23, bk_110_24, gf, g5, g6, vb_0, vb_1, vb_2, vb_3, vb_4, vb_6, vb_7, vc_0, vc_1, vc_2, vc_3, vc_4, vc_5, vn_0, vn_1, vn_2, vn_3, vn_4, vn_5, vn_6, vn_7, vn_9, vn_10, vr_0, ev_lc_s, el_3, el_4, el_6, Int.add_zero, Int.add_sub_cancel, Int.reduceAdd, Int.reduceMul, Int.reduceSub, Int.reduceNeg, ev_wr_id]) | ((first | with_reducible refine wb_40 ?_ ?_ | with_reducible refine wb_41 ?_ ?_ | with_reducible refine wb_42 ?_ ?_ | with_reducible refine wb_43 ?_ ?_ | with_reducible refine wb_44 ?_ ?_ | with_reducible refine wb_45 ?_ ?_ | with_reducible refine wb_46 ?_ ?_ | with_reducible refine wb_47 ?_ ?_ | with_reducible refine wb_48 ?_ ?_ | with_reducible refine wb_49 ?_ ?_ | with_reducible refine wb_50 ?_ ?_ | with_reducible refine wb_51 ?_ ?_) <;> intro h <;> try simp (disch := first | assumption | exact Nat.le_of_ble_eq_true rfl | omega) only [ev_wr_id, not_true_eq_false, not_false_eq_true, Int.reduceEq, Int.reduceLT, Int.reduceLE, and_self, and_true, true_and, and_false, false_and, reduceIte] at h <;> try (exfalso; omega; done)) | refine wk (q_75 (by assumption) (by omega)) (fun σ hA => ?_) | refine wk (q_78 (by assumption) (by omega) (by omega) (by omega)) (fun σ hA => ?_) | refine wk (q_92 (by assumption) (by omega) (by omega)) (fun σ hA => ?_) | refine wk (q_93 (by assumption) (by omega) (by omega)) (fun σ hA => ?_))
        all_goals exact ih _ _ _ _ _ _ _ _ (by assumption)) (T 3).toNat 0 0
    have k9 := fun p10 p11 p12 σ hA => k9 p10 p11 p12 σ rfl (by omega) hA
    clear ih hle hu hsum hco epy epa hpb hl hS hus
    rw [bk_110_8]
    repeat' (first | (simp (disch := first | assumption | exact Nat.le_of_ble_eq_true rfl | omega) only [bk_110_0, eo_1_0, eo_6, v10_2, ev_ki, ev_kv, eo_3_1n, eo_3_1i, eo_3_1r, eo_3_2n, eo_3_2i, eo_3_2r, v10_1, eo_3_3n, eo_3_3i, eo_3_3r, eo_0_1, eo_0_2, eo_53, bk_110_1, eo_0_3, eo_52, bk_110_2, bk_110_3, v10_3, bk_110_4, bk_110_5, bk_110_6, eo_56z, bk_110_7, eo_3_4n, eo_3_4i, eo_3_4r, eo_3_5n, eo_3_5i, eo_3_5r, eo_0_5, eo_3_6n, eo_3_6i, eo_3_6r, eo_3_7n, eo_3_7i, eo_3_7r, eo_3_8n, eo_3_8i, eo_3_8r, eo_3_9n, eo_3_9i, eo_3_9r, eo_0_9, v10_4, eo_3_10n, eo_3_10i, eo_3_10r, eo_0_10, eo_10, eo_12, eo_3_11n, eo_3_11i, eo_3_11r, bk_110_10, bk_110_11, eo_3_12n, eo_3_12i, eo_3_12r, eo_0_8, eo_0_12, bk_110_12, bk_110_13, bk_110_14, eo_0_6, eo_0_11, bk_110_15, bk_110_16, eo_0_7, eo_23_9n, eo_23_9i, eo_23_9r, bk_110_17, bk_110_18, bk_110_19, bk_110_20, bk_110_21, eo_0_4, eo_23_5n, eo_23_5i, eo_23_5r, bk_110_22, bk_110_23, bk_110_24, vb_0, vb_1, vb_2, vb_3, vb_4, vb_6, vb_7, vc_0, vc_1, vc_2, vc_3, vc_4, vc_5, vn_0, vn_1, vn_2, vn_3, vn_4, vn_5, vn_6, vn_7, vn_9, vn_10, vr_0, ev_lc_s, el_3, el_4, el_6, Int.add_zero, Int.add_sub_cancel, Int.reduceAdd, Int.reduceMul, Int.reduceSub, Int.reduceNeg, ev_wr_id]) | ((first | with_reducible refine wb_40 ?_ ?_ | with_reducible refine wb_41 ?_ ?_ | with_reducible refine wb_42 ?_ ?_ | with_reducible refine wb_43 ?_ ?_ | with_reducible refine wb_44 ?_ ?_ | with_reducible refine wb_45 ?_ ?_ | with_reducible refine wb_46 ?_ ?_ | with_reducible refine wb_47 ?_ ?_ | with_reducible refine wb_48 ?_ ?_ | with_reducible refine wb_49 ?_ ?_ | with_reducible refine wb_50 ?_ ?_ | with_reducible refine wb_51 ?_ ?_) <;> intro h <;> try simp (disch := first | assumption | exact Nat.le_of_ble_eq_true rfl | omega) only [ev_wr_id, not_true_eq_false, not_false_eq_true, Int.reduceEq, Int.reduceLT, Int.reduceLE, and_self, and_true, true_and, and_false, false_and, reduceIte] at h <;> try (exfalso; omega; done)) | refine wk (q_75 (by assumption) (by omega)) (fun σ hA => ?_) | refine wk (q_78 (by assumption) (by omega) (by omega) (by omega)) (fun σ hA => ?_) | refine wk (q_92 (by assumption) (by omega) (by omega)) (fun σ hA => ?_) | refine wk (q_93 (by assumption) (by omega) (by omega)) (fun σ hA => ?_))
    all_goals exact k9 _ _ _ _ (by assumption)
/-- THE AWARD IS SOUND -/
theorem h_110 {σ : ev_M} (hA : ab_A σ T hs) : ab_Q 110 [] σ 1 T hs := by
  have hI := hA.2.1
  have i3 := hI.1.2.2.2.1
  have i4 := hI.1.2.2.2.2.1
  refine ab_Qw ?_
  rw [mm_110, bk_110_0]
  repeat' (first | (simp (disch := first | assumption | exact Nat.le_of_ble_eq_true rfl | omega) only [bk_110_0, eo_1_0, eo_6, v10_2, ev_ki, ev_kv, eo_3_1n, eo_3_1i, eo_3_1r, eo_3_2n, eo_3_2i, eo_3_2r, v10_1, eo_3_3n, eo_3_3i, eo_3_3r, eo_0_1, eo_0_2, eo_53, eo_0_3, eo_52, bk_110_2, bk_110_3, v10_3, bk_110_4, bk_110_5, bk_110_6, eo_56z, eo_3_4n, eo_3_4i, eo_3_4r, eo_3_5n, eo_3_5i, eo_3_5r, eo_0_5, eo_3_6n, eo_3_6i, eo_3_6r, eo_3_7n, eo_3_7i, eo_3_7r, eo_3_8n, eo_3_8i, eo_3_8r, eo_3_9n, eo_3_9i, eo_3_9r, eo_0_9, v10_4, eo_3_10n, eo_3_10i, eo_3_10r, eo_0_10, eo_10, eo_12, eo_3_11n, eo_3_11i, eo_3_11r, bk_110_10, bk_110_11, eo_3_12n, eo_3_12i, eo_3_12r, eo_0_8, eo_0_12, bk_110_12, bk_110_13, bk_110_14, eo_0_6, eo_0_11, bk_110_15, bk_110_16, eo_0_7, eo_23_9n, eo_23_9i, eo_23_9r, bk_110_17, bk_110_18, bk_110_19, bk_110_20, bk_110_21, eo_0_4, eo_23_5n, eo_23_5i, eo_23_5r, bk_110_22, bk_110_23, bk_110_24, vb_0, vb_1, vb_2, vb_3, vb_4, vb_6, vb_7, vc_0, vc_1, vc_2, vc_3, vc_4, vc_5, vn_0, vn_1, vn_2, vn_3, vn_4, vn_5, vn_6, vn_7, vn_9, vn_10, vr_0, ev_lc_s, el_3, el_4, el_6, Int.add_zero, Int.add_sub_cancel, Int.reduceAdd, Int.reduceMul, Int.reduceSub, Int.reduceNeg, ev_wr_id]) | ((first | with_reducible refine wb_40 ?_ ?_ | with_reducible refine wb_41 ?_ ?_ | with_reducible refine wb_42 ?_ ?_ | with_reducible refine wb_43 ?_ ?_ | with_reducible refine wb_44 ?_ ?_ | with_reducible refine wb_45 ?_ ?_ | with_reducible refine wb_46 ?_ ?_ | with_reducible refine wb_47 ?_ ?_ | with_reducible refine wb_48 ?_ ?_ | with_reducible refine wb_49 ?_ ?_ | with_reducible refine wb_50 ?_ ?_ | with_reducible refine wb_51 ?_ ?_) <;> intro h <;> try simp (disch := first | assumption | exact Nat.le_of_ble_eq_true rfl | omega) only [ev_wr_id, not_true_eq_false, not_false_eq_true, Int.reduceEq, Int.reduceLT, Int.reduceLE, and_self, and_true, true_and, and_false, false_and, reduceIte] at h <;> try (exfalso; omega; done)) | refine wk (q_75 (by assumption) (by omega)) (fun σ hA => ?_) | refine wk (q_78 (by assumption) (by omega) (by omega) (by omega)) (fun σ hA => ?_) | refine wk (q_92 (by assumption) (by omega) (by omega)) (fun σ hA => ?_) | refine wk (q_93 (by assumption) (by omega) (by omega)) (fun σ hA => ?_))
  obtain ⟨c, ⟨haw, hc1, hc2⟩, q94, -⟩ := st_cst_e hA
  refine wk q94 (fun σ hA => ?_)
  have hut := st_aw_in hI haw
  rcases haw with ⟨c1, rfl⟩ | ⟨c1, c2, rfl, c3⟩ | ⟨c1, c2, c3, c4, c5⟩
  · have e3 : T 3 = 0 := by omega
    clear hut
    repeat' (first | (simp (disch := first | assumption | exact Nat.le_of_ble_eq_true rfl | omega) only [bk_110_0, eo_1_0, eo_6, v10_2, ev_ki, ev_kv, eo_3_1n, eo_3_1i, eo_3_1r, eo_3_2n, eo_3_2i, eo_3_2r, v10_1, eo_3_3n, eo_3_3i, eo_3_3r, eo_0_1, eo_0_2, eo_53, bk_110_1, eo_0_3, eo_52, bk_110_2, bk_110_3, v10_3, bk_110_4, bk_110_5, bk_110_6, eo_56z, eo_3_4n, eo_3_4i, eo_3_4r, eo_3_5n, eo_3_5i, eo_3_5r, eo_0_5, eo_3_6n, eo_3_6i, eo_3_6r, eo_3_7n, eo_3_7i, eo_3_7r, eo_3_8n, eo_3_8i, eo_3_8r, eo_3_9n, eo_3_9i, eo_3_9r, eo_0_9, v10_4, eo_3_10n, eo_3_10i, eo_3_10r, eo_0_10, eo_10, eo_12, eo_3_11n, eo_3_11i, eo_3_11r, bk_110_10, bk_110_11, eo_3_12n, eo_3_12i, eo_3_12r, eo_0_8, eo_0_12, bk_110_12, bk_110_13, bk_110_14, eo_0_6, eo_0_11, bk_110_15, bk_110_16, eo_0_7, eo_23_9n, eo_23_9i, eo_23_9r, bk_110_17, bk_110_18, bk_110_19, bk_110_20, bk_110_21, eo_0_4, eo_23_5n, eo_23_5i, eo_23_5r, bk_110_22, bk_110_23, bk_110_24, vb_0, vb_1, vb_2, vb_3, vb_4, vb_6, vb_7, vc_0, vc_1, vc_2, vc_3, vc_4, vc_5, vn_0, vn_1, vn_2, vn_3, vn_4, vn_5, vn_6, vn_7, vn_9, vn_10, vr_0, ev_lc_s, el_3, el_4, el_6, Int.add_zero, Int.add_sub_cancel, Int.reduceAdd, Int.reduceMul, Int.reduceSub, Int.reduceNeg, ev_wr_id]) | ((first | with_reducible refine wb_40 ?_ ?_ | with_reducible refine wb_41 ?_ ?_ | with_reducible refine wb_42 ?_ ?_ | with_reducible refine wb_43 ?_ ?_ | with_reducible refine wb_44 ?_ ?_ | with_reducible refine wb_45 ?_ ?_ | with_reducible refine wb_46 ?_ ?_ | with_reducible refine wb_47 ?_ ?_ | with_reducible refine wb_48 ?_ ?_ | with_reducible refine wb_49 ?_ ?_ | with_reducible refine wb_50 ?_ ?_ | with_reducible refine wb_51 ?_ ?_) <;> intro h <;> try simp (disch := first | assumption | exact Nat.le_of_ble_eq_true rfl | omega) only [ev_wr_id, not_true_eq_false, not_false_eq_true, Int.reduceEq, Int.reduceLT, Int.reduceLE, and_self, and_true, true_and, and_false, false_and, reduceIte] at h <;> try (exfalso; omega; done)) | refine wk (q_75 (by assumption) (by omega)) (fun σ hA => ?_) | refine wk (q_78 (by assumption) (by omega) (by omega) (by omega)) (fun σ hA => ?_) | refine wk (q_92 (by assumption) (by omega) (by omega)) (fun σ hA => ?_) | refine wk (q_93 (by assumption) (by omega) (by omega)) (fun σ hA => ?_))
    all_goals (try rw [bk_110_1])
    all_goals (repeat' (first | (simp (disch := first | assumption | exact Nat.le_of_ble_eq_true rfl | omega) only [bk_110_0, eo_1_0, eo_6, v10_2, ev_ki, ev_kv, eo_3_1n, eo_3_1i, eo_3_1r, eo_3_2n, eo_3_2i, eo_3_2r, v10_1, eo_3_3n, eo_3_3i, eo_3_3r, eo_0_1, eo_0_2, eo_53, bk_110_1, eo_0_3, eo_52, bk_110_2, bk_110_3, v10_3, bk_110_4, bk_110_5, bk_110_6, eo_56z, bk_110_7, eo_3_4n, eo_3_4i, eo_3_4r, eo_3_5n, eo_3_5i, eo_3_5r, eo_0_5, eo_3_6n, eo_3_6i, eo_3_6r, eo_3_7n, eo_3_7i, eo_3_7r, eo_3_8n, eo_3_8i, eo_3_8r, eo_3_9n, eo_3_9i, eo_3_9r, eo_0_9, v10_4, eo_3_10n, eo_3_10i, eo_3_10r, eo_0_10, eo_10, eo_12, eo_3_11n, eo_3_11i, eo_3_11r, bk_110_10, bk_110_11, eo_3_12n, eo_3_12i, eo_3_12r, eo_0_8, eo_0_12, bk_110_12, bk_110_13, bk_110_14, eo_0_6, eo_0_11, bk_110_15, bk_110_16, eo_0_7, eo_23_9n, eo_23_9i, eo_23_9r, bk_110_17, bk_110_18, bk_110_19, bk_110_20, bk_110_21, eo_0_4, eo_23_5n, eo_23_5i, eo_23_5r, bk_110_22, bk_110_23, bk_110_24, vb_0, vb_1, vb_2, vb_3, vb_4, vb_6, vb_7, vc_0, vc_1, vc_2, vc_3, vc_4, vc_5, vn_0, vn_1, vn_2, vn_3, vn_4, vn_5, vn_6, vn_7, vn_9, vn_10, vr_0, ev_lc_s, el_3, el_4, el_6, Int.add_zero, Int.add_sub_cancel, Int.reduceAdd, Int.reduceMul, Int.reduceSub, Int.reduceNeg, ev_wr_id]) | ((first | with_reducible refine wb_40 ?_ ?_ | with_reducible refine wb_41 ?_ ?_ | with_reducible refine wb_42 ?_ ?_ | with_reducible refine wb_43 ?_ ?_ | with_reducible refine wb_44 ?_ ?_ | with_reducible refine wb_45 ?_ ?_ | with_reducible refine wb_46 ?_ ?_ | with_reducible refine wb_47 ?_ ?_ | with_reducible refine wb_48 ?_ ?_ | with_reducible refine wb_49 ?_ ?_ | with_reducible refine wb_50 ?_ ?_ | with_reducible refine wb_51 ?_ ?_) <;> intro h <;> try simp (disch := first | assumption | exact Nat.le_of_ble_eq_true rfl | omega) only [ev_wr_id, not_true_eq_false, not_false_eq_true, Int.reduceEq, Int.reduceLT, Int.reduceLE, and_self, and_true, true_and, and_false, false_and, reduceIte] at h <;> try (exfalso; omega; done)) | refine wk (q_75 (by assumption) (by omega)) (fun σ hA => ?_) | refine wk (q_78 (by assumption) (by omega) (by omega) (by omega)) (fun σ hA => ?_) | refine wk (q_92 (by assumption) (by omega) (by omega)) (fun σ hA => ?_) | refine wk (q_93 (by assumption) (by omega) (by omega)) (fun σ hA => ?_)))
    all_goals exact ab_Pr (by assumption)
  · have e3 : 0 < T 3 := by omega
    have hu0 : st_vl T 0 3 = -1 := by
      rw [vl_3]
      exact c3 0 (by omega)
    clear hut c3
    repeat' (first | (simp (disch := first | assumption | exact Nat.le_of_ble_eq_true rfl | omega) only [bk_110_0, eo_1_0, eo_6, v10_2, ev_ki, ev_kv, eo_3_1n, eo_3_1i, eo_3_1r, eo_3_2n, eo_3_2i, eo_3_2r, v10_1, eo_3_3n, eo_3_3i, eo_3_3r, eo_0_1, eo_0_2, eo_53, bk_110_1, eo_0_3, eo_52, bk_110_2, bk_110_3, v10_3, bk_110_4, bk_110_5, bk_110_6, eo_56z, eo_3_4n, eo_3_4i, eo_3_4r, eo_3_5n, eo_3_5i, eo_3_5r, eo_0_5, eo_3_6n, eo_3_6i, eo_3_6r, eo_3_7n, eo_3_7i, eo_3_7r, eo_3_8n, eo_3_8i, eo_3_8r, eo_3_9n, eo_3_9i, eo_3_9r, eo_0_9, v10_4, eo_3_10n, eo_3_10i, eo_3_10r, eo_0_10, eo_10, eo_12, eo_3_11n, eo_3_11i, eo_3_11r, bk_110_10, bk_110_11, eo_3_12n, eo_3_12i, eo_3_12r, eo_0_8, eo_0_12, bk_110_12, bk_110_13, bk_110_14, eo_0_6, eo_0_11, bk_110_15, bk_110_16, eo_0_7, eo_23_9n, eo_23_9i, eo_23_9r, bk_110_17, bk_110_18, bk_110_19, bk_110_20, bk_110_21, eo_0_4, eo_23_5n, eo_23_5i, eo_23_5r, bk_110_22, bk_110_23, bk_110_24, vb_0, vb_1, vb_2, vb_3, vb_4, vb_6, vb_7, vc_0, vc_1, vc_2, vc_3, vc_4, vc_5, vn_0, vn_1, vn_2, vn_3, vn_4, vn_5, vn_6, vn_7, vn_9, vn_10, vr_0, ev_lc_s, el_3, el_4, el_6, Int.add_zero, Int.add_sub_cancel, Int.reduceAdd, Int.reduceMul, Int.reduceSub, Int.reduceNeg, ev_wr_id]) | ((first | with_reducible refine wb_40 ?_ ?_ | with_reducible refine wb_41 ?_ ?_ | with_reducible refine wb_42 ?_ ?_ | with_reducible refine wb_43 ?_ ?_ | with_reducible refine wb_44 ?_ ?_ | with_reducible refine wb_45 ?_ ?_ | with_reducible refine wb_46 ?_ ?_ | with_reducible refine wb_47 ?_ ?_ | with_reducible refine wb_48 ?_ ?_ | with_reducible refine wb_49 ?_ ?_ | with_reducible refine wb_50 ?_ ?_ | with_reducible refine wb_51 ?_ ?_) <;> intro h <;> try simp (disch := first | assumption | exact Nat.le_of_ble_eq_true rfl | omega) only [ev_wr_id, not_true_eq_false, not_false_eq_true, Int.reduceEq, Int.reduceLT, Int.reduceLE, and_self, and_true, true_and, and_false, false_and, reduceIte] at h <;> try (exfalso; omega; done)) | refine wk (q_75 (by assumption) (by omega)) (fun σ hA => ?_) | refine wk (q_78 (by assumption) (by omega) (by omega) (by omega)) (fun σ hA => ?_) | refine wk (q_92 (by assumption) (by omega) (by omega)) (fun σ hA => ?_) | refine wk (q_93 (by assumption) (by omega) (by omega)) (fun σ hA => ?_))
    all_goals (try rw [bk_110_1])
    all_goals (repeat' (first | (simp (disch := first | assumption | exact Nat.le_of_ble_eq_true rfl | omega) only [bk_110_0, eo_1_0, eo_6, v10_2, ev_ki, ev_kv, eo_3_1n, eo_3_1i, eo_3_1r, eo_3_2n, eo_3_2i, eo_3_2r, v10_1, eo_3_3n, eo_3_3i, eo_3_3r, eo_0_1, eo_0_2, eo_53, bk_110_1, eo_0_3, eo_52, bk_110_2, bk_110_3, v10_3, bk_110_4, bk_110_5, bk_110_6, eo_56z, bk_110_7, eo_3_4n, eo_3_4i, eo_3_4r, eo_3_5n, eo_3_5i, eo_3_5r, eo_0_5, eo_3_6n, eo_3_6i, eo_3_6r, eo_3_7n, eo_3_7i, eo_3_7r, eo_3_8n, eo_3_8i, eo_3_8r, eo_3_9n, eo_3_9i, eo_3_9r, eo_0_9, v10_4, eo_3_10n, eo_3_10i, eo_3_10r, eo_0_10, eo_10, eo_12, eo_3_11n, eo_3_11i, eo_3_11r, bk_110_10, bk_110_11, eo_3_12n, eo_3_12i, eo_3_12r, eo_0_8, eo_0_12, bk_110_12, bk_110_13, bk_110_14, eo_0_6, eo_0_11, bk_110_15, bk_110_16, eo_0_7, eo_23_9n, eo_23_9i, eo_23_9r, bk_110_17, bk_110_18, bk_110_19, bk_110_20, bk_110_21, eo_0_4, eo_23_5n, eo_23_5i, eo_23_5r, bk_110_22, bk_110_23, bk_110_24, hu0, vb_0, vb_1, vb_2, vb_3, vb_4, vb_6, vb_7, vc_0, vc_1, vc_2, vc_3, vc_4, vc_5, vn_0, vn_1, vn_2, vn_3, vn_4, vn_5, vn_6, vn_7, vn_9, vn_10, vr_0, ev_lc_s, el_3, el_4, el_6, Int.add_zero, Int.add_sub_cancel, Int.reduceAdd, Int.reduceMul, Int.reduceSub, Int.reduceNeg, ev_wr_id]) | ((first | with_reducible refine wb_40 ?_ ?_ | with_reducible refine wb_41 ?_ ?_ | with_reducible refine wb_42 ?_ ?_ | with_reducible refine wb_43 ?_ ?_ | with_reducible refine wb_44 ?_ ?_ | with_reducible refine wb_45 ?_ ?_ | with_reducible refine wb_46 ?_ ?_ | with_reducible refine wb_47 ?_ ?_ | with_reducible refine wb_48 ?_ ?_ | with_reducible refine wb_49 ?_ ?_ | with_reducible refine wb_50 ?_ ?_ | with_reducible refine wb_51 ?_ ?_) <;> intro h <;> try simp (disch := first | assumption | exact Nat.le_of_ble_eq_true rfl | omega) only [ev_wr_id, not_true_eq_false, not_false_eq_true, Int.reduceEq, Int.reduceLT, Int.reduceLE, and_self, and_true, true_and, and_false, false_and, reduceIte] at h <;> try (exfalso; omega; done)) | refine wk (q_75 (by assumption) (by omega)) (fun σ hA => ?_) | refine wk (q_78 (by assumption) (by omega) (by omega) (by omega)) (fun σ hA => ?_) | refine wk (q_92 (by assumption) (by omega) (by omega)) (fun σ hA => ?_) | refine wk (q_93 (by assumption) (by omega) (by omega)) (fun σ hA => ?_)))
    all_goals exact ab_Pr (by assumption)
  · have e3 : 0 < T 3 := by omega
    have hle : ∀ b, 0 ≤ b → b < T 4 → c ≤ st_pa T b := fun b b0 b1 => by
      rw [c4, ← st_pa_s (B := T 4) e3 ⟨b0, b1⟩]
      exact (c5 (fun _ => b) (fun k hk => ⟨b0, b1⟩)).1
    have hsum : ev_ss (st_py T (st_ut T)) (T 4).toNat 0 0 = c := by rw [c4, st_py_s c3]
    have hc0 : 0 ≤ c := by
      have h1 := st_sc_in (c := st_co T) (a := st_ut T) (m := 891) (T 3).toNat (fun k hk => st_co_in hI (by omega) (c3 k hk))
      have h2 := ev_ss_in (f := fun b => st_us (st_ut T) b (T 3).toNat * st_fe T b) (m := 999) (T 4).toNat 0 (st_sc (st_co T) (st_ut T) (T 3).toNat) (fun q q0 q1 => by
        have k1 := st_us_in (a := st_ut T) (b := q) (T 3).toNat
        have k2 := (hI.2.2.2.2.2.2 q q0 (by omega)).1
        have k3 : st_fe T q = T (323 + 5 * q) := rfl
        rcases (show st_us (st_ut T) q (T 3).toNat = 0 ∨ st_us (st_ut T) q (T 3).toNat = 1 by omega) with e | e <;> rw [e] <;> omega)
      have h3 : c = ev_ss (fun b => st_us (st_ut T) b (T 3).toNat * st_fe T b) (T 4).toNat 0 (st_sc (st_co T) (st_ut T) (T 3).toNat) := c4
      omega
    have key := l_110 (hs := hs) (c := c) hI e3 hut ⟨hc0, hc2⟩ hle hsum (T 4).toNat 0 0
    have key := fun p6 p7 p8 p9 p10 p11 p12 σ hA => key p6 p7 p8 p9 p10 p11 p12 σ rfl (by omega) hA
    clear hle hsum c3 c4 c5 hut
    repeat' (first | (simp (disch := first | assumption | exact Nat.le_of_ble_eq_true rfl | omega) only [bk_110_0, eo_1_0, eo_6, v10_2, ev_ki, ev_kv, eo_3_1n, eo_3_1i, eo_3_1r, eo_3_2n, eo_3_2i, eo_3_2r, v10_1, eo_3_3n, eo_3_3i, eo_3_3r, eo_0_1, eo_0_2, eo_53, bk_110_1, eo_0_3, eo_52, bk_110_2, bk_110_3, v10_3, bk_110_4, bk_110_5, bk_110_6, eo_56z, eo_3_4n, eo_3_4i, eo_3_4r, eo_3_5n, eo_3_5i, eo_3_5r, eo_0_5, eo_3_6n, eo_3_6i, eo_3_6r, eo_3_7n, eo_3_7i, eo_3_7r, eo_3_8n, eo_3_8i, eo_3_8r, eo_3_9n, eo_3_9i, eo_3_9r, eo_0_9, v10_4, eo_3_10n, eo_3_10i, eo_3_10r, eo_0_10, eo_10, eo_12, eo_3_11n, eo_3_11i, eo_3_11r, bk_110_10, bk_110_11, eo_3_12n, eo_3_12i, eo_3_12r, eo_0_8, eo_0_12, bk_110_12, bk_110_13, bk_110_14, eo_0_6, eo_0_11, bk_110_15, bk_110_16, eo_0_7, eo_23_9n, eo_23_9i, eo_23_9r, bk_110_17, bk_110_18, bk_110_19, bk_110_20, bk_110_21, eo_0_4, eo_23_5n, eo_23_5i, eo_23_5r, bk_110_22, bk_110_23, bk_110_24, vb_0, vb_1, vb_2, vb_3, vb_4, vb_6, vb_7, vc_0, vc_1, vc_2, vc_3, vc_4, vc_5, vn_0, vn_1, vn_2, vn_3, vn_4, vn_5, vn_6, vn_7, vn_9, vn_10, vr_0, ev_lc_s, el_3, el_4, el_6, Int.add_zero, Int.add_sub_cancel, Int.reduceAdd, Int.reduceMul, Int.reduceSub, Int.reduceNeg, ev_wr_id]) | ((first | with_reducible refine wb_40 ?_ ?_ | with_reducible refine wb_41 ?_ ?_ | with_reducible refine wb_42 ?_ ?_ | with_reducible refine wb_43 ?_ ?_ | with_reducible refine wb_44 ?_ ?_ | with_reducible refine wb_45 ?_ ?_ | with_reducible refine wb_46 ?_ ?_ | with_reducible refine wb_47 ?_ ?_ | with_reducible refine wb_48 ?_ ?_ | with_reducible refine wb_49 ?_ ?_ | with_reducible refine wb_50 ?_ ?_ | with_reducible refine wb_51 ?_ ?_) <;> intro h <;> try simp (disch := first | assumption | exact Nat.le_of_ble_eq_true rfl | omega) only [ev_wr_id, not_true_eq_false, not_false_eq_true, Int.reduceEq, Int.reduceLT, Int.reduceLE, and_self, and_true, true_and, and_false, false_and, reduceIte] at h <;> try (exfalso; omega; done)) | refine wk (q_75 (by assumption) (by omega)) (fun σ hA => ?_) | refine wk (q_78 (by assumption) (by omega) (by omega) (by omega)) (fun σ hA => ?_) | refine wk (q_92 (by assumption) (by omega) (by omega)) (fun σ hA => ?_) | refine wk (q_93 (by assumption) (by omega) (by omega)) (fun σ hA => ?_))
    all_goals rw [bk_110_7]
    all_goals (repeat' (first | (simp (disch := first | assumption | exact Nat.le_of_ble_eq_true rfl | omega) only [bk_110_0, eo_1_0, eo_6, v10_2, ev_ki, ev_kv, eo_3_1n, eo_3_1i, eo_3_1r, eo_3_2n, eo_3_2i, eo_3_2r, v10_1, eo_3_3n, eo_3_3i, eo_3_3r, eo_0_1, eo_0_2, eo_53, bk_110_1, eo_0_3, eo_52, bk_110_2, bk_110_3, v10_3, bk_110_4, bk_110_5, bk_110_6, eo_56z, bk_110_7, eo_3_4n, eo_3_4i, eo_3_4r, eo_3_5n, eo_3_5i, eo_3_5r, eo_0_5, eo_3_6n, eo_3_6i, eo_3_6r, eo_3_7n, eo_3_7i, eo_3_7r, eo_3_8n, eo_3_8i, eo_3_8r, eo_3_9n, eo_3_9i, eo_3_9r, eo_0_9, v10_4, eo_3_10n, eo_3_10i, eo_3_10r, eo_0_10, eo_10, eo_12, eo_3_11n, eo_3_11i, eo_3_11r, bk_110_10, bk_110_11, eo_3_12n, eo_3_12i, eo_3_12r, eo_0_8, eo_0_12, bk_110_12, bk_110_13, bk_110_14, eo_0_6, eo_0_11, bk_110_15, bk_110_16, eo_0_7, eo_23_9n, eo_23_9i, eo_23_9r, bk_110_17, bk_110_18, bk_110_19, bk_110_20, bk_110_21, eo_0_4, eo_23_5n, eo_23_5i, eo_23_5r, bk_110_22, bk_110_23, bk_110_24, vb_0, vb_1, vb_2, vb_3, vb_4, vb_6, vb_7, vc_0, vc_1, vc_2, vc_3, vc_4, vc_5, vn_0, vn_1, vn_2, vn_3, vn_4, vn_5, vn_6, vn_7, vn_9, vn_10, vr_0, ev_lc_s, el_3, el_4, el_6, Int.add_zero, Int.add_sub_cancel, Int.reduceAdd, Int.reduceMul, Int.reduceSub, Int.reduceNeg, ev_wr_id]) | ((first | with_reducible refine wb_40 ?_ ?_ | with_reducible refine wb_41 ?_ ?_ | with_reducible refine wb_42 ?_ ?_ | with_reducible refine wb_43 ?_ ?_ | with_reducible refine wb_44 ?_ ?_ | with_reducible refine wb_45 ?_ ?_ | with_reducible refine wb_46 ?_ ?_ | with_reducible refine wb_47 ?_ ?_ | with_reducible refine wb_48 ?_ ?_ | with_reducible refine wb_49 ?_ ?_ | with_reducible refine wb_50 ?_ ?_ | with_reducible refine wb_51 ?_ ?_) <;> intro h <;> try simp (disch := first | assumption | exact Nat.le_of_ble_eq_true rfl | omega) only [ev_wr_id, not_true_eq_false, not_false_eq_true, Int.reduceEq, Int.reduceLT, Int.reduceLE, and_self, and_true, true_and, and_false, false_and, reduceIte] at h <;> try (exfalso; omega; done)) | refine wk (q_75 (by assumption) (by omega)) (fun σ hA => ?_) | refine wk (q_78 (by assumption) (by omega) (by omega) (by omega)) (fun σ hA => ?_) | refine wk (q_92 (by assumption) (by omega) (by omega)) (fun σ hA => ?_) | refine wk (q_93 (by assumption) (by omega) (by omega)) (fun σ hA => ?_)))
    all_goals exact key _ _ _ _ _ _ _ _ (by assumption)
end LAW9
