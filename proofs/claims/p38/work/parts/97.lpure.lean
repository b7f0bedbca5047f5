/-! what the law asks at its end, of the rows -/
theorem ev_fo_nn (r : Int) (st : Int → Int) : ∀ (k : Nat) (o acc : Int), 0 ≤ acc → 0 ≤ ev_fo r st k o acc := by
  intro k
  induction k with
  | zero => exact fun o acc h => h
  | succ k ih =>
    intro o acc h
    refine ih (o + 1) _ ?_
    split
    · next c => omega
    · exact h
theorem ev_sf_nn {ra re : Int → Int} {n : Int} : ∀ k : Nat, (k : Int) ≤ n → (∀ c, 0 ≤ c → c < n → 0 ≤ ra c) → ∀ c, n - k ≤ c → c < n → 0 ≤ ev_sf ra re n k c := by
  intro k
  induction k with
  | zero => intro _ _ c h0 h1; omega
  | succ k ih =>
    intro hk hra c c0 c1
    show 0 ≤ ev_u1 (ev_sf ra re n k) (n - 1 - k) _ c
    by_cases x : c = n - 1 - k
    · rw [ev_u1_eq x]
      have h1 := ev_fo_nn (re (n - 1 - k)) (ev_sf ra re n k) k (n - k) (ev_g0 (re (n - 1 - k))) (ev_g0_in _).1
      have h2 := hra (n - 1 - k) (by omega) (by omega)
      split <;> assumption
    · rw [ev_u1_ne x]
      exact ih (by omega) hra c (by omega) c1
section LPU
variable {T : Int → Int}
/-- a rating is one of the components' ratings and rests -/
theorem st_rt_c {U : Int → Int} {b : Int} (hn : 0 ≤ T (89 + 5 * b + 1)) (h1 : U (89 + 5 * b + 1) = T (89 + 5 * b + 1)) (h : ∀ c, 0 ≤ c → c < T (89 + 5 * b + 1) → U (119 + 30 * b + 5 * c + 1) = T (119 + 30 * b + 5 * c + 1) ∧ U (119 + 30 * b + 5 * c + 4) = T (119 + 30 * b + 5 * c + 4)) : st_rt U b = st_rt T b := by
  unfold st_rt
  rw [h1]
  exact ev_tr_congr hn h
theorem st_rt_look {b : Int} (hI : st_I T) (hb : 0 ≤ b ∧ b < T 2) : st_rt (st_look T b) b = st_rt T b := by
  have hb1 := (hI.2.2.1 b hb.1 hb.2).2.1
  have i2 := hI.1.2.2.1
  unfold st_look
  refine st_rt_c hb1.1 ?_ (fun c c0 c1 => ⟨?_, ?_⟩) <;> rw [ev_u1_ne (by omega), ev_u1_ne (by omega), ev_u1_ne (by omega), ev_u1_ne (by omega)]
theorem st_rt_lo {b c v : Int} (hI : st_I T) (hb : 0 ≤ b ∧ b < T 2) (hc : 0 ≤ c ∧ c < T (89 + 5 * b + 1)) (hv : 0 < T (119 + 30 * b + 5 * c + 1)) (hv2 : v = T (119 + 30 * b + 5 * c + 1) - 1) : st_rt (st_nrate T b c v) b = st_rt (st_lo T b c) b := by
  have hb1 := (hI.2.2.1 b hb.1 hb.2).2.1
  have i2 := hI.1.2.2.1
  have e1 : ∀ q, q ≠ 119 + 30 * b + 5 * c + 2 → st_nrate T b c v q = st_lo T b c q := fun q hq => by
    unfold st_nrate st_lo
    rw [ev_u1_ne hq, if_pos hv, hv2]
  have e2 : st_lo T b c (89 + 5 * b + 1) = T (89 + 5 * b + 1) := ev_u1_ne (by omega)
  exact st_rt_c (by rw [e2]; exact hb1.1) (e1 _ (by omega)) (fun q q0 q1 => ⟨e1 _ (by omega), e1 _ (by omega)⟩)
theorem ev_ob_tab : ∀ s : Fin 64, ∀ c : Fin 6, (0 ≤ ev_or (s.val : Int) (ev_shl 1 (c.val : Int)) ∧ ev_or (s.val : Int) (ev_shl 1 (c.val : Int)) < 64) ∧ ∀ q : Fin 6, ev_bt (ev_or (s.val : Int) (ev_shl 1 (c.val : Int))) (q.val : Int) ↔ (ev_bt (s.val : Int) (q.val : Int) ∨ q.val = c.val) := by decide +kernel
theorem ev_ob {s c : Int} (hs : 0 ≤ s ∧ s < 64) (hc : 0 ≤ c ∧ c < 6) : (0 ≤ ev_or s (ev_shl 1 c) ∧ ev_or s (ev_shl 1 c) < 64) ∧ ∀ q, 0 ≤ q → q < 6 → (ev_bt (ev_or s (ev_shl 1 c)) q ↔ (ev_bt s q ∨ q = c)) := by
  obtain ⟨n, rfl⟩ : ∃ n : Nat, s = n := ⟨s.toNat, by omega⟩
  obtain ⟨p, rfl⟩ : ∃ n : Nat, c = n := ⟨c.toNat, by omega⟩
  have h := ev_ob_tab ⟨n, by omega⟩ ⟨p, by omega⟩
  refine ⟨h.1, fun q q0 q1 => ?_⟩
  obtain ⟨k, rfl⟩ : ∃ n : Nat, q = n := ⟨q.toNat, by omega⟩
  have h2 := h.2 ⟨k, by omega⟩
  dsimp only at h2
  rw [h2]
  constructor <;> intro x <;> rcases x with x | x
  · exact Or.inl x
  · exact Or.inr (by omega)
  · exact Or.inl x
  · exact Or.inr (by omega)
/-- the set of what is weak, bit by bit -/
theorem st_wkf_b {b n : Int} (hn6 : n ≤ 6) : ∀ (k : Nat) (c s : Int), 0 ≤ c → c + k = n → (0 ≤ s ∧ s < 64) → (0 ≤ st_wkf T b k c s ∧ st_wkf T b k c s < 64) ∧ ∀ q, 0 ≤ q → q < 6 → (ev_bt (st_wkf T b k c s) q ↔ (ev_bt s q ∨ (c ≤ q ∧ q < n ∧ st_rt (st_lo T b q) b < st_rt T b))) := by
  intro k
  induction k with
  | zero =>
    intro c s c0 c1 hs
    refine ⟨hs, fun q q0 q1 => ⟨fun h => Or.inl h, fun h => ?_⟩⟩
    rcases h with h | h
    · exact h
    · omega
  | succ k ih =>
    intro c s c0 c1 hs
    have ho := ev_ob hs (c := c) (by omega)
    rw [show st_wkf T b (k + 1) c s = st_wkf T b k (c + 1) (if st_rt (st_lo T b c) b < st_rt T b then ev_or s (ev_shl 1 c) else s) from rfl]
    by_cases x : st_rt (st_lo T b c) b < st_rt T b
    · rw [if_pos x]
      have h := ih (c + 1) (ev_or s (ev_shl 1 c)) (by omega) (by omega) ho.1
      refine ⟨h.1, fun q q0 q1 => ?_⟩
      rw [h.2 q q0 q1, ho.2 q q0 q1]
      constructor
      · rintro ((y | y) | y)
        · exact Or.inl y
        · subst y
          exact Or.inr ⟨by omega, by omega, x⟩
        · exact Or.inr ⟨by omega, y.2⟩
      · rintro (y | y)
        · exact Or.inl (Or.inl y)
        · by_cases z : q = c
          · exact Or.inl (Or.inr z)
          · exact Or.inr ⟨by omega, y.2⟩
    · rw [if_neg x]
      have h := ih (c + 1) s (by omega) (by omega) hs
      refine ⟨h.1, fun q q0 q1 => ?_⟩
      rw [h.2 q q0 q1]
      constructor
      · rintro (y | y)
        · exact Or.inl y
        · exact Or.inr ⟨by omega, y.2⟩
      · rintro (y | y)
        · exact Or.inl y
        · by_cases z : q = c
          · subst z
            exact absurd y.2.2 x
          · exact Or.inr ⟨by omega, y.2⟩
theorem st_wk {b c : Int} (hI : st_I T) (hb : 0 ≤ b ∧ b < T 2) (hc : 0 ≤ c ∧ c < T (89 + 5 * b + 1)) : ev_and (ev_shr (st_wkf T b (T (89 + 5 * b + 1)).toNat 0 0) c) 1 = 1 ↔ st_rt (st_lo T b c) b < st_rt T b := by
  have hb1 := (hI.2.2.1 b hb.1 hb.2).2.1
  have h := st_wkf_b (T := T) (b := b) (n := T (89 + 5 * b + 1)) hb1.2 (T (89 + 5 * b + 1)).toNat 0 0 (by omega) (by omega) (by omega)
  have h2 := (ev_bits (r := st_wkf T b (T (89 + 5 * b + 1)).toNat 0 0) (o := c) (by omega) (by omega)).2.1
  rw [h2, h.2 c hc.1 (by omega)]
  constructor
  · rintro (y | y)
    · exact absurd y (ev_bt_0 c)
    · exact y.2.2
  · exact fun y => Or.inr ⟨hc.1, hc.2, y⟩
theorem st_lo_0 {b c : Int} (h : ¬ 0 < T (119 + 30 * b + 5 * c + 1)) (hI : st_I T) (hb : 0 ≤ b ∧ b < T 2) (hc : 0 ≤ c ∧ c < T (89 + 5 * b + 1)) : ¬ st_rt (st_lo T b c) b < st_rt T b := by
  have hra := (hI.2.2.2.2.1 b c hb.1 hb.2 hc.1 hc.2).2.1
  have e : st_lo T b c = T := by
    unfold st_lo
    rw [if_neg h]
    exact ev_u1_self (by omega)
  rw [e]
  omega
theorem st_wt_in {b y : Int} (hI : st_I T) (hb : 0 ≤ b ∧ b < T 2) : 0 ≤ st_wt T b y := by
  have hb1 := (hI.2.2.1 b hb.1 hb.2).2.1
  unfold st_wt ev_tr
  split
  · exact Int.le_refl _
  · refine (ev_sf_nn (T (89 + 5 * b + 1)).toNat (by omega) (fun c c0 c1 => ?_) 0 (by omega) (by omega))
    unfold st_ra
    split <;> omega
theorem st_y_ra {x w m r : Int} (hw : 0 ≤ w) (hr : 0 ≤ r) (hm : 0 ≤ m * r) : (if 0 < (if 0 < x - (w + m * r) / 100 then x - (w + m * r) / 100 else 0) - ((w + m * r) % 100 + 1 * r) / 100 then (if 0 < x - (w + m * r) / 100 then x - (w + m * r) / 100 else 0) - ((w + m * r) % 100 + 1 * r) / 100 else 0) = if 0 < x - (w + (m + 1) * r) / 100 then x - (w + (m + 1) * r) / 100 else 0 := by
  have e : (m + 1) * r = m * r + r := by rw [Int.add_mul, Int.one_mul]
  rw [e, Int.one_mul]
  generalize m * r = k at hm ⊢
  have h1 : (w + (k + r)) / 100 = (w + k) / 100 + ((w + k) % 100 + r) / 100 := by omega
  rw [h1]
  generalize (w + k) / 100 = A
  have h2 : 0 ≤ ((w + k) % 100 + r) / 100 := by omega
  generalize ((w + k) % 100 + r) / 100 = B at h2 ⊢
  (repeat' split) <;> omega
/-- a year more -/
theorem st_wt_1 {b m : Int} {U : Int → Int} (hI : st_I T) (hb : 0 ≤ b ∧ b < T 2) (hm : 0 ≤ m ∧ T 5 + m ≤ 1000) (h : st_nyear T m U) : st_wt U b 1 = st_wt T b (m + 1) := by
  have i5 := hI.1.2.2.2.2.2
  have hI2 := pi_year hI (v := T 5 + m) (by omega) hm.2
  have hb1 := (hI.2.2.1 b hb.1 hb.2).2.1
  have i2 := hI.1.2.2.1
  have e2 : (ev_u1 T 5 (T 5 + m)) 2 = T 2 := ev_u1_ne (by omega)
  have en : (ev_u1 T 5 (T 5 + m)) (89 + 5 * b + 1) = T (89 + 5 * b + 1) := ev_u1_ne (by omega)
  have e1 : U (89 + 5 * b + 1) = T (89 + 5 * b + 1) := by rw [st_G_lo hI2 h _ (by omega) (by omega), en]
  unfold st_wt
  rw [e1]
  refine ev_tr_congr hb1.1 (fun c c0 c1 => ⟨?_, ?_⟩)
  · have hc := hI.2.2.2.2.1 b c hb.1 hb.2 c0 c1
    have hg := h.1 b c hb.1 (by rw [e2]; exact hb.2) c0 (by rw [en]; exact c1)
    have h3 := st_G_p hI2 h (b := b) (c := c) (o := 3) ⟨hb.1, by omega⟩ ⟨c0, by omega⟩ (Or.inr (Or.inl rfl))
    have k1 : (ev_u1 T 5 (T 5 + m)) (119 + 30 * b + 5 * c + 1) = T (119 + 30 * b + 5 * c + 1) := ev_u1_ne (by omega)
    have k2 : (ev_u1 T 5 (T 5 + m)) (119 + 30 * b + 5 * c + 2) = T (119 + 30 * b + 5 * c + 2) := ev_u1_ne (by omega)
    have k3 : (ev_u1 T 5 (T 5 + m)) (119 + 30 * b + 5 * c + 3) = T (119 + 30 * b + 5 * c + 3) := ev_u1_ne (by omega)
    unfold st_ra st_we at hg
    rw [k1, k2, k3] at hg
    rw [k3] at h3
    show st_ra U b c 1 = st_ra T b c (m + 1)
    unfold st_ra
    rw [hg.1, hg.2, h3]
    exact st_y_ra hc.2.2.1.1 hc.2.2.2.1.1 (Int.mul_nonneg hm.1 hc.2.2.2.1.1)
  · have h4 := st_G_p hI2 h (b := b) (c := c) (o := 4) ⟨hb.1, by omega⟩ ⟨c0, by omega⟩ (Or.inr (Or.inr rfl))
    have k4 : (ev_u1 T 5 (T 5 + m)) (119 + 30 * b + 5 * c + 4) = T (119 + 30 * b + 5 * c + 4) := ev_u1_ne (by omega)
    exact h4.trans k4
theorem st_rt_year {b m : Int} {U : Int → Int} (hI : st_I T) (hb : 0 ≤ b ∧ b < T 2) (hm : 0 ≤ m ∧ T 5 + m ≤ 1000) (h : st_nyear T m U) : st_rt U b = st_wt T b m := by
  have i5 := hI.1.2.2.2.2.2
  have hI2 := pi_year hI (v := T 5 + m) (by omega) hm.2
  have e2 : (ev_u1 T 5 (T 5 + m)) 2 = T 2 := ev_u1_ne (by omega)
  have hb1 := (hI.2.2.1 b hb.1 hb.2).2.1
  have i2 := hI.1.2.2.1
  rw [st_wt_G hI2 (by rw [e2]; exact hb) h (fun c _ => rfl)]
  unfold st_wt
  rw [show (ev_u1 T 5 (T 5 + m)) (89 + 5 * b + 1) = T (89 + 5 * b + 1) from ev_u1_ne (by omega)]
  refine ev_tr_congr hb1.1 (fun c c0 c1 => ⟨?_, ev_u1_ne (by omega)⟩)
  show st_ra _ b c m = st_ra T b c m
  unfold st_ra
  rw [show (ev_u1 T 5 (T 5 + m)) (119 + 30 * b + 5 * c + 1) = T (119 + 30 * b + 5 * c + 1) from ev_u1_ne (by omega), show (ev_u1 T 5 (T 5 + m)) (119 + 30 * b + 5 * c + 2) = T (119 + 30 * b + 5 * c + 2) from ev_u1_ne (by omega), show (ev_u1 T 5 (T 5 + m)) (119 + 30 * b + 5 * c + 3) = T (119 + 30 * b + 5 * c + 3) from ev_u1_ne (by omega)]
/-- repairs don't lower a rating -/
theorem st_md_ge : ∀ (k : Nat) (l : Int) (U : Int → Int), st_I U → 0 ≤ l → l + k = U 3 → ∀ b c, 0 ≤ b → b < U 2 → 0 ≤ c → c < U (89 + 5 * b + 1) → U (119 + 30 * b + 5 * c + 1) ≤ st_md k l U (119 + 30 * b + 5 * c + 1) := by
  intro k
  induction k with
  | zero => exact fun l U _ _ _ b c _ _ _ _ => Int.le_refl _
  | succ k ih =>
    intro l U h h0 h1 b c b0 b1 c0 c1
    have i2 := h.1.2.2.1
    have hm := st_ml_out h (l := l) (by omega)
    have hbb := (h.2.2.1 b b0 b1).2.1
    have hra := (h.2.2.2.2.1 b c b0 b1 c0 c1).2.1
    have hl := h.2.2.2.2.2.1 l h0 (by omega)
    have hbl := (h.2.2.1 _ hl.1.1 hl.1.2).2.1
    rw [show st_md (k + 1) l U = st_md k (l + 1) (st_ml U l) from rfl]
    refine Int.le_trans ?_ (ih (l + 1) _ (st_ml_I h (by omega)) (by omega) (by rw [hm.1 3 (by omega)]; omega) b c b0 (by rw [hm.1 2 (by omega)]; exact b1) c0 (by rw [hm.1 _ (by omega)]; exact c1))
    unfold st_ml
    rw [ev_u1_ne (by omega)]
    by_cases x : 119 + 30 * b + 5 * c + 1 = 119 + 30 * U (299 + 3 * l) + 5 * U (299 + 3 * l + 1) + 1
    · rw [ev_u1_eq x, ← x]
      split <;> omega
    · rw [ev_u1_ne x]
      exact Int.le_refl _
theorem st_behind {b : Int} (hI : st_I T) (hb : 0 ≤ b ∧ b < T 2) : st_rt T b ≤ st_rt (st_md (T 3).toNat 0 T) b := by
  have hb1 := (hI.2.2.1 b hb.1 hb.2).2.1
  have i3 := hI.1.2.2.2.1
  have i2 := hI.1.2.2.1
  have e1 : st_md (T 3).toNat 0 T (89 + 5 * b + 1) = T (89 + 5 * b + 1) := st_md_low (T 3).toNat 0 T hI (by omega) (by omega) _ (by omega)
  unfold st_rt
  rw [e1]
  have h1 := ev_tr_mono (ra := fun c => T (119 + 30 * b + 5 * c + 1)) (ra2 := fun c => st_md (T 3).toNat 0 T (119 + 30 * b + 5 * c + 1)) (re := fun c => T (119 + 30 * b + 5 * c + 4)) hb1.1 (fun c c0 c1 => st_md_ge (T 3).toNat 0 T hI (by omega) (by omega) b c hb.1 hb.2 c0 c1)
  refine Int.le_trans h1 (Int.le_of_eq (ev_tr_congr hb1.1 (fun c c0 c1 => ⟨rfl, ?_⟩)))
  exact (st_md_o (T 3).toNat 0 T hI (by omega) (by omega) b c 4 hb.1 (by omega) c0 (by omega) (Or.inr (Or.inr rfl))).symm
theorem st_rt_mend {b v : Int} (hI : st_I T) (hb : 0 ≤ b ∧ b < T 2) : st_rt (st_nmend T v) b = st_rt (st_md (T 3).toNat 0 T) b := by
  have hb1 := (hI.2.2.1 b hb.1 hb.2).2.1
  have i3 := hI.1.2.2.2.1
  have i2 := hI.1.2.2.1
  have e1 : st_md (T 3).toNat 0 T (89 + 5 * b + 1) = T (89 + 5 * b + 1) := st_md_low (T 3).toNat 0 T hI (by omega) (by omega) _ (by omega)
  unfold st_nmend
  refine st_rt_c (by rw [e1]; exact hb1.1) ?_ (fun c c0 c1 => ⟨?_, ?_⟩) <;> rw [ev_u1_ne (by omega), ev_u1_ne (by omega)]
/-- without a road, or with its bridge closed -/
theorem st_cl {b : Int} (hI : st_I T) (hL : law_I T) (hb : 0 ≤ b ∧ b < T 2) : st_vw T b 10 = if st_wy (ev_u1 T (89 + 5 * b + 4) 1) (T (9 + 4 * T (89 + 5 * b))) (T (9 + 4 * T (89 + 5 * b) + 1)) 10 < 0 then -1 else 1000 + st_wy (ev_u1 T (89 + 5 * b + 4) 1) (T (9 + 4 * T (89 + 5 * b))) (T (9 + 4 * T (89 + 5 * b) + 1)) 10 - T (9 + 4 * T (89 + 5 * b) + 2) := by
  have i2 := hI.1.2.2.1
  have i1 := hI.1.2.1
  have i0 := hI.1.1
  have hbr := (hI.2.2.1 b hb.1 hb.2).1
  have hrb := hL.1 b hb.1 hb.2
  obtain ⟨r, hr⟩ : ∃ r, r = T (89 + 5 * b) := ⟨_, rfl⟩
  unfold st_vw
  rw [← hr] at hbr hrb ⊢
  have hro := hI.2.1 r hbr.1 hbr.2
  have hIc : st_I (ev_u1 T (89 + 5 * b + 4) 1) := pi_close hI (by omega) (by omega)
  obtain ⟨U, hU⟩ : ∃ U, U = ev_u1 T (89 + 5 * b + 4) 1 := ⟨_, rfl⟩
  rw [← hU] at hIc ⊢
  have ne : ∀ q, q ≠ 89 + 5 * b + 4 → U q = T q := fun q hq => by rw [hU]; exact ev_u1_ne hq
  have eq4 : U (89 + 5 * b + 4) = 1 := by rw [hU]; exact ev_u1_eq rfl
  have lim : ∀ q, 0 ≤ q → q < T 1 → st_lim U q = if q = r then 0 else st_lim T q := fun q q0 q1 => by
    unfold st_lim
    rw [ne (9 + 4 * q + 3) (by omega)]
    by_cases x : q = r
    · subst x
      rw [if_pos rfl, hrb, if_neg (by omega), eq4, if_pos rfl]
    · rw [if_neg x]
      by_cases y : T (9 + 4 * q + 3) = -1
      · rw [if_pos y, if_pos y]
      · rw [if_neg y, if_neg y]
        have hq := (hI.2.1 q q0 q1).2.2.2.2
        have hl := hL.2.1 q q0 q1 y
        have hne : T (9 + 4 * q + 3) ≠ b := fun z => by
          rw [z] at hl
          exact x (hl.symm.trans hr.symm)
        rw [ne _ (by omega), ne _ (by omega)]
  have ej : ∀ q x y, st_ej U 10 (-1) q x y ↔ st_ej T 10 r q x y := fun q x y => by
    unfold st_ej st_ub
    rw [ne 1 (by omega)]
    constructor
    · rintro ⟨k1, ⟨-, k3⟩, k4⟩
      rw [ne (9 + 4 * q) (by omega), ne (9 + 4 * q + 1) (by omega)] at k4
      rw [lim q k1.1 k1.2] at k3
      by_cases z : q = r
      · rw [if_pos z] at k3
        omega
      · rw [if_neg z] at k3
        exact ⟨k1, ⟨z, k3⟩, k4⟩
    · rintro ⟨k1, ⟨k2, k3⟩, k4⟩
      rw [ne (9 + 4 * q) (by omega), ne (9 + 4 * q + 1) (by omega), lim q k1.1 k1.2, if_neg k2]
      exact ⟨k1, ⟨by omega, k3⟩, k4⟩
  have e0 := ne 0 (by omega)
  have hs := st_Gs_sp (s := T (9 + 4 * r)) (w := 10) (o := -1) hIc (by rw [e0]; exact hro.1) (by omega) (by omega)
  have hs2 : st_sp T 10 r (T (9 + 4 * r)) (st_Gs U 10 (-1) (T (9 + 4 * r))) := by
    refine ⟨hs.1, hs.2.1, fun q x y he => ?_, fun y y0 y1 y2 y3 => ?_⟩
    · have h := (ej q x y).mpr he
      have k := hs.2.2.1 q x y h
      rw [ne (9 + 4 * q + 2) (by have := he.1; omega)] at k
      exact k
    · obtain ⟨q, x, k1, k2⟩ := hs.2.2.2 y y0 y1 y2 y3
      have h := (ej q x y).mp k1
      rw [ne (9 + 4 * q + 2) (by have := h.1; omega)] at k2
      exact ⟨q, x, h, k2⟩
  have hs3 := st_Gs_sp (s := T (9 + 4 * r)) (w := 10) (o := r) hI hro.1 (by omega) (by omega)
  have hu := st_sp_u hI hs3 hs2 (T (9 + 4 * r + 1)) hro.2.1.1 (by omega)
  have hg := st_gin hs3 (T (9 + 4 * r + 1)) (by omega)
  unfold st_wy
  rw [← hu]
  by_cases c : st_Gs T 10 r (T (9 + 4 * r)) (T (9 + 4 * r + 1)) < 1000000
  · rw [if_pos c, if_pos c, if_neg (by omega)]
  · rw [if_neg c, if_neg c, if_pos (by omega)]
theorem st_heavy {a e w : Int} (hI : st_I T) (ha : 0 ≤ a ∧ a < T 0) (he : 0 ≤ e ∧ e < T 0) (hw : 1 ≤ w ∧ w ≤ 60) : st_R T a w e ↔ 0 ≤ st_wy T a e w := by
  have i0 := hI.1.1
  have hsp := st_Gs_sp (w := w) (o := -1) hI ha (by omega) (by omega)
  have hg := st_gin hsp e (by omega)
  rw [st_R_G hI hsp (by omega)]
  unfold st_wy
  constructor
  · intro h
    rw [if_pos h]
    exact hg.1
  · intro h
    by_cases d : st_Gs T w (-1) a e < 1000000
    · exact d
    · rw [if_neg d] at h
      omega
end LPU
