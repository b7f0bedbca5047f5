/-! years: iterated wear is taken together -/
def st_ra (T : Int → Int) (b c y : Int) : Int := if 0 < T (119 + 30 * b + 5 * c + 1) - (T (119 + 30 * b + 5 * c + 2) + y * T (119 + 30 * b + 5 * c + 3)) / 100 then T (119 + 30 * b + 5 * c + 1) - (T (119 + 30 * b + 5 * c + 2) + y * T (119 + 30 * b + 5 * c + 3)) / 100 else 0
def st_we (T : Int → Int) (b c y : Int) : Int := (T (119 + 30 * b + 5 * c + 2) + y * T (119 + 30 * b + 5 * c + 3)) % 100
def st_G (T U : Int → Int) (f : Int → Int → Int) : Prop :=
  (∀ b c, 0 ≤ b → b < T 2 → 0 ≤ c → c < T (89 + 5 * b + 1) → U (119 + 30 * b + 5 * c + 1) = st_ra T b c (f b c) ∧ U (119 + 30 * b + 5 * c + 2) = st_we T b c (f b c)) ∧
  ∀ k, 0 ≤ k → k < 338 → (∀ b c, 0 ≤ b → b < T 2 → 0 ≤ c → c < T (89 + 5 * b + 1) → k ≠ 119 + 30 * b + 5 * c + 1 ∧ k ≠ 119 + 30 * b + 5 * c + 2) → U k = T k
theorem st_G_0 {T : Int → Int} (hI : st_I T) : st_G T T (fun _ _ => 0) := by
  obtain ⟨⟨i0, i1, i2, i3, i4, i5⟩, hr, hb, hc, hp, hl, hq⟩ := hI
  refine ⟨fun b c h0 h1 h2 h3 => ?_, fun _ _ _ _ => rfl⟩
  have h := hp b c h0 h1 h2 h3
  unfold st_ra st_we
  rw [Int.zero_mul]
  constructor
  · split <;> omega
  · omega
theorem st_G_lo {T U : Int → Int} {f : Int → Int → Int} (hI : st_I T) (h : st_G T U f) : ∀ k, 0 ≤ k → k < 120 → U k = T k :=
  fun k h0 h1 => h.2 k h0 (by omega) (fun b c _ _ _ _ => by omega)
theorem st_G_p {T U : Int → Int} {f : Int → Int → Int} (hI : st_I T) (h : st_G T U f) {b c o : Int} (h0 : 0 ≤ b ∧ b < 6) (h1 : 0 ≤ c ∧ c < 6) (ho : o = 0 ∨ o = 3 ∨ o = 4) : U (119 + 30 * b + 5 * c + o) = T (119 + 30 * b + 5 * c + o) :=
  h.2 _ (by omega) (by omega) (fun b c _ _ _ _ => by omega)
theorem st_G_up {T U : Int → Int} {f : Int → Int → Int} (hI : st_I T) (h : st_G T U f) {b c y : Int} (h0 : 0 ≤ b ∧ b < T 2) (h1 : 0 ≤ c ∧ c < T (89 + 5 * b + 1)) : st_G T (ev_u1 (ev_u1 U (119 + 30 * b + 5 * c + 1) (st_ra T b c y)) (119 + 30 * b + 5 * c + 2) (st_we T b c y)) (fun b' c' => if b' = b ∧ c' = c then y else f b' c') := by
  obtain ⟨⟨i0, i1, i2, i3, i4, i5⟩, hr, hb, hc, hp, hl, hq⟩ := hI
  have hbb := hb b h0.1 h0.2
  refine ⟨fun b' c' q0 q1 q2 q3 => ?_, fun k q0 q1 q2 => ?_⟩
  · have hbb' := hb b' q0 q1
    by_cases hc' : b' = b ∧ c' = c
    · obtain ⟨rfl, rfl⟩ := hc'
      simp only [and_self, if_true]
      rw [ev_u1_ne (by omega), ev_u1_eq rfl, ev_u1_eq rfl]
      exact ⟨rfl, rfl⟩
    · dsimp only
      rw [if_neg hc', ev_u1_ne (by omega), ev_u1_ne (by omega), ev_u1_ne (by omega), ev_u1_ne (by omega)]
      exact h.1 b' c' q0 q1 q2 q3
  · have hk := q2 b c h0.1 h0.2 h1.1 h1.2
    rw [ev_u1_ne hk.2, ev_u1_ne hk.1]
    exact h.2 k q0 q1 q2
theorem st_G_f {T U : Int → Int} {f g : Int → Int → Int} (h : st_G T U f) (hf : ∀ b c, 0 ≤ b → b < T 2 → 0 ≤ c → c < T (89 + 5 * b + 1) → f b c = g b c) : st_G T U g := by
  refine ⟨fun b c h0 h1 h2 h3 => ?_, h.2⟩
  rw [← hf b c h0 h1 h2 h3]
  exact h.1 b c h0 h1 h2 h3
theorem st_G_EU {T U V : Int → Int} {f : Int → Int → Int} (hI : st_I T) (h : st_G T U f) (e : st_E U V) : st_G T V f := by
  obtain ⟨⟨i0, i1, i2, i3, i4, i5⟩, hr, hb, hc, hp, hl, hq⟩ := hI
  refine ⟨fun b c h0 h1 h2 h3 => ?_, fun k h0 h1 h2 => ?_⟩
  · have hbb := hb b h0 h1
    rw [← e _ (by omega) (by omega), ← e _ (by omega) (by omega)]
    exact h.1 b c h0 h1 h2 h3
  · rw [← e k h0 h1]
    exact h.2 k h0 h1 h2
theorem st_G_E {T U V : Int → Int} {f : Int → Int → Int} (h : st_G T U f) (h' : st_G T V f) : st_E U V := by
  intro k h0 h1
  by_cases c : ∀ b c, 0 ≤ b → b < T 2 → 0 ≤ c → c < T (89 + 5 * b + 1) → k ≠ 119 + 30 * b + 5 * c + 1 ∧ k ≠ 119 + 30 * b + 5 * c + 2
  · rw [h.2 k h0 h1 c, h'.2 k h0 h1 c]
  · simp only [Classical.not_forall] at c
    obtain ⟨b, c, q0, q1, q2, q3, q4⟩ := c
    have e1 := h.1 b c q0 q1 q2 q3
    have e2 := h'.1 b c q0 q1 q2 q3
    by_cases c1 : k = 119 + 30 * b + 5 * c + 1
    · rw [c1, e1.1, e2.1]
    · have c2 : k = 119 + 30 * b + 5 * c + 2 := by omega
      rw [c2, e1.2, e2.2]
theorem st_rw_in {T : Int → Int} {b c y : Int} (h1 : 0 ≤ T (119 + 30 * b + 5 * c + 1) ∧ T (119 + 30 * b + 5 * c + 1) ≤ 9) (h2 : 0 ≤ T (119 + 30 * b + 5 * c + 2) ∧ T (119 + 30 * b + 5 * c + 2) ≤ 99) (h3 : 0 ≤ T (119 + 30 * b + 5 * c + 3) ∧ T (119 + 30 * b + 5 * c + 3) ≤ 60) (hy : 0 ≤ y) : (0 ≤ st_ra T b c y ∧ st_ra T b c y ≤ 9) ∧ 0 ≤ st_we T b c y ∧ st_we T b c y ≤ 99 := by
  have h := Int.mul_nonneg hy h3.1
  unfold st_ra st_we
  constructor
  · split <;> omega
  · omega
theorem st_G_I {T U : Int → Int} {f : Int → Int → Int} (hI : st_I T) (h : st_G T U f) (hf : ∀ b c, 0 ≤ f b c) : st_I U := by
  have hlo := st_G_lo hI h
  have hpp := fun b c o => st_G_p hI h (b := b) (c := c) (o := o)
  have hhi : ∀ k, 299 ≤ k → k < 338 → U k = T k := by
    have hb := hI.2.2.1
    have i2 := hI.1.2.2.1
    exact fun k h0 h1 => h.2 k (by omega) (by omega) (fun b c q0 q1 q2 q3 => by have := hb b q0 q1; omega)
  obtain ⟨⟨i0, i1, i2, i3, i4, i5⟩, hr, hb, hc, hp, hl, hq⟩ := hI
  have e2 := hlo 2 (by omega) (by omega)
  refine ⟨?_, fun r h0 h1 => ?_, fun b h0 h1 => ?_, fun b h0 h1 => ?_, fun b c h0 h1 h2 h3 => ?_, fun l h0 h1 => ?_, fun q h0 h1 => ⟨?_, fun z z0 z1 => ?_⟩⟩
  · rw [hlo 0 (by omega) (by omega), hlo 1 (by omega) (by omega), hlo 2 (by omega) (by omega), hlo 3 (by omega) (by omega), hlo 4 (by omega) (by omega), hlo 5 (by omega) (by omega)]
    exact ⟨i0, i1, i2, i3, i4, i5⟩
  · rw [hlo 1 (by omega) (by omega)] at h1
    rw [hlo 0 (by omega) (by omega), hlo 2 (by omega) (by omega), hlo (9 + 4 * r) (by omega) (by omega), hlo (9 + 4 * r + 1) (by omega) (by omega), hlo (9 + 4 * r + 2) (by omega) (by omega), hlo (9 + 4 * r + 3) (by omega) (by omega)]
    exact hr r h0 h1
  · rw [e2] at h1
    rw [hlo 1 (by omega) (by omega), hlo 5 (by omega) (by omega), hlo (89 + 5 * b) (by omega) (by omega), hlo (89 + 5 * b + 1) (by omega) (by omega), hlo (89 + 5 * b + 2) (by omega) (by omega), hlo (89 + 5 * b + 3) (by omega) (by omega)]
    exact hb b h0 h1
  · rw [hlo (89 + 5 * b + 4) (by omega) (by omega)]
    exact hc b h0 h1
  · rw [e2] at h1
    rw [hlo (89 + 5 * b + 1) (by omega) (by omega)] at h3
    have hbb := hb b h0 h1
    have g := h.1 b c h0 h1 h2 h3
    have p0 := hpp b c 0 (by omega) (by omega) (by omega)
    rw [Int.add_zero] at p0
    rw [g.1, g.2, p0, hpp b c 3 (by omega) (by omega) (by omega), hpp b c 4 (by omega) (by omega) (by omega)]
    have p := hp b c h0 h1 h2 h3
    have w := st_rw_in (T := T) (b := b) (c := c) (y := f b c) p.2.1 p.2.2.1 p.2.2.2.1 (hf b c)
    exact ⟨p.1, w.1, w.2, p.2.2.2.1, p.2.2.2.2⟩
  · rw [hlo 3 (by omega) (by omega)] at h1
    have g := hl l h0 h1
    have g2 := hb _ g.1.1 g.1.2
    rw [e2, hhi (299 + 3 * l) (by omega) (by omega), hhi (299 + 3 * l + 1) (by omega) (by omega), hhi (299 + 3 * l + 2) (by omega) (by omega), hlo (89 + 5 * T (299 + 3 * l) + 1) (by omega) (by omega)]
    exact g
  · rw [hlo 4 (by omega) (by omega)] at h1
    rw [hhi (323 + 5 * q) (by omega) (by omega)]
    exact (hq q h0 h1).1
  · rw [hlo 4 (by omega) (by omega)] at h1
    rw [hhi (323 + 5 * q + 1 + z) (by omega) (by omega)]
    exact (hq q h0 h1).2 z z0 z1
theorem st_G_5 {T U : Int → Int} {f : Int → Int → Int} {v : Int} (h : st_G T U f) : st_G (ev_u1 T 5 v) (ev_u1 U 5 v) f := by
  refine ⟨fun b c h0 h1 h2 h3 => ?_, fun k h0 h1 h2 => ?_⟩
  · rw [ev_u1_ne (by omega)] at h1 h3
    have g := h.1 b c h0 h1 h2 h3
    unfold st_ra st_we at g ⊢
    simp (disch := omega) only [ev_u1_ne]
    exact g
  · by_cases c : k = 5
    · rw [ev_u1_eq c, ev_u1_eq c]
    · rw [ev_u1_ne c, ev_u1_ne c]
      refine h.2 k h0 h1 (fun b c q0 q1 q2 q3 => h2 b c q0 ?_ q2 ?_)
      · rw [ev_u1_ne (by omega)]
        exact q1
      · rw [ev_u1_ne (by omega)]
        exact q3
/-- one year more -/
theorem st_year {T : Int → Int} {b c y : Int} (h1 : 0 ≤ T (119 + 30 * b + 5 * c + 1) ∧ T (119 + 30 * b + 5 * c + 1) ≤ 9) (h2 : 0 ≤ T (119 + 30 * b + 5 * c + 2) ∧ T (119 + 30 * b + 5 * c + 2) ≤ 99) (h3 : 0 ≤ T (119 + 30 * b + 5 * c + 3) ∧ T (119 + 30 * b + 5 * c + 3) ≤ 60) (hy : 0 ≤ y) : (99 < st_we T b c y + T (119 + 30 * b + 5 * c + 3) → st_we T b c (y + 1) = st_we T b c y + T (119 + 30 * b + 5 * c + 3) - 100 ∧ (0 < st_ra T b c y → st_ra T b c (y + 1) = st_ra T b c y - 1) ∧ (¬ 0 < st_ra T b c y → st_ra T b c (y + 1) = st_ra T b c y)) ∧ (¬ 99 < st_we T b c y + T (119 + 30 * b + 5 * c + 3) → st_we T b c (y + 1) = st_we T b c y + T (119 + 30 * b + 5 * c + 3) ∧ st_ra T b c (y + 1) = st_ra T b c y) := by
  have h := Int.mul_nonneg hy h3.1
  unfold st_ra st_we
  rw [Int.add_mul, Int.one_mul]
  generalize y * T (119 + 30 * b + 5 * c + 3) = m at *
  refine ⟨fun h => ⟨by omega, fun h' => ?_, fun h' => ?_⟩, fun h => ⟨by omega, ?_⟩⟩
  · repeat' split at h'
    all_goals (repeat' split) <;> omega
  · repeat' split at h'
    all_goals (repeat' split) <;> omega
  · repeat' split
    all_goals omega

