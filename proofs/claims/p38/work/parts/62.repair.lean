/-! repair -/
theorem pi_spent {T : Int → Int} {v : Int} (h : st_I T) : st_I (ev_u1 T 8 v) := by
  obtain ⟨⟨i0, i1, i2, i3, i4, i5⟩, hr, hb, hc, hp, hl, hq⟩ := h
  refine ⟨?_, fun q h0 h1 => ?_, fun q h0 h1 => ?_, fun q h0 h1 => ?_, fun q c h0 h1 h2 h3 => ?_, fun l h0 h1 => ?_, fun q h0 h1 => ⟨?_, fun z z0 z1 => ?_⟩⟩
  · simp (disch := omega) only [ev_u1_eq, ev_u1_ne]
    omega
  · simp (disch := omega) only [ev_u1_eq, ev_u1_ne] at h1
    have h7 := hr q h0 h1
    simp (disch := omega) only [ev_u1_eq, ev_u1_ne]
    exact h7
  · simp (disch := omega) only [ev_u1_eq, ev_u1_ne] at h1
    have h7 := hb q h0 h1
    simp (disch := omega) only [ev_u1_eq, ev_u1_ne]
    exact h7
  · simp (disch := omega) only [ev_u1_eq, ev_u1_ne]
    exact hc q h0 h1
  · simp (disch := omega) only [ev_u1_eq, ev_u1_ne] at h1
    have h6 := hb q h0 h1
    simp (disch := omega) only [ev_u1_eq, ev_u1_ne] at h3
    have h7 := hp q c h0 h1 h2 h3
    simp (disch := omega) only [ev_u1_eq, ev_u1_ne]
    exact h7
  · simp (disch := omega) only [ev_u1_eq, ev_u1_ne] at h1
    have h7 := hl l h0 h1
    have h8 := hb _ h7.1.1 h7.1.2
    simp (disch := omega) only [ev_u1_eq, ev_u1_ne]
    exact h7
  · simp (disch := omega) only [ev_u1_eq, ev_u1_ne] at h1
    have h7 := (hq q h0 h1).1
    simp (disch := omega) only [ev_u1_eq, ev_u1_ne]
    exact h7
  · simp (disch := omega) only [ev_u1_eq, ev_u1_ne] at h1
    have h7 := (hq q h0 h1).2 z z0 z1
    simp (disch := omega) only [ev_u1_eq, ev_u1_ne]
    exact h7
theorem st_ml_8 {U : Int → Int} {l v : Int} (h : st_I U) (hl : 0 ≤ l ∧ l < U 3) : st_ml (ev_u1 U 8 v) l = ev_u1 (st_ml U l) 8 v := by
  have g := h.2.2.2.2.2.1 l hl.1 hl.2
  have i2 := h.1.2.2.1
  have hbb := h.2.2.1 _ g.1.1 g.1.2
  obtain ⟨x, hx⟩ : ∃ x, x = 119 + 30 * U (299 + 3 * l) + 5 * U (299 + 3 * l + 1) := ⟨_, rfl⟩
  have hxb : 119 ≤ x := by omega
  have e1 : ev_u1 U 8 v (299 + 3 * l) = U (299 + 3 * l) := ev_u1_ne (by omega)
  have e2 : ev_u1 U 8 v (299 + 3 * l + 1) = U (299 + 3 * l + 1) := ev_u1_ne (by omega)
  have e3 : ev_u1 U 8 v (299 + 3 * l + 2) = U (299 + 3 * l + 2) := ev_u1_ne (by omega)
  unfold st_ml
  rw [e1, e2, e3, ← hx, ev_u1_ne (show x + 1 ≠ 8 by omega), ev_u1_cm (a := 8) (b := x + 1) (by omega), ev_u1_cm (a := 8) (b := x + 2) (by omega)]
theorem st_md_8 {v : Int} : ∀ (k : Nat) (l : Int) (U : Int → Int), st_I U → 0 ≤ l → l + k = U 3 → st_md k l (ev_u1 U 8 v) = ev_u1 (st_md k l U) 8 v := by
  intro k
  induction k with
  | zero =>
    intro l U h h0 h1
    rfl
  | succ k ih =>
    intro l U h h0 h1
    have ho := st_ml_out h (l := l) (by omega)
    rw [show st_md (k + 1) l (ev_u1 U 8 v) = st_md k (l + 1) (st_ml (ev_u1 U 8 v) l) from rfl, st_ml_8 h (by omega), ih (l + 1) _ (st_ml_I h (by omega)) (by omega) (by rw [ho.1 3 (by omega)]; omega)]
    rfl
theorem st_md_low : ∀ (k : Nat) (l : Int) (U : Int → Int), st_I U → 0 ≤ l → l + k = U 3 → ∀ q, q < 119 → st_md k l U q = U q := by
  intro k
  induction k with
  | zero =>
    intro l U h h0 h1 q hq
    rfl
  | succ k ih =>
    intro l U h h0 h1 q hq
    have ho := st_ml_out h (l := l) (by omega)
    rw [show st_md (k + 1) l U = st_md k (l + 1) (st_ml U l) from rfl, ih (l + 1) _ (st_ml_I h (by omega)) (by omega) (by rw [ho.1 3 (by omega)]; omega) q hq, ho.1 q (by omega)]
