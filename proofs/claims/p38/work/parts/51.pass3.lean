theorem pi_year {T : Int → Int} {v : Int} (h : st_I T) (h0 : T 5 ≤ v) (h1 : v ≤ 1000) : st_I (ev_u1 T 5 v) := by
  obtain ⟨⟨i0, i1, i2, i3, i4, i5⟩, hr, hb, hc, hp, hl, hq⟩ := h
  refine ⟨?_, fun r h0 h1 => ?_, fun b h0 h1 => ?_, fun b h0 h1 => ?_, fun b c h0 h1 h2 h3 => ?_, fun l h0 h1 => ?_, fun q h0 h1 => ⟨?_, fun z z0 z1 => ?_⟩⟩
  · simp (disch := omega) only [ev_u1_eq, ev_u1_ne]
    omega
  · simp (disch := omega) only [ev_u1_eq, ev_u1_ne] at h1 ⊢
    exact hr r h0 h1
  · simp (disch := omega) only [ev_u1_eq, ev_u1_ne] at h1 ⊢
    have := hb b h0 h1
    omega
  · simp (disch := omega) only [ev_u1_eq, ev_u1_ne]
    exact hc b h0 h1
  · simp (disch := omega) only [ev_u1_eq, ev_u1_ne] at h1 h3 ⊢
    exact hp b c h0 h1 h2 h3
  · simp (disch := omega) only [ev_u1_eq, ev_u1_ne] at h1 ⊢
    have h9 := hl l h0 h1
    rw [ev_u1_ne (by omega)]
    exact h9
  · simp (disch := omega) only [ev_u1_eq, ev_u1_ne] at h1 ⊢
    exact (hq q h0 h1).1
  · simp (disch := omega) only [ev_u1_eq, ev_u1_ne] at h1 ⊢
    exact (hq q h0 h1).2 z z0 z1
theorem ev_u1_u1 {f : Int → Int} {a v w : Int} : ev_u1 (ev_u1 f a v) a w = ev_u1 f a w := by
  funext x
  unfold ev_u1
  by_cases c : x = a <;> simp [c]
