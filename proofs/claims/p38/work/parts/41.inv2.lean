/-! the invariant behind each change of the row -/
theorem pi_road {T : Int → Int} {n one two len : Int} (h : st_I T) (hn : T 1 = n) (hn2 : n < 20) (h1 : 0 ≤ one ∧ one < T 0) (h2 : 0 ≤ two ∧ two < T 0) (h3 : one ≠ two) (h4 : 1 ≤ len ∧ len ≤ 99) : st_I (ev_u1 (ev_u1 (ev_u1 (ev_u1 (ev_u1 T (9 + 4 * n) one) (9 + 4 * n + 1) two) (9 + 4 * n + 2) len) (9 + 4 * n + 3) (-1)) 1 (n + 1)) := by
  obtain ⟨⟨i0, i1, i2, i3, i4, i5⟩, hr, hb, hc, hp, hl, hq⟩ := h
  refine ⟨?_, fun r h0 h1 => ?_, fun b h0 h1 => ?_, fun b h0 h1 => ?_, fun b c h0 h1 h2 h3 => ?_, fun l h0 h1 => ?_, fun q h0 h1 => ⟨?_, fun z z0 z1 => ?_⟩⟩
  · simp (disch := omega) only [ev_u1_eq, ev_u1_ne]
    omega
  · simp (disch := omega) only [ev_u1_eq, ev_u1_ne] at h1
    by_cases hrn : r = n
    · subst hrn
      simp (disch := omega) only [ev_u1_eq, ev_u1_ne]
      omega
    · have := hr r h0 (by omega)
      simp (disch := omega) only [ev_u1_eq, ev_u1_ne]
      omega
  · simp (disch := omega) only [ev_u1_eq, ev_u1_ne] at h1
    have h7 := hb b h0 h1
    simp (disch := omega) only [ev_u1_eq, ev_u1_ne]
    omega
  · simp (disch := omega) only [ev_u1_eq, ev_u1_ne]
    exact hc b h0 h1
  · simp (disch := omega) only [ev_u1_eq, ev_u1_ne] at h1
    have h6 := hb b h0 h1
    simp (disch := omega) only [ev_u1_eq, ev_u1_ne] at h3
    have h7 := hp b c h0 h1 h2 h3
    simp (disch := omega) only [ev_u1_eq, ev_u1_ne]
    exact h7
  · simp (disch := omega) only [ev_u1_eq, ev_u1_ne] at h1
    have h9 := hl l h0 h1
    simp (disch := omega) only [ev_u1_eq, ev_u1_ne]
    exact h9
  · simp (disch := omega) only [ev_u1_eq, ev_u1_ne] at h1
    have h7 := (hq q h0 h1).1
    simp (disch := omega) only [ev_u1_eq, ev_u1_ne]
    exact h7
  · simp (disch := omega) only [ev_u1_eq, ev_u1_ne] at h1
    have h7 := (hq q h0 h1).2 z z0 z1
    simp (disch := omega) only [ev_u1_eq, ev_u1_ne]
    exact h7
theorem pi_bridge {T : Int → Int} {n r y : Int} (h : st_I T) (hn : T 2 = n) (hy : T 5 = y) (hn2 : n < 6) (hr1 : 0 ≤ r ∧ r < T 1) : st_I (ev_u1 (ev_u1 (ev_u1 (ev_u1 (ev_u1 (ev_u1 (ev_u1 T (89 + 5 * n) r) (89 + 5 * n + 1) 0) (89 + 5 * n + 2) 0) (89 + 5 * n + 3) y) (89 + 5 * n + 4) 0) (9 + 4 * r + 3) n) 2 (n + 1)) := by
  obtain ⟨⟨i0, i1, i2, i3, i4, i5⟩, hr, hb, hc, hp, hl, hq⟩ := h
  refine ⟨?_, fun q h0 h1 => ?_, fun b h0 h1 => ?_, fun b h0 h1 => ?_, fun b c h0 h1 h2 h3 => ?_, fun l h0 h1 => ?_, fun q h0 h1 => ⟨?_, fun z z0 z1 => ?_⟩⟩
  · simp (disch := omega) only [ev_u1_eq, ev_u1_ne]
    omega
  · simp (disch := omega) only [ev_u1_eq, ev_u1_ne] at h1
    have := hr q h0 h1
    by_cases hrn : q = r
    · subst hrn
      simp (disch := omega) only [ev_u1_eq, ev_u1_ne]
      omega
    · simp (disch := omega) only [ev_u1_eq, ev_u1_ne]
      omega
  · simp (disch := omega) only [ev_u1_eq, ev_u1_ne] at h1
    by_cases hrn : b = n
    · subst hrn
      simp (disch := omega) only [ev_u1_eq, ev_u1_ne]
      omega
    · have := hb b h0 (by omega)
      simp (disch := omega) only [ev_u1_eq, ev_u1_ne]
      omega
  · have := hc b h0 h1
    by_cases hrn : b = n
    · subst hrn
      simp (disch := omega) only [ev_u1_eq, ev_u1_ne]
      omega
    · simp (disch := omega) only [ev_u1_eq, ev_u1_ne]
      exact this
  · simp (disch := omega) only [ev_u1_eq, ev_u1_ne] at h1
    by_cases hrn : b = n
    · subst hrn
      simp (disch := omega) only [ev_u1_eq, ev_u1_ne] at h3
      omega
    · have := hb b h0 (by omega)
      simp (disch := omega) only [ev_u1_eq, ev_u1_ne] at h3
      have h7 := hp b c h0 (by omega) h2 h3
      simp (disch := omega) only [ev_u1_eq, ev_u1_ne]
      exact h7
  · simp (disch := omega) only [ev_u1_eq, ev_u1_ne] at h1
    have h9 := hl l h0 h1
    simp (disch := omega) only [ev_u1_eq, ev_u1_ne]
    omega
  · simp (disch := omega) only [ev_u1_eq, ev_u1_ne] at h1
    have h7 := (hq q h0 h1).1
    simp (disch := omega) only [ev_u1_eq, ev_u1_ne]
    exact h7
  · simp (disch := omega) only [ev_u1_eq, ev_u1_ne] at h1
    have h7 := (hq q h0 h1).2 z z0 z1
    simp (disch := omega) only [ev_u1_eq, ev_u1_ne]
    exact h7
theorem pi_comp {T : Int → Int} {b n kd ra rt : Int} (h : st_I T) (hb1 : 0 ≤ b ∧ b < T 2) (hn : T (89 + 5 * b + 1) = n) (hn2 : n < 6) (h1 : 0 ≤ kd ∧ kd ≤ 3) (h2 : 0 ≤ ra ∧ ra ≤ 9) (h3 : 0 ≤ rt ∧ rt ≤ 60) : st_I (ev_u1 (ev_u1 (ev_u1 (ev_u1 (ev_u1 (ev_u1 T (119 + 30 * b + 5 * n) kd) (119 + 30 * b + 5 * n + 1) ra) (119 + 30 * b + 5 * n + 2) 0) (119 + 30 * b + 5 * n + 3) rt) (119 + 30 * b + 5 * n + 4) 0) (89 + 5 * b + 1) (n + 1)) := by
  obtain ⟨⟨i0, i1, i2, i3, i4, i5⟩, hr, hb, hc, hp, hl, hq⟩ := h
  have hbb := hb b hb1.1 hb1.2
  refine ⟨?_, fun q h0 h1 => ?_, fun q h0 h1 => ?_, fun q h0 h1 => ?_, fun q c h0 h1 h2 h3 => ?_, fun l h0 h1 => ?_, fun q h0 h1 => ⟨?_, fun z z0 z1 => ?_⟩⟩
  · simp (disch := omega) only [ev_u1_eq, ev_u1_ne]
    omega
  · simp (disch := omega) only [ev_u1_eq, ev_u1_ne] at h1
    have h7 := hr q h0 h1
    simp (disch := omega) only [ev_u1_eq, ev_u1_ne]
    exact h7
  · simp (disch := omega) only [ev_u1_eq, ev_u1_ne] at h1
    have := hb q h0 h1
    by_cases hrn : q = b
    · subst hrn
      simp (disch := omega) only [ev_u1_eq, ev_u1_ne]
      omega
    · simp (disch := omega) only [ev_u1_eq, ev_u1_ne]
      omega
  · simp (disch := omega) only [ev_u1_eq, ev_u1_ne]
    exact hc q h0 h1
  · simp (disch := omega) only [ev_u1_eq, ev_u1_ne] at h1
    have hq1 := hb q h0 h1
    by_cases hrn : q = b
    · subst hrn
      simp (disch := omega) only [ev_u1_eq, ev_u1_ne] at h3
      by_cases hcn : c = n
      · subst hcn
        simp (disch := omega) only [ev_u1_eq, ev_u1_ne]
        omega
      · have := hp q c h0 h1 h2 (by omega)
        simp (disch := omega) only [ev_u1_eq, ev_u1_ne]
        exact this
    · simp (disch := omega) only [ev_u1_eq, ev_u1_ne] at h3
      have := hp q c h0 h1 h2 h3
      simp (disch := omega) only [ev_u1_eq, ev_u1_ne]
      exact this
  · simp (disch := omega) only [ev_u1_eq, ev_u1_ne] at h1
    have h9 := hl l h0 h1
    by_cases hrn : T (299 + 3 * l) = b
    · have h10 := h9.2.1
      rw [hrn] at h10
      simp (disch := omega) only [ev_u1_eq, ev_u1_ne, hrn]
      omega
    · simp (disch := omega) only [ev_u1_eq, ev_u1_ne]
      omega
  · simp (disch := omega) only [ev_u1_eq, ev_u1_ne] at h1
    have h7 := (hq q h0 h1).1
    simp (disch := omega) only [ev_u1_eq, ev_u1_ne]
    exact h7
  · simp (disch := omega) only [ev_u1_eq, ev_u1_ne] at h1
    have h7 := (hq q h0 h1).2 z z0 z1
    simp (disch := omega) only [ev_u1_eq, ev_u1_ne]
    exact h7
/-- one number of a component -/
theorem pi_part {T : Int → Int} {b n o v : Int} (h : st_I T) (hb1 : 0 ≤ b ∧ b < T 2) (hn : 0 ≤ n ∧ n < T (89 + 5 * b + 1)) (ho : (o = 1 ∧ 0 ≤ v ∧ v ≤ 9) ∨ (o = 2 ∧ 0 ≤ v ∧ v ≤ 99) ∨ (o = 4 ∧ 0 ≤ v ∧ v ≤ 127)) : st_I (ev_u1 T (119 + 30 * b + 5 * n + o) v) := by
  obtain ⟨⟨i0, i1, i2, i3, i4, i5⟩, hr, hb, hc, hp, hl, hq⟩ := h
  have hbb := hb b hb1.1 hb1.2
  refine ⟨?_, fun q h0 h1 => ?_, fun q h0 h1 => ?_, fun q h0 h1 => ?_, fun q c h0 h1 h2 h3 => ?_, fun l h0 h1 => ?_, fun q h0 h1 => ⟨?_, fun z z0 z1 => ?_⟩⟩
  · simp (disch := omega) only [ev_u1_eq, ev_u1_ne]
    omega
  · simp (disch := omega) only [ev_u1_eq, ev_u1_ne] at h1
    have h7 := hr q h0 h1
    simp (disch := omega) only [ev_u1_eq, ev_u1_ne]
    exact h7
  · simp (disch := omega) only [ev_u1_eq, ev_u1_ne] at h1
    have h7 := hb q h0 h1
    simp (disch := omega) only [ev_u1_eq, ev_u1_ne]
    exact h7
  · simp (disch := omega) only [ev_u1_eq, ev_u1_ne]
    exact hc q h0 h1
  · simp (disch := omega) only [ev_u1_eq, ev_u1_ne] at h1
    have hq1 := hb q h0 h1
    simp (disch := omega) only [ev_u1_eq, ev_u1_ne] at h3
    have := hp q c h0 h1 h2 h3
    by_cases hrn : q = b ∧ c = n
    · obtain ⟨rfl, rfl⟩ := hrn
      rcases ho with ⟨rfl, h8⟩ | ⟨rfl, h8⟩ | ⟨rfl, h8⟩
      · simp (disch := omega) only [ev_u1_eq, ev_u1_ne]
        omega
      · simp (disch := omega) only [ev_u1_eq, ev_u1_ne]
        omega
      · simp (disch := omega) only [ev_u1_eq, ev_u1_ne]
        omega
    · rcases ho with ⟨rfl, h8⟩ | ⟨rfl, h8⟩ | ⟨rfl, h8⟩
      · simp (disch := omega) only [ev_u1_eq, ev_u1_ne]
        omega
      · simp (disch := omega) only [ev_u1_eq, ev_u1_ne]
        omega
      · simp (disch := omega) only [ev_u1_eq, ev_u1_ne]
        omega
  · simp (disch := omega) only [ev_u1_eq, ev_u1_ne] at h1
    have h9 := hl l h0 h1
    have h10 := hb _ h9.1.1 h9.1.2
    simp (disch := omega) only [ev_u1_eq, ev_u1_ne]
    exact h9
  · simp (disch := omega) only [ev_u1_eq, ev_u1_ne] at h1
    have h7 := (hq q h0 h1).1
    simp (disch := omega) only [ev_u1_eq, ev_u1_ne]
    exact h7
  · simp (disch := omega) only [ev_u1_eq, ev_u1_ne] at h1
    have h7 := (hq q h0 h1).2 z z0 z1
    simp (disch := omega) only [ev_u1_eq, ev_u1_ne]
    exact h7
theorem pi_close {T : Int → Int} {b v : Int} (h : st_I T) (hb1 : 0 ≤ b ∧ b < 6) (hv : 0 ≤ v ∧ v ≤ 1) : st_I (ev_u1 T (89 + 5 * b + 4) v) := by
  obtain ⟨⟨i0, i1, i2, i3, i4, i5⟩, hr, hb, hc, hp, hl, hq⟩ := h
  refine ⟨?_, fun q h0 h1 => ?_, fun q h0 h1 => ?_, fun q h0 h1 => ?_, fun q c h0 h1 h2 h3 => ?_, fun l h0 h1 => ?_, fun q h0 h1 => ⟨?_, fun z z0 z1 => ?_⟩⟩
  · simp (disch := omega) only [ev_u1_eq, ev_u1_ne]
    omega
  · simp (disch := omega) only [ev_u1_eq, ev_u1_ne] at h1
    have h7 := hr q h0 h1
    simp (disch := omega) only [ev_u1_eq, ev_u1_ne]
    exact h7
  · simp (disch := omega) only [ev_u1_eq, ev_u1_ne] at h1
    have h7 := hb q h0 h1
    simp (disch := omega) only [ev_u1_eq, ev_u1_ne]
    exact h7
  · have := hc q h0 h1
    by_cases hrn : q = b
    · subst hrn
      simp (disch := omega) only [ev_u1_eq, ev_u1_ne]
      omega
    · simp (disch := omega) only [ev_u1_eq, ev_u1_ne]
      omega
  · simp (disch := omega) only [ev_u1_eq, ev_u1_ne] at h1
    have hq1 := hb q h0 h1
    simp (disch := omega) only [ev_u1_eq, ev_u1_ne] at h3
    have h7 := hp q c h0 h1 h2 h3
    simp (disch := omega) only [ev_u1_eq, ev_u1_ne]
    exact h7
  · simp (disch := omega) only [ev_u1_eq, ev_u1_ne] at h1
    have h9 := hl l h0 h1
    simp (disch := omega) only [ev_u1_eq, ev_u1_ne]
    exact h9
  · simp (disch := omega) only [ev_u1_eq, ev_u1_ne] at h1
    have h7 := (hq q h0 h1).1
    simp (disch := omega) only [ev_u1_eq, ev_u1_ne]
    exact h7
  · simp (disch := omega) only [ev_u1_eq, ev_u1_ne] at h1
    have h7 := (hq q h0 h1).2 z z0 z1
    simp (disch := omega) only [ev_u1_eq, ev_u1_ne]
    exact h7
theorem pi_lines {T : Int → Int} (h : st_I T) : st_I (ev_u1 T 3 0) := by
  obtain ⟨⟨i0, i1, i2, i3, i4, i5⟩, hr, hb, hc, hp, hl, hq⟩ := h
  refine ⟨?_, fun q h0 h1 => ?_, fun q h0 h1 => ?_, fun q h0 h1 => ?_, fun q c h0 h1 h2 h3 => ?_, fun l h0 h1 => ?_, fun q h0 h1 => ⟨?_, fun z z0 z1 => ?_⟩⟩
  · simp (disch := omega) only [ev_u1_eq, ev_u1_ne]
    omega
  · simp (disch := omega) only [ev_u1_eq, ev_u1_ne] at h1
    have h7 := hr q h0 h1
    simp (disch := omega) only [ev_u1_eq, ev_u1_ne]
    exact h7
  · simp (disch := omega) only [ev_u1_eq, ev_u1_ne] at h1
    have h7 := hb q h0 h1
    simp (disch := omega) only [ev_u1_eq, ev_u1_ne]
    exact h7
  · simp (disch := omega) only [ev_u1_eq, ev_u1_ne]
    exact hc q h0 h1
  · simp (disch := omega) only [ev_u1_eq, ev_u1_ne] at h1
    have h6 := hb q h0 h1
    simp (disch := omega) only [ev_u1_eq, ev_u1_ne] at h3
    have h7 := hp q c h0 h1 h2 h3
    simp (disch := omega) only [ev_u1_eq, ev_u1_ne]
    exact h7
  · simp (disch := omega) only [ev_u1_eq, ev_u1_ne] at h1
    omega
  · simp (disch := omega) only [ev_u1_eq, ev_u1_ne] at h1
    have h7 := (hq q h0 h1).1
    simp (disch := omega) only [ev_u1_eq, ev_u1_ne]
    exact h7
  · simp (disch := omega) only [ev_u1_eq, ev_u1_ne] at h1
    have h7 := (hq q h0 h1).2 z z0 z1
    simp (disch := omega) only [ev_u1_eq, ev_u1_ne]
    exact h7
theorem pi_line {T : Int → Int} {n b c p : Int} (h : st_I T) (hn : T 3 = n) (hn2 : n < 8) (hb1 : 0 ≤ b ∧ b < T 2) (hc1 : 0 ≤ c ∧ c < T (89 + 5 * b + 1)) (hp1 : 1 ≤ p ∧ p ≤ 9) : st_I (ev_u1 (ev_u1 (ev_u1 (ev_u1 T (299 + 3 * n) b) (299 + 3 * n + 1) c) (299 + 3 * n + 2) p) 3 (n + 1)) := by
  obtain ⟨⟨i0, i1, i2, i3, i4, i5⟩, hr, hb, hc, hp, hl, hq⟩ := h
  refine ⟨?_, fun q h0 h1 => ?_, fun q h0 h1 => ?_, fun q h0 h1 => ?_, fun q c h0 h1 h2 h3 => ?_, fun l h0 h1 => ?_, fun q h0 h1 => ⟨?_, fun z z0 z1 => ?_⟩⟩
  · simp (disch := omega) only [ev_u1_eq, ev_u1_ne]
    omega
  · simp (disch := omega) only [ev_u1_eq, ev_u1_ne] at h1
    have h7 := hr q h0 h1
    simp (disch := omega) only [ev_u1_eq, ev_u1_ne]
    exact h7
  · simp (disch := omega) only [ev_u1_eq, ev_u1_ne] at h1
    have h7 := hb q h0 h1
    simp (disch := omega) only [ev_u1_eq, ev_u1_ne]
    exact h7
  · simp (disch := omega) only [ev_u1_eq, ev_u1_ne]
    exact hc q h0 h1
  · simp (disch := omega) only [ev_u1_eq, ev_u1_ne] at h1
    have hq1 := hb q h0 h1
    simp (disch := omega) only [ev_u1_eq, ev_u1_ne] at h3
    have h7 := hp q c h0 h1 h2 h3
    simp (disch := omega) only [ev_u1_eq, ev_u1_ne]
    exact h7
  · simp (disch := omega) only [ev_u1_eq, ev_u1_ne] at h1
    by_cases hln : l = n
    · subst hln
      simp (disch := omega) only [ev_u1_eq, ev_u1_ne]
      omega
    · have h9 := hl l h0 (by omega)
      simp (disch := omega) only [ev_u1_eq, ev_u1_ne]
      exact h9
  · simp (disch := omega) only [ev_u1_eq, ev_u1_ne] at h1
    have h7 := (hq q h0 h1).1
    simp (disch := omega) only [ev_u1_eq, ev_u1_ne]
    exact h7
  · simp (disch := omega) only [ev_u1_eq, ev_u1_ne] at h1
    have h7 := (hq q h0 h1).2 z z0 z1
    simp (disch := omega) only [ev_u1_eq, ev_u1_ne]
    exact h7
theorem pi_bidder {T : Int → Int} {n fee p0 p1 p2 p3 : Int} (h : st_I T) (hn : T 4 = n) (hn2 : n < 3) (hf : 0 ≤ fee ∧ fee ≤ 999) (h0 : 1 ≤ p0 ∧ p0 ≤ 99) (h1 : 1 ≤ p1 ∧ p1 ≤ 99) (h2 : 1 ≤ p2 ∧ p2 ≤ 99) (h3 : 1 ≤ p3 ∧ p3 ≤ 99) : st_I (ev_u1 (ev_u1 (ev_u1 (ev_u1 (ev_u1 (ev_u1 T (323 + 5 * n) fee) (323 + 5 * n + 1) p0) (323 + 5 * n + 2) p1) (323 + 5 * n + 3) p2) (323 + 5 * n + 4) p3) 4 (n + 1)) := by
  obtain ⟨⟨i0, i1, i2, i3, i4, i5⟩, hr, hb, hc, hp, hl, hq⟩ := h
  refine ⟨?_, fun q h0 h1 => ?_, fun q h0 h1 => ?_, fun q h0 h1 => ?_, fun q c h0 h1 h2 h3 => ?_, fun l h0 h1 => ?_, fun q h8 h9 => ⟨?_, fun z z0 z1 => ?_⟩⟩
  · simp (disch := omega) only [ev_u1_eq, ev_u1_ne]
    omega
  · simp (disch := omega) only [ev_u1_eq, ev_u1_ne] at h1
    have h7 := hr q h0 h1
    simp (disch := omega) only [ev_u1_eq, ev_u1_ne]
    exact h7
  · simp (disch := omega) only [ev_u1_eq, ev_u1_ne] at h1
    have h7 := hb q h0 h1
    simp (disch := omega) only [ev_u1_eq, ev_u1_ne]
    exact h7
  · simp (disch := omega) only [ev_u1_eq, ev_u1_ne]
    exact hc q h0 h1
  · simp (disch := omega) only [ev_u1_eq, ev_u1_ne] at h1
    have hq1 := hb q h0 h1
    simp (disch := omega) only [ev_u1_eq, ev_u1_ne] at h3
    have h7 := hp q c h0 h1 h2 h3
    simp (disch := omega) only [ev_u1_eq, ev_u1_ne]
    exact h7
  · simp (disch := omega) only [ev_u1_eq, ev_u1_ne] at h1
    have h9 := hl l h0 h1
    simp (disch := omega) only [ev_u1_eq, ev_u1_ne]
    exact h9
  · simp (disch := omega) only [ev_u1_eq, ev_u1_ne] at h9
    by_cases hqn : q = n
    · subst hqn
      simp (disch := omega) only [ev_u1_eq, ev_u1_ne]
      exact hf
    · have := (hq q h8 (by omega)).1
      simp (disch := omega) only [ev_u1_eq, ev_u1_ne]
      exact this
  · simp (disch := omega) only [ev_u1_eq, ev_u1_ne] at h9
    by_cases hqn : q = n
    · subst hqn
      rcases (show z = 0 ∨ z = 1 ∨ z = 2 ∨ z = 3 by omega) with rfl | rfl | rfl | rfl
      · simp (disch := omega) only [ev_u1_eq, ev_u1_ne]
        exact h0
      · simp (disch := omega) only [ev_u1_eq, ev_u1_ne]
        exact h1
      · simp (disch := omega) only [ev_u1_eq, ev_u1_ne]
        exact h2
      · simp (disch := omega) only [ev_u1_eq, ev_u1_ne]
        exact h3
    · have := (hq q h8 (by omega)).2 z z0 z1
      simp (disch := omega) only [ev_u1_eq, ev_u1_ne]
      exact this

