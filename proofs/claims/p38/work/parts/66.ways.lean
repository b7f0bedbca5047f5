/-! ways on both sides -/
theorem st_N_174 {σ : ev_M} {F : Int → Int} : st_N σ (ev_ua σ 174 F) := st_N_ua (by omega)
theorem st_fg {F f : Int → Int} {y : Int} (h1 : F y = st_F f y) (h2 : f y = -1 ∨ (0 ≤ f y ∧ f y ≤ 990)) : (f y = -1 ∧ F y = 1000000) ∨ (0 ≤ f y ∧ f y ≤ 990 ∧ F y = f y) := by
  unfold st_F at h1
  by_cases c : f y = -1
  · rw [if_pos c] at h1
    exact Or.inl ⟨c, h1⟩
  · rw [if_neg c] at h1
    omega
