/-! ways: the reference's search -/
def st_dd (σ : ev_M) (f d : Int → Int) : ev_M := fun a z => if a = 186 then f z else if a = 187 then d z else σ a z
theorem st_dd_o {σ : ev_M} {i : Int} {f d : Int → Int} (h : i ≠ 186 ∧ i ≠ 187) : st_dd σ f d i = σ i := by
  funext z
  unfold st_dd
  rw [if_neg (by omega), if_neg (by omega)]
theorem st_dd_1 {σ : ev_M} {f d : Int → Int} : st_dd σ f d 186 = f := by
  funext z
  unfold st_dd
  simp
theorem st_dd_2 {σ : ev_M} {f d : Int → Int} : st_dd σ f d 187 = d := by
  funext z
  unfold st_dd
  simp
theorem st_dd_f {σ : ev_M} {k v : Int} {f d : Int → Int} : ev_up (st_dd σ f d) 186 k v = st_dd σ (ev_u1 f k v) d := by
  funext a z
  unfold ev_up st_dd ev_u1
  by_cases h1 : a = 186
  · subst h1
    simp
  · simp [h1]
theorem st_dd_d {σ : ev_M} {k v : Int} {f d : Int → Int} : ev_up (st_dd σ f d) 187 k v = st_dd σ f (ev_u1 d k v) := by
  funext a z
  unfold ev_up st_dd ev_u1
  by_cases h1 : a = 186
  · subst h1
    simp
  · by_cases h2 : a = 187
    · subst h2
      simp
    · simp [h1, h2]
theorem st_dd_s {σ : ev_M} : st_dd σ (σ 186) (σ 187) = σ := by
  funext a z
  unfold st_dd
  by_cases h1 : a = 186
  · simp [h1]
  · by_cases h2 : a = 187
    · simp [h2]
    · simp [h1, h2]
theorem st_dd_N {σ : ev_M} {f d : Int → Int} : st_N σ (st_dd σ f d) := by
  refine ⟨fun i h => st_dd_o (by omega), by rw [st_dd_o (by omega)], by rw [st_dd_o (by omega)], by rw [st_dd_o (by omega)], by rw [st_dd_o (by omega)], fun k _ _ => by rw [st_dd_o (by omega)]⟩
theorem ev_ps_in {r : Int} : 0 ≤ ev_ps r ∧ ev_ps r ≤ 60 := by
  unfold ev_ps
  split
  · omega
  · split
    · omega
    · split
      · omega
      · split
        · omega
        · split
          · omega
          · split
            · omega
            · split <;> omega
theorem ev_i01 {p : Prop} {i : Decidable p} : @ite Int p i 1 0 = 0 ∨ @ite Int p i 1 0 = 1 := by
  by_cases h : p
  · exact Or.inr (if_pos h)
  · exact Or.inl (if_neg h)
def st_sl (f d : Int → Int) (n c : Int) : Prop := (c = -1 ∧ ∀ y, 0 ≤ y → y < n → ¬ st_ca f d y) ∨ ((0 ≤ c ∧ c < n) ∧ st_ca f d c ∧ ∀ y, 0 ≤ y → y < n → st_ca f d y → f c ≤ f y)
theorem st_sl_n {f d : Int → Int} {n c : Int} (h : st_sl f d n c) (hn : 0 ≤ n) : ((st_ca f d n ∧ (c = -1 ∨ f n < f c)) → st_sl f d (n + 1) n) ∧ (¬ (st_ca f d n ∧ (c = -1 ∨ f n < f c)) → st_sl f d (n + 1) c) := by
  constructor
  · intro ⟨h1, h2⟩
    refine Or.inr ⟨by omega, h1, fun y y0 y1 hy => ?_⟩
    by_cases q : y = n
    · rw [q]
      exact Int.le_refl _
    · rcases h with ⟨k1, k2⟩ | ⟨k1, k2, k3⟩
      · exact absurd hy (k2 y y0 (by omega))
      · have := k3 y y0 (by omega) hy
        omega
  · intro h1
    rcases h with ⟨k1, k2⟩ | ⟨k1, k2, k3⟩
    · refine Or.inl ⟨k1, fun y y0 y1 hy => ?_⟩
      by_cases q : y = n
      · rw [q] at hy
        exact h1 ⟨hy, Or.inl k1⟩
      · exact k2 y y0 (by omega) hy
    · refine Or.inr ⟨by omega, k2, fun y y0 y1 hy => ?_⟩
      by_cases q : y = n
      · rw [q] at hy ⊢
        by_cases q2 : f c ≤ f n
        · exact q2
        · exact absurd ⟨hy, Or.inr (by omega)⟩ h1
      · exact k3 y y0 (by omega) hy
