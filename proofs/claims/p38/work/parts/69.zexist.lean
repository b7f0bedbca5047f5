/-! the distances exist -/
theorem st_ro_ex {T : Int → Int} {w o x : Int} {f0 : Int → Int} (hI : st_I T) (hx : 0 ≤ f0 x) (hp : ∀ y, 0 ≤ y → y < 10 → f0 y = -1 ∨ 0 ≤ f0 y) : ∀ k : Nat, ∃ f, st_ro T w o x f0 k f := by
  intro k
  induction k with
  | zero =>
    refine ⟨f0, fun y _ _ => Or.inl rfl, fun q y hq he => ?_, rfl⟩
    have h1 := he.1.1
    exact absurd hq (by omega)
  | succ k ih =>
    obtain ⟨f, hf⟩ := ih
    rw [show ((k + 1 : Nat) : Int) = (k : Int) + 1 by omega]
    by_cases c : ∃ y, st_ej T w o k x y
    · obtain ⟨y, he⟩ := c
      have h2 := st_ro_e hI hf he hx hp
      by_cases c2 : f y = -1 ∨ f x + T (9 + 4 * (k : Int) + 2) < f y
      · exact ⟨_, h2.1 c2⟩
      · exact ⟨_, h2.2 c2⟩
    · exact ⟨f, st_ro_n hf (fun y hy => c ⟨y, hy⟩)⟩
theorem st_sl_ex (f d : Int → Int) : ∀ k : Nat, ∃ c, st_sl f d k c := by
  intro k
  induction k with
  | zero => exact ⟨-1, Or.inl ⟨rfl, fun y h0 h1 => by omega⟩⟩
  | succ k ih =>
    obtain ⟨c, hc⟩ := ih
    have h2 := st_sl_n hc (by omega)
    rw [show ((k + 1 : Nat) : Int) = (k : Int) + 1 by omega]
    by_cases c2 : st_ca f d k ∧ (c = -1 ∨ f k < f c)
    · exact ⟨_, h2.1 c2⟩
    · exact ⟨_, h2.2 c2⟩
theorem st_sp_ek {T : Int → Int} {w o s : Int} (hI : st_I T) (hs : 0 ≤ s ∧ s < T 0) : ∀ (k : Nat) (f d : Int → Int), 10 ≤ ev_nu (fun z => d z = 1) 10 + k → st_di T w o s f d → ∃ F, st_sp T w o s F := by
  have i0 := hI.1.1
  have fin : ∀ (f d : Int → Int), st_di T w o s f d → ∀ y, 0 ≤ y → y < 10 → f y = -1 ∨ (0 ≤ f y ∧ f y ≤ 990) := fun f d h y h0 h1 => by
    have := h.2.2.1 y h0 h1
    have := ev_nu_le (p := fun z => d z = 1) 10
    omega
  have h01 : ∀ (f d : Int → Int), st_di T w o s f d → ∃ x, st_sl f d (T 0) x := fun f d _ => by
    obtain ⟨x, hx⟩ := st_sl_ex f d (T 0).toNat
    rw [show (((T 0).toNat : Nat) : Int) = T 0 by omega] at hx
    exact ⟨x, hx⟩
  intro k
  induction k with
  | zero =>
    intro f d hk hdi
    obtain ⟨x, hsl⟩ := h01 f d hdi
    rcases hsl with q | ⟨q1, q2, q3⟩
    · exact ⟨_, st_di_e hI hdi hs q.2⟩
    · have h1 := ev_nu_1 (p := fun z => d z = 1) (q := fun z => d z = 1 ∨ z = x) (y := x) (by omega) (fun z hz => Or.inl hz) (Or.inr rfl) (fun hz => by
        have h1 := q2.1
        omega)
      have h2 := ev_nu_le (p := fun z => d z = 1 ∨ z = x) 10
      omega
  | succ k ih =>
    intro f d hk hdi
    obtain ⟨x, hsl⟩ := h01 f d hdi
    rcases hsl with q | ⟨q1, q2, q3⟩
    · exact ⟨_, st_di_e hI hdi hs q.2⟩
    · have hp := fin f d hdi
      have hpx := hp x q1.1 (by omega)
      have hx0 : 0 ≤ f x := by
        have := q2.2
        omega
      have hmin : ∀ y, 0 ≤ y → y < 10 → st_ca f d y → f x ≤ f y := fun y h0 h1 hy => by
        by_cases c : y = s
        · exact q3 y h0 (by omega) hy
        · obtain ⟨r, z, k1, k2, k3⟩ := hdi.2.2.2.2.2 y h0 h1 c hy.2
          exact q3 y h0 (st_ej_in hI k1).2.1.2 hy
      obtain ⟨f2, hb⟩ := st_ro_ex (w := w) (o := o) hI hx0 (fun y h0 h1 => by rcases hp y h0 h1 with q | q; exact Or.inl q; exact Or.inr q.1) (T 1).toNat
      rw [show (((T 1).toNat : Nat) : Int) = T 1 by have := hI.1.2.1; omega] at hb
      have hdi2 := st_di_n hI hdi ⟨q1.1, by omega⟩ q2 hmin ⟨hs.1, by omega⟩ hb
      have hcn : ev_nu (fun z => d z = 1) 10 + 1 ≤ ev_nu (fun z => ev_u1 d x 1 z = 1) 10 := ev_nu_1 (y := x) (by omega) (fun z hz => by
        by_cases c : z = x
        · exact ev_u1_eq c
        · show ev_u1 d x 1 z = 1
          rw [ev_u1_ne c]
          exact hz) (ev_u1_eq rfl) (fun hz => by
        have h1 := q2.1
        omega)
      exact ih f2 (ev_u1 d x 1) (by omega) hdi2
theorem st_sp_ex {T : Int → Int} {w o s : Int} (hI : st_I T) (hs : 0 ≤ s ∧ s < T 0) : ∃ F, st_sp T w o s F := by
  have i0 := hI.1.1
  refine st_sp_ek hI hs 10 (fun y => if y = s then 0 else -1) (fun _ => 0) (by omega) ⟨fun y h0 h2 => by
    dsimp only
    omega, if_pos rfl, fun y h0 h2 => ?_, fun z h0 h2 hz => ?_, fun r z y he hz => ?_, fun y h0 h2 hys hy => ?_⟩
  · dsimp only
    split
    · exact Or.inr ⟨Int.le_refl _, by omega⟩
    · exact Or.inl rfl
  · dsimp only at hz
    omega
  · dsimp only at hz
    omega
  · exact absurd (if_neg hys) hy
