/-! ways: the graph, and what is shortest -/
def st_lim (T : Int → Int) (r : Int) : Int := if T (9 + 4 * r + 3) = -1 then 60 else if T (89 + 5 * T (9 + 4 * r + 3) + 4) = 1 then 0 else ev_ps (T (89 + 5 * T (9 + 4 * r + 3) + 2))
def st_ub (T : Int → Int) (w o r : Int) : Prop := r ≠ o ∧ w ≤ st_lim T r
def st_ej (T : Int → Int) (w o r x y : Int) : Prop := (0 ≤ r ∧ r < T 1) ∧ st_ub T w o r ∧ ((T (9 + 4 * r) = x ∧ T (9 + 4 * r + 1) = y) ∨ (T (9 + 4 * r) = y ∧ T (9 + 4 * r + 1) = x))
theorem st_ej_s {T : Int → Int} {w o r x y : Int} (h : st_ej T w o r x y) : st_ej T w o r y x := ⟨h.1, h.2.1, by rcases h.2.2 with q | q; exact Or.inr q; exact Or.inl q⟩
theorem st_ej_in {T : Int → Int} {w o r x y : Int} (hI : st_I T) (h : st_ej T w o r x y) : (0 ≤ x ∧ x < T 0) ∧ (0 ≤ y ∧ y < T 0) ∧ x ≠ y ∧ (1 ≤ T (9 + 4 * r + 2) ∧ T (9 + 4 * r + 2) ≤ 99) ∧ T 0 ≤ 10 := by
  have g := hI.2.1 r h.1.1 h.1.2
  have i0 := hI.1.1
  rcases h.2.2 with q | q <;> omega
def st_sp (T : Int → Int) (w o s : Int) (F : Int → Int) : Prop := F s = 0 ∧ (∀ y, 0 ≤ y → y < 10 → 0 ≤ F y ∧ (F y = 1000000 ∨ F y ≤ 990)) ∧ (∀ r x y, st_ej T w o r x y → F y ≤ F x + T (9 + 4 * r + 2)) ∧ ∀ y, 0 ≤ y → y < 10 → y ≠ s → F y < 1000000 → ∃ r x, st_ej T w o r x y ∧ F y = F x + T (9 + 4 * r + 2)
/-- what is stable lies not above the shortest -/
theorem st_sp_le {T : Int → Int} {w o s : Int} {F G : Int → Int} (hI : st_I T) (hs : F s = 0) (hu : ∀ y, 0 ≤ y → y < 10 → F y ≤ 1000000) (hst : ∀ r x y, st_ej T w o r x y → F y ≤ F x + T (9 + 4 * r + 2)) (hG : st_sp T w o s G) : ∀ (n : Nat) (y : Int), 0 ≤ y → y < 10 → G y ≤ n → F y ≤ G y := by
  intro n
  induction n with
  | zero =>
    intro y h0 h1 h2
    have h3 := hG.2.1 y h0 h1
    by_cases c : y = s
    · rw [c, hs, hG.1]
      exact Int.le_refl _
    · obtain ⟨r, x, q1, q2⟩ := hG.2.2.2 y h0 h1 c (by omega)
      have q3 := st_ej_in hI q1
      have q4 := hG.2.1 x q3.1.1 (by omega)
      omega
  | succ n ih =>
    intro y h0 h1 h2
    have h3 := hG.2.1 y h0 h1
    by_cases c : y = s
    · rw [c, hs, hG.1]
      exact Int.le_refl _
    · by_cases c2 : G y = 1000000
      · rw [c2]
        exact hu y h0 h1
      · obtain ⟨r, x, q1, q2⟩ := hG.2.2.2 y h0 h1 c (by omega)
        have q3 := st_ej_in hI q1
        have q5 := ih x q3.1.1 (by omega) (by omega)
        have q6 := hst r x y q1
        omega
theorem st_sp_u {T : Int → Int} {w o s : Int} {F G : Int → Int} (hI : st_I T) (hF : st_sp T w o s F) (hG : st_sp T w o s G) (y : Int) (h0 : 0 ≤ y) (h1 : y < 10) : F y = G y := by
  have f := hF.2.1 y h0 h1
  have g := hG.2.1 y h0 h1
  have a := st_sp_le hI hF.1 (fun z z0 z1 => by have := hF.2.1 z z0 z1; omega) hF.2.2.1 hG (G y).toNat y h0 h1 (by omega)
  have b := st_sp_le hI hG.1 (fun z z0 z1 => by have := hG.2.1 z z0 z1; omega) hG.2.2.1 hF (F y).toNat y h0 h1 (by omega)
  omega
/-- how many -/
noncomputable def ev_nu (p : Int → Prop) : Nat → Nat
  | 0 => 0
  | k + 1 => ev_nu p k + @ite Nat (p k) (Classical.propDecidable _) 1 0
theorem ev_nu_y {p : Int → Prop} {k : Nat} (h : p k) : ev_nu p (k + 1) = ev_nu p k + 1 := by
  show ev_nu p k + @ite Nat (p k) (Classical.propDecidable _) 1 0 = _
  rw [if_pos h]
theorem ev_nu_n {p : Int → Prop} {k : Nat} (h : ¬ p k) : ev_nu p (k + 1) = ev_nu p k := by
  show ev_nu p k + @ite Nat (p k) (Classical.propDecidable _) 1 0 = _
  rw [if_neg h]
  rfl
theorem ev_nu_le {p : Int → Prop} : ∀ k : Nat, ev_nu p k ≤ k := by
  intro k
  induction k with
  | zero => exact Nat.le_refl _
  | succ k ih =>
    by_cases h : p k
    · rw [ev_nu_y h]
      omega
    · rw [ev_nu_n h]
      omega
theorem ev_nu_mono {p q : Int → Prop} : ∀ k : Nat, (∀ y : Nat, y < k → p y → q y) → ev_nu p k ≤ ev_nu q k := by
  intro k
  induction k with
  | zero => intro _; exact Nat.le_refl _
  | succ k ih =>
    intro h
    have h1 := ih (fun y hy => h y (by omega))
    by_cases hp : p k
    · rw [ev_nu_y hp, ev_nu_y (h k (by omega) hp)]
      omega
    · rw [ev_nu_n hp]
      by_cases hq : q k
      · rw [ev_nu_y hq]
        omega
      · rw [ev_nu_n hq]
        exact h1
theorem ev_nu_lt {p q : Int → Prop} : ∀ k : Nat, (∀ y : Nat, y < k → p y → q y) → (∃ y : Nat, y < k ∧ q y ∧ ¬ p y) → ev_nu p k < ev_nu q k := by
  intro k
  induction k with
  | zero => intro _ h; obtain ⟨y, hy, _⟩ := h; omega
  | succ k ih =>
    intro h hx
    obtain ⟨y, hy, hq, hp⟩ := hx
    have h1 := ev_nu_mono k (fun y hy => h y (by omega))
    by_cases c : y = k
    · rw [c] at hq hp
      rw [ev_nu_y hq, ev_nu_n hp]
      omega
    · have h2 := ih (fun y hy => h y (by omega)) ⟨y, by omega, hq, hp⟩
      by_cases hpk : p k
      · rw [ev_nu_y hpk, ev_nu_y (h k (by omega) hpk)]
        omega
      · rw [ev_nu_n hpk]
        by_cases hqk : q k
        · rw [ev_nu_y hqk]
          omega
        · rw [ev_nu_n hqk]
          exact h2
theorem ev_nu_pos {p : Int → Prop} {k : Nat} {y : Int} (h0 : 0 ≤ y) (h1 : y < k) (h : p y) : 1 ≤ ev_nu p k := by
  have h2 := ev_nu_lt (p := fun _ => False) (q := p) k (fun _ _ h => h.elim) ⟨y.toNat, by omega, by rw [show ((y.toNat : Nat) : Int) = y by omega]; exact h, fun h => h⟩
  omega
/-- one more place -/
theorem ev_nu_1 {p q : Int → Prop} {y : Int} (h0 : 0 ≤ y ∧ y < 10) (h : ∀ z, p z → q z) (hy : q y) (hn : ¬ p y) : ev_nu p 10 + 1 ≤ ev_nu q 10 :=
  ev_nu_lt 10 (fun z _ => h z) ⟨y.toNat, by omega, by rw [show ((y.toNat : Nat) : Int) = y by omega]; exact hy, by rw [show ((y.toNat : Nat) : Int) = y by omega]; exact hn⟩
/-! the reference's search: what holds in it -/
def st_di (T : Int → Int) (w o s : Int) (f d : Int → Int) : Prop :=
  (∀ y, 0 ≤ y → y < 10 → 0 ≤ d y ∧ d y ≤ 1) ∧ f s = 0 ∧
  (∀ y, 0 ≤ y → y < 10 → f y = -1 ∨ (0 ≤ f y ∧ f y ≤ 99 * (ev_nu (fun z => d z = 1) 10 : Int))) ∧
  (∀ z, 0 ≤ z → z < 10 → d z = 1 → f z ≠ -1 ∧ ∀ y, 0 ≤ y → y < 10 → d y = 0 → f y ≠ -1 → f z ≤ f y) ∧
  (∀ r z y, st_ej T w o r z y → d z = 1 → f y ≠ -1 ∧ f y ≤ f z + T (9 + 4 * r + 2)) ∧
  (∀ y, 0 ≤ y → y < 10 → y ≠ s → f y ≠ -1 → ∃ r z, st_ej T w o r z y ∧ d z = 1 ∧ f y = f z + T (9 + 4 * r + 2))
def st_ca (f d : Int → Int) (y : Int) : Prop := d y = 0 ∧ f y ≠ -1
/-- the roads of one town, as far as r -/
def st_ro (T : Int → Int) (w o x : Int) (f0 : Int → Int) (r : Int) (f : Int → Int) : Prop :=
  (∀ y, 0 ≤ y → y < 10 → f y = f0 y ∨ ∃ q, q < r ∧ st_ej T w o q x y ∧ f y = f0 x + T (9 + 4 * q + 2) ∧ (f0 y = -1 ∨ f y < f0 y)) ∧
  (∀ q y, q < r → st_ej T w o q x y → f y ≠ -1 ∧ f y ≤ f0 x + T (9 + 4 * q + 2)) ∧ f x = f0 x
theorem st_ro_n {T : Int → Int} {w o x r : Int} {f0 f : Int → Int} (h : st_ro T w o x f0 r f) (hn : ∀ y, ¬ st_ej T w o r x y) : st_ro T w o x f0 (r + 1) f := by
  refine ⟨fun y h0 h1 => ?_, fun q y hq he => ?_, h.2.2⟩
  · rcases h.1 y h0 h1 with g | ⟨q, g1, g2⟩
    · exact Or.inl g
    · exact Or.inr ⟨q, by omega, g2⟩
  · by_cases c : q = r
    · rw [c] at he
      exact absurd he (hn y)
    · exact h.2.1 q y (by omega) he
theorem st_ro_e {T : Int → Int} {w o x r y : Int} {f0 f : Int → Int} (hI : st_I T) (h : st_ro T w o x f0 r f) (he : st_ej T w o r x y) (hx : 0 ≤ f0 x) (hp : ∀ y, 0 ≤ y → y < 10 → f0 y = -1 ∨ 0 ≤ f0 y) : ((f y = -1 ∨ f x + T (9 + 4 * r + 2) < f y) → st_ro T w o x f0 (r + 1) (ev_u1 f y (f x + T (9 + 4 * r + 2)))) ∧ (¬ (f y = -1 ∨ f x + T (9 + 4 * r + 2) < f y) → st_ro T w o x f0 (r + 1) f) := by
  have g := st_ej_in hI he
  have one : ∀ z, st_ej T w o r x z → z = y := fun z hz => by
    have h1 := he.2.2
    have h2 := hz.2.2
    omega
  have hy := h.1 y g.2.1.1 (by omega)
  have hpy := hp y g.2.1.1 (by omega)
  constructor
  · intro hc
    refine ⟨fun z h0 h1 => ?_, fun q z hq hz => ?_, by rw [ev_u1_ne g.2.2.1]; exact h.2.2⟩
    · by_cases c : z = y
      · rw [ev_u1_eq c, c]
        refine Or.inr ⟨r, by omega, he, by rw [h.2.2], ?_⟩
        rcases hy with q1 | ⟨q, q1, q2, q3, q4⟩
        · omega
        · have := (st_ej_in hI q2).2.2.2.1
          omega
      · rw [ev_u1_ne c]
        rcases h.1 z h0 h1 with k | ⟨q, k1, k2⟩
        · exact Or.inl k
        · exact Or.inr ⟨q, by omega, k2⟩
    · by_cases c : z = y
      · rw [ev_u1_eq c]
        by_cases c2 : q = r
        · rw [c2, ← h.2.2]
          have := g.2.2.2.1
          rw [h.2.2]
          omega
        · have k := h.2.1 q z (by omega) hz
          rw [c] at k
          have := g.2.2.2.1
          rw [h.2.2] at hc ⊢
          omega
      · rw [ev_u1_ne c]
        by_cases c2 : q = r
        · rw [c2] at hz
          exact absurd (one z hz) c
        · exact h.2.1 q z (by omega) hz
  · intro hc
    refine ⟨fun z h0 h1 => ?_, fun q z hq hz => ?_, h.2.2⟩
    · rcases h.1 z h0 h1 with k | ⟨q, k1, k2⟩
      · exact Or.inl k
      · exact Or.inr ⟨q, by omega, k2⟩
    · by_cases c2 : q = r
      · rw [c2] at hz ⊢
        rw [one z hz, ← h.2.2]
        omega
      · exact h.2.1 q z (by omega) hz
/-- one town is done -/
theorem st_di_n {T : Int → Int} {w o s x : Int} {f d f2 : Int → Int} (hI : st_I T) (h : st_di T w o s f d) (hx : 0 ≤ x ∧ x < 10) (hc : st_ca f d x) (hm : ∀ y, 0 ≤ y → y < 10 → st_ca f d y → f x ≤ f y) (hs9 : 0 ≤ s ∧ s < 10) (hr : st_ro T w o x f (T 1) f2) : st_di T w o s f2 (ev_u1 d x 1) := by
  obtain ⟨k1, k2, k3, k4, k5, k6⟩ := h
  obtain ⟨r1, r2, r3⟩ := hr
  have hfx : 0 ≤ f x := by
    have := k3 x hx.1 hx.2
    have := hc.2
    omega
  have hcn : ev_nu (fun z => d z = 1) 10 + 1 ≤ ev_nu (fun z => ev_u1 d x 1 z = 1) 10 := ev_nu_1 hx (fun z hz => by
    by_cases c : z = x
    · exact ev_u1_eq c
    · show ev_u1 d x 1 z = 1
      rw [ev_u1_ne c]
      exact hz) (ev_u1_eq rfl) (fun hz => by
    have h1 := hc.1
    omega)
  have hdone : ∀ z, 0 ≤ z → z < 10 → d z = 1 → f2 z = f z ∧ f z ≤ f x ∧ f z ≠ -1 := fun z h0 h1 hz => by
    have q := k4 z h0 h1 hz
    have q2 := q.2 x hx.1 hx.2 hc.1 hc.2
    refine ⟨?_, q2, q.1⟩
    rcases r1 z h0 h1 with g | ⟨r, g1, g2, g3, g4⟩
    · exact g
    · have := (st_ej_in hI g2).2.2.2.1
      have := q.1
      omega
  have hd2 : ∀ z, ev_u1 d x 1 z = 1 → z = x ∨ d z = 1 := fun z hz => by
    by_cases c : z = x
    · exact Or.inl c
    · rw [ev_u1_ne c] at hz
      exact Or.inr hz
  refine ⟨fun y h0 h1 => ?_, ?_, fun y h0 h1 => ?_, fun z h0 h1 hz => ⟨?_, fun y y0 y1 hy hy2 => ?_⟩, fun r z y he hz => ?_, fun y h0 h1 hys hy => ?_⟩
  · by_cases c : y = x
    · rw [ev_u1_eq c]
      omega
    · rw [ev_u1_ne c]
      exact k1 y h0 h1
  · rcases r1 s hs9.1 hs9.2 with g | ⟨r, g1, g2, g3, g4⟩
    · rw [g]
      exact k2
    · have := (st_ej_in hI g2).2.2.2.1
      omega
  · rcases r1 y h0 h1 with g | ⟨r, g1, g2, g3, g4⟩
    · rw [g]
      have := k3 y h0 h1
      omega
    · have := (st_ej_in hI g2).2.2.2.1
      have := k3 x hx.1 hx.2
      omega
  · rcases hd2 z hz with c | c
    · rw [c, r3]
      exact hc.2
    · rw [(hdone z h0 h1 c).1]
      exact (hdone z h0 h1 c).2.2
  · have hyx : y ≠ x := fun c => by rw [ev_u1_eq c] at hy; omega
    rw [ev_u1_ne hyx] at hy
    have hzx : f2 z = f z ∧ f z ≤ f x := by
      rcases hd2 z hz with c | c
      · rw [c]
        exact ⟨r3, Int.le_refl _⟩
      · exact ⟨(hdone z h0 h1 c).1, (hdone z h0 h1 c).2.1⟩
    rcases r1 y y0 y1 with g | ⟨r, g1, g2, g3, g4⟩
    · have := hm y y0 y1 ⟨hy, by rw [← g]; exact hy2⟩
      omega
    · have := (st_ej_in hI g2).2.2.2.1
      omega
  · have g := st_ej_in hI he
    rcases hd2 z hz with c | c
    · rw [c] at he
      have q := r2 r y he.1.2 he
      rw [c, r3]
      exact q
    · have q := k5 r z y he c
      have q2 := hdone z g.1.1 (by omega) c
      rcases r1 y g.2.1.1 (by omega) with p | ⟨r', p1, p2, p3, p4⟩
      · rw [p, q2.1]
        exact q
      · have := (st_ej_in hI p2).2.2.2.1
        omega
  · rcases r1 y h0 h1 with g | ⟨r, g1, g2, g3, g4⟩
    · rw [g] at hy
      obtain ⟨r, z, q1, q2, q3⟩ := k6 y h0 h1 hys hy
      have q4 := st_ej_in hI q1
      refine ⟨r, z, q1, ?_, ?_⟩
      · by_cases c : z = x
        · exact ev_u1_eq c
        · rw [ev_u1_ne c]
          exact q2
      · rw [g, (hdone z q4.1.1 (by omega) q2).1]
        exact q3
    · exact ⟨r, x, g2, ev_u1_eq rfl, by rw [r3]; exact g3⟩
def st_F (f : Int → Int) (y : Int) : Int := if f y = -1 then 1000000 else f y
/-- none is left -/
theorem st_di_e {T : Int → Int} {w o s : Int} {f d : Int → Int} (hI : st_I T) (h : st_di T w o s f d) (hs : 0 ≤ s ∧ s < T 0) (hn : ∀ y, 0 ≤ y → y < T 0 → ¬ st_ca f d y) : st_sp T w o s (st_F f) := by
  obtain ⟨k1, k2, k3, k4, k5, k6⟩ := h
  have i0 := hI.1.1
  have hd : ∀ y, 0 ≤ y → y < T 0 → f y ≠ -1 → d y = 1 := fun y h0 h1 h2 => by
    have := k1 y h0 (by omega)
    by_cases c : d y = 0
    · exact absurd ⟨c, h2⟩ (hn y h0 h1)
    · omega
  have hcn := ev_nu_le (p := fun z => d z = 1) 10
  refine ⟨?_, fun y h0 h1 => ?_, fun r x y he => ?_, fun y h0 h1 hys hy => ?_⟩
  · unfold st_F
    rw [if_neg (by omega)]
    exact k2
  · have := k3 y h0 h1
    unfold st_F
    split <;> omega
  · have g := st_ej_in hI he
    have ky := k3 y g.2.1.1 (by omega)
    have kx := k3 x g.1.1 (by omega)
    unfold st_F
    by_cases c : f x = -1
    · rw [if_pos c]
      split <;> omega
    · rw [if_neg c]
      have q := k5 r x y he (hd x g.1.1 g.1.2 c)
      rw [if_neg q.1]
      exact q.2
  · have hf : f y ≠ -1 := fun c => by
      unfold st_F at hy
      rw [if_pos c] at hy
      omega
    obtain ⟨r, z, q1, q2, q3⟩ := k6 y h0 h1 hys hf
    have g := st_ej_in hI q1
    refine ⟨r, z, q1, ?_⟩
    have := (k4 z g.1.1 (by omega) q2).1
    unfold st_F
    rw [if_neg hf, if_neg this]
    exact q3

