/-! what holds between two calls -/
def st_I (T : Int → Int) : Prop :=
  ((0 ≤ T 0 ∧ T 0 ≤ 10) ∧ (0 ≤ T 1 ∧ T 1 ≤ 20) ∧ (0 ≤ T 2 ∧ T 2 ≤ 6) ∧ (0 ≤ T 3 ∧ T 3 ≤ 8) ∧ (0 ≤ T 4 ∧ T 4 ≤ 3) ∧ (0 ≤ T 5 ∧ T 5 ≤ 1000)) ∧
  (∀ r, 0 ≤ r → r < T 1 → (0 ≤ T (9 + 4 * r) ∧ T (9 + 4 * r) < T 0) ∧ (0 ≤ T (9 + 4 * r + 1) ∧ T (9 + 4 * r + 1) < T 0) ∧ T (9 + 4 * r) ≠ T (9 + 4 * r + 1) ∧ (1 ≤ T (9 + 4 * r + 2) ∧ T (9 + 4 * r + 2) ≤ 99) ∧ (-1 ≤ T (9 + 4 * r + 3) ∧ T (9 + 4 * r + 3) < T 2)) ∧
  (∀ b, 0 ≤ b → b < T 2 → (0 ≤ T (89 + 5 * b) ∧ T (89 + 5 * b) < T 1) ∧ (0 ≤ T (89 + 5 * b + 1) ∧ T (89 + 5 * b + 1) ≤ 6) ∧ (0 ≤ T (89 + 5 * b + 2) ∧ T (89 + 5 * b + 2) ≤ 9) ∧ (0 ≤ T (89 + 5 * b + 3) ∧ T (89 + 5 * b + 3) ≤ T 5)) ∧
  (∀ b, 0 ≤ b → b < 6 → 0 ≤ T (89 + 5 * b + 4) ∧ T (89 + 5 * b + 4) ≤ 1) ∧
  (∀ b c, 0 ≤ b → b < T 2 → 0 ≤ c → c < T (89 + 5 * b + 1) → (0 ≤ T (119 + 30 * b + 5 * c) ∧ T (119 + 30 * b + 5 * c) ≤ 3) ∧ (0 ≤ T (119 + 30 * b + 5 * c + 1) ∧ T (119 + 30 * b + 5 * c + 1) ≤ 9) ∧ (0 ≤ T (119 + 30 * b + 5 * c + 2) ∧ T (119 + 30 * b + 5 * c + 2) ≤ 99) ∧ (0 ≤ T (119 + 30 * b + 5 * c + 3) ∧ T (119 + 30 * b + 5 * c + 3) ≤ 60) ∧ (0 ≤ T (119 + 30 * b + 5 * c + 4) ∧ T (119 + 30 * b + 5 * c + 4) ≤ 127)) ∧
  (∀ l, 0 ≤ l → l < T 3 → (0 ≤ T (299 + 3 * l) ∧ T (299 + 3 * l) < T 2) ∧ (0 ≤ T (299 + 3 * l + 1) ∧ T (299 + 3 * l + 1) < T (89 + 5 * T (299 + 3 * l) + 1)) ∧ (1 ≤ T (299 + 3 * l + 2) ∧ T (299 + 3 * l + 2) ≤ 9)) ∧
  (∀ q, 0 ≤ q → q < T 4 → (0 ≤ T (323 + 5 * q) ∧ T (323 + 5 * q) ≤ 999) ∧ ∀ z, 0 ≤ z → z < 4 → 1 ≤ T (323 + 5 * q + 1 + z) ∧ T (323 + 5 * q + 1 + z) ≤ 99)
def st_E (f g : Int → Int) : Prop := ∀ k, 0 ≤ k → k < 338 → f k = g k
theorem st_E_r {f : Int → Int} : st_E f f := fun _ _ _ => rfl
theorem st_E_t {f g h : Int → Int} (a : st_E f g) (b : st_E g h) : st_E f h := fun k h0 h1 => (a k h0 h1).trans (b k h0 h1)
theorem st_E_s {f g : Int → Int} (a : st_E f g) : st_E g f := fun k h0 h1 => (a k h0 h1).symm
theorem st_E_u {f g : Int → Int} {a v : Int} (h : st_E f g) : st_E (ev_u1 f a v) (ev_u1 g a v) := by
  intro k h0 h1
  by_cases c : k = a
  · rw [ev_u1_eq c, ev_u1_eq c]
  · rw [ev_u1_ne c, ev_u1_ne c]
    exact h k h0 h1
theorem ev_row_up {σ : ev_M} {i k v : Int} : ev_up σ i k v i = ev_u1 (σ i) k v := by
  funext b
  unfold ev_up ev_u1
  by_cases h : b = k <;> simp [h]
def st_X (σ : ev_M) : Prop := (σ 164 1 = σ 182 11 ∧ 0 ≤ σ 182 11 ∧ σ 182 11 ≤ 100) ∧ ∀ i, 0 ≤ i → i < σ 182 11 → σ 165 i = σ 190 i ∧ 0 ≤ σ 190 i ∧ σ 190 i ≤ 255
def st_J (σ : ev_M) : Prop := st_E (st_T σ ev_n) (σ 183) ∧ st_I (σ 183) ∧ st_K σ ∧ (0 ≤ σ 162 0 ∧ σ 162 0 ≤ 5) ∧ σ 182 1 = σ 162 0 ∧ (∀ i, 0 ≤ i → i < σ 162 0 → st_E (st_T σ (σ 163 i)) (fun k => σ 183 (338 * (i + 1) + k)) ∧ st_I (fun k => σ 183 (338 * (i + 1) + k))) ∧ st_X σ ∧ ∀ r, 0 ≤ r → r ≤ 9 → σ 184 r = ev_ps r
/-- st_I speaks of the first 338 places alone -/
theorem st_I_E {T U : Int → Int} (e : st_E T U) (h : st_I T) : st_I U := by
  obtain ⟨⟨a0, a1, a2, a3, a4, a5⟩, hr, hb, hc, hp, hl, hq⟩ := h
  have e0 := e 0 (by omega) (by omega)
  have e1 := e 1 (by omega) (by omega)
  have e2 := e 2 (by omega) (by omega)
  have e3 := e 3 (by omega) (by omega)
  have e4 := e 4 (by omega) (by omega)
  have e5 := e 5 (by omega) (by omega)
  refine ⟨by omega, fun r h0 h1 => ?_, fun b h0 h1 => ?_, fun b h0 h1 => ?_, fun b c h0 h1 h2 h3 => ?_, fun l h0 h1 => ?_, fun q h0 h1 => ⟨?_, fun z z0 z1 => ?_⟩⟩
  · have h := hr r h0 (by omega)
    rw [← e (9 + 4 * r) (by omega) (by omega), ← e (9 + 4 * r + 1) (by omega) (by omega), ← e (9 + 4 * r + 2) (by omega) (by omega), ← e (9 + 4 * r + 3) (by omega) (by omega)]
    omega
  · have h := hb b h0 (by omega)
    rw [← e (89 + 5 * b) (by omega) (by omega), ← e (89 + 5 * b + 1) (by omega) (by omega), ← e (89 + 5 * b + 2) (by omega) (by omega), ← e (89 + 5 * b + 3) (by omega) (by omega)]
    omega
  · rw [← e (89 + 5 * b + 4) (by omega) (by omega)]
    exact hc b h0 h1
  · have hb1 := hb b h0 (by omega)
    have eb := e (89 + 5 * b + 1) (by omega) (by omega)
    have h := hp b c h0 (by omega) h2 (by omega)
    rw [← e (119 + 30 * b + 5 * c) (by omega) (by omega), ← e (119 + 30 * b + 5 * c + 1) (by omega) (by omega), ← e (119 + 30 * b + 5 * c + 2) (by omega) (by omega), ← e (119 + 30 * b + 5 * c + 3) (by omega) (by omega), ← e (119 + 30 * b + 5 * c + 4) (by omega) (by omega)]
    exact h
  · have h := hl l h0 (by omega)
    rw [← e (299 + 3 * l) (by omega) (by omega), ← e (299 + 3 * l + 1) (by omega) (by omega), ← e (299 + 3 * l + 2) (by omega) (by omega), ← e (89 + 5 * T (299 + 3 * l) + 1) (by omega) (by omega), ← e2]
    exact h
  · have h := (hq q h0 (by omega)).1
    rw [← e (323 + 5 * q) (by omega) (by omega)]
    exact h
  · have h := (hq q h0 (by omega)).2 z z0 z1
    rw [← e (323 + 5 * q + 1 + z) (by omega) (by omega)]
    exact h
/-- a call that records nothing, and leaves what counts -/
def st_N (σ σ1 : ev_M) : Prop := (∀ i, (0 ≤ i ∧ i ≤ 22) ∨ (46 ≤ i ∧ i ≤ 160) ∨ i = 163 ∨ i = 165 ∨ i = 184 ∨ i = 190 → σ1 i = σ i) ∧ σ1 162 0 = σ 162 0 ∧ σ1 164 1 = σ 164 1 ∧ σ1 182 1 = σ 182 1 ∧ σ1 182 11 = σ 182 11 ∧ ∀ k, 0 ≤ k → k < 2028 → σ1 183 k = σ 183 k
theorem st_N_r {σ : ev_M} : st_N σ σ := ⟨fun _ _ => rfl, rfl, rfl, rfl, rfl, fun _ _ _ => rfl⟩
theorem st_N_t {σ σ1 σ2 : ev_M} (a : st_N σ σ1) (b : st_N σ1 σ2) : st_N σ σ2 :=
  ⟨fun i h => (b.1 i h).trans (a.1 i h), b.2.1.trans a.2.1, b.2.2.1.trans a.2.2.1, b.2.2.2.1.trans a.2.2.2.1, b.2.2.2.2.1.trans a.2.2.2.2.1, fun k h0 h1 => (b.2.2.2.2.2 k h0 h1).trans (a.2.2.2.2.2 k h0 h1)⟩
theorem st_J_N {σ σ1 : ev_M} (h : st_J σ) (n : st_N σ σ1) : st_J σ1 := by
  obtain ⟨a1, a2, a3, a4, a5, a6, a7, a8⟩ := h
  obtain ⟨n1, n2, n3, n4, n5, n6⟩ := n
  have r0 : st_E (σ1 183) (σ 183) := fun k h0 h1 => n6 k h0 (by omega)
  have e163 := n1 163 (by omega)
  refine ⟨st_E_t (fun k h0 h1 => ?_) (st_E_t a1 (st_E_s r0)), st_I_E (st_E_s r0) a2, ?_, by omega, by omega, ?_, ?_, ?_⟩
  · exact st_T_congr (fun o q0 q1 => n1 _ (by unfold ev_n; omega)) k h0 h1
  · unfold st_K
    rw [e163]
    exact a3
  · rw [n2, e163]
    intro i h0 h1
    have rr : st_E (fun k => σ1 183 (338 * (i + 1) + k)) (fun k => σ 183 (338 * (i + 1) + k)) := fun k k0 k1 => n6 _ (by omega) (by omega)
    have hk := a3.1 i h0 (by omega)
    have hkS := hk.1
    unfold ev_S at hkS
    refine ⟨st_E_t (fun k k0 k1 => ?_) (st_E_t (a6 i h0 h1).1 (st_E_s rr)), st_I_E (st_E_s rr) (a6 i h0 h1).2⟩
    exact st_T_congr (fun o q0 q1 => n1 _ (by omega)) k k0 k1
  · unfold st_X
    rw [n3, n5, n1 165 (by omega), n1 190 (by omega)]
    exact a7
  · rw [n1 184 (by omega)]
    exact a8
/-- a recorded call on both sides -/
theorem st_J_save {σ σa σ1 σb σ2 : ev_M} (h : st_J σ) (hC : st_HC σ σa) (h1 : ∀ i, 22 < i → σ1 i = σa i) (hM : st_HM σ1 σb) (h2 : ∀ i, 22 < i → i < 46 ∨ i < 161 ∨ i = 162 ∨ i = 163 ∨ i = 164 ∨ i = 165 ∨ i = 182 ∨ i = 184 ∨ i = 190 → σ2 i = σb i) (h20 : ∀ i, 0 ≤ i → i ≤ 22 → σ2 i = σ1 i) (h3 : ∀ k, 338 ≤ k → σ2 183 k = σb 183 k) (hT : st_E (st_T σ1 ev_n) (σ2 183)) (hI : st_I (σ2 183)) : st_J σ2 := by
  obtain ⟨a1, a2, a3, a4, a5, a6, a7, a8⟩ := h
  obtain ⟨c1, c2, c3, c4, c5⟩ := hC
  obtain ⟨m1, m2, m3, m4, m5, m6⟩ := hM
  have s1n : σ1 182 1 = σ 162 0 := by rw [h1 182 (by omega), c1 182 (by omega), a5]
  have hd : 0 ≤ st_d (σ 162 0) ∧ st_d (σ 162 0) ≤ 1 ∧ (σ 162 0 = 5 → st_d (σ 162 0) = 1) ∧ (σ 162 0 ≠ 5 → st_d (σ 162 0) = 0) := by
    unfold st_d
    split <;> omega
  rw [s1n] at m3 m5 m6
  have e162 : σ2 162 = σa 162 := by rw [h2 162 (by omega) (by omega), m1 162 (by omega) (by omega), h1 162 (by omega)]
  have e163 : σ2 163 = σa 163 := by rw [h2 163 (by omega) (by omega), m1 163 (by omega) (by omega), h1 163 (by omega)]
  have e2n : σ2 162 0 = σ 162 0 - st_d (σ 162 0) + 1 := by rw [e162, c3]
  have eF : ∀ i, 46 ≤ i → i < 161 → σ2 i = σa i := fun i q0 q1 => by rw [h2 i (by omega) (by omega), m1 i (by omega) (by omega), h1 i (by omega)]
  refine ⟨st_E_t (fun k k0 k1 => ?_) hT, hI, ?_, by omega, ?_, ?_, ?_, ?_⟩
  · exact st_T_congr (fun o q0 q1 => h20 _ (by unfold ev_n; omega) (by unfold ev_n; omega)) k k0 k1
  · unfold st_K
    rw [e163]
    exact c2
  · rw [h2 182 (by omega) (by omega), m3, e2n]
  · rw [e2n, e163]
    intro i i0 i1
    have hk := c2.1 i i0 (by omega)
    have hkS := hk.1
    unfold ev_S at hkS
    have hTa : st_E (st_T σ2 (σa 163 i)) (st_T σa (σa 163 i)) := st_T_congr (fun o q0 q1 => eF _ (by omega) (by omega))
    have hrow : st_E (fun k => σ2 183 (338 * (i + 1) + k)) (fun k => σb 183 (338 * (i + 1) + k)) := fun k k0 k1 => h3 _ (by omega)
    have r183 : σ1 183 = σ 183 := by rw [h1 183 (by omega), c1 183 (by omega)]
    by_cases hlt : i < σ 162 0 - st_d (σ 162 0)
    · have ha := a6 (i + st_d (σ 162 0)) (by omega) (by omega)
      have hmr : st_E (fun k => σb 183 (338 * (i + 1) + k)) (fun k => σ 183 (338 * (i + st_d (σ 162 0) + 1) + k)) := fun k k0 k1 => by
        show σb 183 (338 * (i + 1) + k) = _
        rw [m5 i i0 hlt k k0 k1, r183]
      exact ⟨st_E_t hTa (st_E_t (c4 i i0 hlt) (st_E_t ha.1 (st_E_s (st_E_t hrow hmr)))), st_I_E (st_E_s (st_E_t hrow hmr)) ha.2⟩
    · obtain rfl : i = σ 162 0 - st_d (σ 162 0) := by omega
      have hmr : st_E (fun k => σb 183 (338 * (σ 162 0 - st_d (σ 162 0) + 1) + k)) (σ 183) := fun k k0 k1 => by
        show σb 183 (338 * (σ 162 0 - st_d (σ 162 0) + 1) + k) = _
        rw [m6 k k0 k1, r183]
      exact ⟨st_E_t hTa (st_E_t c5 (st_E_t a1 (st_E_s (st_E_t hrow hmr)))), st_I_E (st_E_s (st_E_t hrow hmr)) a2⟩
  · have e164 : σ2 164 = σ 164 := by rw [h2 164 (by omega) (by omega), m1 164 (by omega) (by omega), h1 164 (by omega), c1 164 (by omega)]
    have e165 : σ2 165 = σ 165 := by rw [h2 165 (by omega) (by omega), m1 165 (by omega) (by omega), h1 165 (by omega), c1 165 (by omega)]
    have e190 : σ2 190 = σ 190 := by rw [h2 190 (by omega) (by omega), m1 190 (by omega) (by omega), h1 190 (by omega), c1 190 (by omega)]
    have e11 : σ2 182 11 = σ 182 11 := by rw [h2 182 (by omega) (by omega), m2 11 (by omega), h1 182 (by omega), c1 182 (by omega)]
    unfold st_X
    rw [e164, e165, e190, e11]
    exact a7
  · rw [h2 184 (by omega) (by omega), m1 184 (by omega) (by omega), h1 184 (by omega), c1 184 (by omega)]
    exact a8

