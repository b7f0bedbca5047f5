/-! recorded calls that also use scratch rows -/
def st_k (i : Int) : Prop := (46 ≤ i ∧ i ≤ 160) ∨ i = 162 ∨ i = 163 ∨ i = 164 ∨ i = 165 ∨ i = 182 ∨ i = 183 ∨ i = 184 ∨ i = 190
/-- a recorded call on both sides -/
theorem st_J_save2 {σ σa σ1 σb σ2 : ev_M} (h : st_J σ) (hC : st_HC σ σa) (h1 : ∀ i, st_k i → σ1 i = σa i) (hM : st_HM σ1 σb) (h2 : ∀ i, st_k i → i ≠ 182 → i ≠ 183 → σ2 i = σb i) (h21 : σ2 182 1 = σb 182 1) (h22 : σ2 182 11 = σb 182 11) (h20 : ∀ i, 0 ≤ i → i ≤ 22 → σ2 i = σ1 i) (h3 : ∀ k, 338 ≤ k → k < 2028 → σ2 183 k = σb 183 k) (hT : st_E (st_T σ1 ev_n) (σ2 183)) (hI : st_I (σ2 183)) : st_J σ2 := by
  obtain ⟨a1, a2, a3, a4, a5, a6, a7, a8⟩ := h
  obtain ⟨c1, c2, c3, c4, c5⟩ := hC
  obtain ⟨m1, m2, m3, m4, m5, m6⟩ := hM
  have s1n : σ1 182 1 = σ 162 0 := by rw [h1 182 (by unfold st_k; omega), c1 182 (by omega), a5]
  have hd : 0 ≤ st_d (σ 162 0) ∧ st_d (σ 162 0) ≤ 1 ∧ (σ 162 0 = 5 → st_d (σ 162 0) = 1) ∧ (σ 162 0 ≠ 5 → st_d (σ 162 0) = 0) := by
    unfold st_d
    split <;> omega
  rw [s1n] at m3 m5 m6
  have e162 : σ2 162 = σa 162 := by rw [h2 162 (by unfold st_k; omega) (by omega) (by omega), m1 162 (by omega) (by omega), h1 162 (by unfold st_k; omega)]
  have e163 : σ2 163 = σa 163 := by rw [h2 163 (by unfold st_k; omega) (by omega) (by omega), m1 163 (by omega) (by omega), h1 163 (by unfold st_k; omega)]
  have e2n : σ2 162 0 = σ 162 0 - st_d (σ 162 0) + 1 := by rw [e162, c3]
  have eF : ∀ i, 46 ≤ i → i < 161 → σ2 i = σa i := fun i q0 q1 => by rw [h2 i (by unfold st_k; omega) (by omega) (by omega), m1 i (by omega) (by omega), h1 i (by unfold st_k; omega)]
  refine ⟨st_E_t (fun k k0 k1 => ?_) hT, hI, ?_, by omega, ?_, ?_, ?_, ?_⟩
  · exact st_T_congr (fun o q0 q1 => h20 _ (by unfold ev_n; omega) (by unfold ev_n; omega)) k k0 k1
  · unfold st_K
    rw [e163]
    exact c2
  · rw [h21, m3, e2n]
  · rw [e2n, e163]
    intro i i0 i1
    have hk := c2.1 i i0 (by omega)
    have hkS := hk.1
    unfold ev_S at hkS
    have hTa : st_E (st_T σ2 (σa 163 i)) (st_T σa (σa 163 i)) := st_T_congr (fun o q0 q1 => eF _ (by omega) (by omega))
    have hrow : st_E (fun k => σ2 183 (338 * (i + 1) + k)) (fun k => σb 183 (338 * (i + 1) + k)) := fun k k0 k1 => h3 _ (by omega) (by omega)
    have r183 : σ1 183 = σ 183 := by rw [h1 183 (by unfold st_k; omega), c1 183 (by omega)]
    by_cases hlt : i < σ 162 0 - st_d (σ 162 0)
    · have ha := a6 (i + st_d (σ 162 0)) (by omega) (by omega)
      have hmr : st_E (fun k => σb 183 (338 * (i + 1) + k)) (fun k => σ 183 (338 * (i + st_d (σ 162 0) + 1) + k)) := fun k k0 k1 => by
        show σb 183 (338 * (i + 1) + k) = _
        rw [m5 i i0 hlt k k0 k1, r183]
      exact ⟨st_E_t hTa (st_E_t (c4 i i0 hlt) (st_E_t ha.1 (st_E_s (st_E_t hrow hmr)))), st_I_E (st_E_s (st_E_t hrow hmr)) ha.2⟩
    · obtain rfl : i = σ 162 0 - st_d (σ 162 0) := by omega
      have hmr : st_E (fun k => σb 183 (338 * (σ 162 0 - st_d (σ 162 0) + 1) + k)) (σ 183) := fun k k0 k1 => by
        show σb 183 (338 * (σ 162 0 - st_d (σ 162 0) + 1) + k) = _
        rw [m6 k k0 k1, r183]
      exact ⟨st_E_t hTa (st_E_t c5 (st_E_t a1 (st_E_s (st_E_t hrow hmr)))), st_I_E (st_E_s (st_E_t hrow hmr)) a2⟩
  · have e164 : σ2 164 = σ 164 := by rw [h2 164 (by unfold st_k; omega) (by omega) (by omega), m1 164 (by omega) (by omega), h1 164 (by unfold st_k; omega), c1 164 (by omega)]
    have e165 : σ2 165 = σ 165 := by rw [h2 165 (by unfold st_k; omega) (by omega) (by omega), m1 165 (by omega) (by omega), h1 165 (by unfold st_k; omega), c1 165 (by omega)]
    have e190 : σ2 190 = σ 190 := by rw [h2 190 (by unfold st_k; omega) (by omega) (by omega), m1 190 (by omega) (by omega), h1 190 (by unfold st_k; omega), c1 190 (by omega)]
    have e11 : σ2 182 11 = σ 182 11 := by rw [h22, m2 11 (by omega), h1 182 (by unfold st_k; omega), c1 182 (by omega)]
    unfold st_X
    rw [e164, e165, e190, e11]
    exact a7
  · rw [h2 184 (by unfold st_k; omega) (by omega) (by omega), m1 184 (by omega) (by omega), h1 184 (by unfold st_k; omega), c1 184 (by omega)]
    exact a8
theorem ev_ua_comm {σ : ev_M} {i k : Int} {f g : Int → Int} (h : i ≠ k) : ev_ua (ev_ua σ i f) k g = ev_ua (ev_ua σ k g) i f := by
  funext a b
  unfold ev_ua
  by_cases c : a = k
  · subst c
    simp [Ne.symm h]
  · simp [c]
theorem pi_look {T : Int → Int} {b v y w z : Int} (h : st_I T) (hb1 : 0 ≤ b ∧ b < T 2) (hv : 0 ≤ v ∧ v ≤ 9) (hy : T 5 = y) : st_I (ev_u1 (ev_u1 (ev_u1 (ev_u1 T (89 + 5 * b + 2) v) (89 + 5 * b + 3) y) 6 w) 7 z) := by
  obtain ⟨⟨i0, i1, i2, i3, i4, i5⟩, hr, hb, hc, hp, hl, hq⟩ := h
  refine ⟨?_, fun q h0 h1 => ?_, fun q h0 h1 => ?_, fun q h0 h1 => ?_, fun q c h0 h1 h2 h3 => ?_, fun l h0 h1 => ?_, fun q h0 h1 => ⟨?_, fun z z0 z1 => ?_⟩⟩
  · simp (disch := omega) only [ev_u1_eq, ev_u1_ne]
    omega
  · simp (disch := omega) only [ev_u1_eq, ev_u1_ne] at h1
    have h7 := hr q h0 h1
    simp (disch := omega) only [ev_u1_eq, ev_u1_ne]
    exact h7
  · simp (disch := omega) only [ev_u1_eq, ev_u1_ne] at h1
    have h7 := hb q h0 h1
    by_cases hqb : q = b
    · subst hqb
      simp (disch := omega) only [ev_u1_eq, ev_u1_ne]
      omega
    · simp (disch := omega) only [ev_u1_eq, ev_u1_ne]
      exact h7
  · simp (disch := omega) only [ev_u1_eq, ev_u1_ne]
    exact hc q h0 h1
  · simp (disch := omega) only [ev_u1_eq, ev_u1_ne] at h1
    have h6 := hb q h0 h1
    simp (disch := omega) only [ev_u1_eq, ev_u1_ne] at h3
    have h7 := hp q c h0 h1 h2 h3
    simp (disch := omega) only [ev_u1_eq, ev_u1_ne]
    exact h7
  · simp (disch := omega) only [ev_u1_eq, ev_u1_ne] at h1
    have h7 := hl l h0 h1
    simp (disch := omega) only [ev_u1_eq, ev_u1_ne]
    exact h7
  · simp (disch := omega) only [ev_u1_eq, ev_u1_ne] at h1
    have h7 := (hq q h0 h1).1
    simp (disch := omega) only [ev_u1_eq, ev_u1_ne]
    exact h7
  · simp (disch := omega) only [ev_u1_eq, ev_u1_ne] at h1
    have h7 := (hq q h0 h1).2 z z0 z1
    simp (disch := omega) only [ev_u1_eq, ev_u1_ne]
    exact h7
/-- the row behind a look -/
def st_look (T : Int → Int) (b : Int) : Int → Int := ev_u1 (ev_u1 (ev_u1 (ev_u1 T (89 + 5 * b + 2) (st_rt T b)) (89 + 5 * b + 3) (T 5)) 6 (T 6 + 1)) 7 (T 7 + (5 + T (89 + 5 * b + 1)))
