/-! calls on both sides: ratings -/
def st_rt (T : Int → Int) (b : Int) : Int := ev_tr (fun c => T (119 + 30 * b + 5 * c + 1)) (fun c => T (119 + 30 * b + 5 * c + 4)) (T (89 + 5 * b + 1))
theorem st_pk {σ : ev_M} {s b : Int} (hI : st_I (st_T σ s)) (hb : 0 ≤ b ∧ b < st_T σ s 2) : ev_pk σ s b := by
  obtain ⟨⟨i0, i1, i2, i3, i4, i5⟩, hr, hb1, hc, hp, hl, hq⟩ := hI
  have h := hb1 b hb.1 hb.2
  have e11 := tr_11 (σ := σ) (s := s) (b := b) (by omega)
  refine ⟨by omega, fun c h0 h1 => ?_⟩
  rw [e11] at h1
  have hpc := hp b c hb.1 hb.2 h0 h1
  rw [tr_13 (σ := σ) (s := s) (b := b) (c := c) (by omega) (by omega), tr_14 (σ := σ) (s := s) (b := b) (c := c) (by omega) (by omega), tr_15 (σ := σ) (s := s) (b := b) (c := c) (by omega) (by omega), tr_16 (σ := σ) (s := s) (b := b) (c := c) (by omega) (by omega)]
  exact hpc.2
theorem st_rt_s {σ : ev_M} {s b : Int} (hI : st_I (st_T σ s)) (hb : 0 ≤ b ∧ b < st_T σ s 2) : ev_rt σ s b = st_rt (st_T σ s) b := by
  have hpk := st_pk hI hb
  have h2 := hI.1.2.2.1
  have e11 := tr_11 (σ := σ) (s := s) (b := b) (by omega)
  unfold ev_rt st_rt
  rw [e11]
  have h6 := hpk.1
  rw [e11] at h6
  refine ev_tr_congr h6.1 (fun c h0 h1 => ⟨?_, ?_⟩)
  · exact tr_13 (by omega) (by omega)
  · exact tr_16 (by omega) (by omega)
theorem st_rt_E {T U : Int → Int} {b : Int} (e : st_E T U) (hI : st_I T) (hb : 0 ≤ b ∧ b < T 2) : st_rt T b = st_rt U b := by
  obtain ⟨⟨i0, i1, i2, i3, i4, i5⟩, hr, hb1, hc, hp, hl, hq⟩ := hI
  have h := hb1 b hb.1 hb.2
  unfold st_rt
  rw [← e (89 + 5 * b + 1) (by omega) (by omega)]
  exact ev_tr_congr h.2.1.1 (fun c h0 h1 => ⟨e _ (by omega) (by omega), e _ (by omega) (by omega)⟩)
theorem st_rt_in {T : Int → Int} {b : Int} (hI : st_I T) (hb : 0 ≤ b ∧ b < T 2) : 0 ≤ st_rt T b ∧ st_rt T b ≤ 9 := by
  obtain ⟨⟨i0, i1, i2, i3, i4, i5⟩, hr, hb1, hc, hp, hl, hq⟩ := hI
  exact ev_tr_in (hb1 b hb.1 hb.2).2.1.1 (fun c h0 h1 => (hp b c hb.1 hb.2 h0 h1).2.1)
theorem st_N_ua {σ : ev_M} {i : Int} {f : Int → Int} (h : ¬ ((0 ≤ i ∧ i ≤ 22) ∨ (46 ≤ i ∧ i ≤ 160) ∨ i = 162 ∨ i = 163 ∨ i = 164 ∨ i = 165 ∨ i = 182 ∨ i = 183 ∨ i = 184 ∨ i = 190)) : st_N σ (ev_ua σ i f) :=
  ⟨fun j hj => ev_ua_row (by omega), ev_ua_ne (by omega), ev_ua_ne (by omega), ev_ua_ne (by omega), ev_ua_ne (by omega), fun _ _ _ => ev_ua_ne (by omega)⟩
theorem st_N_fr {σ : ev_M} {f g : Int → Int} : st_N σ (ev_fr σ f g) := st_N_t (st_N_ua (by omega)) (st_N_ua (by omega))
theorem ev_fr_row {σ : ev_M} {f g : Int → Int} {i : Int} (h : i ≠ 171 ∧ i ≠ 172) : ev_fr σ f g i = σ i := by
  unfold ev_fr
  rw [ev_ua_row h.2, ev_ua_row h.1]
theorem c_18T {b : Int} {σ : ev_M} (hE : st_E (st_T σ ev_n) (σ 183)) (hI : st_I (σ 183)) (hb : 0 ≤ b ∧ b < σ 183 2) : ∃ f g, EM 18 [.inr (.inl 170), .inr (.inl (ev_n + 6)), .inl b] σ = some (some (.inl (st_rt (σ 183) b)), ev_fr σ f g) ∧ (∀ o, 0 ≤ o → o < σ 183 (89 + 5 * b + 1) → f o = σ 183 (119 + 30 * b + 5 * o + 1)) ∧ ∀ q, 0 ≤ q → q < σ 183 (89 + 5 * b + 1) → g q = ev_sf (fun c => σ 183 (119 + 30 * b + 5 * c + 1)) (fun c => σ 183 (119 + 30 * b + 5 * c + 4)) (σ 183 (89 + 5 * b + 1)) (σ 183 (89 + 5 * b + 1)).toNat q := by
  have hI2 := st_I_E (st_E_s hE) hI
  have e2 := hE 2 (by omega) (by omega)
  have hb2 : 0 ≤ b ∧ b < st_T σ ev_n 2 := by omega
  have i2 := hI.1.2.2.1
  have hpk := st_pk hI2 hb2
  obtain ⟨f, g, e, hf, hg⟩ := c_18 ev_S_n (by omega) hpk
  have e11 : σ (ev_n + 11) b = σ 183 (89 + 5 * b + 1) := (tr_11 (by omega)).trans (hE _ (by omega) (by omega))
  have h6 := hpk.1
  rw [st_rt_s hI2 hb2, st_rt_E hE hI2 hb2] at e
  rw [e11] at hf hg h6
  have e13 : ∀ c, 0 ≤ c → c < σ 183 (89 + 5 * b + 1) → σ (ev_n + 13) (b * 6 + c) = σ 183 (119 + 30 * b + 5 * c + 1) := fun c h0 h1 => (tr_13 (by omega) (by omega)).trans (hE _ (by omega) (by omega))
  have e16 : ∀ c, 0 ≤ c → c < σ 183 (89 + 5 * b + 1) → σ (ev_n + 16) (b * 6 + c) = σ 183 (119 + 30 * b + 5 * c + 4) := fun c h0 h1 => (tr_16 (by omega) (by omega)).trans (hE _ (by omega) (by omega))
  refine ⟨f, g, e, fun o h0 h1 => (hf o h0 h1).trans (e13 o h0 h1), fun q h0 h1 => (hg q h0 h1).trans ?_⟩
  exact ev_sf_congr _ (by omega) (fun c h0 h1 => ⟨e13 c h0 h1, e16 c h0 h1⟩) q
