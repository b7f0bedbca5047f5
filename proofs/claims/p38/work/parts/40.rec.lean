/-! a call on both sides: the frame of the pairs -/
theorem st_rd {σ : ev_M} (h : st_E (st_T σ ev_n) (σ 183)) : σ (ev_n + 1) 0 = σ 183 0 ∧ σ (ev_n + 1) 1 = σ 183 1 ∧ σ (ev_n + 6) 0 = σ 183 2 ∧ σ (ev_n + 17) 0 = σ 183 3 ∧ σ (ev_n + 17) 1 = σ 183 4 ∧ σ ev_n 3 = σ 183 5 ∧ σ ev_n 4 = σ 183 6 ∧ σ ev_n 5 = σ 183 7 ∧ σ ev_n 6 = σ 183 8 ∧ (∀ r, 0 ≤ r → r < 20 → σ (ev_n + 2) r = σ 183 (9 + 4 * r)) ∧ (∀ r, 0 ≤ r → r < 20 → σ (ev_n + 3) r = σ 183 (9 + 4 * r + 1)) ∧ (∀ r, 0 ≤ r → r < 20 → σ (ev_n + 4) r = σ 183 (9 + 4 * r + 2)) ∧ (∀ r, 0 ≤ r → r < 20 → σ (ev_n + 5) r = σ 183 (9 + 4 * r + 3)) ∧ (∀ b, 0 ≤ b → b < 6 → σ (ev_n + 7) b = σ 183 (89 + 5 * b)) ∧ (∀ b, 0 ≤ b → b < 6 → σ (ev_n + 11) b = σ 183 (89 + 5 * b + 1)) ∧ (∀ b, 0 ≤ b → b < 6 → σ (ev_n + 8) b = σ 183 (89 + 5 * b + 2)) ∧ (∀ b, 0 ≤ b → b < 6 → σ (ev_n + 9) b = σ 183 (89 + 5 * b + 3)) ∧ (∀ b, 0 ≤ b → b < 6 → σ (ev_n + 10) b = σ 183 (89 + 5 * b + 4)) ∧ (∀ b c, 0 ≤ b → b < 6 → 0 ≤ c → c < 6 → σ (ev_n + 12) (b * 6 + c) = σ 183 (119 + 30 * b + 5 * c)) ∧ (∀ b c, 0 ≤ b → b < 6 → 0 ≤ c → c < 6 → σ (ev_n + 13) (b * 6 + c) = σ 183 (119 + 30 * b + 5 * c + 1)) ∧ (∀ b c, 0 ≤ b → b < 6 → 0 ≤ c → c < 6 → σ (ev_n + 14) (b * 6 + c) = σ 183 (119 + 30 * b + 5 * c + 2)) ∧ (∀ b c, 0 ≤ b → b < 6 → 0 ≤ c → c < 6 → σ (ev_n + 15) (b * 6 + c) = σ 183 (119 + 30 * b + 5 * c + 3)) ∧ (∀ b c, 0 ≤ b → b < 6 → 0 ≤ c → c < 6 → σ (ev_n + 16) (b * 6 + c) = σ 183 (119 + 30 * b + 5 * c + 4)) ∧ (∀ l, 0 ≤ l → l < 8 → σ (ev_n + 18) l = σ 183 (299 + 3 * l)) ∧ (∀ l, 0 ≤ l → l < 8 → σ (ev_n + 19) l = σ 183 (299 + 3 * l + 1)) ∧ (∀ l, 0 ≤ l → l < 8 → σ (ev_n + 20) l = σ 183 (299 + 3 * l + 2)) ∧ (∀ b, 0 ≤ b → b < 3 → σ (ev_n + 21) b = σ 183 (323 + 5 * b)) ∧ (∀ b q, 0 ≤ b → b < 3 → 0 ≤ q → q < 4 → σ (ev_n + 22) (b * 4 + q) = σ 183 (323 + 5 * b + 1 + q)) := by
  refine ⟨tr_n0.trans (h _ (by omega) (by omega)), tr_n1.trans (h _ (by omega) (by omega)), tr_n2.trans (h _ (by omega) (by omega)), tr_n3.trans (h _ (by omega) (by omega)), tr_n4.trans (h _ (by omega) (by omega)), tr_n5.trans (h _ (by omega) (by omega)), tr_n6.trans (h _ (by omega) (by omega)), tr_n7.trans (h _ (by omega) (by omega)), tr_n8.trans (h _ (by omega) (by omega)), ?_, ?_, ?_, ?_, ?_, ?_, ?_, ?_, ?_, ?_, ?_, ?_, ?_, ?_, ?_, ?_, ?_, ?_, ?_⟩
  · exact fun r h0 h1 => (tr_2 ⟨h0, h1⟩).trans (h _ (by omega) (by omega))
  · exact fun r h0 h1 => (tr_3 ⟨h0, h1⟩).trans (h _ (by omega) (by omega))
  · exact fun r h0 h1 => (tr_4 ⟨h0, h1⟩).trans (h _ (by omega) (by omega))
  · exact fun r h0 h1 => (tr_5 ⟨h0, h1⟩).trans (h _ (by omega) (by omega))
  · exact fun r h0 h1 => (tr_7 ⟨h0, h1⟩).trans (h _ (by omega) (by omega))
  · exact fun r h0 h1 => (tr_11 ⟨h0, h1⟩).trans (h _ (by omega) (by omega))
  · exact fun r h0 h1 => (tr_8 ⟨h0, h1⟩).trans (h _ (by omega) (by omega))
  · exact fun r h0 h1 => (tr_9 ⟨h0, h1⟩).trans (h _ (by omega) (by omega))
  · exact fun r h0 h1 => (tr_10 ⟨h0, h1⟩).trans (h _ (by omega) (by omega))
  · exact fun b c h0 h1 h2 h3 => (tr_12 ⟨h0, h1⟩ ⟨h2, h3⟩).trans (h _ (by omega) (by omega))
  · exact fun b c h0 h1 h2 h3 => (tr_13 ⟨h0, h1⟩ ⟨h2, h3⟩).trans (h _ (by omega) (by omega))
  · exact fun b c h0 h1 h2 h3 => (tr_14 ⟨h0, h1⟩ ⟨h2, h3⟩).trans (h _ (by omega) (by omega))
  · exact fun b c h0 h1 h2 h3 => (tr_15 ⟨h0, h1⟩ ⟨h2, h3⟩).trans (h _ (by omega) (by omega))
  · exact fun b c h0 h1 h2 h3 => (tr_16 ⟨h0, h1⟩ ⟨h2, h3⟩).trans (h _ (by omega) (by omega))
  · exact fun r h0 h1 => (tr_18 ⟨h0, h1⟩).trans (h _ (by omega) (by omega))
  · exact fun r h0 h1 => (tr_19 ⟨h0, h1⟩).trans (h _ (by omega) (by omega))
  · exact fun r h0 h1 => (tr_20 ⟨h0, h1⟩).trans (h _ (by omega) (by omega))
  · exact fun r h0 h1 => (tr_21 ⟨h0, h1⟩).trans (h _ (by omega) (by omega))
  · exact fun b c h0 h1 h2 h3 => (tr_22 ⟨h0, h1⟩ ⟨h2, h3⟩).trans (h _ (by omega) (by omega))
theorem ev_ua_rs {σ : ev_M} {i : Int} {f : Int → Int} : ev_ua σ i f i = f := funext fun _ => ev_ua_eq
theorem pi_towns {T : Int → Int} {x : Int} (h : st_I T) (h0 : 1 ≤ x) (h1 : T 0 + x ≤ 10) : st_I (ev_u1 T 0 (T 0 + x)) := by
  obtain ⟨⟨i0, i1, i2, i3, i4, i5⟩, hr, hb, hc, hp, hl, hq⟩ := h
  refine ⟨?_, fun r h0 h1 => ?_, fun b h0 h1 => ?_, fun b h0 h1 => ?_, fun b c h0 h1 h2 h3 => ?_, fun l h0 h1 => ?_, fun q h0 h1 => ⟨?_, fun z z0 z1 => ?_⟩⟩
  · simp (disch := omega) only [ev_u1_eq, ev_u1_ne]
    omega
  · simp (disch := omega) only [ev_u1_eq, ev_u1_ne] at h1 ⊢
    have := hr r h0 h1
    omega
  · simp (disch := omega) only [ev_u1_eq, ev_u1_ne] at h1 ⊢
    exact hb b h0 h1
  · simp (disch := omega) only [ev_u1_eq, ev_u1_ne]
    exact hc b h0 h1
  · simp (disch := omega) only [ev_u1_eq, ev_u1_ne] at h1 h3 ⊢
    exact hp b c h0 h1 h2 h3
  · simp (disch := omega) only [ev_u1_eq, ev_u1_ne] at h1 ⊢
    have h9 := hl l h0 h1
    rw [ev_u1_ne (by omega)]
    exact h9
  · simp (disch := omega) only [ev_u1_eq, ev_u1_ne] at h1 ⊢
    exact (hq q h0 h1).1
  · simp (disch := omega) only [ev_u1_eq, ev_u1_ne] at h1 ⊢
    exact (hq q h0 h1).2 z z0 z1
