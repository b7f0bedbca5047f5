/-! a call on both sides: the frame of the pairs -/
def st_P (jx jm : Nat) (as : List ev_V) (σ : ev_M) : Prop := ∃ (v : ev_V) (σ1 σ2 : ev_M), EM jx (.inr (.inl 161) :: as) σ = some (some v, σ1) ∧ EM jm (.inr (.inl 182) :: as) σ1 = some (some v, σ2) ∧ st_J σ2
theorem st_rd {σ : ev_M} (h : st_E (st_T σ ev_n) (σ 183)) : σ (ev_n + 1) 0 = σ 183 0 ∧ σ (ev_n + 1) 1 = σ 183 1 ∧ σ (ev_n + 6) 0 = σ 183 2 ∧ σ (ev_n + 17) 0 = σ 183 3 ∧ σ (ev_n + 17) 1 = σ 183 4 ∧ σ ev_n 3 = σ 183 5 ∧ σ ev_n 4 = σ 183 6 ∧ σ ev_n 5 = σ 183 7 ∧ σ ev_n 6 = σ 183 8 ∧ (∀ r, 0 ≤ r → r < 20 → σ (ev_n + 2) r = σ 183 (9 + 4 * r)) ∧ (∀ r, 0 ≤ r → r < 20 → σ (ev_n + 3) r = σ 183 (9 + 4 * r + 1)) ∧ (∀ r, 0 ≤ r → r < 20 → σ (ev_n + 4) r = σ 183 (9 + 4 * r + 2)) ∧ (∀ r, 0 ≤ r → r < 20 → σ (ev_n + 5) r = σ 183 (9 + 4 * r + 3)) ∧ (∀ b, 0 ≤ b → b < 6 → σ (ev_n + 7) b = σ 183 (89 + 5 * b)) ∧ (∀ b, 0 ≤ b → b < 6 → σ (ev_n + 11) b = σ 183 (89 + 5 * b + 1)) ∧ (∀ b, 0 ≤ b → b < 6 → σ (ev_n + 8) b = σ 183 (89 + 5 * b + 2)) ∧ (∀ b, 0 ≤ b → b < 6 → σ (ev_n + 9) b = σ 183 (89 + 5 * b + 3)) ∧ (∀ b, 0 ≤ b → b < 6 → σ (ev_n + 10) b = σ 183 (89 + 5 * b + 4)) ∧ (∀ b c, 0 ≤ b → b < 6 → 0 ≤ c → c < 6 → σ (ev_n + 12) (b * 6 + c) = σ 183 (119 + 30 * b + 5 * c)) ∧ (∀ b c, 0 ≤ b → b < 6 → 0 ≤ c → c < 6 → σ (ev_n + 13) (b * 6 + c) = σ 183 (119 + 30 * b + 5 * c + 1)) ∧ (∀ b c, 0 ≤ b → b < 6 → 0 ≤ c → c < 6 → σ (ev_n + 14) (b * 6 + c) = σ 183 (119 + 30 * b + 5 * c + 2)) ∧ (∀ b c, 0 ≤ b → b < 6 → 0 ≤ c → c < 6 → σ (ev_n + 15) (b * 6 + c) = σ 183 (119 + 30 * b + 5 * c + 3)) ∧ (∀ b c, 0 ≤ b → b < 6 → 0 ≤ c → c < 6 → σ (ev_n + 16) (b * 6 + c) = σ 183 (119 + 30 * b + 5 * c + 4)) ∧ (∀ l, 0 ≤ l → l < 8 → σ (ev_n + 18) l = σ 183 (299 + 3 * l)) ∧ (∀ l, 0 ≤ l → l < 8 → σ (ev_n + 19) l = σ 183 (299 + 3 * l + 1)) ∧ (∀ l, 0 ≤ l → l < 8 → σ (ev_n + 20) l = σ 183 (299 + 3 * l + 2)) ∧ (∀ b, 0 ≤ b → b < 3 → σ (ev_n + 21) b = σ 183 (323 + 5 * b)) ∧ (∀ b q, 0 ≤ b → b < 3 → 0 ≤ q → q < 4 → σ (ev_n + 22) (b * 4 + q) = σ 183 (323 + 5 * b + 1 + q)) := by
  refine ⟨tr_n0.trans (h _ (by omega) (by omega)), tr_n1.trans (h _ (by omega) (by omega)), tr_n2.trans (h _ (by omega) (by omega)), tr_n3.trans (h _ (by omega) (by omega)), tr_n4.trans (h _ (by omega) (by omega)), tr_n5.trans (h _ (by omega) (by omega)), tr_n6.trans (h _ (by omega) (by omega)), tr_n7.trans (h _ (by omega) (by omega)), tr_n8.trans (h _ (by omega) (by omega)), ?_, ?_, ?_, ?_, ?_, ?_, ?_, ?_, ?_, ?_, ?_, ?_, ?_, ?_, ?_, ?_, ?_, ?_, ?_⟩
  · exact fun r h0 h1 => (tr_2 ⟨h0, h1⟩).trans (h _ (by omega) (by omega))
  · exact fun r h0 h1 => (tr_3 ⟨h0, h1⟩).trans (h _ (by omega) (by omega))
  · exact fun r h0 h1 => (tr_4 ⟨h0, h1⟩).trans (h _ (by omega) (by omega))
  · exact fun r h0 h1 => (tr_5 ⟨h0, h1⟩).trans (h _ (by omega) (by omega))
  · exact fun r h0 h1 => (tr_7 ⟨h0, h1⟩).trans (h _ (by omega) (by omega))
  · exact fun r h0 h1 => (tr_11 ⟨h0, h1⟩).trans (h _ (by omega) (by omega))
  · exact fun r h0 h1 => (tr_8 ⟨h0, h1⟩).trans (h _ (by omega) (by omega))
  · exact fun r h0 h1 => (tr_9 ⟨h0, h1⟩).trans (h _ (by omega) (by omega))
  · exact fun r h0 h1 => (tr_10 ⟨h0, h1⟩).trans (h _ (by omega) (by omega))
  · exact fun b c h0 h1 h2 h3 => (tr_12 ⟨h0, h1⟩ ⟨h2, h3⟩).trans (h _ (by omega) (by omega))
  · exact fun b c h0 h1 h2 h3 => (tr_13 ⟨h0, h1⟩ ⟨h2, h3⟩).trans (h _ (by omega) (by omega))
  · exact fun b c h0 h1 h2 h3 => (tr_14 ⟨h0, h1⟩ ⟨h2, h3⟩).trans (h _ (by omega) (by omega))
  · exact fun b c h0 h1 h2 h3 => (tr_15 ⟨h0, h1⟩ ⟨h2, h3⟩).trans (h _ (by omega) (by omega))
  · exact fun b c h0 h1 h2 h3 => (tr_16 ⟨h0, h1⟩ ⟨h2, h3⟩).trans (h _ (by omega) (by omega))
  · exact fun r h0 h1 => (tr_18 ⟨h0, h1⟩).trans (h _ (by omega) (by omega))
  · exact fun r h0 h1 => (tr_19 ⟨h0, h1⟩).trans (h _ (by omega) (by omega))
  · exact fun r h0 h1 => (tr_20 ⟨h0, h1⟩).trans (h _ (by omega) (by omega))
  · exact fun r h0 h1 => (tr_21 ⟨h0, h1⟩).trans (h _ (by omega) (by omega))
  · exact fun b c h0 h1 h2 h3 => (tr_22 ⟨h0, h1⟩ ⟨h2, h3⟩).trans (h _ (by omega) (by omega))
theorem ev_ua_rs {σ : ev_M} {i : Int} {f : Int → Int} : ev_ua σ i f i = f := funext fun _ => ev_ua_eq
/-- saving on both sides, and what is to be shown behind it -/
theorem st_sv {σ : ev_M} (hJ : st_J σ) : ∃ σa, EM 26 [.inr (.inl 162), .inr (.inl ev_n)] σ = some (none, σa) ∧ (∀ i, i < 46 ∨ 163 < i → σa i = σ i) ∧ ∀ σ1, (∀ i, 22 < i → σ1 i = σa i) → ∃ σb, EM 108 [.inr (.inl 182)] σ1 = some (none, σb) ∧ (∀ i, i ≠ 182 → i ≠ 183 → σb i = σ1 i) ∧ st_E (st_T σa ev_n) (σb 183) ∧ st_I (σb 183) ∧ (∀ k, 0 ≤ k → k < 338 → σb 183 k = σ 183 k) ∧ ∀ f, (∀ k, 338 ≤ k → f k = σb 183 k) → st_E (st_T σ1 ev_n) f → st_I f → st_J (ev_ua σb 183 f) := by
  obtain ⟨a1, a2, a3, a4, a5, a6, a7, a8⟩ := id hJ
  have hcl : ∀ b, 0 ≤ b → b < 6 → 0 ≤ σ (ev_n + 10) b ∧ σ (ev_n + 10) b ≤ 1 := fun b h0 h1 => by
    rw [tr_10 (σ := σ) (s := ev_n) ⟨h0, h1⟩, a1 _ (by omega) (by omega)]
    exact a2.2.2.2.1 b h0 h1
  obtain ⟨σa, e26, hC⟩ := c_26 a3 a4 hcl
  refine ⟨σa, e26, hC.1, fun σ1 h1 => ?_⟩
  have s1n : σ1 182 1 = σ 162 0 := by rw [h1 182 (by omega), hC.1 182 (by omega), a5]
  obtain ⟨σb, e108, hM⟩ := c_108 (σ := σ1) (by omega)
  have hb : ∀ k, 0 ≤ k → k < 338 → σb 183 k = σ 183 k := fun k h0 h2 => by rw [hM.2.2.2.1 k h0 h2, h1 183 (by omega), hC.1 183 (by omega)]
  have hE : st_E (σb 183) (σ 183) := hb
  refine ⟨σb, e108, hM.1, ?_, st_I_E (st_E_s hE) a2, hb, fun f hf hT hI => ?_⟩
  · refine st_E_t (fun k h0 h1 => ?_) (st_E_t a1 (st_E_s hE))
    exact st_T_congr (fun o q0 q1 => hC.1 _ (by unfold ev_n; omega)) k h0 h1
  · refine st_J_save hJ hC h1 hM (fun i h0 h2 => ?_) (fun i h0 h2 => ?_) (fun k h0 => ?_) ?_ ?_
    · exact ev_ua_row (by omega)
    · rw [ev_ua_row (by omega), hM.1 i (by omega) (by omega)]
    · rw [ev_ua_eq]
      exact hf k h0
    · rw [ev_ua_rs]
      exact hT
    · rw [ev_ua_rs]
      exact hI
/-- a call that records nothing -/
theorem st_P_N {jx jm : Nat} {as : List ev_V} {σ σ1 σ2 : ev_M} {v : ev_V} (hJ : st_J σ) (e1 : EM jx (.inr (.inl 161) :: as) σ = some (some v, σ1)) (e2 : EM jm (.inr (.inl 182) :: as) σ1 = some (some v, σ2)) (h : st_N σ σ2) : st_P jx jm as σ := ⟨v, σ1, σ2, e1, e2, st_J_N hJ h⟩
theorem pi_towns {T : Int → Int} {x : Int} (h : st_I T) (h0 : 1 ≤ x) (h1 : T 0 + x ≤ 10) : st_I (ev_u1 T 0 (T 0 + x)) := by
  obtain ⟨⟨i0, i1, i2, i3, i4, i5⟩, hr, hb, hc, hp, hl, hq⟩ := h
  refine ⟨?_, fun r h0 h1 => ?_, fun b h0 h1 => ?_, fun b h0 h1 => ?_, fun b c h0 h1 h2 h3 => ?_, fun l h0 h1 => ?_, fun q h0 h1 => ⟨?_, fun z z0 z1 => ?_⟩⟩
  · simp (disch := omega) only [ev_u1_eq, ev_u1_ne]
    omega
  · simp (disch := omega) only [ev_u1_eq, ev_u1_ne] at h1 ⊢
    have := hr r h0 h1
    omega
  · simp (disch := omega) only [ev_u1_eq, ev_u1_ne] at h1 ⊢
    exact hb b h0 h1
  · simp (disch := omega) only [ev_u1_eq, ev_u1_ne]
    exact hc b h0 h1
  · simp (disch := omega) only [ev_u1_eq, ev_u1_ne] at h1 h3 ⊢
    exact hp b c h0 h1 h2 h3
  · simp (disch := omega) only [ev_u1_eq, ev_u1_ne] at h1 ⊢
    have h9 := hl l h0 h1
    rw [ev_u1_ne (by omega)]
    exact h9
  · simp (disch := omega) only [ev_u1_eq, ev_u1_ne] at h1 ⊢
    exact (hq q h0 h1).1
  · simp (disch := omega) only [ev_u1_eq, ev_u1_ne] at h1 ⊢
    exact (hq q h0 h1).2 z z0 z1
theorem pr_68 {σ : ev_M} {x : Int} (hJ : st_J σ) (hx : -2147483648 ≤ x ∧ x ≤ 2147483647) : st_P 68 121 [.inl x] σ := by
  obtain ⟨a1, a2, a3, a4, a5, a6, a7, a8⟩ := id hJ
  obtain ⟨t0, t1, t2, t3, t4, t5, t6, t7, t8, r2, r3, r4, r5, r7, r11, r8, r9, r10, r12, r13, r14, r15, r16, r18, r19, r20, r21, r22⟩ := st_rd a1; obtain ⟨⟨i0, i1, i2, i3, i4, i5⟩, hr, hb, hc, hp, hl, hq⟩ := id a2; have hSn := ev_S_n; have hn0 : ev_n = 0 := rfl
  by_cases c1 : 1 ≤ x ∧ x ≤ 10
  · by_cases c2 : σ 183 0 + x ≤ 10
    · obtain ⟨σa, e26, hF, hS⟩ := st_sv hJ
      have w1 : σa (ev_n + 1) = σ (ev_n + 1) := hF _ (by unfold ev_n; omega)
      obtain ⟨σ1, d1⟩ : ∃ z, z = ev_up σa (ev_n + 1) 0 (σ 183 0 + x) := ⟨_, rfl⟩
      have f1 : ∀ i, 22 < i → σ1 i = σa i := fun i hi => by rw [d1]; funext y; exact ev_up_ne (by unfold ev_n; omega)
      obtain ⟨σb, e108, hbF, hE, hI, hbk, hfin⟩ := hS σ1 f1
      have b0 : σb 183 0 = σ 183 0 := hbk 0 (by omega) (by omega)
      have m183 : σ1 183 = σ 183 := by rw [f1 183 (by omega), hF 183 (by omega)]
      refine ⟨.inl (σ 183 0 + x), σ1, ev_ua σb 183 (ev_u1 (σb 183) 0 (σ 183 0 + x)), ?_, ?_, hfin _ (fun k hk => ev_u1_ne (by omega)) ?_ ?_⟩
      · rw [mm_68, d1]
        repeat' (first | (simp (disch := first | assumption | exact Nat.le_of_ble_eq_true rfl | omega) only [bk_68_0, eo_0_1, eo_6, eo_60_3, ev_ki, ev_kv, eo_56i, bk_68_1, eo_1_0, g10_28_0, g7_28_0, g6_27, eo_10, bk_68_2, g10_28_2, v3_2, eo_24i, eo_24r, g6_30, c_104, t0, e26, w1, ev_up_eq, Int.add_zero, Int.add_sub_cancel, Int.reduceAdd, Int.reduceMul, Int.reduceSub, Int.reduceNeg, ev_wr_id]) | ((first | with_reducible refine br_40 ?_ ?_ | with_reducible refine br_41 ?_ ?_ | with_reducible refine br_42 ?_ ?_ | with_reducible refine br_43 ?_ ?_ | with_reducible refine br_44 ?_ ?_ | with_reducible refine br_45 ?_ ?_ | with_reducible refine br_46 ?_ ?_ | with_reducible refine br_47 ?_ ?_ | with_reducible refine br_48 ?_ ?_ | with_reducible refine br_49 ?_ ?_ | with_reducible refine br_50 ?_ ?_ | with_reducible refine br_51 ?_ ?_) <;> intro h <;> try simp (disch := first | assumption | exact Nat.le_of_ble_eq_true rfl | omega) only [ev_wr_id, not_true_eq_false, not_false_eq_true, Int.reduceEq, Int.reduceLT, Int.reduceLE, and_self, and_true, true_and, and_false, false_and, reduceIte] at h <;> try (exfalso; omega; done)))
      · rw [mm_121]
        repeat' (first | (simp (disch := first | assumption | exact Nat.le_of_ble_eq_true rfl | omega) only [bk_121_0, eo_0_1, eo_6, eo_60_3, ev_ki, ev_kv, eo_56i, bk_121_1, eo_1_0, g11_28_0, eo_10, bk_121_2, v11_1, eo_25, a32_183, a33_183, c_106, e108, m183, b0, ev_up_as, ev_ua_eq, ev_u1_eq, Int.add_zero, Int.add_sub_cancel, Int.reduceAdd, Int.reduceMul, Int.reduceSub, Int.reduceNeg, ev_wr_id]) | ((first | with_reducible refine br_40 ?_ ?_ | with_reducible refine br_41 ?_ ?_ | with_reducible refine br_42 ?_ ?_ | with_reducible refine br_43 ?_ ?_ | with_reducible refine br_44 ?_ ?_ | with_reducible refine br_45 ?_ ?_ | with_reducible refine br_46 ?_ ?_ | with_reducible refine br_47 ?_ ?_ | with_reducible refine br_48 ?_ ?_ | with_reducible refine br_49 ?_ ?_ | with_reducible refine br_50 ?_ ?_ | with_reducible refine br_51 ?_ ?_) <;> intro h <;> try simp (disch := first | assumption | exact Nat.le_of_ble_eq_true rfl | omega) only [ev_wr_id, not_true_eq_false, not_false_eq_true, Int.reduceEq, Int.reduceLT, Int.reduceLE, and_self, and_true, true_and, and_false, false_and, reduceIte] at h <;> try (exfalso; omega; done)))
      · rw [d1]
        exact st_E_t tw_n0 (st_E_u hE)
      · rw [← b0]
        exact pi_towns hI c1.1 (by omega)
    · refine st_P_N hJ (σ1 := σ) (σ2 := σ) (v := .inl (-5)) ?_ ?_ st_N_r
      · rw [mm_68]
        repeat' (first | (simp (disch := first | assumption | exact Nat.le_of_ble_eq_true rfl | omega) only [bk_68_0, eo_0_1, eo_6, eo_60_3, ev_ki, ev_kv, eo_56i, bk_68_1, eo_1_0, g10_28_0, g7_28_0, g6_27, eo_10, bk_68_2, g10_28_2, v3_2, eo_24i, eo_24r, g6_30, c_104, t0, Int.add_zero, Int.add_sub_cancel, Int.reduceAdd, Int.reduceMul, Int.reduceSub, Int.reduceNeg, ev_wr_id]) | ((first | with_reducible refine br_40 ?_ ?_ | with_reducible refine br_41 ?_ ?_ | with_reducible refine br_42 ?_ ?_ | with_reducible refine br_43 ?_ ?_ | with_reducible refine br_44 ?_ ?_ | with_reducible refine br_45 ?_ ?_ | with_reducible refine br_46 ?_ ?_ | with_reducible refine br_47 ?_ ?_ | with_reducible refine br_48 ?_ ?_ | with_reducible refine br_49 ?_ ?_ | with_reducible refine br_50 ?_ ?_ | with_reducible refine br_51 ?_ ?_) <;> intro h <;> try simp (disch := first | assumption | exact Nat.le_of_ble_eq_true rfl | omega) only [ev_wr_id, not_true_eq_false, not_false_eq_true, Int.reduceEq, Int.reduceLT, Int.reduceLE, and_self, and_true, true_and, and_false, false_and, reduceIte] at h <;> try (exfalso; omega; done)))
      · rw [mm_121]
        repeat' (first | (simp (disch := first | assumption | exact Nat.le_of_ble_eq_true rfl | omega) only [bk_121_0, eo_0_1, eo_6, eo_60_3, ev_ki, ev_kv, eo_56i, bk_121_1, eo_1_0, g11_28_0, eo_10, bk_121_2, v11_1, eo_25, a32_183, a33_183, c_106, Int.add_zero, Int.add_sub_cancel, Int.reduceAdd, Int.reduceMul, Int.reduceSub, Int.reduceNeg, ev_wr_id]) | ((first | with_reducible refine br_40 ?_ ?_ | with_reducible refine br_41 ?_ ?_ | with_reducible refine br_42 ?_ ?_ | with_reducible refine br_43 ?_ ?_ | with_reducible refine br_44 ?_ ?_ | with_reducible refine br_45 ?_ ?_ | with_reducible refine br_46 ?_ ?_ | with_reducible refine br_47 ?_ ?_ | with_reducible refine br_48 ?_ ?_ | with_reducible refine br_49 ?_ ?_ | with_reducible refine br_50 ?_ ?_ | with_reducible refine br_51 ?_ ?_) <;> intro h <;> try simp (disch := first | assumption | exact Nat.le_of_ble_eq_true rfl | omega) only [ev_wr_id, not_true_eq_false, not_false_eq_true, Int.reduceEq, Int.reduceLT, Int.reduceLE, and_self, and_true, true_and, and_false, false_and, reduceIte] at h <;> try (exfalso; omega; done)))
  · refine st_P_N hJ (σ1 := σ) (σ2 := σ) (v := .inl (-3)) ?_ ?_ st_N_r
    · rw [mm_68]
      repeat' (first | (simp (disch := first | assumption | exact Nat.le_of_ble_eq_true rfl | omega) only [bk_68_0, eo_0_1, eo_6, eo_60_3, ev_ki, ev_kv, eo_56i, bk_68_1, eo_1_0, g10_28_0, g7_28_0, g6_27, eo_10, bk_68_2, g10_28_2, v3_2, eo_24i, eo_24r, g6_30, c_104, t0, Int.add_zero, Int.add_sub_cancel, Int.reduceAdd, Int.reduceMul, Int.reduceSub, Int.reduceNeg, ev_wr_id]) | ((first | with_reducible refine br_40 ?_ ?_ | with_reducible refine br_41 ?_ ?_ | with_reducible refine br_42 ?_ ?_ | with_reducible refine br_43 ?_ ?_ | with_reducible refine br_44 ?_ ?_ | with_reducible refine br_45 ?_ ?_ | with_reducible refine br_46 ?_ ?_ | with_reducible refine br_47 ?_ ?_ | with_reducible refine br_48 ?_ ?_ | with_reducible refine br_49 ?_ ?_ | with_reducible refine br_50 ?_ ?_ | with_reducible refine br_51 ?_ ?_) <;> intro h <;> try simp (disch := first | assumption | exact Nat.le_of_ble_eq_true rfl | omega) only [ev_wr_id, not_true_eq_false, not_false_eq_true, Int.reduceEq, Int.reduceLT, Int.reduceLE, and_self, and_true, true_and, and_false, false_and, reduceIte] at h <;> try (exfalso; omega; done)))
    · rw [mm_121]
      repeat' (first | (simp (disch := first | assumption | exact Nat.le_of_ble_eq_true rfl | omega) only [bk_121_0, eo_0_1, eo_6, eo_60_3, ev_ki, ev_kv, eo_56i, bk_121_1, eo_1_0, g11_28_0, eo_10, bk_121_2, v11_1, eo_25, a32_183, a33_183, c_106, Int.add_zero, Int.add_sub_cancel, Int.reduceAdd, Int.reduceMul, Int.reduceSub, Int.reduceNeg, ev_wr_id]) | ((first | with_reducible refine br_40 ?_ ?_ | with_reducible refine br_41 ?_ ?_ | with_reducible refine br_42 ?_ ?_ | with_reducible refine br_43 ?_ ?_ | with_reducible refine br_44 ?_ ?_ | with_reducible refine br_45 ?_ ?_ | with_reducible refine br_46 ?_ ?_ | with_reducible refine br_47 ?_ ?_ | with_reducible refine br_48 ?_ ?_ | with_reducible refine br_49 ?_ ?_ | with_reducible refine br_50 ?_ ?_ | with_reducible refine br_51 ?_ ?_) <;> intro h <;> try simp (disch := first | assumption | exact Nat.le_of_ble_eq_true rfl | omega) only [ev_wr_id, not_true_eq_false, not_false_eq_true, Int.reduceEq, Int.reduceLT, Int.reduceLE, and_self, and_true, true_and, and_false, false_and, reduceIte] at h <;> try (exfalso; omega; done)))
