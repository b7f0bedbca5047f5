/-! the history: keep, dropOldest, restore; copies, saves -/
def st_d (n : Int) : Int := if n = 5 then 1 else 0
def st_K (σ : ev_M) : Prop := (∀ i, 0 ≤ i → i < 5 → ev_S (σ 163 i) ∧ 46 ≤ σ 163 i) ∧ ∀ i j, 0 ≤ i → i < 5 → 0 ≤ j → j < 5 → i ≠ j → σ 163 i ≠ σ 163 j
def st_HC (σ σ1 : ev_M) : Prop := (∀ i, i < 46 ∨ 163 < i → σ1 i = σ i) ∧ st_K σ1 ∧ σ1 162 0 = σ 162 0 - st_d (σ 162 0) + 1 ∧ (∀ i, 0 ≤ i → i < σ 162 0 - st_d (σ 162 0) → ∀ k, 0 ≤ k → k < 338 → st_T σ1 (σ1 163 i) k = st_T σ (σ 163 (i + st_d (σ 162 0))) k) ∧ ∀ k, 0 ≤ k → k < 338 → st_T σ1 (σ1 163 (σ 162 0 - st_d (σ 162 0))) k = st_T σ ev_n k
def st_HM (σ σ1 : ev_M) : Prop := (∀ i, i ≠ 182 → i ≠ 183 → σ1 i = σ i) ∧ (∀ y, y ≠ 1 → σ1 182 y = σ 182 y) ∧ σ1 182 1 = σ 182 1 - st_d (σ 182 1) + 1 ∧ (∀ k, 0 ≤ k → k < 338 → σ1 183 k = σ 183 k) ∧ (∀ i, 0 ≤ i → i < σ 182 1 - st_d (σ 182 1) → ∀ k, 0 ≤ k → k < 338 → σ1 183 (338 * (i + 1) + k) = σ 183 (338 * (i + st_d (σ 182 1) + 1) + k)) ∧ ∀ k, 0 ≤ k → k < 338 → σ1 183 (338 * (σ 182 1 - st_d (σ 182 1) + 1) + k) = σ 183 k
theorem c_27 {σ : ev_M} (h0 : ev_S (σ 163 0)) (h1 : ev_S (σ 163 1)) (h2 : ev_S (σ 163 2)) (h3 : ev_S (σ 163 3)) (h4 : ev_S (σ 163 4)) : EM 27 [.inr (.inl 162)] σ = some (none, ev_up (ev_up (ev_up (ev_up (ev_up (ev_up σ 163 0 (σ 163 1)) 163 1 (σ 163 2)) 163 2 (σ 163 3)) 163 3 (σ 163 4)) 163 4 (σ 163 0)) 162 0 4) := by
  rw [mm_27]
  repeat' (first | (simp (disch := first | assumption | exact Nat.le_of_ble_eq_true rfl | omega) only [bk_27_0, eo_1_0, g3_28_1, eo_6, eo_4_1n, eo_4_1i, eo_4_1r, eo_3_2n, eo_3_2i, eo_3_2r, eo_53, eo_0_2, eo_11, eo_23_2n, eo_23_2i, eo_23_2r, eo_52, bk_27_2, eo_1_1, g3_30, eo_58, a36_163, a37_163, bk_27_1, ev_up_ne, Int.add_zero, Int.add_sub_cancel, Int.reduceAdd, Int.reduceMul, Int.reduceSub, Int.reduceNeg, ev_wr_id]) | ((first | with_reducible refine br_40 ?_ ?_ | with_reducible refine br_41 ?_ ?_ | with_reducible refine br_42 ?_ ?_ | with_reducible refine br_43 ?_ ?_ | with_reducible refine br_44 ?_ ?_ | with_reducible refine br_45 ?_ ?_ | with_reducible refine br_46 ?_ ?_ | with_reducible refine br_47 ?_ ?_ | with_reducible refine br_48 ?_ ?_ | with_reducible refine br_49 ?_ ?_ | with_reducible refine br_50 ?_ ?_ | with_reducible refine br_51 ?_ ?_) <;> intro h <;> try simp (disch := first | assumption | exact Nat.le_of_ble_eq_true rfl | omega) only [ev_wr_id, not_true_eq_false, not_false_eq_true, Int.reduceEq, Int.reduceLT, Int.reduceLE, and_self, and_true, true_and, and_false, false_and, reduceIte] at h <;> try (exfalso; omega; done)))
theorem st_keep {σ : ev_M} (hK : st_K σ) (hn : 0 ≤ σ 162 0 ∧ σ 162 0 < 5) (hc : ∀ b, 0 ≤ b → b < 6 → 0 ≤ σ (ev_n + 10) b ∧ σ (ev_n + 10) b ≤ 1) : ∃ σ1, EB 26 1 [some (.inr (.inl 162)), some (.inr (.inl ev_n))] [] σ = some (none, ev_up σ1 162 0 (σ 162 0 + 1)) ∧ st_C σ ev_n (σ 163 (σ 162 0)) σ1 := by
  have hkn := hK.1 _ hn.1 hn.2
  have hS := hkn.1
  have hSn := ev_S_n
  have hn0 : ev_n = 0 := rfl
  obtain ⟨σ1, e56, hC⟩ := c_56 (σ := σ) (t := σ 163 (σ 162 0)) ev_S_n hS (by omega) hc
  have hS2 := hS
  unfold ev_S at hS2
  have e162 : σ1 162 = σ 162 := hC.2 162 (by omega)
  refine ⟨σ1, ?_, hC⟩
  rw [bk_26_1]
  repeat' (first | (simp (disch := first | assumption | exact Nat.le_of_ble_eq_true rfl | omega) only [bk_26_0, eo_1_0, g3_27, eo_6, v3_1, ev_ki, ev_kv, eo_53, bk_26_1, g3_28_1, eo_1_1, v7_2, eo_24i, eo_24r, eo_10, g3_30, eo_58, a36_163, e56, e162, Int.add_zero, Int.add_sub_cancel, Int.reduceAdd, Int.reduceMul, Int.reduceSub, Int.reduceNeg, ev_wr_id]) | ((first | with_reducible refine br_40 ?_ ?_ | with_reducible refine br_41 ?_ ?_ | with_reducible refine br_42 ?_ ?_ | with_reducible refine br_43 ?_ ?_ | with_reducible refine br_44 ?_ ?_ | with_reducible refine br_45 ?_ ?_ | with_reducible refine br_46 ?_ ?_ | with_reducible refine br_47 ?_ ?_ | with_reducible refine br_48 ?_ ?_ | with_reducible refine br_49 ?_ ?_ | with_reducible refine br_50 ?_ ?_ | with_reducible refine br_51 ?_ ?_) <;> intro h <;> try simp (disch := first | assumption | exact Nat.le_of_ble_eq_true rfl | omega) only [ev_wr_id, not_true_eq_false, not_false_eq_true, Int.reduceEq, Int.reduceLT, Int.reduceLE, and_self, and_true, true_and, and_false, false_and, reduceIte] at h <;> try (exfalso; omega; done)))
theorem st_C_frame {σ σ1 : ev_M} {s t u : Int} (h : st_C σ s t σ1) (hu : ev_S u) (ht : ev_S t) (hne : u ≠ t) : ∀ k, 0 ≤ k → k < 338 → st_T σ1 u k = st_T σ u k := by
  unfold ev_S at hu ht
  exact st_T_congr (fun o h0 h1 => h.2 _ (by omega))
theorem st_T_up {σ : ev_M} {s i z v : Int} (hs : ev_S s) (hi : 161 ≤ i) : ∀ k, 0 ≤ k → k < 338 → st_T (ev_up σ i z v) s k = st_T σ s k := by
  unfold ev_S at hs
  exact st_T_congr (fun o h0 h1 => by funext y; exact ev_up_ne (by omega))
theorem c_26 {σ : ev_M} (hK : st_K σ) (hn : 0 ≤ σ 162 0 ∧ σ 162 0 ≤ 5) (hc : ∀ b, 0 ≤ b → b < 6 → 0 ≤ σ (ev_n + 10) b ∧ σ (ev_n + 10) b ≤ 1) : ∃ σ1, EM 26 [.inr (.inl 162), .inr (.inl ev_n)] σ = some (none, σ1) ∧ st_HC σ σ1 := by
  have hSn := ev_S_n
  have hn0 : ev_n = 0 := rfl
  by_cases h5 : σ 162 0 < 5
  · obtain ⟨σ1, e, hC⟩ := st_keep hK ⟨hn.1, h5⟩ hc
    have hd : st_d (σ 162 0) = 0 := by unfold st_d; rw [if_neg (by omega)]
    have hkn := hK.1 _ hn.1 h5
    have hkS := hkn.1
    unfold ev_S at hkS
    have f163 : ev_up σ1 162 0 (σ 162 0 + 1) 163 = σ 163 := by
      funext y
      rw [ev_up_ne (by omega), hC.2 163 (by omega)]
    refine ⟨ev_up σ1 162 0 (σ 162 0 + 1), ?_, ?_, ?_, ?_, ?_, ?_⟩
    · rw [mm_26]
      repeat' (first | (simp (disch := first | assumption | exact Nat.le_of_ble_eq_true rfl | omega) only [bk_26_0, eo_1_0, g3_27, eo_6, v3_1, ev_ki, ev_kv, eo_53, g3_28_1, eo_1_1, v7_2, eo_24i, eo_24r, eo_10, g3_30, eo_58, a36_163, Int.add_zero, Int.add_sub_cancel, Int.reduceAdd, Int.reduceMul, Int.reduceSub, Int.reduceNeg, ev_wr_id]) | ((first | with_reducible refine br_40 ?_ ?_ | with_reducible refine br_41 ?_ ?_ | with_reducible refine br_42 ?_ ?_ | with_reducible refine br_43 ?_ ?_ | with_reducible refine br_44 ?_ ?_ | with_reducible refine br_45 ?_ ?_ | with_reducible refine br_46 ?_ ?_ | with_reducible refine br_47 ?_ ?_ | with_reducible refine br_48 ?_ ?_ | with_reducible refine br_49 ?_ ?_ | with_reducible refine br_50 ?_ ?_ | with_reducible refine br_51 ?_ ?_) <;> intro h <;> try simp (disch := first | assumption | exact Nat.le_of_ble_eq_true rfl | omega) only [ev_wr_id, not_true_eq_false, not_false_eq_true, Int.reduceEq, Int.reduceLT, Int.reduceLE, and_self, and_true, true_and, and_false, false_and, reduceIte] at h <;> try (exfalso; omega; done)))
      exact e
    · intro i hi
      funext y
      rw [ev_up_ne (by omega), hC.2 i (by omega)]
    · unfold st_K
      rw [f163]
      exact hK
    · rw [hd, ev_up_eq ⟨rfl, rfl⟩]
      omega
    · rw [hd, f163]
      intro i h0 h1 k hk0 hk1
      have hki := hK.1 i h0 (by omega)
      rw [st_T_up hki.1 (by omega) k hk0 hk1, Int.add_zero]
      exact st_C_frame hC hki.1 hkn.1 (hK.2 i _ h0 (by omega) hn.1 h5 (by omega)) k hk0 hk1
    · rw [hd, f163, Int.sub_zero]
      intro k hk0 hk1
      rw [st_T_up hkn.1 (by omega) k hk0 hk1]
      exact hC.1 k hk0 hk1
  · have h5 : σ 162 0 = 5 := by omega
    have hd : st_d (σ 162 0) = 1 := by unfold st_d; rw [if_pos h5]
    have k0 := hK.1 0 (by omega) (by omega)
    have k1 := hK.1 1 (by omega) (by omega)
    have k2 := hK.1 2 (by omega) (by omega)
    have k3 := hK.1 3 (by omega) (by omega)
    have k4 := hK.1 4 (by omega) (by omega)
    have e27 := c_27 (σ := σ) k0.1 k1.1 k2.1 k3.1 k4.1
    generalize hσ2 : ev_up (ev_up (ev_up (ev_up (ev_up (ev_up σ 163 0 (σ 163 1)) 163 1 (σ 163 2)) 163 2 (σ 163 3)) 163 3 (σ 163 4)) 163 4 (σ 163 0)) 162 0 4 = σ2 at e27
    have g0 : σ2 163 0 = σ 163 1 := by subst hσ2; simp (disch := omega) only [ev_up_ne, ev_up_eq]
    have g1 : σ2 163 1 = σ 163 2 := by subst hσ2; simp (disch := omega) only [ev_up_ne, ev_up_eq]
    have g2 : σ2 163 2 = σ 163 3 := by subst hσ2; simp (disch := omega) only [ev_up_ne, ev_up_eq]
    have g3 : σ2 163 3 = σ 163 4 := by subst hσ2; simp (disch := omega) only [ev_up_ne, ev_up_eq]
    have g4 : σ2 163 4 = σ 163 0 := by subst hσ2; simp (disch := omega) only [ev_up_ne, ev_up_eq]
    have gn : σ2 162 0 = 4 := by subst hσ2; simp (disch := omega) only [ev_up_ne, ev_up_eq]
    have gF : ∀ i, i < 162 ∨ 163 < i → σ2 i = σ i := by
      intro i hi
      subst hσ2
      funext y
      simp (disch := omega) only [ev_up_ne]
    have gS : ∀ i, 0 ≤ i → i < 4 → σ2 163 i = σ 163 (i + 1) := by
      intro i h0 h1
      rcases (show i = 0 ∨ i = 1 ∨ i = 2 ∨ i = 3 by omega) with rfl | rfl | rfl | rfl
      · exact g0
      · exact g1
      · exact g2
      · exact g3
    have hK2 : st_K σ2 := by
      have gx : ∀ i, 0 ≤ i → i < 5 → ∃ j, 0 ≤ j ∧ j < 5 ∧ σ2 163 i = σ 163 j ∧ (i < 4 → j = i + 1) ∧ (i = 4 → j = 0) := by
        intro i h0 h1
        by_cases h4 : i < 4
        · exact ⟨i + 1, by omega, by omega, gS i h0 h4, fun _ => rfl, by omega⟩
        · obtain rfl : i = 4 := by omega
          exact ⟨0, by omega, by omega, g4, by omega, fun _ => rfl⟩
      refine ⟨fun i h0 h1 => ?_, fun i j h0 h1 h2 h3 hne => ?_⟩
      · obtain ⟨j, j0, j1, e, -, -⟩ := gx i h0 h1
        rw [e]
        exact hK.1 j j0 j1
      · obtain ⟨a, a0, a1, ea, a2, a3⟩ := gx i h0 h1
        obtain ⟨b, b0, b1, eb, b2, b3⟩ := gx j h2 h3
        rw [ea, eb]
        exact hK.2 a b a0 a1 b0 b1 (by omega)
    obtain ⟨σ1, e, hC⟩ := st_keep (σ := σ2) hK2 (by omega) (by rw [gF _ (by omega)]; exact hc)
    rw [gn, g4] at hC
    rw [gn] at e
    have hkS := k0.1
    unfold ev_S at hkS
    have f163 : ev_up σ1 162 0 (4 + 1) 163 = σ2 163 := by
      funext y
      rw [ev_up_ne (by omega), hC.2 163 (by omega)]
    refine ⟨ev_up σ1 162 0 (4 + 1), ?_, ?_, ?_, ?_, ?_, ?_⟩
    · rw [mm_26]
      repeat' (first | (simp (disch := first | assumption | exact Nat.le_of_ble_eq_true rfl | omega) only [bk_26_0, eo_1_0, g3_27, eo_6, v3_1, ev_ki, ev_kv, eo_53, g3_28_1, eo_1_1, v7_2, eo_24i, eo_24r, eo_10, g3_30, eo_58, a36_163, e27, h5, Int.add_zero, Int.add_sub_cancel, Int.reduceAdd, Int.reduceMul, Int.reduceSub, Int.reduceNeg, ev_wr_id]) | ((first | with_reducible refine br_40 ?_ ?_ | with_reducible refine br_41 ?_ ?_ | with_reducible refine br_42 ?_ ?_ | with_reducible refine br_43 ?_ ?_ | with_reducible refine br_44 ?_ ?_ | with_reducible refine br_45 ?_ ?_ | with_reducible refine br_46 ?_ ?_ | with_reducible refine br_47 ?_ ?_ | with_reducible refine br_48 ?_ ?_ | with_reducible refine br_49 ?_ ?_ | with_reducible refine br_50 ?_ ?_ | with_reducible refine br_51 ?_ ?_) <;> intro h <;> try simp (disch := first | assumption | exact Nat.le_of_ble_eq_true rfl | omega) only [ev_wr_id, not_true_eq_false, not_false_eq_true, Int.reduceEq, Int.reduceLT, Int.reduceLE, and_self, and_true, true_and, and_false, false_and, reduceIte] at h <;> try (exfalso; omega; done)))
      exact e
    · intro i hi
      funext y
      rw [ev_up_ne (by omega), hC.2 i (by omega), gF i (by omega)]
    · unfold st_K
      rw [f163]
      exact hK2
    · rw [hd, ev_up_eq ⟨rfl, rfl⟩]
      omega
    · rw [hd, f163]
      intro i h0 h1 k hk0 hk1
      rw [gS i h0 (by omega)]
      have hki := hK.1 (i + 1) (by omega) (by omega)
      have hkiS := hki.1
      unfold ev_S at hkiS
      rw [st_T_up hki.1 (by omega) k hk0 hk1, st_C_frame hC hki.1 k0.1 (hK.2 _ _ (by omega) (by omega) (by omega) (by omega) (by omega)) k hk0 hk1]
      exact st_T_congr (fun o q0 q1 => gF _ (by omega)) k hk0 hk1
    · rw [hd, f163, h5]
      intro k hk0 hk1
      show st_T _ (σ2 163 4) k = _
      rw [g4, st_T_up k0.1 (by omega) k hk0 hk1, hC.1 k hk0 hk1]
      exact st_T_congr (fun o q0 q1 => gF _ (by omega)) k hk0 hk1
theorem ev_cp_in {σ : ev_M} {a i b j n y : Int} (h0 : j ≤ y) (h1 : y < j + n) : ev_cp σ a i b j n b y = σ a (i + (y - j)) := if_pos ⟨rfl, h0, h1⟩
theorem ev_cp_out {σ : ev_M} {a i b j n y : Int} (h : y < j ∨ j + n ≤ y) : ev_cp σ a i b j n b y = σ b y := by
  unfold ev_cp
  rw [if_neg (fun q => by omega)]
