/-! calls on both sides: the text's bytes, undo -/
theorem st_J_X {σ σ2 : ev_M} (hJ : st_J σ) (h1 : ∀ i, i ≠ 164 → i ≠ 165 → i ≠ 190 → i ≠ 182 → σ2 i = σ i) (h2 : σ2 182 1 = σ 182 1) (hX : st_X σ2) : st_J σ2 := by
  obtain ⟨a1, a2, a3, a4, a5, a6, a7, a8⟩ := hJ
  have e183 := h1 183 (by omega) (by omega) (by omega) (by omega)
  have e163 := h1 163 (by omega) (by omega) (by omega) (by omega)
  have e162 := h1 162 (by omega) (by omega) (by omega) (by omega)
  have hn0 : ev_n = 0 := rfl
  refine ⟨?_, by rw [e183]; exact a2, ?_, by rw [e162]; exact a4, by rw [h2, e162]; exact a5, ?_, hX, ?_⟩
  · rw [e183]
    exact st_E_t (st_T_congr (fun o q0 q1 => h1 _ (by omega) (by omega) (by omega) (by omega))) a1
  · unfold st_K
    rw [e163]
    exact a3
  · rw [e162, e163, e183]
    intro i i0 i1
    have hk := (a3.1 i i0 (by omega)).1
    unfold ev_S at hk
    exact ⟨st_E_t (st_T_congr (fun o q0 q1 => h1 _ (by omega) (by omega) (by omega) (by omega))) (a6 i i0 i1).1, (a6 i i0 i1).2⟩
  · rw [h1 184 (by omega) (by omega) (by omega) (by omega)]
    exact a8
theorem c_28 {σ : ev_M} (hK : st_K σ) (hn : 1 ≤ σ 162 0 ∧ σ 162 0 ≤ 5) (hc : ∀ b, 0 ≤ b → b < 6 → 0 ≤ σ (σ 163 (σ 162 0 - 1) + 10) b ∧ σ (σ 163 (σ 162 0 - 1) + 10) b ≤ 1) : ∃ σ1, EM 28 [.inr (.inl 162), .inr (.inl ev_n)] σ = some (some (.inl 1), σ1) ∧ st_C (ev_up σ 162 0 (σ 162 0 - 1)) (σ 163 (σ 162 0 - 1)) ev_n σ1 := by
  have hkn := hK.1 (σ 162 0 - 1) (by omega) (by omega)
  have hS := hkn.1
  have hSn := ev_S_n
  have hn0 : ev_n = 0 := rfl
  have hS2 := hS
  unfold ev_S at hS2
  obtain ⟨σ1, e56, hC⟩ := c_56 (σ := ev_up σ 162 0 (σ 162 0 - 1)) (s := σ 163 (σ 162 0 - 1)) (t := ev_n) hS ev_S_n (by omega) (fun b h0 h1 => by rw [ev_up_ne (by omega)]; exact hc b h0 h1)
  refine ⟨σ1, ?_, hC⟩
  rw [mm_28]
  repeat' (first | (simp (disch := first | assumption | exact Nat.le_of_ble_eq_true rfl | omega) only [bk_28_0, eo_1_0, g3_27, eo_6, eo_56z, bk_28_1, eo_24i, eo_24r, eo_11, g3_30, eo_1_1, g3_28_1, v7_2, ev_ki, ev_kv, a36_163, e56, ev_up_ne, ev_up_eq, Int.add_zero, Int.add_sub_cancel, Int.reduceAdd, Int.reduceMul, Int.reduceSub, Int.reduceNeg, ev_wr_id]) | ((first | with_reducible refine br_40 ?_ ?_ | with_reducible refine br_41 ?_ ?_ | with_reducible refine br_42 ?_ ?_ | with_reducible refine br_43 ?_ ?_ | with_reducible refine br_44 ?_ ?_ | with_reducible refine br_45 ?_ ?_ | with_reducible refine br_46 ?_ ?_ | with_reducible refine br_47 ?_ ?_ | with_reducible refine br_48 ?_ ?_ | with_reducible refine br_49 ?_ ?_ | with_reducible refine br_50 ?_ ?_ | with_reducible refine br_51 ?_ ?_) <;> intro h <;> try simp (disch := first | assumption | exact Nat.le_of_ble_eq_true rfl | omega) only [ev_wr_id, not_true_eq_false, not_false_eq_true, Int.reduceEq, Int.reduceLT, Int.reduceLE, and_self, and_true, true_and, and_false, false_and, reduceIte] at h <;> try (exfalso; omega; done)))
