/-! calls on both sides: the text's bytes, undo -/
theorem st_J_X {σ σ2 : ev_M} (hJ : st_J σ) (h1 : ∀ i, i ≠ 164 → i ≠ 165 → i ≠ 190 → i ≠ 182 → σ2 i = σ i) (h2 : σ2 182 1 = σ 182 1) (hX : st_X σ2) : st_J σ2 := by
  obtain ⟨a1, a2, a3, a4, a5, a6, a7, a8⟩ := hJ
  have e183 := h1 183 (by omega) (by omega) (by omega) (by omega)
  have e163 := h1 163 (by omega) (by omega) (by omega) (by omega)
  have e162 := h1 162 (by omega) (by omega) (by omega) (by omega)
  have hn0 : ev_n = 0 := rfl
  refine ⟨?_, by rw [e183]; exact a2, ?_, by rw [e162]; exact a4, by rw [h2, e162]; exact a5, ?_, hX, ?_⟩
  · rw [e183]
    exact st_E_t (st_T_congr (fun o q0 q1 => h1 _ (by omega) (by omega) (by omega) (by omega))) a1
  · unfold st_K
    rw [e163]
    exact a3
  · rw [e162, e163, e183]
    intro i i0 i1
    have hk := (a3.1 i i0 (by omega)).1
    unfold ev_S at hk
    exact ⟨st_E_t (st_T_congr (fun o q0 q1 => h1 _ (by omega) (by omega) (by omega) (by omega))) (a6 i i0 i1).1, (a6 i i0 i1).2⟩
  · rw [h1 184 (by omega) (by omega) (by omega) (by omega)]
    exact a8
theorem pr_98 {σ : ev_M} {x : Int} (hJ : st_J σ) (hx : -2147483648 ≤ x ∧ x ≤ 2147483647) : st_P 98 171 [.inl x] σ := by
  obtain ⟨a1, a2, a3, a4, a5, a6, ⟨⟨x1, x2, x3⟩, x4⟩, a8⟩ := id hJ
  by_cases c1 : 0 ≤ x ∧ x ≤ 255
  · by_cases c2 : σ 182 11 < 100
    · refine ⟨.inl (σ 182 11 + 1), ev_up (ev_up σ 165 (σ 182 11) x) 164 1 (σ 182 11 + 1), ev_up (ev_up (ev_up (ev_up σ 165 (σ 182 11) x) 164 1 (σ 182 11 + 1)) 190 (σ 182 11) x) 182 11 (σ 182 11 + 1), ?_, ?_, ?_⟩
      · rw [mm_98]
        repeat' (first | (simp (disch := first | assumption | exact Nat.le_of_ble_eq_true rfl | omega) only [bk_98_0, eo_0_1, eo_6, eo_60_3, ev_ki, ev_kv, eo_56i, bk_98_1, eo_1_0, g10_28_3, g5_27, bk_98_2, g5_28_0, eo_24i, eo_24r, eo_10, g5_30, a33_165, c_104, x1, ev_up_ne, ev_up_eq, Int.add_zero, Int.add_sub_cancel, Int.reduceAdd, Int.reduceMul, Int.reduceSub, Int.reduceNeg, ev_wr_id]) | ((first | with_reducible refine br_40 ?_ ?_ | with_reducible refine br_41 ?_ ?_ | with_reducible refine br_42 ?_ ?_ | with_reducible refine br_43 ?_ ?_ | with_reducible refine br_44 ?_ ?_ | with_reducible refine br_45 ?_ ?_ | with_reducible refine br_46 ?_ ?_ | with_reducible refine br_47 ?_ ?_ | with_reducible refine br_48 ?_ ?_ | with_reducible refine br_49 ?_ ?_ | with_reducible refine br_50 ?_ ?_ | with_reducible refine br_51 ?_ ?_) <;> intro h <;> try simp (disch := first | assumption | exact Nat.le_of_ble_eq_true rfl | omega) only [ev_wr_id, not_true_eq_false, not_false_eq_true, Int.reduceEq, Int.reduceLT, Int.reduceLE, and_self, and_true, true_and, and_false, false_and, reduceIte] at h <;> try (exfalso; omega; done)))
      · rw [mm_171]
        repeat' (first | (simp (disch := first | assumption | exact Nat.le_of_ble_eq_true rfl | omega) only [bk_171_0, eo_0_1, eo_6, eo_60_3, ev_ki, ev_kv, eo_56i, bk_171_1, eo_1_0, g11_27, bk_171_2, g11_28_10, eo_24i, eo_24r, eo_10, g11_30, a33_190, c_106, ev_up_ne, ev_up_eq, Int.add_zero, Int.add_sub_cancel, Int.reduceAdd, Int.reduceMul, Int.reduceSub, Int.reduceNeg, ev_wr_id]) | ((first | with_reducible refine br_40 ?_ ?_ | with_reducible refine br_41 ?_ ?_ | with_reducible refine br_42 ?_ ?_ | with_reducible refine br_43 ?_ ?_ | with_reducible refine br_44 ?_ ?_ | with_reducible refine br_45 ?_ ?_ | with_reducible refine br_46 ?_ ?_ | with_reducible refine br_47 ?_ ?_ | with_reducible refine br_48 ?_ ?_ | with_reducible refine br_49 ?_ ?_ | with_reducible refine br_50 ?_ ?_ | with_reducible refine br_51 ?_ ?_) <;> intro h <;> try simp (disch := first | assumption | exact Nat.le_of_ble_eq_true rfl | omega) only [ev_wr_id, not_true_eq_false, not_false_eq_true, Int.reduceEq, Int.reduceLT, Int.reduceLE, and_self, and_true, true_and, and_false, false_and, reduceIte] at h <;> try (exfalso; omega; done)))
      · refine st_J_X hJ (fun i h1 h2 h3 h4 => ?_) ?_ ⟨⟨?_, ?_, ?_⟩, ?_⟩
        · funext y
          simp (disch := omega) only [ev_up_ne]
        · simp (disch := omega) only [ev_up_ne]
        · simp (disch := omega) only [ev_up_ne, ev_up_eq]
        · simp (disch := omega) only [ev_up_ne, ev_up_eq]
          omega
        · simp (disch := omega) only [ev_up_ne, ev_up_eq]
          omega
        · intro i i0 i1
          simp (disch := omega) only [ev_up_ne, ev_up_eq] at i1
          by_cases hi : i = σ 182 11
          · simp (disch := omega) only [ev_up_ne, ev_up_eq]
            exact ⟨trivial, c1⟩
          · simp (disch := omega) only [ev_up_ne]
            exact x4 i i0 (by omega)
    · refine st_P_N hJ (σ1 := σ) (σ2 := σ) (v := .inl (-5)) ?_ ?_ st_N_r
      · rw [mm_98]
        repeat' (first | (simp (disch := first | assumption | exact Nat.le_of_ble_eq_true rfl | omega) only [bk_98_0, eo_0_1, eo_6, eo_60_3, ev_ki, ev_kv, eo_56i, bk_98_1, eo_1_0, g10_28_3, g5_27, bk_98_2, g5_28_0, eo_24i, eo_24r, eo_10, g5_30, a33_165, c_104, x1, Int.add_zero, Int.add_sub_cancel, Int.reduceAdd, Int.reduceMul, Int.reduceSub, Int.reduceNeg, ev_wr_id]) | ((first | with_reducible refine br_40 ?_ ?_ | with_reducible refine br_41 ?_ ?_ | with_reducible refine br_42 ?_ ?_ | with_reducible refine br_43 ?_ ?_ | with_reducible refine br_44 ?_ ?_ | with_reducible refine br_45 ?_ ?_ | with_reducible refine br_46 ?_ ?_ | with_reducible refine br_47 ?_ ?_ | with_reducible refine br_48 ?_ ?_ | with_reducible refine br_49 ?_ ?_ | with_reducible refine br_50 ?_ ?_ | with_reducible refine br_51 ?_ ?_) <;> intro h <;> try simp (disch := first | assumption | exact Nat.le_of_ble_eq_true rfl | omega) only [ev_wr_id, not_true_eq_false, not_false_eq_true, Int.reduceEq, Int.reduceLT, Int.reduceLE, and_self, and_true, true_and, and_false, false_and, reduceIte] at h <;> try (exfalso; omega; done)))
      · rw [mm_171]
        repeat' (first | (simp (disch := first | assumption | exact Nat.le_of_ble_eq_true rfl | omega) only [bk_171_0, eo_0_1, eo_6, eo_60_3, ev_ki, ev_kv, eo_56i, bk_171_1, eo_1_0, g11_27, bk_171_2, g11_28_10, eo_24i, eo_24r, eo_10, g11_30, a33_190, c_106, Int.add_zero, Int.add_sub_cancel, Int.reduceAdd, Int.reduceMul, Int.reduceSub, Int.reduceNeg, ev_wr_id]) | ((first | with_reducible refine br_40 ?_ ?_ | with_reducible refine br_41 ?_ ?_ | with_reducible refine br_42 ?_ ?_ | with_reducible refine br_43 ?_ ?_ | with_reducible refine br_44 ?_ ?_ | with_reducible refine br_45 ?_ ?_ | with_reducible refine br_46 ?_ ?_ | with_reducible refine br_47 ?_ ?_ | with_reducible refine br_48 ?_ ?_ | with_reducible refine br_49 ?_ ?_ | with_reducible refine br_50 ?_ ?_ | with_reducible refine br_51 ?_ ?_) <;> intro h <;> try simp (disch := first | assumption | exact Nat.le_of_ble_eq_true rfl | omega) only [ev_wr_id, not_true_eq_false, not_false_eq_true, Int.reduceEq, Int.reduceLT, Int.reduceLE, and_self, and_true, true_and, and_false, false_and, reduceIte] at h <;> try (exfalso; omega; done)))
  · refine st_P_N hJ (σ1 := σ) (σ2 := σ) (v := .inl (-3)) ?_ ?_ st_N_r
    · rw [mm_98]
      repeat' (first | (simp (disch := first | assumption | exact Nat.le_of_ble_eq_true rfl | omega) only [bk_98_0, eo_0_1, eo_6, eo_60_3, ev_ki, ev_kv, eo_56i, bk_98_1, eo_1_0, g10_28_3, g5_27, bk_98_2, g5_28_0, eo_24i, eo_24r, eo_10, g5_30, a33_165, c_104, x1, Int.add_zero, Int.add_sub_cancel, Int.reduceAdd, Int.reduceMul, Int.reduceSub, Int.reduceNeg, ev_wr_id]) | ((first | with_reducible refine br_40 ?_ ?_ | with_reducible refine br_41 ?_ ?_ | with_reducible refine br_42 ?_ ?_ | with_reducible refine br_43 ?_ ?_ | with_reducible refine br_44 ?_ ?_ | with_reducible refine br_45 ?_ ?_ | with_reducible refine br_46 ?_ ?_ | with_reducible refine br_47 ?_ ?_ | with_reducible refine br_48 ?_ ?_ | with_reducible refine br_49 ?_ ?_ | with_reducible refine br_50 ?_ ?_ | with_reducible refine br_51 ?_ ?_) <;> intro h <;> try simp (disch := first | assumption | exact Nat.le_of_ble_eq_true rfl | omega) only [ev_wr_id, not_true_eq_false, not_false_eq_true, Int.reduceEq, Int.reduceLT, Int.reduceLE, and_self, and_true, true_and, and_false, false_and, reduceIte] at h <;> try (exfalso; omega; done)))
    · rw [mm_171]
      repeat' (first | (simp (disch := first | assumption | exact Nat.le_of_ble_eq_true rfl | omega) only [bk_171_0, eo_0_1, eo_6, eo_60_3, ev_ki, ev_kv, eo_56i, bk_171_1, eo_1_0, g11_27, bk_171_2, g11_28_10, eo_24i, eo_24r, eo_10, g11_30, a33_190, c_106, Int.add_zero, Int.add_sub_cancel, Int.reduceAdd, Int.reduceMul, Int.reduceSub, Int.reduceNeg, ev_wr_id]) | ((first | with_reducible refine br_40 ?_ ?_ | with_reducible refine br_41 ?_ ?_ | with_reducible refine br_42 ?_ ?_ | with_reducible refine br_43 ?_ ?_ | with_reducible refine br_44 ?_ ?_ | with_reducible refine br_45 ?_ ?_ | with_reducible refine br_46 ?_ ?_ | with_reducible refine br_47 ?_ ?_ | with_reducible refine br_48 ?_ ?_ | with_reducible refine br_49 ?_ ?_ | with_reducible refine br_50 ?_ ?_ | with_reducible refine br_51 ?_ ?_) <;> intro h <;> try simp (disch := first | assumption | exact Nat.le_of_ble_eq_true rfl | omega) only [ev_wr_id, not_true_eq_false, not_false_eq_true, Int.reduceEq, Int.reduceLT, Int.reduceLE, and_self, and_true, true_and, and_false, false_and, reduceIte] at h <;> try (exfalso; omega; done)))
theorem pr_99 {σ : ev_M} (hJ : st_J σ) : st_P 99 172 [] σ := by
  obtain ⟨a1, a2, a3, a4, a5, a6, ⟨⟨x1, x2, x3⟩, x4⟩, a8⟩ := id hJ
  refine ⟨.inl (σ 182 11), ev_up σ 164 1 0, ev_up (ev_up σ 164 1 0) 182 11 0, ?_, ?_, ?_⟩
  · rw [mm_99]
    repeat' (first | (simp (disch := first | assumption | exact Nat.le_of_ble_eq_true rfl | omega) only [bk_99_0, eo_1_0, g10_28_3, g5_27, eo_3_1n, eo_3_1i, eo_3_1r, eo_6, g5_30, eo_0_1, eo_56i, x1, Int.add_zero, Int.add_sub_cancel, Int.reduceAdd, Int.reduceMul, Int.reduceSub, Int.reduceNeg, ev_wr_id]) | ((first | with_reducible refine br_40 ?_ ?_ | with_reducible refine br_41 ?_ ?_ | with_reducible refine br_42 ?_ ?_ | with_reducible refine br_43 ?_ ?_ | with_reducible refine br_44 ?_ ?_ | with_reducible refine br_45 ?_ ?_ | with_reducible refine br_46 ?_ ?_ | with_reducible refine br_47 ?_ ?_ | with_reducible refine br_48 ?_ ?_ | with_reducible refine br_49 ?_ ?_ | with_reducible refine br_50 ?_ ?_ | with_reducible refine br_51 ?_ ?_) <;> intro h <;> try simp (disch := first | assumption | exact Nat.le_of_ble_eq_true rfl | omega) only [ev_wr_id, not_true_eq_false, not_false_eq_true, Int.reduceEq, Int.reduceLT, Int.reduceLE, and_self, and_true, true_and, and_false, false_and, reduceIte] at h <;> try (exfalso; omega; done)))
  · rw [mm_172]
    repeat' (first | (simp (disch := first | assumption | exact Nat.le_of_ble_eq_true rfl | omega) only [bk_172_0, eo_1_0, g11_27, eo_3_1n, eo_3_1i, eo_3_1r, eo_6, g11_30, eo_0_1, eo_56i, ev_up_ne, Int.add_zero, Int.add_sub_cancel, Int.reduceAdd, Int.reduceMul, Int.reduceSub, Int.reduceNeg, ev_wr_id]) | ((first | with_reducible refine br_40 ?_ ?_ | with_reducible refine br_41 ?_ ?_ | with_reducible refine br_42 ?_ ?_ | with_reducible refine br_43 ?_ ?_ | with_reducible refine br_44 ?_ ?_ | with_reducible refine br_45 ?_ ?_ | with_reducible refine br_46 ?_ ?_ | with_reducible refine br_47 ?_ ?_ | with_reducible refine br_48 ?_ ?_ | with_reducible refine br_49 ?_ ?_ | with_reducible refine br_50 ?_ ?_ | with_reducible refine br_51 ?_ ?_) <;> intro h <;> try simp (disch := first | assumption | exact Nat.le_of_ble_eq_true rfl | omega) only [ev_wr_id, not_true_eq_false, not_false_eq_true, Int.reduceEq, Int.reduceLT, Int.reduceLE, and_self, and_true, true_and, and_false, false_and, reduceIte] at h <;> try (exfalso; omega; done)))
  · refine st_J_X hJ (fun i h1 h2 h3 h4 => ?_) ?_ ⟨⟨?_, ?_, ?_⟩, ?_⟩
    · funext y
      simp (disch := omega) only [ev_up_ne]
    · simp (disch := omega) only [ev_up_ne]
    · simp (disch := omega) only [ev_up_ne, ev_up_eq]
    · simp (disch := omega) only [ev_up_eq]
      omega
    · simp (disch := omega) only [ev_up_eq]
      omega
    · intro i i0 i1
      simp (disch := omega) only [ev_up_eq] at i1
      omega
theorem c_28 {σ : ev_M} (hK : st_K σ) (hn : 1 ≤ σ 162 0 ∧ σ 162 0 ≤ 5) (hc : ∀ b, 0 ≤ b → b < 6 → 0 ≤ σ (σ 163 (σ 162 0 - 1) + 10) b ∧ σ (σ 163 (σ 162 0 - 1) + 10) b ≤ 1) : ∃ σ1, EM 28 [.inr (.inl 162), .inr (.inl ev_n)] σ = some (some (.inl 1), σ1) ∧ st_C (ev_up σ 162 0 (σ 162 0 - 1)) (σ 163 (σ 162 0 - 1)) ev_n σ1 := by
  have hkn := hK.1 (σ 162 0 - 1) (by omega) (by omega)
  have hS := hkn.1
  have hSn := ev_S_n
  have hn0 : ev_n = 0 := rfl
  have hS2 := hS
  unfold ev_S at hS2
  obtain ⟨σ1, e56, hC⟩ := c_56 (σ := ev_up σ 162 0 (σ 162 0 - 1)) (s := σ 163 (σ 162 0 - 1)) (t := ev_n) hS ev_S_n (by omega) (fun b h0 h1 => by rw [ev_up_ne (by omega)]; exact hc b h0 h1)
  refine ⟨σ1, ?_, hC⟩
  rw [mm_28]
  repeat' (first | (simp (disch := first | assumption | exact Nat.le_of_ble_eq_true rfl | omega) only [bk_28_0, eo_1_0, g3_27, eo_6, eo_56z, bk_28_1, eo_24i, eo_24r, eo_11, g3_30, eo_1_1, g3_28_1, v7_2, ev_ki, ev_kv, a36_163, e56, ev_up_ne, ev_up_eq, Int.add_zero, Int.add_sub_cancel, Int.reduceAdd, Int.reduceMul, Int.reduceSub, Int.reduceNeg, ev_wr_id]) | ((first | with_reducible refine br_40 ?_ ?_ | with_reducible refine br_41 ?_ ?_ | with_reducible refine br_42 ?_ ?_ | with_reducible refine br_43 ?_ ?_ | with_reducible refine br_44 ?_ ?_ | with_reducible refine br_45 ?_ ?_ | with_reducible refine br_46 ?_ ?_ | with_reducible refine br_47 ?_ ?_ | with_reducible refine br_48 ?_ ?_ | with_reducible refine br_49 ?_ ?_ | with_reducible refine br_50 ?_ ?_ | with_reducible refine br_51 ?_ ?_) <;> intro h <;> try simp (disch := first | assumption | exact Nat.le_of_ble_eq_true rfl | omega) only [ev_wr_id, not_true_eq_false, not_false_eq_true, Int.reduceEq, Int.reduceLT, Int.reduceLE, and_self, and_true, true_and, and_false, false_and, reduceIte] at h <;> try (exfalso; omega; done)))
theorem pr_97 {σ : ev_M} (hJ : st_J σ) : st_P 97 170 [] σ := by
  obtain ⟨a1, a2, a3, a4, a5, a6, a7, a8⟩ := id hJ
  have hn0 : ev_n = 0 := rfl
  have hSn := ev_S_n
  by_cases c1 : σ 162 0 = 0
  · have e28 : EM 28 [.inr (.inl 162), .inr (.inl ev_n)] σ = some (some (.inl 0), σ) := by
      rw [mm_28]
      repeat' (first | (simp (disch := first | assumption | exact Nat.le_of_ble_eq_true rfl | omega) only [bk_28_0, eo_1_0, g3_27, eo_6, eo_56z, bk_28_1, eo_24i, eo_24r, eo_11, g3_30, eo_1_1, g3_28_1, v7_2, ev_ki, ev_kv, a36_163, Int.add_zero, Int.add_sub_cancel, Int.reduceAdd, Int.reduceMul, Int.reduceSub, Int.reduceNeg, ev_wr_id]) | ((first | with_reducible refine br_40 ?_ ?_ | with_reducible refine br_41 ?_ ?_ | with_reducible refine br_42 ?_ ?_ | with_reducible refine br_43 ?_ ?_ | with_reducible refine br_44 ?_ ?_ | with_reducible refine br_45 ?_ ?_ | with_reducible refine br_46 ?_ ?_ | with_reducible refine br_47 ?_ ?_ | with_reducible refine br_48 ?_ ?_ | with_reducible refine br_49 ?_ ?_ | with_reducible refine br_50 ?_ ?_ | with_reducible refine br_51 ?_ ?_) <;> intro h <;> try simp (disch := first | assumption | exact Nat.le_of_ble_eq_true rfl | omega) only [ev_wr_id, not_true_eq_false, not_false_eq_true, Int.reduceEq, Int.reduceLT, Int.reduceLE, and_self, and_true, true_and, and_false, false_and, reduceIte] at h <;> try (exfalso; omega; done)))
    refine st_P_N hJ (σ1 := σ) (σ2 := σ) (v := .inl (-4)) ?_ ?_ st_N_r
    · rw [mm_97]
      repeat' (first | (simp (disch := first | assumption | exact Nat.le_of_ble_eq_true rfl | omega) only [bk_97_0, eo_1_0, g10_28_2, g10_28_0, v3_2, ev_ki, ev_kv, eo_6, eo_56i, bk_97_1, g3_27, e28, Int.add_zero, Int.add_sub_cancel, Int.reduceAdd, Int.reduceMul, Int.reduceSub, Int.reduceNeg, ev_wr_id]) | ((first | with_reducible refine br_40 ?_ ?_ | with_reducible refine br_41 ?_ ?_ | with_reducible refine br_42 ?_ ?_ | with_reducible refine br_43 ?_ ?_ | with_reducible refine br_44 ?_ ?_ | with_reducible refine br_45 ?_ ?_ | with_reducible refine br_46 ?_ ?_ | with_reducible refine br_47 ?_ ?_ | with_reducible refine br_48 ?_ ?_ | with_reducible refine br_49 ?_ ?_ | with_reducible refine br_50 ?_ ?_ | with_reducible refine br_51 ?_ ?_) <;> intro h <;> try simp (disch := first | assumption | exact Nat.le_of_ble_eq_true rfl | omega) only [ev_wr_id, not_true_eq_false, not_false_eq_true, Int.reduceEq, Int.reduceLT, Int.reduceLE, and_self, and_true, true_and, and_false, false_and, reduceIte] at h <;> try (exfalso; omega; done)))
    · rw [mm_170]
      have e9 : σ 182 1 = 0 := by omega
      repeat' (first | (simp (disch := first | assumption | exact Nat.le_of_ble_eq_true rfl | omega) only [bk_170_0, eo_1_0, g11_27, eo_6, eo_56i, bk_170_1, v11_3, ev_ki, ev_kv, eo_24i, eo_24r, eo_11, g11_30, c_107, e9, Int.add_zero, Int.add_sub_cancel, Int.reduceAdd, Int.reduceMul, Int.reduceSub, Int.reduceNeg, ev_wr_id]) | ((first | with_reducible refine br_40 ?_ ?_ | with_reducible refine br_41 ?_ ?_ | with_reducible refine br_42 ?_ ?_ | with_reducible refine br_43 ?_ ?_ | with_reducible refine br_44 ?_ ?_ | with_reducible refine br_45 ?_ ?_ | with_reducible refine br_46 ?_ ?_ | with_reducible refine br_47 ?_ ?_ | with_reducible refine br_48 ?_ ?_ | with_reducible refine br_49 ?_ ?_ | with_reducible refine br_50 ?_ ?_ | with_reducible refine br_51 ?_ ?_) <;> intro h <;> try simp (disch := first | assumption | exact Nat.le_of_ble_eq_true rfl | omega) only [ev_wr_id, not_true_eq_false, not_false_eq_true, Int.reduceEq, Int.reduceLT, Int.reduceLE, and_self, and_true, true_and, and_false, false_and, reduceIte] at h <;> try (exfalso; omega; done)))
  · have h6 := a6 (σ 162 0 - 1) (by omega) (by omega)
    have hk := a3.1 (σ 162 0 - 1) (by omega) (by omega)
    have hkS := hk.1
    unfold ev_S at hkS
    obtain ⟨σ1, e28, hC⟩ := c_28 a3 (by omega) (fun b b0 b1 => by
      rw [tr_10 (σ := σ) (s := σ 163 (σ 162 0 - 1)) ⟨b0, b1⟩, h6.1 _ (by omega) (by omega)]
      exact h6.2.2.2.2.1 b b0 b1)
    have f1 : ∀ i, 22 < i → i ≠ 162 → σ1 i = σ i := fun i h0 h1 => by
      rw [hC.2 i (by omega)]
      funext y
      exact ev_up_ne (by omega)
    have e162 : σ1 162 0 = σ 162 0 - 1 := by
      rw [hC.2 162 (by omega), ev_up_eq ⟨rfl, rfl⟩]
    have e182 : σ1 182 1 = σ 162 0 := by rw [f1 182 (by omega) (by omega), a5]
    have e183 := f1 183 (by omega) (by omega)
    obtain ⟨σ2, d2⟩ : ∃ z, z = ev_up (ev_cp σ1 183 (338 * σ 162 0) 183 0 338) 182 1 (σ 162 0 - 1) := ⟨_, rfl⟩
    have g1 : ∀ i, i ≠ 182 → i ≠ 183 → σ2 i = σ1 i := fun i h0 h1 => by
      rw [d2]
      funext y
      simp (disch := omega) only [ev_up_ne, ev_cp_ne]
    have g183 : ∀ k, 338 ≤ k → σ2 183 k = σ 183 k := fun k h0 => by
      rw [d2, ev_up_ne (by omega), ev_cp_out (by omega), e183]
    have g0 : ∀ k, 0 ≤ k → k < 338 → σ2 183 k = σ 183 (338 * (σ 162 0 - 1 + 1) + k) := fun k h0 h1 => by
      rw [d2, ev_up_ne (by omega), ev_cp_in (by omega) (by omega), e183]
      congr 1
      omega
    refine ⟨.inl (σ 162 0 - 1), σ1, σ2, ?_, ?_, ?_⟩
    · rw [mm_97]
      repeat' (first | (simp (disch := first | assumption | exact Nat.le_of_ble_eq_true rfl | omega) only [bk_97_0, eo_1_0, g10_28_2, g10_28_0, v3_2, ev_ki, ev_kv, eo_6, eo_56i, bk_97_1, g3_27, e28, e162, Int.add_zero, Int.add_sub_cancel, Int.reduceAdd, Int.reduceMul, Int.reduceSub, Int.reduceNeg, ev_wr_id]) | ((first | with_reducible refine br_40 ?_ ?_ | with_reducible refine br_41 ?_ ?_ | with_reducible refine br_42 ?_ ?_ | with_reducible refine br_43 ?_ ?_ | with_reducible refine br_44 ?_ ?_ | with_reducible refine br_45 ?_ ?_ | with_reducible refine br_46 ?_ ?_ | with_reducible refine br_47 ?_ ?_ | with_reducible refine br_48 ?_ ?_ | with_reducible refine br_49 ?_ ?_ | with_reducible refine br_50 ?_ ?_ | with_reducible refine br_51 ?_ ?_) <;> intro h <;> try simp (disch := first | assumption | exact Nat.le_of_ble_eq_true rfl | omega) only [ev_wr_id, not_true_eq_false, not_false_eq_true, Int.reduceEq, Int.reduceLT, Int.reduceLE, and_self, and_true, true_and, and_false, false_and, reduceIte] at h <;> try (exfalso; omega; done)))
    · rw [mm_170, d2]
      repeat' (first | (simp (disch := first | assumption | exact Nat.le_of_ble_eq_true rfl | omega) only [bk_170_0, eo_1_0, g11_27, eo_6, eo_56i, bk_170_1, v11_3, ev_ki, ev_kv, eo_24i, eo_24r, eo_11, g11_30, c_107, e182, ev_cp_ne, ev_up_eq, Int.add_zero, Int.add_sub_cancel, Int.reduceAdd, Int.reduceMul, Int.reduceSub, Int.reduceNeg, ev_wr_id]) | ((first | with_reducible refine br_40 ?_ ?_ | with_reducible refine br_41 ?_ ?_ | with_reducible refine br_42 ?_ ?_ | with_reducible refine br_43 ?_ ?_ | with_reducible refine br_44 ?_ ?_ | with_reducible refine br_45 ?_ ?_ | with_reducible refine br_46 ?_ ?_ | with_reducible refine br_47 ?_ ?_ | with_reducible refine br_48 ?_ ?_ | with_reducible refine br_49 ?_ ?_ | with_reducible refine br_50 ?_ ?_ | with_reducible refine br_51 ?_ ?_) <;> intro h <;> try simp (disch := first | assumption | exact Nat.le_of_ble_eq_true rfl | omega) only [ev_wr_id, not_true_eq_false, not_false_eq_true, Int.reduceEq, Int.reduceLT, Int.reduceLE, and_self, and_true, true_and, and_false, false_and, reduceIte] at h <;> try (exfalso; omega; done)))
    · have hE0 : st_E (σ2 183) (fun k => σ 183 (338 * (σ 162 0 - 1 + 1) + k)) := g0
      have e163 : σ2 163 = σ 163 := by rw [g1 163 (by omega) (by omega), f1 163 (by omega) (by omega)]
      refine ⟨?_, st_I_E (st_E_s hE0) h6.2, ?_, ?_, ?_, ?_, ?_, ?_⟩
      · refine st_E_t (fun k h0 h1 => ?_) (st_E_t h6.1 (st_E_s hE0))
        rw [show st_T σ2 ev_n k = st_T σ1 ev_n k from st_T_congr (fun o q0 q1 => g1 _ (by omega) (by omega)) k h0 h1, hC.1 k h0 h1]
        exact st_T_up hk.1 (by omega) k h0 h1
      · unfold st_K
        rw [e163]
        exact a3
      · rw [g1 162 (by omega) (by omega), e162]
        omega
      · rw [g1 162 (by omega) (by omega), e162, d2, ev_up_eq ⟨rfl, rfl⟩]
      · rw [g1 162 (by omega) (by omega), e162, e163]
        intro i i0 i1
        have hki := a3.1 i i0 (by omega)
        have hkiS := hki.1
        unfold ev_S at hkiS
        have hrow : st_E (fun k => σ2 183 (338 * (i + 1) + k)) (fun k => σ 183 (338 * (i + 1) + k)) := fun k k0 k1 => g183 _ (by omega)
        refine ⟨st_E_t (fun k h0 h1 => ?_) (st_E_t (a6 i i0 (by omega)).1 (st_E_s hrow)), st_I_E (st_E_s hrow) (a6 i i0 (by omega)).2⟩
        exact st_T_congr (fun o q0 q1 => by rw [g1 _ (by omega) (by omega), f1 _ (by omega) (by omega)]) k h0 h1
      · have e11 : σ2 182 11 = σ 182 11 := by
          rw [d2, ev_up_ne (by omega), ev_cp_ne (by omega), f1 182 (by omega) (by omega)]
        unfold st_X
        rw [e11, g1 164 (by omega) (by omega), g1 165 (by omega) (by omega), g1 190 (by omega) (by omega), f1 164 (by omega) (by omega), f1 165 (by omega) (by omega), f1 190 (by omega) (by omega)]
        exact a7
      · rw [g1 184 (by omega) (by omega), f1 184 (by omega) (by omega)]
        exact a8
