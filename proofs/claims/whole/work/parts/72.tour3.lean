/-! the round: the reference's side -/
def st_fG (f G : Int → Int) : Prop := ∀ y, 0 ≤ y → y < 10 → (f y = -1 ∧ G y = 1000000) ∨ (0 ≤ f y ∧ f y ≤ 990 ∧ G y = f y)
theorem c_145 {σ : ev_M} {b : Int} {G : Int → Int} (hI : st_I (σ 183)) (hb : 0 ≤ b ∧ b < σ 183 2) (hG : st_fG (σ 186) G) : ∃ e, EM 145 [.inr (.inl 182), .inl b] σ = some (some (.inl e), σ) ∧ (0 ≤ e ∧ e < 10) ∧ ((G (st_sn (σ 183) G b) = 1000000 ∧ σ 186 e = -1) ∨ (G (st_sn (σ 183) G b) < 1000000 ∧ e = st_sn (σ 183) G b ∧ σ 186 e = G (st_sn (σ 183) G b) ∧ 0 ≤ σ 186 e ∧ σ 186 e ≤ 990)) := by
  have hbb := hI.2.2.1 b hb.1 hb.2
  have i0 := hI.1.1
  have i1 := hI.1.2.1
  have i2 := hI.1.2.2.1
  have g := hI.2.1 _ hbb.1.1 hbb.1.2
  obtain ⟨r, hr⟩ : ∃ r, r = σ 183 (89 + 5 * b) := ⟨_, rfl⟩
  rw [← hr] at hbb g
  have hr1 := hr.symm
  obtain ⟨p, hp⟩ : ∃ p, p = σ 183 (9 + 4 * r) := ⟨_, rfl⟩
  obtain ⟨q, hq⟩ : ∃ q, q = σ 183 (9 + 4 * r + 1) := ⟨_, rfl⟩
  rw [← hp, ← hq] at g
  have hp1 := hp.symm
  have hq1 := hq.symm
  have gp := hG p (by omega) (by omega)
  have gq := hG q (by omega) (by omega)
  have hsn : st_sn (σ 183) G b = if G (if p < q then q else p) < G (if q < p then q else p) then (if p < q then q else p) else (if q < p then q else p) := by
    unfold st_sn st_hg st_lw
    rw [← hr, ← hp, ← hq]
  rw [hsn]
  have hr20 : 0 ≤ r ∧ r < 20 := by omega
  have hb6 : 0 ≤ b ∧ b < 6 := by omega
  have hpq : (0 ≤ p ∧ p < 10) ∧ (0 ≤ q ∧ q < 10) ∧ p ≠ q := by omega
  obtain ⟨u, hu⟩ : ∃ u, u = σ 186 p := ⟨_, rfl⟩
  obtain ⟨w, hw⟩ : ∃ w, w = σ 186 q := ⟨_, rfl⟩
  have hu1 := hu.symm
  have hw1 := hw.symm
  rw [← hu] at gp
  rw [← hw] at gq
  clear hG hsn hI hbb g i0 i1 i2 hb hr hp hq hu hw
  by_cases c1 : u = -1
  · have G1 : G p = 1000000 := by omega
    refine ⟨q, ?_, hpq.2.1, ?_⟩
    · rw [mm_145]
      repeat' (first | (simp (disch := first | assumption | exact Nat.le_of_ble_eq_true rfl | omega) only [bk_145_0, eo_1_0, eo_0_1, eo_6, v11_3, ev_ki, ev_kv, eo_3_2n, eo_3_2i, eo_3_2r, eo_3_3n, eo_3_3i, eo_3_3r, g11_28_4, eo_0_2, eo_0_3, eo_53, bk_145_1, eo_52, bk_145_2, bk_145_3, eo_56i, bk_145_4, bk_145_5, bk_145_6, bk_145_7, bk_145_8, a32_186, c_114, c_113, hr1, hp1, hq1, hu1, hw1, Int.add_zero, Int.add_sub_cancel, Int.reduceAdd, Int.reduceMul, Int.reduceSub, Int.reduceNeg, ev_wr_id]) | ((first | with_reducible refine br_40 ?_ ?_ | with_reducible refine br_41 ?_ ?_ | with_reducible refine br_42 ?_ ?_ | with_reducible refine br_43 ?_ ?_ | with_reducible refine br_44 ?_ ?_ | with_reducible refine br_45 ?_ ?_ | with_reducible refine br_46 ?_ ?_ | with_reducible refine br_47 ?_ ?_ | with_reducible refine br_48 ?_ ?_ | with_reducible refine br_49 ?_ ?_ | with_reducible refine br_50 ?_ ?_ | with_reducible refine br_51 ?_ ?_) <;> intro h <;> try simp (disch := first | assumption | exact Nat.le_of_ble_eq_true rfl | omega) only [ev_wr_id, not_true_eq_false, not_false_eq_true, Int.reduceEq, Int.reduceLT, Int.reduceLE, and_self, and_true, true_and, and_false, false_and, reduceIte] at h <;> try (exfalso; omega; done)))
    · by_cases c2 : w = -1
      · have G2 : G q = 1000000 := by omega
        refine Or.inl ⟨?_, by omega⟩
        by_cases c3 : p < q
        · rw [if_pos c3, if_neg (show ¬ q < p by omega)]
          split <;> assumption
        · rw [if_neg c3, if_pos (show q < p by omega)]
          split <;> assumption
      · have G2 : G q = w := by omega
        by_cases c3 : p < q
        · rw [if_pos c3, if_neg (show ¬ q < p by omega), if_pos (by omega)]
          exact Or.inr ⟨by omega, rfl, by omega, by omega, by omega⟩
        · rw [if_neg c3, if_pos (show q < p by omega), if_neg (by omega)]
          exact Or.inr ⟨by omega, rfl, by omega, by omega, by omega⟩
  · have G1 : G p = u := by omega
    by_cases c2 : w = -1
    · have G2 : G q = 1000000 := by omega
      refine ⟨p, ?_, hpq.1, ?_⟩
      · rw [mm_145]
        repeat' (first | (simp (disch := first | assumption | exact Nat.le_of_ble_eq_true rfl | omega) only [bk_145_0, eo_1_0, eo_0_1, eo_6, v11_3, ev_ki, ev_kv, eo_3_2n, eo_3_2i, eo_3_2r, eo_3_3n, eo_3_3i, eo_3_3r, g11_28_4, eo_0_2, eo_0_3, eo_53, bk_145_1, eo_52, bk_145_2, bk_145_3, eo_56i, bk_145_4, bk_145_5, bk_145_6, bk_145_7, bk_145_8, a32_186, c_114, c_113, hr1, hp1, hq1, hu1, hw1, Int.add_zero, Int.add_sub_cancel, Int.reduceAdd, Int.reduceMul, Int.reduceSub, Int.reduceNeg, ev_wr_id]) | ((first | with_reducible refine br_40 ?_ ?_ | with_reducible refine br_41 ?_ ?_ | with_reducible refine br_42 ?_ ?_ | with_reducible refine br_43 ?_ ?_ | with_reducible refine br_44 ?_ ?_ | with_reducible refine br_45 ?_ ?_ | with_reducible refine br_46 ?_ ?_ | with_reducible refine br_47 ?_ ?_ | with_reducible refine br_48 ?_ ?_ | with_reducible refine br_49 ?_ ?_ | with_reducible refine br_50 ?_ ?_ | with_reducible refine br_51 ?_ ?_) <;> intro h <;> try simp (disch := first | assumption | exact Nat.le_of_ble_eq_true rfl | omega) only [ev_wr_id, not_true_eq_false, not_false_eq_true, Int.reduceEq, Int.reduceLT, Int.reduceLE, and_self, and_true, true_and, and_false, false_and, reduceIte] at h <;> try (exfalso; omega; done)))
      · by_cases c3 : p < q
        · rw [if_pos c3, if_neg (show ¬ q < p by omega), if_neg (by omega)]
          exact Or.inr ⟨by omega, rfl, by omega, by omega, by omega⟩
        · rw [if_neg c3, if_pos (show q < p by omega), if_pos (by omega)]
          exact Or.inr ⟨by omega, rfl, by omega, by omega, by omega⟩
    · have G2 : G q = w := by omega
      obtain ⟨e, he⟩ : ∃ e, e = if G (if p < q then q else p) < G (if q < p then q else p) then (if p < q then q else p) else (if q < p then q else p) := ⟨_, rfl⟩
      rw [← he]
      by_cases c3 : p < q
      · rw [if_pos c3, if_neg (show ¬ q < p by omega)] at he
        by_cases c4 : G q < G p
        · rw [if_pos c4] at he
          refine ⟨q, ?_, hpq.2.1, Or.inr ⟨by rw [he]; omega, he.symm, by rw [he]; omega, by omega, by omega⟩⟩
          rw [mm_145]
          repeat' (first | (simp (disch := first | assumption | exact Nat.le_of_ble_eq_true rfl | omega) only [bk_145_0, eo_1_0, eo_0_1, eo_6, v11_3, ev_ki, ev_kv, eo_3_2n, eo_3_2i, eo_3_2r, eo_3_3n, eo_3_3i, eo_3_3r, g11_28_4, eo_0_2, eo_0_3, eo_53, bk_145_1, eo_52, bk_145_2, bk_145_3, eo_56i, bk_145_4, bk_145_5, bk_145_6, bk_145_7, bk_145_8, a32_186, c_114, c_113, hr1, hp1, hq1, hu1, hw1, Int.add_zero, Int.add_sub_cancel, Int.reduceAdd, Int.reduceMul, Int.reduceSub, Int.reduceNeg, ev_wr_id]) | ((first | with_reducible refine br_40 ?_ ?_ | with_reducible refine br_41 ?_ ?_ | with_reducible refine br_42 ?_ ?_ | with_reducible refine br_43 ?_ ?_ | with_reducible refine br_44 ?_ ?_ | with_reducible refine br_45 ?_ ?_ | with_reducible refine br_46 ?_ ?_ | with_reducible refine br_47 ?_ ?_ | with_reducible refine br_48 ?_ ?_ | with_reducible refine br_49 ?_ ?_ | with_reducible refine br_50 ?_ ?_ | with_reducible refine br_51 ?_ ?_) <;> intro h <;> try simp (disch := first | assumption | exact Nat.le_of_ble_eq_true rfl | omega) only [ev_wr_id, not_true_eq_false, not_false_eq_true, Int.reduceEq, Int.reduceLT, Int.reduceLE, and_self, and_true, true_and, and_false, false_and, reduceIte] at h <;> try (exfalso; omega; done)))
        · rw [if_neg c4] at he
          refine ⟨p, ?_, hpq.1, Or.inr ⟨by rw [he]; omega, he.symm, by rw [he]; omega, by omega, by omega⟩⟩
          rw [mm_145]
          repeat' (first | (simp (disch := first | assumption | exact Nat.le_of_ble_eq_true rfl | omega) only [bk_145_0, eo_1_0, eo_0_1, eo_6, v11_3, ev_ki, ev_kv, eo_3_2n, eo_3_2i, eo_3_2r, eo_3_3n, eo_3_3i, eo_3_3r, g11_28_4, eo_0_2, eo_0_3, eo_53, bk_145_1, eo_52, bk_145_2, bk_145_3, eo_56i, bk_145_4, bk_145_5, bk_145_6, bk_145_7, bk_145_8, a32_186, c_114, c_113, hr1, hp1, hq1, hu1, hw1, Int.add_zero, Int.add_sub_cancel, Int.reduceAdd, Int.reduceMul, Int.reduceSub, Int.reduceNeg, ev_wr_id]) | ((first | with_reducible refine br_40 ?_ ?_ | with_reducible refine br_41 ?_ ?_ | with_reducible refine br_42 ?_ ?_ | with_reducible refine br_43 ?_ ?_ | with_reducible refine br_44 ?_ ?_ | with_reducible refine br_45 ?_ ?_ | with_reducible refine br_46 ?_ ?_ | with_reducible refine br_47 ?_ ?_ | with_reducible refine br_48 ?_ ?_ | with_reducible refine br_49 ?_ ?_ | with_reducible refine br_50 ?_ ?_ | with_reducible refine br_51 ?_ ?_) <;> intro h <;> try simp (disch := first | assumption | exact Nat.le_of_ble_eq_true rfl | omega) only [ev_wr_id, not_true_eq_false, not_false_eq_true, Int.reduceEq, Int.reduceLT, Int.reduceLE, and_self, and_true, true_and, and_false, false_and, reduceIte] at h <;> try (exfalso; omega; done)))
      · rw [if_neg c3, if_pos (show q < p by omega)] at he
        by_cases c4 : G p < G q
        · rw [if_pos c4] at he
          refine ⟨p, ?_, hpq.1, Or.inr ⟨by rw [he]; omega, he.symm, by rw [he]; omega, by omega, by omega⟩⟩
          rw [mm_145]
          repeat' (first | (simp (disch := first | assumption | exact Nat.le_of_ble_eq_true rfl | omega) only [bk_145_0, eo_1_0, eo_0_1, eo_6, v11_3, ev_ki, ev_kv, eo_3_2n, eo_3_2i, eo_3_2r, eo_3_3n, eo_3_3i, eo_3_3r, g11_28_4, eo_0_2, eo_0_3, eo_53, bk_145_1, eo_52, bk_145_2, bk_145_3, eo_56i, bk_145_4, bk_145_5, bk_145_6, bk_145_7, bk_145_8, a32_186, c_114, c_113, hr1, hp1, hq1, hu1, hw1, Int.add_zero, Int.add_sub_cancel, Int.reduceAdd, Int.reduceMul, Int.reduceSub, Int.reduceNeg, ev_wr_id]) | ((first | with_reducible refine br_40 ?_ ?_ | with_reducible refine br_41 ?_ ?_ | with_reducible refine br_42 ?_ ?_ | with_reducible refine br_43 ?_ ?_ | with_reducible refine br_44 ?_ ?_ | with_reducible refine br_45 ?_ ?_ | with_reducible refine br_46 ?_ ?_ | with_reducible refine br_47 ?_ ?_ | with_reducible refine br_48 ?_ ?_ | with_reducible refine br_49 ?_ ?_ | with_reducible refine br_50 ?_ ?_ | with_reducible refine br_51 ?_ ?_) <;> intro h <;> try simp (disch := first | assumption | exact Nat.le_of_ble_eq_true rfl | omega) only [ev_wr_id, not_true_eq_false, not_false_eq_true, Int.reduceEq, Int.reduceLT, Int.reduceLE, and_self, and_true, true_and, and_false, false_and, reduceIte] at h <;> try (exfalso; omega; done)))
        · rw [if_neg c4] at he
          refine ⟨q, ?_, hpq.2.1, Or.inr ⟨by rw [he]; omega, he.symm, by rw [he]; omega, by omega, by omega⟩⟩
          rw [mm_145]
          repeat' (first | (simp (disch := first | assumption | exact Nat.le_of_ble_eq_true rfl | omega) only [bk_145_0, eo_1_0, eo_0_1, eo_6, v11_3, ev_ki, ev_kv, eo_3_2n, eo_3_2i, eo_3_2r, eo_3_3n, eo_3_3i, eo_3_3r, g11_28_4, eo_0_2, eo_0_3, eo_53, bk_145_1, eo_52, bk_145_2, bk_145_3, eo_56i, bk_145_4, bk_145_5, bk_145_6, bk_145_7, bk_145_8, a32_186, c_114, c_113, hr1, hp1, hq1, hu1, hw1, Int.add_zero, Int.add_sub_cancel, Int.reduceAdd, Int.reduceMul, Int.reduceSub, Int.reduceNeg, ev_wr_id]) | ((first | with_reducible refine br_40 ?_ ?_ | with_reducible refine br_41 ?_ ?_ | with_reducible refine br_42 ?_ ?_ | with_reducible refine br_43 ?_ ?_ | with_reducible refine br_44 ?_ ?_ | with_reducible refine br_45 ?_ ?_ | with_reducible refine br_46 ?_ ?_ | with_reducible refine br_47 ?_ ?_ | with_reducible refine br_48 ?_ ?_ | with_reducible refine br_49 ?_ ?_ | with_reducible refine br_50 ?_ ?_ | with_reducible refine br_51 ?_ ?_) <;> intro h <;> try simp (disch := first | assumption | exact Nat.le_of_ble_eq_true rfl | omega) only [ev_wr_id, not_true_eq_false, not_false_eq_true, Int.reduceEq, Int.reduceLT, Int.reduceLE, and_self, and_true, true_and, and_false, false_and, reduceIte] at h <;> try (exfalso; omega; done)))
theorem l_146 {σ : ev_M} {b m : Int} (hb : 0 ≤ b ∧ b < 6) (hm : σ 182 6 = m) (hm6 : 0 ≤ m ∧ m ≤ 6) (hO : ∀ j, 0 ≤ j → j < m → 0 ≤ σ 188 j ∧ σ 188 j < 6) : ∀ (k : Nat) (j v : Int), 0 ≤ j → j + k = m → (v = 0 ∨ v = 1) → (v = 1 → ∃ i, 0 ≤ i ∧ i < m ∧ σ 188 i = b) → ∃ v2, EB 146 1 [some (.inr (.inl 182)), some (.inl b), some (.inl v), some (.inl j)] [] σ = some (some (.inl v2), σ) ∧ (v2 = 0 ∨ v2 = 1) ∧ (v2 = 1 → ∃ i, 0 ≤ i ∧ i < m ∧ σ 188 i = b) := by
  intro k
  induction k with
  | zero =>
    intro j v h0 h1 hv hv1
    have hj : j = m := by omega
    refine ⟨v, ?_, hv, hv1⟩
    clear hv1 hO h1
    rw [bk_146_1]
    repeat' (first | (simp (disch := first | assumption | exact Nat.le_of_ble_eq_true rfl | omega) only [bk_146_0, eo_6, eo_3_2n, eo_3_2i, eo_3_2r, eo_3_3n, eo_3_3i, eo_3_3r, eo_53, eo_0_3, eo_1_0, g11_27, eo_0_2, g11_28_7, eo_0_1, bk_146_2, eo_52, bk_146_3, bk_146_4, eo_23_3n, eo_23_3i, eo_23_3r, bk_146_5, eo_56z, a32_188, hm, Int.add_zero, Int.add_sub_cancel, Int.reduceAdd, Int.reduceMul, Int.reduceSub, Int.reduceNeg, ev_wr_id]) | ((first | with_reducible refine br_40 ?_ ?_ | with_reducible refine br_41 ?_ ?_ | with_reducible refine br_42 ?_ ?_ | with_reducible refine br_43 ?_ ?_ | with_reducible refine br_44 ?_ ?_ | with_reducible refine br_45 ?_ ?_ | with_reducible refine br_46 ?_ ?_ | with_reducible refine br_47 ?_ ?_ | with_reducible refine br_48 ?_ ?_ | with_reducible refine br_49 ?_ ?_ | with_reducible refine br_50 ?_ ?_ | with_reducible refine br_51 ?_ ?_) <;> intro h <;> try simp (disch := first | assumption | exact Nat.le_of_ble_eq_true rfl | omega) only [ev_wr_id, not_true_eq_false, not_false_eq_true, Int.reduceEq, Int.reduceLT, Int.reduceLE, and_self, and_true, true_and, and_false, false_and, reduceIte] at h <;> try (exfalso; omega; done)))
  | succ k ih =>
    intro j v h0 h1 hv hv1
    have ho := hO j h0 (by omega)
    have hjm : j < m := by omega
    by_cases c1 : v = 1 ∨ σ 188 j = b
    · obtain ⟨v2, e, h⟩ := ih (j + 1) 1 (by omega) (by omega) (Or.inr rfl) (fun _ => by
        rcases c1 with q | q
        · exact hv1 q
        · exact ⟨j, h0, hjm, q⟩)
      refine ⟨v2, ?_, h⟩
      rw [← e]
      clear e h ih hv1 hO h1
      rw [bk_146_1]
      repeat' (first | (simp (disch := first | assumption | exact Nat.le_of_ble_eq_true rfl | omega) only [bk_146_0, eo_6, eo_3_2n, eo_3_2i, eo_3_2r, eo_3_3n, eo_3_3i, eo_3_3r, eo_53, eo_0_3, eo_1_0, g11_27, eo_0_2, g11_28_7, eo_0_1, bk_146_2, eo_52, bk_146_3, bk_146_4, eo_23_3n, eo_23_3i, eo_23_3r, bk_146_5, eo_56z, a32_188, hm, Int.add_zero, Int.add_sub_cancel, Int.reduceAdd, Int.reduceMul, Int.reduceSub, Int.reduceNeg, ev_wr_id]) | ((first | with_reducible refine br_40 ?_ ?_ | with_reducible refine br_41 ?_ ?_ | with_reducible refine br_42 ?_ ?_ | with_reducible refine br_43 ?_ ?_ | with_reducible refine br_44 ?_ ?_ | with_reducible refine br_45 ?_ ?_ | with_reducible refine br_46 ?_ ?_ | with_reducible refine br_47 ?_ ?_ | with_reducible refine br_48 ?_ ?_ | with_reducible refine br_49 ?_ ?_ | with_reducible refine br_50 ?_ ?_ | with_reducible refine br_51 ?_ ?_) <;> intro h <;> try simp (disch := first | assumption | exact Nat.le_of_ble_eq_true rfl | omega) only [ev_wr_id, not_true_eq_false, not_false_eq_true, Int.reduceEq, Int.reduceLT, Int.reduceLE, and_self, and_true, true_and, and_false, false_and, reduceIte] at h <;> try (exfalso; omega; done)))
    · have c2 : v = 0 ∧ σ 188 j ≠ b := ⟨hv.resolve_right (fun q => c1 (Or.inl q)), fun q => c1 (Or.inr q)⟩
      obtain ⟨v2, e, h⟩ := ih (j + 1) 0 (by omega) (by omega) (Or.inl rfl) (fun q => by omega)
      refine ⟨v2, ?_, h⟩
      rw [← e]
      clear e h ih hv1 hO h1
      rw [bk_146_1]
      repeat' (first | (simp (disch := first | assumption | exact Nat.le_of_ble_eq_true rfl | omega) only [bk_146_0, eo_6, eo_3_2n, eo_3_2i, eo_3_2r, eo_3_3n, eo_3_3i, eo_3_3r, eo_53, eo_0_3, eo_1_0, g11_27, eo_0_2, g11_28_7, eo_0_1, bk_146_2, eo_52, bk_146_3, bk_146_4, eo_23_3n, eo_23_3i, eo_23_3r, bk_146_5, eo_56z, a32_188, hm, Int.add_zero, Int.add_sub_cancel, Int.reduceAdd, Int.reduceMul, Int.reduceSub, Int.reduceNeg, ev_wr_id]) | ((first | with_reducible refine br_40 ?_ ?_ | with_reducible refine br_41 ?_ ?_ | with_reducible refine br_42 ?_ ?_ | with_reducible refine br_43 ?_ ?_ | with_reducible refine br_44 ?_ ?_ | with_reducible refine br_45 ?_ ?_ | with_reducible refine br_46 ?_ ?_ | with_reducible refine br_47 ?_ ?_ | with_reducible refine br_48 ?_ ?_ | with_reducible refine br_49 ?_ ?_ | with_reducible refine br_50 ?_ ?_ | with_reducible refine br_51 ?_ ?_) <;> intro h <;> try simp (disch := first | assumption | exact Nat.le_of_ble_eq_true rfl | omega) only [ev_wr_id, not_true_eq_false, not_false_eq_true, Int.reduceEq, Int.reduceLT, Int.reduceLE, and_self, and_true, true_and, and_false, false_and, reduceIte] at h <;> try (exfalso; omega; done)))
theorem c_146 {σ : ev_M} {b m : Int} (hb : 0 ≤ b ∧ b < 6) (hm : σ 182 6 = m) (hm6 : 0 ≤ m ∧ m ≤ 6) (hO : ∀ j, 0 ≤ j → j < m → (0 ≤ σ 188 j ∧ σ 188 j < 6) ∧ σ 188 j ≠ b) : EM 146 [.inr (.inl 182), .inl b] σ = some (some (.inl 0), σ) := by
  obtain ⟨v, e, hv, h⟩ := l_146 (σ := σ) hb hm hm6 (fun j h0 h1 => (hO j h0 h1).1) m.toNat 0 0 (by omega) (by omega) (Or.inl rfl) (fun q => by omega)
  have hv0 : v = 0 := by
    rcases hv with q | q
    · exact q
    · obtain ⟨i, i0, i1, i2⟩ := h q
      exact absurd i2 (hO i i0 i1).2
  rw [hv0] at e
  rw [mm_146]
  repeat' (first | (simp (disch := first | assumption | exact Nat.le_of_ble_eq_true rfl | omega) only [bk_146_0, eo_6, eo_3_2n, eo_3_2i, eo_3_2r, eo_3_3n, eo_3_3i, eo_3_3r, eo_53, eo_0_3, eo_1_0, g11_27, eo_0_2, g11_28_7, eo_0_1, bk_146_2, eo_52, bk_146_3, bk_146_4, eo_23_3n, eo_23_3i, eo_23_3r, bk_146_5, eo_56z, a32_188, Int.add_zero, Int.add_sub_cancel, Int.reduceAdd, Int.reduceMul, Int.reduceSub, Int.reduceNeg, ev_wr_id]) | ((first | with_reducible refine br_40 ?_ ?_ | with_reducible refine br_41 ?_ ?_ | with_reducible refine br_42 ?_ ?_ | with_reducible refine br_43 ?_ ?_ | with_reducible refine br_44 ?_ ?_ | with_reducible refine br_45 ?_ ?_ | with_reducible refine br_46 ?_ ?_ | with_reducible refine br_47 ?_ ?_ | with_reducible refine br_48 ?_ ?_ | with_reducible refine br_49 ?_ ?_ | with_reducible refine br_50 ?_ ?_ | with_reducible refine br_51 ?_ ?_) <;> intro h <;> try simp (disch := first | assumption | exact Nat.le_of_ble_eq_true rfl | omega) only [ev_wr_id, not_true_eq_false, not_false_eq_true, Int.reduceEq, Int.reduceLT, Int.reduceLE, and_self, and_true, true_and, and_false, false_and, reduceIte] at h <;> try (exfalso; omega; done)))
  exact e
/-- the nearest above b -/
def st_nq (T G : Int → Int) (b c : Int) : Prop := (c = -1 ∧ ∀ d, b < d → ¬ st_cb T G d) ∨ ((st_cb T G c ∧ b < c) ∧ ∀ d, b < d → st_cb T G d → G (st_sn T G c) ≤ G (st_sn T G d) ∧ (d < c → G (st_sn T G c) < G (st_sn T G d)))
theorem l_147s {σ : ev_M} {st hr x h m : Int} {T G : Int → Int} (h183 : σ 183 = T) (hI : st_I T) (hm : σ 182 6 = m) (hm6 : 0 ≤ m ∧ m ≤ 6) (hO : ∀ j, 0 ≤ j → j < m → (0 ≤ σ 188 j ∧ σ 188 j < 6) ∧ st_due T (σ 188 j) = 0) (hG : st_fG (σ 186) G) : ∀ (k : Nat) (b c : Int) (p8 : Option ev_V), b + 1 = k → b < T 2 → st_nq T G b c → ∃ c2 q8, EB 147 2 [some (.inr (.inl 182)), some (.inl st), some (.inl hr), some (.inl x), some (.inl h), some (.inl 1), some (.inl c), some (.inl b), p8] [] σ = EB 147 8 [some (.inr (.inl 182)), some (.inl st), some (.inl hr), some (.inl x), some (.inl h), some (.inl 1), some (.inl c2), some (.inl (-1)), q8] [] σ ∧ st_nq T G (-1) c2 := by
  have i2 := hI.1.2.2.1
  intro k
  induction k with
  | zero =>
    intro b c p8 hb h1 hc
    obtain rfl : b = -1 := by omega
    refine ⟨c, p8, ?_, hc⟩
    clear hO hG hc h1 hb
    rw [bk_147_2]
    repeat' (first | (simp (disch := first | assumption | exact Nat.le_of_ble_eq_true rfl | omega) only [bk_147_0, eo_1_0, eo_6, g11_30, eo_0_1, eo_3_3n, eo_3_3i, eo_3_3r, eo_0_2, eo_3_4n, eo_3_4i, eo_3_4r, eo_3_5n, eo_3_5i, eo_3_5r, eo_53, eo_0_5, eo_0_3, v11_4, ev_ki, ev_kv, eo_3_6n, eo_3_6i, eo_3_6r, g11_28_0, eo_11, eo_3_7n, eo_3_7i, eo_3_7r, eo_0_7, v11_2, g11_28_4, eo_52, bk_147_3, bk_147_4, eo_3_8n, eo_3_8i, eo_3_8r, eo_0_8, eo_0_6, bk_147_5, bk_147_6, bk_147_7, eo_23_7n, eo_23_7i, eo_23_7r, bk_147_9, eo_10, eo_13d, ev_div_id, bk_147_10, eo_0_4, bk_147_11, bk_147_12, g11_28_7, g11_27, eo_24i, eo_24r, bk_147_13, bk_147_14, eo_58, a32_183, a33_183, a32_186, a33_186, a32_188, a33_188, Int.add_zero, Int.add_sub_cancel, Int.reduceAdd, Int.reduceMul, Int.reduceSub, Int.reduceNeg, ev_wr_id]) | ((first | with_reducible refine br_40 ?_ ?_ | with_reducible refine br_41 ?_ ?_ | with_reducible refine br_42 ?_ ?_ | with_reducible refine br_43 ?_ ?_ | with_reducible refine br_44 ?_ ?_ | with_reducible refine br_45 ?_ ?_ | with_reducible refine br_46 ?_ ?_ | with_reducible refine br_47 ?_ ?_ | with_reducible refine br_48 ?_ ?_ | with_reducible refine br_49 ?_ ?_ | with_reducible refine br_50 ?_ ?_ | with_reducible refine br_51 ?_ ?_) <;> intro h <;> try simp (disch := first | assumption | exact Nat.le_of_ble_eq_true rfl | omega) only [ev_wr_id, not_true_eq_false, not_false_eq_true, Int.reduceEq, Int.reduceLT, Int.reduceLE, and_self, and_true, true_and, and_false, false_and, reduceIte] at h <;> try (exfalso; omega; done)))
  | succ k ih =>
    intro b c p8 hb h1 hc
    have hbr : 0 ≤ b ∧ b < T 2 := by omega
    have e119 := e_119 (σ := σ) (b := b) (by rw [h183]; exact hI) (by rw [h183]; exact hbr)
    obtain ⟨e, e145, he1, he2⟩ := c_145 (σ := σ) (b := b) (G := G) (by rw [h183]; exact hI) (by rw [h183]; exact hbr) hG
    rw [h183] at e119 he2
    have hb6 : 0 ≤ b ∧ b < 6 := by omega
    have skip : ¬ st_cb T G b → st_nq T G (b + -1) c := by
      intro hn
      rcases hc with ⟨q1, q2⟩ | ⟨q1, q2⟩
      · refine Or.inl ⟨q1, fun d hd hcd => ?_⟩
        by_cases z : d = b
        · rw [z] at hcd
          exact hn hcd
        · exact q2 d (by omega) hcd
      · refine Or.inr ⟨⟨q1.1, by omega⟩, fun d hd hcd => ?_⟩
        by_cases z : d = b
        · rw [z] at hcd
          exact absurd hcd hn
        · exact q2 d (by omega) hcd
    rcases st_due_in T b with hd | hd
    · obtain ⟨c2, q8, ex, h⟩ := ih (b + -1) c (some (.inl 0)) (by omega) (by omega) (skip (fun q => by have := q.2.1; omega))
      refine ⟨c2, q8, ?_, h⟩
      rw [← ex]
      rw [hd] at e119
      clear ex h ih skip hO hG hc h1 hb he2 hd
      rw [bk_147_2]
      repeat' (first | (simp (disch := first | assumption | exact Nat.le_of_ble_eq_true rfl | omega) only [bk_147_0, eo_1_0, eo_6, g11_30, eo_0_1, eo_3_3n, eo_3_3i, eo_3_3r, eo_0_2, eo_3_4n, eo_3_4i, eo_3_4r, eo_3_5n, eo_3_5i, eo_3_5r, eo_53, eo_0_5, eo_0_3, v11_4, ev_ki, ev_kv, eo_3_6n, eo_3_6i, eo_3_6r, g11_28_0, eo_11, eo_3_7n, eo_3_7i, eo_3_7r, eo_0_7, v11_2, g11_28_4, eo_52, bk_147_3, bk_147_4, eo_3_8n, eo_3_8i, eo_3_8r, eo_0_8, eo_0_6, bk_147_5, bk_147_6, bk_147_7, eo_23_7n, eo_23_7i, eo_23_7r, bk_147_9, eo_10, eo_13d, ev_div_id, bk_147_10, eo_0_4, bk_147_11, bk_147_12, g11_28_7, g11_27, eo_24i, eo_24r, bk_147_13, bk_147_14, eo_58, a32_183, a33_183, a32_186, a33_186, a32_188, a33_188, e119, Int.add_zero, Int.add_sub_cancel, Int.reduceAdd, Int.reduceMul, Int.reduceSub, Int.reduceNeg, ev_wr_id]) | ((first | with_reducible refine br_40 ?_ ?_ | with_reducible refine br_41 ?_ ?_ | with_reducible refine br_42 ?_ ?_ | with_reducible refine br_43 ?_ ?_ | with_reducible refine br_44 ?_ ?_ | with_reducible refine br_45 ?_ ?_ | with_reducible refine br_46 ?_ ?_ | with_reducible refine br_47 ?_ ?_ | with_reducible refine br_48 ?_ ?_ | with_reducible refine br_49 ?_ ?_ | with_reducible refine br_50 ?_ ?_ | with_reducible refine br_51 ?_ ?_) <;> intro h <;> try simp (disch := first | assumption | exact Nat.le_of_ble_eq_true rfl | omega) only [ev_wr_id, not_true_eq_false, not_false_eq_true, Int.reduceEq, Int.reduceLT, Int.reduceLE, and_self, and_true, true_and, and_false, false_and, reduceIte] at h <;> try (exfalso; omega; done)))
    · have e146 := c_146 (σ := σ) (b := b) (m := m) hb6 hm hm6 (fun j h0 h1 => ⟨(hO j h0 h1).1, fun q => by
        have := (hO j h0 h1).2
        rw [q] at this
        omega⟩)
      rw [hd] at e119
      rcases he2 with ⟨g1, g2⟩ | ⟨g1, g2, g3, g4, g5⟩
      · obtain ⟨c2, q8, ex, h⟩ := ih (b + -1) c (some (.inl 0)) (by omega) (by omega) (skip (fun q => by have := q.2.2; omega))
        refine ⟨c2, q8, ?_, h⟩
        rw [← ex]
        clear ex h ih skip hO hG hc h1 hb hd g1
        rw [bk_147_2]
        repeat' (first | (simp (disch := first | assumption | exact Nat.le_of_ble_eq_true rfl | omega) only [bk_147_0, eo_1_0, eo_6, g11_30, eo_0_1, eo_3_3n, eo_3_3i, eo_3_3r, eo_0_2, eo_3_4n, eo_3_4i, eo_3_4r, eo_3_5n, eo_3_5i, eo_3_5r, eo_53, eo_0_5, eo_0_3, v11_4, ev_ki, ev_kv, eo_3_6n, eo_3_6i, eo_3_6r, g11_28_0, eo_11, eo_3_7n, eo_3_7i, eo_3_7r, eo_0_7, v11_2, g11_28_4, eo_52, bk_147_3, bk_147_4, eo_3_8n, eo_3_8i, eo_3_8r, eo_0_8, eo_0_6, bk_147_5, bk_147_6, bk_147_7, eo_23_7n, eo_23_7i, eo_23_7r, bk_147_9, eo_10, eo_13d, ev_div_id, bk_147_10, eo_0_4, bk_147_11, bk_147_12, g11_28_7, g11_27, eo_24i, eo_24r, bk_147_13, bk_147_14, eo_58, a32_183, a33_183, a32_186, a33_186, a32_188, a33_188, e119, e146, e145, g2, Int.add_zero, Int.add_sub_cancel, Int.reduceAdd, Int.reduceMul, Int.reduceSub, Int.reduceNeg, ev_wr_id]) | ((first | with_reducible refine br_40 ?_ ?_ | with_reducible refine br_41 ?_ ?_ | with_reducible refine br_42 ?_ ?_ | with_reducible refine br_43 ?_ ?_ | with_reducible refine br_44 ?_ ?_ | with_reducible refine br_45 ?_ ?_ | with_reducible refine br_46 ?_ ?_ | with_reducible refine br_47 ?_ ?_ | with_reducible refine br_48 ?_ ?_ | with_reducible refine br_49 ?_ ?_ | with_reducible refine br_50 ?_ ?_ | with_reducible refine br_51 ?_ ?_) <;> intro h <;> try simp (disch := first | assumption | exact Nat.le_of_ble_eq_true rfl | omega) only [ev_wr_id, not_true_eq_false, not_false_eq_true, Int.reduceEq, Int.reduceLT, Int.reduceLE, and_self, and_true, true_and, and_false, false_and, reduceIte] at h <;> try (exfalso; omega; done)))
      · have hcb : st_cb T G b := ⟨hbr, hd, g1⟩
        have g6 : σ 186 e ≠ -1 := by omega
        rcases hc with ⟨q1, q2⟩ | ⟨q1, q2⟩
        · obtain ⟨c2, q8, ex, h⟩ := ih (b + -1) b (some (.inl 1)) (by omega) (by omega) (Or.inr ⟨⟨hcb, by omega⟩, fun d hd2 hcd => by
            by_cases z : d = b
            · rw [z]
              exact ⟨Int.le_refl _, fun q => by omega⟩
            · exact absurd hcd (q2 d (by omega))⟩)
          refine ⟨c2, q8, ?_, h⟩
          rw [← ex, q1]
          clear ex h ih skip hO hG h1 hb hd g1 g2 g3 q2 q1 hcb
          rw [bk_147_2]
          repeat' (first | (simp (disch := first | assumption | exact Nat.le_of_ble_eq_true rfl | omega) only [bk_147_0, eo_1_0, eo_6, g11_30, eo_0_1, eo_3_3n, eo_3_3i, eo_3_3r, eo_0_2, eo_3_4n, eo_3_4i, eo_3_4r, eo_3_5n, eo_3_5i, eo_3_5r, eo_53, eo_0_5, eo_0_3, v11_4, ev_ki, ev_kv, eo_3_6n, eo_3_6i, eo_3_6r, g11_28_0, eo_11, eo_3_7n, eo_3_7i, eo_3_7r, eo_0_7, v11_2, g11_28_4, eo_52, bk_147_3, bk_147_4, eo_3_8n, eo_3_8i, eo_3_8r, eo_0_8, eo_0_6, bk_147_5, bk_147_6, bk_147_7, eo_23_7n, eo_23_7i, eo_23_7r, bk_147_9, eo_10, eo_13d, ev_div_id, bk_147_10, eo_0_4, bk_147_11, bk_147_12, g11_28_7, g11_27, eo_24i, eo_24r, bk_147_13, bk_147_14, eo_58, a32_183, a33_183, a32_186, a33_186, a32_188, a33_188, e119, e146, e145, Int.add_zero, Int.add_sub_cancel, Int.reduceAdd, Int.reduceMul, Int.reduceSub, Int.reduceNeg, ev_wr_id]) | ((first | with_reducible refine br_40 ?_ ?_ | with_reducible refine br_41 ?_ ?_ | with_reducible refine br_42 ?_ ?_ | with_reducible refine br_43 ?_ ?_ | with_reducible refine br_44 ?_ ?_ | with_reducible refine br_45 ?_ ?_ | with_reducible refine br_46 ?_ ?_ | with_reducible refine br_47 ?_ ?_ | with_reducible refine br_48 ?_ ?_ | with_reducible refine br_49 ?_ ?_ | with_reducible refine br_50 ?_ ?_ | with_reducible refine br_51 ?_ ?_) <;> intro h <;> try simp (disch := first | assumption | exact Nat.le_of_ble_eq_true rfl | omega) only [ev_wr_id, not_true_eq_false, not_false_eq_true, Int.reduceEq, Int.reduceLT, Int.reduceLE, and_self, and_true, true_and, and_false, false_and, reduceIte] at h <;> try (exfalso; omega; done)))
        · have hcr := q1.1.1
          obtain ⟨e2, e145c, he3, he4⟩ := c_145 (σ := σ) (b := c) (G := G) (by rw [h183]; exact hI) (by rw [h183]; exact hcr) hG
          rw [h183] at he4
          have hgc := q1.1.2.2
          rcases he4 with ⟨j1, j2⟩ | ⟨j1, j2, j3, j4, j5⟩
          · omega
          · have hcm : c ≠ -1 ∧ -1 ≤ c ∧ c < 6 := by omega
            by_cases c5 : G (st_sn T G b) ≤ G (st_sn T G c)
            · obtain ⟨c2, q8, ex, h⟩ := ih (b + -1) b (some (.inl 1)) (by omega) (by omega) (Or.inr ⟨⟨hcb, by omega⟩, fun d hd2 hcd => by
                by_cases z : d = b
                · rw [z]
                  exact ⟨Int.le_refl _, fun q => by omega⟩
                · have := (q2 d (by omega) hcd).1
                  exact ⟨by omega, fun q => by omega⟩⟩)
              refine ⟨c2, q8, ?_, h⟩
              rw [← ex]
              have c6 : σ 186 e ≤ σ 186 e2 := by omega
              clear ex h ih skip hO hG h1 hb hd g1 g2 g3 q2 q1 hcb j1 j2 j3 c5
              rw [bk_147_2]
              repeat' (first | (simp (disch := first | assumption | exact Nat.le_of_ble_eq_true rfl | omega) only [bk_147_0, eo_1_0, eo_6, g11_30, eo_0_1, eo_3_3n, eo_3_3i, eo_3_3r, eo_0_2, eo_3_4n, eo_3_4i, eo_3_4r, eo_3_5n, eo_3_5i, eo_3_5r, eo_53, eo_0_5, eo_0_3, v11_4, ev_ki, ev_kv, eo_3_6n, eo_3_6i, eo_3_6r, g11_28_0, eo_11, eo_3_7n, eo_3_7i, eo_3_7r, eo_0_7, v11_2, g11_28_4, eo_52, bk_147_3, bk_147_4, eo_3_8n, eo_3_8i, eo_3_8r, eo_0_8, eo_0_6, bk_147_5, bk_147_6, bk_147_7, eo_23_7n, eo_23_7i, eo_23_7r, bk_147_9, eo_10, eo_13d, ev_div_id, bk_147_10, eo_0_4, bk_147_11, bk_147_12, g11_28_7, g11_27, eo_24i, eo_24r, bk_147_13, bk_147_14, eo_58, a32_183, a33_183, a32_186, a33_186, a32_188, a33_188, e119, e146, e145, e145c, Int.add_zero, Int.add_sub_cancel, Int.reduceAdd, Int.reduceMul, Int.reduceSub, Int.reduceNeg, ev_wr_id]) | ((first | with_reducible refine br_40 ?_ ?_ | with_reducible refine br_41 ?_ ?_ | with_reducible refine br_42 ?_ ?_ | with_reducible refine br_43 ?_ ?_ | with_reducible refine br_44 ?_ ?_ | with_reducible refine br_45 ?_ ?_ | with_reducible refine br_46 ?_ ?_ | with_reducible refine br_47 ?_ ?_ | with_reducible refine br_48 ?_ ?_ | with_reducible refine br_49 ?_ ?_ | with_reducible refine br_50 ?_ ?_ | with_reducible refine br_51 ?_ ?_) <;> intro h <;> try simp (disch := first | assumption | exact Nat.le_of_ble_eq_true rfl | omega) only [ev_wr_id, not_true_eq_false, not_false_eq_true, Int.reduceEq, Int.reduceLT, Int.reduceLE, and_self, and_true, true_and, and_false, false_and, reduceIte] at h <;> try (exfalso; omega; done)))
            · obtain ⟨c2, q8, ex, h⟩ := ih (b + -1) c (some (.inl 1)) (by omega) (by omega) (Or.inr ⟨⟨q1.1, by omega⟩, fun d hd2 hcd => by
                by_cases z : d = b
                · rw [z]
                  exact ⟨by omega, fun q => by omega⟩
                · exact q2 d (by omega) hcd⟩)
              refine ⟨c2, q8, ?_, h⟩
              rw [← ex]
              have c6 : ¬ σ 186 e ≤ σ 186 e2 := by omega
              clear ex h ih skip hO hG h1 hb hd g1 g2 g3 q2 q1 hcb j1 j2 j3 c5
              rw [bk_147_2]
              repeat' (first | (simp (disch := first | assumption | exact Nat.le_of_ble_eq_true rfl | omega) only [bk_147_0, eo_1_0, eo_6, g11_30, eo_0_1, eo_3_3n, eo_3_3i, eo_3_3r, eo_0_2, eo_3_4n, eo_3_4i, eo_3_4r, eo_3_5n, eo_3_5i, eo_3_5r, eo_53, eo_0_5, eo_0_3, v11_4, ev_ki, ev_kv, eo_3_6n, eo_3_6i, eo_3_6r, g11_28_0, eo_11, eo_3_7n, eo_3_7i, eo_3_7r, eo_0_7, v11_2, g11_28_4, eo_52, bk_147_3, bk_147_4, eo_3_8n, eo_3_8i, eo_3_8r, eo_0_8, eo_0_6, bk_147_5, bk_147_6, bk_147_7, eo_23_7n, eo_23_7i, eo_23_7r, bk_147_9, eo_10, eo_13d, ev_div_id, bk_147_10, eo_0_4, bk_147_11, bk_147_12, g11_28_7, g11_27, eo_24i, eo_24r, bk_147_13, bk_147_14, eo_58, a32_183, a33_183, a32_186, a33_186, a32_188, a33_188, e119, e146, e145, e145c, Int.add_zero, Int.add_sub_cancel, Int.reduceAdd, Int.reduceMul, Int.reduceSub, Int.reduceNeg, ev_wr_id]) | ((first | with_reducible refine br_40 ?_ ?_ | with_reducible refine br_41 ?_ ?_ | with_reducible refine br_42 ?_ ?_ | with_reducible refine br_43 ?_ ?_ | with_reducible refine br_44 ?_ ?_ | with_reducible refine br_45 ?_ ?_ | with_reducible refine br_46 ?_ ?_ | with_reducible refine br_47 ?_ ?_ | with_reducible refine br_48 ?_ ?_ | with_reducible refine br_49 ?_ ?_ | with_reducible refine br_50 ?_ ?_ | with_reducible refine br_51 ?_ ?_) <;> intro h <;> try simp (disch := first | assumption | exact Nat.le_of_ble_eq_true rfl | omega) only [ev_wr_id, not_true_eq_false, not_false_eq_true, Int.reduceEq, Int.reduceLT, Int.reduceLE, and_self, and_true, true_and, and_false, false_and, reduceIte] at h <;> try (exfalso; omega; done)))
theorem st_nq_np {T G : Int → Int} {c : Int} (h : st_nq T G (-1) c) : st_np T G (T 2) c := by
  rcases h with ⟨q1, q2⟩ | ⟨q1, q2⟩
  · exact Or.inl ⟨q1, fun b _ hb => q2 b (by have := hb.1.1; omega) hb⟩
  · exact Or.inr ⟨⟨q1.1, q1.1.1.2⟩, fun b _ hb => q2 b (by have := hb.1.1; omega) hb⟩
/-- an iteration's head: the nearest -/
theorem l_147h {σ : ev_M} {st hr x h m : Int} {T : Int → Int} {p6 p7 p8 : Option ev_V} (h183 : σ 183 = T) (hI : st_I T) (a8 : ∀ r, 0 ≤ r → r ≤ 9 → σ 184 r = ev_ps r) (hx : 0 ≤ x ∧ x < T 0) (hm : σ 182 6 = m) (hm6 : 0 ≤ m ∧ m ≤ 6) (hO : ∀ j, 0 ≤ j → j < m → (0 ≤ σ 188 j ∧ σ 188 j < 6) ∧ st_due T (σ 188 j) = 0) : ∃ f d q8, EB 147 1 [some (.inr (.inl 182)), some (.inl st), some (.inl hr), some (.inl x), some (.inl h), some (.inl 1), p6, p7, p8] [] σ = EB 147 8 [some (.inr (.inl 182)), some (.inl st), some (.inl hr), some (.inl x), some (.inl h), some (.inl 1), some (.inl (st_nb T (st_Gs T 12 (-1) x))), some (.inl (-1)), q8] [] (st_dd σ f d) ∧ st_fG f (st_Gs T 12 (-1) x) ∧ st_np T (st_Gs T 12 (-1) x) (T 2) (st_nb T (st_Gs T 12 (-1) x)) := by
  have i2 := hI.1.2.2.1
  obtain ⟨f, d, e144, hsp, hr2⟩ := c_144 (σ := σ) (s := x) (w := 12) (o := -1) (by rw [h183]; exact hI) a8 (by rw [h183]; exact hx) (by omega) (by omega)
  rw [h183] at hsp
  have hsp2 := st_Gs_sp (w := 12) (o := -1) hI hx (by omega) (by omega)
  have hfG : st_fG f (st_Gs T 12 (-1) x) := fun y y0 y1 => by
    have q := st_sp_u hI hsp2 hsp y y0 y1
    have := st_fg q (hr2 y y0 y1)
    omega
  have m183 : st_dd σ f d 183 = T := by rw [st_dd_o (by omega)]; exact h183
  obtain ⟨c2, q8, e, hc⟩ := l_147s (σ := st_dd σ f d) (st := st) (hr := hr) (x := x) (h := h) (m := m) (T := T) (G := st_Gs T 12 (-1) x) m183 hI (by rw [st_dd_o (by omega)]; exact hm) hm6 (by rw [st_dd_o (by omega)]; exact hO) (by rw [st_dd_1]; exact hfG) (T 2).toNat (T 2 - 1) (-1) p8 (by omega) (by omega) (Or.inl ⟨rfl, fun b hb hcb => by have := hcb.1.2; omega⟩)
  have hnp := st_nq_np hc
  have hcc := st_nb_e hnp
  rw [hcc]
  refine ⟨f, d, q8, ?_, hfG, hnp⟩
  rw [← e]
  have s2 := congrFun m183 2
  clear e hc hnp hcc hfG hsp2 hsp hr2 hO hI a8
  rw [bk_147_1]
  repeat' (first | (simp (disch := first | assumption | exact Nat.le_of_ble_eq_true rfl | omega) only [bk_147_0, eo_1_0, eo_6, g11_30, eo_0_1, eo_3_3n, eo_3_3i, eo_3_3r, eo_0_2, eo_3_4n, eo_3_4i, eo_3_4r, eo_3_5n, eo_3_5i, eo_3_5r, eo_53, eo_0_5, eo_0_3, v11_4, ev_ki, ev_kv, eo_3_6n, eo_3_6i, eo_3_6r, g11_28_0, eo_11, eo_3_7n, eo_3_7i, eo_3_7r, eo_0_7, v11_2, g11_28_4, eo_52, bk_147_3, bk_147_4, eo_3_8n, eo_3_8i, eo_3_8r, eo_0_8, eo_0_6, bk_147_5, bk_147_6, bk_147_7, eo_23_7n, eo_23_7i, eo_23_7r, bk_147_8, bk_147_9, eo_10, eo_13d, ev_div_id, bk_147_10, eo_0_4, bk_147_11, bk_147_12, g11_28_7, g11_27, eo_24i, eo_24r, bk_147_13, bk_147_14, eo_58, a32_183, a33_183, a32_186, a33_186, a32_188, a33_188, e144, s2, Int.add_zero, Int.add_sub_cancel, Int.reduceAdd, Int.reduceMul, Int.reduceSub, Int.reduceNeg, ev_wr_id]) | ((first | with_reducible refine br_40 ?_ ?_ | with_reducible refine br_41 ?_ ?_ | with_reducible refine br_42 ?_ ?_ | with_reducible refine br_43 ?_ ?_ | with_reducible refine br_44 ?_ ?_ | with_reducible refine br_45 ?_ ?_ | with_reducible refine br_46 ?_ ?_ | with_reducible refine br_47 ?_ ?_ | with_reducible refine br_48 ?_ ?_ | with_reducible refine br_49 ?_ ?_ | with_reducible refine br_50 ?_ ?_ | with_reducible refine br_51 ?_ ?_) <;> intro h <;> try simp (disch := first | assumption | exact Nat.le_of_ble_eq_true rfl | omega) only [ev_wr_id, not_true_eq_false, not_false_eq_true, Int.reduceEq, Int.reduceLT, Int.reduceLE, and_self, and_true, true_and, and_false, false_and, reduceIte] at h <;> try (exfalso; omega; done)))
theorem st_look_due {T : Int → Int} {b c : Int} (hI : st_I T) (hb : 0 ≤ b ∧ b < T 2) (hc : 0 ≤ c ∧ c < 6) (h : c = b ∨ st_due T c = 0) : st_due (st_look T b) c = 0 := by
  have i2 := hI.1.2.2.1
  have e5 : st_look T b 5 = T 5 := st_look_ne hb.1 (by omega)
  by_cases x : c = b
  · have e1 : st_look T b (89 + 5 * c + 3) = T 5 := by
      rw [x]
      unfold st_look
      rw [ev_u1_ne (by omega), ev_u1_ne (by omega), ev_u1_eq (by omega)]
    unfold st_due
    rw [e1, e5]
    apply if_neg
    split
    · omega
    · split <;> omega
  · have e1 : st_look T b (89 + 5 * c + 3) = T (89 + 5 * c + 3) := by
      unfold st_look
      rw [ev_u1_ne (by omega), ev_u1_ne (by omega), ev_u1_ne (by omega), ev_u1_ne (by omega)]
    have e2 : st_look T b (89 + 5 * c + 2) = T (89 + 5 * c + 2) := by
      unfold st_look
      rw [ev_u1_ne (by omega), ev_u1_ne (by omega), ev_u1_ne (by omega), ev_u1_ne (by omega)]
    have h2 := h.resolve_left x
    unfold st_due at h2 ⊢
    rw [e1, e2, e5]
    exact h2
def st_nd0 (T : Int → Int) (b : Int) : Prop := (0 ≤ b ∧ b < T 2) ∧ st_due T b = 0
theorem l_147 {st hr : Int} : ∀ (k : Nat) (T : Int → Int) (x h m : Int) (O : Int → Int) (σ : ev_M) (p6 p7 p8 : Option ev_V), 0 ≤ m → m + k = 6 → σ 183 = T → st_I T → (∀ r, 0 ≤ r → r ≤ 9 → σ 184 r = ev_ps r) → (0 ≤ x ∧ x < T 0) → (0 ≤ h ∧ h ≤ 200) → σ 182 6 = m → (∀ j, 0 ≤ j → j < m → σ 188 j = O j) → (∀ j, 0 ≤ j → j < m → (0 ≤ O j ∧ O j < 6) ∧ st_due T (O j) = 0) → m ≤ ev_nu (st_nd0 T) 6 → ∃ σ1, EB 147 1 [some (.inr (.inl 182)), some (.inl st), some (.inl hr), some (.inl x), some (.inl h), some (.inl 1), p6, p7, p8] [] σ = some (none, σ1) ∧ (∀ i, i ≠ 182 → i ≠ 183 → i ≠ 185 → i ≠ 186 → i ≠ 187 → i ≠ 188 → σ1 i = σ i) ∧ (∀ y, y ≠ 6 → σ1 182 y = σ 182 y) ∧ (∀ q, 338 ≤ q → σ1 183 q = T q) ∧ σ1 183 = (st_run k T x h m O).1 ∧ σ1 182 6 = (st_run k T x h m O).2.1 ∧ ∀ j, 0 ≤ j → j < (st_run k T x h m O).2.1 → σ1 188 j = (st_run k T x h m O).2.2 j := by
  intro k
  induction k with
  | zero =>
    intro T x h m O σ p6 p7 p8 hm0 hm h183 hI a8 hx hh h182 h188 hO hnu
    have i2 := hI.1.2.2.1
    obtain ⟨f, d, q8, e1, hfG, hnp⟩ := l_147h (st := st) (hr := hr) (x := x) (h := h) (m := m) (p6 := p6) (p7 := p7) (p8 := p8) h183 hI a8 hx h182 (by omega) (fun j h0 h1 => by rw [h188 j h0 h1]; exact hO j h0 h1)
    obtain ⟨c, hc⟩ : ∃ c, c = st_nb T (st_Gs T 12 (-1) x) := ⟨_, rfl⟩
    rw [← hc] at e1 hnp
    have c1 : c = -1 := by
      rcases hnp with q | ⟨q, -⟩
      · exact q.1
      · exfalso
        have hq := q.1
        have h2 := ev_nu_lt (p := st_nd0 T) (q := fun b => st_nd0 T b ∨ b = c) 6 (fun y _ hy => Or.inl hy) ⟨c.toNat, by have := hq.1; omega, Or.inr (by have := hq.1; omega), fun hy => by
          have h3 := hy.2
          rw [show ((c.toNat : Nat) : Int) = c by have := hq.1; omega] at h3
          have := hq.2.1
          omega⟩
        have h3 := ev_nu_le (p := fun b => st_nd0 T b ∨ b = c) 6
        omega
    refine ⟨st_dd σ f d, ?_, fun i h0 h1 h2 h3 h4 h5 => st_dd_o ⟨h3, h4⟩, fun y hy => by rw [st_dd_o (by omega)], fun q _ => by rw [st_dd_o (by omega), h183], by rw [st_dd_o (by omega)]; exact h183, by rw [st_dd_o (by omega)]; exact h182, fun j h0 h1 => by rw [st_dd_o (by omega)]; exact h188 j h0 h1⟩
    rw [e1, c1]
    clear e1 hfG hnp hc c1 hnu hO h188 hI a8 h183
    rw [bk_147_8]
    repeat' (first | (simp (disch := first | assumption | exact Nat.le_of_ble_eq_true rfl | omega) only [bk_147_0, eo_1_0, eo_6, g11_30, eo_0_1, eo_3_3n, eo_3_3i, eo_3_3r, eo_0_2, eo_3_4n, eo_3_4i, eo_3_4r, eo_3_5n, eo_3_5i, eo_3_5r, eo_53, eo_0_5, eo_0_3, v11_4, ev_ki, ev_kv, eo_3_6n, eo_3_6i, eo_3_6r, g11_28_0, eo_11, eo_3_7n, eo_3_7i, eo_3_7r, eo_0_7, v11_2, g11_28_4, eo_52, bk_147_3, bk_147_4, eo_3_8n, eo_3_8i, eo_3_8r, eo_0_8, eo_0_6, bk_147_5, bk_147_6, bk_147_7, eo_23_7n, eo_23_7i, eo_23_7r, bk_147_8, bk_147_9, eo_10, eo_13d, ev_div_id, bk_147_10, eo_0_4, bk_147_11, bk_147_12, g11_28_7, g11_27, eo_24i, eo_24r, bk_147_13, bk_147_14, eo_58, a32_183, a33_183, a32_186, a33_186, a32_188, a33_188, Int.add_zero, Int.add_sub_cancel, Int.reduceAdd, Int.reduceMul, Int.reduceSub, Int.reduceNeg, ev_wr_id]) | ((first | with_reducible refine br_40 ?_ ?_ | with_reducible refine br_41 ?_ ?_ | with_reducible refine br_42 ?_ ?_ | with_reducible refine br_43 ?_ ?_ | with_reducible refine br_44 ?_ ?_ | with_reducible refine br_45 ?_ ?_ | with_reducible refine br_46 ?_ ?_ | with_reducible refine br_47 ?_ ?_ | with_reducible refine br_48 ?_ ?_ | with_reducible refine br_49 ?_ ?_ | with_reducible refine br_50 ?_ ?_ | with_reducible refine br_51 ?_ ?_) <;> intro h <;> try simp (disch := first | assumption | exact Nat.le_of_ble_eq_true rfl | omega) only [ev_wr_id, not_true_eq_false, not_false_eq_true, Int.reduceEq, Int.reduceLT, Int.reduceLE, and_self, and_true, true_and, and_false, false_and, reduceIte] at h <;> try (exfalso; omega; done)))
    rw [bk_147_1]
    repeat' (first | (simp (disch := first | assumption | exact Nat.le_of_ble_eq_true rfl | omega) only [bk_147_0, eo_1_0, eo_6, g11_30, eo_0_1, eo_3_3n, eo_3_3i, eo_3_3r, eo_0_2, eo_3_4n, eo_3_4i, eo_3_4r, eo_3_5n, eo_3_5i, eo_3_5r, eo_53, eo_0_5, eo_0_3, v11_4, ev_ki, ev_kv, eo_3_6n, eo_3_6i, eo_3_6r, g11_28_0, eo_11, eo_3_7n, eo_3_7i, eo_3_7r, eo_0_7, v11_2, g11_28_4, eo_52, bk_147_3, bk_147_4, eo_3_8n, eo_3_8i, eo_3_8r, eo_0_8, eo_0_6, bk_147_5, bk_147_6, bk_147_7, eo_23_7n, eo_23_7i, eo_23_7r, bk_147_8, bk_147_9, eo_10, eo_13d, ev_div_id, bk_147_10, eo_0_4, bk_147_11, bk_147_12, g11_28_7, g11_27, eo_24i, eo_24r, bk_147_13, bk_147_14, eo_58, a32_183, a33_183, a32_186, a33_186, a32_188, a33_188, Int.add_zero, Int.add_sub_cancel, Int.reduceAdd, Int.reduceMul, Int.reduceSub, Int.reduceNeg, ev_wr_id]) | ((first | with_reducible refine br_40 ?_ ?_ | with_reducible refine br_41 ?_ ?_ | with_reducible refine br_42 ?_ ?_ | with_reducible refine br_43 ?_ ?_ | with_reducible refine br_44 ?_ ?_ | with_reducible refine br_45 ?_ ?_ | with_reducible refine br_46 ?_ ?_ | with_reducible refine br_47 ?_ ?_ | with_reducible refine br_48 ?_ ?_ | with_reducible refine br_49 ?_ ?_ | with_reducible refine br_50 ?_ ?_ | with_reducible refine br_51 ?_ ?_) <;> intro h <;> try simp (disch := first | assumption | exact Nat.le_of_ble_eq_true rfl | omega) only [ev_wr_id, not_true_eq_false, not_false_eq_true, Int.reduceEq, Int.reduceLT, Int.reduceLE, and_self, and_true, true_and, and_false, false_and, reduceIte] at h <;> try (exfalso; omega; done)))
  | succ k ih =>
    intro T x h m O σ p6 p7 p8 hm0 hm h183 hI a8 hx hh h182 h188 hO hnu
    have i2 := hI.1.2.2.1
    obtain ⟨f, d, q8, e1, hfG, hnp⟩ := l_147h (st := st) (hr := hr) (x := x) (h := h) (m := m) (p6 := p6) (p7 := p7) (p8 := p8) h183 hI a8 hx h182 (by omega) (fun j h0 h1 => by rw [h188 j h0 h1]; exact hO j h0 h1)
    obtain ⟨G, hG⟩ : ∃ G, G = st_Gs T 12 (-1) x := ⟨_, rfl⟩
    rw [← hG] at e1 hfG hnp
    obtain ⟨c, hc⟩ : ∃ c, c = st_nb T G := ⟨_, rfl⟩
    rw [← hc] at e1 hnp
    have m183 : st_dd σ f d 183 = T := by rw [st_dd_o (by omega)]; exact h183
    have stop : ∀ (v : Int), (c = -1 ∨ h < st_nd T G c) → EB 147 8 [some (.inr (.inl 182)), some (.inl st), some (.inl hr), some (.inl x), some (.inl h), some (.inl 1), some (.inl c), some (.inl (-1)), q8] [] (st_dd σ f d) = some (none, st_dd σ f d) → ∃ σ1, EB 147 1 [some (.inr (.inl 182)), some (.inl st), some (.inl hr), some (.inl x), some (.inl h), some (.inl 1), p6, p7, p8] [] σ = some (none, σ1) ∧ (∀ i, i ≠ 182 → i ≠ 183 → i ≠ 185 → i ≠ 186 → i ≠ 187 → i ≠ 188 → σ1 i = σ i) ∧ (∀ y, y ≠ 6 → σ1 182 y = σ 182 y) ∧ (∀ q, 338 ≤ q → σ1 183 q = T q) ∧ σ1 183 = (st_run (k + 1) T x h m O).1 ∧ σ1 182 6 = (st_run (k + 1) T x h m O).2.1 ∧ ∀ j, 0 ≤ j → j < (st_run (k + 1) T x h m O).2.1 → σ1 188 j = (st_run (k + 1) T x h m O).2.2 j := by
      intro v hs hd
      rw [st_run_e hG.symm hc.symm hs]
      exact ⟨st_dd σ f d, by rw [e1, hd], fun i h0 h1 h2 h3 h4 h5 => st_dd_o ⟨h3, h4⟩, fun y hy => by rw [st_dd_o (by omega)], fun q _ => by rw [m183], m183, by rw [st_dd_o (by omega)]; exact h182, fun j h0 h1 => by rw [st_dd_o (by omega)]; exact h188 j h0 h1⟩
    by_cases c1 : c = -1
    · refine stop 0 (Or.inl c1) ?_
      rw [c1]
      clear e1 hfG hnp hc c1 hnu hO h188 hI a8 h183 stop ih hG
      rw [bk_147_8]
      repeat' (first | (simp (disch := first | assumption | exact Nat.le_of_ble_eq_true rfl | omega) only [bk_147_0, eo_1_0, eo_6, g11_30, eo_0_1, eo_3_3n, eo_3_3i, eo_3_3r, eo_0_2, eo_3_4n, eo_3_4i, eo_3_4r, eo_3_5n, eo_3_5i, eo_3_5r, eo_53, eo_0_5, eo_0_3, v11_4, ev_ki, ev_kv, eo_3_6n, eo_3_6i, eo_3_6r, g11_28_0, eo_11, eo_3_7n, eo_3_7i, eo_3_7r, eo_0_7, v11_2, g11_28_4, eo_52, bk_147_3, bk_147_4, eo_3_8n, eo_3_8i, eo_3_8r, eo_0_8, eo_0_6, bk_147_5, bk_147_6, bk_147_7, eo_23_7n, eo_23_7i, eo_23_7r, bk_147_8, bk_147_9, eo_10, eo_13d, ev_div_id, bk_147_10, eo_0_4, bk_147_11, bk_147_12, g11_28_7, g11_27, eo_24i, eo_24r, bk_147_13, bk_147_14, eo_58, a32_183, a33_183, a32_186, a33_186, a32_188, a33_188, Int.add_zero, Int.add_sub_cancel, Int.reduceAdd, Int.reduceMul, Int.reduceSub, Int.reduceNeg, ev_wr_id]) | ((first | with_reducible refine br_40 ?_ ?_ | with_reducible refine br_41 ?_ ?_ | with_reducible refine br_42 ?_ ?_ | with_reducible refine br_43 ?_ ?_ | with_reducible refine br_44 ?_ ?_ | with_reducible refine br_45 ?_ ?_ | with_reducible refine br_46 ?_ ?_ | with_reducible refine br_47 ?_ ?_ | with_reducible refine br_48 ?_ ?_ | with_reducible refine br_49 ?_ ?_ | with_reducible refine br_50 ?_ ?_ | with_reducible refine br_51 ?_ ?_) <;> intro h <;> try simp (disch := first | assumption | exact Nat.le_of_ble_eq_true rfl | omega) only [ev_wr_id, not_true_eq_false, not_false_eq_true, Int.reduceEq, Int.reduceLT, Int.reduceLE, and_self, and_true, true_and, and_false, false_and, reduceIte] at h <;> try (exfalso; omega; done)))
      rw [bk_147_1]
      repeat' (first | (simp (disch := first | assumption | exact Nat.le_of_ble_eq_true rfl | omega) only [bk_147_0, eo_1_0, eo_6, g11_30, eo_0_1, eo_3_3n, eo_3_3i, eo_3_3r, eo_0_2, eo_3_4n, eo_3_4i, eo_3_4r, eo_3_5n, eo_3_5i, eo_3_5r, eo_53, eo_0_5, eo_0_3, v11_4, ev_ki, ev_kv, eo_3_6n, eo_3_6i, eo_3_6r, g11_28_0, eo_11, eo_3_7n, eo_3_7i, eo_3_7r, eo_0_7, v11_2, g11_28_4, eo_52, bk_147_3, bk_147_4, eo_3_8n, eo_3_8i, eo_3_8r, eo_0_8, eo_0_6, bk_147_5, bk_147_6, bk_147_7, eo_23_7n, eo_23_7i, eo_23_7r, bk_147_8, bk_147_9, eo_10, eo_13d, ev_div_id, bk_147_10, eo_0_4, bk_147_11, bk_147_12, g11_28_7, g11_27, eo_24i, eo_24r, bk_147_13, bk_147_14, eo_58, a32_183, a33_183, a32_186, a33_186, a32_188, a33_188, Int.add_zero, Int.add_sub_cancel, Int.reduceAdd, Int.reduceMul, Int.reduceSub, Int.reduceNeg, ev_wr_id]) | ((first | with_reducible refine br_40 ?_ ?_ | with_reducible refine br_41 ?_ ?_ | with_reducible refine br_42 ?_ ?_ | with_reducible refine br_43 ?_ ?_ | with_reducible refine br_44 ?_ ?_ | with_reducible refine br_45 ?_ ?_ | with_reducible refine br_46 ?_ ?_ | with_reducible refine br_47 ?_ ?_ | with_reducible refine br_48 ?_ ?_ | with_reducible refine br_49 ?_ ?_ | with_reducible refine br_50 ?_ ?_ | with_reducible refine br_51 ?_ ?_) <;> intro h <;> try simp (disch := first | assumption | exact Nat.le_of_ble_eq_true rfl | omega) only [ev_wr_id, not_true_eq_false, not_false_eq_true, Int.reduceEq, Int.reduceLT, Int.reduceLE, and_self, and_true, true_and, and_false, false_and, reduceIte] at h <;> try (exfalso; omega; done)))
    · have hcb : st_cb T G c := by
        rcases hnp with q | q
        · exact absurd q.1 c1
        · exact q.1.1
      obtain ⟨e, e145, he1, he2⟩ := c_145 (σ := st_dd σ f d) (b := c) (G := G) (by rw [m183]; exact hI) (by rw [m183]; exact hcb.1) (by rw [st_dd_1]; exact hfG)
      rw [m183, st_dd_1] at he2
      rcases he2 with ⟨j1, j2⟩ | ⟨j1, j2, j3, j4, j5⟩
      · have := hcb.2.2
        omega
      · have hsn := st_sn_in (G := G) hI hcb.1
        obtain ⟨n, hn⟩ : ∃ n, n = st_nd T G c := ⟨_, rfl⟩
        have hnn : (f e + 9) / 10 + 4 = n := by
          rw [hn]
          unfold st_nd
          rw [← j3]
          omega
        have hnr : 4 ≤ n ∧ n ≤ 200 := by omega
        have hc6 : 0 ≤ c ∧ c < 6 := by
          have := hcb.1
          omega
        by_cases c2 : h < n
        · refine stop 0 (Or.inr (by rw [← hn]; exact c2)) ?_
          clear e1 hfG hnp hc hnu hO h188 hI a8 h183 stop ih hG hcb j1 j2 j3 hsn hn
          rw [bk_147_8]
          repeat' (first | (simp (disch := first | assumption | exact Nat.le_of_ble_eq_true rfl | omega) only [bk_147_0, eo_1_0, eo_6, g11_30, eo_0_1, eo_3_3n, eo_3_3i, eo_3_3r, eo_0_2, eo_3_4n, eo_3_4i, eo_3_4r, eo_3_5n, eo_3_5i, eo_3_5r, eo_53, eo_0_5, eo_0_3, v11_4, ev_ki, ev_kv, eo_3_6n, eo_3_6i, eo_3_6r, g11_28_0, eo_11, eo_3_7n, eo_3_7i, eo_3_7r, eo_0_7, v11_2, g11_28_4, eo_52, bk_147_3, bk_147_4, eo_3_8n, eo_3_8i, eo_3_8r, eo_0_8, eo_0_6, bk_147_5, bk_147_6, bk_147_7, eo_23_7n, eo_23_7i, eo_23_7r, bk_147_8, bk_147_9, eo_10, eo_13d, ev_div_id, bk_147_10, eo_0_4, bk_147_11, bk_147_12, g11_28_7, g11_27, eo_24i, eo_24r, bk_147_13, bk_147_14, eo_58, a32_183, a33_183, a32_186, a33_186, a32_188, a33_188, e145, st_dd_1, hnn, Int.add_zero, Int.add_sub_cancel, Int.reduceAdd, Int.reduceMul, Int.reduceSub, Int.reduceNeg, ev_wr_id]) | ((first | with_reducible refine br_40 ?_ ?_ | with_reducible refine br_41 ?_ ?_ | with_reducible refine br_42 ?_ ?_ | with_reducible refine br_43 ?_ ?_ | with_reducible refine br_44 ?_ ?_ | with_reducible refine br_45 ?_ ?_ | with_reducible refine br_46 ?_ ?_ | with_reducible refine br_47 ?_ ?_ | with_reducible refine br_48 ?_ ?_ | with_reducible refine br_49 ?_ ?_ | with_reducible refine br_50 ?_ ?_ | with_reducible refine br_51 ?_ ?_) <;> intro h <;> try simp (disch := first | assumption | exact Nat.le_of_ble_eq_true rfl | omega) only [ev_wr_id, not_true_eq_false, not_false_eq_true, Int.reduceEq, Int.reduceLT, Int.reduceLE, and_self, and_true, true_and, and_false, false_and, reduceIte] at h <;> try (exfalso; omega; done)))
          rw [bk_147_1]
          repeat' (first | (simp (disch := first | assumption | exact Nat.le_of_ble_eq_true rfl | omega) only [bk_147_0, eo_1_0, eo_6, g11_30, eo_0_1, eo_3_3n, eo_3_3i, eo_3_3r, eo_0_2, eo_3_4n, eo_3_4i, eo_3_4r, eo_3_5n, eo_3_5i, eo_3_5r, eo_53, eo_0_5, eo_0_3, v11_4, ev_ki, ev_kv, eo_3_6n, eo_3_6i, eo_3_6r, g11_28_0, eo_11, eo_3_7n, eo_3_7i, eo_3_7r, eo_0_7, v11_2, g11_28_4, eo_52, bk_147_3, bk_147_4, eo_3_8n, eo_3_8i, eo_3_8r, eo_0_8, eo_0_6, bk_147_5, bk_147_6, bk_147_7, eo_23_7n, eo_23_7i, eo_23_7r, bk_147_8, bk_147_9, eo_10, eo_13d, ev_div_id, bk_147_10, eo_0_4, bk_147_11, bk_147_12, g11_28_7, g11_27, eo_24i, eo_24r, bk_147_13, bk_147_14, eo_58, a32_183, a33_183, a32_186, a33_186, a32_188, a33_188, Int.add_zero, Int.add_sub_cancel, Int.reduceAdd, Int.reduceMul, Int.reduceSub, Int.reduceNeg, ev_wr_id]) | ((first | with_reducible refine br_40 ?_ ?_ | with_reducible refine br_41 ?_ ?_ | with_reducible refine br_42 ?_ ?_ | with_reducible refine br_43 ?_ ?_ | with_reducible refine br_44 ?_ ?_ | with_reducible refine br_45 ?_ ?_ | with_reducible refine br_46 ?_ ?_ | with_reducible refine br_47 ?_ ?_ | with_reducible refine br_48 ?_ ?_ | with_reducible refine br_49 ?_ ?_ | with_reducible refine br_50 ?_ ?_ | with_reducible refine br_51 ?_ ?_) <;> intro h <;> try simp (disch := first | assumption | exact Nat.le_of_ble_eq_true rfl | omega) only [ev_wr_id, not_true_eq_false, not_false_eq_true, Int.reduceEq, Int.reduceLT, Int.reduceLE, and_self, and_true, true_and, and_false, false_and, reduceIte] at h <;> try (exfalso; omega; done)))
        · rw [st_run_s hG.symm hc.symm (by rw [← hn]; omega), ← j2, ← hn]
          obtain ⟨g, e140⟩ := c_140 (σ := st_dd σ f d) (b := c) (by rw [m183]; exact hI) (by rw [m183]; exact hcb.1)
          rw [m183] at e140
          obtain ⟨σ1, d1⟩ : ∃ z, z = ev_ua (ev_ua (st_dd σ f d) 183 (st_look T c)) 185 g := ⟨_, rfl⟩
          rw [← d1] at e140
          have w6 : σ1 182 6 = m := by rw [d1, ev_ua_ne (by omega), ev_ua_ne (by omega), st_dd_o (by omega)]; exact h182
          obtain ⟨σ2, d2⟩ : ∃ z, z = ev_up (ev_up σ1 188 m c) 182 6 (m + 1) := ⟨_, rfl⟩
          have g183 : σ2 183 = st_look T c := by
            rw [d2]
            funext y
            rw [ev_up_ne (by omega), ev_up_ne (by omega), d1, ev_ua_ne (by omega), ev_ua_eq]
          have gF : ∀ i, i ≠ 182 → i ≠ 183 → i ≠ 185 → i ≠ 186 → i ≠ 187 → i ≠ 188 → σ2 i = σ i := fun i h0 h1 h2 h3 h4 h5 => by
            rw [d2]
            funext y
            rw [ev_up_ne (by omega), ev_up_ne (by omega), d1, ev_ua_ne (by omega), ev_ua_ne (by omega), st_dd_o ⟨h3, h4⟩]
          have g182 : ∀ y, y ≠ 6 → σ2 182 y = σ 182 y := fun y hy => by
            rw [d2, ev_up_ne (by omega), ev_up_ne (by omega), d1, ev_ua_ne (by omega), ev_ua_ne (by omega), st_dd_o (by omega)]
          have g188 : ∀ j, σ2 188 j = if j = m then c else σ 188 j := fun j => by
            rw [d2, ev_up_ne (by omega)]
            by_cases z : j = m
            · rw [ev_up_eq ⟨rfl, z⟩, if_pos z]
            · rw [ev_up_ne (by omega), if_neg z, d1, ev_ua_ne (by omega), ev_ua_ne (by omega), st_dd_o (by omega)]
          have hm6 : 0 ≤ m ∧ m < 6 := by omega
          obtain ⟨σ3, ex, k1, k2, k2b, k3, k4, k5⟩ := ih (st_look T c) e (h - n) (m + 1) (ev_u1 O m c) σ2 (some (.inl c)) (some (.inl n)) q8 (by omega) (by omega) g183 (st_look_I hI hcb.1) (by rw [gF 184 (by omega) (by omega) (by omega) (by omega) (by omega) (by omega)]; exact a8) (by rw [st_look_ne hc6.1 (by omega), j2]; exact hsn) (by omega) (by rw [d2, ev_up_eq ⟨rfl, rfl⟩]) (fun j h0 h1 => by
            rw [g188 j]
            by_cases z : j = m
            · rw [if_pos z, ev_u1_eq z]
            · rw [if_neg z, ev_u1_ne z]
              exact h188 j h0 (by omega)) (fun j h0 h1 => by
            by_cases z : j = m
            · rw [ev_u1_eq z]
              exact ⟨hc6, st_look_due hI hcb.1 hc6 (Or.inl rfl)⟩
            · rw [ev_u1_ne z]
              have hoj := hO j h0 (by omega)
              exact ⟨hoj.1, st_look_due hI hcb.1 hoj.1 (Or.inr hoj.2)⟩) (by
            have e2 : st_look T c 2 = T 2 := st_look_ne hc6.1 (by omega)
            have h2 := ev_nu_lt (p := st_nd0 T) (q := st_nd0 (st_look T c)) 6 (fun y hy6 hy => ⟨by rw [e2]; exact hy.1, st_look_due hI hcb.1 (by omega) (Or.inr hy.2)⟩) ⟨c.toNat, by omega, by
              rw [show ((c.toNat : Nat) : Int) = c by omega]
              exact ⟨by rw [e2]; exact hcb.1, st_look_due hI hcb.1 hc6 (Or.inl rfl)⟩, fun hy => by
              have h3 := hy.2
              rw [show ((c.toNat : Nat) : Int) = c by omega] at h3
              have := hcb.2.1
              omega⟩
            omega)
          refine ⟨σ3, ?_, fun i h0 h1 h2 h3 h4 h5 => by rw [k1 i h0 h1 h2 h3 h4 h5, gF i h0 h1 h2 h3 h4 h5], fun y hy => by rw [k2 y hy, g182 y hy], fun q hq => by rw [k2b q hq]; unfold st_look; simp (disch := omega) only [ev_u1_ne], k3, k4, k5⟩
          rw [e1, ← ex]
          have d2s := d2.symm
          clear e1 ex k1 k2 k2b k3 k4 k5 hfG hnp hc hnu hO h188 hI a8 h183 stop ih hG hcb j1 j2 j3 hsn hn g183 gF g182 g188 d2 d1 m183
          rw [bk_147_8]
          repeat' (first | (simp (disch := first | assumption | exact Nat.le_of_ble_eq_true rfl | omega) only [bk_147_0, eo_1_0, eo_6, g11_30, eo_0_1, eo_3_3n, eo_3_3i, eo_3_3r, eo_0_2, eo_3_4n, eo_3_4i, eo_3_4r, eo_3_5n, eo_3_5i, eo_3_5r, eo_53, eo_0_5, eo_0_3, v11_4, ev_ki, ev_kv, eo_3_6n, eo_3_6i, eo_3_6r, g11_28_0, eo_11, eo_3_7n, eo_3_7i, eo_3_7r, eo_0_7, v11_2, g11_28_4, eo_52, bk_147_3, bk_147_4, eo_3_8n, eo_3_8i, eo_3_8r, eo_0_8, eo_0_6, bk_147_5, bk_147_6, bk_147_7, eo_23_7n, eo_23_7i, eo_23_7r, bk_147_8, bk_147_9, eo_10, eo_13d, ev_div_id, bk_147_10, eo_0_4, bk_147_11, bk_147_12, g11_28_7, g11_27, eo_24i, eo_24r, bk_147_13, bk_147_14, eo_58, a32_183, a33_183, a32_186, a33_186, a32_188, a33_188, e145, st_dd_1, hnn, e140, w6, ev_up_ne, d2s, Int.add_zero, Int.add_sub_cancel, Int.reduceAdd, Int.reduceMul, Int.reduceSub, Int.reduceNeg, ev_wr_id]) | ((first | with_reducible refine br_40 ?_ ?_ | with_reducible refine br_41 ?_ ?_ | with_reducible refine br_42 ?_ ?_ | with_reducible refine br_43 ?_ ?_ | with_reducible refine br_44 ?_ ?_ | with_reducible refine br_45 ?_ ?_ | with_reducible refine br_46 ?_ ?_ | with_reducible refine br_47 ?_ ?_ | with_reducible refine br_48 ?_ ?_ | with_reducible refine br_49 ?_ ?_ | with_reducible refine br_50 ?_ ?_ | with_reducible refine br_51 ?_ ?_) <;> intro h <;> try simp (disch := first | assumption | exact Nat.le_of_ble_eq_true rfl | omega) only [ev_wr_id, not_true_eq_false, not_false_eq_true, Int.reduceEq, Int.reduceLT, Int.reduceLE, and_self, and_true, true_and, and_false, false_and, reduceIte] at h <;> try (exfalso; omega; done)))
theorem c_147 {σ : ev_M} {x h : Int} {T : Int → Int} (h183 : σ 183 = T) (hI : st_I T) (a8 : ∀ r, 0 ≤ r → r ≤ 9 → σ 184 r = ev_ps r) (hx : 0 ≤ x ∧ x < T 0) (hh : 0 ≤ h ∧ h ≤ 200) : ∃ σ1, EM 147 [.inr (.inl 182), .inl x, .inl h] σ = some (none, σ1) ∧ (∀ i, i ≠ 182 → i ≠ 183 → i ≠ 185 → i ≠ 186 → i ≠ 187 → i ≠ 188 → σ1 i = σ i) ∧ (∀ y, y ≠ 6 → σ1 182 y = σ 182 y) ∧ (∀ q, 338 ≤ q → σ1 183 q = T q) ∧ σ1 183 = (st_run 6 T x h 0 (fun _ => -1)).1 ∧ σ1 182 6 = (st_run 6 T x h 0 (fun _ => -1)).2.1 ∧ ∀ j, 0 ≤ j → j < (st_run 6 T x h 0 (fun _ => -1)).2.1 → σ1 188 j = (st_run 6 T x h 0 (fun _ => -1)).2.2 j := by
  obtain ⟨σ1, e, k1, k2, k3⟩ := l_147 (st := x) (hr := h) 6 T x h 0 (fun _ => -1) (ev_up σ 182 6 0) none none none (by omega) (by omega) (by rw [← h183]; funext y; exact ev_up_ne (by omega)) hI (fun r h0 h1 => by rw [ev_up_ne (by omega)]; exact a8 r h0 h1) hx hh (ev_up_eq ⟨rfl, rfl⟩) (fun j h0 h1 => by omega) (fun j h0 h1 => by omega) (by omega)
  refine ⟨σ1, ?_, fun i h0 h1 h2 h3 h4 h5 => by rw [k1 i h0 h1 h2 h3 h4 h5]; funext y; exact ev_up_ne (by omega), fun y hy => by rw [k2 y hy]; exact ev_up_ne (by omega), k3⟩
  rw [mm_147]
  repeat' (first | (simp (disch := first | assumption | exact Nat.le_of_ble_eq_true rfl | omega) only [bk_147_0, eo_1_0, eo_6, g11_30, eo_0_1, eo_3_3n, eo_3_3i, eo_3_3r, eo_0_2, eo_3_4n, eo_3_4i, eo_3_4r, eo_3_5n, eo_3_5i, eo_3_5r, eo_53, eo_0_5, eo_0_3, v11_4, ev_ki, ev_kv, eo_3_6n, eo_3_6i, eo_3_6r, g11_28_0, eo_11, eo_3_7n, eo_3_7i, eo_3_7r, eo_0_7, v11_2, g11_28_4, eo_52, bk_147_3, bk_147_4, eo_3_8n, eo_3_8i, eo_3_8r, eo_0_8, eo_0_6, bk_147_5, bk_147_6, bk_147_7, eo_23_7n, eo_23_7i, eo_23_7r, bk_147_8, bk_147_9, eo_10, eo_13d, ev_div_id, bk_147_10, eo_0_4, bk_147_11, bk_147_12, g11_28_7, g11_27, eo_24i, eo_24r, bk_147_13, bk_147_14, eo_58, a32_183, a33_183, a32_186, a33_186, a32_188, a33_188, Int.add_zero, Int.add_sub_cancel, Int.reduceAdd, Int.reduceMul, Int.reduceSub, Int.reduceNeg, ev_wr_id]) | ((first | with_reducible refine br_40 ?_ ?_ | with_reducible refine br_41 ?_ ?_ | with_reducible refine br_42 ?_ ?_ | with_reducible refine br_43 ?_ ?_ | with_reducible refine br_44 ?_ ?_ | with_reducible refine br_45 ?_ ?_ | with_reducible refine br_46 ?_ ?_ | with_reducible refine br_47 ?_ ?_ | with_reducible refine br_48 ?_ ?_ | with_reducible refine br_49 ?_ ?_ | with_reducible refine br_50 ?_ ?_ | with_reducible refine br_51 ?_ ?_) <;> intro h <;> try simp (disch := first | assumption | exact Nat.le_of_ble_eq_true rfl | omega) only [ev_wr_id, not_true_eq_false, not_false_eq_true, Int.reduceEq, Int.reduceLT, Int.reduceLE, and_self, and_true, true_and, and_false, false_and, reduceIte] at h <;> try (exfalso; omega; done)))
  exact e
