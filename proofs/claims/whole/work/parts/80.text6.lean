/-! textFault, lay on both sides -/
/-- the text, read on both sides -/
theorem j_read {σ μ : ev_M} {c : Int → Int} {n : Int} (hE : st_E (st_T σ ev_n) (μ 183)) (hI : st_I (μ 183)) (htx : st_tx σ c n) (hmy : st_my μ c n) (h1 : σ 164 1 = n) (h2 : μ 182 11 = n) : ∃ fl σ1 ok g T, EM 34 [.inr (.inl 164), .inr (.inl ev_n)] σ = some (some (.inl fl), σ1) ∧ EM 177 [.inr (.inl 182)] μ = some (some (.inl ok), ev_ua (ev_ua μ 183 T) 182 g) ∧ st_gk (μ 182) g ∧ σ1 164 1 = n ∧ (∀ i, i ≠ 164 → i ≠ 166 → i ≠ 167 → i ≠ 168 → i ≠ 169 → σ1 i = σ i) ∧ (∀ q, 338 ≤ q → T q = μ 183 q) ∧ ((ok = 0 ∧ fl = g 12 ∧ 0 ≤ fl ∧ fl ≤ n) ∨ (ok = 1 ∧ fl = -1 ∧ (0 ≤ σ1 164 5 ∧ σ1 164 5 ≤ 20) ∧ T = st_lr σ1 (μ 183) (σ1 164 5).toNat ∧ st_oks σ1 (μ 183) (σ1 164 5).toNat)) := by
  obtain ⟨t0, t1, t2, -⟩ : σ (ev_n + 1) 0 = μ 183 0 ∧ σ (ev_n + 1) 1 = μ 183 1 ∧ σ (ev_n + 6) 0 = μ 183 2 ∧ True := ⟨tr_n0.trans (hE _ (by omega) (by omega)), tr_n1.trans (hE _ (by omega) (by omega)), tr_n2.trans (hE _ (by omega) (by omega)), trivial⟩
  obtain ⟨f, hf⟩ : ∃ f, f = ev_u1 (ev_u1 (ev_u1 (ev_u1 (σ 164) 2 0) 3 (-1)) 5 0) 6 0 := ⟨_, rfl⟩
  obtain ⟨g0, hg0⟩ : ∃ g, g = ev_u1 (μ 182) 12 0 := ⟨_, rfl⟩
  have n9 := htx.1
  have f1 : f 1 = n := by rw [hf]; simp (disch := omega) only [ev_u1_ne]; exact h1
  have f2 : f 2 = 0 := by rw [hf]; simp (disch := omega) only [ev_u1_ne, ev_u1_eq]
  have f3 : f 3 = -1 := by rw [hf]; simp (disch := omega) only [ev_u1_ne, ev_u1_eq]
  have f5 : f 5 = 0 := by rw [hf]; simp (disch := omega) only [ev_u1_ne, ev_u1_eq]
  have f6 : f 6 = 0 := by rw [hf]; simp (disch := omega) only [ev_u1_eq]
  have hg11 : g0 11 = n := by rw [hg0, ev_u1_ne (by omega)]; exact h2
  have hg12 : g0 12 = 0 := by rw [hg0]; exact ev_u1_eq rfl
  obtain ⟨fl, S', f', ok1, M1, ch, M2, ok, g', T', x1, x2, x3, x4, x5, x6, y1, y2, y3, y4, y5⟩ := l_read hmy hI 20 0 σ f g0 0 0 0 rfl rfl htx t0 t1 t2 f5 f6 (Int.le_refl _) (Int.add_zero _) f1 hg11 f2 hg12 ⟨Int.le_refl _, n9.1⟩ f3 (fun j hj => by omega)
  rw [show st_lr σ (μ 183) 0 = μ 183 from rfl, ev_ua_self] at x2
  refine ⟨fl, ev_ua S' 164 f', ok, g', T', ?_, ?_, fun k k1 k2 => by rw [y1 k k1 k2, hg0, ev_u1_ne k1], by rw [ev_ua_eq]; exact y2, fun i i1 i2 i3 i4 i5 => by rw [ev_ua_row i1]; exact y3 i i2 i3 i4 i5, y4, ?_⟩
  · rw [← x1]
    have hs : ev_ua σ 164 (σ 164) = σ := ev_ua_self
    have hfs := hf.symm
    clear x1 x2 x4 x6 y1 y3 y4 y5 hmy htx hI hE hf
    rw [mm_34]
    conv => lhs; rw [← hs]
    repeat' (first | (simp (disch := first | assumption | exact Nat.le_of_ble_eq_true rfl | omega) only [bk_34_0, eo_1_0, eo_6, g5_30, eo_3_2n, eo_3_2i, eo_3_2r, eo_3_3n, eo_3_3i, eo_3_3r, eo_53, eo_0_2, eo_0_3, eo_1_1, v5_2, ev_ki, ev_kv, v5_1, eo_52, bk_34_2, bk_34_3, eo_23_3n, eo_23_3i, eo_23_3r, bk_34_4, g5_27, eo_56i, ev_up_ua, hfs, Int.add_zero, Int.add_sub_cancel, Int.reduceAdd, Int.reduceMul, Int.reduceSub, Int.reduceNeg, ev_wr_id]) | ((first | with_reducible refine br_40 ?_ ?_ | with_reducible refine br_41 ?_ ?_ | with_reducible refine br_42 ?_ ?_ | with_reducible refine br_43 ?_ ?_ | with_reducible refine br_44 ?_ ?_ | with_reducible refine br_45 ?_ ?_ | with_reducible refine br_46 ?_ ?_ | with_reducible refine br_47 ?_ ?_ | with_reducible refine br_48 ?_ ?_ | with_reducible refine br_49 ?_ ?_ | with_reducible refine br_50 ?_ ?_ | with_reducible refine br_51 ?_ ?_) <;> intro h <;> try simp (disch := first | assumption | exact Nat.le_of_ble_eq_true rfl | omega) only [ev_wr_id, not_true_eq_false, not_false_eq_true, Int.reduceEq, Int.reduceLT, Int.reduceLE, and_self, and_true, true_and, and_false, false_and, reduceIte] at h <;> try (exfalso; omega; done)))
  · rw [← x6]
    have hs : ev_ua μ 182 (μ 182) = μ := ev_ua_self
    have hfs := hg0.symm
    clear x1 x6 y1 y3 y4 y5 hmy htx hI hE hf hg0
    rw [mm_177]
    conv => lhs; rw [← hs]
    rcases x3 with x3 | x3
    · rw [x3] at x2 ⊢
      repeat' (first | (simp (disch := first | assumption | exact Nat.le_of_ble_eq_true rfl | omega) only [bk_177_0, eo_1_0, eo_6, g11_30, v11_1, ev_ki, ev_kv, eo_3_1n, eo_3_1i, eo_3_1r, eo_3_2n, eo_3_2i, eo_3_2r, eo_53, eo_0_1, eo_0_2, v11_2, eo_52, bk_177_2, bk_177_3, bk_177_4, eo_56z, ev_up_ua, hfs, x2, x4, Int.add_zero, Int.add_sub_cancel, Int.reduceAdd, Int.reduceMul, Int.reduceSub, Int.reduceNeg, ev_wr_id]) | ((first | with_reducible refine br_40 ?_ ?_ | with_reducible refine br_41 ?_ ?_ | with_reducible refine br_42 ?_ ?_ | with_reducible refine br_43 ?_ ?_ | with_reducible refine br_44 ?_ ?_ | with_reducible refine br_45 ?_ ?_ | with_reducible refine br_46 ?_ ?_ | with_reducible refine br_47 ?_ ?_ | with_reducible refine br_48 ?_ ?_ | with_reducible refine br_49 ?_ ?_ | with_reducible refine br_50 ?_ ?_ | with_reducible refine br_51 ?_ ?_) <;> intro h <;> try simp (disch := first | assumption | exact Nat.le_of_ble_eq_true rfl | omega) only [ev_wr_id, not_true_eq_false, not_false_eq_true, Int.reduceEq, Int.reduceLT, Int.reduceLE, and_self, and_true, true_and, and_false, false_and, reduceIte] at h <;> try (exfalso; omega; done)))
    · rw [x3] at x2 ⊢
      repeat' (first | (simp (disch := first | assumption | exact Nat.le_of_ble_eq_true rfl | omega) only [bk_177_0, eo_1_0, eo_6, g11_30, v11_1, ev_ki, ev_kv, eo_3_1n, eo_3_1i, eo_3_1r, eo_3_2n, eo_3_2i, eo_3_2r, eo_53, eo_0_1, eo_0_2, v11_2, eo_52, bk_177_2, bk_177_3, bk_177_4, eo_56z, ev_up_ua, hfs, x2, x4, Int.add_zero, Int.add_sub_cancel, Int.reduceAdd, Int.reduceMul, Int.reduceSub, Int.reduceNeg, ev_wr_id]) | ((first | with_reducible refine br_40 ?_ ?_ | with_reducible refine br_41 ?_ ?_ | with_reducible refine br_42 ?_ ?_ | with_reducible refine br_43 ?_ ?_ | with_reducible refine br_44 ?_ ?_ | with_reducible refine br_45 ?_ ?_ | with_reducible refine br_46 ?_ ?_ | with_reducible refine br_47 ?_ ?_ | with_reducible refine br_48 ?_ ?_ | with_reducible refine br_49 ?_ ?_ | with_reducible refine br_50 ?_ ?_ | with_reducible refine br_51 ?_ ?_) <;> intro h <;> try simp (disch := first | assumption | exact Nat.le_of_ble_eq_true rfl | omega) only [ev_wr_id, not_true_eq_false, not_false_eq_true, Int.reduceEq, Int.reduceLT, Int.reduceLE, and_self, and_true, true_and, and_false, false_and, reduceIte] at h <;> try (exfalso; omega; done)))
  · rcases y5 with q | ⟨q1, q2, K, q3, q4, q5, q6⟩
    · exact Or.inl q
    · refine Or.inr ⟨q1, q2, ?_, ?_, ?_⟩
      · rw [ev_ua_eq, q4]
        omega
      · rw [ev_ua_eq, q4, q5]
        exact (st_lr_c (S := S') (S2 := ev_ua S' 164 f') K (fun q _ _ => ⟨ev_ua_ne (by omega), ev_ua_ne (by omega), ev_ua_ne (by omega), ev_ua_ne (by omega)⟩)).symm
      · rw [ev_ua_eq, q4]
        intro j hj
        rw [st_lr_c (S := S') (S2 := ev_ua S' 164 f') j (fun q _ _ => ⟨ev_ua_ne (by omega), ev_ua_ne (by omega), ev_ua_ne (by omega), ev_ua_ne (by omega)⟩), ev_ua_ne (by omega), ev_ua_ne (by omega), ev_ua_ne (by omega), ev_ua_ne (by omega)]
        exact q6 j (by omega)
/-- textFault of the reference, behind the class's reading -/
theorem c_178j {σ μ : ev_M} {c : Int → Int} {n : Int} (hE : st_E (st_T σ ev_n) (μ 183)) (hI : st_I (μ 183)) (htx : st_tx σ c n) (hmy : st_my μ c n) (h1 : σ 164 1 = n) (h2 : μ 182 11 = n) : ∃ fl σ1 M, EM 34 [.inr (.inl 164), .inr (.inl ev_n)] σ = some (some (.inl fl), σ1) ∧ EM 178 [.inr (.inl 182)] μ = some (some (.inl fl), ev_cp M 183 2028 183 0 338) ∧ (-1 ≤ fl ∧ fl ≤ n) ∧ (∀ i, i ≠ 182 → i ≠ 183 → M i = μ i) ∧ st_gk (μ 182) (M 182) ∧ ∀ q, 338 ≤ q → M 183 q = ev_cp μ 183 0 183 2028 338 183 q := by
  obtain ⟨μ0, d0⟩ : ∃ z, z = ev_cp μ 183 0 183 2028 338 := ⟨_, rfl⟩
  have hE0 : st_E (μ 183) (μ0 183) := fun k h0 h1 => by rw [d0, ev_cp_out (by omega)]
  have h0 : ∀ i, i ≠ 183 → μ0 i = μ i := fun i h => by rw [d0]; funext z; exact ev_cp_ne h
  obtain ⟨fl, σ1, ok, g, T, e34, e177, y1, y2, y3, y4, y5⟩ := j_read (σ := σ) (μ := μ0) (c := c) (n := n) (st_E_t hE hE0) (st_I_E hE0 hI) htx (st_my_o hmy (h0 190 (by omega))) h1 (by rw [h0 182 (by omega)]; exact h2)
  have n9 := htx.1
  have e107 := c_107 (σ := μ) (a := 0) (b := 6) (by omega) (by omega) (by omega)
  obtain ⟨M, dM⟩ : ∃ M, M = ev_ua (ev_ua μ0 183 T) 182 g := ⟨_, rfl⟩
  have e1072 := c_107 (σ := M) (a := 6) (b := 0) (by omega) (by omega) (by omega)
  rw [show (338 : Int) * 0 = 0 from rfl, show (338 : Int) * 6 = 2028 from rfl] at e107 e1072
  rw [← d0] at e107
  rw [← dM] at e177
  have hg : ev_cp M 183 2028 183 0 338 182 12 = g 12 := by rw [ev_cp_ne (by omega), dM, ev_ua_eq]
  refine ⟨fl, σ1, M, e34, ?_, by rcases y5 with q | q <;> omega, fun i i1 i2 => by rw [dM, ev_ua_row i1, ev_ua_row i2, h0 i i2], fun k k1 k2 => by rw [dM, ev_ua_eq, y1 k k1 k2, h0 182 (by omega)], fun q hq => by rw [dM, ev_ua_ne (by omega), ev_ua_eq, y4 q hq, d0]⟩
  rcases y5 with ⟨q1, q2, q3, q4⟩ | ⟨q1, q2, q3⟩
  · rw [q1] at e177
    rw [← q2] at hg
    clear y1 y3 y4 d0 dM h0 hE0 hE hI htx hmy
    rw [mm_178]
    repeat' (first | (simp (disch := first | assumption | exact Nat.le_of_ble_eq_true rfl | omega) only [bk_178_0, eo_1_0, eo_6, v11_3, ev_ki, ev_kv, v11_1, eo_3_1n, eo_3_1i, eo_3_1r, eo_0_1, eo_52, bk_178_1, g11_27, eo_53, bk_178_2, eo_56i, e107, e177, e1072, hg, Int.add_zero, Int.add_sub_cancel, Int.reduceAdd, Int.reduceMul, Int.reduceSub, Int.reduceNeg, ev_wr_id]) | ((first | with_reducible refine br_40 ?_ ?_ | with_reducible refine br_41 ?_ ?_ | with_reducible refine br_42 ?_ ?_ | with_reducible refine br_43 ?_ ?_ | with_reducible refine br_44 ?_ ?_ | with_reducible refine br_45 ?_ ?_ | with_reducible refine br_46 ?_ ?_ | with_reducible refine br_47 ?_ ?_ | with_reducible refine br_48 ?_ ?_ | with_reducible refine br_49 ?_ ?_ | with_reducible refine br_50 ?_ ?_ | with_reducible refine br_51 ?_ ?_) <;> intro h <;> try simp (disch := first | assumption | exact Nat.le_of_ble_eq_true rfl | omega) only [ev_wr_id, not_true_eq_false, not_false_eq_true, Int.reduceEq, Int.reduceLT, Int.reduceLE, and_self, and_true, true_and, and_false, false_and, reduceIte] at h <;> try (exfalso; omega; done)))
  · rw [q1] at e177
    rw [q2]
    clear y1 y3 y4 d0 dM h0 hE0 hE hI htx hmy q3
    rw [mm_178]
    repeat' (first | (simp (disch := first | assumption | exact Nat.le_of_ble_eq_true rfl | omega) only [bk_178_0, eo_1_0, eo_6, v11_3, ev_ki, ev_kv, v11_1, eo_3_1n, eo_3_1i, eo_3_1r, eo_0_1, eo_52, bk_178_1, g11_27, eo_53, bk_178_2, eo_56i, e107, e177, e1072, Int.add_zero, Int.add_sub_cancel, Int.reduceAdd, Int.reduceMul, Int.reduceSub, Int.reduceNeg, ev_wr_id]) | ((first | with_reducible refine br_40 ?_ ?_ | with_reducible refine br_41 ?_ ?_ | with_reducible refine br_42 ?_ ?_ | with_reducible refine br_43 ?_ ?_ | with_reducible refine br_44 ?_ ?_ | with_reducible refine br_45 ?_ ?_ | with_reducible refine br_46 ?_ ?_ | with_reducible refine br_47 ?_ ?_ | with_reducible refine br_48 ?_ ?_ | with_reducible refine br_49 ?_ ?_ | with_reducible refine br_50 ?_ ?_ | with_reducible refine br_51 ?_ ?_) <;> intro h <;> try simp (disch := first | assumption | exact Nat.le_of_ble_eq_true rfl | omega) only [ev_wr_id, not_true_eq_false, not_false_eq_true, Int.reduceEq, Int.reduceLT, Int.reduceLE, and_self, and_true, true_and, and_false, false_and, reduceIte] at h <;> try (exfalso; omega; done)))
theorem pr_100 {σ : ev_M} (hJ : st_J σ) : st_P 100 178 [] σ := by
  obtain ⟨a1, a2, a3, a4, a5, a6, ⟨⟨x1, x2, x3⟩, x4⟩, a8⟩ := id hJ
  have htx : st_tx σ (σ 190) (σ 182 11) := ⟨⟨x2, x3⟩, fun i h0 h1 => ⟨(x4 i h0 h1).1, (x4 i h0 h1).2⟩⟩
  have hmy : st_my σ (σ 190) (σ 182 11) := ⟨⟨x2, x3⟩, fun i h0 h1 => ⟨rfl, (x4 i h0 h1).2⟩⟩
  obtain ⟨fl0, σ1, ok0, g0, T0, e34, -, -, w1, w2, -, -⟩ := j_read (σ := σ) (μ := σ) a1 a2 htx hmy x1 rfl
  have h183 : σ1 183 = σ 183 := w2 183 (by omega) (by omega) (by omega) (by omega) (by omega)
  have h182 : σ1 182 = σ 182 := w2 182 (by omega) (by omega) (by omega) (by omega) (by omega)
  have h190 : σ1 190 = σ 190 := w2 190 (by omega) (by omega) (by omega) (by omega) (by omega)
  obtain ⟨fl, σ1b, M, e34b, e178, hfl, m1, m2, m3⟩ := c_178j (σ := σ) (μ := σ1) (c := σ 190) (n := σ 182 11) (by rw [h183]; exact a1) (by rw [h183]; exact a2) htx (st_my_o hmy h190) x1 (by rw [h182])
  obtain ⟨rfl, rfl⟩ : fl0 = fl ∧ σ1 = σ1b := by
    rw [e34] at e34b
    injection e34b with q
    injection q with q1 q2
    injection q1 with q1
    injection q1 with q1
    exact ⟨q1, q2⟩
  have hN1 : st_N σ σ1 := ⟨fun j hj => w2 j (by omega) (by omega) (by omega) (by omega) (by omega), by rw [w2 162 (by omega) (by omega) (by omega) (by omega) (by omega)], by rw [w1, x1], by rw [h182], by rw [h182], fun k _ _ => by rw [h183]⟩
  refine st_P_N hJ (σ1 := σ1) (σ2 := ev_cp M 183 2028 183 0 338) (v := .inl fl0) ?_ e178 (st_N_t hN1 (st_N_sup (fun i hi => m1 i (by omega) (by omega)) (by rw [m1 162 (by omega) (by omega)]) (by rw [m1 164 (by omega) (by omega)]) (m2 1 (by omega) (by omega)) (m2 11 (by omega) (by omega)) m3))
  rw [mm_100]
  repeat' (first | (simp (disch := first | assumption | exact Nat.le_of_ble_eq_true rfl | omega) only [bk_100_0, eo_1_0, g10_28_3, g10_28_0, v5_2, ev_ki, ev_kv, eo_56i, e34, Int.add_zero, Int.add_sub_cancel, Int.reduceAdd, Int.reduceMul, Int.reduceSub, Int.reduceNeg, ev_wr_id]) | ((first | with_reducible refine br_40 ?_ ?_ | with_reducible refine br_41 ?_ ?_ | with_reducible refine br_42 ?_ ?_ | with_reducible refine br_43 ?_ ?_ | with_reducible refine br_44 ?_ ?_ | with_reducible refine br_45 ?_ ?_ | with_reducible refine br_46 ?_ ?_ | with_reducible refine br_47 ?_ ?_ | with_reducible refine br_48 ?_ ?_ | with_reducible refine br_49 ?_ ?_ | with_reducible refine br_50 ?_ ?_ | with_reducible refine br_51 ?_ ?_) <;> intro h <;> try simp (disch := first | assumption | exact Nat.le_of_ble_eq_true rfl | omega) only [ev_wr_id, not_true_eq_false, not_false_eq_true, Int.reduceEq, Int.reduceLT, Int.reduceLE, and_self, and_true, true_and, and_false, false_and, reduceIte] at h <;> try (exfalso; omega; done)))
