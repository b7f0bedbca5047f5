/-! strengths: the reference's rates; the class's true ratings -/
theorem l_117i {b n c r : Int} {σ : ev_M} {f : Int → Int} (hb : 0 ≤ b ∧ b < 6) (hn : 0 ≤ n ∧ n ≤ 6) (h0 : 0 ≤ c ∧ c < 6) (hnn : σ 183 (89 + 5 * b + 1) = n) (hrr : σ 183 (119 + 30 * b + 5 * c + 4) = r) (hr : 0 ≤ r ∧ r ≤ 127) (hf : ∀ q, c < q → q < n → 0 ≤ f q ∧ f q ≤ 9) : ∀ (k : Nat) (o acc : Int) (p5 : Option ev_V), c < o → o ≤ n → n - o = k → 0 ≤ acc ∧ acc ≤ 9 → ∃ p6, EB 117 4 [some (.inr (.inl 182)), some (.inl b), some (.inl c), some (.inl acc), some (.inl o), p5] [] (ev_ua σ 185 f) = EB 117 9 [some (.inr (.inl 182)), some (.inl b), some (.inl c), some (.inl (ev_fo r f k o acc)), some (.inl n), p6] [] (ev_ua σ 185 f) := by
  intro k
  induction k with
  | zero =>
    intro o acc p5 h1 h2 h3 h4
    obtain rfl : o = n := by omega
    refine ⟨p5, ?_⟩
    rw [bk_117_4]
    repeat' (first | (simp (disch := first | assumption | exact Nat.le_of_ble_eq_true rfl | omega) only [bk_117_0, eo_1_0, eo_0_1, eo_6, v11_3, ev_ki, ev_kv, eo_11, eo_3_2n, eo_3_2i, eo_3_2r, eo_53, eo_0_2, v11_4, eo_15, eo_52, bk_117_2, bk_117_3, eo_3_3n, eo_3_3i, eo_3_3r, eo_10, eo_3_4n, eo_3_4i, eo_3_4r, eo_0_4, eo_19, bk_117_5, bk_117_6, eo_3_5n, eo_3_5i, eo_3_5r, eo_0_5, g11_28_3, eo_0_3, bk_117_7, bk_117_8, eo_23_4n, eo_23_4i, eo_23_4r, bk_117_10, bk_117_11, eo_23_2n, eo_23_2i, eo_23_2r, bk_117_12, bk_117_13, bk_117_14, eo_56i, a32_185, a33_185, c_114, c_115, ev_ua_ne, hnn, Int.add_zero, Int.add_sub_cancel, Int.reduceAdd, Int.reduceMul, Int.reduceSub, Int.reduceNeg, ev_wr_id]) | ((first | with_reducible refine br_40 ?_ ?_ | with_reducible refine br_41 ?_ ?_ | with_reducible refine br_42 ?_ ?_ | with_reducible refine br_43 ?_ ?_ | with_reducible refine br_44 ?_ ?_ | with_reducible refine br_45 ?_ ?_ | with_reducible refine br_46 ?_ ?_ | with_reducible refine br_47 ?_ ?_ | with_reducible refine br_48 ?_ ?_ | with_reducible refine br_49 ?_ ?_ | with_reducible refine br_50 ?_ ?_ | with_reducible refine br_51 ?_ ?_) <;> intro h <;> try simp (disch := first | assumption | exact Nat.le_of_ble_eq_true rfl | omega) only [ev_wr_id, not_true_eq_false, not_false_eq_true, Int.reduceEq, Int.reduceLT, Int.reduceLE, and_self, and_true, true_and, and_false, false_and, reduceIte] at h <;> try (exfalso; omega; done)))
    rfl
  | succ k ih =>
    intro o acc p5 h1 h2 h3 h4
    obtain ⟨t1, t2, t3, t4, t5, t6⟩ := ev_bits hr (o := o) (by omega)
    have hfo := hf o h1 (by omega)
    by_cases hb1 : ev_bt r o
    · have hbb := t2.mpr hb1
      by_cases hlt : acc < f o
      · obtain ⟨p6, e⟩ := ih (o + 1) (f o) (some (.inl 1)) (by omega) (by omega) (by omega) hfo
        refine ⟨p6, ?_⟩
        rw [(ev_fo_s r f k o acc).1 hb1 hlt, ← e, bk_117_4]
        repeat' (first | (simp (disch := first | assumption | exact Nat.le_of_ble_eq_true rfl | omega) only [bk_117_0, eo_1_0, eo_0_1, eo_6, v11_3, ev_ki, ev_kv, eo_11, eo_3_2n, eo_3_2i, eo_3_2r, eo_53, eo_0_2, v11_4, eo_15, eo_52, bk_117_2, bk_117_3, eo_3_3n, eo_3_3i, eo_3_3r, eo_10, eo_3_4n, eo_3_4i, eo_3_4r, eo_0_4, eo_19, bk_117_5, bk_117_6, eo_3_5n, eo_3_5i, eo_3_5r, eo_0_5, g11_28_3, eo_0_3, bk_117_7, bk_117_8, eo_23_4n, eo_23_4i, eo_23_4r, bk_117_10, bk_117_11, eo_23_2n, eo_23_2i, eo_23_2r, bk_117_12, bk_117_13, bk_117_14, eo_56i, a32_185, a33_185, c_114, c_115, ev_ua_ne, ev_ua_eq, hnn, hrr, Int.add_zero, Int.add_sub_cancel, Int.reduceAdd, Int.reduceMul, Int.reduceSub, Int.reduceNeg, ev_wr_id]) | ((first | with_reducible refine br_40 ?_ ?_ | with_reducible refine br_41 ?_ ?_ | with_reducible refine br_42 ?_ ?_ | with_reducible refine br_43 ?_ ?_ | with_reducible refine br_44 ?_ ?_ | with_reducible refine br_45 ?_ ?_ | with_reducible refine br_46 ?_ ?_ | with_reducible refine br_47 ?_ ?_ | with_reducible refine br_48 ?_ ?_ | with_reducible refine br_49 ?_ ?_ | with_reducible refine br_50 ?_ ?_ | with_reducible refine br_51 ?_ ?_) <;> intro h <;> try simp (disch := first | assumption | exact Nat.le_of_ble_eq_true rfl | omega) only [ev_wr_id, not_true_eq_false, not_false_eq_true, Int.reduceEq, Int.reduceLT, Int.reduceLE, and_self, and_true, true_and, and_false, false_and, reduceIte] at h <;> try (exfalso; omega; done)))
      · obtain ⟨p6, e⟩ := ih (o + 1) acc (some (.inl 1)) (by omega) (by omega) (by omega) h4
        refine ⟨p6, ?_⟩
        rw [(ev_fo_s r f k o acc).2 (fun q => hlt q.2), ← e, bk_117_4]
        repeat' (first | (simp (disch := first | assumption | exact Nat.le_of_ble_eq_true rfl | omega) only [bk_117_0, eo_1_0, eo_0_1, eo_6, v11_3, ev_ki, ev_kv, eo_11, eo_3_2n, eo_3_2i, eo_3_2r, eo_53, eo_0_2, v11_4, eo_15, eo_52, bk_117_2, bk_117_3, eo_3_3n, eo_3_3i, eo_3_3r, eo_10, eo_3_4n, eo_3_4i, eo_3_4r, eo_0_4, eo_19, bk_117_5, bk_117_6, eo_3_5n, eo_3_5i, eo_3_5r, eo_0_5, g11_28_3, eo_0_3, bk_117_7, bk_117_8, eo_23_4n, eo_23_4i, eo_23_4r, bk_117_10, bk_117_11, eo_23_2n, eo_23_2i, eo_23_2r, bk_117_12, bk_117_13, bk_117_14, eo_56i, a32_185, a33_185, c_114, c_115, ev_ua_ne, ev_ua_eq, hnn, hrr, Int.add_zero, Int.add_sub_cancel, Int.reduceAdd, Int.reduceMul, Int.reduceSub, Int.reduceNeg, ev_wr_id]) | ((first | with_reducible refine br_40 ?_ ?_ | with_reducible refine br_41 ?_ ?_ | with_reducible refine br_42 ?_ ?_ | with_reducible refine br_43 ?_ ?_ | with_reducible refine br_44 ?_ ?_ | with_reducible refine br_45 ?_ ?_ | with_reducible refine br_46 ?_ ?_ | with_reducible refine br_47 ?_ ?_ | with_reducible refine br_48 ?_ ?_ | with_reducible refine br_49 ?_ ?_ | with_reducible refine br_50 ?_ ?_ | with_reducible refine br_51 ?_ ?_) <;> intro h <;> try simp (disch := first | assumption | exact Nat.le_of_ble_eq_true rfl | omega) only [ev_wr_id, not_true_eq_false, not_false_eq_true, Int.reduceEq, Int.reduceLT, Int.reduceLE, and_self, and_true, true_and, and_false, false_and, reduceIte] at h <;> try (exfalso; omega; done)))
    · have hbb : ¬ ev_and (ev_shr r o) 1 = 1 := fun q => hb1 (t2.mp q)
      obtain ⟨p6, e⟩ := ih (o + 1) acc (some (.inl 0)) (by omega) (by omega) (by omega) h4
      refine ⟨p6, ?_⟩
      rw [(ev_fo_s r f k o acc).2 (fun q => hb1 q.1), ← e, bk_117_4]
      repeat' (first | (simp (disch := first | assumption | exact Nat.le_of_ble_eq_true rfl | omega) only [bk_117_0, eo_1_0, eo_0_1, eo_6, v11_3, ev_ki, ev_kv, eo_11, eo_3_2n, eo_3_2i, eo_3_2r, eo_53, eo_0_2, v11_4, eo_15, eo_52, bk_117_2, bk_117_3, eo_3_3n, eo_3_3i, eo_3_3r, eo_10, eo_3_4n, eo_3_4i, eo_3_4r, eo_0_4, eo_19, bk_117_5, bk_117_6, eo_3_5n, eo_3_5i, eo_3_5r, eo_0_5, g11_28_3, eo_0_3, bk_117_7, bk_117_8, eo_23_4n, eo_23_4i, eo_23_4r, bk_117_10, bk_117_11, eo_23_2n, eo_23_2i, eo_23_2r, bk_117_12, bk_117_13, bk_117_14, eo_56i, a32_185, a33_185, c_114, c_115, ev_ua_ne, ev_ua_eq, hnn, hrr, Int.add_zero, Int.add_sub_cancel, Int.reduceAdd, Int.reduceMul, Int.reduceSub, Int.reduceNeg, ev_wr_id]) | ((first | with_reducible refine br_40 ?_ ?_ | with_reducible refine br_41 ?_ ?_ | with_reducible refine br_42 ?_ ?_ | with_reducible refine br_43 ?_ ?_ | with_reducible refine br_44 ?_ ?_ | with_reducible refine br_45 ?_ ?_ | with_reducible refine br_46 ?_ ?_ | with_reducible refine br_47 ?_ ?_ | with_reducible refine br_48 ?_ ?_ | with_reducible refine br_49 ?_ ?_ | with_reducible refine br_50 ?_ ?_ | with_reducible refine br_51 ?_ ?_) <;> intro h <;> try simp (disch := first | assumption | exact Nat.le_of_ble_eq_true rfl | omega) only [ev_wr_id, not_true_eq_false, not_false_eq_true, Int.reduceEq, Int.reduceLT, Int.reduceLE, and_self, and_true, true_and, and_false, false_and, reduceIte] at h <;> try (exfalso; omega; done)))
theorem l_117 {b n : Int} {σ : ev_M} {ra re : Int → Int} (hb : 0 ≤ b ∧ b < 6) (hn : 0 ≤ n ∧ n ≤ 6) (hnn : σ 183 (89 + 5 * b + 1) = n) (hra : ∀ c, 0 ≤ c → c < n → σ 183 (119 + 30 * b + 5 * c + 1) = ra c ∧ 0 ≤ ra c ∧ ra c ≤ 9) (hre : ∀ c, 0 ≤ c → c < n → σ 183 (119 + 30 * b + 5 * c + 4) = re c ∧ 0 ≤ re c ∧ re c ≤ 127) : ∀ (m k : Nat) (c : Int) (f : Int → Int) (p3 p4 p5 : Option ev_V), (k : Int) + m = n → c = m - 1 → (∀ q, c < q → q < n → f q = ev_sf ra re n k q) → ∃ g, EB 117 1 [some (.inr (.inl 182)), some (.inl b), some (.inl c), p3, p4, p5] [] (ev_ua σ 185 f) = some (some (.inl (ev_tr ra re n)), ev_ua σ 185 g) ∧ ∀ q, 0 ≤ q → q < n → g q = ev_sf ra re n n.toNat q := by
  intro m
  induction m with
  | zero =>
    intro k c f p3 p4 p5 hk hc hf
    obtain rfl : c = -1 := by omega
    have hkn : n.toNat = k := by omega
    refine ⟨f, ?_, fun q h1 h2 => by rw [hkn]; exact hf q (by omega) h2⟩
    rw [bk_117_1]
    repeat' (first | (simp (disch := first | assumption | exact Nat.le_of_ble_eq_true rfl | omega) only [bk_117_0, eo_1_0, eo_0_1, eo_6, v11_3, ev_ki, ev_kv, eo_11, eo_3_2n, eo_3_2i, eo_3_2r, eo_53, eo_0_2, v11_4, eo_15, eo_52, bk_117_2, bk_117_3, eo_3_3n, eo_3_3i, eo_3_3r, eo_10, eo_3_4n, eo_3_4i, eo_3_4r, eo_0_4, eo_19, bk_117_5, bk_117_6, eo_3_5n, eo_3_5i, eo_3_5r, eo_0_5, g11_28_3, eo_0_3, bk_117_7, bk_117_8, eo_23_4n, eo_23_4i, eo_23_4r, bk_117_9, bk_117_10, bk_117_11, eo_23_2n, eo_23_2i, eo_23_2r, bk_117_12, bk_117_13, bk_117_14, eo_56i, a32_185, a33_185, c_114, c_115, ev_ua_eq, ev_ua_ne, hnn, Int.add_zero, Int.add_sub_cancel, Int.reduceAdd, Int.reduceMul, Int.reduceSub, Int.reduceNeg, ev_wr_id]) | ((first | with_reducible refine br_40 ?_ ?_ | with_reducible refine br_41 ?_ ?_ | with_reducible refine br_42 ?_ ?_ | with_reducible refine br_43 ?_ ?_ | with_reducible refine br_44 ?_ ?_ | with_reducible refine br_45 ?_ ?_ | with_reducible refine br_46 ?_ ?_ | with_reducible refine br_47 ?_ ?_ | with_reducible refine br_48 ?_ ?_ | with_reducible refine br_49 ?_ ?_ | with_reducible refine br_50 ?_ ?_ | with_reducible refine br_51 ?_ ?_) <;> intro h <;> try simp (disch := first | assumption | exact Nat.le_of_ble_eq_true rfl | omega) only [ev_wr_id, not_true_eq_false, not_false_eq_true, Int.reduceEq, Int.reduceLT, Int.reduceLE, and_self, and_true, true_and, and_false, false_and, reduceIte] at h <;> try (exfalso; omega; done)))
    · unfold ev_tr
      rw [if_pos (by assumption)]
    · unfold ev_tr
      rw [if_neg (by assumption), hkn, hf 0 (by omega) (by omega)]
  | succ m ih =>
    intro k c f p3 p4 p5 hk hc hf
    have hc6 : 0 ≤ c ∧ c < 6 := by omega
    obtain ⟨e4, r0, r1⟩ := hre c (by omega) (by omega)
    obtain ⟨e1, ra0, ra1⟩ := hra c (by omega) (by omega)
    have hsf := ev_sf_in (ra := ra) (re := re) (n := n) k (by omega) (fun c h1 h2 => (hra c h1 h2).2)
    have hfq : ∀ q, c < q → q < n → 0 ≤ f q ∧ f q ≤ 9 := fun q h1 h2 => by rw [hf q h1 h2]; exact hsf q (by omega) h2
    have hg0 := ev_g0_in (re c)
    have hkk : n - (c + 1) = k := by omega
    have hfo : ev_fo (re c) f k (c + 1) (ev_g0 (re c)) = ev_fo (re c) (ev_sf ra re n k) k (c + 1) (ev_g0 (re c)) := ev_fo_congr (re c) k (c + 1) _ (fun q h1 h2 => hf q (by omega) (by omega))
    have hfi := ev_fo_in (re c) k (c + 1) (ev_g0 (re c)) (fun q h1 h2 => hfq q (by omega) (by omega)) hg0
    obtain ⟨p6, hinner⟩ := l_117i (σ := σ) hb hn hc6 hnn e4 ⟨r0, r1⟩ hfq k (c + 1) (ev_g0 (re c)) p5 (by omega) (by omega) hkk hg0
    have hstep : ∀ q, c + -1 < q → q < n → ev_u1 f c (if ev_fo (re c) f k (c + 1) (ev_g0 (re c)) < ra c then ev_fo (re c) f k (c + 1) (ev_g0 (re c)) else ra c) q = ev_sf ra re n (k + 1) q := by
      intro q h1 h2
      unfold ev_sf
      rw [show n - 1 - k = c by omega, show n - k = c + 1 by omega, ← hfo]
      by_cases hq : q = c
      · rw [ev_u1_eq hq, ev_u1_eq hq]
      · rw [ev_u1_ne hq, ev_u1_ne hq]
        exact hf q (by omega) h2
    obtain ⟨t1, t2, t3, t4, t5, t6⟩ := ev_bits ⟨r0, r1⟩ (o := 0) (by omega)
    obtain ⟨g, e, hg⟩ := ih (k + 1) (c + -1) (ev_u1 f c (if ev_fo (re c) f k (c + 1) (ev_g0 (re c)) < ra c then ev_fo (re c) f k (c + 1) (ev_g0 (re c)) else ra c)) (some (.inl (ev_fo (re c) f k (c + 1) (ev_g0 (re c))))) (some (.inl n)) p6 (by omega) (by omega) hstep
    refine ⟨g, ?_, hg⟩
    rw [bk_117_1]
    repeat' (first | (simp (disch := first | assumption | exact Nat.le_of_ble_eq_true rfl | omega) only [bk_117_0, eo_1_0, eo_0_1, eo_6, v11_3, ev_ki, ev_kv, eo_11, eo_3_2n, eo_3_2i, eo_3_2r, eo_53, eo_0_2, v11_4, eo_15, eo_52, bk_117_2, bk_117_3, eo_3_3n, eo_3_3i, eo_3_3r, eo_10, eo_3_4n, eo_3_4i, eo_3_4r, eo_0_4, eo_19, bk_117_5, bk_117_6, eo_3_5n, eo_3_5i, eo_3_5r, eo_0_5, g11_28_3, eo_0_3, bk_117_7, bk_117_8, eo_23_4n, eo_23_4i, eo_23_4r, bk_117_9, bk_117_10, bk_117_11, eo_23_2n, eo_23_2i, eo_23_2r, bk_117_12, bk_117_13, bk_117_14, eo_56i, a32_185, a33_185, c_114, c_115, ev_ua_ne, e4, Int.add_zero, Int.add_sub_cancel, Int.reduceAdd, Int.reduceMul, Int.reduceSub, Int.reduceNeg, ev_wr_id]) | ((first | with_reducible refine br_40 ?_ ?_ | with_reducible refine br_41 ?_ ?_ | with_reducible refine br_42 ?_ ?_ | with_reducible refine br_43 ?_ ?_ | with_reducible refine br_44 ?_ ?_ | with_reducible refine br_45 ?_ ?_ | with_reducible refine br_46 ?_ ?_ | with_reducible refine br_47 ?_ ?_ | with_reducible refine br_48 ?_ ?_ | with_reducible refine br_49 ?_ ?_ | with_reducible refine br_50 ?_ ?_ | with_reducible refine br_51 ?_ ?_) <;> intro h <;> try simp (disch := first | assumption | exact Nat.le_of_ble_eq_true rfl | omega) only [ev_wr_id, not_true_eq_false, not_false_eq_true, Int.reduceEq, Int.reduceLT, Int.reduceLE, and_self, and_true, true_and, and_false, false_and, reduceIte] at h <;> try (exfalso; omega; done)))
    · have h9 : ev_g0 (re c) = 0 := by unfold ev_g0; rw [if_pos (by omega)]
      rw [h9] at hinner e hfi
      rw [hinner]
      repeat' (first | (simp (disch := first | assumption | exact Nat.le_of_ble_eq_true rfl | omega) only [bk_117_0, eo_1_0, eo_0_1, eo_6, v11_3, ev_ki, ev_kv, eo_11, eo_3_2n, eo_3_2i, eo_3_2r, eo_53, eo_0_2, v11_4, eo_15, eo_52, bk_117_2, bk_117_3, eo_3_3n, eo_3_3i, eo_3_3r, eo_10, eo_3_4n, eo_3_4i, eo_3_4r, eo_0_4, eo_19, bk_117_5, bk_117_6, eo_3_5n, eo_3_5i, eo_3_5r, eo_0_5, g11_28_3, eo_0_3, bk_117_7, bk_117_8, eo_23_4n, eo_23_4i, eo_23_4r, bk_117_9, bk_117_10, bk_117_11, eo_23_2n, eo_23_2i, eo_23_2r, bk_117_12, bk_117_13, bk_117_14, eo_56i, a32_185, a33_185, c_114, c_115, ev_ua_ne, ev_up_ua, e1, Int.add_zero, Int.add_sub_cancel, Int.reduceAdd, Int.reduceMul, Int.reduceSub, Int.reduceNeg, ev_wr_id]) | ((first | with_reducible refine br_40 ?_ ?_ | with_reducible refine br_41 ?_ ?_ | with_reducible refine br_42 ?_ ?_ | with_reducible refine br_43 ?_ ?_ | with_reducible refine br_44 ?_ ?_ | with_reducible refine br_45 ?_ ?_ | with_reducible refine br_46 ?_ ?_ | with_reducible refine br_47 ?_ ?_ | with_reducible refine br_48 ?_ ?_ | with_reducible refine br_49 ?_ ?_ | with_reducible refine br_50 ?_ ?_ | with_reducible refine br_51 ?_ ?_) <;> intro h <;> try simp (disch := first | assumption | exact Nat.le_of_ble_eq_true rfl | omega) only [ev_wr_id, not_true_eq_false, not_false_eq_true, Int.reduceEq, Int.reduceLT, Int.reduceLE, and_self, and_true, true_and, and_false, false_and, reduceIte] at h <;> try (exfalso; omega; done)))
      · rw [if_pos (by assumption)] at e
        exact e
      · rw [if_neg (by assumption)] at e
        exact e
    · have h9 : ev_g0 (re c) = 9 := by unfold ev_g0; rw [if_neg (by omega)]
      rw [h9] at hinner e hfi
      rw [hinner]
      repeat' (first | (simp (disch := first | assumption | exact Nat.le_of_ble_eq_true rfl | omega) only [bk_117_0, eo_1_0, eo_0_1, eo_6, v11_3, ev_ki, ev_kv, eo_11, eo_3_2n, eo_3_2i, eo_3_2r, eo_53, eo_0_2, v11_4, eo_15, eo_52, bk_117_2, bk_117_3, eo_3_3n, eo_3_3i, eo_3_3r, eo_10, eo_3_4n, eo_3_4i, eo_3_4r, eo_0_4, eo_19, bk_117_5, bk_117_6, eo_3_5n, eo_3_5i, eo_3_5r, eo_0_5, g11_28_3, eo_0_3, bk_117_7, bk_117_8, eo_23_4n, eo_23_4i, eo_23_4r, bk_117_9, bk_117_10, bk_117_11, eo_23_2n, eo_23_2i, eo_23_2r, bk_117_12, bk_117_13, bk_117_14, eo_56i, a32_185, a33_185, c_114, c_115, ev_ua_ne, ev_up_ua, e1, Int.add_zero, Int.add_sub_cancel, Int.reduceAdd, Int.reduceMul, Int.reduceSub, Int.reduceNeg, ev_wr_id]) | ((first | with_reducible refine br_40 ?_ ?_ | with_reducible refine br_41 ?_ ?_ | with_reducible refine br_42 ?_ ?_ | with_reducible refine br_43 ?_ ?_ | with_reducible refine br_44 ?_ ?_ | with_reducible refine br_45 ?_ ?_ | with_reducible refine br_46 ?_ ?_ | with_reducible refine br_47 ?_ ?_ | with_reducible refine br_48 ?_ ?_ | with_reducible refine br_49 ?_ ?_ | with_reducible refine br_50 ?_ ?_ | with_reducible refine br_51 ?_ ?_) <;> intro h <;> try simp (disch := first | assumption | exact Nat.le_of_ble_eq_true rfl | omega) only [ev_wr_id, not_true_eq_false, not_false_eq_true, Int.reduceEq, Int.reduceLT, Int.reduceLE, and_self, and_true, true_and, and_false, false_and, reduceIte] at h <;> try (exfalso; omega; done)))
      · rw [if_pos (by assumption)] at e
        exact e
      · rw [if_neg (by assumption)] at e
        exact e
theorem c_117 {b n : Int} {σ : ev_M} {ra re : Int → Int} (hb : 0 ≤ b ∧ b < 6) (hn : 0 ≤ n ∧ n ≤ 6) (hnn : σ 183 (89 + 5 * b + 1) = n) (hra : ∀ c, 0 ≤ c → c < n → σ 183 (119 + 30 * b + 5 * c + 1) = ra c ∧ 0 ≤ ra c ∧ ra c ≤ 9) (hre : ∀ c, 0 ≤ c → c < n → σ 183 (119 + 30 * b + 5 * c + 4) = re c ∧ 0 ≤ re c ∧ re c ≤ 127) : ∃ g, EM 117 [.inr (.inl 182), .inl b] σ = some (some (.inl (ev_tr ra re n)), ev_ua σ 185 g) ∧ ∀ q, 0 ≤ q → q < n → g q = ev_sf ra re n n.toNat q := by
  obtain ⟨g, e, hg⟩ := l_117 (σ := σ) hb hn hnn hra hre n.toNat 0 (n - 1) (σ 185) none none none (by omega) (by omega) (fun q h1 h2 => by omega)
  refine ⟨g, ?_, hg⟩
  rw [ev_ua_self] at e
  rw [mm_117]
  repeat' (first | (simp (disch := first | assumption | exact Nat.le_of_ble_eq_true rfl | omega) only [bk_117_0, eo_1_0, eo_0_1, eo_6, v11_3, ev_ki, ev_kv, eo_11, eo_3_2n, eo_3_2i, eo_3_2r, eo_53, eo_0_2, v11_4, eo_15, eo_52, bk_117_2, bk_117_3, eo_3_3n, eo_3_3i, eo_3_3r, eo_10, eo_3_4n, eo_3_4i, eo_3_4r, eo_0_4, eo_19, bk_117_5, bk_117_6, eo_3_5n, eo_3_5i, eo_3_5r, eo_0_5, g11_28_3, eo_0_3, bk_117_7, bk_117_8, eo_23_4n, eo_23_4i, eo_23_4r, bk_117_9, bk_117_10, bk_117_11, eo_23_2n, eo_23_2i, eo_23_2r, bk_117_12, bk_117_13, bk_117_14, eo_56i, a32_185, a33_185, c_114, c_115, hnn, Int.add_zero, Int.add_sub_cancel, Int.reduceAdd, Int.reduceMul, Int.reduceSub, Int.reduceNeg, ev_wr_id]) | ((first | with_reducible refine br_40 ?_ ?_ | with_reducible refine br_41 ?_ ?_ | with_reducible refine br_42 ?_ ?_ | with_reducible refine br_43 ?_ ?_ | with_reducible refine br_44 ?_ ?_ | with_reducible refine br_45 ?_ ?_ | with_reducible refine br_46 ?_ ?_ | with_reducible refine br_47 ?_ ?_ | with_reducible refine br_48 ?_ ?_ | with_reducible refine br_49 ?_ ?_ | with_reducible refine br_50 ?_ ?_ | with_reducible refine br_51 ?_ ?_) <;> intro h <;> try simp (disch := first | assumption | exact Nat.le_of_ble_eq_true rfl | omega) only [ev_wr_id, not_true_eq_false, not_false_eq_true, Int.reduceEq, Int.reduceLT, Int.reduceLE, and_self, and_true, true_and, and_false, false_and, reduceIte] at h <;> try (exfalso; omega; done)))
  exact e
/-- a frame's two rows after a question -/
def ev_fr (σ : ev_M) (f g : Int → Int) : ev_M := ev_ua (ev_ua σ 171 f) 172 g
theorem ev_sf_congr {ra ra' re re' : Int → Int} {n : Int} : ∀ k : Nat, (k : Int) ≤ n → (∀ c, 0 ≤ c → c < n → ra c = ra' c ∧ re c = re' c) → ∀ q, ev_sf ra re n k q = ev_sf ra' re' n k q := by
  intro k
  induction k with
  | zero => intro _ _ q; rfl
  | succ k ih =>
    intro hk h q
    have ih' : ev_sf ra re n k = ev_sf ra' re' n k := funext (ih (by omega) h)
    have hc := h (n - 1 - k) (by omega) (by omega)
    unfold ev_sf
    rw [ih', hc.1, hc.2]
theorem ev_tr_congr {ra ra' re re' : Int → Int} {n : Int} (hn : 0 ≤ n) (h : ∀ c, 0 ≤ c → c < n → ra c = ra' c ∧ re c = re' c) : ev_tr ra re n = ev_tr ra' re' n := by
  unfold ev_tr
  split
  · rfl
  · exact ev_sf_congr n.toNat (by omega) h 0
theorem ev_ra_in {σ : ev_M} {s b y c : Int} (hp : ev_pk σ s b) (hy : 0 ≤ y ∧ y ≤ 1000) (h0 : 0 ≤ c) (h1 : c < σ (s + 11) b) : 0 ≤ ev_ra σ s b y c ∧ ev_ra σ s b y c ≤ 9 := by
  obtain ⟨q1, q2, q3, q4⟩ := hp.2 c h0 h1
  have q5 := ev_mulb hy q3
  unfold ev_ra
  split <;> omega
theorem c_19 {s b y : Int} {σ : ev_M} (hs : ev_S s) (hb : 0 ≤ b ∧ b < 6) (hp : ev_pk σ s b) (hy : 0 ≤ y ∧ y ≤ 1000) : ∃ f g, EM 19 [.inr (.inl 170), .inr (.inl (s + 6)), .inl b, .inl y] σ = some (some (.inl (ev_tr (ev_ra σ s b y) (fun c => σ (s + 16) (b * 6 + c)) (σ (s + 11) b))), ev_fr σ f g) ∧ (∀ o, 0 ≤ o → o < σ (s + 11) b → f o = ev_ra σ s b y o) ∧ ∀ q, 0 ≤ q → q < σ (s + 11) b → g q = ev_sf (ev_ra σ s b y) (fun c => σ (s + 16) (b * 6 + c)) (σ (s + 11) b) (σ (s + 11) b).toNat q := by
  have hs2 := hs
  unfold ev_S at hs2
  obtain ⟨f, e20, hf⟩ := c_20 hs hb hp hy
  have h11 : ∀ z, ev_ua σ 171 f (s + 11) z = σ (s + 11) z := fun z => ev_ua_ne (by omega)
  have h16 : ∀ z, ev_ua σ 171 f (s + 16) z = σ (s + 16) z := fun z => ev_ua_ne (by omega)
  have h171 : ev_ua σ 171 f 171 = f := by funext z; exact ev_ua_eq
  obtain ⟨g, e21, hg⟩ := c_21 (σ := ev_ua σ 171 f) (re := fun c => σ (s + 16) (b * 6 + c)) hs hb (by rw [h11]; exact hp.1) (by
    rw [h11, h171]
    intro c h0 h1
    rw [hf c h0 h1]
    exact ev_ra_in hp hy h0 h1) (by
    rw [h11]
    intro c h0 h1
    exact ⟨h16 _, (hp.2 c h0 h1).2.2.2⟩)
  rw [h11, h171] at e21 hg
  have ht : ev_tr f (fun c => σ (s + 16) (b * 6 + c)) (σ (s + 11) b) = ev_tr (ev_ra σ s b y) (fun c => σ (s + 16) (b * 6 + c)) (σ (s + 11) b) := ev_tr_congr hp.1.1 (fun c h0 h1 => ⟨hf c h0 h1, rfl⟩)
  rw [ht] at e21
  refine ⟨f, g, ?_, hf, fun q h0 h1 => ?_⟩
  · rw [mm_19]
    repeat' (first | (simp (disch := first | assumption | exact Nat.le_of_ble_eq_true rfl | omega) only [bk_19_0, eo_1_0, eo_1_1, eo_0_2, eo_0_3, v2_4, ev_ki, ev_kv, v2_3, eo_56i, e20, e21, Int.add_zero, Int.add_sub_cancel, Int.reduceAdd, Int.reduceMul, Int.reduceSub, Int.reduceNeg, ev_wr_id]) | ((first | with_reducible refine br_40 ?_ ?_ | with_reducible refine br_41 ?_ ?_ | with_reducible refine br_42 ?_ ?_ | with_reducible refine br_43 ?_ ?_ | with_reducible refine br_44 ?_ ?_ | with_reducible refine br_45 ?_ ?_ | with_reducible refine br_46 ?_ ?_ | with_reducible refine br_47 ?_ ?_ | with_reducible refine br_48 ?_ ?_ | with_reducible refine br_49 ?_ ?_ | with_reducible refine br_50 ?_ ?_ | with_reducible refine br_51 ?_ ?_) <;> intro h <;> try simp (disch := first | assumption | exact Nat.le_of_ble_eq_true rfl | omega) only [ev_wr_id, not_true_eq_false, not_false_eq_true, Int.reduceEq, Int.reduceLT, Int.reduceLE, and_self, and_true, true_and, and_false, false_and, reduceIte] at h <;> try (exfalso; omega; done)))
    rfl
  · rw [hg q h0 h1]
    have h9 := hp.1.1
    exact ev_sf_congr _ (by omega) (fun c h0 h1 => ⟨hf c h0 h1, rfl⟩) q
theorem ev_ra_0 {σ : ev_M} {s b c : Int} (hp : ev_pk σ s b) (h0 : 0 ≤ c) (h1 : c < σ (s + 11) b) : ev_ra σ s b 0 c = σ (s + 13) (b * 6 + c) := by
  obtain ⟨q1, q2, q3, q4⟩ := hp.2 c h0 h1
  unfold ev_ra
  rw [Int.zero_mul]
  split <;> omega
/-- the true rating of a bridge of a state -/
def ev_rt (σ : ev_M) (s b : Int) : Int := ev_tr (fun c => σ (s + 13) (b * 6 + c)) (fun c => σ (s + 16) (b * 6 + c)) (σ (s + 11) b)
theorem c_18 {s b : Int} {σ : ev_M} (hs : ev_S s) (hb : 0 ≤ b ∧ b < 6) (hp : ev_pk σ s b) : ∃ f g, EM 18 [.inr (.inl 170), .inr (.inl (s + 6)), .inl b] σ = some (some (.inl (ev_rt σ s b)), ev_fr σ f g) ∧ (∀ o, 0 ≤ o → o < σ (s + 11) b → f o = σ (s + 13) (b * 6 + o)) ∧ ∀ q, 0 ≤ q → q < σ (s + 11) b → g q = ev_sf (fun c => σ (s + 13) (b * 6 + c)) (fun c => σ (s + 16) (b * 6 + c)) (σ (s + 11) b) (σ (s + 11) b).toNat q := by
  have hs2 := hs
  unfold ev_S at hs2
  obtain ⟨f, e20, hf⟩ := c_20 (y := 0) hs hb hp (by omega)
  have h11 : ∀ z, ev_ua σ 171 f (s + 11) z = σ (s + 11) z := fun z => ev_ua_ne (by omega)
  have h16 : ∀ z, ev_ua σ 171 f (s + 16) z = σ (s + 16) z := fun z => ev_ua_ne (by omega)
  have h171 : ev_ua σ 171 f 171 = f := by funext z; exact ev_ua_eq
  have hf2 : ∀ o, 0 ≤ o → o < σ (s + 11) b → f o = σ (s + 13) (b * 6 + o) := fun o h0 h1 => (hf o h0 h1).trans (ev_ra_0 hp h0 h1)
  obtain ⟨g, e21, hg⟩ := c_21 (σ := ev_ua σ 171 f) (re := fun c => σ (s + 16) (b * 6 + c)) hs hb (by rw [h11]; exact hp.1) (by
    rw [h11, h171]
    intro c h0 h1
    rw [hf2 c h0 h1]
    exact (hp.2 c h0 h1).1) (by
    rw [h11]
    intro c h0 h1
    exact ⟨h16 _, (hp.2 c h0 h1).2.2.2⟩)
  rw [h11, h171] at e21 hg
  have ht : ev_tr f (fun c => σ (s + 16) (b * 6 + c)) (σ (s + 11) b) = ev_rt σ s b := ev_tr_congr hp.1.1 (fun c h0 h1 => ⟨hf2 c h0 h1, rfl⟩)
  rw [ht] at e21
  refine ⟨f, g, ?_, hf2, fun q h0 h1 => ?_⟩
  · rw [mm_18]
    repeat' (first | (simp (disch := first | assumption | exact Nat.le_of_ble_eq_true rfl | omega) only [bk_18_0, eo_1_0, eo_1_1, eo_0_2, eo_6, v2_4, ev_ki, ev_kv, v2_3, eo_56i, e20, e21, Int.add_zero, Int.add_sub_cancel, Int.reduceAdd, Int.reduceMul, Int.reduceSub, Int.reduceNeg, ev_wr_id]) | ((first | with_reducible refine br_40 ?_ ?_ | with_reducible refine br_41 ?_ ?_ | with_reducible refine br_42 ?_ ?_ | with_reducible refine br_43 ?_ ?_ | with_reducible refine br_44 ?_ ?_ | with_reducible refine br_45 ?_ ?_ | with_reducible refine br_46 ?_ ?_ | with_reducible refine br_47 ?_ ?_ | with_reducible refine br_48 ?_ ?_ | with_reducible refine br_49 ?_ ?_ | with_reducible refine br_50 ?_ ?_ | with_reducible refine br_51 ?_ ?_) <;> intro h <;> try simp (disch := first | assumption | exact Nat.le_of_ble_eq_true rfl | omega) only [ev_wr_id, not_true_eq_false, not_false_eq_true, Int.reduceEq, Int.reduceLT, Int.reduceLE, and_self, and_true, true_and, and_false, false_and, reduceIte] at h <;> try (exfalso; omega; done)))
    rfl
  · rw [hg q h0 h1]
    have h9 := hp.1.1
    exact ev_sf_congr _ (by omega) (fun c h0 h1 => ⟨hf2 c h0 h1, rfl⟩) q
