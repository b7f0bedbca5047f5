theorem l_13i {T : Int → Int} {b n y : Int} (hI : st_I T) (hb0 : 0 ≤ b ∧ b < T 2) (hn : T (89 + 5 * b + 1) = n) (hy : 0 ≤ y ∧ y ≤ 50) : ∀ (k : Nat) (c : Int) (p4 : Option ev_V) (σ : ev_M), 0 ≤ c → c + k = n → st_G T (st_T σ ev_n) (fun b' c' => if b' < b ∨ (b' = b ∧ c' < c) then y else 0) → ∃ σ1 q4, EB 13 2 [some (.inr (.inl (ev_n + 6))), some (.inl y), some (.inl b), some (.inl c), p4] [] σ = EB 13 3 [some (.inr (.inl (ev_n + 6))), some (.inl y), some (.inl b), some (.inl n), q4] [] σ1 ∧ (∀ i, i ≠ ev_n + 13 → i ≠ ev_n + 14 → σ1 i = σ i) ∧ st_G T (st_T σ1 ev_n) (fun b' c' => if b' < b ∨ (b' = b ∧ c' < n) then y else 0) := by
  have hI0 := hI
  have hlo := fun U f (h : st_G T U f) => st_G_lo hI h
  obtain ⟨⟨i0, i1, i2, i3, i4, i5⟩, hr, hb, hc, hp, hl, hq⟩ := hI
  have hbb := hb b hb0.1 hb0.2
  have hSn := ev_S_n
  have hn0 : ev_n = 0 := rfl
  intro k
  induction k with
  | zero =>
    intro c p4 σ h0 h1 hG
    obtain rfl : c = n := by omega
    have e11 : σ (ev_n + 11) b = c := by rw [tr_11 (σ := σ) (s := ev_n) (b := b) (by omega), st_G_lo hI0 hG _ (by omega) (by omega), hn]
    refine ⟨σ, p4, ?_, fun _ _ _ => rfl, hG⟩
    rw [bk_13_2]
    repeat' (first | (simp (disch := first | assumption | exact Nat.le_of_ble_eq_true rfl | omega) only [bk_13_0, eo_6, eo_3_2n, eo_3_2i, eo_3_2r, eo_53, eo_0_2, eo_1_0, g1_27, eo_3_3n, eo_3_3i, eo_3_3r, eo_0_3, g1_28_5, eo_60_2, ev_ki, ev_kv, eo_3_4n, eo_3_4i, eo_3_4r, g1_28_7, eo_0_4, eo_0_1, v1_3, g1_28_8, g1_28_9, eo_12, eo_10, eo_14d, ev_rem_id, eo_23_3n, eo_23_3i, eo_23_3r, eo_52, eo_23_2n, eo_23_2i, eo_23_2r, bk_13_4, eo_58, a32_s11, a33_s11, a32_s13, a33_s13, a32_s14, a33_s14, a32_s15, a33_s15, c_5, c_12, e11, Int.add_zero, Int.add_sub_cancel, Int.reduceAdd, Int.reduceMul, Int.reduceSub, Int.reduceNeg, ev_wr_id]) | ((first | with_reducible refine br_40 ?_ ?_ | with_reducible refine br_41 ?_ ?_ | with_reducible refine br_42 ?_ ?_ | with_reducible refine br_43 ?_ ?_ | with_reducible refine br_44 ?_ ?_ | with_reducible refine br_45 ?_ ?_ | with_reducible refine br_46 ?_ ?_ | with_reducible refine br_47 ?_ ?_ | with_reducible refine br_48 ?_ ?_ | with_reducible refine br_49 ?_ ?_ | with_reducible refine br_50 ?_ ?_ | with_reducible refine br_51 ?_ ?_) <;> intro h <;> try simp (disch := first | assumption | exact Nat.le_of_ble_eq_true rfl | omega) only [ev_wr_id, not_true_eq_false, not_false_eq_true, Int.reduceEq, Int.reduceLT, Int.reduceLE, and_self, and_true, true_and, and_false, false_and, reduceIte] at h <;> try (exfalso; omega; done)))
  | succ k ih =>
    intro c p4 σ h0 h1 hG
    have e11 : σ (ev_n + 11) b = n := by rw [tr_11 (σ := σ) (s := ev_n) (b := b) (by omega), st_G_lo hI0 hG _ (by omega) (by omega), hn]
    have hpc := hp b c hb0.1 hb0.2 h0 (by omega)
    have hrw := st_rw_in (T := T) (b := b) (c := c) (y := 0) hpc.2.1 hpc.2.2.1 hpc.2.2.2.1 (by omega)
    have g := hG.1 b c hb0.1 hb0.2 h0 (by omega)
    have g0 := (st_G_0 hI0).1 b c hb0.1 hb0.2 h0 (by omega)
    dsimp only at g g0
    rw [if_neg (by omega)] at g
    have e13 : σ (ev_n + 13) (b * 6 + c) = T (119 + 30 * b + 5 * c + 1) := by rw [tr_13 (σ := σ) (s := ev_n) (b := b) (c := c) (by omega) (by omega), g.1, g0.1]
    have e14 : σ (ev_n + 14) (b * 6 + c) = T (119 + 30 * b + 5 * c + 2) := by rw [tr_14 (σ := σ) (s := ev_n) (b := b) (c := c) (by omega) (by omega), g.2, g0.2]
    have e15 : σ (ev_n + 15) (b * 6 + c) = T (119 + 30 * b + 5 * c + 3) := by rw [tr_15 (σ := σ) (s := ev_n) (b := b) (c := c) (by omega) (by omega), st_G_p hI0 hG (by omega) (by omega) (by omega)]
    have q5 := ev_mulb (y := y) (r := T (119 + 30 * b + 5 * c + 3)) (by omega) hpc.2.2.2.1
    have e12 := c_12 (σ := σ) (s := ev_n) (p := b * 6 + c) (y := y) hSn (by omega) (by omega) (by omega) (by rw [e15]; exact q5)
    rw [e13, e14, e15] at e12
    obtain ⟨v, hv⟩ : ∃ v, v = st_ra T b c y := ⟨_, rfl⟩
    have e12v : EM 12 [.inr (.inl (ev_n + 6)), .inl (b * 6 + c), .inl y] σ = some (some (.inl v), σ) := by rw [hv]; exact e12
    obtain ⟨w, hw⟩ : ∃ w, w = st_we T b c y := ⟨_, rfl⟩
    have hw2 : (T (119 + 30 * b + 5 * c + 2) + y * T (119 + 30 * b + 5 * c + 3)) % 100 = w := by rw [hw]; rfl
    have hE2 : st_E (ev_u1 (ev_u1 (st_T σ ev_n) (119 + 30 * b + 5 * c + 1) v) (119 + 30 * b + 5 * c + 2) w) (st_T (ev_up (ev_up σ (ev_n + 13) (b * 6 + c) v) (ev_n + 14) (b * 6 + c) w) ev_n) := st_E_s (st_E_t (tw_14 (by omega) (by omega)) (st_E_u (tw_13 (by omega) (by omega))))
    have hG2 := st_G_up hI0 hG hb0 (show 0 ≤ c ∧ c < T (89 + 5 * b + 1) by omega) (y := y)
    rw [← hv, ← hw] at hG2
    obtain ⟨σ1, q4, e, hF, hG3⟩ := ih (c + 1) (some (.inl (b * 6 + c))) (ev_up (ev_up σ (ev_n + 13) (b * 6 + c) v) (ev_n + 14) (b * 6 + c) w) (by omega) (by omega) (st_G_f (st_G_EU hI0 hG2 hE2) (fun b' c' _ _ _ _ => by
      by_cases x1 : b' = b ∧ c' = c
      · rw [if_pos x1, if_pos (by omega)]
      · rw [if_neg x1]
        by_cases x2 : b' < b ∨ (b' = b ∧ c' < c)
        · rw [if_pos x2, if_pos (by omega)]
        · rw [if_neg x2, if_neg (by omega)]))
    refine ⟨σ1, q4, ?_, fun i h0 h1 => by rw [hF i h0 h1]; funext z; simp (disch := omega) only [ev_up_ne], hG3⟩
    rw [← e, bk_13_2]
    repeat' (first | (simp (disch := first | assumption | exact Nat.le_of_ble_eq_true rfl | omega) only [bk_13_0, eo_6, eo_3_2n, eo_3_2i, eo_3_2r, eo_53, eo_0_2, eo_1_0, g1_27, eo_3_3n, eo_3_3i, eo_3_3r, eo_0_3, g1_28_5, eo_60_2, ev_ki, ev_kv, eo_3_4n, eo_3_4i, eo_3_4r, g1_28_7, eo_0_4, eo_0_1, v1_3, g1_28_8, g1_28_9, eo_12, eo_10, eo_14d, ev_rem_id, eo_23_3n, eo_23_3i, eo_23_3r, eo_52, eo_23_2n, eo_23_2i, eo_23_2r, bk_13_4, eo_58, a32_s11, a33_s11, a32_s13, a33_s13, a32_s14, a33_s14, a32_s15, a33_s15, c_5, e11, e12v, ev_up_ne, e14, e15, hw2, Int.add_zero, Int.add_sub_cancel, Int.reduceAdd, Int.reduceMul, Int.reduceSub, Int.reduceNeg, ev_wr_id]) | ((first | with_reducible refine br_40 ?_ ?_ | with_reducible refine br_41 ?_ ?_ | with_reducible refine br_42 ?_ ?_ | with_reducible refine br_43 ?_ ?_ | with_reducible refine br_44 ?_ ?_ | with_reducible refine br_45 ?_ ?_ | with_reducible refine br_46 ?_ ?_ | with_reducible refine br_47 ?_ ?_ | with_reducible refine br_48 ?_ ?_ | with_reducible refine br_49 ?_ ?_ | with_reducible refine br_50 ?_ ?_ | with_reducible refine br_51 ?_ ?_) <;> intro h <;> try simp (disch := first | assumption | exact Nat.le_of_ble_eq_true rfl | omega) only [ev_wr_id, not_true_eq_false, not_false_eq_true, Int.reduceEq, Int.reduceLT, Int.reduceLE, and_self, and_true, true_and, and_false, false_and, reduceIte] at h <;> try (exfalso; omega; done)))
theorem l_13 {T : Int → Int} {y : Int} (hI : st_I T) (hy : 0 ≤ y ∧ y ≤ 50) : ∀ (k : Nat) (b : Int) (p3 p4 : Option ev_V) (σ : ev_M), 0 ≤ b → b + k = T 2 → st_G T (st_T σ ev_n) (fun b' _ => if b' < b then y else 0) → ∃ σ1, EB 13 1 [some (.inr (.inl (ev_n + 6))), some (.inl y), some (.inl b), p3, p4] [] σ = some (none, σ1) ∧ (∀ i, i ≠ ev_n + 13 → i ≠ ev_n + 14 → σ1 i = σ i) ∧ st_G T (st_T σ1 ev_n) (fun _ _ => y) := by
  have hSn := ev_S_n
  have hn0 : ev_n = 0 := rfl
  have i2 := hI.1.2.2.1
  have hb := hI.2.2.1
  intro k
  induction k with
  | zero =>
    intro b p3 p4 σ h0 h1 hG
    have e6 : σ (ev_n + 6) 0 = b := by rw [tr_n2 (σ := σ) (s := ev_n), st_G_lo hI hG _ (by omega) (by omega)]; omega
    refine ⟨σ, ?_, fun _ _ _ => rfl, st_G_f hG (fun b' c' _ _ _ _ => if_pos (by omega))⟩
    rw [bk_13_1]
    repeat' (first | (simp (disch := first | assumption | exact Nat.le_of_ble_eq_true rfl | omega) only [bk_13_0, eo_6, eo_3_2n, eo_3_2i, eo_3_2r, eo_53, eo_0_2, eo_1_0, g1_27, eo_3_3n, eo_3_3i, eo_3_3r, eo_0_3, g1_28_5, eo_60_2, ev_ki, ev_kv, eo_3_4n, eo_3_4i, eo_3_4r, g1_28_7, eo_0_4, eo_0_1, v1_3, g1_28_8, g1_28_9, eo_12, eo_10, eo_14d, ev_rem_id, eo_23_3n, eo_23_3i, eo_23_3r, eo_52, bk_13_3, eo_23_2n, eo_23_2i, eo_23_2r, bk_13_4, eo_58, a32_s11, a33_s11, a32_s13, a33_s13, a32_s14, a33_s14, a32_s15, a33_s15, c_5, c_12, e6, Int.add_zero, Int.add_sub_cancel, Int.reduceAdd, Int.reduceMul, Int.reduceSub, Int.reduceNeg, ev_wr_id]) | ((first | with_reducible refine br_40 ?_ ?_ | with_reducible refine br_41 ?_ ?_ | with_reducible refine br_42 ?_ ?_ | with_reducible refine br_43 ?_ ?_ | with_reducible refine br_44 ?_ ?_ | with_reducible refine br_45 ?_ ?_ | with_reducible refine br_46 ?_ ?_ | with_reducible refine br_47 ?_ ?_ | with_reducible refine br_48 ?_ ?_ | with_reducible refine br_49 ?_ ?_ | with_reducible refine br_50 ?_ ?_ | with_reducible refine br_51 ?_ ?_) <;> intro h <;> try simp (disch := first | assumption | exact Nat.le_of_ble_eq_true rfl | omega) only [ev_wr_id, not_true_eq_false, not_false_eq_true, Int.reduceEq, Int.reduceLT, Int.reduceLE, and_self, and_true, true_and, and_false, false_and, reduceIte] at h <;> try (exfalso; omega; done)))
  | succ k ih =>
    intro b p3 p4 σ h0 h1 hG
    have e6 : σ (ev_n + 6) 0 = T 2 := by rw [tr_n2 (σ := σ) (s := ev_n), st_G_lo hI hG _ (by omega) (by omega)]
    have hbb := hb b h0 (by omega)
    obtain ⟨σ1, q4, e, hF, hG1⟩ := l_13i hI (b := b) (n := T (89 + 5 * b + 1)) (y := y) (by omega) rfl hy (T (89 + 5 * b + 1)).toNat 0 p4 σ (by omega) (by omega) (st_G_f hG (fun b' c' _ _ _ _ => by
      by_cases x : b' < b
      · rw [if_pos x, if_pos (by omega)]
      · rw [if_neg x, if_neg (by omega)]))
    obtain ⟨σ2, e2, hF2, hG2⟩ := ih (b + 1) (some (.inl (T (89 + 5 * b + 1)))) q4 σ1 (by omega) (by omega) (st_G_f hG1 (fun b' c' _ _ _ _ => by
      by_cases x : b' < b + 1
      · by_cases x2 : b' = b
        · subst x2
          rw [if_pos x, if_pos (by omega)]
        · rw [if_pos x, if_pos (by omega)]
      · rw [if_neg x, if_neg (by omega)]))
    refine ⟨σ2, ?_, fun i q0 q1 => by rw [hF2 i q0 q1, hF i q0 q1], hG2⟩
    rw [bk_13_1]
    repeat' (first | (simp (disch := first | assumption | exact Nat.le_of_ble_eq_true rfl | omega) only [bk_13_0, eo_6, eo_3_2n, eo_3_2i, eo_3_2r, eo_53, eo_0_2, eo_1_0, g1_27, eo_3_3n, eo_3_3i, eo_3_3r, eo_0_3, g1_28_5, eo_60_2, ev_ki, ev_kv, eo_3_4n, eo_3_4i, eo_3_4r, g1_28_7, eo_0_4, eo_0_1, v1_3, g1_28_8, g1_28_9, eo_12, eo_10, eo_14d, ev_rem_id, eo_23_3n, eo_23_3i, eo_23_3r, eo_52, bk_13_3, eo_23_2n, eo_23_2i, eo_23_2r, bk_13_4, eo_58, a32_s11, a33_s11, a32_s13, a33_s13, a32_s14, a33_s14, a32_s15, a33_s15, c_5, c_12, e6, e, Int.add_zero, Int.add_sub_cancel, Int.reduceAdd, Int.reduceMul, Int.reduceSub, Int.reduceNeg, ev_wr_id]) | ((first | with_reducible refine br_40 ?_ ?_ | with_reducible refine br_41 ?_ ?_ | with_reducible refine br_42 ?_ ?_ | with_reducible refine br_43 ?_ ?_ | with_reducible refine br_44 ?_ ?_ | with_reducible refine br_45 ?_ ?_ | with_reducible refine br_46 ?_ ?_ | with_reducible refine br_47 ?_ ?_ | with_reducible refine br_48 ?_ ?_ | with_reducible refine br_49 ?_ ?_ | with_reducible refine br_50 ?_ ?_ | with_reducible refine br_51 ?_ ?_) <;> intro h <;> try simp (disch := first | assumption | exact Nat.le_of_ble_eq_true rfl | omega) only [ev_wr_id, not_true_eq_false, not_false_eq_true, Int.reduceEq, Int.reduceLT, Int.reduceLE, and_self, and_true, true_and, and_false, false_and, reduceIte] at h <;> try (exfalso; omega; done)))
    exact e2
theorem c_13 {T : Int → Int} {y : Int} {σ : ev_M} (hI : st_I T) (hy : 0 ≤ y ∧ y ≤ 50) (hE : st_E (st_T σ ev_n) T) : ∃ σ1, EM 13 [.inr (.inl (ev_n + 6)), .inl y] σ = some (none, σ1) ∧ (∀ i, i ≠ ev_n + 13 → i ≠ ev_n + 14 → σ1 i = σ i) ∧ st_G T (st_T σ1 ev_n) (fun _ _ => y) := by
  have i2 := hI.1.2.2.1
  have hSn := ev_S_n
  obtain ⟨σ1, e, h⟩ := l_13 hI hy (T 2).toNat 0 none none σ (by omega) (by omega) (st_G_f (st_G_EU hI (st_G_0 hI) (st_E_s hE)) (fun b' c' _ _ _ _ => by rw [if_neg (by omega)]))
  refine ⟨σ1, ?_, h⟩
  rw [mm_13]
  repeat' (first | (simp (disch := first | assumption | exact Nat.le_of_ble_eq_true rfl | omega) only [bk_13_0, eo_6, eo_3_2n, eo_3_2i, eo_3_2r, eo_53, eo_0_2, eo_1_0, g1_27, eo_3_3n, eo_3_3i, eo_3_3r, eo_0_3, g1_28_5, eo_60_2, ev_ki, ev_kv, eo_3_4n, eo_3_4i, eo_3_4r, g1_28_7, eo_0_4, eo_0_1, v1_3, g1_28_8, g1_28_9, eo_12, eo_10, eo_14d, ev_rem_id, eo_23_3n, eo_23_3i, eo_23_3r, eo_52, bk_13_3, eo_23_2n, eo_23_2i, eo_23_2r, bk_13_4, eo_58, a32_s11, a33_s11, a32_s13, a33_s13, a32_s14, a33_s14, a32_s15, a33_s15, c_5, c_12, Int.add_zero, Int.add_sub_cancel, Int.reduceAdd, Int.reduceMul, Int.reduceSub, Int.reduceNeg, ev_wr_id]) | ((first | with_reducible refine br_40 ?_ ?_ | with_reducible refine br_41 ?_ ?_ | with_reducible refine br_42 ?_ ?_ | with_reducible refine br_43 ?_ ?_ | with_reducible refine br_44 ?_ ?_ | with_reducible refine br_45 ?_ ?_ | with_reducible refine br_46 ?_ ?_ | with_reducible refine br_47 ?_ ?_ | with_reducible refine br_48 ?_ ?_ | with_reducible refine br_49 ?_ ?_ | with_reducible refine br_50 ?_ ?_ | with_reducible refine br_51 ?_ ?_) <;> intro h <;> try simp (disch := first | assumption | exact Nat.le_of_ble_eq_true rfl | omega) only [ev_wr_id, not_true_eq_false, not_false_eq_true, Int.reduceEq, Int.reduceLT, Int.reduceLE, and_self, and_true, true_and, and_false, false_and, reduceIte] at h <;> try (exfalso; omega; done)))
  exact e
theorem ev_u1_cm {f : Int → Int} {a b v w : Int} (h : a ≠ b) : ev_u1 (ev_u1 f a v) b w = ev_u1 (ev_u1 f b w) a v := by
  funext x
  unfold ev_u1
  by_cases c : x = b
  · subst c
    simp [Ne.symm h]
  · simp [c]
