/-! strengths: the class's take and bear, the reference's rates -/
def ev_ra (σ : ev_M) (s b y c : Int) : Int := if 0 < σ (s + 13) (b * 6 + c) - (σ (s + 14) (b * 6 + c) + y * σ (s + 15) (b * 6 + c)) / 100 then σ (s + 13) (b * 6 + c) - (σ (s + 14) (b * 6 + c) + y * σ (s + 15) (b * 6 + c)) / 100 else 0
/-- a bridge's components are as they should be -/
def ev_pk (σ : ev_M) (s b : Int) : Prop := (0 ≤ σ (s + 11) b ∧ σ (s + 11) b ≤ 6) ∧ ∀ c, 0 ≤ c → c < σ (s + 11) b → (0 ≤ σ (s + 13) (b * 6 + c) ∧ σ (s + 13) (b * 6 + c) ≤ 9) ∧ (0 ≤ σ (s + 14) (b * 6 + c) ∧ σ (s + 14) (b * 6 + c) ≤ 99) ∧ (0 ≤ σ (s + 15) (b * 6 + c) ∧ σ (s + 15) (b * 6 + c) ≤ 60) ∧ (0 ≤ σ (s + 16) (b * 6 + c) ∧ σ (s + 16) (b * 6 + c) ≤ 127)
theorem ev_mulb {y r : Int} (hy : 0 ≤ y ∧ y ≤ 1000) (hr : 0 ≤ r ∧ r ≤ 60) : 0 ≤ y * r ∧ y * r ≤ 60000 := ⟨Int.mul_nonneg hy.1 hr.1, by
  have := Int.mul_le_mul hy.2 hr.2 hr.1 (by omega)
  omega⟩
theorem l_20 {s b y : Int} {σ : ev_M} (hs : ev_S s) (hb : 0 ≤ b ∧ b < 6) (hp : ev_pk σ s b) (hy : 0 ≤ y ∧ y ≤ 1000) : ∀ (k : Nat) (c : Int) (f : Int → Int), 0 ≤ c → c ≤ σ (s + 11) b → σ (s + 11) b - c ≤ k → (∀ o, 0 ≤ o → o < c → f o = ev_ra σ s b y o) → ∃ g, EB 20 1 [some (.inr (.inl 170)), some (.inr (.inl (s + 6))), some (.inl b), some (.inl y), some (.inl c)] [] (ev_ua σ 171 f) = some (none, ev_ua σ 171 g) ∧ ∀ o, 0 ≤ o → o < σ (s + 11) b → g o = ev_ra σ s b y o := by
  have hs2 := hs
  unfold ev_S at hs2
  obtain ⟨hn, hp⟩ := hp
  intro k
  induction k with
  | zero =>
    intro c f h0 h1 h2 h3
    refine ⟨f, ?_, fun o ho hol => h3 o ho (by omega)⟩
    rw [bk_20_1]
    repeat' (first | (simp (disch := first | assumption | exact Nat.le_of_ble_eq_true rfl | omega) only [bk_20_0, eo_6, eo_3_4n, eo_3_4i, eo_3_4r, eo_53, eo_0_4, eo_1_1, g1_28_5, eo_0_2, eo_1_0, g2_28_0, eo_60_2, ev_ki, ev_kv, eo_0_3, v1_3, eo_23_4n, eo_23_4i, eo_23_4r, eo_52, bk_20_2, eo_58, a32_s11, a33_s11, a32_171, a33_171, c_5, ev_ua_ne, Int.add_zero, Int.add_sub_cancel, Int.reduceAdd, Int.reduceMul, Int.reduceSub, Int.reduceNeg, ev_wr_id]) | ((first | with_reducible refine br_40 ?_ ?_ | with_reducible refine br_41 ?_ ?_ | with_reducible refine br_42 ?_ ?_ | with_reducible refine br_43 ?_ ?_ | with_reducible refine br_44 ?_ ?_ | with_reducible refine br_45 ?_ ?_ | with_reducible refine br_46 ?_ ?_ | with_reducible refine br_47 ?_ ?_ | with_reducible refine br_48 ?_ ?_ | with_reducible refine br_49 ?_ ?_ | with_reducible refine br_50 ?_ ?_ | with_reducible refine br_51 ?_ ?_) <;> intro h <;> try simp (disch := first | assumption | exact Nat.le_of_ble_eq_true rfl | omega) only [ev_wr_id, not_true_eq_false, not_false_eq_true, Int.reduceEq, Int.reduceLT, Int.reduceLE, and_self, and_true, true_and, and_false, false_and, reduceIte] at h <;> try (exfalso; omega; done)))
  | succ k ih =>
    intro c f h0 h1 h2 h3
    by_cases hc : c < σ (s + 11) b
    · obtain ⟨q1, q2, q3, q4⟩ := hp c h0 hc
      obtain ⟨g, e, hg⟩ := ih (c + 1) (ev_u1 f c (ev_ra σ s b y c)) (by omega) (by omega) (by omega) (fun o ho hol => by
        by_cases hoc : o = c
        · rw [ev_u1_eq hoc, hoc]
        · rw [ev_u1_ne hoc]
          exact h3 o ho (by omega))
      refine ⟨g, ?_, hg⟩
      have q5 := ev_mulb hy q3
      have e12 : EM 12 [.inr (.inl (s + 6)), .inl (b * 6 + c), .inl y] (ev_ua σ 171 f) = some (some (.inl (ev_ra σ s b y c)), ev_ua σ 171 f) := by
        have h13 : ∀ z, ev_ua σ 171 f (s + 13) z = σ (s + 13) z := fun z => ev_ua_ne (by omega)
        have h14 : ∀ z, ev_ua σ 171 f (s + 14) z = σ (s + 14) z := fun z => ev_ua_ne (by omega)
        have h15 : ∀ z, ev_ua σ 171 f (s + 15) z = σ (s + 15) z := fun z => ev_ua_ne (by omega)
        have := c_12 (σ := ev_ua σ 171 f) (p := b * 6 + c) (y := y) hs (by omega) (by rw [h13]; exact q1) (by rw [h14]; exact q2) (by rw [h15]; exact q5)
        rw [h13, h14, h15] at this
        exact this
      rw [bk_20_1]
      repeat' (first | (simp (disch := first | assumption | exact Nat.le_of_ble_eq_true rfl | omega) only [bk_20_0, eo_6, eo_3_4n, eo_3_4i, eo_3_4r, eo_53, eo_0_4, eo_1_1, g1_28_5, eo_0_2, eo_1_0, g2_28_0, eo_60_2, ev_ki, ev_kv, eo_0_3, v1_3, eo_23_4n, eo_23_4i, eo_23_4r, eo_52, bk_20_2, eo_58, a32_s11, a33_s11, a32_171, a33_171, c_5, ev_ua_ne, e12, ev_up_ua, Int.add_zero, Int.add_sub_cancel, Int.reduceAdd, Int.reduceMul, Int.reduceSub, Int.reduceNeg, ev_wr_id]) | ((first | with_reducible refine br_40 ?_ ?_ | with_reducible refine br_41 ?_ ?_ | with_reducible refine br_42 ?_ ?_ | with_reducible refine br_43 ?_ ?_ | with_reducible refine br_44 ?_ ?_ | with_reducible refine br_45 ?_ ?_ | with_reducible refine br_46 ?_ ?_ | with_reducible refine br_47 ?_ ?_ | with_reducible refine br_48 ?_ ?_ | with_reducible refine br_49 ?_ ?_ | with_reducible refine br_50 ?_ ?_ | with_reducible refine br_51 ?_ ?_) <;> intro h <;> try simp (disch := first | assumption | exact Nat.le_of_ble_eq_true rfl | omega) only [ev_wr_id, not_true_eq_false, not_false_eq_true, Int.reduceEq, Int.reduceLT, Int.reduceLE, and_self, and_true, true_and, and_false, false_and, reduceIte] at h <;> try (exfalso; omega; done)))
      exact e
    · refine ⟨f, ?_, fun o ho hol => h3 o ho (by omega)⟩
      rw [bk_20_1]
      repeat' (first | (simp (disch := first | assumption | exact Nat.le_of_ble_eq_true rfl | omega) only [bk_20_0, eo_6, eo_3_4n, eo_3_4i, eo_3_4r, eo_53, eo_0_4, eo_1_1, g1_28_5, eo_0_2, eo_1_0, g2_28_0, eo_60_2, ev_ki, ev_kv, eo_0_3, v1_3, eo_23_4n, eo_23_4i, eo_23_4r, eo_52, bk_20_2, eo_58, a32_s11, a33_s11, a32_171, a33_171, c_5, ev_ua_ne, Int.add_zero, Int.add_sub_cancel, Int.reduceAdd, Int.reduceMul, Int.reduceSub, Int.reduceNeg, ev_wr_id]) | ((first | with_reducible refine br_40 ?_ ?_ | with_reducible refine br_41 ?_ ?_ | with_reducible refine br_42 ?_ ?_ | with_reducible refine br_43 ?_ ?_ | with_reducible refine br_44 ?_ ?_ | with_reducible refine br_45 ?_ ?_ | with_reducible refine br_46 ?_ ?_ | with_reducible refine br_47 ?_ ?_ | with_reducible refine br_48 ?_ ?_ | with_reducible refine br_49 ?_ ?_ | with_reducible refine br_50 ?_ ?_ | with_reducible refine br_51 ?_ ?_) <;> intro h <;> try simp (disch := first | assumption | exact Nat.le_of_ble_eq_true rfl | omega) only [ev_wr_id, not_true_eq_false, not_false_eq_true, Int.reduceEq, Int.reduceLT, Int.reduceLE, and_self, and_true, true_and, and_false, false_and, reduceIte] at h <;> try (exfalso; omega; done)))
theorem c_20 {s b y : Int} {σ : ev_M} (hs : ev_S s) (hb : 0 ≤ b ∧ b < 6) (hp : ev_pk σ s b) (hy : 0 ≤ y ∧ y ≤ 1000) : ∃ g, EM 20 [.inr (.inl 170), .inr (.inl (s + 6)), .inl b, .inl y] σ = some (none, ev_ua σ 171 g) ∧ ∀ o, 0 ≤ o → o < σ (s + 11) b → g o = ev_ra σ s b y o := by
  obtain ⟨g, e, hg⟩ := l_20 hs hb hp hy (σ (s + 11) b).toNat 0 (σ 171) (by omega) hp.1.1 (by have := hp.1.1; omega) (fun o h1 h2 => by omega)
  refine ⟨g, ?_, hg⟩
  rw [ev_ua_self] at e
  rw [mm_20]
  repeat' (first | (simp (disch := first | assumption | exact Nat.le_of_ble_eq_true rfl | omega) only [bk_20_0, eo_6, eo_3_4n, eo_3_4i, eo_3_4r, eo_53, eo_0_4, eo_1_1, g1_28_5, eo_0_2, eo_1_0, g2_28_0, eo_60_2, ev_ki, ev_kv, eo_0_3, v1_3, eo_23_4n, eo_23_4i, eo_23_4r, eo_52, bk_20_2, eo_58, a32_s11, a33_s11, a32_171, a33_171, c_5, c_12, Int.add_zero, Int.add_sub_cancel, Int.reduceAdd, Int.reduceMul, Int.reduceSub, Int.reduceNeg, ev_wr_id]) | ((first | with_reducible refine br_40 ?_ ?_ | with_reducible refine br_41 ?_ ?_ | with_reducible refine br_42 ?_ ?_ | with_reducible refine br_43 ?_ ?_ | with_reducible refine br_44 ?_ ?_ | with_reducible refine br_45 ?_ ?_ | with_reducible refine br_46 ?_ ?_ | with_reducible refine br_47 ?_ ?_ | with_reducible refine br_48 ?_ ?_ | with_reducible refine br_49 ?_ ?_ | with_reducible refine br_50 ?_ ?_ | with_reducible refine br_51 ?_ ?_) <;> intro h <;> try simp (disch := first | assumption | exact Nat.le_of_ble_eq_true rfl | omega) only [ev_wr_id, not_true_eq_false, not_false_eq_true, Int.reduceEq, Int.reduceLT, Int.reduceLE, and_self, and_true, true_and, and_false, false_and, reduceIte] at h <;> try (exfalso; omega; done)))
  exact e
theorem l_21i {s b n c r : Int} {σ : ev_M} {f : Int → Int} (hs : ev_S s) (hn : 0 ≤ n ∧ n ≤ 6) (h0 : 0 ≤ c) (hr : 0 ≤ r ∧ r ≤ 127) (hf : ∀ q, c < q → q < n → 0 ≤ f q ∧ f q ≤ 9) : ∀ (k : Nat) (o acc : Int), c < o → o ≤ n → n - o = k → 0 ≤ acc ∧ acc ≤ 9 → EB 21 4 [some (.inr (.inl 170)), some (.inr (.inl (s + 6))), some (.inl b), some (.inl n), some (.inl c), some (.inl r), some (.inl acc), some (.inl o)] [] (ev_ua σ 172 f) = EB 21 6 [some (.inr (.inl 170)), some (.inr (.inl (s + 6))), some (.inl b), some (.inl n), some (.inl c), some (.inl r), some (.inl (ev_fo r f k o acc)), some (.inl n)] [] (ev_ua σ 172 f) := by
  have hs2 := hs
  unfold ev_S at hs2
  intro k
  induction k with
  | zero =>
    intro o acc h1 h2 h3 h4
    obtain rfl : o = n := by omega
    rw [bk_21_4]
    repeat' (first | (simp (disch := first | assumption | exact Nat.le_of_ble_eq_true rfl | omega) only [bk_21_0, eo_1_1, g1_28_5, eo_0_2, eo_3_3n, eo_3_3i, eo_3_3r, eo_0_3, eo_6, eo_11, eo_3_4n, eo_3_4i, eo_3_4r, eo_53, eo_0_4, g1_28_10, eo_60_2, ev_ki, ev_kv, eo_3_5n, eo_3_5i, eo_3_5r, eo_0_5, eo_15, eo_52, bk_21_2, bk_21_3, eo_3_6n, eo_3_6i, eo_3_6r, eo_10, eo_3_7n, eo_3_7i, eo_3_7r, eo_0_7, eo_18, eo_0_6, eo_1_0, g2_28_1, eo_62, bk_21_5, eo_23_7n, eo_23_7i, eo_23_7r, g2_28_0, eo_63, eo_23_4n, eo_23_4i, eo_23_4r, bk_21_7, bk_21_8, bk_21_9, eo_56i, a32_s11, a33_s11, a32_s16, a33_s16, a32_172, a33_172, a32_171, a33_171, c_5, Int.add_zero, Int.add_sub_cancel, Int.reduceAdd, Int.reduceMul, Int.reduceSub, Int.reduceNeg, ev_wr_id]) | ((first | with_reducible refine br_40 ?_ ?_ | with_reducible refine br_41 ?_ ?_ | with_reducible refine br_42 ?_ ?_ | with_reducible refine br_43 ?_ ?_ | with_reducible refine br_44 ?_ ?_ | with_reducible refine br_45 ?_ ?_ | with_reducible refine br_46 ?_ ?_ | with_reducible refine br_47 ?_ ?_ | with_reducible refine br_48 ?_ ?_ | with_reducible refine br_49 ?_ ?_ | with_reducible refine br_50 ?_ ?_ | with_reducible refine br_51 ?_ ?_) <;> intro h <;> try simp (disch := first | assumption | exact Nat.le_of_ble_eq_true rfl | omega) only [ev_wr_id, not_true_eq_false, not_false_eq_true, Int.reduceEq, Int.reduceLT, Int.reduceLE, and_self, and_true, true_and, and_false, false_and, reduceIte] at h <;> try (exfalso; omega; done)))
    rfl
  | succ k ih =>
    intro o acc h1 h2 h3 h4
    obtain ⟨t1, t2, t3, t4, t5, t6⟩ := ev_bits hr (o := o) (by omega)
    have hfo := hf o h1 (by omega)
    rw [bk_21_4]
    repeat' (first | (simp (disch := first | assumption | exact Nat.le_of_ble_eq_true rfl | omega) only [bk_21_0, eo_1_1, g1_28_5, eo_0_2, eo_3_3n, eo_3_3i, eo_3_3r, eo_0_3, eo_6, eo_11, eo_3_4n, eo_3_4i, eo_3_4r, eo_53, eo_0_4, g1_28_10, eo_60_2, ev_ki, ev_kv, eo_3_5n, eo_3_5i, eo_3_5r, eo_0_5, eo_15, eo_52, bk_21_2, bk_21_3, eo_3_6n, eo_3_6i, eo_3_6r, eo_10, eo_3_7n, eo_3_7i, eo_3_7r, eo_0_7, eo_18, eo_0_6, eo_1_0, g2_28_1, eo_62, bk_21_5, eo_23_7n, eo_23_7i, eo_23_7r, g2_28_0, eo_63, eo_23_4n, eo_23_4i, eo_23_4r, bk_21_7, bk_21_8, bk_21_9, eo_56i, a32_s11, a33_s11, a32_s16, a33_s16, a32_172, a33_172, a32_171, a33_171, c_5, ev_ua_eq, Int.add_zero, Int.add_sub_cancel, Int.reduceAdd, Int.reduceMul, Int.reduceSub, Int.reduceNeg, ev_wr_id]) | ((first | with_reducible refine br_40 ?_ ?_ | with_reducible refine br_41 ?_ ?_ | with_reducible refine br_42 ?_ ?_ | with_reducible refine br_43 ?_ ?_ | with_reducible refine br_44 ?_ ?_ | with_reducible refine br_45 ?_ ?_ | with_reducible refine br_46 ?_ ?_ | with_reducible refine br_47 ?_ ?_ | with_reducible refine br_48 ?_ ?_ | with_reducible refine br_49 ?_ ?_ | with_reducible refine br_50 ?_ ?_ | with_reducible refine br_51 ?_ ?_) <;> intro h <;> try simp (disch := first | assumption | exact Nat.le_of_ble_eq_true rfl | omega) only [ev_wr_id, not_true_eq_false, not_false_eq_true, Int.reduceEq, Int.reduceLT, Int.reduceLE, and_self, and_true, true_and, and_false, false_and, reduceIte] at h <;> try (exfalso; omega; done)))
    · have hb : ¬ ev_bt r o := t1.mp (by assumption)
      rw [(ev_fo_s r f k o acc).2 (fun q => hb q.1)]
      exact ih (o + 1) acc (by omega) (by omega) (by omega) h4
    · have hb : ev_bt r o := Classical.not_not.mp (fun q => absurd (t1.mpr q) (by assumption))
      by_cases hlt : acc < f o
      · rw [(ev_fo_s r f k o acc).1 hb hlt, if_pos hlt]
        exact ih (o + 1) (f o) (by omega) (by omega) (by omega) hfo
      · rw [(ev_fo_s r f k o acc).2 (fun q => hlt q.2), if_neg hlt]
        exact ih (o + 1) acc (by omega) (by omega) (by omega) h4
theorem l_21 {s b n : Int} {σ : ev_M} {re : Int → Int} (hs : ev_S s) (hb : 0 ≤ b ∧ b < 6) (hn : 0 ≤ n ∧ n ≤ 6) (hra : ∀ c, 0 ≤ c → c < n → 0 ≤ σ 171 c ∧ σ 171 c ≤ 9) (hre : ∀ c, 0 ≤ c → c < n → σ (s + 16) (b * 6 + c) = re c ∧ 0 ≤ re c ∧ re c ≤ 127) : ∀ (m k : Nat) (c : Int) (f : Int → Int) (p5 p6 p7 : Option ev_V), (k : Int) + m = n → c = m - 1 → (∀ q, c < q → q < n → f q = ev_sf (σ 171) re n k q) → ∃ g, EB 21 1 [some (.inr (.inl 170)), some (.inr (.inl (s + 6))), some (.inl b), some (.inl n), some (.inl c), p5, p6, p7] [] (ev_ua σ 172 f) = some (some (.inl (ev_tr (σ 171) re n)), ev_ua σ 172 g) ∧ ∀ q, 0 ≤ q → q < n → g q = ev_sf (σ 171) re n n.toNat q := by
  have hs2 := hs
  unfold ev_S at hs2
  intro m
  induction m with
  | zero =>
    intro k c f p5 p6 p7 hk hc hf
    obtain rfl : c = -1 := by omega
    have hkn : n.toNat = k := by omega
    refine ⟨f, ?_, fun q h1 h2 => by rw [hkn]; exact hf q (by omega) h2⟩
    rw [bk_21_1]
    repeat' (first | (simp (disch := first | assumption | exact Nat.le_of_ble_eq_true rfl | omega) only [bk_21_0, eo_1_1, g1_28_5, eo_0_2, eo_3_3n, eo_3_3i, eo_3_3r, eo_0_3, eo_6, eo_11, eo_3_4n, eo_3_4i, eo_3_4r, eo_53, eo_0_4, g1_28_10, eo_60_2, ev_ki, ev_kv, eo_3_5n, eo_3_5i, eo_3_5r, eo_0_5, eo_15, eo_52, bk_21_2, bk_21_3, eo_3_6n, eo_3_6i, eo_3_6r, eo_10, eo_3_7n, eo_3_7i, eo_3_7r, eo_0_7, eo_18, eo_0_6, eo_1_0, g2_28_1, eo_62, bk_21_5, eo_23_7n, eo_23_7i, eo_23_7r, bk_21_6, g2_28_0, eo_63, eo_23_4n, eo_23_4i, eo_23_4r, bk_21_7, bk_21_8, bk_21_9, eo_56i, a32_s11, a33_s11, a32_s16, a33_s16, a32_172, a33_172, a32_171, a33_171, c_5, ev_ua_eq, Int.add_zero, Int.add_sub_cancel, Int.reduceAdd, Int.reduceMul, Int.reduceSub, Int.reduceNeg, ev_wr_id]) | ((first | with_reducible refine br_40 ?_ ?_ | with_reducible refine br_41 ?_ ?_ | with_reducible refine br_42 ?_ ?_ | with_reducible refine br_43 ?_ ?_ | with_reducible refine br_44 ?_ ?_ | with_reducible refine br_45 ?_ ?_ | with_reducible refine br_46 ?_ ?_ | with_reducible refine br_47 ?_ ?_ | with_reducible refine br_48 ?_ ?_ | with_reducible refine br_49 ?_ ?_ | with_reducible refine br_50 ?_ ?_ | with_reducible refine br_51 ?_ ?_) <;> intro h <;> try simp (disch := first | assumption | exact Nat.le_of_ble_eq_true rfl | omega) only [ev_wr_id, not_true_eq_false, not_false_eq_true, Int.reduceEq, Int.reduceLT, Int.reduceLE, and_self, and_true, true_and, and_false, false_and, reduceIte] at h <;> try (exfalso; omega; done)))
    · unfold ev_tr
      rw [if_pos (by assumption)]
    · unfold ev_tr
      rw [if_neg (by assumption), hkn, hf 0 (by omega) (by omega)]
  | succ m ih =>
    intro k c f p5 p6 p7 hk hc hf
    obtain ⟨e16, r0, r1⟩ := hre c (by omega) (by omega)
    have hrc := hra c (by omega) (by omega)
    have hsf := ev_sf_in (ra := σ 171) (re := re) (n := n) k (by omega) hra
    have hfq : ∀ q, c < q → q < n → 0 ≤ f q ∧ f q ≤ 9 := fun q h1 h2 => by rw [hf q h1 h2]; exact hsf q (by omega) h2
    have hg0 := ev_g0_in (re c)
    have hkk : n - (c + 1) = k := by omega
    have hinner := l_21i (s := s) (b := b) (σ := σ) (r := re c) hs hn (show 0 ≤ c by omega) ⟨r0, r1⟩ hfq k (c + 1) (ev_g0 (re c)) (by omega) (by omega) hkk hg0
    have hfo : ev_fo (re c) f k (c + 1) (ev_g0 (re c)) = ev_fo (re c) (ev_sf (σ 171) re n k) k (c + 1) (ev_g0 (re c)) := ev_fo_congr (re c) k (c + 1) _ (fun q h1 h2 => hf q (by omega) (by omega))
    have hfi := ev_fo_in (re c) k (c + 1) (ev_g0 (re c)) (fun q h1 h2 => hfq q (by omega) (by omega)) hg0
    have hstep : ∀ q, c + -1 < q → q < n → ev_u1 f c (if ev_fo (re c) f k (c + 1) (ev_g0 (re c)) < σ 171 c then ev_fo (re c) f k (c + 1) (ev_g0 (re c)) else σ 171 c) q = ev_sf (σ 171) re n (k + 1) q := by
      intro q h1 h2
      unfold ev_sf
      rw [show n - 1 - k = c by omega, show n - k = c + 1 by omega, ← hfo]
      by_cases hq : q = c
      · rw [ev_u1_eq hq, ev_u1_eq hq]
      · rw [ev_u1_ne hq, ev_u1_ne hq]
        exact hf q (by omega) h2
    obtain ⟨t1, t2, t3, t4, t5, t6⟩ := ev_bits ⟨r0, r1⟩ (o := 0) (by omega)
    obtain ⟨g, e, hg⟩ := ih (k + 1) (c + -1) (ev_u1 f c (if ev_fo (re c) f k (c + 1) (ev_g0 (re c)) < σ 171 c then ev_fo (re c) f k (c + 1) (ev_g0 (re c)) else σ 171 c)) (some (.inl (re c))) (some (.inl (ev_fo (re c) f k (c + 1) (ev_g0 (re c))))) (some (.inl n)) (by omega) (by omega) hstep
    refine ⟨g, ?_, hg⟩
    rw [bk_21_1]
    repeat' (first | (simp (disch := first | assumption | exact Nat.le_of_ble_eq_true rfl | omega) only [bk_21_0, eo_1_1, g1_28_5, eo_0_2, eo_3_3n, eo_3_3i, eo_3_3r, eo_0_3, eo_6, eo_11, eo_3_4n, eo_3_4i, eo_3_4r, eo_53, eo_0_4, g1_28_10, eo_60_2, ev_ki, ev_kv, eo_3_5n, eo_3_5i, eo_3_5r, eo_0_5, eo_15, eo_52, bk_21_2, bk_21_3, eo_3_6n, eo_3_6i, eo_3_6r, eo_10, eo_3_7n, eo_3_7i, eo_3_7r, eo_0_7, eo_18, eo_0_6, eo_1_0, g2_28_1, eo_62, bk_21_5, eo_23_7n, eo_23_7i, eo_23_7r, bk_21_6, g2_28_0, eo_63, eo_23_4n, eo_23_4i, eo_23_4r, bk_21_7, bk_21_8, bk_21_9, eo_56i, a32_s11, a33_s11, a32_s16, a33_s16, a32_172, a33_172, a32_171, a33_171, c_5, ev_ua_ne, e16, Int.add_zero, Int.add_sub_cancel, Int.reduceAdd, Int.reduceMul, Int.reduceSub, Int.reduceNeg, ev_wr_id]) | ((first | with_reducible refine br_40 ?_ ?_ | with_reducible refine br_41 ?_ ?_ | with_reducible refine br_42 ?_ ?_ | with_reducible refine br_43 ?_ ?_ | with_reducible refine br_44 ?_ ?_ | with_reducible refine br_45 ?_ ?_ | with_reducible refine br_46 ?_ ?_ | with_reducible refine br_47 ?_ ?_ | with_reducible refine br_48 ?_ ?_ | with_reducible refine br_49 ?_ ?_ | with_reducible refine br_50 ?_ ?_ | with_reducible refine br_51 ?_ ?_) <;> intro h <;> try simp (disch := first | assumption | exact Nat.le_of_ble_eq_true rfl | omega) only [ev_wr_id, not_true_eq_false, not_false_eq_true, Int.reduceEq, Int.reduceLT, Int.reduceLE, and_self, and_true, true_and, and_false, false_and, reduceIte] at h <;> try (exfalso; omega; done)))
    · have h9 : ev_g0 (re c) = 0 := by unfold ev_g0; rw [if_pos (by omega)]
      rw [h9] at hinner e hfi
      rw [hinner]
      repeat' (first | (simp (disch := first | assumption | exact Nat.le_of_ble_eq_true rfl | omega) only [bk_21_0, eo_1_1, g1_28_5, eo_0_2, eo_3_3n, eo_3_3i, eo_3_3r, eo_0_3, eo_6, eo_11, eo_3_4n, eo_3_4i, eo_3_4r, eo_53, eo_0_4, g1_28_10, eo_60_2, ev_ki, ev_kv, eo_3_5n, eo_3_5i, eo_3_5r, eo_0_5, eo_15, eo_52, bk_21_2, bk_21_3, eo_3_6n, eo_3_6i, eo_3_6r, eo_10, eo_3_7n, eo_3_7i, eo_3_7r, eo_0_7, eo_18, eo_0_6, eo_1_0, g2_28_1, eo_62, bk_21_5, eo_23_7n, eo_23_7i, eo_23_7r, bk_21_6, g2_28_0, eo_63, eo_23_4n, eo_23_4i, eo_23_4r, bk_21_7, bk_21_8, bk_21_9, eo_56i, a32_s11, a33_s11, a32_s16, a33_s16, a32_172, a33_172, a32_171, a33_171, c_5, ev_ua_ne, ev_up_ua, Int.add_zero, Int.add_sub_cancel, Int.reduceAdd, Int.reduceMul, Int.reduceSub, Int.reduceNeg, ev_wr_id]) | ((first | with_reducible refine br_40 ?_ ?_ | with_reducible refine br_41 ?_ ?_ | with_reducible refine br_42 ?_ ?_ | with_reducible refine br_43 ?_ ?_ | with_reducible refine br_44 ?_ ?_ | with_reducible refine br_45 ?_ ?_ | with_reducible refine br_46 ?_ ?_ | with_reducible refine br_47 ?_ ?_ | with_reducible refine br_48 ?_ ?_ | with_reducible refine br_49 ?_ ?_ | with_reducible refine br_50 ?_ ?_ | with_reducible refine br_51 ?_ ?_) <;> intro h <;> try simp (disch := first | assumption | exact Nat.le_of_ble_eq_true rfl | omega) only [ev_wr_id, not_true_eq_false, not_false_eq_true, Int.reduceEq, Int.reduceLT, Int.reduceLE, and_self, and_true, true_and, and_false, false_and, reduceIte] at h <;> try (exfalso; omega; done)))
      exact e
    · have h9 : ev_g0 (re c) = 9 := by unfold ev_g0; rw [if_neg (by omega)]
      rw [h9] at hinner e hfi
      rw [hinner]
      repeat' (first | (simp (disch := first | assumption | exact Nat.le_of_ble_eq_true rfl | omega) only [bk_21_0, eo_1_1, g1_28_5, eo_0_2, eo_3_3n, eo_3_3i, eo_3_3r, eo_0_3, eo_6, eo_11, eo_3_4n, eo_3_4i, eo_3_4r, eo_53, eo_0_4, g1_28_10, eo_60_2, ev_ki, ev_kv, eo_3_5n, eo_3_5i, eo_3_5r, eo_0_5, eo_15, eo_52, bk_21_2, bk_21_3, eo_3_6n, eo_3_6i, eo_3_6r, eo_10, eo_3_7n, eo_3_7i, eo_3_7r, eo_0_7, eo_18, eo_0_6, eo_1_0, g2_28_1, eo_62, bk_21_5, eo_23_7n, eo_23_7i, eo_23_7r, bk_21_6, g2_28_0, eo_63, eo_23_4n, eo_23_4i, eo_23_4r, bk_21_7, bk_21_8, bk_21_9, eo_56i, a32_s11, a33_s11, a32_s16, a33_s16, a32_172, a33_172, a32_171, a33_171, c_5, ev_ua_ne, ev_up_ua, Int.add_zero, Int.add_sub_cancel, Int.reduceAdd, Int.reduceMul, Int.reduceSub, Int.reduceNeg, ev_wr_id]) | ((first | with_reducible refine br_40 ?_ ?_ | with_reducible refine br_41 ?_ ?_ | with_reducible refine br_42 ?_ ?_ | with_reducible refine br_43 ?_ ?_ | with_reducible refine br_44 ?_ ?_ | with_reducible refine br_45 ?_ ?_ | with_reducible refine br_46 ?_ ?_ | with_reducible refine br_47 ?_ ?_ | with_reducible refine br_48 ?_ ?_ | with_reducible refine br_49 ?_ ?_ | with_reducible refine br_50 ?_ ?_ | with_reducible refine br_51 ?_ ?_) <;> intro h <;> try simp (disch := first | assumption | exact Nat.le_of_ble_eq_true rfl | omega) only [ev_wr_id, not_true_eq_false, not_false_eq_true, Int.reduceEq, Int.reduceLT, Int.reduceLE, and_self, and_true, true_and, and_false, false_and, reduceIte] at h <;> try (exfalso; omega; done)))
      exact e
theorem c_21 {s b : Int} {σ : ev_M} {re : Int → Int} (hs : ev_S s) (hb : 0 ≤ b ∧ b < 6) (hn : 0 ≤ σ (s + 11) b ∧ σ (s + 11) b ≤ 6) (hra : ∀ c, 0 ≤ c → c < σ (s + 11) b → 0 ≤ σ 171 c ∧ σ 171 c ≤ 9) (hre : ∀ c, 0 ≤ c → c < σ (s + 11) b → σ (s + 16) (b * 6 + c) = re c ∧ 0 ≤ re c ∧ re c ≤ 127) : ∃ g, EM 21 [.inr (.inl 170), .inr (.inl (s + 6)), .inl b] σ = some (some (.inl (ev_tr (σ 171) re (σ (s + 11) b))), ev_ua σ 172 g) ∧ ∀ q, 0 ≤ q → q < σ (s + 11) b → g q = ev_sf (σ 171) re (σ (s + 11) b) (σ (s + 11) b).toNat q := by
  obtain ⟨g, e, hg⟩ := l_21 (σ := σ) hs hb hn hra hre (σ (s + 11) b).toNat 0 (σ (s + 11) b - 1) (σ 172) none none none (by omega) (by omega) (fun q h1 h2 => by omega)
  refine ⟨g, ?_, hg⟩
  rw [ev_ua_self] at e
  rw [mm_21]
  repeat' (first | (simp (disch := first | assumption | exact Nat.le_of_ble_eq_true rfl | omega) only [bk_21_0, eo_1_1, g1_28_5, eo_0_2, eo_3_3n, eo_3_3i, eo_3_3r, eo_0_3, eo_6, eo_11, eo_3_4n, eo_3_4i, eo_3_4r, eo_53, eo_0_4, g1_28_10, eo_60_2, ev_ki, ev_kv, eo_3_5n, eo_3_5i, eo_3_5r, eo_0_5, eo_15, eo_52, bk_21_2, bk_21_3, eo_3_6n, eo_3_6i, eo_3_6r, eo_10, eo_3_7n, eo_3_7i, eo_3_7r, eo_0_7, eo_18, eo_0_6, eo_1_0, g2_28_1, eo_62, bk_21_5, eo_23_7n, eo_23_7i, eo_23_7r, bk_21_6, g2_28_0, eo_63, eo_23_4n, eo_23_4i, eo_23_4r, bk_21_7, bk_21_8, bk_21_9, eo_56i, a32_s11, a33_s11, a32_s16, a33_s16, a32_172, a33_172, a32_171, a33_171, c_5, Int.add_zero, Int.add_sub_cancel, Int.reduceAdd, Int.reduceMul, Int.reduceSub, Int.reduceNeg, ev_wr_id]) | ((first | with_reducible refine br_40 ?_ ?_ | with_reducible refine br_41 ?_ ?_ | with_reducible refine br_42 ?_ ?_ | with_reducible refine br_43 ?_ ?_ | with_reducible refine br_44 ?_ ?_ | with_reducible refine br_45 ?_ ?_ | with_reducible refine br_46 ?_ ?_ | with_reducible refine br_47 ?_ ?_ | with_reducible refine br_48 ?_ ?_ | with_reducible refine br_49 ?_ ?_ | with_reducible refine br_50 ?_ ?_ | with_reducible refine br_51 ?_ ?_) <;> intro h <;> try simp (disch := first | assumption | exact Nat.le_of_ble_eq_true rfl | omega) only [ev_wr_id, not_true_eq_false, not_false_eq_true, Int.reduceEq, Int.reduceLT, Int.reduceLE, and_self, and_true, true_and, and_false, false_and, reduceIte] at h <;> try (exfalso; omega; done)))
  exact e

