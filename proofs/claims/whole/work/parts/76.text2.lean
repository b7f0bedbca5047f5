/-! the text: the reference's small parts -/
def st_my (μ : ev_M) (c : Int → Int) (n : Int) : Prop := (0 ≤ n ∧ n ≤ 100) ∧ ∀ i, 0 ≤ i → i < n → μ 190 i = c i ∧ 0 ≤ c i ∧ c i ≤ 255
theorem st_my_o {σ σ1 : ev_M} {c : Int → Int} {n : Int} (h : st_my σ c n) (e : σ1 190 = σ 190) : st_my σ1 c n := ⟨h.1, fun i h0 h1 => by rw [e]; exact h.2 i h0 h1⟩
def st_hr (c : Int → Int) (n p : Int) : Int := if p < n then c p else -1
theorem l_173 {σ : ev_M} {c : Int → Int} {n : Int} {f : Int → Int} (ht : st_my σ c n) (hn : f 11 = n) : ∀ (k : Nat) (i : Int), 0 ≤ i → i + k = n → EB 173 0 [some (.inr (.inl 182))] [] (ev_ua σ 182 (ev_u1 f 12 i)) = some (some (.inl (st_hr c n (st_sk c n k i))), ev_ua σ 182 (ev_u1 f 12 (st_sk c n k i))) := by
  have n9 := ht.1
  have n1 : ∀ i, ev_u1 f 12 i 11 = n := fun i => by rw [ev_u1_ne (by omega)]; exact hn
  have n2 : ∀ i, ev_u1 f 12 i 12 = i := fun i => ev_u1_eq rfl
  intro k
  induction k with
  | zero =>
    intro i h0 h1
    obtain rfl : i = n := by omega
    rw [show st_sk c i 0 i = i from rfl, show st_hr c i i = -1 from if_neg (by omega)]
    clear ht
    rw [bk_173_0]
    repeat' (first | (simp (disch := first | assumption | exact Nat.le_of_ble_eq_true rfl | omega) only [eo_1_0, g11_27, g11_28_10, eo_6, eo_24i, eo_24r, eo_10, g11_30, eo_52, bk_173_1, bk_173_2, eo_53, bk_173_3, eo_56i, a32_190, ev_ua_eq, n1, n2, Int.add_zero, Int.add_sub_cancel, Int.reduceAdd, Int.reduceMul, Int.reduceSub, Int.reduceNeg, ev_wr_id]) | ((first | with_reducible refine br_40 ?_ ?_ | with_reducible refine br_41 ?_ ?_ | with_reducible refine br_42 ?_ ?_ | with_reducible refine br_43 ?_ ?_ | with_reducible refine br_44 ?_ ?_ | with_reducible refine br_45 ?_ ?_ | with_reducible refine br_46 ?_ ?_ | with_reducible refine br_47 ?_ ?_ | with_reducible refine br_48 ?_ ?_ | with_reducible refine br_49 ?_ ?_ | with_reducible refine br_50 ?_ ?_ | with_reducible refine br_51 ?_ ?_) <;> intro h <;> try simp (disch := first | assumption | exact Nat.le_of_ble_eq_true rfl | omega) only [ev_wr_id, not_true_eq_false, not_false_eq_true, Int.reduceEq, Int.reduceLT, Int.reduceLE, and_self, and_true, true_and, and_false, false_and, reduceIte] at h <;> try (exfalso; omega; done)))
  | succ k ih =>
    intro i h0 h1
    have hi := ht.2 i h0 (by omega)
    have hib := hi.1
    have e := ih (i + 1) (by omega) (by omega)
    have hin : i < n ∧ i < 100 := by omega
    unfold st_sk
    by_cases q : c i = 32
    · rw [if_pos q, ← e]
      clear ht e ih
      rw [bk_173_0]
      repeat' (first | (simp (disch := first | assumption | exact Nat.le_of_ble_eq_true rfl | omega) only [eo_1_0, g11_27, g11_28_10, eo_6, eo_24i, eo_24r, eo_10, g11_30, eo_52, bk_173_1, bk_173_2, eo_53, bk_173_3, eo_56i, a32_190, ev_ua_eq, ev_ua_ne, n1, n2, hib, ev_up_ua, ev_u1_u1, Int.add_zero, Int.add_sub_cancel, Int.reduceAdd, Int.reduceMul, Int.reduceSub, Int.reduceNeg, ev_wr_id]) | ((first | with_reducible refine br_40 ?_ ?_ | with_reducible refine br_41 ?_ ?_ | with_reducible refine br_42 ?_ ?_ | with_reducible refine br_43 ?_ ?_ | with_reducible refine br_44 ?_ ?_ | with_reducible refine br_45 ?_ ?_ | with_reducible refine br_46 ?_ ?_ | with_reducible refine br_47 ?_ ?_ | with_reducible refine br_48 ?_ ?_ | with_reducible refine br_49 ?_ ?_ | with_reducible refine br_50 ?_ ?_ | with_reducible refine br_51 ?_ ?_) <;> intro h <;> try simp (disch := first | assumption | exact Nat.le_of_ble_eq_true rfl | omega) only [ev_wr_id, not_true_eq_false, not_false_eq_true, Int.reduceEq, Int.reduceLT, Int.reduceLE, and_self, and_true, true_and, and_false, false_and, reduceIte] at h <;> try (exfalso; omega; done)))
    · rw [if_neg q, show st_hr c n i = c i from if_pos hin.1]
      clear ht e ih
      rw [bk_173_0]
      repeat' (first | (simp (disch := first | assumption | exact Nat.le_of_ble_eq_true rfl | omega) only [eo_1_0, g11_27, g11_28_10, eo_6, eo_24i, eo_24r, eo_10, g11_30, eo_52, bk_173_1, bk_173_2, eo_53, bk_173_3, eo_56i, a32_190, ev_ua_eq, ev_ua_ne, n1, n2, hib, Int.add_zero, Int.add_sub_cancel, Int.reduceAdd, Int.reduceMul, Int.reduceSub, Int.reduceNeg, ev_wr_id]) | ((first | with_reducible refine br_40 ?_ ?_ | with_reducible refine br_41 ?_ ?_ | with_reducible refine br_42 ?_ ?_ | with_reducible refine br_43 ?_ ?_ | with_reducible refine br_44 ?_ ?_ | with_reducible refine br_45 ?_ ?_ | with_reducible refine br_46 ?_ ?_ | with_reducible refine br_47 ?_ ?_ | with_reducible refine br_48 ?_ ?_ | with_reducible refine br_49 ?_ ?_ | with_reducible refine br_50 ?_ ?_ | with_reducible refine br_51 ?_ ?_) <;> intro h <;> try simp (disch := first | assumption | exact Nat.le_of_ble_eq_true rfl | omega) only [ev_wr_id, not_true_eq_false, not_false_eq_true, Int.reduceEq, Int.reduceLT, Int.reduceLE, and_self, and_true, true_and, and_false, false_and, reduceIte] at h <;> try (exfalso; omega; done)))
theorem c_173x {σ : ev_M} {c : Int → Int} {n i : Int} {f : Int → Int} (ht : st_my σ c n) (hn : f 11 = n) (hi : f 12 = i) (h0 : 0 ≤ i ∧ i ≤ n) : EM 173 [.inr (.inl 182)] (ev_ua σ 182 f) = some (some (.inl (st_hr c n (st_bk c n i))), ev_ua σ 182 (ev_u1 f 12 (st_bk c n i))) := by
  have e := l_173 ht hn (n - i).toNat i (by omega) (by omega)
  rw [ev_u1_self hi] at e
  unfold st_bk
  rw [mm_173]
  repeat' (first | (simp (disch := first | assumption | exact Nat.le_of_ble_eq_true rfl | omega) only [eo_1_0, g11_27, g11_28_10, eo_6, eo_24i, eo_24r, eo_10, g11_30, eo_52, bk_173_1, bk_173_2, eo_53, bk_173_3, eo_56i, a32_190, Int.add_zero, Int.add_sub_cancel, Int.reduceAdd, Int.reduceMul, Int.reduceSub, Int.reduceNeg, ev_wr_id]) | ((first | with_reducible refine br_40 ?_ ?_ | with_reducible refine br_41 ?_ ?_ | with_reducible refine br_42 ?_ ?_ | with_reducible refine br_43 ?_ ?_ | with_reducible refine br_44 ?_ ?_ | with_reducible refine br_45 ?_ ?_ | with_reducible refine br_46 ?_ ?_ | with_reducible refine br_47 ?_ ?_ | with_reducible refine br_48 ?_ ?_ | with_reducible refine br_49 ?_ ?_ | with_reducible refine br_50 ?_ ?_ | with_reducible refine br_51 ?_ ?_) <;> intro h <;> try simp (disch := first | assumption | exact Nat.le_of_ble_eq_true rfl | omega) only [ev_wr_id, not_true_eq_false, not_false_eq_true, Int.reduceEq, Int.reduceLT, Int.reduceLE, and_self, and_true, true_and, and_false, false_and, reduceIte] at h <;> try (exfalso; omega; done)))
  exact e
theorem st_hr_in {σ : ev_M} {c : Int → Int} {n p : Int} (ht : st_my σ c n) (h0 : 0 ≤ p) : -1 ≤ st_hr c n p ∧ st_hr c n p ≤ 255 := by
  unfold st_hr
  split
  · have := ht.2 p h0 (by assumption)
    omega
  · omega
theorem c_174x {σ : ev_M} {c : Int → Int} {n i s : Int} {f : Int → Int} (ht : st_my σ c n) (hn : f 11 = n) (hi : f 12 = i) (h0 : 0 ≤ i ∧ i ≤ n) (hs : 0 ≤ s ∧ s ≤ 255) : (st_bk c n i < n ∧ c (st_bk c n i) = s → EM 174 [.inr (.inl 182), .inl s] (ev_ua σ 182 f) = some (some (.inl 1), ev_ua σ 182 (ev_u1 f 12 (st_bk c n i + 1)))) ∧ (¬ (st_bk c n i < n ∧ c (st_bk c n i) = s) → EM 174 [.inr (.inl 182), .inl s] (ev_ua σ 182 f) = some (some (.inl 0), ev_ua σ 182 (ev_u1 f 12 (st_bk c n i)))) := by
  have e173 := c_173x ht hn hi h0
  have hb := st_bk_in (c := c) h0.2
  obtain ⟨p, hp⟩ : ∃ p, p = st_bk c n i := ⟨_, rfl⟩
  rw [← hp] at e173 hb ⊢
  have n2 : ∀ i, ev_u1 f 12 i 12 = i := fun i => ev_u1_eq rfl
  have hh := st_hr_in (p := p) ht (by omega)
  obtain ⟨u, hu⟩ : ∃ u, u = st_hr c n p := ⟨_, rfl⟩
  rw [← hu] at e173 hh
  constructor
  · intro ⟨q1, q2⟩
    have h3 : u = s := by
      rw [hu]
      unfold st_hr
      rw [if_pos q1]
      exact q2
    clear ht hu
    rw [mm_174]
    repeat' (first | (simp (disch := first | assumption | exact Nat.le_of_ble_eq_true rfl | omega) only [bk_174_0, eo_1_0, v11_1, ev_ki, ev_kv, eo_0_1, eo_6, eo_52, bk_174_1, eo_53, bk_174_2, eo_3_2n, eo_3_2i, eo_3_2r, eo_24i, eo_24r, g11_27, eo_0_2, bk_174_3, bk_174_4, eo_10, g11_30, eo_56z, e173, ev_ua_eq, n2, ev_up_ua, ev_u1_u1, Int.add_zero, Int.add_sub_cancel, Int.reduceAdd, Int.reduceMul, Int.reduceSub, Int.reduceNeg, ev_wr_id]) | ((first | with_reducible refine br_40 ?_ ?_ | with_reducible refine br_41 ?_ ?_ | with_reducible refine br_42 ?_ ?_ | with_reducible refine br_43 ?_ ?_ | with_reducible refine br_44 ?_ ?_ | with_reducible refine br_45 ?_ ?_ | with_reducible refine br_46 ?_ ?_ | with_reducible refine br_47 ?_ ?_ | with_reducible refine br_48 ?_ ?_ | with_reducible refine br_49 ?_ ?_ | with_reducible refine br_50 ?_ ?_ | with_reducible refine br_51 ?_ ?_) <;> intro h <;> try simp (disch := first | assumption | exact Nat.le_of_ble_eq_true rfl | omega) only [ev_wr_id, not_true_eq_false, not_false_eq_true, Int.reduceEq, Int.reduceLT, Int.reduceLE, and_self, and_true, true_and, and_false, false_and, reduceIte] at h <;> try (exfalso; omega; done)))
  · intro q
    have h3 : u ≠ s := by
      rw [hu]
      unfold st_hr
      by_cases q1 : p < n
      · rw [if_pos q1]
        exact fun h => q ⟨q1, h⟩
      · rw [if_neg q1]
        omega
    clear ht hu q
    rw [mm_174]
    repeat' (first | (simp (disch := first | assumption | exact Nat.le_of_ble_eq_true rfl | omega) only [bk_174_0, eo_1_0, v11_1, ev_ki, ev_kv, eo_0_1, eo_6, eo_52, bk_174_1, eo_53, bk_174_2, eo_3_2n, eo_3_2i, eo_3_2r, eo_24i, eo_24r, g11_27, eo_0_2, bk_174_3, bk_174_4, eo_10, g11_30, eo_56z, e173, ev_ua_eq, n2, ev_up_ua, ev_u1_u1, Int.add_zero, Int.add_sub_cancel, Int.reduceAdd, Int.reduceMul, Int.reduceSub, Int.reduceNeg, ev_wr_id]) | ((first | with_reducible refine br_40 ?_ ?_ | with_reducible refine br_41 ?_ ?_ | with_reducible refine br_42 ?_ ?_ | with_reducible refine br_43 ?_ ?_ | with_reducible refine br_44 ?_ ?_ | with_reducible refine br_45 ?_ ?_ | with_reducible refine br_46 ?_ ?_ | with_reducible refine br_47 ?_ ?_ | with_reducible refine br_48 ?_ ?_ | with_reducible refine br_49 ?_ ?_ | with_reducible refine br_50 ?_ ?_ | with_reducible refine br_51 ?_ ?_) <;> intro h <;> try simp (disch := first | assumption | exact Nat.le_of_ble_eq_true rfl | omega) only [ev_wr_id, not_true_eq_false, not_false_eq_true, Int.reduceEq, Int.reduceLT, Int.reduceLE, and_self, and_true, true_and, and_false, false_and, reduceIte] at h <;> try (exfalso; omega; done)))
theorem l_175 {σ : ev_M} {c : Int → Int} {n p lo hi no z : Int} {f : Int → Int} {p7 : Option ev_V} (ht : st_my σ c n) (hn : f 11 = n) (ha : f 12 = p) (hp : 0 ≤ p) (hz : 0 ≤ z ∧ z ≤ 255) : ∀ (k : Nat) (i v : Int), p ≤ i → i + k = n → EB 175 1 [some (.inr (.inl 182)), some (.inl lo), some (.inl hi), some (.inl no), some (.inl z), some (.inl i), some (.inl v), p7] [] (ev_ua σ 182 f) = EB 175 4 [some (.inr (.inl 182)), some (.inl lo), some (.inl hi), some (.inl no), some (.inl z), some (.inl (st_dg c k i)), some (.inl (st_nv c p 3 k i v)), p7] [] (ev_ua σ 182 f) := by
  have n9 := ht.1
  intro k
  induction k with
  | zero =>
    intro i v h0 h1
    obtain rfl : i = n := by omega
    rw [show st_dg c 0 i = i from rfl, show st_nv c p 3 0 i v = v from rfl]
    clear ht
    rw [bk_175_1]
    repeat' (first | (simp (disch := first | assumption | exact Nat.le_of_ble_eq_true rfl | omega) only [bk_175_0, eo_1_0, v11_1, ev_ki, ev_kv, eo_3_4n, eo_3_4i, eo_3_4r, g11_27, eo_3_5n, eo_3_5i, eo_3_5r, eo_6, eo_3_6n, eo_3_6i, eo_3_6r, eo_53, eo_0_4, eo_0_5, g11_28_10, eo_60_3, eo_11, eo_0_6, eo_12, eo_10, eo_52, bk_175_2, bk_175_3, eo_23_5n, eo_23_5i, eo_23_5r, eo_0_1, eo_0_2, eo_0_3, bk_175_5, bk_175_6, eo_3_7n, eo_3_7i, eo_3_7r, eo_0_7, bk_175_7, bk_175_8, g11_30, eo_56z, a32_190, ev_ua_eq, hn, Int.add_zero, Int.add_sub_cancel, Int.reduceAdd, Int.reduceMul, Int.reduceSub, Int.reduceNeg, ev_wr_id]) | ((first | with_reducible refine br_40 ?_ ?_ | with_reducible refine br_41 ?_ ?_ | with_reducible refine br_42 ?_ ?_ | with_reducible refine br_43 ?_ ?_ | with_reducible refine br_44 ?_ ?_ | with_reducible refine br_45 ?_ ?_ | with_reducible refine br_46 ?_ ?_ | with_reducible refine br_47 ?_ ?_ | with_reducible refine br_48 ?_ ?_ | with_reducible refine br_49 ?_ ?_ | with_reducible refine br_50 ?_ ?_ | with_reducible refine br_51 ?_ ?_) <;> intro h <;> try simp (disch := first | assumption | exact Nat.le_of_ble_eq_true rfl | omega) only [ev_wr_id, not_true_eq_false, not_false_eq_true, Int.reduceEq, Int.reduceLT, Int.reduceLE, and_self, and_true, true_and, and_false, false_and, reduceIte] at h <;> try (exfalso; omega; done)))
  | succ k ih =>
    intro i v h0 h1
    have hi := ht.2 i (by omega) (by omega)
    have hib := hi.1
    have hin : 0 ≤ i ∧ i < n ∧ i < 100 := by omega
    have e106 := fun σ2 => c_106 (v := c i) (lo := 48) (hi := 57) (σ := σ2) (by omega) (by omega) (by omega)
    unfold st_dg st_nv
    by_cases q : 48 ≤ c i ∧ c i ≤ 57
    · have e := ih (i + 1) (if i < p + 3 then v * 10 + c i - 48 else v) (by omega) (by omega)
      rw [if_pos q, if_pos q, ← e]
      simp only [if_pos q] at e106
      clear ht e ih
      by_cases q2 : i < p + 3
      · rw [if_pos q2, show v * 10 = 10 * v by omega]
        rw [bk_175_1]
        repeat' (first | (simp (disch := first | assumption | exact Nat.le_of_ble_eq_true rfl | omega) only [bk_175_0, eo_1_0, v11_1, ev_ki, ev_kv, eo_3_4n, eo_3_4i, eo_3_4r, g11_27, eo_3_5n, eo_3_5i, eo_3_5r, eo_6, eo_3_6n, eo_3_6i, eo_3_6r, eo_53, eo_0_4, eo_0_5, g11_28_10, eo_60_3, eo_11, eo_0_6, eo_12, eo_10, eo_52, bk_175_2, bk_175_3, eo_23_5n, eo_23_5i, eo_23_5r, eo_0_1, eo_0_2, eo_0_3, bk_175_5, bk_175_6, eo_3_7n, eo_3_7i, eo_3_7r, eo_0_7, bk_175_7, bk_175_8, g11_30, eo_56z, a32_190, ev_ua_eq, ev_ua_ne, hn, ha, hib, e106, Int.add_zero, Int.add_sub_cancel, Int.reduceAdd, Int.reduceMul, Int.reduceSub, Int.reduceNeg, ev_wr_id]) | ((first | with_reducible refine br_40 ?_ ?_ | with_reducible refine br_41 ?_ ?_ | with_reducible refine br_42 ?_ ?_ | with_reducible refine br_43 ?_ ?_ | with_reducible refine br_44 ?_ ?_ | with_reducible refine br_45 ?_ ?_ | with_reducible refine br_46 ?_ ?_ | with_reducible refine br_47 ?_ ?_ | with_reducible refine br_48 ?_ ?_ | with_reducible refine br_49 ?_ ?_ | with_reducible refine br_50 ?_ ?_ | with_reducible refine br_51 ?_ ?_) <;> intro h <;> try simp (disch := first | assumption | exact Nat.le_of_ble_eq_true rfl | omega) only [ev_wr_id, not_true_eq_false, not_false_eq_true, Int.reduceEq, Int.reduceLT, Int.reduceLE, and_self, and_true, true_and, and_false, false_and, reduceIte] at h <;> try (exfalso; omega; done)))
      · rw [if_neg q2]
        rw [bk_175_1]
        repeat' (first | (simp (disch := first | assumption | exact Nat.le_of_ble_eq_true rfl | omega) only [bk_175_0, eo_1_0, v11_1, ev_ki, ev_kv, eo_3_4n, eo_3_4i, eo_3_4r, g11_27, eo_3_5n, eo_3_5i, eo_3_5r, eo_6, eo_3_6n, eo_3_6i, eo_3_6r, eo_53, eo_0_4, eo_0_5, g11_28_10, eo_60_3, eo_11, eo_0_6, eo_12, eo_10, eo_52, bk_175_2, bk_175_3, eo_23_5n, eo_23_5i, eo_23_5r, eo_0_1, eo_0_2, eo_0_3, bk_175_5, bk_175_6, eo_3_7n, eo_3_7i, eo_3_7r, eo_0_7, bk_175_7, bk_175_8, g11_30, eo_56z, a32_190, ev_ua_eq, ev_ua_ne, hn, ha, hib, e106, Int.add_zero, Int.add_sub_cancel, Int.reduceAdd, Int.reduceMul, Int.reduceSub, Int.reduceNeg, ev_wr_id]) | ((first | with_reducible refine br_40 ?_ ?_ | with_reducible refine br_41 ?_ ?_ | with_reducible refine br_42 ?_ ?_ | with_reducible refine br_43 ?_ ?_ | with_reducible refine br_44 ?_ ?_ | with_reducible refine br_45 ?_ ?_ | with_reducible refine br_46 ?_ ?_ | with_reducible refine br_47 ?_ ?_ | with_reducible refine br_48 ?_ ?_ | with_reducible refine br_49 ?_ ?_ | with_reducible refine br_50 ?_ ?_ | with_reducible refine br_51 ?_ ?_) <;> intro h <;> try simp (disch := first | assumption | exact Nat.le_of_ble_eq_true rfl | omega) only [ev_wr_id, not_true_eq_false, not_false_eq_true, Int.reduceEq, Int.reduceLT, Int.reduceLE, and_self, and_true, true_and, and_false, false_and, reduceIte] at h <;> try (exfalso; omega; done)))
    · rw [if_neg q, if_neg q]
      simp only [if_neg q] at e106
      clear ht ih
      rw [bk_175_1]
      repeat' (first | (simp (disch := first | assumption | exact Nat.le_of_ble_eq_true rfl | omega) only [bk_175_0, eo_1_0, v11_1, ev_ki, ev_kv, eo_3_4n, eo_3_4i, eo_3_4r, g11_27, eo_3_5n, eo_3_5i, eo_3_5r, eo_6, eo_3_6n, eo_3_6i, eo_3_6r, eo_53, eo_0_4, eo_0_5, g11_28_10, eo_60_3, eo_11, eo_0_6, eo_12, eo_10, eo_52, bk_175_2, bk_175_3, eo_23_5n, eo_23_5i, eo_23_5r, eo_0_1, eo_0_2, eo_0_3, bk_175_5, bk_175_6, eo_3_7n, eo_3_7i, eo_3_7r, eo_0_7, bk_175_7, bk_175_8, g11_30, eo_56z, a32_190, ev_ua_eq, ev_ua_ne, hn, ha, hib, e106, Int.add_zero, Int.add_sub_cancel, Int.reduceAdd, Int.reduceMul, Int.reduceSub, Int.reduceNeg, ev_wr_id]) | ((first | with_reducible refine br_40 ?_ ?_ | with_reducible refine br_41 ?_ ?_ | with_reducible refine br_42 ?_ ?_ | with_reducible refine br_43 ?_ ?_ | with_reducible refine br_44 ?_ ?_ | with_reducible refine br_45 ?_ ?_ | with_reducible refine br_46 ?_ ?_ | with_reducible refine br_47 ?_ ?_ | with_reducible refine br_48 ?_ ?_ | with_reducible refine br_49 ?_ ?_ | with_reducible refine br_50 ?_ ?_ | with_reducible refine br_51 ?_ ?_) <;> intro h <;> try simp (disch := first | assumption | exact Nat.le_of_ble_eq_true rfl | omega) only [ev_wr_id, not_true_eq_false, not_false_eq_true, Int.reduceEq, Int.reduceLT, Int.reduceLE, and_self, and_true, true_and, and_false, false_and, reduceIte] at h <;> try (exfalso; omega; done)))
def st_g (g : Int → Int) (i v : Int) : Int → Int := ev_u1 (ev_u1 g 12 i) 13 v
theorem st_g_at {g : Int → Int} {i v : Int} : st_g g i v 12 = i := by
  unfold st_g
  rw [ev_u1_ne (by omega), ev_u1_eq rfl]
theorem st_g_no {g : Int → Int} {i v : Int} : st_g g i v 13 = v := ev_u1_eq rfl
theorem st_g_o {g : Int → Int} {i v k : Int} (h : k ≠ 12 ∧ k ≠ 13) : st_g g i v k = g k := by
  unfold st_g
  rw [ev_u1_ne (by omega), ev_u1_ne (by omega)]
theorem c_175x {σ : ev_M} {c : Int → Int} {n i lo hi no : Int} {f : Int → Int} (ht : st_my σ c n) (hn : f 11 = n) (hi0 : f 12 = i) (h0 : 0 ≤ i ∧ i ≤ n) (hlo : -9999 ≤ lo ∧ lo ≤ 9999) (hhi : -9999 ≤ hi ∧ hi ≤ 9999) (hno : -9999 ≤ no ∧ no ≤ 9999) : (st_nk c n (st_bk c n i) lo hi no → EM 175 [.inr (.inl 182), .inl lo, .inl hi, .inl no] (ev_ua σ 182 f) = some (some (.inl 1), ev_ua σ 182 (st_g f (st_ne1 c n (st_bk c n i)) (st_nu1 c n (st_bk c n i) 2)))) ∧ (¬ st_nk c n (st_bk c n i) lo hi no → ∃ v, EM 175 [.inr (.inl 182), .inl lo, .inl hi, .inl no] (ev_ua σ 182 f) = some (some (.inl 0), ev_ua σ 182 (st_g f (st_bk c n i) v))) := by
  have e173 := c_173x ht hn hi0 h0
  have hb := st_bk_in (c := c) h0.2
  obtain ⟨p, hp⟩ : ∃ p, p = st_bk c n i := ⟨_, rfl⟩
  rw [← hp] at e173 hb ⊢
  have n9 := ht.1
  have hh := st_hr_in (p := p) ht (by omega)
  obtain ⟨e, he⟩ : ∃ e, e = st_ne1 c n p := ⟨_, rfl⟩
  obtain ⟨v, hv⟩ : ∃ v, v = st_nu1 c n p 3 := ⟨_, rfl⟩
  have her : p ≤ e ∧ e ≤ n := by
    rw [he]
    have := st_dg_in (c := c) (n - p).toNat p
    unfold st_ne1
    omega
  have hvr : 0 ≤ v ∧ v ≤ 999 := by
    rw [hv]
    exact st_nv_in (Or.inr rfl) _ _ _ (Or.inl ⟨rfl, rfl⟩)
  have hveq : e ≤ p + 2 → st_nu1 c n p 2 = v := fun h => by
    rw [hv]
    exact st_nv_eq _ _ _ (by rw [he] at h; exact h)
  have n2 : ev_u1 f 12 p 12 = p := ev_u1_eq rfl
  have n1 : ev_u1 f 12 p 11 = n := by rw [ev_u1_ne (by omega)]; exact hn
  have hst : ∃ z, EM 175 [.inr (.inl 182), .inl lo, .inl hi, .inl no] (ev_ua σ 182 f) = EB 175 4 [some (.inr (.inl 182)), some (.inl lo), some (.inl hi), some (.inl no), some (.inl z), some (.inl e), some (.inl v), none] [] (ev_ua σ 182 (ev_u1 f 12 p)) := by
    by_cases q : p < n
    · refine ⟨c p, ?_⟩
      have hcp := ht.2 p (by omega) q
      rw [show st_hr c n p = c p from if_pos q] at e173
      have e3 := l_175 (lo := lo) (hi := hi) (no := no) (z := c p) (f := ev_u1 f 12 p) (p7 := none) ht n1 n2 (by omega) (by omega) (n - p).toNat p 0 (Int.le_refl _) (by omega)
      rw [show st_dg c (n - p).toNat p = e from he.symm, show st_nv c p 3 (n - p).toNat p 0 = v from hv.symm] at e3
      rw [← e3]
      clear ht e3 he hv hp hveq
      rw [mm_175]
      repeat' (first | (simp (disch := first | assumption | exact Nat.le_of_ble_eq_true rfl | omega) only [bk_175_0, eo_1_0, v11_1, ev_ki, ev_kv, eo_3_4n, eo_3_4i, eo_3_4r, g11_27, eo_3_5n, eo_3_5i, eo_3_5r, eo_6, eo_3_6n, eo_3_6i, eo_3_6r, eo_53, eo_0_4, eo_0_5, g11_28_10, eo_60_3, eo_11, eo_0_6, eo_12, eo_10, eo_52, bk_175_2, bk_175_3, eo_23_5n, eo_23_5i, eo_23_5r, eo_0_1, eo_0_2, eo_0_3, bk_175_5, bk_175_6, eo_3_7n, eo_3_7i, eo_3_7r, eo_0_7, bk_175_7, bk_175_8, g11_30, eo_56z, a32_190, e173, ev_ua_eq, n2, Int.add_zero, Int.add_sub_cancel, Int.reduceAdd, Int.reduceMul, Int.reduceSub, Int.reduceNeg, ev_wr_id]) | ((first | with_reducible refine br_40 ?_ ?_ | with_reducible refine br_41 ?_ ?_ | with_reducible refine br_42 ?_ ?_ | with_reducible refine br_43 ?_ ?_ | with_reducible refine br_44 ?_ ?_ | with_reducible refine br_45 ?_ ?_ | with_reducible refine br_46 ?_ ?_ | with_reducible refine br_47 ?_ ?_ | with_reducible refine br_48 ?_ ?_ | with_reducible refine br_49 ?_ ?_ | with_reducible refine br_50 ?_ ?_ | with_reducible refine br_51 ?_ ?_) <;> intro h <;> try simp (disch := first | assumption | exact Nat.le_of_ble_eq_true rfl | omega) only [ev_wr_id, not_true_eq_false, not_false_eq_true, Int.reduceEq, Int.reduceLT, Int.reduceLE, and_self, and_true, true_and, and_false, false_and, reduceIte] at h <;> try (exfalso; omega; done)))
    · refine ⟨-1, ?_⟩
      have hpn : p = n := by omega
      rw [show st_hr c n p = -1 from if_neg q] at e173
      have he2 : e = p := by omega
      have hv2 : v = 0 := by
        rw [hv]
        unfold st_nu1
        rw [hpn, show (n - n).toNat = 0 by omega]
        rfl
      rw [he2, hv2]
      clear ht he hv hp hveq hv2 he2 hvr her
      rw [mm_175]
      repeat' (first | (simp (disch := first | assumption | exact Nat.le_of_ble_eq_true rfl | omega) only [bk_175_0, eo_1_0, v11_1, ev_ki, ev_kv, eo_3_4n, eo_3_4i, eo_3_4r, g11_27, eo_3_5n, eo_3_5i, eo_3_5r, eo_6, eo_3_6n, eo_3_6i, eo_3_6r, eo_53, eo_0_4, eo_0_5, g11_28_10, eo_60_3, eo_11, eo_0_6, eo_12, eo_10, eo_52, bk_175_2, bk_175_3, eo_23_5n, eo_23_5i, eo_23_5r, eo_0_1, eo_0_2, eo_0_3, bk_175_5, bk_175_6, eo_3_7n, eo_3_7i, eo_3_7r, eo_0_7, bk_175_7, bk_175_8, g11_30, eo_56z, a32_190, e173, ev_ua_eq, n2, Int.add_zero, Int.add_sub_cancel, Int.reduceAdd, Int.reduceMul, Int.reduceSub, Int.reduceNeg, ev_wr_id]) | ((first | with_reducible refine br_40 ?_ ?_ | with_reducible refine br_41 ?_ ?_ | with_reducible refine br_42 ?_ ?_ | with_reducible refine br_43 ?_ ?_ | with_reducible refine br_44 ?_ ?_ | with_reducible refine br_45 ?_ ?_ | with_reducible refine br_46 ?_ ?_ | with_reducible refine br_47 ?_ ?_ | with_reducible refine br_48 ?_ ?_ | with_reducible refine br_49 ?_ ?_ | with_reducible refine br_50 ?_ ?_ | with_reducible refine br_51 ?_ ?_) <;> intro h <;> try simp (disch := first | assumption | exact Nat.le_of_ble_eq_true rfl | omega) only [ev_wr_id, not_true_eq_false, not_false_eq_true, Int.reduceEq, Int.reduceLT, Int.reduceLE, and_self, and_true, true_and, and_false, false_and, reduceIte] at h <;> try (exfalso; omega; done)))
      rw [bk_175_1]
      repeat' (first | (simp (disch := first | assumption | exact Nat.le_of_ble_eq_true rfl | omega) only [bk_175_0, eo_1_0, v11_1, ev_ki, ev_kv, eo_3_4n, eo_3_4i, eo_3_4r, g11_27, eo_3_5n, eo_3_5i, eo_3_5r, eo_6, eo_3_6n, eo_3_6i, eo_3_6r, eo_53, eo_0_4, eo_0_5, g11_28_10, eo_60_3, eo_11, eo_0_6, eo_12, eo_10, eo_52, bk_175_2, bk_175_3, eo_23_5n, eo_23_5i, eo_23_5r, eo_0_1, eo_0_2, eo_0_3, bk_175_5, bk_175_6, eo_3_7n, eo_3_7i, eo_3_7r, eo_0_7, bk_175_7, bk_175_8, g11_30, eo_56z, a32_190, ev_ua_eq, Int.add_zero, Int.add_sub_cancel, Int.reduceAdd, Int.reduceMul, Int.reduceSub, Int.reduceNeg, ev_wr_id]) | ((first | with_reducible refine br_40 ?_ ?_ | with_reducible refine br_41 ?_ ?_ | with_reducible refine br_42 ?_ ?_ | with_reducible refine br_43 ?_ ?_ | with_reducible refine br_44 ?_ ?_ | with_reducible refine br_45 ?_ ?_ | with_reducible refine br_46 ?_ ?_ | with_reducible refine br_47 ?_ ?_ | with_reducible refine br_48 ?_ ?_ | with_reducible refine br_49 ?_ ?_ | with_reducible refine br_50 ?_ ?_ | with_reducible refine br_51 ?_ ?_) <;> intro h <;> try simp (disch := first | assumption | exact Nat.le_of_ble_eq_true rfl | omega) only [ev_wr_id, not_true_eq_false, not_false_eq_true, Int.reduceEq, Int.reduceLT, Int.reduceLE, and_self, and_true, true_and, and_false, false_and, reduceIte] at h <;> try (exfalso; omega; done)))
  obtain ⟨z, hst⟩ := hst
  have c106 := fun σ2 => c_106 (v := v) (lo := lo) (hi := hi) (σ := σ2) (by omega) (by omega) (by omega)
  have hg : ∀ j w, ev_u1 (ev_u1 (ev_u1 f 12 p) 12 j) 13 w = st_g f j w := fun j w => by
    unfold st_g
    rw [ev_u1_u1]
  unfold st_nk
  rw [← he]
  constructor
  · intro ⟨⟨q1, q2⟩, q3, q4⟩
    rw [hveq q2] at q3 q4 ⊢
    rw [hst]
    simp only [if_pos q3] at c106
    clear ht he hv hp hst hveq
    rw [bk_175_4]
    repeat' (first | (simp (disch := first | assumption | exact Nat.le_of_ble_eq_true rfl | omega) only [bk_175_0, eo_1_0, v11_1, ev_ki, ev_kv, eo_3_4n, eo_3_4i, eo_3_4r, g11_27, eo_3_5n, eo_3_5i, eo_3_5r, eo_6, eo_3_6n, eo_3_6i, eo_3_6r, eo_53, eo_0_4, eo_0_5, g11_28_10, eo_60_3, eo_11, eo_0_6, eo_12, eo_10, eo_52, bk_175_2, bk_175_3, eo_23_5n, eo_23_5i, eo_23_5r, bk_175_4, eo_0_1, eo_0_2, eo_0_3, bk_175_5, bk_175_6, eo_3_7n, eo_3_7i, eo_3_7r, eo_0_7, bk_175_7, bk_175_8, g11_30, eo_56z, a32_190, ev_ua_eq, n2, c106, ev_up_ua, hg, Int.add_zero, Int.add_sub_cancel, Int.reduceAdd, Int.reduceMul, Int.reduceSub, Int.reduceNeg, ev_wr_id]) | ((first | with_reducible refine br_40 ?_ ?_ | with_reducible refine br_41 ?_ ?_ | with_reducible refine br_42 ?_ ?_ | with_reducible refine br_43 ?_ ?_ | with_reducible refine br_44 ?_ ?_ | with_reducible refine br_45 ?_ ?_ | with_reducible refine br_46 ?_ ?_ | with_reducible refine br_47 ?_ ?_ | with_reducible refine br_48 ?_ ?_ | with_reducible refine br_49 ?_ ?_ | with_reducible refine br_50 ?_ ?_ | with_reducible refine br_51 ?_ ?_) <;> intro h <;> try simp (disch := first | assumption | exact Nat.le_of_ble_eq_true rfl | omega) only [ev_wr_id, not_true_eq_false, not_false_eq_true, Int.reduceEq, Int.reduceLT, Int.reduceLE, and_self, and_true, true_and, and_false, false_and, reduceIte] at h <;> try (exfalso; omega; done)))
  · intro q
    refine ⟨v, ?_⟩
    rw [hst]
    by_cases q1 : p < e ∧ e ≤ p + 2
    · rw [hveq q1.2] at q
      by_cases q3 : lo ≤ v ∧ v ≤ hi
      · simp only [if_pos q3] at c106
        have q4 : v = no := Classical.byContradiction fun q6 => q ⟨q1, q3, q6⟩
        clear ht he hv hp hst q hveq
        rw [bk_175_4]
        repeat' (first | (simp (disch := first | assumption | exact Nat.le_of_ble_eq_true rfl | omega) only [bk_175_0, eo_1_0, v11_1, ev_ki, ev_kv, eo_3_4n, eo_3_4i, eo_3_4r, g11_27, eo_3_5n, eo_3_5i, eo_3_5r, eo_6, eo_3_6n, eo_3_6i, eo_3_6r, eo_53, eo_0_4, eo_0_5, g11_28_10, eo_60_3, eo_11, eo_0_6, eo_12, eo_10, eo_52, bk_175_2, bk_175_3, eo_23_5n, eo_23_5i, eo_23_5r, bk_175_4, eo_0_1, eo_0_2, eo_0_3, bk_175_5, bk_175_6, eo_3_7n, eo_3_7i, eo_3_7r, eo_0_7, bk_175_7, bk_175_8, g11_30, eo_56z, a32_190, ev_ua_eq, n2, c106, ev_up_ua, hg, Int.add_zero, Int.add_sub_cancel, Int.reduceAdd, Int.reduceMul, Int.reduceSub, Int.reduceNeg, ev_wr_id]) | ((first | with_reducible refine br_40 ?_ ?_ | with_reducible refine br_41 ?_ ?_ | with_reducible refine br_42 ?_ ?_ | with_reducible refine br_43 ?_ ?_ | with_reducible refine br_44 ?_ ?_ | with_reducible refine br_45 ?_ ?_ | with_reducible refine br_46 ?_ ?_ | with_reducible refine br_47 ?_ ?_ | with_reducible refine br_48 ?_ ?_ | with_reducible refine br_49 ?_ ?_ | with_reducible refine br_50 ?_ ?_ | with_reducible refine br_51 ?_ ?_) <;> intro h <;> try simp (disch := first | assumption | exact Nat.le_of_ble_eq_true rfl | omega) only [ev_wr_id, not_true_eq_false, not_false_eq_true, Int.reduceEq, Int.reduceLT, Int.reduceLE, and_self, and_true, true_and, and_false, false_and, reduceIte] at h <;> try (exfalso; omega; done)))
      · simp only [if_neg q3] at c106
        clear ht he hv hp hst q hveq q3
        rw [bk_175_4]
        repeat' (first | (simp (disch := first | assumption | exact Nat.le_of_ble_eq_true rfl | omega) only [bk_175_0, eo_1_0, v11_1, ev_ki, ev_kv, eo_3_4n, eo_3_4i, eo_3_4r, g11_27, eo_3_5n, eo_3_5i, eo_3_5r, eo_6, eo_3_6n, eo_3_6i, eo_3_6r, eo_53, eo_0_4, eo_0_5, g11_28_10, eo_60_3, eo_11, eo_0_6, eo_12, eo_10, eo_52, bk_175_2, bk_175_3, eo_23_5n, eo_23_5i, eo_23_5r, bk_175_4, eo_0_1, eo_0_2, eo_0_3, bk_175_5, bk_175_6, eo_3_7n, eo_3_7i, eo_3_7r, eo_0_7, bk_175_7, bk_175_8, g11_30, eo_56z, a32_190, ev_ua_eq, n2, c106, ev_up_ua, hg, Int.add_zero, Int.add_sub_cancel, Int.reduceAdd, Int.reduceMul, Int.reduceSub, Int.reduceNeg, ev_wr_id]) | ((first | with_reducible refine br_40 ?_ ?_ | with_reducible refine br_41 ?_ ?_ | with_reducible refine br_42 ?_ ?_ | with_reducible refine br_43 ?_ ?_ | with_reducible refine br_44 ?_ ?_ | with_reducible refine br_45 ?_ ?_ | with_reducible refine br_46 ?_ ?_ | with_reducible refine br_47 ?_ ?_ | with_reducible refine br_48 ?_ ?_ | with_reducible refine br_49 ?_ ?_ | with_reducible refine br_50 ?_ ?_ | with_reducible refine br_51 ?_ ?_) <;> intro h <;> try simp (disch := first | assumption | exact Nat.le_of_ble_eq_true rfl | omega) only [ev_wr_id, not_true_eq_false, not_false_eq_true, Int.reduceEq, Int.reduceLT, Int.reduceLE, and_self, and_true, true_and, and_false, false_and, reduceIte] at h <;> try (exfalso; omega; done)))
    · clear ht he hv hp hst q hveq c106
      rw [bk_175_4]
      repeat' (first | (simp (disch := first | assumption | exact Nat.le_of_ble_eq_true rfl | omega) only [bk_175_0, eo_1_0, v11_1, ev_ki, ev_kv, eo_3_4n, eo_3_4i, eo_3_4r, g11_27, eo_3_5n, eo_3_5i, eo_3_5r, eo_6, eo_3_6n, eo_3_6i, eo_3_6r, eo_53, eo_0_4, eo_0_5, g11_28_10, eo_60_3, eo_11, eo_0_6, eo_12, eo_10, eo_52, bk_175_2, bk_175_3, eo_23_5n, eo_23_5i, eo_23_5r, bk_175_4, eo_0_1, eo_0_2, eo_0_3, bk_175_5, bk_175_6, eo_3_7n, eo_3_7i, eo_3_7r, eo_0_7, bk_175_7, bk_175_8, g11_30, eo_56z, a32_190, ev_ua_eq, n2, ev_up_ua, hg, Int.add_zero, Int.add_sub_cancel, Int.reduceAdd, Int.reduceMul, Int.reduceSub, Int.reduceNeg, ev_wr_id]) | ((first | with_reducible refine br_40 ?_ ?_ | with_reducible refine br_41 ?_ ?_ | with_reducible refine br_42 ?_ ?_ | with_reducible refine br_43 ?_ ?_ | with_reducible refine br_44 ?_ ?_ | with_reducible refine br_45 ?_ ?_ | with_reducible refine br_46 ?_ ?_ | with_reducible refine br_47 ?_ ?_ | with_reducible refine br_48 ?_ ?_ | with_reducible refine br_49 ?_ ?_ | with_reducible refine br_50 ?_ ?_ | with_reducible refine br_51 ?_ ?_) <;> intro h <;> try simp (disch := first | assumption | exact Nat.le_of_ble_eq_true rfl | omega) only [ev_wr_id, not_true_eq_false, not_false_eq_true, Int.reduceEq, Int.reduceLT, Int.reduceLE, and_self, and_true, true_and, and_false, false_and, reduceIte] at h <;> try (exfalso; omega; done)))
