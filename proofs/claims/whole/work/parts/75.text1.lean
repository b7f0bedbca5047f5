/-! the text: blanks, digits, signs -/
def st_sk (c : Int → Int) (n : Int) : Nat → Int → Int
  | 0, i => i
  | k + 1, i => if c i = 32 then st_sk c n k (i + 1) else i
def st_bk (c : Int → Int) (n i : Int) : Int := st_sk c n (n - i).toNat i
theorem st_sk_in {c : Int → Int} {n : Int} : ∀ (k : Nat) (i : Int), i + k = n → i ≤ st_sk c n k i ∧ st_sk c n k i ≤ n ∧ (st_sk c n k i < n → c (st_sk c n k i) ≠ 32) := by
  intro k
  induction k with
  | zero =>
    intro i h
    show i ≤ i ∧ i ≤ n ∧ (i < n → c i ≠ 32)
    exact ⟨Int.le_refl _, by omega, fun h => by omega⟩
  | succ k ih =>
    intro i h
    unfold st_sk
    by_cases q : c i = 32
    · rw [if_pos q]
      have := ih (i + 1) (by omega)
      exact ⟨by omega, this.2.1, this.2.2⟩
    · rw [if_neg q]
      exact ⟨Int.le_refl _, by omega, fun _ => q⟩
theorem st_bk_in {c : Int → Int} {n i : Int} (h : i ≤ n) : i ≤ st_bk c n i ∧ st_bk c n i ≤ n ∧ (st_bk c n i < n → c (st_bk c n i) ≠ 32) := st_sk_in _ _ (by omega)
theorem st_bk_bk {c : Int → Int} {n i : Int} (h : i ≤ n) : st_bk c n (st_bk c n i) = st_bk c n i := by
  have h1 := st_bk_in (c := c) h
  obtain ⟨p, hp⟩ : ∃ p, p = st_bk c n i := ⟨_, rfl⟩
  rw [← hp] at h1 ⊢
  unfold st_bk
  by_cases q : p = n
  · rw [q, show (n - n).toNat = 0 by omega]
    rfl
  · obtain ⟨k, hk⟩ : ∃ k, (n - p).toNat = k + 1 := ⟨(n - p).toNat - 1, by omega⟩
    rw [hk]
    unfold st_sk
    rw [if_neg (h1.2.2 (by omega))]
/-- the bytes in the class's text -/
def st_tx (σ : ev_M) (c : Int → Int) (n : Int) : Prop := (0 ≤ n ∧ n ≤ 100) ∧ ∀ i, 0 ≤ i → i < n → σ 165 i = c i ∧ 0 ≤ c i ∧ c i ≤ 255
theorem st_tx_o {σ σ1 : ev_M} {c : Int → Int} {n : Int} (h : st_tx σ c n) (e : σ1 165 = σ 165) : st_tx σ1 c n := ⟨h.1, fun i h0 h1 => by rw [e]; exact h.2 i h0 h1⟩
theorem l_41 {σ : ev_M} {c : Int → Int} {n : Int} {f : Int → Int} (ht : st_tx σ c n) (hn : f 1 = n) : ∀ (k : Nat) (i : Int), 0 ≤ i → i + k = n → EB 41 0 [some (.inr (.inl 164))] [] (ev_ua σ 164 (ev_u1 f 2 i)) = some (none, ev_ua σ 164 (ev_u1 f 2 (st_sk c n k i))) := by
  have n9 := ht.1
  have n1 : ∀ i, ev_u1 f 2 i 1 = n := fun i => by rw [ev_u1_ne (by omega)]; exact hn
  have n2 : ∀ i, ev_u1 f 2 i 2 = i := fun i => ev_u1_eq rfl
  intro k
  induction k with
  | zero =>
    intro i h0 h1
    obtain rfl : i = n := by omega
    rw [show st_sk c i 0 i = i from rfl]
    clear ht
    rw [bk_41_0]
    repeat' (first | (simp (disch := first | assumption | exact Nat.le_of_ble_eq_true rfl | omega) only [eo_1_0, g5_27, g5_28_0, eo_6, eo_24i, eo_24r, eo_10, g5_30, eo_52, bk_41_1, eo_58, a32_165, ev_ua_eq, n1, n2, Int.add_zero, Int.add_sub_cancel, Int.reduceAdd, Int.reduceMul, Int.reduceSub, Int.reduceNeg, ev_wr_id]) | ((first | with_reducible refine br_40 ?_ ?_ | with_reducible refine br_41 ?_ ?_ | with_reducible refine br_42 ?_ ?_ | with_reducible refine br_43 ?_ ?_ | with_reducible refine br_44 ?_ ?_ | with_reducible refine br_45 ?_ ?_ | with_reducible refine br_46 ?_ ?_ | with_reducible refine br_47 ?_ ?_ | with_reducible refine br_48 ?_ ?_ | with_reducible refine br_49 ?_ ?_ | with_reducible refine br_50 ?_ ?_ | with_reducible refine br_51 ?_ ?_) <;> intro h <;> try simp (disch := first | assumption | exact Nat.le_of_ble_eq_true rfl | omega) only [ev_wr_id, not_true_eq_false, not_false_eq_true, Int.reduceEq, Int.reduceLT, Int.reduceLE, and_self, and_true, true_and, and_false, false_and, reduceIte] at h <;> try (exfalso; omega; done)))
  | succ k ih =>
    intro i h0 h1
    have hi := ht.2 i h0 (by omega)
    have hib := hi.1
    have e := ih (i + 1) (by omega) (by omega)
    have hin : i < n ∧ i < 100 := by omega
    unfold st_sk
    by_cases q : c i = 32
    · rw [if_pos q, ← e]
      clear ht e ih
      rw [bk_41_0]
      repeat' (first | (simp (disch := first | assumption | exact Nat.le_of_ble_eq_true rfl | omega) only [eo_1_0, g5_27, g5_28_0, eo_6, eo_24i, eo_24r, eo_10, g5_30, eo_52, bk_41_1, eo_58, a32_165, ev_ua_eq, ev_ua_ne, n1, n2, hib, ev_up_ua, ev_u1_u1, Int.add_zero, Int.add_sub_cancel, Int.reduceAdd, Int.reduceMul, Int.reduceSub, Int.reduceNeg, ev_wr_id]) | ((first | with_reducible refine br_40 ?_ ?_ | with_reducible refine br_41 ?_ ?_ | with_reducible refine br_42 ?_ ?_ | with_reducible refine br_43 ?_ ?_ | with_reducible refine br_44 ?_ ?_ | with_reducible refine br_45 ?_ ?_ | with_reducible refine br_46 ?_ ?_ | with_reducible refine br_47 ?_ ?_ | with_reducible refine br_48 ?_ ?_ | with_reducible refine br_49 ?_ ?_ | with_reducible refine br_50 ?_ ?_ | with_reducible refine br_51 ?_ ?_) <;> intro h <;> try simp (disch := first | assumption | exact Nat.le_of_ble_eq_true rfl | omega) only [ev_wr_id, not_true_eq_false, not_false_eq_true, Int.reduceEq, Int.reduceLT, Int.reduceLE, and_self, and_true, true_and, and_false, false_and, reduceIte] at h <;> try (exfalso; omega; done)))
    · rw [if_neg q]
      clear ht e ih
      rw [bk_41_0]
      repeat' (first | (simp (disch := first | assumption | exact Nat.le_of_ble_eq_true rfl | omega) only [eo_1_0, g5_27, g5_28_0, eo_6, eo_24i, eo_24r, eo_10, g5_30, eo_52, bk_41_1, eo_58, a32_165, ev_ua_eq, ev_ua_ne, n1, n2, hib, Int.add_zero, Int.add_sub_cancel, Int.reduceAdd, Int.reduceMul, Int.reduceSub, Int.reduceNeg, ev_wr_id]) | ((first | with_reducible refine br_40 ?_ ?_ | with_reducible refine br_41 ?_ ?_ | with_reducible refine br_42 ?_ ?_ | with_reducible refine br_43 ?_ ?_ | with_reducible refine br_44 ?_ ?_ | with_reducible refine br_45 ?_ ?_ | with_reducible refine br_46 ?_ ?_ | with_reducible refine br_47 ?_ ?_ | with_reducible refine br_48 ?_ ?_ | with_reducible refine br_49 ?_ ?_ | with_reducible refine br_50 ?_ ?_ | with_reducible refine br_51 ?_ ?_) <;> intro h <;> try simp (disch := first | assumption | exact Nat.le_of_ble_eq_true rfl | omega) only [ev_wr_id, not_true_eq_false, not_false_eq_true, Int.reduceEq, Int.reduceLT, Int.reduceLE, and_self, and_true, true_and, and_false, false_and, reduceIte] at h <;> try (exfalso; omega; done)))
theorem c_41x {σ : ev_M} {c : Int → Int} {n i : Int} {f : Int → Int} (ht : st_tx σ c n) (hn : f 1 = n) (hi : f 2 = i) (h0 : 0 ≤ i ∧ i ≤ n) : EM 41 [.inr (.inl 164)] (ev_ua σ 164 f) = some (none, ev_ua σ 164 (ev_u1 f 2 (st_bk c n i))) := by
  have e := l_41 ht hn (n - i).toNat i (by omega) (by omega)
  rw [ev_u1_self hi] at e
  unfold st_bk
  rw [mm_41]
  repeat' (first | (simp (disch := first | assumption | exact Nat.le_of_ble_eq_true rfl | omega) only [eo_1_0, g5_27, g5_28_0, eo_6, eo_24i, eo_24r, eo_10, g5_30, eo_52, bk_41_1, eo_58, a32_165, Int.add_zero, Int.add_sub_cancel, Int.reduceAdd, Int.reduceMul, Int.reduceSub, Int.reduceNeg, ev_wr_id]) | ((first | with_reducible refine br_40 ?_ ?_ | with_reducible refine br_41 ?_ ?_ | with_reducible refine br_42 ?_ ?_ | with_reducible refine br_43 ?_ ?_ | with_reducible refine br_44 ?_ ?_ | with_reducible refine br_45 ?_ ?_ | with_reducible refine br_46 ?_ ?_ | with_reducible refine br_47 ?_ ?_ | with_reducible refine br_48 ?_ ?_ | with_reducible refine br_49 ?_ ?_ | with_reducible refine br_50 ?_ ?_ | with_reducible refine br_51 ?_ ?_) <;> intro h <;> try simp (disch := first | assumption | exact Nat.le_of_ble_eq_true rfl | omega) only [ev_wr_id, not_true_eq_false, not_false_eq_true, Int.reduceEq, Int.reduceLT, Int.reduceLE, and_self, and_true, true_and, and_false, false_and, reduceIte] at h <;> try (exfalso; omega; done)))
  exact e
theorem c_39x {σ : ev_M} {c : Int → Int} {n i s : Int} {f : Int → Int} (ht : st_tx σ c n) (hn : f 1 = n) (hi : f 2 = i) (h0 : 0 ≤ i ∧ i ≤ n) (hs : 0 ≤ s ∧ s ≤ 255) : (st_bk c n i < n ∧ c (st_bk c n i) = s → EM 39 [.inr (.inl 164), .inl s] (ev_ua σ 164 f) = some (some (.inl 1), ev_ua σ 164 (ev_u1 f 2 (st_bk c n i + 1)))) ∧ (¬ (st_bk c n i < n ∧ c (st_bk c n i) = s) → EM 39 [.inr (.inl 164), .inl s] (ev_ua σ 164 f) = some (some (.inl 0), ev_ua σ 164 (ev_u1 (ev_u1 f 2 (st_bk c n i)) 3 (st_bk c n i)))) := by
  have e41 := c_41x ht hn hi h0
  have hb := st_bk_in (c := c) h0.2
  obtain ⟨p, hp⟩ : ∃ p, p = st_bk c n i := ⟨_, rfl⟩
  rw [← hp] at e41 hb ⊢
  have n9 := ht.1
  have n1 : ∀ i, ev_u1 f 2 i 1 = n := fun i => by rw [ev_u1_ne (by omega)]; exact hn
  have n2 : ∀ i, ev_u1 f 2 i 2 = i := fun i => ev_u1_eq rfl
  have hpb := ht.2 p (by omega)
  constructor
  · intro ⟨q1, q2⟩
    have h5 := (hpb q1).1
    have h6 := (hpb q1).2
    clear ht hpb
    rw [mm_39]
    repeat' (first | (simp (disch := first | assumption | exact Nat.le_of_ble_eq_true rfl | omega) only [bk_39_0, eo_1_0, v5_1, ev_ki, ev_kv, g5_27, g5_28_0, eo_0_1, eo_53, bk_39_1, v5_2, eo_56z, bk_39_2, eo_24i, eo_24r, eo_6, eo_10, g5_30, a32_165, c_43, e41, ev_ua_eq, ev_ua_ne, n1, n2, h5, ev_up_ua, ev_u1_u1, Int.add_zero, Int.add_sub_cancel, Int.reduceAdd, Int.reduceMul, Int.reduceSub, Int.reduceNeg, ev_wr_id]) | ((first | with_reducible refine br_40 ?_ ?_ | with_reducible refine br_41 ?_ ?_ | with_reducible refine br_42 ?_ ?_ | with_reducible refine br_43 ?_ ?_ | with_reducible refine br_44 ?_ ?_ | with_reducible refine br_45 ?_ ?_ | with_reducible refine br_46 ?_ ?_ | with_reducible refine br_47 ?_ ?_ | with_reducible refine br_48 ?_ ?_ | with_reducible refine br_49 ?_ ?_ | with_reducible refine br_50 ?_ ?_ | with_reducible refine br_51 ?_ ?_) <;> intro h <;> try simp (disch := first | assumption | exact Nat.le_of_ble_eq_true rfl | omega) only [ev_wr_id, not_true_eq_false, not_false_eq_true, Int.reduceEq, Int.reduceLT, Int.reduceLE, and_self, and_true, true_and, and_false, false_and, reduceIte] at h <;> try (exfalso; omega; done)))
  · intro q
    by_cases q1 : p < n
    · have h5 := (hpb q1).1
      have h6 := (hpb q1).2
      have q2 : c p ≠ s := fun h => q ⟨q1, h⟩
      clear ht hpb q
      rw [mm_39]
      repeat' (first | (simp (disch := first | assumption | exact Nat.le_of_ble_eq_true rfl | omega) only [bk_39_0, eo_1_0, v5_1, ev_ki, ev_kv, g5_27, g5_28_0, eo_0_1, eo_53, bk_39_1, v5_2, eo_56z, bk_39_2, eo_24i, eo_24r, eo_6, eo_10, g5_30, a32_165, c_43, e41, ev_ua_eq, ev_ua_ne, n1, n2, h5, ev_up_ua, Int.add_zero, Int.add_sub_cancel, Int.reduceAdd, Int.reduceMul, Int.reduceSub, Int.reduceNeg, ev_wr_id]) | ((first | with_reducible refine br_40 ?_ ?_ | with_reducible refine br_41 ?_ ?_ | with_reducible refine br_42 ?_ ?_ | with_reducible refine br_43 ?_ ?_ | with_reducible refine br_44 ?_ ?_ | with_reducible refine br_45 ?_ ?_ | with_reducible refine br_46 ?_ ?_ | with_reducible refine br_47 ?_ ?_ | with_reducible refine br_48 ?_ ?_ | with_reducible refine br_49 ?_ ?_ | with_reducible refine br_50 ?_ ?_ | with_reducible refine br_51 ?_ ?_) <;> intro h <;> try simp (disch := first | assumption | exact Nat.le_of_ble_eq_true rfl | omega) only [ev_wr_id, not_true_eq_false, not_false_eq_true, Int.reduceEq, Int.reduceLT, Int.reduceLE, and_self, and_true, true_and, and_false, false_and, reduceIte] at h <;> try (exfalso; omega; done)))
    · clear ht hpb q
      rw [mm_39]
      repeat' (first | (simp (disch := first | assumption | exact Nat.le_of_ble_eq_true rfl | omega) only [bk_39_0, eo_1_0, v5_1, ev_ki, ev_kv, g5_27, g5_28_0, eo_0_1, eo_53, bk_39_1, v5_2, eo_56z, bk_39_2, eo_24i, eo_24r, eo_6, eo_10, g5_30, a32_165, c_43, e41, ev_ua_eq, ev_ua_ne, n1, n2, ev_up_ua, Int.add_zero, Int.add_sub_cancel, Int.reduceAdd, Int.reduceMul, Int.reduceSub, Int.reduceNeg, ev_wr_id]) | ((first | with_reducible refine br_40 ?_ ?_ | with_reducible refine br_41 ?_ ?_ | with_reducible refine br_42 ?_ ?_ | with_reducible refine br_43 ?_ ?_ | with_reducible refine br_44 ?_ ?_ | with_reducible refine br_45 ?_ ?_ | with_reducible refine br_46 ?_ ?_ | with_reducible refine br_47 ?_ ?_ | with_reducible refine br_48 ?_ ?_ | with_reducible refine br_49 ?_ ?_ | with_reducible refine br_50 ?_ ?_ | with_reducible refine br_51 ?_ ?_) <;> intro h <;> try simp (disch := first | assumption | exact Nat.le_of_ble_eq_true rfl | omega) only [ev_wr_id, not_true_eq_false, not_false_eq_true, Int.reduceEq, Int.reduceLT, Int.reduceLE, and_self, and_true, true_and, and_false, false_and, reduceIte] at h <;> try (exfalso; omega; done)))
/-! digits -/
def st_dt (c : Int → Int) (i : Int) : Prop := 48 ≤ c i ∧ c i ≤ 57
def st_dg (c : Int → Int) : Nat → Int → Int
  | 0, i => i
  | k + 1, i => if 48 ≤ c i ∧ c i ≤ 57 then st_dg c k (i + 1) else i
def st_nv (c : Int → Int) (p m : Int) : Nat → Int → Int → Int
  | 0, _, v => v
  | k + 1, i, v => if 48 ≤ c i ∧ c i ≤ 57 then st_nv c p m k (i + 1) (if i < p + m then v * 10 + c i - 48 else v) else v
theorem st_dg_in {c : Int → Int} : ∀ (k : Nat) (i : Int), i ≤ st_dg c k i ∧ st_dg c k i ≤ i + k := by
  intro k
  induction k with
  | zero =>
    intro i
    show i ≤ i ∧ i ≤ i + ((0 : Nat) : Int)
    omega
  | succ k ih =>
    intro i
    unfold st_dg
    split
    · have := ih (i + 1)
      omega
    · omega
theorem st_nv_eq {c : Int → Int} {p : Int} : ∀ (k : Nat) (i v : Int), st_dg c k i ≤ p + 2 → st_nv c p 2 k i v = st_nv c p 3 k i v := by
  intro k
  induction k with
  | zero => intro i v h; rfl
  | succ k ih =>
    intro i v h
    unfold st_dg at h
    unfold st_nv
    by_cases q : 48 ≤ c i ∧ c i ≤ 57
    · rw [if_pos q] at h
      have := (st_dg_in (c := c) k (i + 1)).1
      rw [if_pos q, if_pos q, if_pos (by omega), if_pos (by omega)]
      exact ih (i + 1) _ h
    · rw [if_neg q, if_neg q]
theorem st_nv_in {c : Int → Int} {p m : Int} (hm : m = 2 ∨ m = 3) : ∀ (k : Nat) (i v : Int), ((i = p ∧ v = 0) ∨ (i = p + 1 ∧ 0 ≤ v ∧ v ≤ 9) ∨ (i = p + 2 ∧ 0 ≤ v ∧ v ≤ 99) ∨ (p + 3 ≤ i ∧ 0 ≤ v ∧ v ≤ 999)) → 0 ≤ st_nv c p m k i v ∧ st_nv c p m k i v ≤ 999 := by
  intro k
  induction k with
  | zero =>
    intro i v h
    show 0 ≤ v ∧ v ≤ 999
    omega
  | succ k ih =>
    intro i v h
    unfold st_nv
    by_cases q : 48 ≤ c i ∧ c i ≤ 57
    · rw [if_pos q]
      apply ih
      by_cases q2 : i < p + m
      · rw [if_pos q2]
        omega
      · rw [if_neg q2]
        omega
    · rw [if_neg q]
      omega
def st_f (f : Int → Int) (i v : Int) : Int → Int := ev_u1 (ev_u1 f 2 i) 4 v
theorem st_f_2 {f : Int → Int} {i v j : Int} : ev_u1 (st_f f i v) 2 j = st_f f j v := by
  unfold st_f
  rw [ev_u1_cm (a := 4) (b := 2) (by omega), ev_u1_u1]
theorem st_f_4 {f : Int → Int} {i v w : Int} : ev_u1 (st_f f i v) 4 w = st_f f i w := by
  unfold st_f
  rw [ev_u1_u1]
theorem st_f_at {f : Int → Int} {i v : Int} : st_f f i v 2 = i := by
  unfold st_f
  rw [ev_u1_ne (by omega), ev_u1_eq rfl]
theorem st_f_no {f : Int → Int} {i v : Int} : st_f f i v 4 = v := ev_u1_eq rfl
theorem st_f_o {f : Int → Int} {i v k : Int} (h : k ≠ 2 ∧ k ≠ 4) : st_f f i v k = f k := by
  unfold st_f
  rw [ev_u1_ne (by omega), ev_u1_ne (by omega)]
theorem l_40 {σ : ev_M} {c : Int → Int} {n p lo hi no : Int} {f : Int → Int} {p5 : Option ev_V} (ht : st_tx σ c n) (hn : f 1 = n) (hp : 0 ≤ p) : ∀ (k : Nat) (i v : Int), p ≤ i → i + k = n → EB 40 1 [some (.inr (.inl 164)), some (.inl lo), some (.inl hi), some (.inl no), some (.inl p), p5] [] (ev_ua σ 164 (st_f f i v)) = EB 40 3 [some (.inr (.inl 164)), some (.inl lo), some (.inl hi), some (.inl no), some (.inl p), p5] [] (ev_ua σ 164 (st_f f (st_dg c k i) (st_nv c p 2 k i v))) := by
  have n9 := ht.1
  have n1 : ∀ i v, st_f f i v 1 = n := fun i v => by rw [st_f_o (by omega)]; exact hn
  intro k
  induction k with
  | zero =>
    intro i v h0 h1
    obtain rfl : i = n := by omega
    rw [show st_dg c 0 i = i from rfl, show st_nv c p 2 0 i v = v from rfl]
    clear ht
    rw [bk_40_1]
    repeat' (first | (simp (disch := first | assumption | exact Nat.le_of_ble_eq_true rfl | omega) only [bk_40_0, eo_1_0, v5_1, ev_ki, ev_kv, g5_27, eo_3_4n, eo_3_4i, eo_3_4r, eo_6, g5_30, eo_53, g5_28_0, eo_60_1, eo_0_4, eo_10, eo_12, eo_11, bk_40_2, eo_24i, eo_24r, eo_52, v5_2, eo_56z, bk_40_4, eo_0_1, eo_0_2, eo_60_3, eo_0_3, bk_40_5, bk_40_6, eo_3_5n, eo_3_5i, eo_3_5r, eo_0_5, bk_40_7, bk_40_8, bk_40_9, a32_165, c_42, c_43, ev_ua_eq, n1, st_f_at, Int.add_zero, Int.add_sub_cancel, Int.reduceAdd, Int.reduceMul, Int.reduceSub, Int.reduceNeg, ev_wr_id]) | ((first | with_reducible refine br_40 ?_ ?_ | with_reducible refine br_41 ?_ ?_ | with_reducible refine br_42 ?_ ?_ | with_reducible refine br_43 ?_ ?_ | with_reducible refine br_44 ?_ ?_ | with_reducible refine br_45 ?_ ?_ | with_reducible refine br_46 ?_ ?_ | with_reducible refine br_47 ?_ ?_ | with_reducible refine br_48 ?_ ?_ | with_reducible refine br_49 ?_ ?_ | with_reducible refine br_50 ?_ ?_ | with_reducible refine br_51 ?_ ?_) <;> intro h <;> try simp (disch := first | assumption | exact Nat.le_of_ble_eq_true rfl | omega) only [ev_wr_id, not_true_eq_false, not_false_eq_true, Int.reduceEq, Int.reduceLT, Int.reduceLE, and_self, and_true, true_and, and_false, false_and, reduceIte] at h <;> try (exfalso; omega; done)))
  | succ k ih =>
    intro i v h0 h1
    have hi := ht.2 i (by omega) (by omega)
    have hib := hi.1
    have hin : 0 ≤ i ∧ i < n ∧ i < 100 := by omega
    have e42 := fun σ2 => c_42 (t := c i) (σ := σ2) (by omega)
    unfold st_dg st_nv
    by_cases q : 48 ≤ c i ∧ c i ≤ 57
    · have e := ih (i + 1) (if i < p + 2 then v * 10 + c i - 48 else v) (by omega) (by omega)
      rw [if_pos q, if_pos q, ← e]
      simp only [if_pos q] at e42
      clear ht e ih
      by_cases q2 : i < p + 2
      · rw [if_pos q2]
        rw [bk_40_1]
        repeat' (first | (simp (disch := first | assumption | exact Nat.le_of_ble_eq_true rfl | omega) only [bk_40_0, eo_1_0, v5_1, ev_ki, ev_kv, g5_27, eo_3_4n, eo_3_4i, eo_3_4r, eo_6, g5_30, eo_53, g5_28_0, eo_60_1, eo_0_4, eo_10, eo_12, eo_11, bk_40_2, eo_24i, eo_24r, eo_52, v5_2, eo_56z, bk_40_4, eo_0_1, eo_0_2, eo_60_3, eo_0_3, bk_40_5, bk_40_6, eo_3_5n, eo_3_5i, eo_3_5r, eo_0_5, bk_40_7, bk_40_8, bk_40_9, a32_165, c_43, ev_ua_eq, ev_ua_ne, n1, st_f_at, st_f_no, hib, e42, ev_up_ua, st_f_2, st_f_4, Int.add_zero, Int.add_sub_cancel, Int.reduceAdd, Int.reduceMul, Int.reduceSub, Int.reduceNeg, ev_wr_id]) | ((first | with_reducible refine br_40 ?_ ?_ | with_reducible refine br_41 ?_ ?_ | with_reducible refine br_42 ?_ ?_ | with_reducible refine br_43 ?_ ?_ | with_reducible refine br_44 ?_ ?_ | with_reducible refine br_45 ?_ ?_ | with_reducible refine br_46 ?_ ?_ | with_reducible refine br_47 ?_ ?_ | with_reducible refine br_48 ?_ ?_ | with_reducible refine br_49 ?_ ?_ | with_reducible refine br_50 ?_ ?_ | with_reducible refine br_51 ?_ ?_) <;> intro h <;> try simp (disch := first | assumption | exact Nat.le_of_ble_eq_true rfl | omega) only [ev_wr_id, not_true_eq_false, not_false_eq_true, Int.reduceEq, Int.reduceLT, Int.reduceLE, and_self, and_true, true_and, and_false, false_and, reduceIte] at h <;> try (exfalso; omega; done)))
      · rw [if_neg q2]
        rw [bk_40_1]
        repeat' (first | (simp (disch := first | assumption | exact Nat.le_of_ble_eq_true rfl | omega) only [bk_40_0, eo_1_0, v5_1, ev_ki, ev_kv, g5_27, eo_3_4n, eo_3_4i, eo_3_4r, eo_6, g5_30, eo_53, g5_28_0, eo_60_1, eo_0_4, eo_10, eo_12, eo_11, bk_40_2, eo_24i, eo_24r, eo_52, v5_2, eo_56z, bk_40_4, eo_0_1, eo_0_2, eo_60_3, eo_0_3, bk_40_5, bk_40_6, eo_3_5n, eo_3_5i, eo_3_5r, eo_0_5, bk_40_7, bk_40_8, bk_40_9, a32_165, c_43, ev_ua_eq, ev_ua_ne, n1, st_f_at, st_f_no, hib, e42, ev_up_ua, st_f_2, st_f_4, Int.add_zero, Int.add_sub_cancel, Int.reduceAdd, Int.reduceMul, Int.reduceSub, Int.reduceNeg, ev_wr_id]) | ((first | with_reducible refine br_40 ?_ ?_ | with_reducible refine br_41 ?_ ?_ | with_reducible refine br_42 ?_ ?_ | with_reducible refine br_43 ?_ ?_ | with_reducible refine br_44 ?_ ?_ | with_reducible refine br_45 ?_ ?_ | with_reducible refine br_46 ?_ ?_ | with_reducible refine br_47 ?_ ?_ | with_reducible refine br_48 ?_ ?_ | with_reducible refine br_49 ?_ ?_ | with_reducible refine br_50 ?_ ?_ | with_reducible refine br_51 ?_ ?_) <;> intro h <;> try simp (disch := first | assumption | exact Nat.le_of_ble_eq_true rfl | omega) only [ev_wr_id, not_true_eq_false, not_false_eq_true, Int.reduceEq, Int.reduceLT, Int.reduceLE, and_self, and_true, true_and, and_false, false_and, reduceIte] at h <;> try (exfalso; omega; done)))
    · rw [if_neg q, if_neg q]
      simp only [if_neg q] at e42
      clear ht ih
      rw [bk_40_1]
      repeat' (first | (simp (disch := first | assumption | exact Nat.le_of_ble_eq_true rfl | omega) only [bk_40_0, eo_1_0, v5_1, ev_ki, ev_kv, g5_27, eo_3_4n, eo_3_4i, eo_3_4r, eo_6, g5_30, eo_53, g5_28_0, eo_60_1, eo_0_4, eo_10, eo_12, eo_11, bk_40_2, eo_24i, eo_24r, eo_52, v5_2, eo_56z, bk_40_4, eo_0_1, eo_0_2, eo_60_3, eo_0_3, bk_40_5, bk_40_6, eo_3_5n, eo_3_5i, eo_3_5r, eo_0_5, bk_40_7, bk_40_8, bk_40_9, a32_165, c_43, ev_ua_eq, ev_ua_ne, n1, st_f_at, st_f_no, hib, e42, ev_up_ua, st_f_2, st_f_4, Int.add_zero, Int.add_sub_cancel, Int.reduceAdd, Int.reduceMul, Int.reduceSub, Int.reduceNeg, ev_wr_id]) | ((first | with_reducible refine br_40 ?_ ?_ | with_reducible refine br_41 ?_ ?_ | with_reducible refine br_42 ?_ ?_ | with_reducible refine br_43 ?_ ?_ | with_reducible refine br_44 ?_ ?_ | with_reducible refine br_45 ?_ ?_ | with_reducible refine br_46 ?_ ?_ | with_reducible refine br_47 ?_ ?_ | with_reducible refine br_48 ?_ ?_ | with_reducible refine br_49 ?_ ?_ | with_reducible refine br_50 ?_ ?_ | with_reducible refine br_51 ?_ ?_) <;> intro h <;> try simp (disch := first | assumption | exact Nat.le_of_ble_eq_true rfl | omega) only [ev_wr_id, not_true_eq_false, not_false_eq_true, Int.reduceEq, Int.reduceLT, Int.reduceLE, and_self, and_true, true_and, and_false, false_and, reduceIte] at h <;> try (exfalso; omega; done)))
/-- a number from p on: its end, its value -/
def st_ne1 (c : Int → Int) (n p : Int) : Int := st_dg c (n - p).toNat p
def st_nu1 (c : Int → Int) (n p m : Int) : Int := st_nv c p m (n - p).toNat p 0
def st_nk (c : Int → Int) (n p lo hi no : Int) : Prop := (p < st_ne1 c n p ∧ st_ne1 c n p ≤ p + 2) ∧ (lo ≤ st_nu1 c n p 2 ∧ st_nu1 c n p 2 ≤ hi) ∧ st_nu1 c n p 2 ≠ no
theorem c_40x {σ : ev_M} {c : Int → Int} {n i lo hi no : Int} {f : Int → Int} (ht : st_tx σ c n) (hn : f 1 = n) (hi0 : f 2 = i) (h0 : 0 ≤ i ∧ i ≤ n) (hlo : -9999 ≤ lo ∧ lo ≤ 9999) (hhi : -9999 ≤ hi ∧ hi ≤ 9999) (hno : -9999 ≤ no ∧ no ≤ 9999) : (st_nk c n (st_bk c n i) lo hi no → EM 40 [.inr (.inl 164), .inl lo, .inl hi, .inl no] (ev_ua σ 164 f) = some (some (.inl 1), ev_ua σ 164 (st_f f (st_ne1 c n (st_bk c n i)) (st_nu1 c n (st_bk c n i) 2)))) ∧ (¬ st_nk c n (st_bk c n i) lo hi no → ∃ j v, EM 40 [.inr (.inl 164), .inl lo, .inl hi, .inl no] (ev_ua σ 164 f) = some (some (.inl 0), ev_ua σ 164 (ev_u1 (st_f f j v) 3 (st_bk c n i)))) := by
  have e41 := c_41x ht hn hi0 h0
  have hb := st_bk_in (c := c) h0.2
  obtain ⟨p, hp⟩ : ∃ p, p = st_bk c n i := ⟨_, rfl⟩
  rw [← hp] at e41 hb ⊢
  have n9 := ht.1
  have e3 := l_40 (lo := lo) (hi := hi) (no := no) (f := f) (p5 := none) ht hn (p := p) (by omega) (n - p).toNat p 0 (Int.le_refl _) (by omega)
  obtain ⟨e, he⟩ : ∃ e, e = st_ne1 c n p := ⟨_, rfl⟩
  obtain ⟨v, hv⟩ : ∃ v, v = st_nu1 c n p 2 := ⟨_, rfl⟩
  have her : p ≤ e ∧ e ≤ n := by
    rw [he]
    have := st_dg_in (c := c) (n - p).toNat p
    unfold st_ne1
    omega
  have hvr : 0 ≤ v ∧ v ≤ 999 := by
    rw [hv]
    exact st_nv_in (Or.inl rfl) _ _ _ (Or.inl ⟨rfl, rfl⟩)
  rw [show st_dg c (n - p).toNat p = e from he.symm, show st_nv c p 2 (n - p).toNat p 0 = v from hv.symm] at e3
  have hst : ∀ (x : ev_V) (M : ev_M), EB 40 3 [some (.inr (.inl 164)), some (.inl lo), some (.inl hi), some (.inl no), some (.inl p), none] [] (ev_ua σ 164 (st_f f e v)) = some (some x, M) → EM 40 [.inr (.inl 164), .inl lo, .inl hi, .inl no] (ev_ua σ 164 f) = some (some x, M) := by
    intro x M hx
    rw [← hx, ← e3]
    have n2 : ev_u1 f 2 p 2 = p := ev_u1_eq rfl
    clear ht hx e3 he hv hp
    rw [mm_40]
    repeat' (first | (simp (disch := first | assumption | exact Nat.le_of_ble_eq_true rfl | omega) only [bk_40_0, eo_1_0, v5_1, ev_ki, ev_kv, g5_27, eo_3_4n, eo_3_4i, eo_3_4r, eo_6, g5_30, eo_53, g5_28_0, eo_60_1, eo_0_4, eo_10, eo_12, eo_11, bk_40_2, eo_24i, eo_24r, eo_52, bk_40_3, v5_2, eo_56z, bk_40_4, eo_0_1, eo_0_2, eo_60_3, eo_0_3, bk_40_5, bk_40_6, eo_3_5n, eo_3_5i, eo_3_5r, eo_0_5, bk_40_7, bk_40_8, bk_40_9, a32_165, c_43, e41, ev_ua_eq, n2, ev_up_ua, Int.add_zero, Int.add_sub_cancel, Int.reduceAdd, Int.reduceMul, Int.reduceSub, Int.reduceNeg, ev_wr_id]) | ((first | with_reducible refine br_40 ?_ ?_ | with_reducible refine br_41 ?_ ?_ | with_reducible refine br_42 ?_ ?_ | with_reducible refine br_43 ?_ ?_ | with_reducible refine br_44 ?_ ?_ | with_reducible refine br_45 ?_ ?_ | with_reducible refine br_46 ?_ ?_ | with_reducible refine br_47 ?_ ?_ | with_reducible refine br_48 ?_ ?_ | with_reducible refine br_49 ?_ ?_ | with_reducible refine br_50 ?_ ?_ | with_reducible refine br_51 ?_ ?_) <;> intro h <;> try simp (disch := first | assumption | exact Nat.le_of_ble_eq_true rfl | omega) only [ev_wr_id, not_true_eq_false, not_false_eq_true, Int.reduceEq, Int.reduceLT, Int.reduceLE, and_self, and_true, true_and, and_false, false_and, reduceIte] at h <;> try (exfalso; omega; done)))
    rfl
  have c104 := fun σ2 => c_104 (v := v) (lo := lo) (hi := hi) (σ := σ2) (by omega) (by omega) (by omega)
  unfold st_nk
  rw [← he, ← hv]
  constructor
  · intro ⟨⟨q1, q2⟩, q3, q4⟩
    apply hst
    simp only [if_pos q3] at c104
    clear ht e3 he hv hp hst
    rw [bk_40_3]
    repeat' (first | (simp (disch := first | assumption | exact Nat.le_of_ble_eq_true rfl | omega) only [bk_40_0, eo_1_0, v5_1, ev_ki, ev_kv, g5_27, eo_3_4n, eo_3_4i, eo_3_4r, eo_6, g5_30, eo_53, g5_28_0, eo_60_1, eo_0_4, eo_10, eo_12, eo_11, bk_40_2, eo_24i, eo_24r, eo_52, bk_40_3, v5_2, eo_56z, bk_40_4, eo_0_1, eo_0_2, eo_60_3, eo_0_3, bk_40_5, bk_40_6, eo_3_5n, eo_3_5i, eo_3_5r, eo_0_5, bk_40_7, bk_40_8, bk_40_9, a32_165, c_43, ev_ua_eq, st_f_at, st_f_no, c104, Int.add_zero, Int.add_sub_cancel, Int.reduceAdd, Int.reduceMul, Int.reduceSub, Int.reduceNeg, ev_wr_id]) | ((first | with_reducible refine br_40 ?_ ?_ | with_reducible refine br_41 ?_ ?_ | with_reducible refine br_42 ?_ ?_ | with_reducible refine br_43 ?_ ?_ | with_reducible refine br_44 ?_ ?_ | with_reducible refine br_45 ?_ ?_ | with_reducible refine br_46 ?_ ?_ | with_reducible refine br_47 ?_ ?_ | with_reducible refine br_48 ?_ ?_ | with_reducible refine br_49 ?_ ?_ | with_reducible refine br_50 ?_ ?_ | with_reducible refine br_51 ?_ ?_) <;> intro h <;> try simp (disch := first | assumption | exact Nat.le_of_ble_eq_true rfl | omega) only [ev_wr_id, not_true_eq_false, not_false_eq_true, Int.reduceEq, Int.reduceLT, Int.reduceLE, and_self, and_true, true_and, and_false, false_and, reduceIte] at h <;> try (exfalso; omega; done)))
  · intro q
    by_cases q1 : e = p
    · refine ⟨e, v, ?_⟩
      apply hst
      clear ht e3 he hv hp hst q
      rw [bk_40_3]
      repeat' (first | (simp (disch := first | assumption | exact Nat.le_of_ble_eq_true rfl | omega) only [bk_40_0, eo_1_0, v5_1, ev_ki, ev_kv, g5_27, eo_3_4n, eo_3_4i, eo_3_4r, eo_6, g5_30, eo_53, g5_28_0, eo_60_1, eo_0_4, eo_10, eo_12, eo_11, bk_40_2, eo_24i, eo_24r, eo_52, bk_40_3, v5_2, eo_56z, bk_40_4, eo_0_1, eo_0_2, eo_60_3, eo_0_3, bk_40_5, bk_40_6, eo_3_5n, eo_3_5i, eo_3_5r, eo_0_5, bk_40_7, bk_40_8, bk_40_9, a32_165, c_43, ev_ua_eq, st_f_at, st_f_no, ev_up_ua, q1, Int.add_zero, Int.add_sub_cancel, Int.reduceAdd, Int.reduceMul, Int.reduceSub, Int.reduceNeg, ev_wr_id]) | ((first | with_reducible refine br_40 ?_ ?_ | with_reducible refine br_41 ?_ ?_ | with_reducible refine br_42 ?_ ?_ | with_reducible refine br_43 ?_ ?_ | with_reducible refine br_44 ?_ ?_ | with_reducible refine br_45 ?_ ?_ | with_reducible refine br_46 ?_ ?_ | with_reducible refine br_47 ?_ ?_ | with_reducible refine br_48 ?_ ?_ | with_reducible refine br_49 ?_ ?_ | with_reducible refine br_50 ?_ ?_ | with_reducible refine br_51 ?_ ?_) <;> intro h <;> try simp (disch := first | assumption | exact Nat.le_of_ble_eq_true rfl | omega) only [ev_wr_id, not_true_eq_false, not_false_eq_true, Int.reduceEq, Int.reduceLT, Int.reduceLE, and_self, and_true, true_and, and_false, false_and, reduceIte] at h <;> try (exfalso; omega; done)))
    · refine ⟨e, v, ?_⟩
      apply hst
      by_cases q3 : lo ≤ v ∧ v ≤ hi
      · simp only [if_pos q3] at c104
        have q4 : p + 2 < e ∨ v = no := by
          by_cases q5 : p + 2 < e
          · exact Or.inl q5
          · exact Or.inr (Classical.byContradiction fun q6 => q ⟨⟨by omega, by omega⟩, q3, q6⟩)
        clear ht e3 he hv hp hst q
        rw [bk_40_3]
        repeat' (first | (simp (disch := first | assumption | exact Nat.le_of_ble_eq_true rfl | omega) only [bk_40_0, eo_1_0, v5_1, ev_ki, ev_kv, g5_27, eo_3_4n, eo_3_4i, eo_3_4r, eo_6, g5_30, eo_53, g5_28_0, eo_60_1, eo_0_4, eo_10, eo_12, eo_11, bk_40_2, eo_24i, eo_24r, eo_52, bk_40_3, v5_2, eo_56z, bk_40_4, eo_0_1, eo_0_2, eo_60_3, eo_0_3, bk_40_5, bk_40_6, eo_3_5n, eo_3_5i, eo_3_5r, eo_0_5, bk_40_7, bk_40_8, bk_40_9, a32_165, c_43, ev_ua_eq, st_f_at, st_f_no, ev_up_ua, c104, Int.add_zero, Int.add_sub_cancel, Int.reduceAdd, Int.reduceMul, Int.reduceSub, Int.reduceNeg, ev_wr_id]) | ((first | with_reducible refine br_40 ?_ ?_ | with_reducible refine br_41 ?_ ?_ | with_reducible refine br_42 ?_ ?_ | with_reducible refine br_43 ?_ ?_ | with_reducible refine br_44 ?_ ?_ | with_reducible refine br_45 ?_ ?_ | with_reducible refine br_46 ?_ ?_ | with_reducible refine br_47 ?_ ?_ | with_reducible refine br_48 ?_ ?_ | with_reducible refine br_49 ?_ ?_ | with_reducible refine br_50 ?_ ?_ | with_reducible refine br_51 ?_ ?_) <;> intro h <;> try simp (disch := first | assumption | exact Nat.le_of_ble_eq_true rfl | omega) only [ev_wr_id, not_true_eq_false, not_false_eq_true, Int.reduceEq, Int.reduceLT, Int.reduceLE, and_self, and_true, true_and, and_false, false_and, reduceIte] at h <;> try (exfalso; omega; done)))
      · simp only [if_neg q3] at c104
        clear ht e3 he hv hp hst q q3
        rw [bk_40_3]
        repeat' (first | (simp (disch := first | assumption | exact Nat.le_of_ble_eq_true rfl | omega) only [bk_40_0, eo_1_0, v5_1, ev_ki, ev_kv, g5_27, eo_3_4n, eo_3_4i, eo_3_4r, eo_6, g5_30, eo_53, g5_28_0, eo_60_1, eo_0_4, eo_10, eo_12, eo_11, bk_40_2, eo_24i, eo_24r, eo_52, bk_40_3, v5_2, eo_56z, bk_40_4, eo_0_1, eo_0_2, eo_60_3, eo_0_3, bk_40_5, bk_40_6, eo_3_5n, eo_3_5i, eo_3_5r, eo_0_5, bk_40_7, bk_40_8, bk_40_9, a32_165, c_43, ev_ua_eq, st_f_at, st_f_no, ev_up_ua, c104, Int.add_zero, Int.add_sub_cancel, Int.reduceAdd, Int.reduceMul, Int.reduceSub, Int.reduceNeg, ev_wr_id]) | ((first | with_reducible refine br_40 ?_ ?_ | with_reducible refine br_41 ?_ ?_ | with_reducible refine br_42 ?_ ?_ | with_reducible refine br_43 ?_ ?_ | with_reducible refine br_44 ?_ ?_ | with_reducible refine br_45 ?_ ?_ | with_reducible refine br_46 ?_ ?_ | with_reducible refine br_47 ?_ ?_ | with_reducible refine br_48 ?_ ?_ | with_reducible refine br_49 ?_ ?_ | with_reducible refine br_50 ?_ ?_ | with_reducible refine br_51 ?_ ?_) <;> intro h <;> try simp (disch := first | assumption | exact Nat.le_of_ble_eq_true rfl | omega) only [ev_wr_id, not_true_eq_false, not_false_eq_true, Int.reduceEq, Int.reduceLT, Int.reduceLE, and_self, and_true, true_and, and_false, false_and, reduceIte] at h <;> try (exfalso; omega; done)))
