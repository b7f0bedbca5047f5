/-! wayTown on both sides -/
noncomputable def st_it (T : Int → Int) (w : Int) (G : Int → Int) (x : Int) : Nat → Int
  | 0 => x
  | i + 1 => st_nx T w G (st_it T w G x i)
noncomputable def st_ni (G : Int → Int) (x : Int) : Nat := ev_nu (fun y => 0 ≤ y ∧ y < 10 ∧ G y < G x) 10
theorem st_it_1 {T : Int → Int} {w x : Int} {G : Int → Int} : ∀ i : Nat, st_it T w G (st_nx T w G x) i = st_it T w G x (i + 1) := by
  intro i
  induction i with
  | zero => rfl
  | succ i ih =>
    show st_nx T w G (st_it T w G (st_nx T w G x) i) = st_nx T w G (st_it T w G x (i + 1))
    rw [ih]
theorem st_ch {T : Int → Int} {w s : Int} {G : Int → Int} (hI : st_I T) (hG : st_sp T w (-1) s G) : ∀ (m : Nat) (x : Int), 0 ≤ x ∧ x < 10 → G x ≤ 990 → st_ni G x ≤ m → ∃ n : Nat, n ≤ m ∧ st_it T w G x n = s ∧ ∀ i : Nat, i ≤ n → (0 ≤ st_it T w G x i ∧ st_it T w G x i < 10) ∧ G (st_it T w G x i) ≤ 990 ∧ (i < n → st_it T w G x i ≠ s) := by
  have i0 := hI.1.1
  intro m
  induction m with
  | zero =>
    intro x hx hr hm
    by_cases c : x = s
    · refine ⟨0, by omega, c, fun i hi => ?_⟩
      obtain rfl : i = 0 := by omega
      exact ⟨hx, hr, fun h => by omega⟩
    · obtain ⟨q1, q2⟩ := st_nx_in hI hG hx c hr
      have := ev_nu_pos (k := 10) (p := fun y => 0 ≤ y ∧ y < 10 ∧ G y < G x) (y := st_nx T w G x) q1.1 (by omega) ⟨q1.1, by omega, q2⟩
      unfold st_ni at hm
      omega
  | succ m ih =>
    intro x hx hr hm
    by_cases c : x = s
    · refine ⟨0, by omega, c, fun i hi => ?_⟩
      obtain rfl : i = 0 := by omega
      exact ⟨hx, hr, fun h => by omega⟩
    · obtain ⟨q1, q2⟩ := st_nx_in hI hG hx c hr
      have hlt : st_ni G (st_nx T w G x) + 1 ≤ st_ni G x := ev_nu_1 (y := st_nx T w G x) (by omega) (fun z hz => ⟨hz.1, hz.2.1, by have := hz.2.2; omega⟩) ⟨q1.1, by omega, q2⟩ (fun hz => by have := hz.2.2; omega)
      obtain ⟨n, h1, h2, h3⟩ := ih (st_nx T w G x) (by omega) (by omega) (by omega)
      refine ⟨n + 1, by omega, by rw [← st_it_1]; exact h2, fun i hi => ?_⟩
      by_cases ci : i = 0
      · rw [ci]
        exact ⟨hx, hr, fun _ => c⟩
      · obtain ⟨j, hj⟩ : ∃ j, i = j + 1 := ⟨i - 1, by omega⟩
        rw [hj, ← st_it_1]
        have := h3 j (by omega)
        exact ⟨this.1, this.2.1, fun h => this.2.2 (by omega)⟩
theorem st_ni_9 {G : Int → Int} {x : Int} (hx : 0 ≤ x ∧ x < 10) : st_ni G x ≤ 9 := by
  have h1 := ev_nu_1 (p := fun y => 0 ≤ y ∧ y < 10 ∧ G y < G x) (q := fun y => 0 ≤ y ∧ y < 10 ∧ G y ≤ G x) (y := x) hx (fun z hz => ⟨hz.1, hz.2.1, by have := hz.2.2; omega⟩) ⟨hx.1, hx.2, Int.le_refl _⟩ (fun hz => by have := hz.2.2; omega)
  have h2 := ev_nu_le (p := fun y => 0 ≤ y ∧ y < 10 ∧ G y ≤ G x) 10
  unfold st_ni
  omega
theorem l_64 {σ : ev_M} {s fr to w : Int} {n : Nat} {x : Nat → Int} (hs : ev_S s) (hn : n ≤ 9) (hf : 0 ≤ fr ∧ fr < 10) (hx : ∀ i : Nat, i ≤ n → 0 ≤ x i ∧ x i < 10) (hxn : x n = fr) (hxi : ∀ i : Nat, i < n → x i ≠ fr) (ha : ∀ (i : Nat) (B : Int → Int), i < n → EM 65 [.inr (.inl 173), .inr (.inl s), .inl (x i), .inl w] (ev_ua σ 176 B) = some (some (.inl (x (i + 1))), ev_ua σ 176 B)) : ∀ (k m : Nat) (mi t : Int) (B : Int → Int), m + k = n → mi = m → t = x m → (∀ j : Nat, j < m → B j = x j) → ∃ B2, EB 64 2 [some (.inr (.inl 173)), some (.inr (.inl s)), some (.inl fr), some (.inl to), some (.inl w), some (.inl mi), some (.inl t)] [] (ev_ua σ 176 B) = some (some (.inl ((n : Int) + 1)), ev_ua σ 176 B2) ∧ ∀ j : Nat, j ≤ n → B2 j = x j := by
  intro k
  induction k with
  | zero =>
    intro m mi t B hm hmi ht hB
    obtain rfl : m = n := by omega
    refine ⟨ev_u1 B mi fr, ?_, fun j hj => ?_⟩
    · have ht2 : t = fr := by omega
      rw [ht2, ← hmi]
      have hmi2 : 0 ≤ mi ∧ mi ≤ 9 := by omega
      clear hB ha hxi hx hxn ht hmi hm ht2 hn
      rw [bk_64_2]
      repeat' (first | (simp (disch := first | assumption | exact Nat.le_of_ble_eq_true rfl | omega) only [bk_64_0, eo_1_0, eo_0_3, v9_2, ev_ki, ev_kv, eo_6, eo_56i, bk_64_1, eo_3_5n, eo_3_5i, eo_3_5r, eo_3_6n, eo_3_6i, eo_3_6r, eo_53, eo_0_5, eo_0_6, g9_28_2, eo_23_5n, eo_23_5i, eo_23_5r, eo_0_2, eo_52, bk_64_3, eo_1_1, eo_0_4, v9_4, bk_64_4, bk_64_5, a33_176, ev_up_ua, Int.add_zero, Int.add_sub_cancel, Int.reduceAdd, Int.reduceMul, Int.reduceSub, Int.reduceNeg, ev_wr_id]) | ((first | with_reducible refine br_40 ?_ ?_ | with_reducible refine br_41 ?_ ?_ | with_reducible refine br_42 ?_ ?_ | with_reducible refine br_43 ?_ ?_ | with_reducible refine br_44 ?_ ?_ | with_reducible refine br_45 ?_ ?_ | with_reducible refine br_46 ?_ ?_ | with_reducible refine br_47 ?_ ?_ | with_reducible refine br_48 ?_ ?_ | with_reducible refine br_49 ?_ ?_ | with_reducible refine br_50 ?_ ?_ | with_reducible refine br_51 ?_ ?_) <;> intro h <;> try simp (disch := first | assumption | exact Nat.le_of_ble_eq_true rfl | omega) only [ev_wr_id, not_true_eq_false, not_false_eq_true, Int.reduceEq, Int.reduceLT, Int.reduceLE, and_self, and_true, true_and, and_false, false_and, reduceIte] at h <;> try (exfalso; omega; done)))
      by_cases c : mi + 1 < 10
      · rw [bk_64_2]
        repeat' (first | (simp (disch := first | assumption | exact Nat.le_of_ble_eq_true rfl | omega) only [bk_64_0, eo_1_0, eo_0_3, v9_2, ev_ki, ev_kv, eo_6, eo_56i, bk_64_1, eo_3_5n, eo_3_5i, eo_3_5r, eo_3_6n, eo_3_6i, eo_3_6r, eo_53, eo_0_5, eo_0_6, g9_28_2, eo_23_5n, eo_23_5i, eo_23_5r, eo_0_2, eo_52, bk_64_3, eo_1_1, eo_0_4, v9_4, bk_64_4, bk_64_5, a33_176, Int.add_zero, Int.add_sub_cancel, Int.reduceAdd, Int.reduceMul, Int.reduceSub, Int.reduceNeg, ev_wr_id]) | ((first | with_reducible refine br_40 ?_ ?_ | with_reducible refine br_41 ?_ ?_ | with_reducible refine br_42 ?_ ?_ | with_reducible refine br_43 ?_ ?_ | with_reducible refine br_44 ?_ ?_ | with_reducible refine br_45 ?_ ?_ | with_reducible refine br_46 ?_ ?_ | with_reducible refine br_47 ?_ ?_ | with_reducible refine br_48 ?_ ?_ | with_reducible refine br_49 ?_ ?_ | with_reducible refine br_50 ?_ ?_ | with_reducible refine br_51 ?_ ?_) <;> intro h <;> try simp (disch := first | assumption | exact Nat.le_of_ble_eq_true rfl | omega) only [ev_wr_id, not_true_eq_false, not_false_eq_true, Int.reduceEq, Int.reduceLT, Int.reduceLE, and_self, and_true, true_and, and_false, false_and, reduceIte] at h <;> try (exfalso; omega; done)))
      · rw [bk_64_2]
        repeat' (first | (simp (disch := first | assumption | exact Nat.le_of_ble_eq_true rfl | omega) only [bk_64_0, eo_1_0, eo_0_3, v9_2, ev_ki, ev_kv, eo_6, eo_56i, bk_64_1, eo_3_5n, eo_3_5i, eo_3_5r, eo_3_6n, eo_3_6i, eo_3_6r, eo_53, eo_0_5, eo_0_6, g9_28_2, eo_23_5n, eo_23_5i, eo_23_5r, eo_0_2, eo_52, bk_64_3, eo_1_1, eo_0_4, v9_4, bk_64_4, bk_64_5, a33_176, Int.add_zero, Int.add_sub_cancel, Int.reduceAdd, Int.reduceMul, Int.reduceSub, Int.reduceNeg, ev_wr_id]) | ((first | with_reducible refine br_40 ?_ ?_ | with_reducible refine br_41 ?_ ?_ | with_reducible refine br_42 ?_ ?_ | with_reducible refine br_43 ?_ ?_ | with_reducible refine br_44 ?_ ?_ | with_reducible refine br_45 ?_ ?_ | with_reducible refine br_46 ?_ ?_ | with_reducible refine br_47 ?_ ?_ | with_reducible refine br_48 ?_ ?_ | with_reducible refine br_49 ?_ ?_ | with_reducible refine br_50 ?_ ?_ | with_reducible refine br_51 ?_ ?_) <;> intro h <;> try simp (disch := first | assumption | exact Nat.le_of_ble_eq_true rfl | omega) only [ev_wr_id, not_true_eq_false, not_false_eq_true, Int.reduceEq, Int.reduceLT, Int.reduceLE, and_self, and_true, true_and, and_false, false_and, reduceIte] at h <;> try (exfalso; omega; done)))
    · by_cases c : j = m
      · rw [ev_u1_eq (by omega), c, hxn]
      · rw [ev_u1_ne (by omega)]
        exact hB j (by omega)
  | succ k ih =>
    intro m mi t B hm hmi ht hB
    obtain ⟨B2, e, h⟩ := ih (m + 1) (mi + 1) (x (m + 1)) (ev_u1 B mi t) (by omega) (by omega) rfl (fun j hj => by
      by_cases c : j = m
      · rw [ev_u1_eq (by omega), c, ht]
      · rw [ev_u1_ne (by omega)]
        exact hB j (by omega))
    refine ⟨B2, ?_, h⟩
    have e65 := ha m (ev_u1 B mi t) (by omega)
    have hxm := hx m (by omega)
    have hne := hxi m (by omega)
    rw [← ht] at hxm hne e65
    obtain ⟨y, hy⟩ : ∃ y, y = x (m + 1) := ⟨_, rfl⟩
    rw [← hy] at e65 e
    have hmi2 : 0 ≤ mi ∧ mi ≤ 8 := by omega
    rw [← e]
    clear e h hB ha hxi hx hxn ht hmi hm hn ih hy
    rw [bk_64_2]
    repeat' (first | (simp (disch := first | assumption | exact Nat.le_of_ble_eq_true rfl | omega) only [bk_64_0, eo_1_0, eo_0_3, v9_2, ev_ki, ev_kv, eo_6, eo_56i, bk_64_1, eo_3_5n, eo_3_5i, eo_3_5r, eo_3_6n, eo_3_6i, eo_3_6r, eo_53, eo_0_5, eo_0_6, g9_28_2, eo_23_5n, eo_23_5i, eo_23_5r, eo_0_2, eo_52, bk_64_3, eo_1_1, eo_0_4, v9_4, bk_64_4, bk_64_5, a33_176, ev_up_ua, e65, Int.add_zero, Int.add_sub_cancel, Int.reduceAdd, Int.reduceMul, Int.reduceSub, Int.reduceNeg, ev_wr_id]) | ((first | with_reducible refine br_40 ?_ ?_ | with_reducible refine br_41 ?_ ?_ | with_reducible refine br_42 ?_ ?_ | with_reducible refine br_43 ?_ ?_ | with_reducible refine br_44 ?_ ?_ | with_reducible refine br_45 ?_ ?_ | with_reducible refine br_46 ?_ ?_ | with_reducible refine br_47 ?_ ?_ | with_reducible refine br_48 ?_ ?_ | with_reducible refine br_49 ?_ ?_ | with_reducible refine br_50 ?_ ?_ | with_reducible refine br_51 ?_ ?_) <;> intro h <;> try simp (disch := first | assumption | exact Nat.le_of_ble_eq_true rfl | omega) only [ev_wr_id, not_true_eq_false, not_false_eq_true, Int.reduceEq, Int.reduceLT, Int.reduceLE, and_self, and_true, true_and, and_false, false_and, reduceIte] at h <;> try (exfalso; omega; done)))
theorem c_64 {σ : ev_M} {s fr to w : Int} {n : Nat} {x : Nat → Int} (hs : ev_S s) (hn : n ≤ 9) (hf : 0 ≤ fr ∧ fr < 10) (hx : ∀ i : Nat, i ≤ n → 0 ≤ x i ∧ x i < 10) (h0 : x 0 = to) (hxn : x n = fr) (hxi : ∀ i : Nat, i < n → x i ≠ fr) (hr : 0 ≤ σ 174 to ∧ σ 174 to < 1000000) (ha : ∀ (i : Nat) (B : Int → Int), i < n → EM 65 [.inr (.inl 173), .inr (.inl s), .inl (x i), .inl w] (ev_ua σ 176 B) = some (some (.inl (x (i + 1))), ev_ua σ 176 B)) : ∃ B, EM 64 [.inr (.inl 173), .inr (.inl s), .inl fr, .inl to, .inl w] σ = some (some (.inl ((n : Int) + 1)), ev_ua σ 176 B) ∧ ∀ j : Nat, j ≤ n → B j = x j := by
  obtain ⟨B, e, h⟩ := l_64 (σ := σ) (to := to) hs hn hf hx hxn hxi ha n 0 0 to (σ 176) (by omega) rfl h0.symm (fun j hj => by omega)
  rw [ev_ua_self] at e
  have hto := hx 0 (by omega)
  rw [h0] at hto
  have e61 := c_61 (σ := σ) (t := to) hto (by omega)
  rw [if_pos hr.2] at e61
  refine ⟨B, ?_, h⟩
  rw [← e]
  clear e h ha hxi hx hxn h0 hn
  rw [mm_64]
  repeat' (first | (simp (disch := first | assumption | exact Nat.le_of_ble_eq_true rfl | omega) only [bk_64_0, eo_1_0, eo_0_3, v9_2, ev_ki, ev_kv, eo_6, eo_56i, bk_64_1, eo_3_5n, eo_3_5i, eo_3_5r, eo_3_6n, eo_3_6i, eo_3_6r, eo_53, eo_0_5, eo_0_6, g9_28_2, eo_23_5n, eo_23_5i, eo_23_5r, eo_0_2, eo_52, bk_64_3, eo_1_1, eo_0_4, v9_4, bk_64_4, bk_64_5, a33_176, e61, Int.add_zero, Int.add_sub_cancel, Int.reduceAdd, Int.reduceMul, Int.reduceSub, Int.reduceNeg, ev_wr_id]) | ((first | with_reducible refine br_40 ?_ ?_ | with_reducible refine br_41 ?_ ?_ | with_reducible refine br_42 ?_ ?_ | with_reducible refine br_43 ?_ ?_ | with_reducible refine br_44 ?_ ?_ | with_reducible refine br_45 ?_ ?_ | with_reducible refine br_46 ?_ ?_ | with_reducible refine br_47 ?_ ?_ | with_reducible refine br_48 ?_ ?_ | with_reducible refine br_49 ?_ ?_ | with_reducible refine br_50 ?_ ?_ | with_reducible refine br_51 ?_ ?_) <;> intro h <;> try simp (disch := first | assumption | exact Nat.le_of_ble_eq_true rfl | omega) only [ev_wr_id, not_true_eq_false, not_false_eq_true, Int.reduceEq, Int.reduceLT, Int.reduceLE, and_self, and_true, true_and, and_false, false_and, reduceIte] at h <;> try (exfalso; omega; done)))
theorem l_154a {σ : ev_M} {fr to w q : Int} {n : Nat} {x : Nat → Int} {p7 : Option ev_V} (hn : n ≤ 9) (hf : 0 ≤ fr ∧ fr < 10) (hx : ∀ i : Nat, i ≤ n → 0 ≤ x i ∧ x i < 10) (hxn : x n = fr) (hxi : ∀ i : Nat, i < n → x i ≠ fr) (ha : ∀ i : Nat, i < n → EM 153 [.inr (.inl 182), .inl (x i), .inl w] σ = some (some (.inl (x (i + 1))), σ)) : ∀ (k m : Nat) (mi t : Int), m + k = n → mi = m → t = x m → EB 154 6 [some (.inr (.inl 182)), some (.inl fr), some (.inl to), some (.inl w), some (.inl q), some (.inl mi), some (.inl t), p7] [] σ = EB 154 7 [some (.inr (.inl 182)), some (.inl fr), some (.inl to), some (.inl w), some (.inl q), some (.inl (n : Int)), some (.inl fr), p7] [] σ := by
  intro k
  induction k with
  | zero =>
    intro m mi t hm hmi ht
    obtain rfl : m = n := by omega
    have ht2 : t = fr := by omega
    rw [ht2, ← hmi]
    clear ha hxi hx hxn ht hmi hm ht2 hn
    rw [bk_154_6]
    repeat' (first | (simp (disch := first | assumption | exact Nat.le_of_ble_eq_true rfl | omega) only [bk_154_0, eo_1_0, eo_0_1, v11_2, ev_ki, ev_kv, eo_0_2, eo_53, bk_154_1, eo_6, eo_56i, bk_154_2, eo_0_3, eo_60_1, eo_0_4, bk_154_3, bk_154_4, v11_4, g11_28_4, bk_154_5, eo_3_5n, eo_3_5i, eo_3_5r, eo_3_6n, eo_3_6i, eo_3_6r, eo_0_6, v11_3, eo_23_5n, eo_23_5i, eo_23_5r, eo_52, eo_0_5, bk_154_8, eo_3_7n, eo_3_7i, eo_3_7r, eo_0_7, eo_23_7n, eo_23_7i, eo_23_7r, bk_154_10, a32_186, c_109, c_151, c_153, Int.add_zero, Int.add_sub_cancel, Int.reduceAdd, Int.reduceMul, Int.reduceSub, Int.reduceNeg, ev_wr_id]) | ((first | with_reducible refine br_40 ?_ ?_ | with_reducible refine br_41 ?_ ?_ | with_reducible refine br_42 ?_ ?_ | with_reducible refine br_43 ?_ ?_ | with_reducible refine br_44 ?_ ?_ | with_reducible refine br_45 ?_ ?_ | with_reducible refine br_46 ?_ ?_ | with_reducible refine br_47 ?_ ?_ | with_reducible refine br_48 ?_ ?_ | with_reducible refine br_49 ?_ ?_ | with_reducible refine br_50 ?_ ?_ | with_reducible refine br_51 ?_ ?_) <;> intro h <;> try simp (disch := first | assumption | exact Nat.le_of_ble_eq_true rfl | omega) only [ev_wr_id, not_true_eq_false, not_false_eq_true, Int.reduceEq, Int.reduceLT, Int.reduceLE, and_self, and_true, true_and, and_false, false_and, reduceIte] at h <;> try (exfalso; omega; done)))
  | succ k ih =>
    intro m mi t hm hmi ht
    have e := ih (m + 1) (mi + 1) (x (m + 1)) (by omega) (by omega) rfl
    have e153 := ha m (by omega)
    have hxm := hx m (by omega)
    have hne := hxi m (by omega)
    rw [← ht] at hxm hne e153
    obtain ⟨y, hy⟩ : ∃ y, y = x (m + 1) := ⟨_, rfl⟩
    rw [← hy] at e153 e
    rw [← e]
    clear e ha hxi hx hxn ht hmi hm hn ih hy
    rw [bk_154_6]
    repeat' (first | (simp (disch := first | assumption | exact Nat.le_of_ble_eq_true rfl | omega) only [bk_154_0, eo_1_0, eo_0_1, v11_2, ev_ki, ev_kv, eo_0_2, eo_53, bk_154_1, eo_6, eo_56i, bk_154_2, eo_0_3, eo_60_1, eo_0_4, bk_154_3, bk_154_4, v11_4, g11_28_4, bk_154_5, eo_3_5n, eo_3_5i, eo_3_5r, eo_3_6n, eo_3_6i, eo_3_6r, eo_0_6, v11_3, eo_23_5n, eo_23_5i, eo_23_5r, eo_52, eo_0_5, bk_154_8, eo_3_7n, eo_3_7i, eo_3_7r, eo_0_7, eo_23_7n, eo_23_7i, eo_23_7r, bk_154_10, a32_186, c_109, c_151, e153, Int.add_zero, Int.add_sub_cancel, Int.reduceAdd, Int.reduceMul, Int.reduceSub, Int.reduceNeg, ev_wr_id]) | ((first | with_reducible refine br_40 ?_ ?_ | with_reducible refine br_41 ?_ ?_ | with_reducible refine br_42 ?_ ?_ | with_reducible refine br_43 ?_ ?_ | with_reducible refine br_44 ?_ ?_ | with_reducible refine br_45 ?_ ?_ | with_reducible refine br_46 ?_ ?_ | with_reducible refine br_47 ?_ ?_ | with_reducible refine br_48 ?_ ?_ | with_reducible refine br_49 ?_ ?_ | with_reducible refine br_50 ?_ ?_ | with_reducible refine br_51 ?_ ?_) <;> intro h <;> try simp (disch := first | assumption | exact Nat.le_of_ble_eq_true rfl | omega) only [ev_wr_id, not_true_eq_false, not_false_eq_true, Int.reduceEq, Int.reduceLT, Int.reduceLE, and_self, and_true, true_and, and_false, false_and, reduceIte] at h <;> try (exfalso; omega; done)))
theorem l_154b {σ : ev_M} {fr to w q z : Int} {n : Nat} {x : Nat → Int} (hn : n ≤ 9) (hq : 0 ≤ q) (ha : ∀ i : Nat, i < n → EM 153 [.inr (.inl 182), .inl (x i), .inl w] σ = some (some (.inl (x (i + 1))), σ)) (hqn : q ≤ n) : ∀ (k m : Nat) (mi t : Int), q + k = mi → mi + m = n → t = x m → z = x (n - q.toNat) → ∀ p5 : Int, EB 154 9 [some (.inr (.inl 182)), some (.inl fr), some (.inl to), some (.inl w), some (.inl q), some (.inl p5), some (.inl t), some (.inl mi)] [] σ = some (some (.inl z), σ) := by
  intro k
  induction k with
  | zero =>
    intro m mi t hk hm ht hz p5
    have hmm : m = n - q.toNat := by omega
    have htz : t = z := by rw [hz, ht, hmm]
    have hmi2 : mi = q ∧ q ≤ 9 := by omega
    rw [htz]
    clear ha hm ht hz hmm htz hn hk hqn
    rw [bk_154_9]
    repeat' (first | (simp (disch := first | assumption | exact Nat.le_of_ble_eq_true rfl | omega) only [bk_154_0, eo_1_0, eo_0_1, v11_2, ev_ki, ev_kv, eo_0_2, eo_53, bk_154_1, eo_6, eo_56i, bk_154_2, eo_0_3, eo_60_1, eo_0_4, bk_154_3, bk_154_4, v11_4, g11_28_4, bk_154_5, eo_3_5n, eo_3_5i, eo_3_5r, eo_3_6n, eo_3_6i, eo_3_6r, eo_0_6, v11_3, eo_23_5n, eo_23_5i, eo_23_5r, eo_52, bk_154_7, eo_0_5, bk_154_8, eo_3_7n, eo_3_7i, eo_3_7r, eo_0_7, eo_23_7n, eo_23_7i, eo_23_7r, bk_154_10, a32_186, c_109, c_151, Int.add_zero, Int.add_sub_cancel, Int.reduceAdd, Int.reduceMul, Int.reduceSub, Int.reduceNeg, ev_wr_id]) | ((first | with_reducible refine br_40 ?_ ?_ | with_reducible refine br_41 ?_ ?_ | with_reducible refine br_42 ?_ ?_ | with_reducible refine br_43 ?_ ?_ | with_reducible refine br_44 ?_ ?_ | with_reducible refine br_45 ?_ ?_ | with_reducible refine br_46 ?_ ?_ | with_reducible refine br_47 ?_ ?_ | with_reducible refine br_48 ?_ ?_ | with_reducible refine br_49 ?_ ?_ | with_reducible refine br_50 ?_ ?_ | with_reducible refine br_51 ?_ ?_) <;> intro h <;> try simp (disch := first | assumption | exact Nat.le_of_ble_eq_true rfl | omega) only [ev_wr_id, not_true_eq_false, not_false_eq_true, Int.reduceEq, Int.reduceLT, Int.reduceLE, and_self, and_true, true_and, and_false, false_and, reduceIte] at h <;> try (exfalso; omega; done)))
  | succ k ih =>
    intro m mi t hk hm ht hz p5
    have e := ih (m + 1) (mi + -1) (x (m + 1)) (by omega) (by omega) rfl hz p5
    have e153 := ha m (by omega)
    rw [← ht] at e153
    obtain ⟨y, hy⟩ : ∃ y, y = x (m + 1) := ⟨_, rfl⟩
    rw [← hy] at e153 e
    have hmi2 : q < mi ∧ mi ≤ 9 := by omega
    rw [← e]
    clear e ha ht hk hm hn hz ih hy hqn
    rw [bk_154_9]
    repeat' (first | (simp (disch := first | assumption | exact Nat.le_of_ble_eq_true rfl | omega) only [bk_154_0, eo_1_0, eo_0_1, v11_2, ev_ki, ev_kv, eo_0_2, eo_53, bk_154_1, eo_6, eo_56i, bk_154_2, eo_0_3, eo_60_1, eo_0_4, bk_154_3, bk_154_4, v11_4, g11_28_4, bk_154_5, eo_3_5n, eo_3_5i, eo_3_5r, eo_3_6n, eo_3_6i, eo_3_6r, eo_0_6, v11_3, eo_23_5n, eo_23_5i, eo_23_5r, eo_52, bk_154_7, eo_0_5, bk_154_8, eo_3_7n, eo_3_7i, eo_3_7r, eo_0_7, eo_23_7n, eo_23_7i, eo_23_7r, bk_154_10, a32_186, c_109, c_151, e153, Int.add_zero, Int.add_sub_cancel, Int.reduceAdd, Int.reduceMul, Int.reduceSub, Int.reduceNeg, ev_wr_id]) | ((first | with_reducible refine br_40 ?_ ?_ | with_reducible refine br_41 ?_ ?_ | with_reducible refine br_42 ?_ ?_ | with_reducible refine br_43 ?_ ?_ | with_reducible refine br_44 ?_ ?_ | with_reducible refine br_45 ?_ ?_ | with_reducible refine br_46 ?_ ?_ | with_reducible refine br_47 ?_ ?_ | with_reducible refine br_48 ?_ ?_ | with_reducible refine br_49 ?_ ?_ | with_reducible refine br_50 ?_ ?_ | with_reducible refine br_51 ?_ ?_) <;> intro h <;> try simp (disch := first | assumption | exact Nat.le_of_ble_eq_true rfl | omega) only [ev_wr_id, not_true_eq_false, not_false_eq_true, Int.reduceEq, Int.reduceLT, Int.reduceLE, and_self, and_true, true_and, and_false, false_and, reduceIte] at h <;> try (exfalso; omega; done)))
theorem pr_86 {σ : ev_M} {a b w q : Int} (hJ : st_J σ) (ha9 : -2147483648 ≤ a ∧ a ≤ 2147483647) (hb9 : -2147483648 ≤ b ∧ b ≤ 2147483647) (hw9 : -2147483648 ≤ w ∧ w ≤ 2147483647) (hq9 : -2147483648 ≤ q ∧ q ≤ 2147483647) : st_P 86 154 [.inl a, .inl b, .inl w, .inl q] σ := by
  obtain ⟨a1, a2, a3, a4, a5, a6, a7, a8⟩ := id hJ
  obtain ⟨t0, t1, t2, t3, t4, t5, t6, t7, t8, r2, r3, r4, r5, r7, r11, r8, r9, r10, r12, r13, r14, r15, r16, r18, r19, r20, r21, r22⟩ := st_rd a1; obtain ⟨⟨i0, i1, i2, i3, i4, i5⟩, hr, hb, hc, hp, hl, hq⟩ := id a2; have hSn := ev_S_n; have hn0 : ev_n = 0 := rfl
  by_cases c1 : (0 ≤ a ∧ a < σ 183 0) ∧ 0 ≤ b ∧ b < σ 183 0
  · by_cases c2 : (1 ≤ w ∧ w ≤ 60) ∧ 0 ≤ q
    · obtain ⟨F, f, e62, hF, hsp, hm⟩ := st_both (w := w) (o := -1) a1 a2 a8 c1.1 (by omega) (by omega)
      have hFb := hF b c1.2.1 (by omega)
      have hb10 : 0 ≤ b ∧ b < 10 := by omega
      have hFG : ∀ y, 0 ≤ y → y < 10 → F y = st_F f y ∧ 0 ≤ st_F f y ∧ st_F f y ≤ 1000000 := fun y y0 y1 => by
        have := hF y y0 y1
        unfold st_F
        split <;> omega
      by_cases c3 : f b = -1
      · obtain ⟨f1, d, e144, hf1⟩ := hm (ev_ua σ 174 F) (ev_ua_row (by omega)) (ev_ua_row (by omega))
        have hfb := hf1 b c1.2.1 (by omega)
        rw [c3] at hfb
        have m183 : ev_ua σ 174 F 183 = σ 183 := ev_ua_row (by omega)
        have s0 := congrFun m183 0
        have e61 := c_61 (σ := ev_ua σ 174 F) (t := b) hb10 (by rw [ev_ua_eq]; omega)
        rw [ev_ua_eq, if_neg (by omega)] at e61
        have e64 : EM 64 [.inr (.inl 173), .inr (.inl ev_n), .inl a, .inl b, .inl w] (ev_ua σ 174 F) = some (some (.inl 0), ev_ua σ 174 F) := by
          rw [mm_64]
          repeat' (first | (simp (disch := first | assumption | exact Nat.le_of_ble_eq_true rfl | omega) only [bk_64_0, eo_1_0, eo_0_3, v9_2, ev_ki, ev_kv, eo_6, eo_56i, bk_64_1, eo_3_5n, eo_3_5i, eo_3_5r, eo_3_6n, eo_3_6i, eo_3_6r, eo_53, eo_0_5, eo_0_6, g9_28_2, eo_23_5n, eo_23_5i, eo_23_5r, eo_0_2, eo_52, bk_64_3, eo_1_1, eo_0_4, v9_4, bk_64_4, bk_64_5, a33_176, e61, Int.add_zero, Int.add_sub_cancel, Int.reduceAdd, Int.reduceMul, Int.reduceSub, Int.reduceNeg, ev_wr_id]) | ((first | with_reducible refine br_40 ?_ ?_ | with_reducible refine br_41 ?_ ?_ | with_reducible refine br_42 ?_ ?_ | with_reducible refine br_43 ?_ ?_ | with_reducible refine br_44 ?_ ?_ | with_reducible refine br_45 ?_ ?_ | with_reducible refine br_46 ?_ ?_ | with_reducible refine br_47 ?_ ?_ | with_reducible refine br_48 ?_ ?_ | with_reducible refine br_49 ?_ ?_ | with_reducible refine br_50 ?_ ?_ | with_reducible refine br_51 ?_ ?_) <;> intro h <;> try simp (disch := first | assumption | exact Nat.le_of_ble_eq_true rfl | omega) only [ev_wr_id, not_true_eq_false, not_false_eq_true, Int.reduceEq, Int.reduceLT, Int.reduceLE, and_self, and_true, true_and, and_false, false_and, reduceIte] at h <;> try (exfalso; omega; done)))
        refine st_P_N hJ (σ1 := ev_ua σ 174 F) (σ2 := st_dd (ev_ua σ 174 F) f1 d) (v := .inl (-1)) ?_ ?_ (st_N_t st_N_174 st_dd_N)
        · rw [mm_86]
          repeat' (first | (simp (disch := first | assumption | exact Nat.le_of_ble_eq_true rfl | omega) only [bk_86_0, eo_1_0, g10_28_0, g7_28_0, eo_0_1, v6_2, ev_ki, ev_kv, eo_0_2, eo_53, bk_86_1, eo_6, eo_56i, bk_86_2, eo_0_3, eo_60_3, eo_0_4, bk_86_3, bk_86_4, g10_28_5, v9_5, eo_3_5n, eo_3_5i, eo_3_5r, eo_0_5, g9_28_2, eo_11, eo_52, bk_86_5, bk_86_6, a32_176, c_44, c_104, t0, e62, e64, Int.add_zero, Int.add_sub_cancel, Int.reduceAdd, Int.reduceMul, Int.reduceSub, Int.reduceNeg, ev_wr_id]) | ((first | with_reducible refine br_40 ?_ ?_ | with_reducible refine br_41 ?_ ?_ | with_reducible refine br_42 ?_ ?_ | with_reducible refine br_43 ?_ ?_ | with_reducible refine br_44 ?_ ?_ | with_reducible refine br_45 ?_ ?_ | with_reducible refine br_46 ?_ ?_ | with_reducible refine br_47 ?_ ?_ | with_reducible refine br_48 ?_ ?_ | with_reducible refine br_49 ?_ ?_ | with_reducible refine br_50 ?_ ?_ | with_reducible refine br_51 ?_ ?_) <;> intro h <;> try simp (disch := first | assumption | exact Nat.le_of_ble_eq_true rfl | omega) only [ev_wr_id, not_true_eq_false, not_false_eq_true, Int.reduceEq, Int.reduceLT, Int.reduceLE, and_self, and_true, true_and, and_false, false_and, reduceIte] at h <;> try (exfalso; omega; done)))
        · rw [mm_154]
          repeat' (first | (simp (disch := first | assumption | exact Nat.le_of_ble_eq_true rfl | omega) only [bk_154_0, eo_1_0, eo_0_1, v11_2, ev_ki, ev_kv, eo_0_2, eo_53, bk_154_1, eo_6, eo_56i, bk_154_2, eo_0_3, eo_60_1, eo_0_4, bk_154_3, bk_154_4, v11_4, g11_28_4, bk_154_5, eo_3_5n, eo_3_5i, eo_3_5r, eo_3_6n, eo_3_6i, eo_3_6r, eo_0_6, v11_3, eo_23_5n, eo_23_5i, eo_23_5r, eo_52, bk_154_7, eo_0_5, bk_154_8, eo_3_7n, eo_3_7i, eo_3_7r, eo_0_7, eo_23_7n, eo_23_7i, eo_23_7r, bk_154_10, a32_186, c_109, c_151, s0, e144, st_dd_1, hfb, Int.add_zero, Int.add_sub_cancel, Int.reduceAdd, Int.reduceMul, Int.reduceSub, Int.reduceNeg, ev_wr_id]) | ((first | with_reducible refine br_40 ?_ ?_ | with_reducible refine br_41 ?_ ?_ | with_reducible refine br_42 ?_ ?_ | with_reducible refine br_43 ?_ ?_ | with_reducible refine br_44 ?_ ?_ | with_reducible refine br_45 ?_ ?_ | with_reducible refine br_46 ?_ ?_ | with_reducible refine br_47 ?_ ?_ | with_reducible refine br_48 ?_ ?_ | with_reducible refine br_49 ?_ ?_ | with_reducible refine br_50 ?_ ?_ | with_reducible refine br_51 ?_ ?_) <;> intro h <;> try simp (disch := first | assumption | exact Nat.le_of_ble_eq_true rfl | omega) only [ev_wr_id, not_true_eq_false, not_false_eq_true, Int.reduceEq, Int.reduceLT, Int.reduceLE, and_self, and_true, true_and, and_false, false_and, reduceIte] at h <;> try (exfalso; omega; done)))
      · have hGb : st_F f b ≤ 990 := by
          unfold st_F
          rw [if_neg c3]
          omega
        obtain ⟨n, hn, hxn, hxi⟩ := st_ch a2 hsp 9 b hb10 hGb (st_ni_9 hb10)
        obtain ⟨x, hx⟩ : ∃ x, x = st_it (σ 183) w (st_F f) b := ⟨_, rfl⟩
        rw [← hx] at hxn hxi
        have hx1 : ∀ i : Nat, x (i + 1) = st_nx (σ 183) w (st_F f) (x i) := fun i => by rw [hx]; rfl
        have hx0 : x 0 = b := by rw [hx]; rfl
        have ra : 0 ≤ a ∧ a < 10 := by omega
        obtain ⟨B, e64, hB⟩ := c_64 (σ := ev_ua σ 174 F) (s := ev_n) (fr := a) (to := b) (w := w) (n := n) (x := x) hSn hn ra (fun i hi => (hxi i hi).1) hx0 hxn (fun i hi => (hxi i (by omega)).2.2 hi) (by rw [ev_ua_eq]; omega) (fun i B hi => by
          rw [hx1 i]
          refine c_65 hSn (st_E_t (st_T_congr (fun o q0 q1 => by rw [ev_ua_row (by omega), ev_ua_row (by omega)])) a1) a2 (hxi i (by omega)).1 c2.1 (fun y y0 y1 => ?_)
          rw [ev_ua_ne (by omega), ev_ua_eq]
          exact hFG y y0 y1)
        obtain ⟨σ1, d1⟩ : ∃ z, z = ev_ua (ev_ua σ 174 F) 176 B := ⟨_, rfl⟩
        rw [← d1] at e64
        have m183 : σ1 183 = σ 183 := by rw [d1, ev_ua_row (by omega), ev_ua_row (by omega)]
        have m184 : σ1 184 = σ 184 := by rw [d1, ev_ua_row (by omega), ev_ua_row (by omega)]
        have s0 := congrFun m183 0
        obtain ⟨f1, d, e144, hf1⟩ := hm σ1 m183 m184
        have hfb := hf1 b c1.2.1 (by omega)
        have hfbr : 0 ≤ f1 b ∧ f1 b ≤ 990 := by omega
        obtain ⟨σ2, d2⟩ : ∃ z, z = st_dd σ1 f1 d := ⟨_, rfl⟩
        rw [← d2] at e144
        have n183 : σ2 183 = σ 183 := by rw [d2, st_dd_o (by omega), m183]
        have n184 : σ2 184 = σ 184 := by rw [d2, st_dd_o (by omega), m184]
        have n186 : σ2 186 = f1 := by rw [d2]; exact st_dd_1
        have ha153 : ∀ i : Nat, i < n → EM 153 [.inr (.inl 182), .inl (x i), .inl w] σ2 = some (some (.inl (x (i + 1))), σ2) := fun i hi => by
          have hxx := hxi i (by omega)
          have e := c_153 (σ := σ2) (x := x i) (w := w) (G := st_F f) (by rw [n183]; exact a2) (by rw [n184]; exact a8) hxx.1 c2.1 (fun y y0 y1 => by
            have p1 := hF y y0 y1
            have p2 := hf1 y y0 y1
            rw [n186, p2]
            unfold st_F
            rcases p1 with p | p
            · exact Or.inl ⟨p.1, if_pos p.1⟩
            · exact Or.inr ⟨p.1, p.2.1, if_neg (by omega)⟩) (by
            rw [n186, hf1 _ hxx.1.1 hxx.1.2]
            intro p
            have p3 := hxx.2.1
            unfold st_F at p3
            rw [if_pos p] at p3
            omega)
          rw [n183] at e
          rw [hx1 i]
          exact e
        have eA := l_154a (σ := σ2) (fr := a) (to := b) (w := w) (q := q) (n := n) (x := x) (p7 := none) hn ra (fun i hi => (hxi i hi).1) hxn (fun i hi => (hxi i (by omega)).2.2 hi) ha153 n 0 0 b (by omega) rfl hx0.symm
        obtain ⟨v, hv⟩ : ∃ v : Int, v = if q ≤ n then x (n - q.toNat) else -1 := ⟨_, rfl⟩
        refine st_P_N hJ (σ1 := σ1) (σ2 := σ2) (v := .inl v) ?_ ?_ (st_N_t (σ1 := σ1) (by rw [d1]; exact st_N_t st_N_174 (st_N_ua (by omega))) (by rw [d2]; exact st_dd_N))
        · obtain ⟨ni, hni⟩ : ∃ ni : Int, ni = n := ⟨_, rfl⟩
          have hni9 : 0 ≤ ni ∧ ni ≤ 9 := by omega
          rw [← hni] at e64
          by_cases c4 : q ≤ ni
          · have hBv : σ1 176 (ni - q) = v := by
              rw [d1, ev_ua_eq, hv, if_pos (by omega), ← hB (n - q.toNat) (by omega)]
              congr 1
              omega
            have hBw : σ1 176 (ni + 1 - 1 - q) = v := by rw [← hBv]; congr 1; omega
            clear hB eA ha153 hxi hx1 hx0 hxn hx hn hm hF hFG e144 hni hv
            rw [mm_86]
            repeat' (first | (simp (disch := first | assumption | exact Nat.le_of_ble_eq_true rfl | omega) only [bk_86_0, eo_1_0, g10_28_0, g7_28_0, eo_0_1, v6_2, ev_ki, ev_kv, eo_0_2, eo_53, bk_86_1, eo_6, eo_56i, bk_86_2, eo_0_3, eo_60_3, eo_0_4, bk_86_3, bk_86_4, g10_28_5, v9_5, eo_3_5n, eo_3_5i, eo_3_5r, eo_0_5, g9_28_2, eo_11, eo_52, bk_86_5, bk_86_6, a32_176, c_44, c_104, t0, e62, e64, hBv, hBw, Int.add_zero, Int.add_sub_cancel, Int.reduceAdd, Int.reduceMul, Int.reduceSub, Int.reduceNeg, ev_wr_id]) | ((first | with_reducible refine br_40 ?_ ?_ | with_reducible refine br_41 ?_ ?_ | with_reducible refine br_42 ?_ ?_ | with_reducible refine br_43 ?_ ?_ | with_reducible refine br_44 ?_ ?_ | with_reducible refine br_45 ?_ ?_ | with_reducible refine br_46 ?_ ?_ | with_reducible refine br_47 ?_ ?_ | with_reducible refine br_48 ?_ ?_ | with_reducible refine br_49 ?_ ?_ | with_reducible refine br_50 ?_ ?_ | with_reducible refine br_51 ?_ ?_) <;> intro h <;> try simp (disch := first | assumption | exact Nat.le_of_ble_eq_true rfl | omega) only [ev_wr_id, not_true_eq_false, not_false_eq_true, Int.reduceEq, Int.reduceLT, Int.reduceLE, and_self, and_true, true_and, and_false, false_and, reduceIte] at h <;> try (exfalso; omega; done)))
          · rw [if_neg (by omega)] at hv
            rw [hv]
            clear hB eA ha153 hxi hx1 hx0 hxn hx hn hm hF hFG e144 hni hv
            rw [mm_86]
            repeat' (first | (simp (disch := first | assumption | exact Nat.le_of_ble_eq_true rfl | omega) only [bk_86_0, eo_1_0, g10_28_0, g7_28_0, eo_0_1, v6_2, ev_ki, ev_kv, eo_0_2, eo_53, bk_86_1, eo_6, eo_56i, bk_86_2, eo_0_3, eo_60_3, eo_0_4, bk_86_3, bk_86_4, g10_28_5, v9_5, eo_3_5n, eo_3_5i, eo_3_5r, eo_0_5, g9_28_2, eo_11, eo_52, bk_86_5, bk_86_6, a32_176, c_44, c_104, t0, e62, e64, Int.add_zero, Int.add_sub_cancel, Int.reduceAdd, Int.reduceMul, Int.reduceSub, Int.reduceNeg, ev_wr_id]) | ((first | with_reducible refine br_40 ?_ ?_ | with_reducible refine br_41 ?_ ?_ | with_reducible refine br_42 ?_ ?_ | with_reducible refine br_43 ?_ ?_ | with_reducible refine br_44 ?_ ?_ | with_reducible refine br_45 ?_ ?_ | with_reducible refine br_46 ?_ ?_ | with_reducible refine br_47 ?_ ?_ | with_reducible refine br_48 ?_ ?_ | with_reducible refine br_49 ?_ ?_ | with_reducible refine br_50 ?_ ?_ | with_reducible refine br_51 ?_ ?_) <;> intro h <;> try simp (disch := first | assumption | exact Nat.le_of_ble_eq_true rfl | omega) only [ev_wr_id, not_true_eq_false, not_false_eq_true, Int.reduceEq, Int.reduceLT, Int.reduceLE, and_self, and_true, true_and, and_false, false_and, reduceIte] at h <;> try (exfalso; omega; done)))
        · have n0 := congrFun n186 b
          by_cases c4 : q ≤ n
          · have eB := l_154b (σ := σ2) (fr := a) (to := b) (w := w) (q := q) (z := v) (n := n) (x := x) hn c2.2 ha153 c4 (n - q.toNat) 0 n b (by omega) (by omega) hx0.symm (by rw [hv, if_pos c4]) (n : Int)
            obtain ⟨ni, hni⟩ : ∃ ni : Int, ni = n := ⟨_, rfl⟩
            have hni9 : 0 ≤ ni ∧ ni ≤ 9 ∧ q ≤ ni := by omega
            rw [← hni] at eA eB
            rw [mm_154]
            clear hB ha153 hxi hx1 hx0 hxn hx hn hm hF hFG hni hv e62 e64 c4
            repeat' (first | (simp (disch := first | assumption | exact Nat.le_of_ble_eq_true rfl | omega) only [bk_154_0, eo_1_0, eo_0_1, v11_2, ev_ki, ev_kv, eo_0_2, eo_53, bk_154_1, eo_6, eo_56i, bk_154_2, eo_0_3, eo_60_1, eo_0_4, bk_154_3, bk_154_4, v11_4, g11_28_4, bk_154_5, eo_3_5n, eo_3_5i, eo_3_5r, eo_3_6n, eo_3_6i, eo_3_6r, eo_0_6, v11_3, eo_23_5n, eo_23_5i, eo_23_5r, eo_52, bk_154_7, eo_0_5, bk_154_8, eo_3_7n, eo_3_7i, eo_3_7r, eo_0_7, eo_23_7n, eo_23_7i, eo_23_7r, bk_154_10, a32_186, c_109, c_151, s0, e144, n0, Int.add_zero, Int.add_sub_cancel, Int.reduceAdd, Int.reduceMul, Int.reduceSub, Int.reduceNeg, ev_wr_id]) | ((first | with_reducible refine br_40 ?_ ?_ | with_reducible refine br_41 ?_ ?_ | with_reducible refine br_42 ?_ ?_ | with_reducible refine br_43 ?_ ?_ | with_reducible refine br_44 ?_ ?_ | with_reducible refine br_45 ?_ ?_ | with_reducible refine br_46 ?_ ?_ | with_reducible refine br_47 ?_ ?_ | with_reducible refine br_48 ?_ ?_ | with_reducible refine br_49 ?_ ?_ | with_reducible refine br_50 ?_ ?_ | with_reducible refine br_51 ?_ ?_) <;> intro h <;> try simp (disch := first | assumption | exact Nat.le_of_ble_eq_true rfl | omega) only [ev_wr_id, not_true_eq_false, not_false_eq_true, Int.reduceEq, Int.reduceLT, Int.reduceLE, and_self, and_true, true_and, and_false, false_and, reduceIte] at h <;> try (exfalso; omega; done)))
            rw [eA, bk_154_7]
            repeat' (first | (simp (disch := first | assumption | exact Nat.le_of_ble_eq_true rfl | omega) only [bk_154_0, eo_1_0, eo_0_1, v11_2, ev_ki, ev_kv, eo_0_2, eo_53, bk_154_1, eo_6, eo_56i, bk_154_2, eo_0_3, eo_60_1, eo_0_4, bk_154_3, bk_154_4, v11_4, g11_28_4, bk_154_5, eo_3_5n, eo_3_5i, eo_3_5r, eo_3_6n, eo_3_6i, eo_3_6r, eo_0_6, v11_3, eo_23_5n, eo_23_5i, eo_23_5r, eo_52, bk_154_7, eo_0_5, bk_154_8, eo_3_7n, eo_3_7i, eo_3_7r, eo_0_7, eo_23_7n, eo_23_7i, eo_23_7r, bk_154_10, a32_186, c_109, c_151, Int.add_zero, Int.add_sub_cancel, Int.reduceAdd, Int.reduceMul, Int.reduceSub, Int.reduceNeg, ev_wr_id]) | ((first | with_reducible refine br_40 ?_ ?_ | with_reducible refine br_41 ?_ ?_ | with_reducible refine br_42 ?_ ?_ | with_reducible refine br_43 ?_ ?_ | with_reducible refine br_44 ?_ ?_ | with_reducible refine br_45 ?_ ?_ | with_reducible refine br_46 ?_ ?_ | with_reducible refine br_47 ?_ ?_ | with_reducible refine br_48 ?_ ?_ | with_reducible refine br_49 ?_ ?_ | with_reducible refine br_50 ?_ ?_ | with_reducible refine br_51 ?_ ?_) <;> intro h <;> try simp (disch := first | assumption | exact Nat.le_of_ble_eq_true rfl | omega) only [ev_wr_id, not_true_eq_false, not_false_eq_true, Int.reduceEq, Int.reduceLT, Int.reduceLE, and_self, and_true, true_and, and_false, false_and, reduceIte] at h <;> try (exfalso; omega; done)))
            exact eB
          · rw [if_neg c4] at hv
            rw [hv]
            obtain ⟨ni, hni⟩ : ∃ ni : Int, ni = n := ⟨_, rfl⟩
            have hni9 : 0 ≤ ni ∧ ni ≤ 9 ∧ ¬ q ≤ ni := by omega
            rw [← hni] at eA
            rw [mm_154]
            clear hB ha153 hxi hx1 hx0 hxn hx hn hm hF hFG hni hv e62 e64 c4
            repeat' (first | (simp (disch := first | assumption | exact Nat.le_of_ble_eq_true rfl | omega) only [bk_154_0, eo_1_0, eo_0_1, v11_2, ev_ki, ev_kv, eo_0_2, eo_53, bk_154_1, eo_6, eo_56i, bk_154_2, eo_0_3, eo_60_1, eo_0_4, bk_154_3, bk_154_4, v11_4, g11_28_4, bk_154_5, eo_3_5n, eo_3_5i, eo_3_5r, eo_3_6n, eo_3_6i, eo_3_6r, eo_0_6, v11_3, eo_23_5n, eo_23_5i, eo_23_5r, eo_52, bk_154_7, eo_0_5, bk_154_8, eo_3_7n, eo_3_7i, eo_3_7r, eo_0_7, eo_23_7n, eo_23_7i, eo_23_7r, bk_154_10, a32_186, c_109, c_151, s0, e144, n0, Int.add_zero, Int.add_sub_cancel, Int.reduceAdd, Int.reduceMul, Int.reduceSub, Int.reduceNeg, ev_wr_id]) | ((first | with_reducible refine br_40 ?_ ?_ | with_reducible refine br_41 ?_ ?_ | with_reducible refine br_42 ?_ ?_ | with_reducible refine br_43 ?_ ?_ | with_reducible refine br_44 ?_ ?_ | with_reducible refine br_45 ?_ ?_ | with_reducible refine br_46 ?_ ?_ | with_reducible refine br_47 ?_ ?_ | with_reducible refine br_48 ?_ ?_ | with_reducible refine br_49 ?_ ?_ | with_reducible refine br_50 ?_ ?_ | with_reducible refine br_51 ?_ ?_) <;> intro h <;> try simp (disch := first | assumption | exact Nat.le_of_ble_eq_true rfl | omega) only [ev_wr_id, not_true_eq_false, not_false_eq_true, Int.reduceEq, Int.reduceLT, Int.reduceLE, and_self, and_true, true_and, and_false, false_and, reduceIte] at h <;> try (exfalso; omega; done)))
            rw [eA, bk_154_7]
            repeat' (first | (simp (disch := first | assumption | exact Nat.le_of_ble_eq_true rfl | omega) only [bk_154_0, eo_1_0, eo_0_1, v11_2, ev_ki, ev_kv, eo_0_2, eo_53, bk_154_1, eo_6, eo_56i, bk_154_2, eo_0_3, eo_60_1, eo_0_4, bk_154_3, bk_154_4, v11_4, g11_28_4, bk_154_5, eo_3_5n, eo_3_5i, eo_3_5r, eo_3_6n, eo_3_6i, eo_3_6r, eo_0_6, v11_3, eo_23_5n, eo_23_5i, eo_23_5r, eo_52, bk_154_7, eo_0_5, bk_154_8, eo_3_7n, eo_3_7i, eo_3_7r, eo_0_7, eo_23_7n, eo_23_7i, eo_23_7r, bk_154_10, a32_186, c_109, c_151, Int.add_zero, Int.add_sub_cancel, Int.reduceAdd, Int.reduceMul, Int.reduceSub, Int.reduceNeg, ev_wr_id]) | ((first | with_reducible refine br_40 ?_ ?_ | with_reducible refine br_41 ?_ ?_ | with_reducible refine br_42 ?_ ?_ | with_reducible refine br_43 ?_ ?_ | with_reducible refine br_44 ?_ ?_ | with_reducible refine br_45 ?_ ?_ | with_reducible refine br_46 ?_ ?_ | with_reducible refine br_47 ?_ ?_ | with_reducible refine br_48 ?_ ?_ | with_reducible refine br_49 ?_ ?_ | with_reducible refine br_50 ?_ ?_ | with_reducible refine br_51 ?_ ?_) <;> intro h <;> try simp (disch := first | assumption | exact Nat.le_of_ble_eq_true rfl | omega) only [ev_wr_id, not_true_eq_false, not_false_eq_true, Int.reduceEq, Int.reduceLT, Int.reduceLE, and_self, and_true, true_and, and_false, false_and, reduceIte] at h <;> try (exfalso; omega; done)))
    · refine st_P_N hJ (σ1 := σ) (σ2 := σ) (v := .inl (-3)) ?_ ?_ st_N_r
      · rw [mm_86]
        repeat' (first | (simp (disch := first | assumption | exact Nat.le_of_ble_eq_true rfl | omega) only [bk_86_0, eo_1_0, g10_28_0, g7_28_0, eo_0_1, v6_2, ev_ki, ev_kv, eo_0_2, eo_53, bk_86_1, eo_6, eo_56i, bk_86_2, eo_0_3, eo_60_3, eo_0_4, bk_86_3, bk_86_4, g10_28_5, v9_5, eo_3_5n, eo_3_5i, eo_3_5r, eo_0_5, g9_28_2, eo_11, eo_52, bk_86_5, bk_86_6, a32_176, c_44, c_104, t0, Int.add_zero, Int.add_sub_cancel, Int.reduceAdd, Int.reduceMul, Int.reduceSub, Int.reduceNeg, ev_wr_id]) | ((first | with_reducible refine br_40 ?_ ?_ | with_reducible refine br_41 ?_ ?_ | with_reducible refine br_42 ?_ ?_ | with_reducible refine br_43 ?_ ?_ | with_reducible refine br_44 ?_ ?_ | with_reducible refine br_45 ?_ ?_ | with_reducible refine br_46 ?_ ?_ | with_reducible refine br_47 ?_ ?_ | with_reducible refine br_48 ?_ ?_ | with_reducible refine br_49 ?_ ?_ | with_reducible refine br_50 ?_ ?_ | with_reducible refine br_51 ?_ ?_) <;> intro h <;> try simp (disch := first | assumption | exact Nat.le_of_ble_eq_true rfl | omega) only [ev_wr_id, not_true_eq_false, not_false_eq_true, Int.reduceEq, Int.reduceLT, Int.reduceLE, and_self, and_true, true_and, and_false, false_and, reduceIte] at h <;> try (exfalso; omega; done)))
      · rw [mm_154]
        repeat' (first | (simp (disch := first | assumption | exact Nat.le_of_ble_eq_true rfl | omega) only [bk_154_0, eo_1_0, eo_0_1, v11_2, ev_ki, ev_kv, eo_0_2, eo_53, bk_154_1, eo_6, eo_56i, bk_154_2, eo_0_3, eo_60_1, eo_0_4, bk_154_3, bk_154_4, v11_4, g11_28_4, bk_154_5, eo_3_5n, eo_3_5i, eo_3_5r, eo_3_6n, eo_3_6i, eo_3_6r, eo_0_6, v11_3, eo_23_5n, eo_23_5i, eo_23_5r, eo_52, bk_154_7, eo_0_5, bk_154_8, eo_3_7n, eo_3_7i, eo_3_7r, eo_0_7, eo_23_7n, eo_23_7i, eo_23_7r, bk_154_10, a32_186, c_109, c_151, Int.add_zero, Int.add_sub_cancel, Int.reduceAdd, Int.reduceMul, Int.reduceSub, Int.reduceNeg, ev_wr_id]) | ((first | with_reducible refine br_40 ?_ ?_ | with_reducible refine br_41 ?_ ?_ | with_reducible refine br_42 ?_ ?_ | with_reducible refine br_43 ?_ ?_ | with_reducible refine br_44 ?_ ?_ | with_reducible refine br_45 ?_ ?_ | with_reducible refine br_46 ?_ ?_ | with_reducible refine br_47 ?_ ?_ | with_reducible refine br_48 ?_ ?_ | with_reducible refine br_49 ?_ ?_ | with_reducible refine br_50 ?_ ?_ | with_reducible refine br_51 ?_ ?_) <;> intro h <;> try simp (disch := first | assumption | exact Nat.le_of_ble_eq_true rfl | omega) only [ev_wr_id, not_true_eq_false, not_false_eq_true, Int.reduceEq, Int.reduceLT, Int.reduceLE, and_self, and_true, true_and, and_false, false_and, reduceIte] at h <;> try (exfalso; omega; done)))
  · refine st_P_N hJ (σ1 := σ) (σ2 := σ) (v := .inl (-2)) ?_ ?_ st_N_r
    · rw [mm_86]
      repeat' (first | (simp (disch := first | assumption | exact Nat.le_of_ble_eq_true rfl | omega) only [bk_86_0, eo_1_0, g10_28_0, g7_28_0, eo_0_1, v6_2, ev_ki, ev_kv, eo_0_2, eo_53, bk_86_1, eo_6, eo_56i, bk_86_2, eo_0_3, eo_60_3, eo_0_4, bk_86_3, bk_86_4, g10_28_5, v9_5, eo_3_5n, eo_3_5i, eo_3_5r, eo_0_5, g9_28_2, eo_11, eo_52, bk_86_5, bk_86_6, a32_176, c_44, c_104, t0, Int.add_zero, Int.add_sub_cancel, Int.reduceAdd, Int.reduceMul, Int.reduceSub, Int.reduceNeg, ev_wr_id]) | ((first | with_reducible refine br_40 ?_ ?_ | with_reducible refine br_41 ?_ ?_ | with_reducible refine br_42 ?_ ?_ | with_reducible refine br_43 ?_ ?_ | with_reducible refine br_44 ?_ ?_ | with_reducible refine br_45 ?_ ?_ | with_reducible refine br_46 ?_ ?_ | with_reducible refine br_47 ?_ ?_ | with_reducible refine br_48 ?_ ?_ | with_reducible refine br_49 ?_ ?_ | with_reducible refine br_50 ?_ ?_ | with_reducible refine br_51 ?_ ?_) <;> intro h <;> try simp (disch := first | assumption | exact Nat.le_of_ble_eq_true rfl | omega) only [ev_wr_id, not_true_eq_false, not_false_eq_true, Int.reduceEq, Int.reduceLT, Int.reduceLE, and_self, and_true, true_and, and_false, false_and, reduceIte] at h <;> try (exfalso; omega; done)))
    · rw [mm_154]
      repeat' (first | (simp (disch := first | assumption | exact Nat.le_of_ble_eq_true rfl | omega) only [bk_154_0, eo_1_0, eo_0_1, v11_2, ev_ki, ev_kv, eo_0_2, eo_53, bk_154_1, eo_6, eo_56i, bk_154_2, eo_0_3, eo_60_1, eo_0_4, bk_154_3, bk_154_4, v11_4, g11_28_4, bk_154_5, eo_3_5n, eo_3_5i, eo_3_5r, eo_3_6n, eo_3_6i, eo_3_6r, eo_0_6, v11_3, eo_23_5n, eo_23_5i, eo_23_5r, eo_52, bk_154_7, eo_0_5, bk_154_8, eo_3_7n, eo_3_7i, eo_3_7r, eo_0_7, eo_23_7n, eo_23_7i, eo_23_7r, bk_154_10, a32_186, c_109, c_151, Int.add_zero, Int.add_sub_cancel, Int.reduceAdd, Int.reduceMul, Int.reduceSub, Int.reduceNeg, ev_wr_id]) | ((first | with_reducible refine br_40 ?_ ?_ | with_reducible refine br_41 ?_ ?_ | with_reducible refine br_42 ?_ ?_ | with_reducible refine br_43 ?_ ?_ | with_reducible refine br_44 ?_ ?_ | with_reducible refine br_45 ?_ ?_ | with_reducible refine br_46 ?_ ?_ | with_reducible refine br_47 ?_ ?_ | with_reducible refine br_48 ?_ ?_ | with_reducible refine br_49 ?_ ?_ | with_reducible refine br_50 ?_ ?_ | with_reducible refine br_51 ?_ ?_) <;> intro h <;> try simp (disch := first | assumption | exact Nat.le_of_ble_eq_true rfl | omega) only [ev_wr_id, not_true_eq_false, not_false_eq_true, Int.reduceEq, Int.reduceLT, Int.reduceLE, and_self, and_true, true_and, and_false, false_and, reduceIte] at h <;> try (exfalso; omega; done)))
