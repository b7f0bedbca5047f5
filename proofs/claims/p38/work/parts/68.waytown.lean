/-! wayTown on both sides -/
noncomputable def st_it (T : Int → Int) (w : Int) (G : Int → Int) (x : Int) : Nat → Int
  | 0 => x
  | i + 1 => st_nx T w G (st_it T w G x i)
noncomputable def st_ni (G : Int → Int) (x : Int) : Nat := ev_nu (fun y => 0 ≤ y ∧ y < 10 ∧ G y < G x) 10
theorem st_it_1 {T : Int → Int} {w x : Int} {G : Int → Int} : ∀ i : Nat, st_it T w G (st_nx T w G x) i = st_it T w G x (i + 1) := by
  intro i
  induction i with
  | zero => rfl
  | succ i ih =>
    show st_nx T w G (st_it T w G (st_nx T w G x) i) = st_nx T w G (st_it T w G x (i + 1))
    rw [ih]
theorem st_ch {T : Int → Int} {w s : Int} {G : Int → Int} (hI : st_I T) (hG : st_sp T w (-1) s G) : ∀ (m : Nat) (x : Int), 0 ≤ x ∧ x < 10 → G x ≤ 990 → st_ni G x ≤ m → ∃ n : Nat, n ≤ m ∧ st_it T w G x n = s ∧ ∀ i : Nat, i ≤ n → (0 ≤ st_it T w G x i ∧ st_it T w G x i < 10) ∧ G (st_it T w G x i) ≤ 990 ∧ (i < n → st_it T w G x i ≠ s) := by
  have i0 := hI.1.1
  intro m
  induction m with
  | zero =>
    intro x hx hr hm
    by_cases c : x = s
    · refine ⟨0, by omega, c, fun i hi => ?_⟩
      obtain rfl : i = 0 := by omega
      exact ⟨hx, hr, fun h => by omega⟩
    · obtain ⟨q1, q2⟩ := st_nx_in hI hG hx c hr
      have := ev_nu_pos (k := 10) (p := fun y => 0 ≤ y ∧ y < 10 ∧ G y < G x) (y := st_nx T w G x) q1.1 (by omega) ⟨q1.1, by omega, q2⟩
      unfold st_ni at hm
      omega
  | succ m ih =>
    intro x hx hr hm
    by_cases c : x = s
    · refine ⟨0, by omega, c, fun i hi => ?_⟩
      obtain rfl : i = 0 := by omega
      exact ⟨hx, hr, fun h => by omega⟩
    · obtain ⟨q1, q2⟩ := st_nx_in hI hG hx c hr
      have hlt : st_ni G (st_nx T w G x) + 1 ≤ st_ni G x := ev_nu_1 (y := st_nx T w G x) (by omega) (fun z hz => ⟨hz.1, hz.2.1, by have := hz.2.2; omega⟩) ⟨q1.1, by omega, q2⟩ (fun hz => by have := hz.2.2; omega)
      obtain ⟨n, h1, h2, h3⟩ := ih (st_nx T w G x) (by omega) (by omega) (by omega)
      refine ⟨n + 1, by omega, by rw [← st_it_1]; exact h2, fun i hi => ?_⟩
      by_cases ci : i = 0
      · rw [ci]
        exact ⟨hx, hr, fun _ => c⟩
      · obtain ⟨j, hj⟩ : ∃ j, i = j + 1 := ⟨i - 1, by omega⟩
        rw [hj, ← st_it_1]
        have := h3 j (by omega)
        exact ⟨this.1, this.2.1, fun h => this.2.2 (by omega)⟩
theorem st_ni_9 {G : Int → Int} {x : Int} (hx : 0 ≤ x ∧ x < 10) : st_ni G x ≤ 9 := by
  have h1 := ev_nu_1 (p := fun y => 0 ≤ y ∧ y < 10 ∧ G y < G x) (q := fun y => 0 ≤ y ∧ y < 10 ∧ G y ≤ G x) (y := x) hx (fun z hz => ⟨hz.1, hz.2.1, by have := hz.2.2; omega⟩) ⟨hx.1, hx.2, Int.le_refl _⟩ (fun hz => by have := hz.2.2; omega)
  have h2 := ev_nu_le (p := fun y => 0 ≤ y ∧ y < 10 ∧ G y ≤ G x) 10
  unfold st_ni
  omega
theorem l_64 {σ : ev_M} {s fr to w : Int} {n : Nat} {x : Nat → Int} (hs : ev_S s) (hn : n ≤ 9) (hf : 0 ≤ fr ∧ fr < 10) (hx : ∀ i : Nat, i ≤ n → 0 ≤ x i ∧ x i < 10) (hxn : x n = fr) (hxi : ∀ i : Nat, i < n → x i ≠ fr) (ha : ∀ (i : Nat) (B : Int → Int), i < n → EM 65 [.inr (.inl 173), .inr (.inl s), .inl (x i), .inl w] (ev_ua σ 176 B) = some (some (.inl (x (i + 1))), ev_ua σ 176 B)) : ∀ (k m : Nat) (mi t : Int) (B : Int → Int), m + k = n → mi = m → t = x m → (∀ j : Nat, j < m → B j = x j) → ∃ B2, EB 64 2 [some (.inr (.inl 173)), some (.inr (.inl s)), some (.inl fr), some (.inl to), some (.inl w), some (.inl mi), some (.inl t)] [] (ev_ua σ 176 B) = some (some (.inl ((n : Int) + 1)), ev_ua σ 176 B2) ∧ ∀ j : Nat, j ≤ n → B2 j = x j := by
  intro k
  induction k with
  | zero =>
    intro m mi t B hm hmi ht hB
    obtain rfl : m = n := by omega
    refine ⟨ev_u1 B mi fr, ?_, fun j hj => ?_⟩
    · have ht2 : t = fr := by omega
      rw [ht2, ← hmi]
      have hmi2 : 0 ≤ mi ∧ mi ≤ 9 := by omega
      clear hB ha hxi hx hxn ht hmi hm ht2 hn
      rw [bk_64_2]
      repeat' (first | (simp (disch := first | assumption | exact Nat.le_of_ble_eq_true rfl | omega) only [bk_64_0, eo_1_0, eo_0_3, v9_2, ev_ki, ev_kv, eo_6, eo_56i, bk_64_1, eo_3_5n, eo_3_5i, eo_3_5r, eo_3_6n, eo_3_6i, eo_3_6r, eo_53, eo_0_5, eo_0_6, g9_28_2, eo_23_5n, eo_23_5i, eo_23_5r, eo_0_2, eo_52, bk_64_3, eo_1_1, eo_0_4, v9_4, bk_64_4, bk_64_5, a33_176, ev_up_ua, Int.add_zero, Int.add_sub_cancel, Int.reduceAdd, Int.reduceMul, Int.reduceSub, Int.reduceNeg, ev_wr_id]) | ((first | with_reducible refine br_40 ?_ ?_ | with_reducible refine br_41 ?_ ?_ | with_reducible refine br_42 ?_ ?_ | with_reducible refine br_43 ?_ ?_ | with_reducible refine br_44 ?_ ?_ | with_reducible refine br_45 ?_ ?_ | with_reducible refine br_46 ?_ ?_ | with_reducible refine br_47 ?_ ?_ | with_reducible refine br_48 ?_ ?_ | with_reducible refine br_49 ?_ ?_ | with_reducible refine br_50 ?_ ?_ | with_reducible refine br_51 ?_ ?_) <;> intro h <;> try simp (disch := first | assumption | exact Nat.le_of_ble_eq_true rfl | omega) only [ev_wr_id, not_true_eq_false, not_false_eq_true, Int.reduceEq, Int.reduceLT, Int.reduceLE, and_self, and_true, true_and, and_false, false_and, reduceIte] at h <;> try (exfalso; omega; done)))
      by_cases c : mi + 1 < 10
      · rw [bk_64_2]
        repeat' (first | (simp (disch := first | assumption | exact Nat.le_of_ble_eq_true rfl | omega) only [bk_64_0, eo_1_0, eo_0_3, v9_2, ev_ki, ev_kv, eo_6, eo_56i, bk_64_1, eo_3_5n, eo_3_5i, eo_3_5r, eo_3_6n, eo_3_6i, eo_3_6r, eo_53, eo_0_5, eo_0_6, g9_28_2, eo_23_5n, eo_23_5i, eo_23_5r, eo_0_2, eo_52, bk_64_3, eo_1_1, eo_0_4, v9_4, bk_64_4, bk_64_5, a33_176, Int.add_zero, Int.add_sub_cancel, Int.reduceAdd, Int.reduceMul, Int.reduceSub, Int.reduceNeg, ev_wr_id]) | ((first | with_reducible refine br_40 ?_ ?_ | with_reducible refine br_41 ?_ ?_ | with_reducible refine br_42 ?_ ?_ | with_reducible refine br_43 ?_ ?_ | with_reducible refine br_44 ?_ ?_ | with_reducible refine br_45 ?_ ?_ | with_reducible refine br_46 ?_ ?_ | with_reducible refine br_47 ?_ ?_ | with_reducible refine br_48 ?_ ?_ | with_reducible refine br_49 ?_ ?_ | with_reducible refine br_50 ?_ ?_ | with_reducible refine br_51 ?_ ?_) <;> intro h <;> try simp (disch := first | assumption | exact Nat.le_of_ble_eq_true rfl | omega) only [ev_wr_id, not_true_eq_false, not_false_eq_true, Int.reduceEq, Int.reduceLT, Int.reduceLE, and_self, and_true, true_and, and_false, false_and, reduceIte] at h <;> try (exfalso; omega; done)))
      · rw [bk_64_2]
        repeat' (first | (simp (disch := first | assumption | exact Nat.le_of_ble_eq_true rfl | omega) only [bk_64_0, eo_1_0, eo_0_3, v9_2, ev_ki, ev_kv, eo_6, eo_56i, bk_64_1, eo_3_5n, eo_3_5i, eo_3_5r, eo_3_6n, eo_3_6i, eo_3_6r, eo_53, eo_0_5, eo_0_6, g9_28_2, eo_23_5n, eo_23_5i, eo_23_5r, eo_0_2, eo_52, bk_64_3, eo_1_1, eo_0_4, v9_4, bk_64_4, bk_64_5, a33_176, Int.add_zero, Int.add_sub_cancel, Int.reduceAdd, Int.reduceMul, Int.reduceSub, Int.reduceNeg, ev_wr_id]) | ((first | with_reducible refine br_40 ?_ ?_ | with_reducible refine br_41 ?_ ?_ | with_reducible refine br_42 ?_ ?_ | with_reducible refine br_43 ?_ ?_ | with_reducible refine br_44 ?_ ?_ | with_reducible refine br_45 ?_ ?_ | with_reducible refine br_46 ?_ ?_ | with_reducible refine br_47 ?_ ?_ | with_reducible refine br_48 ?_ ?_ | with_reducible refine br_49 ?_ ?_ | with_reducible refine br_50 ?_ ?_ | with_reducible refine br_51 ?_ ?_) <;> intro h <;> try simp (disch := first | assumption | exact Nat.le_of_ble_eq_true rfl | omega) only [ev_wr_id, not_true_eq_false, not_false_eq_true, Int.reduceEq, Int.reduceLT, Int.reduceLE, and_self, and_true, true_and, and_false, false_and, reduceIte] at h <;> try (exfalso; omega; done)))
    · by_cases c : j = m
      · rw [ev_u1_eq (by omega), c, hxn]
      · rw [ev_u1_ne (by omega)]
        exact hB j (by omega)
  | succ k ih =>
    intro m mi t B hm hmi ht hB
    obtain ⟨B2, e, h⟩ := ih (m + 1) (mi + 1) (x (m + 1)) (ev_u1 B mi t) (by omega) (by omega) rfl (fun j hj => by
      by_cases c : j = m
      · rw [ev_u1_eq (by omega), c, ht]
      · rw [ev_u1_ne (by omega)]
        exact hB j (by omega))
    refine ⟨B2, ?_, h⟩
    have e65 := ha m (ev_u1 B mi t) (by omega)
    have hxm := hx m (by omega)
    have hne := hxi m (by omega)
    rw [← ht] at hxm hne e65
    obtain ⟨y, hy⟩ : ∃ y, y = x (m + 1) := ⟨_, rfl⟩
    rw [← hy] at e65 e
    have hmi2 : 0 ≤ mi ∧ mi ≤ 8 := by omega
    rw [← e]
    clear e h hB ha hxi hx hxn ht hmi hm hn ih hy
    rw [bk_64_2]
    repeat' (first | (simp (disch := first | assumption | exact Nat.le_of_ble_eq_true rfl | omega) only [bk_64_0, eo_1_0, eo_0_3, v9_2, ev_ki, ev_kv, eo_6, eo_56i, bk_64_1, eo_3_5n, eo_3_5i, eo_3_5r, eo_3_6n, eo_3_6i, eo_3_6r, eo_53, eo_0_5, eo_0_6, g9_28_2, eo_23_5n, eo_23_5i, eo_23_5r, eo_0_2, eo_52, bk_64_3, eo_1_1, eo_0_4, v9_4, bk_64_4, bk_64_5, a33_176, ev_up_ua, e65, Int.add_zero, Int.add_sub_cancel, Int.reduceAdd, Int.reduceMul, Int.reduceSub, Int.reduceNeg, ev_wr_id]) | ((first | with_reducible refine br_40 ?_ ?_ | with_reducible refine br_41 ?_ ?_ | with_reducible refine br_42 ?_ ?_ | with_reducible refine br_43 ?_ ?_ | with_reducible refine br_44 ?_ ?_ | with_reducible refine br_45 ?_ ?_ | with_reducible refine br_46 ?_ ?_ | with_reducible refine br_47 ?_ ?_ | with_reducible refine br_48 ?_ ?_ | with_reducible refine br_49 ?_ ?_ | with_reducible refine br_50 ?_ ?_ | with_reducible refine br_51 ?_ ?_) <;> intro h <;> try simp (disch := first | assumption | exact Nat.le_of_ble_eq_true rfl | omega) only [ev_wr_id, not_true_eq_false, not_false_eq_true, Int.reduceEq, Int.reduceLT, Int.reduceLE, and_self, and_true, true_and, and_false, false_and, reduceIte] at h <;> try (exfalso; omega; done)))
theorem c_64 {σ : ev_M} {s fr to w : Int} {n : Nat} {x : Nat → Int} (hs : ev_S s) (hn : n ≤ 9) (hf : 0 ≤ fr ∧ fr < 10) (hx : ∀ i : Nat, i ≤ n → 0 ≤ x i ∧ x i < 10) (h0 : x 0 = to) (hxn : x n = fr) (hxi : ∀ i : Nat, i < n → x i ≠ fr) (hr : 0 ≤ σ 174 to ∧ σ 174 to < 1000000) (ha : ∀ (i : Nat) (B : Int → Int), i < n → EM 65 [.inr (.inl 173), .inr (.inl s), .inl (x i), .inl w] (ev_ua σ 176 B) = some (some (.inl (x (i + 1))), ev_ua σ 176 B)) : ∃ B, EM 64 [.inr (.inl 173), .inr (.inl s), .inl fr, .inl to, .inl w] σ = some (some (.inl ((n : Int) + 1)), ev_ua σ 176 B) ∧ ∀ j : Nat, j ≤ n → B j = x j := by
  obtain ⟨B, e, h⟩ := l_64 (σ := σ) (to := to) hs hn hf hx hxn hxi ha n 0 0 to (σ 176) (by omega) rfl h0.symm (fun j hj => by omega)
  rw [ev_ua_self] at e
  have hto := hx 0 (by omega)
  rw [h0] at hto
  have e61 := c_61 (σ := σ) (t := to) hto (by omega)
  rw [if_pos hr.2] at e61
  refine ⟨B, ?_, h⟩
  rw [← e]
  clear e h ha hxi hx hxn h0 hn
  rw [mm_64]
  repeat' (first | (simp (disch := first | assumption | exact Nat.le_of_ble_eq_true rfl | omega) only [bk_64_0, eo_1_0, eo_0_3, v9_2, ev_ki, ev_kv, eo_6, eo_56i, bk_64_1, eo_3_5n, eo_3_5i, eo_3_5r, eo_3_6n, eo_3_6i, eo_3_6r, eo_53, eo_0_5, eo_0_6, g9_28_2, eo_23_5n, eo_23_5i, eo_23_5r, eo_0_2, eo_52, bk_64_3, eo_1_1, eo_0_4, v9_4, bk_64_4, bk_64_5, a33_176, e61, Int.add_zero, Int.add_sub_cancel, Int.reduceAdd, Int.reduceMul, Int.reduceSub, Int.reduceNeg, ev_wr_id]) | ((first | with_reducible refine br_40 ?_ ?_ | with_reducible refine br_41 ?_ ?_ | with_reducible refine br_42 ?_ ?_ | with_reducible refine br_43 ?_ ?_ | with_reducible refine br_44 ?_ ?_ | with_reducible refine br_45 ?_ ?_ | with_reducible refine br_46 ?_ ?_ | with_reducible refine br_47 ?_ ?_ | with_reducible refine br_48 ?_ ?_ | with_reducible refine br_49 ?_ ?_ | with_reducible refine br_50 ?_ ?_ | with_reducible refine br_51 ?_ ?_) <;> intro h <;> try simp (disch := first | assumption | exact Nat.le_of_ble_eq_true rfl | omega) only [ev_wr_id, not_true_eq_false, not_false_eq_true, Int.reduceEq, Int.reduceLT, Int.reduceLE, and_self, and_true, true_and, and_false, false_and, reduceIte] at h <;> try (exfalso; omega; done)))
