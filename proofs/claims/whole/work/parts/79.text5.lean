/-! the whole text on both sides -/
theorem st_l0_v {T : Int → Int} {x y l : Int} (h : 0 ≤ T 1 ∧ T 1 < 20) : st_l0 T x y l 0 = T 0 ∧ st_l0 T x y l 1 = T 1 + 1 ∧ st_l0 T x y l 2 = T 2 ∧ st_l0 T x y l 5 = T 5 ∧ ∀ q, 338 ≤ q → st_l0 T x y l q = T q := by
  unfold st_l0
  refine ⟨?_, ev_u1_eq rfl, ?_, ?_, fun q hq => ?_⟩ <;> simp (disch := omega) only [ev_u1_ne]
theorem st_l1_v {T : Int → Int} {x y l br : Int} (hI : st_I T) (h : st_ok T x y l br) : st_l1 T x y l br 0 = T 0 ∧ st_l1 T x y l br 1 = T 1 + 1 ∧ st_l1 T x y l br 2 = T 2 + br ∧ (∀ q, 338 ≤ q → st_l1 T x y l br q = T q) ∧ st_I (st_l1 T x y l br) := by
  obtain ⟨h1, h2, h3, h4, h5, h6, h7⟩ := h
  have i1 := hI.1.2.1
  have i2 := hI.1.2.2.1
  obtain ⟨v0, v1, v2, v5, v3⟩ := st_l0_v (T := T) (x := x) (y := y) (l := l) (by omega)
  have hI0 : st_I (st_l0 T x y l) := pi_road hI rfl h7 h1 h2 h3 h4
  unfold st_l1
  by_cases c : br = 1
  · have h8 := h6 c
    rw [if_pos c]
    have hI1 : st_I (st_b0 (st_l0 T x y l) (T 1)) := pi_bridge hI0 rfl rfl (by omega) (by omega)
    refine ⟨?_, ?_, ?_, fun q hq => ?_, hI1⟩
    · rw [← v0]
      unfold st_b0
      simp (disch := omega) only [ev_u1_ne]
    · rw [← v1]
      unfold st_b0
      simp (disch := omega) only [ev_u1_ne]
    · unfold st_b0
      rw [ev_u1_eq rfl, v2, c]
    · rw [← v3 q hq]
      unfold st_b0
      simp (disch := omega) only [ev_u1_ne]
  · rw [if_neg c]
    exact ⟨v0, v1, by omega, v3, hI0⟩
def st_lr (S : ev_M) (T : Int → Int) : Nat → Int → Int
  | 0 => T
  | j + 1 => st_l1 (st_lr S T j) (S 166 j) (S 167 j) (S 168 j) (S 169 j)
theorem st_lr_c {S S2 : ev_M} {T : Int → Int} : ∀ j : Nat, (∀ q : Int, 0 ≤ q → q < j → S2 166 q = S 166 q ∧ S2 167 q = S 167 q ∧ S2 168 q = S 168 q ∧ S2 169 q = S 169 q) → st_lr S2 T j = st_lr S T j := by
  intro j
  induction j with
  | zero => intro _; rfl
  | succ j ih =>
    intro h
    obtain ⟨h1, h2, h3, h4⟩ := h j (by omega) (by omega)
    unfold st_lr
    rw [ih (fun q q0 q1 => h q q0 (by omega)), h1, h2, h3, h4]
def st_oks (S : ev_M) (T : Int → Int) (K : Nat) : Prop := ∀ j : Nat, j < K → st_ok (st_lr S T j) (S 166 j) (S 167 j) (S 168 j) (S 169 j)
theorem st_lr_v {S : ev_M} {T : Int → Int} (hI : st_I T) : ∀ K : Nat, st_oks S T K → st_I (st_lr S T K) ∧ st_lr S T K 0 = T 0 ∧ st_lr S T K 1 = T 1 + K ∧ ∀ q, 338 ≤ q → st_lr S T K q = T q := by
  intro K
  induction K with
  | zero =>
    intro _
    refine ⟨hI, rfl, ?_, fun _ _ => rfl⟩
    show T 1 = T 1 + ((0 : Nat) : Int)
    omega
  | succ K ih =>
    intro h
    obtain ⟨h1, h2, h3, h4⟩ := ih (fun j hj => h j (by omega))
    obtain ⟨v0, v1, v2, v3, v4⟩ := st_l1_v h1 (h K (by omega))
    refine ⟨v4, v0.trans h2, ?_, fun q hq => (v3 q hq).trans (h4 q hq)⟩
    have : st_lr S T (K + 1) 1 = st_lr S T K 1 + 1 := v1
    omega
theorem b_38 {S : ev_M} {c : Int → Int} {n i : Int} {f : Int → Int} (ht : st_tx S c n) (hn : f 1 = n) (hi : f 2 = i) (h0 : 0 ≤ i ∧ i ≤ n) : (st_bk c n i = n → ∃ f2, EM 38 [.inr (.inl 164)] (ev_ua S 164 f) = some (some (.inl 0), ev_ua S 164 f2) ∧ st_fk f f2) ∧ ((st_bk c n i < n ∧ c (st_bk c n i) ≠ 59) → ∃ f2, EM 38 [.inr (.inl 164)] (ev_ua S 164 f) = some (some (.inl 0), ev_ua S 164 f2) ∧ f2 3 = st_bk c n i ∧ f2 1 = f 1) ∧ ((st_bk c n i < n ∧ c (st_bk c n i) = 59) → ∃ f2, EM 38 [.inr (.inl 164)] (ev_ua S 164 f) = some (some (.inl 1), ev_ua S 164 f2) ∧ f2 2 = st_bk c n i + 1 ∧ st_fk f f2) := by
  obtain ⟨fA, e41, k1, k2⟩ := b_41 ht hn hi h0
  have hin := st_bk_in2 (c := c) h0.2
  have hbb := st_bk_bk (c := c) h0.2
  obtain ⟨p, hp⟩ : ∃ p, p = st_bk c n i := ⟨_, rfl⟩
  rw [← hp] at k1 hin hbb ⊢
  have hn1 : fA 1 = n := by rw [k2.1, hn]
  have n9 := ht.1
  obtain ⟨A1, A2⟩ := b_39 (s := 59) ht hn1 k1 (by omega) (by omega)
  rw [hbb] at A1 A2
  refine ⟨fun q => ⟨fA, ?_, k2⟩, fun q => ?_, fun q => ?_⟩
  · clear A1 A2 ht hbb hp
    rw [mm_38]
    repeat' (first | (simp (disch := first | assumption | exact Nat.le_of_ble_eq_true rfl | omega) only [bk_38_0, eo_1_0, v5_1, ev_ki, ev_kv, g5_27, eo_6, v5_2, eo_52, bk_38_1, eo_53, bk_38_2, eo_56z, e41, ev_ua_eq, hn1, k1, Int.add_zero, Int.add_sub_cancel, Int.reduceAdd, Int.reduceMul, Int.reduceSub, Int.reduceNeg, ev_wr_id]) | ((first | with_reducible refine br_40 ?_ ?_ | with_reducible refine br_41 ?_ ?_ | with_reducible refine br_42 ?_ ?_ | with_reducible refine br_43 ?_ ?_ | with_reducible refine br_44 ?_ ?_ | with_reducible refine br_45 ?_ ?_ | with_reducible refine br_46 ?_ ?_ | with_reducible refine br_47 ?_ ?_ | with_reducible refine br_48 ?_ ?_ | with_reducible refine br_49 ?_ ?_ | with_reducible refine br_50 ?_ ?_ | with_reducible refine br_51 ?_ ?_) <;> intro h <;> try simp (disch := first | assumption | exact Nat.le_of_ble_eq_true rfl | omega) only [ev_wr_id, not_true_eq_false, not_false_eq_true, Int.reduceEq, Int.reduceLT, Int.reduceLE, and_self, and_true, true_and, and_false, false_and, reduceIte] at h <;> try (exfalso; omega; done)))
  · obtain ⟨fB, e39, m1, m2⟩ := A2 (fun h => q.2 h.2)
    refine ⟨fB, ?_, m1, by rw [m2, k2.1]⟩
    have q1 := q.1
    clear A1 A2 ht hbb hp q
    rw [mm_38]
    repeat' (first | (simp (disch := first | assumption | exact Nat.le_of_ble_eq_true rfl | omega) only [bk_38_0, eo_1_0, v5_1, ev_ki, ev_kv, g5_27, eo_6, v5_2, eo_52, bk_38_1, eo_53, bk_38_2, eo_56z, e41, ev_ua_eq, hn1, k1, e39, Int.add_zero, Int.add_sub_cancel, Int.reduceAdd, Int.reduceMul, Int.reduceSub, Int.reduceNeg, ev_wr_id]) | ((first | with_reducible refine br_40 ?_ ?_ | with_reducible refine br_41 ?_ ?_ | with_reducible refine br_42 ?_ ?_ | with_reducible refine br_43 ?_ ?_ | with_reducible refine br_44 ?_ ?_ | with_reducible refine br_45 ?_ ?_ | with_reducible refine br_46 ?_ ?_ | with_reducible refine br_47 ?_ ?_ | with_reducible refine br_48 ?_ ?_ | with_reducible refine br_49 ?_ ?_ | with_reducible refine br_50 ?_ ?_ | with_reducible refine br_51 ?_ ?_) <;> intro h <;> try simp (disch := first | assumption | exact Nat.le_of_ble_eq_true rfl | omega) only [ev_wr_id, not_true_eq_false, not_false_eq_true, Int.reduceEq, Int.reduceLT, Int.reduceLE, and_self, and_true, true_and, and_false, false_and, reduceIte] at h <;> try (exfalso; omega; done)))
  · obtain ⟨fB, e39, m1, m2⟩ := A1 q
    refine ⟨fB, ?_, m1, st_fk_t k2 m2⟩
    have q1 := q.1
    clear A1 A2 ht hbb hp q
    rw [mm_38]
    repeat' (first | (simp (disch := first | assumption | exact Nat.le_of_ble_eq_true rfl | omega) only [bk_38_0, eo_1_0, v5_1, ev_ki, ev_kv, g5_27, eo_6, v5_2, eo_52, bk_38_1, eo_53, bk_38_2, eo_56z, e41, ev_ua_eq, hn1, k1, e39, Int.add_zero, Int.add_sub_cancel, Int.reduceAdd, Int.reduceMul, Int.reduceSub, Int.reduceNeg, ev_wr_id]) | ((first | with_reducible refine br_40 ?_ ?_ | with_reducible refine br_41 ?_ ?_ | with_reducible refine br_42 ?_ ?_ | with_reducible refine br_43 ?_ ?_ | with_reducible refine br_44 ?_ ?_ | with_reducible refine br_45 ?_ ?_ | with_reducible refine br_46 ?_ ?_ | with_reducible refine br_47 ?_ ?_ | with_reducible refine br_48 ?_ ?_ | with_reducible refine br_49 ?_ ?_ | with_reducible refine br_50 ?_ ?_ | with_reducible refine br_51 ?_ ?_) <;> intro h <;> try simp (disch := first | assumption | exact Nat.le_of_ble_eq_true rfl | omega) only [ev_wr_id, not_true_eq_false, not_false_eq_true, Int.reduceEq, Int.reduceLT, Int.reduceLE, and_self, and_true, true_and, and_false, false_and, reduceIte] at h <;> try (exfalso; omega; done)))
def st_rd9 (n : Int) (S S' : ev_M) (f' g g' T0 T' : Int → Int) (fl ok : Int) : Prop := st_gk g g' ∧ f' 1 = n ∧ (∀ i, i ≠ 166 → i ≠ 167 → i ≠ 168 → i ≠ 169 → S' i = S i) ∧ (∀ q, 338 ≤ q → T' q = T0 q) ∧ ((ok = 0 ∧ fl = g' 12 ∧ 0 ≤ fl ∧ fl ≤ n) ∨ (ok = 1 ∧ fl = -1 ∧ ∃ K : Nat, K ≤ 20 ∧ f' 5 = K ∧ T' = st_lr S' T0 K ∧ st_oks S' T0 K))
theorem l_read {μ : ev_M} {c T0 : Int → Int} {n : Int} (hmy : st_my μ c n) (hI0 : st_I T0) : ∀ (m k : Nat) (S : ev_M) (f g : Int → Int) (i b ki : Int), k + m = 20 → ki = k → st_tx S c n → S (ev_n + 1) 0 = T0 0 → S (ev_n + 1) 1 = T0 1 → S (ev_n + 6) 0 = T0 2 → f 5 = ki → f 6 = b → 0 ≤ b → T0 2 + b = st_lr S T0 k 2 → f 1 = n → g 11 = n → f 2 = i → g 12 = i → (0 ≤ i ∧ i ≤ n) → f 3 = -1 → st_oks S T0 k → ∃ fl S' f' ok1 M1 ch M2 ok g' T', EB 34 1 [some (.inr (.inl 164)), some (.inr (.inl ev_n)), some (.inl 1), some (.inl ki)] [] (ev_ua S 164 f) = some (some (.inl fl), ev_ua S' 164 f') ∧ EM 176 [.inr (.inl 182)] (ev_ua (ev_ua μ 183 (st_lr S T0 k)) 182 g) = some (some (.inl ok1), M1) ∧ (ok1 = 0 ∨ ok1 = 1) ∧ EM 173 [.inr (.inl 182)] M1 = some (some (.inl ch), M2) ∧ (-1 ≤ ch ∧ ch ≤ 255) ∧ EB 177 1 [some (.inr (.inl 182)), some (.inl ok1), some (.inl ch)] [] M2 = some (some (.inl ok), ev_ua (ev_ua μ 183 T') 182 g') ∧ st_rd9 n S S' f' g g' T0 T' fl ok := by
  intro m
  induction m with
  | zero =>
    intro k S f g i b ki hkm hki htx hN hR hB hk hb hb0 hT2 hf1 hg1 hf2 hg2 h0 hf3 hoks
    obtain ⟨hIk, v0, v1, v3⟩ := st_lr_v hI0 k hoks
    have i1 := hI0.1.2.1
    have i2 := hI0.1.2.2.1
    obtain ⟨ok, f2, S2, g2, T2, e35, e176, hj1, hgk, hj⟩ := j_road (T := st_lr S T0 k) htx hmy hIk (by rw [v0]; exact hN) (by rw [hR, v1, hki]) (by rw [hB]; exact hT2) hk hb (by omega) (by omega) hf1 hg1 hf2 hg2 h0
    have hU : st_my (ev_ua μ 183 T2) c n := st_my_o hmy (ev_ua_row (by omega))
    rcases hj with ⟨q0, q1, ⟨j, q2, q3⟩, q4, q5⟩ | ⟨q0, q1, q2, q3, x, y, l, br, q4, q5, q6, q7, q8⟩
    · have hg12 : g2 12 = st_bk c n j := by rw [← q1, q3]
      have hbj := st_bk_in2 (c := c) (n := n) (i := j) q2.2
      obtain ⟨g3, e173, r1, r2⟩ := b_173 hU ((hgk 11 (by omega) (by omega)).trans hg1) hg12 (by omega)
      rw [st_bk_bk q2.2] at e173 r1
      have hh := st_hr_in (p := st_bk c n j) hU (by omega)
      refine ⟨f2 3, S2, f2, ok, _, st_hr c n (st_bk c n j), _, 0, g3, T2, ?_, e176, Or.inl q0, e173, hh, ?_, st_gk_t hgk r2, hj1, q4, fun q hq => by rw [q5 q hq, v3 q hq], Or.inl ⟨rfl, by rw [r1, q3], by omega, by omega⟩⟩
      · have hki2 : ki = 20 := by omega
        rw [q0] at e35
        clear htx hoks hmy hU e176 q5 q4 e173 hI0 hIk v3 hgk r2
        rw [bk_34_1]
        repeat' (first | (simp (disch := first | assumption | exact Nat.le_of_ble_eq_true rfl | omega) only [bk_34_0, eo_1_0, eo_6, g5_30, eo_3_2n, eo_3_2i, eo_3_2r, eo_3_3n, eo_3_3i, eo_3_3r, eo_53, eo_0_2, eo_0_3, eo_1_1, v5_2, ev_ki, ev_kv, v5_1, eo_52, bk_34_2, bk_34_3, eo_23_3n, eo_23_3i, eo_23_3r, bk_34_4, g5_27, eo_56i, e35, Int.add_zero, Int.add_sub_cancel, Int.reduceAdd, Int.reduceMul, Int.reduceSub, Int.reduceNeg, ev_wr_id]) | ((first | with_reducible refine br_40 ?_ ?_ | with_reducible refine br_41 ?_ ?_ | with_reducible refine br_42 ?_ ?_ | with_reducible refine br_43 ?_ ?_ | with_reducible refine br_44 ?_ ?_ | with_reducible refine br_45 ?_ ?_ | with_reducible refine br_46 ?_ ?_ | with_reducible refine br_47 ?_ ?_ | with_reducible refine br_48 ?_ ?_ | with_reducible refine br_49 ?_ ?_ | with_reducible refine br_50 ?_ ?_ | with_reducible refine br_51 ?_ ?_) <;> intro h <;> try simp (disch := first | assumption | exact Nat.le_of_ble_eq_true rfl | omega) only [ev_wr_id, not_true_eq_false, not_false_eq_true, Int.reduceEq, Int.reduceLT, Int.reduceLE, and_self, and_true, true_and, and_false, false_and, reduceIte] at h <;> try (exfalso; omega; done)))
        rw [bk_34_1]
        repeat' (first | (simp (disch := first | assumption | exact Nat.le_of_ble_eq_true rfl | omega) only [bk_34_0, eo_1_0, eo_6, g5_30, eo_3_2n, eo_3_2i, eo_3_2r, eo_3_3n, eo_3_3i, eo_3_3r, eo_53, eo_0_2, eo_0_3, eo_1_1, v5_2, ev_ki, ev_kv, v5_1, eo_52, bk_34_2, bk_34_3, eo_23_3n, eo_23_3i, eo_23_3r, bk_34_4, g5_27, eo_56i, ev_ua_eq, Int.add_zero, Int.add_sub_cancel, Int.reduceAdd, Int.reduceMul, Int.reduceSub, Int.reduceNeg, ev_wr_id]) | ((first | with_reducible refine br_40 ?_ ?_ | with_reducible refine br_41 ?_ ?_ | with_reducible refine br_42 ?_ ?_ | with_reducible refine br_43 ?_ ?_ | with_reducible refine br_44 ?_ ?_ | with_reducible refine br_45 ?_ ?_ | with_reducible refine br_46 ?_ ?_ | with_reducible refine br_47 ?_ ?_ | with_reducible refine br_48 ?_ ?_ | with_reducible refine br_49 ?_ ?_ | with_reducible refine br_50 ?_ ?_ | with_reducible refine br_51 ?_ ?_) <;> intro h <;> try simp (disch := first | assumption | exact Nat.le_of_ble_eq_true rfl | omega) only [ev_wr_id, not_true_eq_false, not_false_eq_true, Int.reduceEq, Int.reduceLT, Int.reduceLE, and_self, and_true, true_and, and_false, false_and, reduceIte] at h <;> try (exfalso; omega; done)))
      · rw [q0]
        clear htx hoks hmy hU e176 q5 q4 e173 hI0 hIk v3 hgk r2 e35
        rw [bk_177_1]
        repeat' (first | (simp (disch := first | assumption | exact Nat.le_of_ble_eq_true rfl | omega) only [bk_177_0, eo_1_0, eo_6, g11_30, v11_1, ev_ki, ev_kv, eo_3_1n, eo_3_1i, eo_3_1r, eo_3_2n, eo_3_2i, eo_3_2r, eo_53, eo_0_1, eo_0_2, v11_2, eo_52, bk_177_2, bk_177_3, bk_177_4, eo_56z, Int.add_zero, Int.add_sub_cancel, Int.reduceAdd, Int.reduceMul, Int.reduceSub, Int.reduceNeg, ev_wr_id]) | ((first | with_reducible refine br_40 ?_ ?_ | with_reducible refine br_41 ?_ ?_ | with_reducible refine br_42 ?_ ?_ | with_reducible refine br_43 ?_ ?_ | with_reducible refine br_44 ?_ ?_ | with_reducible refine br_45 ?_ ?_ | with_reducible refine br_46 ?_ ?_ | with_reducible refine br_47 ?_ ?_ | with_reducible refine br_48 ?_ ?_ | with_reducible refine br_49 ?_ ?_ | with_reducible refine br_50 ?_ ?_ | with_reducible refine br_51 ?_ ?_) <;> intro h <;> try simp (disch := first | assumption | exact Nat.le_of_ble_eq_true rfl | omega) only [ev_wr_id, not_true_eq_false, not_false_eq_true, Int.reduceEq, Int.reduceLT, Int.reduceLE, and_self, and_true, true_and, and_false, false_and, reduceIte] at h <;> try (exfalso; omega; done)))
    · have := q8.2.2.2.2.2.2
      omega
  | succ m ih =>
    intro k S f g i b ki hkm hki htx hN hR hB hk hb hb0 hT2 hf1 hg1 hf2 hg2 h0 hf3 hoks
    obtain ⟨hIk, v0, v1, v3⟩ := st_lr_v hI0 k hoks
    have i1 := hI0.1.2.1
    have i2 := hI0.1.2.2.1
    obtain ⟨ok, f2, S2, g2, T2, e35, e176, hj1, hgk, hj⟩ := j_road (T := st_lr S T0 k) htx hmy hIk (by rw [v0]; exact hN) (by rw [hR, v1, hki]) (by rw [hB]; exact hT2) hk hb (by omega) (by omega) hf1 hg1 hf2 hg2 h0
    have hU : st_my (ev_ua μ 183 T2) c n := st_my_o hmy (ev_ua_row (by omega))
    have hki2 : 0 ≤ ki ∧ ki < 20 := by omega
    rcases hj with ⟨q0, q1, ⟨j, q2, q3⟩, q4, q5⟩ | ⟨q0, q1, q2, q3, x, y, l, br, q4, q5, q6, q7, q8⟩
    · have hg12 : g2 12 = st_bk c n j := by rw [← q1, q3]
      have hbj := st_bk_in2 (c := c) (n := n) (i := j) q2.2
      obtain ⟨g3, e173, r1, r2⟩ := b_173 hU ((hgk 11 (by omega) (by omega)).trans hg1) hg12 (by omega)
      rw [st_bk_bk q2.2] at e173 r1
      have hh := st_hr_in (p := st_bk c n j) hU (by omega)
      refine ⟨f2 3, S2, f2, ok, _, st_hr c n (st_bk c n j), _, 0, g3, T2, ?_, e176, Or.inl q0, e173, hh, ?_, st_gk_t hgk r2, hj1, q4, fun q hq => by rw [q5 q hq, v3 q hq], Or.inl ⟨rfl, by rw [r1, q3], by omega, by omega⟩⟩
      · rw [q0] at e35
        clear htx hoks hmy hU e176 q5 q4 e173 hI0 hIk v3 hgk r2 ih
        rw [bk_34_1]
        repeat' (first | (simp (disch := first | assumption | exact Nat.le_of_ble_eq_true rfl | omega) only [bk_34_0, eo_1_0, eo_6, g5_30, eo_3_2n, eo_3_2i, eo_3_2r, eo_3_3n, eo_3_3i, eo_3_3r, eo_53, eo_0_2, eo_0_3, eo_1_1, v5_2, ev_ki, ev_kv, v5_1, eo_52, bk_34_2, bk_34_3, eo_23_3n, eo_23_3i, eo_23_3r, bk_34_4, g5_27, eo_56i, e35, Int.add_zero, Int.add_sub_cancel, Int.reduceAdd, Int.reduceMul, Int.reduceSub, Int.reduceNeg, ev_wr_id]) | ((first | with_reducible refine br_40 ?_ ?_ | with_reducible refine br_41 ?_ ?_ | with_reducible refine br_42 ?_ ?_ | with_reducible refine br_43 ?_ ?_ | with_reducible refine br_44 ?_ ?_ | with_reducible refine br_45 ?_ ?_ | with_reducible refine br_46 ?_ ?_ | with_reducible refine br_47 ?_ ?_ | with_reducible refine br_48 ?_ ?_ | with_reducible refine br_49 ?_ ?_ | with_reducible refine br_50 ?_ ?_ | with_reducible refine br_51 ?_ ?_) <;> intro h <;> try simp (disch := first | assumption | exact Nat.le_of_ble_eq_true rfl | omega) only [ev_wr_id, not_true_eq_false, not_false_eq_true, Int.reduceEq, Int.reduceLT, Int.reduceLE, and_self, and_true, true_and, and_false, false_and, reduceIte] at h <;> try (exfalso; omega; done)))
        rw [bk_34_1]
        repeat' (first | (simp (disch := first | assumption | exact Nat.le_of_ble_eq_true rfl | omega) only [bk_34_0, eo_1_0, eo_6, g5_30, eo_3_2n, eo_3_2i, eo_3_2r, eo_3_3n, eo_3_3i, eo_3_3r, eo_53, eo_0_2, eo_0_3, eo_1_1, v5_2, ev_ki, ev_kv, v5_1, eo_52, bk_34_2, bk_34_3, eo_23_3n, eo_23_3i, eo_23_3r, bk_34_4, g5_27, eo_56i, ev_ua_eq, Int.add_zero, Int.add_sub_cancel, Int.reduceAdd, Int.reduceMul, Int.reduceSub, Int.reduceNeg, ev_wr_id]) | ((first | with_reducible refine br_40 ?_ ?_ | with_reducible refine br_41 ?_ ?_ | with_reducible refine br_42 ?_ ?_ | with_reducible refine br_43 ?_ ?_ | with_reducible refine br_44 ?_ ?_ | with_reducible refine br_45 ?_ ?_ | with_reducible refine br_46 ?_ ?_ | with_reducible refine br_47 ?_ ?_ | with_reducible refine br_48 ?_ ?_ | with_reducible refine br_49 ?_ ?_ | with_reducible refine br_50 ?_ ?_ | with_reducible refine br_51 ?_ ?_) <;> intro h <;> try simp (disch := first | assumption | exact Nat.le_of_ble_eq_true rfl | omega) only [ev_wr_id, not_true_eq_false, not_false_eq_true, Int.reduceEq, Int.reduceLT, Int.reduceLE, and_self, and_true, true_and, and_false, false_and, reduceIte] at h <;> try (exfalso; omega; done)))
      · rw [q0]
        clear htx hoks hmy hU e176 q5 q4 e173 hI0 hIk v3 hgk r2 e35 ih
        rw [bk_177_1]
        repeat' (first | (simp (disch := first | assumption | exact Nat.le_of_ble_eq_true rfl | omega) only [bk_177_0, eo_1_0, eo_6, g11_30, v11_1, ev_ki, ev_kv, eo_3_1n, eo_3_1i, eo_3_1r, eo_3_2n, eo_3_2i, eo_3_2r, eo_53, eo_0_1, eo_0_2, v11_2, eo_52, bk_177_2, bk_177_3, bk_177_4, eo_56z, Int.add_zero, Int.add_sub_cancel, Int.reduceAdd, Int.reduceMul, Int.reduceSub, Int.reduceNeg, ev_wr_id]) | ((first | with_reducible refine br_40 ?_ ?_ | with_reducible refine br_41 ?_ ?_ | with_reducible refine br_42 ?_ ?_ | with_reducible refine br_43 ?_ ?_ | with_reducible refine br_44 ?_ ?_ | with_reducible refine br_45 ?_ ?_ | with_reducible refine br_46 ?_ ?_ | with_reducible refine br_47 ?_ ?_ | with_reducible refine br_48 ?_ ?_ | with_reducible refine br_49 ?_ ?_ | with_reducible refine br_50 ?_ ?_ | with_reducible refine br_51 ?_ ?_) <;> intro h <;> try simp (disch := first | assumption | exact Nat.le_of_ble_eq_true rfl | omega) only [ev_wr_id, not_true_eq_false, not_false_eq_true, Int.reduceEq, Int.reduceLT, Int.reduceLE, and_self, and_true, true_and, and_false, false_and, reduceIte] at h <;> try (exfalso; omega; done)))
    · have htx2 : st_tx S2 c n := st_tx_o htx (q6.1 165 (by omega) (by omega) (by omega) (by omega))
      obtain ⟨B1, B2, B3⟩ := b_38 (f := f2) htx2 hj1 rfl q2
      obtain ⟨g3, e173, r1, r2⟩ := b_173 hU ((hgk 11 (by omega) (by omega)).trans hg1) q1.symm q2
      have hbj := st_bk_in2 (c := c) (n := n) (i := f2 2) q2.2
      have hbb := st_bk_bk (c := c) (n := n) (i := f2 2) q2.2
      obtain ⟨p, hp⟩ : ∃ p, p = st_bk c n (f2 2) := ⟨_, rfl⟩
      rw [← hp] at B1 B2 B3 e173 r1 hbj hbb
      have hh := st_hr_in (p := p) hU (by omega)
      have hlr : st_lr S2 T0 (k + 1) = T2 := by
        have hc := st_lr_c (S := S) (S2 := S2) (T := T0) k (fun q z0 z1 => ⟨by rw [q6.2.1, if_neg (by omega)], by rw [q6.2.2.1, if_neg (by omega)], by rw [q6.2.2.2.1, if_neg (by omega)], by rw [q6.2.2.2.2, if_neg (by omega)]⟩)
        show st_l1 (st_lr S2 T0 k) (S2 166 k) (S2 167 k) (S2 168 k) (S2 169 k) = T2
        rw [hc, q6.2.1, q6.2.2.1, q6.2.2.2.1, q6.2.2.2.2, if_pos hki.symm, if_pos hki.symm, if_pos hki.symm, if_pos hki.symm, q7]
      have hoks2 : st_oks S2 T0 (k + 1) := fun j hj => by
        have hc := st_lr_c (S := S) (S2 := S2) (T := T0) j (fun q z0 z1 => ⟨by rw [q6.2.1, if_neg (by omega)], by rw [q6.2.2.1, if_neg (by omega)], by rw [q6.2.2.2.1, if_neg (by omega)], by rw [q6.2.2.2.2, if_neg (by omega)]⟩)
        rw [hc, q6.2.1, q6.2.2.1, q6.2.2.2.1, q6.2.2.2.2]
        by_cases z : j = k
        · rw [z, if_pos hki.symm, if_pos hki.symm, if_pos hki.symm, if_pos hki.symm]
          exact q8
        · rw [if_neg (by omega), if_neg (by omega), if_neg (by omega), if_neg (by omega)]
          exact hoks j (by omega)
      have hv := st_l1_v hIk q8
      rw [← q7] at hv
      obtain ⟨w0, w1, w2, w3, w4⟩ := hv
      have gk3 : st_gk g g3 := st_gk_t hgk r2
      have g311 : g3 11 = n := (gk3 11 (by omega) (by omega)).trans hg1
      have fr2 := q6.1
      have hn0 : ev_n = 0 := rfl
      have gN1 := q6.1 (ev_n + 1) (by omega) (by omega) (by omega) (by omega)
      have gN6 := q6.1 (ev_n + 6) (by omega) (by omega) (by omega) (by omega)
      by_cases c1 : p = n
      · obtain ⟨f3, e38, m1⟩ := B1 c1
        rw [show st_hr c n p = -1 from if_neg (by omega)] at e173 hh
        refine ⟨-1, S2, f3, ok, _, -1, _, 1, g3, T2, ?_, e176, Or.inr q0, e173, hh, ?_, gk3, by rw [m1.1, hj1], fr2, fun q hq => by rw [w3 q hq, v3 q hq], Or.inr ⟨rfl, rfl, k + 1, by omega, by rw [m1.2.2.1, q4, hki]; rfl, hlr.symm, hoks2⟩⟩
        · have m3 : f3 3 = -1 := by rw [m1.2.1, q3, hf3]
          rw [q0] at e35
          clear htx hoks hmy hU e176 e173 hI0 hIk v3 hgk r2 ih B1 B2 B3 w3 w4 hlr hoks2 q6 q7 q8 gk3 fr2 htx2
          rw [bk_34_1]
          repeat' (first | (simp (disch := first | assumption | exact Nat.le_of_ble_eq_true rfl | omega) only [bk_34_0, eo_1_0, eo_6, g5_30, eo_3_2n, eo_3_2i, eo_3_2r, eo_3_3n, eo_3_3i, eo_3_3r, eo_53, eo_0_2, eo_0_3, eo_1_1, v5_2, ev_ki, ev_kv, v5_1, eo_52, bk_34_2, bk_34_3, eo_23_3n, eo_23_3i, eo_23_3r, bk_34_4, g5_27, eo_56i, e35, e38, Int.add_zero, Int.add_sub_cancel, Int.reduceAdd, Int.reduceMul, Int.reduceSub, Int.reduceNeg, ev_wr_id]) | ((first | with_reducible refine br_40 ?_ ?_ | with_reducible refine br_41 ?_ ?_ | with_reducible refine br_42 ?_ ?_ | with_reducible refine br_43 ?_ ?_ | with_reducible refine br_44 ?_ ?_ | with_reducible refine br_45 ?_ ?_ | with_reducible refine br_46 ?_ ?_ | with_reducible refine br_47 ?_ ?_ | with_reducible refine br_48 ?_ ?_ | with_reducible refine br_49 ?_ ?_ | with_reducible refine br_50 ?_ ?_ | with_reducible refine br_51 ?_ ?_) <;> intro h <;> try simp (disch := first | assumption | exact Nat.le_of_ble_eq_true rfl | omega) only [ev_wr_id, not_true_eq_false, not_false_eq_true, Int.reduceEq, Int.reduceLT, Int.reduceLE, and_self, and_true, true_and, and_false, false_and, reduceIte] at h <;> try (exfalso; omega; done)))
          rw [bk_34_1]
          repeat' (first | (simp (disch := first | assumption | exact Nat.le_of_ble_eq_true rfl | omega) only [bk_34_0, eo_1_0, eo_6, g5_30, eo_3_2n, eo_3_2i, eo_3_2r, eo_3_3n, eo_3_3i, eo_3_3r, eo_53, eo_0_2, eo_0_3, eo_1_1, v5_2, ev_ki, ev_kv, v5_1, eo_52, bk_34_2, bk_34_3, eo_23_3n, eo_23_3i, eo_23_3r, bk_34_4, g5_27, eo_56i, ev_ua_eq, Int.add_zero, Int.add_sub_cancel, Int.reduceAdd, Int.reduceMul, Int.reduceSub, Int.reduceNeg, ev_wr_id]) | ((first | with_reducible refine br_40 ?_ ?_ | with_reducible refine br_41 ?_ ?_ | with_reducible refine br_42 ?_ ?_ | with_reducible refine br_43 ?_ ?_ | with_reducible refine br_44 ?_ ?_ | with_reducible refine br_45 ?_ ?_ | with_reducible refine br_46 ?_ ?_ | with_reducible refine br_47 ?_ ?_ | with_reducible refine br_48 ?_ ?_ | with_reducible refine br_49 ?_ ?_ | with_reducible refine br_50 ?_ ?_ | with_reducible refine br_51 ?_ ?_) <;> intro h <;> try simp (disch := first | assumption | exact Nat.le_of_ble_eq_true rfl | omega) only [ev_wr_id, not_true_eq_false, not_false_eq_true, Int.reduceEq, Int.reduceLT, Int.reduceLE, and_self, and_true, true_and, and_false, false_and, reduceIte] at h <;> try (exfalso; omega; done)))
          rw [m3]
        · rw [q0]
          clear htx hoks hmy hU e176 e173 hI0 hIk v3 hgk r2 ih B1 B2 B3 w3 w4 hlr hoks2 q6 q7 q8 gk3 fr2 htx2 e35
          rw [bk_177_1]
          repeat' (first | (simp (disch := first | assumption | exact Nat.le_of_ble_eq_true rfl | omega) only [bk_177_0, eo_1_0, eo_6, g11_30, v11_1, ev_ki, ev_kv, eo_3_1n, eo_3_1i, eo_3_1r, eo_3_2n, eo_3_2i, eo_3_2r, eo_53, eo_0_1, eo_0_2, v11_2, eo_52, bk_177_2, bk_177_3, bk_177_4, eo_56z, Int.add_zero, Int.add_sub_cancel, Int.reduceAdd, Int.reduceMul, Int.reduceSub, Int.reduceNeg, ev_wr_id]) | ((first | with_reducible refine br_40 ?_ ?_ | with_reducible refine br_41 ?_ ?_ | with_reducible refine br_42 ?_ ?_ | with_reducible refine br_43 ?_ ?_ | with_reducible refine br_44 ?_ ?_ | with_reducible refine br_45 ?_ ?_ | with_reducible refine br_46 ?_ ?_ | with_reducible refine br_47 ?_ ?_ | with_reducible refine br_48 ?_ ?_ | with_reducible refine br_49 ?_ ?_ | with_reducible refine br_50 ?_ ?_ | with_reducible refine br_51 ?_ ?_) <;> intro h <;> try simp (disch := first | assumption | exact Nat.le_of_ble_eq_true rfl | omega) only [ev_wr_id, not_true_eq_false, not_false_eq_true, Int.reduceEq, Int.reduceLT, Int.reduceLE, and_self, and_true, true_and, and_false, false_and, reduceIte] at h <;> try (exfalso; omega; done)))
      · have hpn : p < n := by omega
        have hcp := htx2.2 p (by omega) (by omega)
        rw [show st_hr c n p = c p from if_pos (by omega)] at e173 hh
        obtain ⟨D1, D2⟩ := b_174 (s := 59) hU g311 r1 (by omega) (by omega)
        rw [hbb] at D1 D2
        have hcp0 : c p ≠ -1 := by omega
        by_cases c2 : c p = 59
        · obtain ⟨f3, e38, m0, m1⟩ := B3 ⟨hpn, c2⟩
          obtain ⟨g4, e174, s0, s1⟩ := D1 ⟨hpn, c2⟩
          obtain ⟨fl, S', f', ok1, M1, ch, M2, ok', g', T', x1, x2, x3, x4, x5, x6, y1, y2, y3, y4, y5⟩ := ih (k + 1) S2 f3 g4 (p + 1) (b + br) (ki + 1) (by omega) (by omega) htx2 (by rw [gN1]; exact hN) (by rw [gN1]; exact hR) (by rw [gN6]; exact hB) (by rw [m1.2.2.1, q4]) (by rw [m1.2.2.2, q5]) (by have := q8.2.2.2.2.1; omega) (by rw [hlr, w2]; omega) (by rw [m1.1, hj1]) ((s1 11 (by omega) (by omega)).trans g311) m0 s0 (by omega) (by rw [m1.2.1, q3, hf3]) hoks2
          rw [hlr] at x2
          refine ⟨fl, S', f', ok, _, c p, _, ok', g', T', ?_, e176, Or.inr q0, e173, hh, ?_, st_gk_t gk3 (st_gk_t s1 y1), y2, fun i h1 h2 h3 h4 => by rw [y3 i h1 h2 h3 h4, fr2 i h1 h2 h3 h4], y4, y5⟩
          · rw [← x1]
            rw [q0] at e35
            clear htx hoks hmy hU e176 e173 hI0 hIk v3 hgk r2 ih B1 B2 B3 w3 w4 hlr hoks2 q6 q7 q8 gk3 fr2 htx2 D1 D2 y1 y3 y4 y5 x2 x4 x6 e174 x1
            rw [bk_34_1]
            repeat' (first | (simp (disch := first | assumption | exact Nat.le_of_ble_eq_true rfl | omega) only [bk_34_0, eo_1_0, eo_6, g5_30, eo_3_2n, eo_3_2i, eo_3_2r, eo_3_3n, eo_3_3i, eo_3_3r, eo_53, eo_0_2, eo_0_3, eo_1_1, v5_2, ev_ki, ev_kv, v5_1, eo_52, bk_34_2, bk_34_3, eo_23_3n, eo_23_3i, eo_23_3r, bk_34_4, g5_27, eo_56i, e35, e38, Int.add_zero, Int.add_sub_cancel, Int.reduceAdd, Int.reduceMul, Int.reduceSub, Int.reduceNeg, ev_wr_id]) | ((first | with_reducible refine br_40 ?_ ?_ | with_reducible refine br_41 ?_ ?_ | with_reducible refine br_42 ?_ ?_ | with_reducible refine br_43 ?_ ?_ | with_reducible refine br_44 ?_ ?_ | with_reducible refine br_45 ?_ ?_ | with_reducible refine br_46 ?_ ?_ | with_reducible refine br_47 ?_ ?_ | with_reducible refine br_48 ?_ ?_ | with_reducible refine br_49 ?_ ?_ | with_reducible refine br_50 ?_ ?_ | with_reducible refine br_51 ?_ ?_) <;> intro h <;> try simp (disch := first | assumption | exact Nat.le_of_ble_eq_true rfl | omega) only [ev_wr_id, not_true_eq_false, not_false_eq_true, Int.reduceEq, Int.reduceLT, Int.reduceLE, and_self, and_true, true_and, and_false, false_and, reduceIte] at h <;> try (exfalso; omega; done)))
          · rw [← x6, q0]
            clear htx hoks hmy hU e176 e173 hI0 hIk v3 hgk r2 ih B1 B2 B3 w3 w4 hlr hoks2 q6 q7 q8 gk3 fr2 htx2 D1 D2 y1 y3 y4 y5 x1 e35 e38 x6
            rcases x3 with x3 | x3
            · rw [x3] at x2 ⊢
              rw [bk_177_1]
              repeat' (first | (simp (disch := first | assumption | exact Nat.le_of_ble_eq_true rfl | omega) only [bk_177_0, eo_1_0, eo_6, g11_30, v11_1, ev_ki, ev_kv, eo_3_1n, eo_3_1i, eo_3_1r, eo_3_2n, eo_3_2i, eo_3_2r, eo_53, eo_0_1, eo_0_2, v11_2, eo_52, bk_177_2, bk_177_3, bk_177_4, eo_56z, e174, x2, x4, Int.add_zero, Int.add_sub_cancel, Int.reduceAdd, Int.reduceMul, Int.reduceSub, Int.reduceNeg, ev_wr_id]) | ((first | with_reducible refine br_40 ?_ ?_ | with_reducible refine br_41 ?_ ?_ | with_reducible refine br_42 ?_ ?_ | with_reducible refine br_43 ?_ ?_ | with_reducible refine br_44 ?_ ?_ | with_reducible refine br_45 ?_ ?_ | with_reducible refine br_46 ?_ ?_ | with_reducible refine br_47 ?_ ?_ | with_reducible refine br_48 ?_ ?_ | with_reducible refine br_49 ?_ ?_ | with_reducible refine br_50 ?_ ?_ | with_reducible refine br_51 ?_ ?_) <;> intro h <;> try simp (disch := first | assumption | exact Nat.le_of_ble_eq_true rfl | omega) only [ev_wr_id, not_true_eq_false, not_false_eq_true, Int.reduceEq, Int.reduceLT, Int.reduceLE, and_self, and_true, true_and, and_false, false_and, reduceIte] at h <;> try (exfalso; omega; done)))
            · rw [x3] at x2 ⊢
              rw [bk_177_1]
              repeat' (first | (simp (disch := first | assumption | exact Nat.le_of_ble_eq_true rfl | omega) only [bk_177_0, eo_1_0, eo_6, g11_30, v11_1, ev_ki, ev_kv, eo_3_1n, eo_3_1i, eo_3_1r, eo_3_2n, eo_3_2i, eo_3_2r, eo_53, eo_0_1, eo_0_2, v11_2, eo_52, bk_177_2, bk_177_3, bk_177_4, eo_56z, e174, x2, x4, Int.add_zero, Int.add_sub_cancel, Int.reduceAdd, Int.reduceMul, Int.reduceSub, Int.reduceNeg, ev_wr_id]) | ((first | with_reducible refine br_40 ?_ ?_ | with_reducible refine br_41 ?_ ?_ | with_reducible refine br_42 ?_ ?_ | with_reducible refine br_43 ?_ ?_ | with_reducible refine br_44 ?_ ?_ | with_reducible refine br_45 ?_ ?_ | with_reducible refine br_46 ?_ ?_ | with_reducible refine br_47 ?_ ?_ | with_reducible refine br_48 ?_ ?_ | with_reducible refine br_49 ?_ ?_ | with_reducible refine br_50 ?_ ?_ | with_reducible refine br_51 ?_ ?_) <;> intro h <;> try simp (disch := first | assumption | exact Nat.le_of_ble_eq_true rfl | omega) only [ev_wr_id, not_true_eq_false, not_false_eq_true, Int.reduceEq, Int.reduceLT, Int.reduceLE, and_self, and_true, true_and, and_false, false_and, reduceIte] at h <;> try (exfalso; omega; done)))
        · obtain ⟨f3, e38, m0, m1⟩ := B2 ⟨hpn, c2⟩
          obtain ⟨g4, e174, s0, s1⟩ := D2 (fun h => c2 h.2)
          obtain ⟨g5, e173b, t0, t1⟩ := b_173 hU ((s1 11 (by omega) (by omega)).trans g311) s0 (by omega)
          rw [hbb] at e173b t0
          rw [show st_hr c n p = c p from if_pos hpn] at e173b
          refine ⟨p, S2, f3, ok, _, c p, _, 0, g5, T2, ?_, e176, Or.inr q0, e173, hh, ?_, st_gk_t gk3 (st_gk_t s1 t1), by rw [m1, hj1], fr2, fun q hq => by rw [w3 q hq, v3 q hq], Or.inl ⟨rfl, by rw [t0], by omega, by omega⟩⟩
          · rw [q0] at e35
            clear htx hoks hmy hU e176 e173 hI0 hIk v3 hgk r2 ih B1 B2 B3 w3 w4 hlr hoks2 q6 q7 q8 gk3 fr2 htx2 D1 D2 e174 e173b
            rw [bk_34_1]
            repeat' (first | (simp (disch := first | assumption | exact Nat.le_of_ble_eq_true rfl | omega) only [bk_34_0, eo_1_0, eo_6, g5_30, eo_3_2n, eo_3_2i, eo_3_2r, eo_3_3n, eo_3_3i, eo_3_3r, eo_53, eo_0_2, eo_0_3, eo_1_1, v5_2, ev_ki, ev_kv, v5_1, eo_52, bk_34_2, bk_34_3, eo_23_3n, eo_23_3i, eo_23_3r, bk_34_4, g5_27, eo_56i, e35, e38, Int.add_zero, Int.add_sub_cancel, Int.reduceAdd, Int.reduceMul, Int.reduceSub, Int.reduceNeg, ev_wr_id]) | ((first | with_reducible refine br_40 ?_ ?_ | with_reducible refine br_41 ?_ ?_ | with_reducible refine br_42 ?_ ?_ | with_reducible refine br_43 ?_ ?_ | with_reducible refine br_44 ?_ ?_ | with_reducible refine br_45 ?_ ?_ | with_reducible refine br_46 ?_ ?_ | with_reducible refine br_47 ?_ ?_ | with_reducible refine br_48 ?_ ?_ | with_reducible refine br_49 ?_ ?_ | with_reducible refine br_50 ?_ ?_ | with_reducible refine br_51 ?_ ?_) <;> intro h <;> try simp (disch := first | assumption | exact Nat.le_of_ble_eq_true rfl | omega) only [ev_wr_id, not_true_eq_false, not_false_eq_true, Int.reduceEq, Int.reduceLT, Int.reduceLE, and_self, and_true, true_and, and_false, false_and, reduceIte] at h <;> try (exfalso; omega; done)))
            rw [bk_34_1]
            repeat' (first | (simp (disch := first | assumption | exact Nat.le_of_ble_eq_true rfl | omega) only [bk_34_0, eo_1_0, eo_6, g5_30, eo_3_2n, eo_3_2i, eo_3_2r, eo_3_3n, eo_3_3i, eo_3_3r, eo_53, eo_0_2, eo_0_3, eo_1_1, v5_2, ev_ki, ev_kv, v5_1, eo_52, bk_34_2, bk_34_3, eo_23_3n, eo_23_3i, eo_23_3r, bk_34_4, g5_27, eo_56i, ev_ua_eq, m0, Int.add_zero, Int.add_sub_cancel, Int.reduceAdd, Int.reduceMul, Int.reduceSub, Int.reduceNeg, ev_wr_id]) | ((first | with_reducible refine br_40 ?_ ?_ | with_reducible refine br_41 ?_ ?_ | with_reducible refine br_42 ?_ ?_ | with_reducible refine br_43 ?_ ?_ | with_reducible refine br_44 ?_ ?_ | with_reducible refine br_45 ?_ ?_ | with_reducible refine br_46 ?_ ?_ | with_reducible refine br_47 ?_ ?_ | with_reducible refine br_48 ?_ ?_ | with_reducible refine br_49 ?_ ?_ | with_reducible refine br_50 ?_ ?_ | with_reducible refine br_51 ?_ ?_) <;> intro h <;> try simp (disch := first | assumption | exact Nat.le_of_ble_eq_true rfl | omega) only [ev_wr_id, not_true_eq_false, not_false_eq_true, Int.reduceEq, Int.reduceLT, Int.reduceLE, and_self, and_true, true_and, and_false, false_and, reduceIte] at h <;> try (exfalso; omega; done)))
          · rw [q0]
            clear htx hoks hmy hU e176 e173 hI0 hIk v3 hgk r2 ih B1 B2 B3 w3 w4 hlr hoks2 q6 q7 q8 gk3 fr2 htx2 D1 D2 e35 e38
            rw [bk_177_1]
            repeat' (first | (simp (disch := first | assumption | exact Nat.le_of_ble_eq_true rfl | omega) only [bk_177_0, eo_1_0, eo_6, g11_30, v11_1, ev_ki, ev_kv, eo_3_1n, eo_3_1i, eo_3_1r, eo_3_2n, eo_3_2i, eo_3_2r, eo_53, eo_0_1, eo_0_2, v11_2, eo_52, bk_177_2, bk_177_3, bk_177_4, eo_56z, e174, e173b, Int.add_zero, Int.add_sub_cancel, Int.reduceAdd, Int.reduceMul, Int.reduceSub, Int.reduceNeg, ev_wr_id]) | ((first | with_reducible refine br_40 ?_ ?_ | with_reducible refine br_41 ?_ ?_ | with_reducible refine br_42 ?_ ?_ | with_reducible refine br_43 ?_ ?_ | with_reducible refine br_44 ?_ ?_ | with_reducible refine br_45 ?_ ?_ | with_reducible refine br_46 ?_ ?_ | with_reducible refine br_47 ?_ ?_ | with_reducible refine br_48 ?_ ?_ | with_reducible refine br_49 ?_ ?_ | with_reducible refine br_50 ?_ ?_ | with_reducible refine br_51 ?_ ?_) <;> intro h <;> try simp (disch := first | assumption | exact Nat.le_of_ble_eq_true rfl | omega) only [ev_wr_id, not_true_eq_false, not_false_eq_true, Int.reduceEq, Int.reduceLT, Int.reduceLE, and_self, and_true, true_and, and_false, false_and, reduceIte] at h <;> try (exfalso; omega; done)))
            rw [bk_177_1]
            repeat' (first | (simp (disch := first | assumption | exact Nat.le_of_ble_eq_true rfl | omega) only [bk_177_0, eo_1_0, eo_6, g11_30, v11_1, ev_ki, ev_kv, eo_3_1n, eo_3_1i, eo_3_1r, eo_3_2n, eo_3_2i, eo_3_2r, eo_53, eo_0_1, eo_0_2, v11_2, eo_52, bk_177_2, bk_177_3, bk_177_4, eo_56z, Int.add_zero, Int.add_sub_cancel, Int.reduceAdd, Int.reduceMul, Int.reduceSub, Int.reduceNeg, ev_wr_id]) | ((first | with_reducible refine br_40 ?_ ?_ | with_reducible refine br_41 ?_ ?_ | with_reducible refine br_42 ?_ ?_ | with_reducible refine br_43 ?_ ?_ | with_reducible refine br_44 ?_ ?_ | with_reducible refine br_45 ?_ ?_ | with_reducible refine br_46 ?_ ?_ | with_reducible refine br_47 ?_ ?_ | with_reducible refine br_48 ?_ ?_ | with_reducible refine br_49 ?_ ?_ | with_reducible refine br_50 ?_ ?_ | with_reducible refine br_51 ?_ ?_) <;> intro h <;> try simp (disch := first | assumption | exact Nat.le_of_ble_eq_true rfl | omega) only [ev_wr_id, not_true_eq_false, not_false_eq_true, Int.reduceEq, Int.reduceLT, Int.reduceLE, and_self, and_true, true_and, and_false, false_and, reduceIte] at h <;> try (exfalso; omega; done)))
