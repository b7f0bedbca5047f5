/-! a road of the text on both sides -/
def st_ok (T : Int → Int) (x y l br : Int) : Prop := (0 ≤ x ∧ x < T 0) ∧ (0 ≤ y ∧ y < T 0) ∧ x ≠ y ∧ (1 ≤ l ∧ l ≤ 99) ∧ (br = 0 ∨ br = 1) ∧ (br = 1 → T 2 < 6) ∧ T 1 < 20
def st_jr (c : Int → Int) (n k b : Int) (f f2 g g2 : Int → Int) (S S2 : ev_M) (T T2 : Int → Int) (ok : Int) : Prop := f2 1 = n ∧ st_gk g g2 ∧ ((ok = 0 ∧ f2 3 = g2 12 ∧ (∃ j, (0 ≤ j ∧ j ≤ n) ∧ f2 3 = st_bk c n j) ∧ (∀ i, i ≠ 166 → i ≠ 167 → i ≠ 168 → i ≠ 169 → S2 i = S i) ∧ ∀ q, 338 ≤ q → T2 q = T q) ∨ (ok = 1 ∧ f2 2 = g2 12 ∧ (0 ≤ f2 2 ∧ f2 2 ≤ n) ∧ f2 3 = f 3 ∧ ∃ x y l br, f2 5 = k + 1 ∧ f2 6 = b + br ∧ st_kp S S2 k x y l br ∧ T2 = st_l1 T x y l br ∧ st_ok T x y l br))
theorem st_bk_in2 {c : Int → Int} {n i : Int} (h : i ≤ n) : i ≤ st_bk c n i ∧ st_bk c n i ≤ n := ⟨(st_bk_in h).1, (st_bk_in h).2.1⟩
theorem st_nk_in {c : Int → Int} {n p lo hi no : Int} (hp : p ≤ n) (h : st_nk c n p lo hi no) : (p < st_ne1 c n p ∧ st_ne1 c n p ≤ n) ∧ (lo ≤ st_nu1 c n p 2 ∧ st_nu1 c n p 2 ≤ hi) ∧ st_nu1 c n p 2 ≠ no := by
  have := st_dg_in (c := c) (n - p).toNat p
  refine ⟨⟨h.1.1, ?_⟩, h.2.1, h.2.2⟩
  unfold st_ne1
  omega
theorem st_l0_hi {T : Int → Int} {x y l q : Int} (h : 0 ≤ T 1 ∧ T 1 < 20) (hq : 338 ≤ q) : st_l0 T x y l q = T q := by
  unfold st_l0
  simp (disch := omega) only [ev_u1_ne]
set_option maxHeartbeats 4000000 in
theorem j_road {S μ : ev_M} {c f g T : Int → Int} {n k b i : Int} (htx : st_tx S c n) (hmy : st_my μ c n) (hI : st_I T) (hN : S (ev_n + 1) 0 = T 0) (hR : S (ev_n + 1) 1 + k = T 1) (hB : S (ev_n + 6) 0 + b = T 2) (hk : f 5 = k) (hb : f 6 = b) (hk0 : 0 ≤ k ∧ 0 ≤ S (ev_n + 1) 1) (hb0 : 0 ≤ b ∧ 0 ≤ S (ev_n + 6) 0) (hf1 : f 1 = n) (hg1 : g 11 = n) (hf2 : f 2 = i) (hg2 : g 12 = i) (h0 : 0 ≤ i ∧ i ≤ n) : ∃ ok f2 S2 g2 T2, EM 35 [.inr (.inl 164), .inr (.inl ev_n)] (ev_ua S 164 f) = some (some (.inl ok), ev_ua S2 164 f2) ∧ EM 176 [.inr (.inl 182)] (ev_ua (ev_ua μ 183 T) 182 g) = some (some (.inl ok), ev_ua (ev_ua μ 183 T2) 182 g2) ∧ st_jr c n k b f f2 g g2 S S2 T T2 ok := by
  have hSn := ev_S_n
  have hn0 : ev_n = 0 := rfl
  have i0 := hI.1.1
  have i1 := hI.1.2.1
  have i2 := hI.1.2.2.1
  have hmU : st_my (ev_ua μ 183 T) c n := st_my_o hmy (ev_ua_row (by omega))
  obtain ⟨R0, hR0⟩ : ∃ R0, S (ev_n + 1) 1 = R0 := ⟨_, rfl⟩
  obtain ⟨B0, hB0⟩ : ∃ B0, S (ev_n + 6) 0 = B0 := ⟨_, rfl⟩
  rw [hR0] at hR hk0
  rw [hB0] at hB hb0
  obtain ⟨fA, e41, kA, kkA⟩ := b_41 htx hf1 hf2 h0
  obtain ⟨gA, e173, mA, mmA⟩ := b_173 hmU hg1 hg2 h0
  obtain ⟨p0, hp0⟩ : ∃ p, p = st_bk c n i := ⟨_, rfl⟩
  have hin0 := st_bk_in2 (c := c) h0.2
  have bb0 := st_bk_bk (c := c) h0.2
  rw [← hp0] at kA mA hin0 e173 bb0
  have hh := st_hr_in (p := p0) hmU (by omega)
  have hk1 : fA 5 = k := by rw [kkA.2.2.1, hk]
  have gfr : ∀ {g2 : Int → Int}, st_gk gA g2 → st_gk g g2 := fun h => st_gk_t mmA h
  -- the first check
  by_cases c0 : 20 ≤ T 1
  · refine ⟨0, ev_u1 fA 3 p0, S, gA, T, ?_, ?_, by rw [ev_u1_ne (by omega), kkA.1, hf1], mmA, Or.inl ⟨rfl, by rw [ev_u1_eq rfl, mA], ⟨i, h0, by rw [ev_u1_eq rfl, hp0]⟩, fun _ _ _ _ _ => rfl, fun _ _ => rfl⟩⟩
    · clear htx hmy hI hmU gfr
      rw [mm_35]
      repeat' (first | (simp (disch := first | assumption | exact Nat.le_of_ble_eq_true rfl | omega) only [bk_35_0, eo_1_0, v5_1, ev_ki, ev_kv, eo_1_1, g7_28_0, g6_27, g5_27, eo_10, eo_6, v5_2, eo_56z, bk_35_1, eo_3_2n, eo_3_2i, eo_3_2r, eo_0_2, eo_11, v5_4, bk_35_2, eo_3_3n, eo_3_3i, eo_3_3r, eo_0_3, eo_53, bk_35_3, bk_35_4, eo_3_4n, eo_3_4i, eo_3_4r, bk_35_5, bk_35_6, eo_0_4, eo_52, bk_35_7, bk_35_8, c_43, ev_ua_ne, ev_ua_eq, hN, hR0, hk1, e41, kA, ev_up_ua, Int.add_zero, Int.add_sub_cancel, Int.reduceAdd, Int.reduceMul, Int.reduceSub, Int.reduceNeg, ev_wr_id]) | ((first | with_reducible refine br_40 ?_ ?_ | with_reducible refine br_41 ?_ ?_ | with_reducible refine br_42 ?_ ?_ | with_reducible refine br_43 ?_ ?_ | with_reducible refine br_44 ?_ ?_ | with_reducible refine br_45 ?_ ?_ | with_reducible refine br_46 ?_ ?_ | with_reducible refine br_47 ?_ ?_ | with_reducible refine br_48 ?_ ?_ | with_reducible refine br_49 ?_ ?_ | with_reducible refine br_50 ?_ ?_ | with_reducible refine br_51 ?_ ?_) <;> intro h <;> try simp (disch := first | assumption | exact Nat.le_of_ble_eq_true rfl | omega) only [ev_wr_id, not_true_eq_false, not_false_eq_true, Int.reduceEq, Int.reduceLT, Int.reduceLE, and_self, and_true, true_and, and_false, false_and, reduceIte] at h <;> try (exfalso; omega; done)))
    · have t20 : T 1 = 20 := by omega
      clear htx hmy hI hmU gfr
      rw [mm_176]
      repeat' (first | (simp (disch := first | assumption | exact Nat.le_of_ble_eq_true rfl | omega) only [bk_176_0, eo_1_0, v11_1, ev_ki, ev_kv, eo_3_1n, eo_3_1i, eo_3_1r, g11_28_0, eo_6, eo_11, v11_4, eo_53, bk_176_1, eo_56z, bk_176_2, g11_27, eo_3_2n, eo_3_2i, eo_3_2r, v11_2, eo_0_2, bk_176_3, bk_176_4, eo_3_3n, eo_3_3i, eo_3_3r, bk_176_5, bk_176_6, eo_0_3, bk_176_7, bk_176_8, eo_24i, eo_24r, eo_10, g11_30, a32_183, st_183, ev_ua_eq, e173, t20, Int.add_zero, Int.add_sub_cancel, Int.reduceAdd, Int.reduceMul, Int.reduceSub, Int.reduceNeg, ev_wr_id]) | ((first | with_reducible refine br_40 ?_ ?_ | with_reducible refine br_41 ?_ ?_ | with_reducible refine br_42 ?_ ?_ | with_reducible refine br_43 ?_ ?_ | with_reducible refine br_44 ?_ ?_ | with_reducible refine br_45 ?_ ?_ | with_reducible refine br_46 ?_ ?_ | with_reducible refine br_47 ?_ ?_ | with_reducible refine br_48 ?_ ?_ | with_reducible refine br_49 ?_ ?_ | with_reducible refine br_50 ?_ ?_ | with_reducible refine br_51 ?_ ?_) <;> intro h <;> try simp (disch := first | assumption | exact Nat.le_of_ble_eq_true rfl | omega) only [ev_wr_id, not_true_eq_false, not_false_eq_true, Int.reduceEq, Int.reduceLT, Int.reduceLE, and_self, and_true, true_and, and_false, false_and, reduceIte] at h <;> try (exfalso; omega; done)))
  have t20 : T 1 < 20 := by omega
  have t20n : T 1 ≠ 20 := by omega
  -- the first number
  obtain ⟨A1, A2⟩ := b_40 (lo := 0) (hi := T 0 - 1) (no := -1) htx (kkA.1.trans hf1) kA (by omega) (by omega) (by omega) (by omega)
  obtain ⟨D1, D2⟩ := b_175 (lo := 0) (hi := T 0 - 1) (no := -1) hmU ((mmA 11 (by omega) (by omega)).trans hg1) mA (by omega) (by omega) (by omega) (by omega)
  rw [bb0] at A1 A2 D1 D2
  by_cases c1 : st_nk c n p0 0 (T 0 - 1) (-1)
  rotate_left
  · obtain ⟨fB, eA, k1, k2⟩ := A2 c1
    obtain ⟨gB, eD, m1, m2⟩ := D2 c1
    refine ⟨0, fB, S, gB, T, ?_, ?_, by rw [k2, kkA.1, hf1], gfr m2, Or.inl ⟨rfl, by rw [k1, m1], ⟨i, h0, by rw [k1, hp0]⟩, fun _ _ _ _ _ => rfl, fun _ _ => rfl⟩⟩
    · clear htx hmy hI hmU A1 A2 D1 D2 gfr c1
      rw [mm_35]
      repeat' (first | (simp (disch := first | assumption | exact Nat.le_of_ble_eq_true rfl | omega) only [bk_35_0, eo_1_0, v5_1, ev_ki, ev_kv, eo_1_1, g7_28_0, g6_27, g5_27, eo_10, eo_6, v5_2, eo_56z, bk_35_1, eo_3_2n, eo_3_2i, eo_3_2r, eo_0_2, eo_11, v5_4, bk_35_2, eo_3_3n, eo_3_3i, eo_3_3r, eo_0_3, eo_53, bk_35_3, bk_35_4, eo_3_4n, eo_3_4i, eo_3_4r, bk_35_5, bk_35_6, eo_0_4, eo_52, bk_35_7, bk_35_8, c_43, ev_ua_ne, ev_ua_eq, hN, hR0, hk1, e41, kA, eA, Int.add_zero, Int.add_sub_cancel, Int.reduceAdd, Int.reduceMul, Int.reduceSub, Int.reduceNeg, ev_wr_id]) | ((first | with_reducible refine br_40 ?_ ?_ | with_reducible refine br_41 ?_ ?_ | with_reducible refine br_42 ?_ ?_ | with_reducible refine br_43 ?_ ?_ | with_reducible refine br_44 ?_ ?_ | with_reducible refine br_45 ?_ ?_ | with_reducible refine br_46 ?_ ?_ | with_reducible refine br_47 ?_ ?_ | with_reducible refine br_48 ?_ ?_ | with_reducible refine br_49 ?_ ?_ | with_reducible refine br_50 ?_ ?_ | with_reducible refine br_51 ?_ ?_) <;> intro h <;> try simp (disch := first | assumption | exact Nat.le_of_ble_eq_true rfl | omega) only [ev_wr_id, not_true_eq_false, not_false_eq_true, Int.reduceEq, Int.reduceLT, Int.reduceLE, and_self, and_true, true_and, and_false, false_and, reduceIte] at h <;> try (exfalso; omega; done)))
    · clear htx hmy hI hmU A1 A2 D1 D2 gfr c1
      rw [mm_176]
      repeat' (first | (simp (disch := first | assumption | exact Nat.le_of_ble_eq_true rfl | omega) only [bk_176_0, eo_1_0, v11_1, ev_ki, ev_kv, eo_3_1n, eo_3_1i, eo_3_1r, g11_28_0, eo_6, eo_11, v11_4, eo_53, bk_176_1, eo_56z, bk_176_2, g11_27, eo_3_2n, eo_3_2i, eo_3_2r, v11_2, eo_0_2, bk_176_3, bk_176_4, eo_3_3n, eo_3_3i, eo_3_3r, bk_176_5, bk_176_6, eo_0_3, bk_176_7, bk_176_8, eo_24i, eo_24r, eo_10, g11_30, a32_183, st_183, ev_ua_eq, e173, eD, Int.add_zero, Int.add_sub_cancel, Int.reduceAdd, Int.reduceMul, Int.reduceSub, Int.reduceNeg, ev_wr_id]) | ((first | with_reducible refine br_40 ?_ ?_ | with_reducible refine br_41 ?_ ?_ | with_reducible refine br_42 ?_ ?_ | with_reducible refine br_43 ?_ ?_ | with_reducible refine br_44 ?_ ?_ | with_reducible refine br_45 ?_ ?_ | with_reducible refine br_46 ?_ ?_ | with_reducible refine br_47 ?_ ?_ | with_reducible refine br_48 ?_ ?_ | with_reducible refine br_49 ?_ ?_ | with_reducible refine br_50 ?_ ?_ | with_reducible refine br_51 ?_ ?_) <;> intro h <;> try simp (disch := first | assumption | exact Nat.le_of_ble_eq_true rfl | omega) only [ev_wr_id, not_true_eq_false, not_false_eq_true, Int.reduceEq, Int.reduceLT, Int.reduceLE, and_self, and_true, true_and, and_false, false_and, reduceIte] at h <;> try (exfalso; omega; done)))
  obtain ⟨fB, eA, kB, xB, kkB⟩ := A1 c1
  obtain ⟨gB, eD, mB, yB, mmB⟩ := D1 c1
  clear A1 A2 D1 D2
  obtain ⟨r1, r2, r3⟩ := st_nk_in (by omega) c1
  obtain ⟨e1, he1⟩ : ∃ e, e = st_ne1 c n p0 := ⟨_, rfl⟩
  obtain ⟨x, hx⟩ : ∃ x, x = st_nu1 c n p0 2 := ⟨_, rfl⟩
  rw [← he1] at kB mB r1
  rw [← hx] at xB yB r2 r3
  have fB1 : fB 1 = n := by rw [kkB.1, kkA.1, hf1]
  have gB1 : gB 11 = n := by rw [mmB 11 (by omega) (by omega), mmA 11 (by omega) (by omega), hg1]
  -- the sign between
  obtain ⟨A1, A2⟩ := b_39 (s := 45) htx fB1 kB (by omega) (by omega)
  obtain ⟨D1, D2⟩ := b_174 (s := 45) hmU gB1 mB (by omega) (by omega)
  have hin1 := st_bk_in2 (c := c) (n := n) (i := e1) (by omega)
  obtain ⟨p1, hp1⟩ : ∃ p, p = st_bk c n e1 := ⟨_, rfl⟩
  rw [← hp1] at A1 A2 D1 D2 hin1
  by_cases c2 : p1 < n ∧ c p1 = 45
  rotate_left
  · obtain ⟨fC, eA2, k1, k2⟩ := A2 c2
    obtain ⟨gC, eD2, m1, m2⟩ := D2 c2
    refine ⟨0, fC, S, gC, T, ?_, ?_, by rw [k2, fB1], gfr (st_gk_t mmB m2), Or.inl ⟨rfl, by rw [k1, m1], ⟨e1, by omega, by rw [k1, hp1]⟩, fun _ _ _ _ _ => rfl, fun _ _ => rfl⟩⟩
    · clear htx hmy hI hmU A1 A2 D1 D2 gfr c1 c2
      rw [mm_35]
      repeat' (first | (simp (disch := first | assumption | exact Nat.le_of_ble_eq_true rfl | omega) only [bk_35_0, eo_1_0, v5_1, ev_ki, ev_kv, eo_1_1, g7_28_0, g6_27, g5_27, eo_10, eo_6, v5_2, eo_56z, bk_35_1, eo_3_2n, eo_3_2i, eo_3_2r, eo_0_2, eo_11, v5_4, bk_35_2, eo_3_3n, eo_3_3i, eo_3_3r, eo_0_3, eo_53, bk_35_3, bk_35_4, eo_3_4n, eo_3_4i, eo_3_4r, bk_35_5, bk_35_6, eo_0_4, eo_52, bk_35_7, bk_35_8, c_43, ev_ua_ne, ev_ua_eq, hN, hR0, hk1, e41, kA, eA, xB, eA2, Int.add_zero, Int.add_sub_cancel, Int.reduceAdd, Int.reduceMul, Int.reduceSub, Int.reduceNeg, ev_wr_id]) | ((first | with_reducible refine br_40 ?_ ?_ | with_reducible refine br_41 ?_ ?_ | with_reducible refine br_42 ?_ ?_ | with_reducible refine br_43 ?_ ?_ | with_reducible refine br_44 ?_ ?_ | with_reducible refine br_45 ?_ ?_ | with_reducible refine br_46 ?_ ?_ | with_reducible refine br_47 ?_ ?_ | with_reducible refine br_48 ?_ ?_ | with_reducible refine br_49 ?_ ?_ | with_reducible refine br_50 ?_ ?_ | with_reducible refine br_51 ?_ ?_) <;> intro h <;> try simp (disch := first | assumption | exact Nat.le_of_ble_eq_true rfl | omega) only [ev_wr_id, not_true_eq_false, not_false_eq_true, Int.reduceEq, Int.reduceLT, Int.reduceLE, and_self, and_true, true_and, and_false, false_and, reduceIte] at h <;> try (exfalso; omega; done)))
    · clear htx hmy hI hmU A1 A2 D1 D2 gfr c1 c2
      rw [mm_176]
      repeat' (first | (simp (disch := first | assumption | exact Nat.le_of_ble_eq_true rfl | omega) only [bk_176_0, eo_1_0, v11_1, ev_ki, ev_kv, eo_3_1n, eo_3_1i, eo_3_1r, g11_28_0, eo_6, eo_11, v11_4, eo_53, bk_176_1, eo_56z, bk_176_2, g11_27, eo_3_2n, eo_3_2i, eo_3_2r, v11_2, eo_0_2, bk_176_3, bk_176_4, eo_3_3n, eo_3_3i, eo_3_3r, bk_176_5, bk_176_6, eo_0_3, bk_176_7, bk_176_8, eo_24i, eo_24r, eo_10, g11_30, a32_183, st_183, ev_ua_eq, e173, eD, yB, eD2, Int.add_zero, Int.add_sub_cancel, Int.reduceAdd, Int.reduceMul, Int.reduceSub, Int.reduceNeg, ev_wr_id]) | ((first | with_reducible refine br_40 ?_ ?_ | with_reducible refine br_41 ?_ ?_ | with_reducible refine br_42 ?_ ?_ | with_reducible refine br_43 ?_ ?_ | with_reducible refine br_44 ?_ ?_ | with_reducible refine br_45 ?_ ?_ | with_reducible refine br_46 ?_ ?_ | with_reducible refine br_47 ?_ ?_ | with_reducible refine br_48 ?_ ?_ | with_reducible refine br_49 ?_ ?_ | with_reducible refine br_50 ?_ ?_ | with_reducible refine br_51 ?_ ?_) <;> intro h <;> try simp (disch := first | assumption | exact Nat.le_of_ble_eq_true rfl | omega) only [ev_wr_id, not_true_eq_false, not_false_eq_true, Int.reduceEq, Int.reduceLT, Int.reduceLE, and_self, and_true, true_and, and_false, false_and, reduceIte] at h <;> try (exfalso; omega; done)))
  obtain ⟨fC, eA2, kC, kkC⟩ := A1 c2
  obtain ⟨gC, eD2, mC, mmC⟩ := D1 c2
  clear A1 A2 D1 D2
  have fC1 : fC 1 = n := by rw [kkC.1, fB1]
  have gC1 : gC 11 = n := by rw [mmC 11 (by omega) (by omega), gB1]
  -- the second number
  obtain ⟨A1, A2⟩ := b_40 (lo := 0) (hi := T 0 - 1) (no := x) htx fC1 kC (by omega) (by omega) (by omega) (by omega)
  obtain ⟨D1, D2⟩ := b_175 (lo := 0) (hi := T 0 - 1) (no := x) hmU gC1 mC (by omega) (by omega) (by omega) (by omega)
  have hin2 := st_bk_in2 (c := c) (n := n) (i := p1 + 1) (by omega)
  obtain ⟨p2, hp2⟩ : ∃ p, p = st_bk c n (p1 + 1) := ⟨_, rfl⟩
  rw [← hp2] at A1 A2 D1 D2 hin2
  by_cases c3 : st_nk c n p2 0 (T 0 - 1) x
  rotate_left
  · obtain ⟨fD, eA3, k1, k2⟩ := A2 c3
    obtain ⟨gD, eD3, m1, m2⟩ := D2 c3
    refine ⟨0, fD, S, gD, T, ?_, ?_, by rw [k2, fC1], gfr (st_gk_t mmB (st_gk_t mmC m2)), Or.inl ⟨rfl, by rw [k1, m1], ⟨p1 + 1, by omega, by rw [k1, hp2]⟩, fun _ _ _ _ _ => rfl, fun _ _ => rfl⟩⟩
    · clear htx hmy hI hmU A1 A2 D1 D2 gfr c1 c2 c3
      rw [mm_35]
      repeat' (first | (simp (disch := first | assumption | exact Nat.le_of_ble_eq_true rfl | omega) only [bk_35_0, eo_1_0, v5_1, ev_ki, ev_kv, eo_1_1, g7_28_0, g6_27, g5_27, eo_10, eo_6, v5_2, eo_56z, bk_35_1, eo_3_2n, eo_3_2i, eo_3_2r, eo_0_2, eo_11, v5_4, bk_35_2, eo_3_3n, eo_3_3i, eo_3_3r, eo_0_3, eo_53, bk_35_3, bk_35_4, eo_3_4n, eo_3_4i, eo_3_4r, bk_35_5, bk_35_6, eo_0_4, eo_52, bk_35_7, bk_35_8, c_43, ev_ua_ne, ev_ua_eq, hN, hR0, hk1, e41, kA, eA, xB, eA2, eA3, Int.add_zero, Int.add_sub_cancel, Int.reduceAdd, Int.reduceMul, Int.reduceSub, Int.reduceNeg, ev_wr_id]) | ((first | with_reducible refine br_40 ?_ ?_ | with_reducible refine br_41 ?_ ?_ | with_reducible refine br_42 ?_ ?_ | with_reducible refine br_43 ?_ ?_ | with_reducible refine br_44 ?_ ?_ | with_reducible refine br_45 ?_ ?_ | with_reducible refine br_46 ?_ ?_ | with_reducible refine br_47 ?_ ?_ | with_reducible refine br_48 ?_ ?_ | with_reducible refine br_49 ?_ ?_ | with_reducible refine br_50 ?_ ?_ | with_reducible refine br_51 ?_ ?_) <;> intro h <;> try simp (disch := first | assumption | exact Nat.le_of_ble_eq_true rfl | omega) only [ev_wr_id, not_true_eq_false, not_false_eq_true, Int.reduceEq, Int.reduceLT, Int.reduceLE, and_self, and_true, true_and, and_false, false_and, reduceIte] at h <;> try (exfalso; omega; done)))
    · clear htx hmy hI hmU A1 A2 D1 D2 gfr c1 c2 c3
      rw [mm_176]
      repeat' (first | (simp (disch := first | assumption | exact Nat.le_of_ble_eq_true rfl | omega) only [bk_176_0, eo_1_0, v11_1, ev_ki, ev_kv, eo_3_1n, eo_3_1i, eo_3_1r, g11_28_0, eo_6, eo_11, v11_4, eo_53, bk_176_1, eo_56z, bk_176_2, g11_27, eo_3_2n, eo_3_2i, eo_3_2r, v11_2, eo_0_2, bk_176_3, bk_176_4, eo_3_3n, eo_3_3i, eo_3_3r, bk_176_5, bk_176_6, eo_0_3, bk_176_7, bk_176_8, eo_24i, eo_24r, eo_10, g11_30, a32_183, st_183, ev_ua_eq, e173, eD, yB, eD2, eD3, Int.add_zero, Int.add_sub_cancel, Int.reduceAdd, Int.reduceMul, Int.reduceSub, Int.reduceNeg, ev_wr_id]) | ((first | with_reducible refine br_40 ?_ ?_ | with_reducible refine br_41 ?_ ?_ | with_reducible refine br_42 ?_ ?_ | with_reducible refine br_43 ?_ ?_ | with_reducible refine br_44 ?_ ?_ | with_reducible refine br_45 ?_ ?_ | with_reducible refine br_46 ?_ ?_ | with_reducible refine br_47 ?_ ?_ | with_reducible refine br_48 ?_ ?_ | with_reducible refine br_49 ?_ ?_ | with_reducible refine br_50 ?_ ?_ | with_reducible refine br_51 ?_ ?_) <;> intro h <;> try simp (disch := first | assumption | exact Nat.le_of_ble_eq_true rfl | omega) only [ev_wr_id, not_true_eq_false, not_false_eq_true, Int.reduceEq, Int.reduceLT, Int.reduceLE, and_self, and_true, true_and, and_false, false_and, reduceIte] at h <;> try (exfalso; omega; done)))
  obtain ⟨fD, eA3, kD, xD, kkD⟩ := A1 c3
  obtain ⟨gD, eD3, mD, yD, mmD⟩ := D1 c3
  clear A1 A2 D1 D2
  obtain ⟨s1, s2, s3⟩ := st_nk_in (by omega) c3
  obtain ⟨e2, he2⟩ : ∃ e, e = st_ne1 c n p2 := ⟨_, rfl⟩
  obtain ⟨y, hy⟩ : ∃ y, y = st_nu1 c n p2 2 := ⟨_, rfl⟩
  rw [← he2] at kD mD s1
  rw [← hy] at xD yD s2 s3
  have fD1 : fD 1 = n := by rw [kkD.1, fC1]
  have gD1 : gD 11 = n := by rw [mmD 11 (by omega) (by omega), gC1]
  -- the sign before the length
  obtain ⟨A1, A2⟩ := b_39 (s := 58) htx fD1 kD (by omega) (by omega)
  obtain ⟨D1, D2⟩ := b_174 (s := 58) hmU gD1 mD (by omega) (by omega)
  have hin3 := st_bk_in2 (c := c) (n := n) (i := e2) (by omega)
  obtain ⟨p3, hp3⟩ : ∃ p, p = st_bk c n e2 := ⟨_, rfl⟩
  rw [← hp3] at A1 A2 D1 D2 hin3
  by_cases c4 : p3 < n ∧ c p3 = 58
  rotate_left
  · obtain ⟨fE, eA4, k1, k2⟩ := A2 c4
    obtain ⟨gE, eD4, m1, m2⟩ := D2 c4
    refine ⟨0, fE, S, gE, T, ?_, ?_, by rw [k2, fD1], gfr (st_gk_t mmB (st_gk_t mmC (st_gk_t mmD m2))), Or.inl ⟨rfl, by rw [k1, m1], ⟨e2, by omega, by rw [k1, hp3]⟩, fun _ _ _ _ _ => rfl, fun _ _ => rfl⟩⟩
    · clear htx hmy hI hmU A1 A2 D1 D2 gfr c1 c2 c3 c4
      rw [mm_35]
      repeat' (first | (simp (disch := first | assumption | exact Nat.le_of_ble_eq_true rfl | omega) only [bk_35_0, eo_1_0, v5_1, ev_ki, ev_kv, eo_1_1, g7_28_0, g6_27, g5_27, eo_10, eo_6, v5_2, eo_56z, bk_35_1, eo_3_2n, eo_3_2i, eo_3_2r, eo_0_2, eo_11, v5_4, bk_35_2, eo_3_3n, eo_3_3i, eo_3_3r, eo_0_3, eo_53, bk_35_3, bk_35_4, eo_3_4n, eo_3_4i, eo_3_4r, bk_35_5, bk_35_6, eo_0_4, eo_52, bk_35_7, bk_35_8, c_43, ev_ua_ne, ev_ua_eq, hN, hR0, hk1, e41, kA, eA, xB, eA2, eA3, xD, eA4, Int.add_zero, Int.add_sub_cancel, Int.reduceAdd, Int.reduceMul, Int.reduceSub, Int.reduceNeg, ev_wr_id]) | ((first | with_reducible refine br_40 ?_ ?_ | with_reducible refine br_41 ?_ ?_ | with_reducible refine br_42 ?_ ?_ | with_reducible refine br_43 ?_ ?_ | with_reducible refine br_44 ?_ ?_ | with_reducible refine br_45 ?_ ?_ | with_reducible refine br_46 ?_ ?_ | with_reducible refine br_47 ?_ ?_ | with_reducible refine br_48 ?_ ?_ | with_reducible refine br_49 ?_ ?_ | with_reducible refine br_50 ?_ ?_ | with_reducible refine br_51 ?_ ?_) <;> intro h <;> try simp (disch := first | assumption | exact Nat.le_of_ble_eq_true rfl | omega) only [ev_wr_id, not_true_eq_false, not_false_eq_true, Int.reduceEq, Int.reduceLT, Int.reduceLE, and_self, and_true, true_and, and_false, false_and, reduceIte] at h <;> try (exfalso; omega; done)))
    · clear htx hmy hI hmU A1 A2 D1 D2 gfr c1 c2 c3 c4
      rw [mm_176]
      repeat' (first | (simp (disch := first | assumption | exact Nat.le_of_ble_eq_true rfl | omega) only [bk_176_0, eo_1_0, v11_1, ev_ki, ev_kv, eo_3_1n, eo_3_1i, eo_3_1r, g11_28_0, eo_6, eo_11, v11_4, eo_53, bk_176_1, eo_56z, bk_176_2, g11_27, eo_3_2n, eo_3_2i, eo_3_2r, v11_2, eo_0_2, bk_176_3, bk_176_4, eo_3_3n, eo_3_3i, eo_3_3r, bk_176_5, bk_176_6, eo_0_3, bk_176_7, bk_176_8, eo_24i, eo_24r, eo_10, g11_30, a32_183, st_183, ev_ua_eq, e173, eD, yB, eD2, eD3, yD, eD4, Int.add_zero, Int.add_sub_cancel, Int.reduceAdd, Int.reduceMul, Int.reduceSub, Int.reduceNeg, ev_wr_id]) | ((first | with_reducible refine br_40 ?_ ?_ | with_reducible refine br_41 ?_ ?_ | with_reducible refine br_42 ?_ ?_ | with_reducible refine br_43 ?_ ?_ | with_reducible refine br_44 ?_ ?_ | with_reducible refine br_45 ?_ ?_ | with_reducible refine br_46 ?_ ?_ | with_reducible refine br_47 ?_ ?_ | with_reducible refine br_48 ?_ ?_ | with_reducible refine br_49 ?_ ?_ | with_reducible refine br_50 ?_ ?_ | with_reducible refine br_51 ?_ ?_) <;> intro h <;> try simp (disch := first | assumption | exact Nat.le_of_ble_eq_true rfl | omega) only [ev_wr_id, not_true_eq_false, not_false_eq_true, Int.reduceEq, Int.reduceLT, Int.reduceLE, and_self, and_true, true_and, and_false, false_and, reduceIte] at h <;> try (exfalso; omega; done)))
  obtain ⟨fE, eA4, kE, kkE⟩ := A1 c4
  obtain ⟨gE, eD4, mE, mmE⟩ := D1 c4
  clear A1 A2 D1 D2
  have fE1 : fE 1 = n := by rw [kkE.1, fD1]
  have gE1 : gE 11 = n := by rw [mmE 11 (by omega) (by omega), gD1]
  -- the length
  obtain ⟨A1, A2⟩ := b_40 (lo := 1) (hi := 99) (no := -1) htx fE1 kE (by omega) (by omega) (by omega) (by omega)
  obtain ⟨D1, D2⟩ := b_175 (lo := 1) (hi := 99) (no := -1) hmU gE1 mE (by omega) (by omega) (by omega) (by omega)
  have hin4 := st_bk_in2 (c := c) (n := n) (i := p3 + 1) (by omega)
  obtain ⟨p4, hp4⟩ : ∃ p, p = st_bk c n (p3 + 1) := ⟨_, rfl⟩
  rw [← hp4] at A1 A2 D1 D2 hin4
  by_cases c5 : st_nk c n p4 1 99 (-1)
  rotate_left
  · obtain ⟨fG, eA5, k1, k2⟩ := A2 c5
    obtain ⟨gG, eD5, m1, m2⟩ := D2 c5
    refine ⟨0, fG, S, gG, T, ?_, ?_, by rw [k2, fE1], gfr (st_gk_t mmB (st_gk_t mmC (st_gk_t mmD (st_gk_t mmE m2)))), Or.inl ⟨rfl, by rw [k1, m1], ⟨p3 + 1, by omega, by rw [k1, hp4]⟩, fun _ _ _ _ _ => rfl, fun _ _ => rfl⟩⟩
    · clear htx hmy hI hmU A1 A2 D1 D2 gfr c1 c2 c3 c4 c5
      rw [mm_35]
      repeat' (first | (simp (disch := first | assumption | exact Nat.le_of_ble_eq_true rfl | omega) only [bk_35_0, eo_1_0, v5_1, ev_ki, ev_kv, eo_1_1, g7_28_0, g6_27, g5_27, eo_10, eo_6, v5_2, eo_56z, bk_35_1, eo_3_2n, eo_3_2i, eo_3_2r, eo_0_2, eo_11, v5_4, bk_35_2, eo_3_3n, eo_3_3i, eo_3_3r, eo_0_3, eo_53, bk_35_3, bk_35_4, eo_3_4n, eo_3_4i, eo_3_4r, bk_35_5, bk_35_6, eo_0_4, eo_52, bk_35_7, bk_35_8, c_43, ev_ua_ne, ev_ua_eq, hN, hR0, hk1, e41, kA, eA, xB, eA2, eA3, xD, eA4, eA5, Int.add_zero, Int.add_sub_cancel, Int.reduceAdd, Int.reduceMul, Int.reduceSub, Int.reduceNeg, ev_wr_id]) | ((first | with_reducible refine br_40 ?_ ?_ | with_reducible refine br_41 ?_ ?_ | with_reducible refine br_42 ?_ ?_ | with_reducible refine br_43 ?_ ?_ | with_reducible refine br_44 ?_ ?_ | with_reducible refine br_45 ?_ ?_ | with_reducible refine br_46 ?_ ?_ | with_reducible refine br_47 ?_ ?_ | with_reducible refine br_48 ?_ ?_ | with_reducible refine br_49 ?_ ?_ | with_reducible refine br_50 ?_ ?_ | with_reducible refine br_51 ?_ ?_) <;> intro h <;> try simp (disch := first | assumption | exact Nat.le_of_ble_eq_true rfl | omega) only [ev_wr_id, not_true_eq_false, not_false_eq_true, Int.reduceEq, Int.reduceLT, Int.reduceLE, and_self, and_true, true_and, and_false, false_and, reduceIte] at h <;> try (exfalso; omega; done)))
    · clear htx hmy hI hmU A1 A2 D1 D2 gfr c1 c2 c3 c4 c5
      rw [mm_176]
      repeat' (first | (simp (disch := first | assumption | exact Nat.le_of_ble_eq_true rfl | omega) only [bk_176_0, eo_1_0, v11_1, ev_ki, ev_kv, eo_3_1n, eo_3_1i, eo_3_1r, g11_28_0, eo_6, eo_11, v11_4, eo_53, bk_176_1, eo_56z, bk_176_2, g11_27, eo_3_2n, eo_3_2i, eo_3_2r, v11_2, eo_0_2, bk_176_3, bk_176_4, eo_3_3n, eo_3_3i, eo_3_3r, bk_176_5, bk_176_6, eo_0_3, bk_176_7, bk_176_8, eo_24i, eo_24r, eo_10, g11_30, a32_183, st_183, ev_ua_eq, e173, eD, yB, eD2, eD3, yD, eD4, eD5, Int.add_zero, Int.add_sub_cancel, Int.reduceAdd, Int.reduceMul, Int.reduceSub, Int.reduceNeg, ev_wr_id]) | ((first | with_reducible refine br_40 ?_ ?_ | with_reducible refine br_41 ?_ ?_ | with_reducible refine br_42 ?_ ?_ | with_reducible refine br_43 ?_ ?_ | with_reducible refine br_44 ?_ ?_ | with_reducible refine br_45 ?_ ?_ | with_reducible refine br_46 ?_ ?_ | with_reducible refine br_47 ?_ ?_ | with_reducible refine br_48 ?_ ?_ | with_reducible refine br_49 ?_ ?_ | with_reducible refine br_50 ?_ ?_ | with_reducible refine br_51 ?_ ?_) <;> intro h <;> try simp (disch := first | assumption | exact Nat.le_of_ble_eq_true rfl | omega) only [ev_wr_id, not_true_eq_false, not_false_eq_true, Int.reduceEq, Int.reduceLT, Int.reduceLE, and_self, and_true, true_and, and_false, false_and, reduceIte] at h <;> try (exfalso; omega; done)))
  obtain ⟨fG, eA5, kG, xG, kkG⟩ := A1 c5
  obtain ⟨gG, eD5, mG, yG, mmG⟩ := D1 c5
  clear A1 A2 D1 D2
  obtain ⟨u1, u2, u3⟩ := st_nk_in (by omega) c5
  obtain ⟨e3, he3⟩ : ∃ e, e = st_ne1 c n p4 := ⟨_, rfl⟩
  obtain ⟨l, hl⟩ : ∃ l, l = st_nu1 c n p4 2 := ⟨_, rfl⟩
  rw [← he3] at kG mG u1
  rw [← hl] at xG yG u2 u3
  have fG1 : fG 1 = n := by rw [kkG.1, fE1]
  have gG1 : gG 11 = n := by rw [mmG 11 (by omega) (by omega), gE1]
  have kk : st_fk f fG := st_fk_t kkA (st_fk_t kkB (st_fk_t kkC (st_fk_t kkD (st_fk_t kkE kkG))))
  -- the road is kept
  have fG5 : fG 5 = k := by rw [kk.2.2.1, hk]
  obtain ⟨fH, S2, e36, hfH, hkp⟩ := b_36 (S := S) (f := fG) (x := x) (y := y) (l := l) fG5 (by omega)
  have e122 := e_122 (μ := μ) (T := T) (g := gG) (x := x) (y := y) (l := l) (by omega)
  have fH1 : fH 1 = n := by rw [hfH, ev_u1_ne (by omega), fG1]
  have fH2 : fH 2 = e3 := by rw [hfH, ev_u1_ne (by omega), kG]
  have fH3 : fH 3 = f 3 := by rw [hfH, ev_u1_ne (by omega), kk.2.1]
  have fH5 : fH 5 = k + 1 := by rw [hfH, ev_u1_eq rfl]
  have fH6 : fH 6 = b := by rw [hfH, ev_u1_ne (by omega), kk.2.2.2, hb]
  have htx2 : st_tx S2 c n := st_tx_o htx (hkp.1 165 (by omega) (by omega) (by omega) (by omega))
  have hmU2 : st_my (ev_ua μ 183 (st_l0 T x y l)) c n := st_my_o hmy (ev_ua_row (by omega))
  obtain ⟨Y1, Y2, Y3⟩ := b_37 (b := b) (B := B0) htx2 fH1 fH2 (by omega) fH5 (by omega) (by rw [hkp.1 _ (by omega) (by omega) (by omega) (by omega)]; exact hB0) fH6 (by omega)
  obtain ⟨gH, e173b, mH, mmH⟩ := b_173 hmU2 gG1 mG (by omega)
  have hin5 := st_bk_in2 (c := c) (n := n) (i := e3) (by omega)
  obtain ⟨p5, hp5⟩ : ∃ p, p = st_bk c n e3 := ⟨_, rfl⟩
  rw [← hp5] at Y1 Y2 Y3 hin5 e173b mH
  have hh5 := st_hr_in (p := p5) hmU2 (by omega)
  obtain ⟨w, hw⟩ : ∃ w, w = st_hr c n p5 := ⟨_, rfl⟩
  rw [← hw] at e173b hh5
  have gk : st_gk g gH := gfr (st_gk_t mmB (st_gk_t mmC (st_gk_t mmD (st_gk_t mmE (st_gk_t mmG mmH)))))
  have l02 : st_l0 T x y l 2 = T 2 := by unfold st_l0; simp (disch := omega) only [ev_u1_ne]
  have l01 : st_l0 T x y l 1 = T 1 + 1 := by unfold st_l0; exact ev_u1_eq rfl
  have hok : ∀ br, (br = 0 ∨ br = 1) → (br = 1 → T 2 < 6) → st_ok T x y l br := fun br h1 h2 => ⟨by omega, by omega, fun h => s3 h.symm, u2, h1, h2, t20⟩
  by_cases c6 : p5 < n ∧ c p5 = 98
  · have w98 : w = 98 := by
      rw [hw]
      unfold st_hr
      rw [if_pos c6.1]
      exact c6.2
    by_cases c7 : 6 ≤ T 2
    · obtain ⟨fJ, e37, k1, k2⟩ := Y2 c6 (by omega)
      refine ⟨0, fJ, S2, gH, st_l0 T x y l, ?_, ?_, by rw [k2, fH1], gk, Or.inl ⟨rfl, by rw [k1, mH], ⟨e3, by omega, by rw [k1, hp5]⟩, hkp.1, fun q hq => st_l0_hi (by omega) hq⟩⟩
      · clear htx hmy hI hmU Y1 Y2 Y3 gfr c1 c2 c3 c4 c5 c6 hmU2 htx2 hok hkp
        rw [mm_35]
        repeat' (first | (simp (disch := first | assumption | exact Nat.le_of_ble_eq_true rfl | omega) only [bk_35_0, eo_1_0, v5_1, ev_ki, ev_kv, eo_1_1, g7_28_0, g6_27, g5_27, eo_10, eo_6, v5_2, eo_56z, bk_35_1, eo_3_2n, eo_3_2i, eo_3_2r, eo_0_2, eo_11, v5_4, bk_35_2, eo_3_3n, eo_3_3i, eo_3_3r, eo_0_3, eo_53, bk_35_3, bk_35_4, eo_3_4n, eo_3_4i, eo_3_4r, bk_35_5, bk_35_6, eo_0_4, eo_52, bk_35_7, bk_35_8, c_43, ev_ua_ne, ev_ua_eq, hN, hR0, hk1, e41, kA, eA, xB, eA2, eA3, xD, eA4, eA5, xG, e36, e37, Int.add_zero, Int.add_sub_cancel, Int.reduceAdd, Int.reduceMul, Int.reduceSub, Int.reduceNeg, ev_wr_id]) | ((first | with_reducible refine br_40 ?_ ?_ | with_reducible refine br_41 ?_ ?_ | with_reducible refine br_42 ?_ ?_ | with_reducible refine br_43 ?_ ?_ | with_reducible refine br_44 ?_ ?_ | with_reducible refine br_45 ?_ ?_ | with_reducible refine br_46 ?_ ?_ | with_reducible refine br_47 ?_ ?_ | with_reducible refine br_48 ?_ ?_ | with_reducible refine br_49 ?_ ?_ | with_reducible refine br_50 ?_ ?_ | with_reducible refine br_51 ?_ ?_) <;> intro h <;> try simp (disch := first | assumption | exact Nat.le_of_ble_eq_true rfl | omega) only [ev_wr_id, not_true_eq_false, not_false_eq_true, Int.reduceEq, Int.reduceLT, Int.reduceLE, and_self, and_true, true_and, and_false, false_and, reduceIte] at h <;> try (exfalso; omega; done)))
      · have t6 : T 2 = 6 := by omega
        clear htx hmy hI hmU Y1 Y2 Y3 gfr c1 c2 c3 c4 c5 c6 hmU2 htx2 hok hkp
        rw [mm_176]
        repeat' (first | (simp (disch := first | assumption | exact Nat.le_of_ble_eq_true rfl | omega) only [bk_176_0, eo_1_0, v11_1, ev_ki, ev_kv, eo_3_1n, eo_3_1i, eo_3_1r, g11_28_0, eo_6, eo_11, v11_4, eo_53, bk_176_1, eo_56z, bk_176_2, g11_27, eo_3_2n, eo_3_2i, eo_3_2r, v11_2, eo_0_2, bk_176_3, bk_176_4, eo_3_3n, eo_3_3i, eo_3_3r, bk_176_5, bk_176_6, eo_0_3, bk_176_7, bk_176_8, eo_24i, eo_24r, eo_10, g11_30, a32_183, st_183, ev_ua_eq, e173, eD, yB, eD2, eD3, yD, eD4, eD5, yG, e122, e173b, w98, l02, t6, Int.add_zero, Int.add_sub_cancel, Int.reduceAdd, Int.reduceMul, Int.reduceSub, Int.reduceNeg, ev_wr_id]) | ((first | with_reducible refine br_40 ?_ ?_ | with_reducible refine br_41 ?_ ?_ | with_reducible refine br_42 ?_ ?_ | with_reducible refine br_43 ?_ ?_ | with_reducible refine br_44 ?_ ?_ | with_reducible refine br_45 ?_ ?_ | with_reducible refine br_46 ?_ ?_ | with_reducible refine br_47 ?_ ?_ | with_reducible refine br_48 ?_ ?_ | with_reducible refine br_49 ?_ ?_ | with_reducible refine br_50 ?_ ?_ | with_reducible refine br_51 ?_ ?_) <;> intro h <;> try simp (disch := first | assumption | exact Nat.le_of_ble_eq_true rfl | omega) only [ev_wr_id, not_true_eq_false, not_false_eq_true, Int.reduceEq, Int.reduceLT, Int.reduceLE, and_self, and_true, true_and, and_false, false_and, reduceIte] at h <;> try (exfalso; omega; done)))
    · obtain ⟨fJ, e37, k1, k2, k3, k4, k5⟩ := Y3 c6 (by omega)
      rw [show k + 1 - 1 = k by omega] at e37
      have e123 := e_123 (μ := μ) (T := st_l0 T x y l) (g := ev_u1 gH 12 (p5 + 1)) (r := T 1) (by omega) (by omega)
      refine ⟨1, fJ, ev_up S2 169 k 1, ev_u1 gH 12 (p5 + 1), st_b0 (st_l0 T x y l) (T 1), ?_, ?_, by rw [k2, fH1], st_gk_t gk (fun q h1 h2 => ev_u1_ne h1), Or.inr ⟨rfl, by rw [k1, ev_u1_eq rfl], by omega, by rw [k3, fH3], x, y, l, 1, by rw [k4, fH5], k5, ⟨fun i h1 h2 h3 h4 => by rw [← hkp.1 i h1 h2 h3 h4]; funext z; exact ev_up_ne (by omega), fun j => by rw [ev_up_ne (by omega)]; exact hkp.2.1 j, fun j => by rw [ev_up_ne (by omega)]; exact hkp.2.2.1 j, fun j => by rw [ev_up_ne (by omega)]; exact hkp.2.2.2.1 j, fun j => ?_⟩, by unfold st_l1; rw [if_pos rfl], hok 1 (Or.inr rfl) (fun _ => by omega)⟩⟩
      · clear htx hmy hI hmU Y1 Y2 Y3 gfr c1 c2 c3 c4 c5 c6 hmU2 htx2 hok hkp
        rw [mm_35]
        repeat' (first | (simp (disch := first | assumption | exact Nat.le_of_ble_eq_true rfl | omega) only [bk_35_0, eo_1_0, v5_1, ev_ki, ev_kv, eo_1_1, g7_28_0, g6_27, g5_27, eo_10, eo_6, v5_2, eo_56z, bk_35_1, eo_3_2n, eo_3_2i, eo_3_2r, eo_0_2, eo_11, v5_4, bk_35_2, eo_3_3n, eo_3_3i, eo_3_3r, eo_0_3, eo_53, bk_35_3, bk_35_4, eo_3_4n, eo_3_4i, eo_3_4r, bk_35_5, bk_35_6, eo_0_4, eo_52, bk_35_7, bk_35_8, c_43, ev_ua_ne, ev_ua_eq, hN, hR0, hk1, e41, kA, eA, xB, eA2, eA3, xD, eA4, eA5, xG, e36, e37, Int.add_zero, Int.add_sub_cancel, Int.reduceAdd, Int.reduceMul, Int.reduceSub, Int.reduceNeg, ev_wr_id]) | ((first | with_reducible refine br_40 ?_ ?_ | with_reducible refine br_41 ?_ ?_ | with_reducible refine br_42 ?_ ?_ | with_reducible refine br_43 ?_ ?_ | with_reducible refine br_44 ?_ ?_ | with_reducible refine br_45 ?_ ?_ | with_reducible refine br_46 ?_ ?_ | with_reducible refine br_47 ?_ ?_ | with_reducible refine br_48 ?_ ?_ | with_reducible refine br_49 ?_ ?_ | with_reducible refine br_50 ?_ ?_ | with_reducible refine br_51 ?_ ?_) <;> intro h <;> try simp (disch := first | assumption | exact Nat.le_of_ble_eq_true rfl | omega) only [ev_wr_id, not_true_eq_false, not_false_eq_true, Int.reduceEq, Int.reduceLT, Int.reduceLE, and_self, and_true, true_and, and_false, false_and, reduceIte] at h <;> try (exfalso; omega; done)))
      · have t6 : T 2 ≠ 6 := by omega
        clear htx hmy hI hmU Y1 Y2 Y3 gfr c1 c2 c3 c4 c5 c6 hmU2 htx2 hok hkp
        rw [mm_176]
        repeat' (first | (simp (disch := first | assumption | exact Nat.le_of_ble_eq_true rfl | omega) only [bk_176_0, eo_1_0, v11_1, ev_ki, ev_kv, eo_3_1n, eo_3_1i, eo_3_1r, g11_28_0, eo_6, eo_11, v11_4, eo_53, bk_176_1, eo_56z, bk_176_2, g11_27, eo_3_2n, eo_3_2i, eo_3_2r, v11_2, eo_0_2, bk_176_3, bk_176_4, eo_3_3n, eo_3_3i, eo_3_3r, bk_176_5, bk_176_6, eo_0_3, bk_176_7, bk_176_8, eo_24i, eo_24r, eo_10, g11_30, a32_183, st_183, ev_ua_eq, e173, eD, yB, eD2, eD3, yD, eD4, eD5, yG, e122, e173b, w98, l02, mH, ev_up_ua, l01, e123, Int.add_zero, Int.add_sub_cancel, Int.reduceAdd, Int.reduceMul, Int.reduceSub, Int.reduceNeg, ev_wr_id]) | ((first | with_reducible refine br_40 ?_ ?_ | with_reducible refine br_41 ?_ ?_ | with_reducible refine br_42 ?_ ?_ | with_reducible refine br_43 ?_ ?_ | with_reducible refine br_44 ?_ ?_ | with_reducible refine br_45 ?_ ?_ | with_reducible refine br_46 ?_ ?_ | with_reducible refine br_47 ?_ ?_ | with_reducible refine br_48 ?_ ?_ | with_reducible refine br_49 ?_ ?_ | with_reducible refine br_50 ?_ ?_ | with_reducible refine br_51 ?_ ?_) <;> intro h <;> try simp (disch := first | assumption | exact Nat.le_of_ble_eq_true rfl | omega) only [ev_wr_id, not_true_eq_false, not_false_eq_true, Int.reduceEq, Int.reduceLT, Int.reduceLE, and_self, and_true, true_and, and_false, false_and, reduceIte] at h <;> try (exfalso; omega; done)))
      · by_cases q : j = k
        · rw [if_pos q, ev_up_eq ⟨rfl, q⟩]
        · rw [if_neg q, ev_up_ne (by omega), hkp.2.2.2.2 j, if_neg q]
  · have w98 : w ≠ 98 := by
      rw [hw]
      unfold st_hr
      by_cases q : p5 < n
      · rw [if_pos q]
        exact fun h => c6 ⟨q, h⟩
      · rw [if_neg q]
        omega
    obtain ⟨fJ, e37, k1, k2⟩ := Y1 c6
    refine ⟨1, fJ, S2, gH, st_l0 T x y l, ?_, ?_, by rw [k2.1, fH1], gk, Or.inr ⟨rfl, by rw [k1, mH], by omega, by rw [k2.2.1, fH3], x, y, l, 0, by rw [k2.2.2.1, fH5], by rw [k2.2.2.2, fH6]; omega, hkp, by unfold st_l1; rw [if_neg (by omega)], hok 0 (Or.inl rfl) (fun h => by omega)⟩⟩
    · clear htx hmy hI hmU Y1 Y2 Y3 gfr c1 c2 c3 c4 c5 c6 hmU2 htx2 hok hkp
      rw [mm_35]
      repeat' (first | (simp (disch := first | assumption | exact Nat.le_of_ble_eq_true rfl | omega) only [bk_35_0, eo_1_0, v5_1, ev_ki, ev_kv, eo_1_1, g7_28_0, g6_27, g5_27, eo_10, eo_6, v5_2, eo_56z, bk_35_1, eo_3_2n, eo_3_2i, eo_3_2r, eo_0_2, eo_11, v5_4, bk_35_2, eo_3_3n, eo_3_3i, eo_3_3r, eo_0_3, eo_53, bk_35_3, bk_35_4, eo_3_4n, eo_3_4i, eo_3_4r, bk_35_5, bk_35_6, eo_0_4, eo_52, bk_35_7, bk_35_8, c_43, ev_ua_ne, ev_ua_eq, hN, hR0, hk1, e41, kA, eA, xB, eA2, eA3, xD, eA4, eA5, xG, e36, e37, Int.add_zero, Int.add_sub_cancel, Int.reduceAdd, Int.reduceMul, Int.reduceSub, Int.reduceNeg, ev_wr_id]) | ((first | with_reducible refine br_40 ?_ ?_ | with_reducible refine br_41 ?_ ?_ | with_reducible refine br_42 ?_ ?_ | with_reducible refine br_43 ?_ ?_ | with_reducible refine br_44 ?_ ?_ | with_reducible refine br_45 ?_ ?_ | with_reducible refine br_46 ?_ ?_ | with_reducible refine br_47 ?_ ?_ | with_reducible refine br_48 ?_ ?_ | with_reducible refine br_49 ?_ ?_ | with_reducible refine br_50 ?_ ?_ | with_reducible refine br_51 ?_ ?_) <;> intro h <;> try simp (disch := first | assumption | exact Nat.le_of_ble_eq_true rfl | omega) only [ev_wr_id, not_true_eq_false, not_false_eq_true, Int.reduceEq, Int.reduceLT, Int.reduceLE, and_self, and_true, true_and, and_false, false_and, reduceIte] at h <;> try (exfalso; omega; done)))
    · clear htx hmy hI hmU Y1 Y2 Y3 gfr c1 c2 c3 c4 c5 c6 hmU2 htx2 hok hkp
      rw [mm_176]
      repeat' (first | (simp (disch := first | assumption | exact Nat.le_of_ble_eq_true rfl | omega) only [bk_176_0, eo_1_0, v11_1, ev_ki, ev_kv, eo_3_1n, eo_3_1i, eo_3_1r, g11_28_0, eo_6, eo_11, v11_4, eo_53, bk_176_1, eo_56z, bk_176_2, g11_27, eo_3_2n, eo_3_2i, eo_3_2r, v11_2, eo_0_2, bk_176_3, bk_176_4, eo_3_3n, eo_3_3i, eo_3_3r, bk_176_5, bk_176_6, eo_0_3, bk_176_7, bk_176_8, eo_24i, eo_24r, eo_10, g11_30, a32_183, st_183, ev_ua_eq, e173, eD, yB, eD2, eD3, yD, eD4, eD5, yG, e122, e173b, Int.add_zero, Int.add_sub_cancel, Int.reduceAdd, Int.reduceMul, Int.reduceSub, Int.reduceNeg, ev_wr_id]) | ((first | with_reducible refine br_40 ?_ ?_ | with_reducible refine br_41 ?_ ?_ | with_reducible refine br_42 ?_ ?_ | with_reducible refine br_43 ?_ ?_ | with_reducible refine br_44 ?_ ?_ | with_reducible refine br_45 ?_ ?_ | with_reducible refine br_46 ?_ ?_ | with_reducible refine br_47 ?_ ?_ | with_reducible refine br_48 ?_ ?_ | with_reducible refine br_49 ?_ ?_ | with_reducible refine br_50 ?_ ?_ | with_reducible refine br_51 ?_ ?_) <;> intro h <;> try simp (disch := first | assumption | exact Nat.le_of_ble_eq_true rfl | omega) only [ev_wr_id, not_true_eq_false, not_false_eq_true, Int.reduceEq, Int.reduceLT, Int.reduceLE, and_self, and_true, true_and, and_false, false_and, reduceIte] at h <;> try (exfalso; omega; done)))
