theorem ev_or_0 {x : Int} (h : ∃ w : Int32, x = w.toInt) : ev_or x 0 = x := by
  obtain ⟨w, rfl⟩ := h
  unfold ev_or
  rw [Int32.ofInt_toInt, show Int32.ofInt 0 = 0 from rfl, Int32.or_zero]
theorem ev_u1_self {f : Int → Int} {k v : Int} (h : f k = v) : ev_u1 f k v = f := by
  funext x
  unfold ev_u1
  split
  · next c => rw [c, h]
  · rfl
def st_lo (T : Int → Int) (b c : Int) : Int → Int := ev_u1 T (119 + 30 * b + 5 * c + 1) (if 0 < T (119 + 30 * b + 5 * c + 1) then T (119 + 30 * b + 5 * c + 1) - 1 else 0)
theorem st_lo_I {T : Int → Int} {b c : Int} (hI : st_I T) (hb : 0 ≤ b ∧ b < T 2) (hc : 0 ≤ c ∧ c < T (89 + 5 * b + 1)) : st_I (st_lo T b c) := by
  have hpc := hI.2.2.2.2.1 b c hb.1 hb.2 hc.1 hc.2
  refine pi_part hI hb hc (Or.inl ⟨rfl, ?_⟩)
  split <;> omega
def st_wkf (T : Int → Int) (b : Int) : Nat → Int → Int → Int
  | 0, _, set => set
  | k + 1, c, set => st_wkf T b k (c + 1) (if st_rt (st_lo T b c) b < st_rt T b then ev_or set (ev_shl 1 c) else set)
theorem l_23 {b : Int} {T : Int → Int} (hI : st_I T) (hb : 0 ≤ b ∧ b < T 2) : ∀ (k : Nat) (c set : Int) (σ : ev_M), 0 ≤ c → c + k = T (89 + 5 * b + 1) → st_E (st_T σ ev_n) T → (∀ o, 0 ≤ o → o < T (89 + 5 * b + 1) → σ 171 o = T (119 + 30 * b + 5 * o + 1)) → ∃ σ1, EB 23 1 [some (.inr (.inl 170)), some (.inr (.inl (ev_n + 6))), some (.inl b), some (.inl (st_rt T b)), some (.inl set), some (.inl c)] [] σ = some (some (.inl (st_wkf T b k c set)), σ1) ∧ ∀ i, i ≠ 171 → i ≠ 172 → σ1 i = σ i := by
  have i2 := hI.1.2.2.1
  have hbb := hI.2.2.1 b hb.1 hb.2
  have hp := hI.2.2.2.2.1 b
  have hrt := st_rt_in hI hb
  have hSn := ev_S_n
  have hn0 : ev_n = 0 := rfl
  intro k
  induction k with
  | zero =>
    intro c set σ h0 h1 hE hf
    have e11 : σ (ev_n + 11) b = T (89 + 5 * b + 1) := (tr_11 (by omega)).trans (hE _ (by omega) (by omega))
    refine ⟨σ, ?_, fun _ _ _ => rfl⟩
    rw [bk_23_1]
    repeat' (first | (simp (disch := first | assumption | exact Nat.le_of_ble_eq_true rfl | omega) only [bk_23_0, eo_1_0, eo_1_1, eo_0_2, v2_3, ev_ki, ev_kv, eo_3_3n, eo_3_3i, eo_3_3r, eo_6, eo_3_4n, eo_3_4i, eo_3_4r, eo_3_5n, eo_3_5i, eo_3_5r, eo_53, eo_0_5, g1_28_5, g2_28_0, eo_25, eo_11, eo_0_3, eo_0_4, eo_18, eo_16, bk_23_2, eo_10, bk_23_3, eo_23_5n, eo_23_5i, eo_23_5r, eo_52, bk_23_4, eo_56i, a32_s11, a33_s11, a32_171, a33_171, e11, Int.add_zero, Int.add_sub_cancel, Int.reduceAdd, Int.reduceMul, Int.reduceSub, Int.reduceNeg, ev_wr_id]) | ((first | with_reducible refine br_40 ?_ ?_ | with_reducible refine br_41 ?_ ?_ | with_reducible refine br_42 ?_ ?_ | with_reducible refine br_43 ?_ ?_ | with_reducible refine br_44 ?_ ?_ | with_reducible refine br_45 ?_ ?_ | with_reducible refine br_46 ?_ ?_ | with_reducible refine br_47 ?_ ?_ | with_reducible refine br_48 ?_ ?_ | with_reducible refine br_49 ?_ ?_ | with_reducible refine br_50 ?_ ?_ | with_reducible refine br_51 ?_ ?_) <;> intro h <;> try simp (disch := first | assumption | exact Nat.le_of_ble_eq_true rfl | omega) only [ev_wr_id, not_true_eq_false, not_false_eq_true, Int.reduceEq, Int.reduceLT, Int.reduceLE, and_self, and_true, true_and, and_false, false_and, reduceIte] at h <;> try (exfalso; omega; done)))
    rfl
  | succ k ih =>
    intro c set σ h0 h1 hE hf
    have e11 : σ (ev_n + 11) b = T (89 + 5 * b + 1) := (tr_11 (by omega)).trans (hE _ (by omega) (by omega))
    have hfc := hf c h0 (by omega)
    have hpc := hp c hb.1 hb.2 h0 (by omega)
    by_cases c1 : 0 < T (119 + 30 * b + 5 * c + 1)
    · obtain ⟨r, hr⟩ : ∃ r, r = T (119 + 30 * b + 5 * c + 1) := ⟨_, rfl⟩
      rw [← hr] at hfc c1 hpc
      obtain ⟨σ2, d2⟩ : ∃ z, z = ev_up σ 171 c (r - 1) := ⟨_, rfl⟩
      have m2 : ∀ i, i ≠ 171 → σ2 i = σ i := fun i h => by rw [d2]; funext z; exact ev_up_ne (by omega)
      have hlo : ∀ o, 0 ≤ o → o < T (89 + 5 * b + 1) → σ2 171 o = st_lo T b c (119 + 30 * b + 5 * o + 1) := fun o q0 q1 => by
        unfold st_lo
        rw [d2, ← hr, if_pos c1]
        by_cases x : o = c
        · rw [x, ev_up_eq ⟨rfl, rfl⟩, ev_u1_eq rfl]
        · rw [ev_up_ne (by omega), ev_u1_ne (by omega)]
          exact hf o q0 q1
      have hIl := st_lo_I hI hb (c := c) (by omega)
      have hl2 : st_lo T b c 2 = T 2 := ev_u1_ne (by omega)
      have hl1 : st_lo T b c (89 + 5 * b + 1) = T (89 + 5 * b + 1) := ev_u1_ne (by omega)
      have hl4 : ∀ o, 0 ≤ o → o < T (89 + 5 * b + 1) → st_lo T b c (119 + 30 * b + 5 * o + 4) = T (119 + 30 * b + 5 * o + 4) := fun o q0 q1 => ev_u1_ne (by omega)
      have hpl := hIl.2.2.2.2.1 b
      have e112 : σ2 (ev_n + 11) b = T (89 + 5 * b + 1) := by rw [m2 _ (by omega), e11]
      obtain ⟨g, e21, -⟩ := c_21 (s := ev_n) (b := b) (σ := σ2) (re := fun c => T (119 + 30 * b + 5 * c + 4)) hSn (by omega) (by omega) (fun o q0 q1 => by
        rw [hlo o q0 (by omega)]
        exact (hpl o hb.1 (by omega) q0 (by omega)).2.1) (fun o q0 q1 => by
        rw [m2 _ (by omega), tr_16 (σ := σ) (s := ev_n) (b := b) (c := o) (by omega) (by omega), hE _ (by omega) (by omega)]
        exact ⟨rfl, (hp o hb.1 hb.2 q0 (by omega)).2.2.2.2⟩)
      have hval : ev_tr (σ2 171) (fun c => T (119 + 30 * b + 5 * c + 4)) (σ2 (ev_n + 11) b) = st_rt (st_lo T b c) b := by
        unfold st_rt
        rw [e112, hl1]
        exact ev_tr_congr hbb.2.1.1 (fun o q0 q1 => ⟨hlo o q0 q1, (hl4 o q0 q1).symm⟩)
      rw [hval] at e21
      have hrl := st_rt_in hIl (b := b) (by omega)
      obtain ⟨σ3, d3⟩ : ∃ z, z = ev_up (ev_ua σ2 172 g) 171 c r := ⟨_, rfl⟩
      have m3 : ∀ i, i ≠ 171 → i ≠ 172 → σ3 i = σ i := fun i h h' => by
        rw [d3]
        funext z
        rw [ev_up_ne (by omega), ev_ua_ne h', m2 i h]
      have h171 : ev_ua σ2 172 g 171 c = r - 1 := by rw [ev_ua_ne (by omega), d2, ev_up_eq ⟨rfl, rfl⟩]
      have hr1 : r - 1 + 1 = r := by omega
      have hE3 : st_E (st_T σ3 ev_n) T := st_E_t (st_T_congr (fun o q0 q1 => m3 _ (by omega) (by omega))) hE
      have hf3 : ∀ o, 0 ≤ o → o < T (89 + 5 * b + 1) → σ3 171 o = T (119 + 30 * b + 5 * o + 1) := fun o q0 q1 => by
        rw [d3]
        by_cases x : o = c
        · rw [x, ev_up_eq ⟨rfl, rfl⟩, hr]
        · rw [ev_up_ne (by omega), ev_ua_ne (by omega), d2, ev_up_ne (by omega)]
          exact hf o q0 q1
      obtain ⟨σ1, e, hF⟩ := ih (c + 1) (if st_rt (st_lo T b c) b < st_rt T b then ev_or set (ev_shl 1 c) else set) σ3 (by omega) (by omega) hE3 hf3
      refine ⟨σ1, ?_, fun i h h' => by rw [hF i h h', m3 i h h']⟩
      rw [show st_wkf T b (k + 1) c set = st_wkf T b k (c + 1) (if st_rt (st_lo T b c) b < st_rt T b then ev_or set (ev_shl 1 c) else set) from rfl]
      rw [← e, bk_23_1]
      by_cases c2 : st_rt (st_lo T b c) b < st_rt T b
      · rw [if_pos c2, d3]
        rw [d2] at e21 h171
        rw [d2]
        repeat' (first | (simp (disch := first | assumption | exact Nat.le_of_ble_eq_true rfl | omega) only [bk_23_0, eo_1_0, eo_1_1, eo_0_2, v2_3, ev_ki, ev_kv, eo_3_3n, eo_3_3i, eo_3_3r, eo_6, eo_3_4n, eo_3_4i, eo_3_4r, eo_3_5n, eo_3_5i, eo_3_5r, eo_53, eo_0_5, g1_28_5, g2_28_0, eo_25, eo_11, eo_0_3, eo_0_4, eo_18, eo_16, bk_23_2, eo_10, bk_23_3, eo_23_5n, eo_23_5i, eo_23_5r, eo_52, bk_23_4, eo_56i, a32_s11, a33_s11, a32_171, a33_171, e11, hfc, e21, h171, hr1, Int.add_zero, Int.add_sub_cancel, Int.reduceAdd, Int.reduceMul, Int.reduceSub, Int.reduceNeg, ev_wr_id]) | ((first | with_reducible refine br_40 ?_ ?_ | with_reducible refine br_41 ?_ ?_ | with_reducible refine br_42 ?_ ?_ | with_reducible refine br_43 ?_ ?_ | with_reducible refine br_44 ?_ ?_ | with_reducible refine br_45 ?_ ?_ | with_reducible refine br_46 ?_ ?_ | with_reducible refine br_47 ?_ ?_ | with_reducible refine br_48 ?_ ?_ | with_reducible refine br_49 ?_ ?_ | with_reducible refine br_50 ?_ ?_ | with_reducible refine br_51 ?_ ?_) <;> intro h <;> try simp (disch := first | assumption | exact Nat.le_of_ble_eq_true rfl | omega) only [ev_wr_id, not_true_eq_false, not_false_eq_true, Int.reduceEq, Int.reduceLT, Int.reduceLE, and_self, and_true, true_and, and_false, false_and, reduceIte] at h <;> try (exfalso; omega; done)))
      · rw [if_neg c2, d3]
        rw [d2] at e21 h171
        rw [d2]
        repeat' (first | (simp (disch := first | assumption | exact Nat.le_of_ble_eq_true rfl | omega) only [bk_23_0, eo_1_0, eo_1_1, eo_0_2, v2_3, ev_ki, ev_kv, eo_3_3n, eo_3_3i, eo_3_3r, eo_6, eo_3_4n, eo_3_4i, eo_3_4r, eo_3_5n, eo_3_5i, eo_3_5r, eo_53, eo_0_5, g1_28_5, g2_28_0, eo_25, eo_11, eo_0_3, eo_0_4, eo_18, eo_16, bk_23_2, eo_10, bk_23_3, eo_23_5n, eo_23_5i, eo_23_5r, eo_52, bk_23_4, eo_56i, a32_s11, a33_s11, a32_171, a33_171, e11, hfc, e21, h171, hr1, Int.add_zero, Int.add_sub_cancel, Int.reduceAdd, Int.reduceMul, Int.reduceSub, Int.reduceNeg, ev_wr_id]) | ((first | with_reducible refine br_40 ?_ ?_ | with_reducible refine br_41 ?_ ?_ | with_reducible refine br_42 ?_ ?_ | with_reducible refine br_43 ?_ ?_ | with_reducible refine br_44 ?_ ?_ | with_reducible refine br_45 ?_ ?_ | with_reducible refine br_46 ?_ ?_ | with_reducible refine br_47 ?_ ?_ | with_reducible refine br_48 ?_ ?_ | with_reducible refine br_49 ?_ ?_ | with_reducible refine br_50 ?_ ?_ | with_reducible refine br_51 ?_ ?_) <;> intro h <;> try simp (disch := first | assumption | exact Nat.le_of_ble_eq_true rfl | omega) only [ev_wr_id, not_true_eq_false, not_false_eq_true, Int.reduceEq, Int.reduceLT, Int.reduceLE, and_self, and_true, true_and, and_false, false_and, reduceIte] at h <;> try (exfalso; omega; done)))
    · have hlo : st_lo T b c = T := by
        unfold st_lo
        rw [if_neg c1]
        exact ev_u1_self (by omega)
      obtain ⟨σ1, e, hF⟩ := ih (c + 1) set σ (by omega) (by omega) hE hf
      refine ⟨σ1, ?_, hF⟩
      rw [show st_wkf T b (k + 1) c set = st_wkf T b k (c + 1) (if st_rt (st_lo T b c) b < st_rt T b then ev_or set (ev_shl 1 c) else set) from rfl]
      rw [hlo, if_neg (by omega), ← e, bk_23_1]
      repeat' (first | (simp (disch := first | assumption | exact Nat.le_of_ble_eq_true rfl | omega) only [bk_23_0, eo_1_0, eo_1_1, eo_0_2, v2_3, ev_ki, ev_kv, eo_3_3n, eo_3_3i, eo_3_3r, eo_6, eo_3_4n, eo_3_4i, eo_3_4r, eo_3_5n, eo_3_5i, eo_3_5r, eo_53, eo_0_5, g1_28_5, g2_28_0, eo_25, eo_11, eo_0_3, eo_0_4, eo_18, eo_16, bk_23_2, eo_10, bk_23_3, eo_23_5n, eo_23_5i, eo_23_5r, eo_52, bk_23_4, eo_56i, a32_s11, a33_s11, a32_171, a33_171, e11, hfc, Int.add_zero, Int.add_sub_cancel, Int.reduceAdd, Int.reduceMul, Int.reduceSub, Int.reduceNeg, ev_wr_id]) | ((first | with_reducible refine br_40 ?_ ?_ | with_reducible refine br_41 ?_ ?_ | with_reducible refine br_42 ?_ ?_ | with_reducible refine br_43 ?_ ?_ | with_reducible refine br_44 ?_ ?_ | with_reducible refine br_45 ?_ ?_ | with_reducible refine br_46 ?_ ?_ | with_reducible refine br_47 ?_ ?_ | with_reducible refine br_48 ?_ ?_ | with_reducible refine br_49 ?_ ?_ | with_reducible refine br_50 ?_ ?_ | with_reducible refine br_51 ?_ ?_) <;> intro h <;> try simp (disch := first | assumption | exact Nat.le_of_ble_eq_true rfl | omega) only [ev_wr_id, not_true_eq_false, not_false_eq_true, Int.reduceEq, Int.reduceLT, Int.reduceLE, and_self, and_true, true_and, and_false, false_and, reduceIte] at h <;> try (exfalso; omega; done)))
theorem st_N_o {σ σ1 : ev_M} (h : ∀ i, i ≠ 171 → i ≠ 172 → i ≠ 185 → σ1 i = σ i) : st_N σ σ1 :=
  ⟨fun i hi => h i (by omega) (by omega) (by omega), by rw [h 162 (by omega) (by omega) (by omega)], by rw [h 164 (by omega) (by omega) (by omega)], by rw [h 182 (by omega) (by omega) (by omega)], by rw [h 182 (by omega) (by omega) (by omega)], fun k _ _ => by rw [h 183 (by omega) (by omega) (by omega)]⟩
