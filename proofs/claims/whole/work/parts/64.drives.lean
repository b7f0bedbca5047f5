/-! ways: the reference's search -/
def st_dd (σ : ev_M) (f d : Int → Int) : ev_M := fun a z => if a = 186 then f z else if a = 187 then d z else σ a z
theorem st_dd_o {σ : ev_M} {i : Int} {f d : Int → Int} (h : i ≠ 186 ∧ i ≠ 187) : st_dd σ f d i = σ i := by
  funext z
  unfold st_dd
  rw [if_neg (by omega), if_neg (by omega)]
theorem st_dd_1 {σ : ev_M} {f d : Int → Int} : st_dd σ f d 186 = f := by
  funext z
  unfold st_dd
  simp
theorem st_dd_2 {σ : ev_M} {f d : Int → Int} : st_dd σ f d 187 = d := by
  funext z
  unfold st_dd
  simp
theorem st_dd_f {σ : ev_M} {k v : Int} {f d : Int → Int} : ev_up (st_dd σ f d) 186 k v = st_dd σ (ev_u1 f k v) d := by
  funext a z
  unfold ev_up st_dd ev_u1
  by_cases h1 : a = 186
  · subst h1
    simp
  · simp [h1]
theorem st_dd_d {σ : ev_M} {k v : Int} {f d : Int → Int} : ev_up (st_dd σ f d) 187 k v = st_dd σ f (ev_u1 d k v) := by
  funext a z
  unfold ev_up st_dd ev_u1
  by_cases h1 : a = 186
  · subst h1
    simp
  · by_cases h2 : a = 187
    · subst h2
      simp
    · simp [h1, h2]
theorem st_dd_s {σ : ev_M} : st_dd σ (σ 186) (σ 187) = σ := by
  funext a z
  unfold st_dd
  by_cases h1 : a = 186
  · simp [h1]
  · by_cases h2 : a = 187
    · simp [h2]
    · simp [h1, h2]
theorem st_dd_N {σ : ev_M} {f d : Int → Int} : st_N σ (st_dd σ f d) := by
  refine ⟨fun i h => st_dd_o (by omega), by rw [st_dd_o (by omega)], by rw [st_dd_o (by omega)], by rw [st_dd_o (by omega)], by rw [st_dd_o (by omega)], fun k _ _ => by rw [st_dd_o (by omega)]⟩
theorem ev_ps_in {r : Int} : 0 ≤ ev_ps r ∧ ev_ps r ≤ 60 := by
  unfold ev_ps
  split
  · omega
  · split
    · omega
    · split
      · omega
      · split
        · omega
        · split
          · omega
          · split
            · omega
            · split <;> omega
theorem c_142z {r w o b : Int} {σ : ev_M} (h0 : 0 ≤ r ∧ r < 20) (hw : 0 ≤ w ∧ w ≤ 60) (ho : -1 ≤ o ∧ o < 20) (hb : σ 183 (9 + 4 * r + 3) = b) (h1 : -1 ≤ b ∧ b < 6) (h2 : b ≠ -1 → (0 ≤ σ 183 (89 + 5 * b + 2) ∧ σ 183 (89 + 5 * b + 2) ≤ 9) ∧ (0 ≤ σ 183 (89 + 5 * b + 4) ∧ σ 183 (89 + 5 * b + 4) ≤ 1)) (h3 : 0 ≤ σ 184 (σ 183 (89 + 5 * b + 2)) ∧ σ 184 (σ 183 (89 + 5 * b + 2)) ≤ 60) : EM 142 [.inr (.inl 182), .inl r, .inl w, .inl o] σ = some (some (.inl (if r ≠ o ∧ (b = -1 ∨ w ≤ if σ 183 (89 + 5 * b + 4) = 1 then 0 else σ 184 (σ 183 (89 + 5 * b + 2))) then 1 else 0)), σ) := by
  rw [mm_142]
  repeat' (first | (simp (disch := first | assumption | exact Nat.le_of_ble_eq_true rfl | omega) only [bk_142_0, eo_1_0, eo_0_1, eo_6, v11_3, ev_ki, ev_kv, eo_3_4n, eo_3_4i, eo_3_4r, eo_0_3, eo_0_4, v11_2, eo_0_2, eo_53, bk_142_1, eo_52, bk_142_2, bk_142_3, eo_56z, c_113, c_120, hb, Int.add_zero, Int.add_sub_cancel, Int.reduceAdd, Int.reduceMul, Int.reduceSub, Int.reduceNeg, ev_wr_id]) | ((first | with_reducible refine br_40 ?_ ?_ | with_reducible refine br_41 ?_ ?_ | with_reducible refine br_42 ?_ ?_ | with_reducible refine br_43 ?_ ?_ | with_reducible refine br_44 ?_ ?_ | with_reducible refine br_45 ?_ ?_ | with_reducible refine br_46 ?_ ?_ | with_reducible refine br_47 ?_ ?_ | with_reducible refine br_48 ?_ ?_ | with_reducible refine br_49 ?_ ?_ | with_reducible refine br_50 ?_ ?_ | with_reducible refine br_51 ?_ ?_) <;> intro h <;> try simp (disch := first | assumption | exact Nat.le_of_ble_eq_true rfl | omega) only [ev_wr_id, not_true_eq_false, not_false_eq_true, Int.reduceEq, Int.reduceLT, Int.reduceLE, and_self, and_true, true_and, and_false, false_and, reduceIte] at h <;> try (exfalso; omega; done)))
  all_goals (repeat' split) <;> first | rfl | omega | (exfalso; omega)
theorem ev_i01 {p : Prop} {i : Decidable p} : @ite Int p i 1 0 = 0 ∨ @ite Int p i 1 0 = 1 := by
  by_cases h : p
  · exact Or.inr (if_pos h)
  · exact Or.inl (if_neg h)
theorem e_142 {σ : ev_M} {r w o : Int} (a2 : st_I (σ 183)) (a8 : ∀ r, 0 ≤ r → r ≤ 9 → σ 184 r = ev_ps r) (hr : 0 ≤ r ∧ r < σ 183 1) (hw : 0 ≤ w ∧ w ≤ 60) (ho : -1 ≤ o ∧ o < 20) : ∃ v, EM 142 [.inr (.inl 182), .inl r, .inl w, .inl o] σ = some (some (.inl v), σ) ∧ (v = 0 ∨ v = 1) ∧ (v = 1 ↔ st_ub (σ 183) w o r) := by
  have i1 := a2.1.2.1
  have i2 := a2.1.2.2.1
  have g := a2.2.1 r hr.1 hr.2
  have hb := a2.2.2.1 (σ 183 (9 + 4 * r + 3))
  have hc := a2.2.2.2.1 (σ 183 (9 + 4 * r + 3))
  by_cases c1 : σ 183 (9 + 4 * r + 3) = -1
  · by_cases c2 : r = o
    · refine ⟨0, ?_, Or.inl rfl, ⟨fun h => by omega, fun h => absurd c2 h.1⟩⟩
      rw [mm_142]
      repeat' (first | (simp (disch := first | assumption | exact Nat.le_of_ble_eq_true rfl | omega) only [bk_142_0, eo_1_0, eo_0_1, eo_6, v11_3, ev_ki, ev_kv, eo_3_4n, eo_3_4i, eo_3_4r, eo_0_3, eo_0_4, v11_2, eo_0_2, eo_53, bk_142_1, eo_52, bk_142_2, bk_142_3, eo_56z, c_113, c_120, c1, Int.add_zero, Int.add_sub_cancel, Int.reduceAdd, Int.reduceMul, Int.reduceSub, Int.reduceNeg, ev_wr_id]) | ((first | with_reducible refine br_40 ?_ ?_ | with_reducible refine br_41 ?_ ?_ | with_reducible refine br_42 ?_ ?_ | with_reducible refine br_43 ?_ ?_ | with_reducible refine br_44 ?_ ?_ | with_reducible refine br_45 ?_ ?_ | with_reducible refine br_46 ?_ ?_ | with_reducible refine br_47 ?_ ?_ | with_reducible refine br_48 ?_ ?_ | with_reducible refine br_49 ?_ ?_ | with_reducible refine br_50 ?_ ?_ | with_reducible refine br_51 ?_ ?_) <;> intro h <;> try simp (disch := first | assumption | exact Nat.le_of_ble_eq_true rfl | omega) only [ev_wr_id, not_true_eq_false, not_false_eq_true, Int.reduceEq, Int.reduceLT, Int.reduceLE, and_self, and_true, true_and, and_false, false_and, reduceIte] at h <;> try (exfalso; omega; done)))
    · refine ⟨1, ?_, Or.inr rfl, ⟨fun _ => ⟨c2, ?_⟩, fun _ => rfl⟩⟩
      · rw [mm_142]
        repeat' (first | (simp (disch := first | assumption | exact Nat.le_of_ble_eq_true rfl | omega) only [bk_142_0, eo_1_0, eo_0_1, eo_6, v11_3, ev_ki, ev_kv, eo_3_4n, eo_3_4i, eo_3_4r, eo_0_3, eo_0_4, v11_2, eo_0_2, eo_53, bk_142_1, eo_52, bk_142_2, bk_142_3, eo_56z, c_113, c_120, c1, Int.add_zero, Int.add_sub_cancel, Int.reduceAdd, Int.reduceMul, Int.reduceSub, Int.reduceNeg, ev_wr_id]) | ((first | with_reducible refine br_40 ?_ ?_ | with_reducible refine br_41 ?_ ?_ | with_reducible refine br_42 ?_ ?_ | with_reducible refine br_43 ?_ ?_ | with_reducible refine br_44 ?_ ?_ | with_reducible refine br_45 ?_ ?_ | with_reducible refine br_46 ?_ ?_ | with_reducible refine br_47 ?_ ?_ | with_reducible refine br_48 ?_ ?_ | with_reducible refine br_49 ?_ ?_ | with_reducible refine br_50 ?_ ?_ | with_reducible refine br_51 ?_ ?_) <;> intro h <;> try simp (disch := first | assumption | exact Nat.le_of_ble_eq_true rfl | omega) only [ev_wr_id, not_true_eq_false, not_false_eq_true, Int.reduceEq, Int.reduceLT, Int.reduceLE, and_self, and_true, true_and, and_false, false_and, reduceIte] at h <;> try (exfalso; omega; done)))
      · unfold st_lim
        rw [if_pos c1]
        omega
  · have hbb := hb (by omega) (by omega)
    have hcc := hc (by omega) (by omega)
    have e := c_142z (σ := σ) (r := r) (w := w) (o := o) (b := σ 183 (9 + 4 * r + 3)) (by omega) hw ho rfl (by omega) (fun _ => ⟨hbb.2.2.1, hcc⟩) (by rw [a8 _ hbb.2.2.1.1 hbb.2.2.1.2]; exact ev_ps_in)
    refine ⟨_, e, ev_i01, ?_⟩
    rw [a8 _ hbb.2.2.1.1 hbb.2.2.1.2]
    unfold st_ub st_lim
    rw [if_neg c1]
    constructor
    · intro h
      by_cases c3 : r ≠ o ∧ (σ 183 (9 + 4 * r + 3) = -1 ∨ w ≤ if σ 183 (89 + 5 * σ 183 (9 + 4 * r + 3) + 4) = 1 then 0 else ev_ps (σ 183 (89 + 5 * σ 183 (9 + 4 * r + 3) + 2)))
      · exact ⟨c3.1, c3.2.resolve_left c1⟩
      · rw [if_neg c3] at h
        omega
    · intro h
      exact if_pos ⟨h.1, Or.inr h.2⟩
theorem l_144a {σ : ev_M} {s w o : Int} {p5 p6 p7 : Option ev_V} (hs : 0 ≤ s ∧ s < 10) : ∀ (k : Nat) (n : Int) (f d : Int → Int), 0 ≤ n → n + k = 10 → (∀ y, 0 ≤ y → y < n → f y = (if y = s then 0 else -1) ∧ d y = 0) → ∃ f2 d2, EB 144 1 [some (.inr (.inl 182)), some (.inl s), some (.inl w), some (.inl o), some (.inl n), p5, p6, p7] [] (st_dd σ f d) = EB 144 4 [some (.inr (.inl 182)), some (.inl s), some (.inl w), some (.inl o), some (.inl 10), p5, p6, p7] [] (st_dd σ f2 d2) ∧ ∀ y, 0 ≤ y → y < 10 → f2 y = (if y = s then 0 else -1) ∧ d2 y = 0 := by
  intro k
  induction k with
  | zero =>
    intro n f d h0 h1 hf
    obtain rfl : n = 10 := by omega
    refine ⟨f, d, ?_, hf⟩
    clear hf
    rw [bk_144_1]
    repeat' (first | (simp (disch := first | assumption | exact Nat.le_of_ble_eq_true rfl | omega) only [bk_144_0, eo_6, eo_3_4n, eo_3_4i, eo_3_4r, eo_53, eo_0_4, eo_1_0, g11_28_4, eo_0_1, eo_52, bk_144_2, bk_144_3, g11_28_5, eo_23_4n, eo_23_4i, eo_23_4r, eo_3_5n, eo_3_5i, eo_3_5r, eo_0_5, g11_28_0, v11_3, ev_ki, ev_kv, eo_3_6n, eo_3_6i, eo_3_6r, eo_10, eo_3_7n, eo_3_7i, eo_3_7r, eo_0_6, eo_0_2, eo_0_3, v11_4, eo_0_7, bk_144_7, bk_144_8, eo_23_5n, eo_23_5i, eo_23_5r, bk_144_9, bk_144_11, bk_144_12, bk_144_13, bk_144_14, bk_144_15, eo_58, a32_186, a33_186, a34_187, a35_187, a32_183, a33_183, c_143, c_113, c_142, Int.add_zero, Int.add_sub_cancel, Int.reduceAdd, Int.reduceMul, Int.reduceSub, Int.reduceNeg, ev_wr_id]) | ((first | with_reducible refine br_40 ?_ ?_ | with_reducible refine br_41 ?_ ?_ | with_reducible refine br_42 ?_ ?_ | with_reducible refine br_43 ?_ ?_ | with_reducible refine br_44 ?_ ?_ | with_reducible refine br_45 ?_ ?_ | with_reducible refine br_46 ?_ ?_ | with_reducible refine br_47 ?_ ?_ | with_reducible refine br_48 ?_ ?_ | with_reducible refine br_49 ?_ ?_ | with_reducible refine br_50 ?_ ?_ | with_reducible refine br_51 ?_ ?_) <;> intro h <;> try simp (disch := first | assumption | exact Nat.le_of_ble_eq_true rfl | omega) only [ev_wr_id, not_true_eq_false, not_false_eq_true, Int.reduceEq, Int.reduceLT, Int.reduceLE, and_self, and_true, true_and, and_false, false_and, reduceIte] at h <;> try (exfalso; omega; done)))
  | succ k ih =>
    intro n f d h0 h1 hf
    obtain ⟨f2, d2, e, h⟩ := ih (n + 1) (ev_u1 f n (if n = s then 0 else -1)) (ev_u1 d n 0) (by omega) (by omega) (fun y y0 y1 => by
      by_cases c : y = n
      · rw [ev_u1_eq c, ev_u1_eq c, c]
        exact ⟨rfl, rfl⟩
      · rw [ev_u1_ne c, ev_u1_ne c]
        exact hf y y0 (by omega))
    refine ⟨f2, d2, ?_, h⟩
    rw [← e]
    clear e h hf ih
    rw [bk_144_1]
    by_cases c : n = s
    · rw [if_pos c]
      repeat' (first | (simp (disch := first | assumption | exact Nat.le_of_ble_eq_true rfl | omega) only [bk_144_0, eo_6, eo_3_4n, eo_3_4i, eo_3_4r, eo_53, eo_0_4, eo_1_0, g11_28_4, eo_0_1, eo_52, bk_144_2, bk_144_3, g11_28_5, eo_23_4n, eo_23_4i, eo_23_4r, eo_3_5n, eo_3_5i, eo_3_5r, eo_0_5, g11_28_0, v11_3, ev_ki, ev_kv, eo_3_6n, eo_3_6i, eo_3_6r, eo_10, eo_3_7n, eo_3_7i, eo_3_7r, eo_0_6, eo_0_2, eo_0_3, v11_4, eo_0_7, bk_144_7, bk_144_8, eo_23_5n, eo_23_5i, eo_23_5r, bk_144_9, bk_144_11, bk_144_12, bk_144_13, bk_144_14, bk_144_15, eo_58, a32_186, a33_186, a34_187, a35_187, a32_183, a33_183, c_143, c_113, c_142, st_dd_f, st_dd_d, Int.add_zero, Int.add_sub_cancel, Int.reduceAdd, Int.reduceMul, Int.reduceSub, Int.reduceNeg, ev_wr_id]) | ((first | with_reducible refine br_40 ?_ ?_ | with_reducible refine br_41 ?_ ?_ | with_reducible refine br_42 ?_ ?_ | with_reducible refine br_43 ?_ ?_ | with_reducible refine br_44 ?_ ?_ | with_reducible refine br_45 ?_ ?_ | with_reducible refine br_46 ?_ ?_ | with_reducible refine br_47 ?_ ?_ | with_reducible refine br_48 ?_ ?_ | with_reducible refine br_49 ?_ ?_ | with_reducible refine br_50 ?_ ?_ | with_reducible refine br_51 ?_ ?_) <;> intro h <;> try simp (disch := first | assumption | exact Nat.le_of_ble_eq_true rfl | omega) only [ev_wr_id, not_true_eq_false, not_false_eq_true, Int.reduceEq, Int.reduceLT, Int.reduceLE, and_self, and_true, true_and, and_false, false_and, reduceIte] at h <;> try (exfalso; omega; done)))
    · rw [if_neg c]
      repeat' (first | (simp (disch := first | assumption | exact Nat.le_of_ble_eq_true rfl | omega) only [bk_144_0, eo_6, eo_3_4n, eo_3_4i, eo_3_4r, eo_53, eo_0_4, eo_1_0, g11_28_4, eo_0_1, eo_52, bk_144_2, bk_144_3, g11_28_5, eo_23_4n, eo_23_4i, eo_23_4r, eo_3_5n, eo_3_5i, eo_3_5r, eo_0_5, g11_28_0, v11_3, ev_ki, ev_kv, eo_3_6n, eo_3_6i, eo_3_6r, eo_10, eo_3_7n, eo_3_7i, eo_3_7r, eo_0_6, eo_0_2, eo_0_3, v11_4, eo_0_7, bk_144_7, bk_144_8, eo_23_5n, eo_23_5i, eo_23_5r, bk_144_9, bk_144_11, bk_144_12, bk_144_13, bk_144_14, bk_144_15, eo_58, a32_186, a33_186, a34_187, a35_187, a32_183, a33_183, c_143, c_113, c_142, st_dd_f, st_dd_d, Int.add_zero, Int.add_sub_cancel, Int.reduceAdd, Int.reduceMul, Int.reduceSub, Int.reduceNeg, ev_wr_id]) | ((first | with_reducible refine br_40 ?_ ?_ | with_reducible refine br_41 ?_ ?_ | with_reducible refine br_42 ?_ ?_ | with_reducible refine br_43 ?_ ?_ | with_reducible refine br_44 ?_ ?_ | with_reducible refine br_45 ?_ ?_ | with_reducible refine br_46 ?_ ?_ | with_reducible refine br_47 ?_ ?_ | with_reducible refine br_48 ?_ ?_ | with_reducible refine br_49 ?_ ?_ | with_reducible refine br_50 ?_ ?_ | with_reducible refine br_51 ?_ ?_) <;> intro h <;> try simp (disch := first | assumption | exact Nat.le_of_ble_eq_true rfl | omega) only [ev_wr_id, not_true_eq_false, not_false_eq_true, Int.reduceEq, Int.reduceLT, Int.reduceLE, and_self, and_true, true_and, and_false, false_and, reduceIte] at h <;> try (exfalso; omega; done)))
theorem l_144b {σ : ev_M} {s w o x : Int} {f0 d : Int → Int} (a2 : st_I (σ 183)) (a8 : ∀ r, 0 ≤ r → r ≤ 9 → σ 184 r = ev_ps r) (hw : 0 ≤ w ∧ w ≤ 60) (ho : -1 ≤ o ∧ o < 20) (hx : 0 ≤ x ∧ x < σ 183 0) (hx0 : 0 ≤ f0 x) (hp : ∀ y, 0 ≤ y → y < 10 → f0 y = -1 ∨ (0 ≤ f0 y ∧ f0 y ≤ 990)) : ∀ (k : Nat) (r : Int) (f : Int → Int) (p6 p7 : Option ev_V), 0 ≤ r → r + k = σ 183 1 → st_ro (σ 183) w o x f0 r f → ∃ f2 q6 q7, EB 144 6 [some (.inr (.inl 182)), some (.inl s), some (.inl w), some (.inl o), some (.inl x), some (.inl r), p6, p7] [] (st_dd σ f d) = EB 144 9 [some (.inr (.inl 182)), some (.inl s), some (.inl w), some (.inl o), some (.inl x), some (.inl (σ 183 1)), q6, q7] [] (st_dd σ f2 d) ∧ st_ro (σ 183) w o x f0 (σ 183 1) f2 := by
  have i0 := a2.1.1
  have i1 := a2.1.2.1
  intro k
  induction k with
  | zero =>
    intro r f p6 p7 h0 h1 hf
    obtain rfl : r = σ 183 1 := by omega
    refine ⟨f, p6, p7, ?_, hf⟩
    have m183 : st_dd σ f d 183 = σ 183 := st_dd_o (by omega)
    clear hf hp h1
    rw [bk_144_6]
    repeat' (first | (simp (disch := first | assumption | exact Nat.le_of_ble_eq_true rfl | omega) only [bk_144_0, eo_6, eo_3_4n, eo_3_4i, eo_3_4r, eo_53, eo_0_4, eo_1_0, g11_28_4, eo_0_1, eo_52, bk_144_2, bk_144_3, g11_28_5, eo_23_4n, eo_23_4i, eo_23_4r, bk_144_4, eo_3_5n, eo_3_5i, eo_3_5r, eo_0_5, g11_28_0, v11_3, ev_ki, ev_kv, eo_3_6n, eo_3_6i, eo_3_6r, eo_10, eo_3_7n, eo_3_7i, eo_3_7r, eo_0_6, eo_0_2, eo_0_3, v11_4, eo_0_7, bk_144_7, bk_144_8, eo_23_5n, eo_23_5i, eo_23_5r, bk_144_11, bk_144_12, bk_144_13, bk_144_14, bk_144_15, eo_58, a32_186, a33_186, a34_187, a35_187, a32_183, a33_183, c_113, m183, Int.add_zero, Int.add_sub_cancel, Int.reduceAdd, Int.reduceMul, Int.reduceSub, Int.reduceNeg, ev_wr_id]) | ((first | with_reducible refine br_40 ?_ ?_ | with_reducible refine br_41 ?_ ?_ | with_reducible refine br_42 ?_ ?_ | with_reducible refine br_43 ?_ ?_ | with_reducible refine br_44 ?_ ?_ | with_reducible refine br_45 ?_ ?_ | with_reducible refine br_46 ?_ ?_ | with_reducible refine br_47 ?_ ?_ | with_reducible refine br_48 ?_ ?_ | with_reducible refine br_49 ?_ ?_ | with_reducible refine br_50 ?_ ?_ | with_reducible refine br_51 ?_ ?_) <;> intro h <;> try simp (disch := first | assumption | exact Nat.le_of_ble_eq_true rfl | omega) only [ev_wr_id, not_true_eq_false, not_false_eq_true, Int.reduceEq, Int.reduceLT, Int.reduceLE, and_self, and_true, true_and, and_false, false_and, reduceIte] at h <;> try (exfalso; omega; done)))
  | succ k ih =>
    intro r f p6 p7 h0 h1 hf
    have m183 : st_dd σ f d 183 = σ 183 := st_dd_o (by omega)
    have m184 : st_dd σ f d 184 = σ 184 := st_dd_o (by omega)
    have g := a2.2.1 r h0 (by omega)
    have e143 := c_143 (σ := st_dd σ f d) (r := r) (t := x) (by omega) (by omega) (by rw [m183]; omega) (by rw [m183]; omega)
    rw [m183] at e143
    have hfx := hf.2.2
    have hpx := hp x hx.1 (by omega)
    have hr20 : 0 ≤ r ∧ r < 20 ∧ r < σ 183 1 := by omega
    have none : (∀ y, ¬ st_ej (σ 183) w o r x y) → ∀ q6 q7, ∃ f2 q6' q7', EB 144 6 [some (.inr (.inl 182)), some (.inl s), some (.inl w), some (.inl o), some (.inl x), some (.inl (r + 1)), q6, q7] [] (st_dd σ f d) = EB 144 9 [some (.inr (.inl 182)), some (.inl s), some (.inl w), some (.inl o), some (.inl x), some (.inl (σ 183 1)), q6', q7'] [] (st_dd σ f2 d) ∧ st_ro (σ 183) w o x f0 (σ 183 1) f2 := fun hn q6 q7 => ih (r + 1) f q6 q7 (by omega) (by omega) (st_ro_n hf hn)
    by_cases c1 : σ 183 (9 + 4 * r) = x ∨ σ 183 (9 + 4 * r + 1) = x
    · obtain ⟨y, hy⟩ : ∃ y, y = if σ 183 (9 + 4 * r) = x then σ 183 (9 + 4 * r + 1) else if σ 183 (9 + 4 * r + 1) = x then σ 183 (9 + 4 * r) else -1 := ⟨_, rfl⟩
      rw [← hy] at e143
      have hy2 : (σ 183 (9 + 4 * r) = x ∧ σ 183 (9 + 4 * r + 1) = y) ∨ (σ 183 (9 + 4 * r) = y ∧ σ 183 (9 + 4 * r + 1) = x) := by
        rw [hy]
        by_cases q : σ 183 (9 + 4 * r) = x
        · rw [if_pos q]
          exact Or.inl ⟨q, rfl⟩
        · have q2 : σ 183 (9 + 4 * r + 1) = x := c1.resolve_left q
          rw [if_neg q, if_pos q2]
          exact Or.inr ⟨rfl, q2⟩
      have hyr : 0 ≤ y ∧ y < 10 := by rcases hy2 with q | q <;> omega
      obtain ⟨v, e142, hv, hv2⟩ := e_142 (σ := st_dd σ f d) (r := r) (w := w) (o := o) (by rw [m183]; exact a2) (by rw [m184]; exact a8) (by rw [m183]; omega) hw ho
      rw [m183] at hv2
      have hfy : f y = -1 ∨ (0 ≤ f y ∧ f y ≤ 1089) := by
        have hpy := hp y hyr.1 hyr.2
        rcases hf.1 y hyr.1 hyr.2 with q | ⟨r', q1, q2, q3, q4⟩
        · omega
        · have := (st_ej_in a2 q2).2.2.2.1
          omega
      by_cases c2 : v = 1
      · have he : st_ej (σ 183) w o r x y := ⟨⟨h0, by omega⟩, hv2.mp c2, hy2⟩
        obtain ⟨w1, w2⟩ := st_ro_e a2 hf he hx0 (fun y y0 y1 => by have := hp y y0 y1; omega)
        rw [c2] at e142
        by_cases c3 : f y = -1 ∨ f x + σ 183 (9 + 4 * r + 2) < f y
        · obtain ⟨f2, q6, q7, e, h⟩ := ih (r + 1) (ev_u1 f y (f x + σ 183 (9 + 4 * r + 2))) (some (.inl y)) (some (.inl (f x + σ 183 (9 + 4 * r + 2)))) (by omega) (by omega) (w1 c3)
          refine ⟨f2, q6, q7, ?_, h⟩
          rw [← e]
          clear e h ih none w1 w2 hf hp a8 he hv2 hv hy hy2 h1 c1
          rw [bk_144_6]
          repeat' (first | (simp (disch := first | assumption | exact Nat.le_of_ble_eq_true rfl | omega) only [bk_144_0, eo_6, eo_3_4n, eo_3_4i, eo_3_4r, eo_53, eo_0_4, eo_1_0, g11_28_4, eo_0_1, eo_52, bk_144_2, bk_144_3, g11_28_5, eo_23_4n, eo_23_4i, eo_23_4r, bk_144_4, eo_3_5n, eo_3_5i, eo_3_5r, eo_0_5, g11_28_0, v11_3, ev_ki, ev_kv, eo_3_6n, eo_3_6i, eo_3_6r, eo_10, eo_3_7n, eo_3_7i, eo_3_7r, eo_0_6, eo_0_2, eo_0_3, v11_4, eo_0_7, bk_144_7, bk_144_8, eo_23_5n, eo_23_5i, eo_23_5r, bk_144_11, bk_144_12, bk_144_13, bk_144_14, bk_144_15, eo_58, a32_186, a33_186, a34_187, a35_187, a32_183, a33_183, c_113, m183, e143, e142, st_dd_1, st_dd_f, Int.add_zero, Int.add_sub_cancel, Int.reduceAdd, Int.reduceMul, Int.reduceSub, Int.reduceNeg, ev_wr_id]) | ((first | with_reducible refine br_40 ?_ ?_ | with_reducible refine br_41 ?_ ?_ | with_reducible refine br_42 ?_ ?_ | with_reducible refine br_43 ?_ ?_ | with_reducible refine br_44 ?_ ?_ | with_reducible refine br_45 ?_ ?_ | with_reducible refine br_46 ?_ ?_ | with_reducible refine br_47 ?_ ?_ | with_reducible refine br_48 ?_ ?_ | with_reducible refine br_49 ?_ ?_ | with_reducible refine br_50 ?_ ?_ | with_reducible refine br_51 ?_ ?_) <;> intro h <;> try simp (disch := first | assumption | exact Nat.le_of_ble_eq_true rfl | omega) only [ev_wr_id, not_true_eq_false, not_false_eq_true, Int.reduceEq, Int.reduceLT, Int.reduceLE, and_self, and_true, true_and, and_false, false_and, reduceIte] at h <;> try (exfalso; omega; done)))
        · obtain ⟨f2, q6, q7, e, h⟩ := ih (r + 1) f (some (.inl y)) (some (.inl (f x + σ 183 (9 + 4 * r + 2)))) (by omega) (by omega) (w2 c3)
          refine ⟨f2, q6, q7, ?_, h⟩
          rw [← e]
          clear e h ih none w1 w2 hf hp a8 he hv2 hv hy hy2 h1 c1
          rw [bk_144_6]
          repeat' (first | (simp (disch := first | assumption | exact Nat.le_of_ble_eq_true rfl | omega) only [bk_144_0, eo_6, eo_3_4n, eo_3_4i, eo_3_4r, eo_53, eo_0_4, eo_1_0, g11_28_4, eo_0_1, eo_52, bk_144_2, bk_144_3, g11_28_5, eo_23_4n, eo_23_4i, eo_23_4r, bk_144_4, eo_3_5n, eo_3_5i, eo_3_5r, eo_0_5, g11_28_0, v11_3, ev_ki, ev_kv, eo_3_6n, eo_3_6i, eo_3_6r, eo_10, eo_3_7n, eo_3_7i, eo_3_7r, eo_0_6, eo_0_2, eo_0_3, v11_4, eo_0_7, bk_144_7, bk_144_8, eo_23_5n, eo_23_5i, eo_23_5r, bk_144_11, bk_144_12, bk_144_13, bk_144_14, bk_144_15, eo_58, a32_186, a33_186, a34_187, a35_187, a32_183, a33_183, c_113, m183, e143, e142, st_dd_1, st_dd_f, Int.add_zero, Int.add_sub_cancel, Int.reduceAdd, Int.reduceMul, Int.reduceSub, Int.reduceNeg, ev_wr_id]) | ((first | with_reducible refine br_40 ?_ ?_ | with_reducible refine br_41 ?_ ?_ | with_reducible refine br_42 ?_ ?_ | with_reducible refine br_43 ?_ ?_ | with_reducible refine br_44 ?_ ?_ | with_reducible refine br_45 ?_ ?_ | with_reducible refine br_46 ?_ ?_ | with_reducible refine br_47 ?_ ?_ | with_reducible refine br_48 ?_ ?_ | with_reducible refine br_49 ?_ ?_ | with_reducible refine br_50 ?_ ?_ | with_reducible refine br_51 ?_ ?_) <;> intro h <;> try simp (disch := first | assumption | exact Nat.le_of_ble_eq_true rfl | omega) only [ev_wr_id, not_true_eq_false, not_false_eq_true, Int.reduceEq, Int.reduceLT, Int.reduceLE, and_self, and_true, true_and, and_false, false_and, reduceIte] at h <;> try (exfalso; omega; done)))
      · obtain ⟨f2, q6, q7, e, h⟩ := none (fun z hz => c2 (hv2.mpr hz.2.1)) (some (.inl y)) (some (.inl (f x + σ 183 (9 + 4 * r + 2))))
        refine ⟨f2, q6, q7, ?_, h⟩
        rw [← e]
        have c4 : v = 0 := hv.resolve_right c2
        rw [c4] at e142
        clear e h ih none hf hp a8 hv2 hv hy hy2 h1 c1 c2 c4
        rw [bk_144_6]
        repeat' (first | (simp (disch := first | assumption | exact Nat.le_of_ble_eq_true rfl | omega) only [bk_144_0, eo_6, eo_3_4n, eo_3_4i, eo_3_4r, eo_53, eo_0_4, eo_1_0, g11_28_4, eo_0_1, eo_52, bk_144_2, bk_144_3, g11_28_5, eo_23_4n, eo_23_4i, eo_23_4r, bk_144_4, eo_3_5n, eo_3_5i, eo_3_5r, eo_0_5, g11_28_0, v11_3, ev_ki, ev_kv, eo_3_6n, eo_3_6i, eo_3_6r, eo_10, eo_3_7n, eo_3_7i, eo_3_7r, eo_0_6, eo_0_2, eo_0_3, v11_4, eo_0_7, bk_144_7, bk_144_8, eo_23_5n, eo_23_5i, eo_23_5r, bk_144_11, bk_144_12, bk_144_13, bk_144_14, bk_144_15, eo_58, a32_186, a33_186, a34_187, a35_187, a32_183, a33_183, c_113, m183, e143, e142, st_dd_1, st_dd_f, Int.add_zero, Int.add_sub_cancel, Int.reduceAdd, Int.reduceMul, Int.reduceSub, Int.reduceNeg, ev_wr_id]) | ((first | with_reducible refine br_40 ?_ ?_ | with_reducible refine br_41 ?_ ?_ | with_reducible refine br_42 ?_ ?_ | with_reducible refine br_43 ?_ ?_ | with_reducible refine br_44 ?_ ?_ | with_reducible refine br_45 ?_ ?_ | with_reducible refine br_46 ?_ ?_ | with_reducible refine br_47 ?_ ?_ | with_reducible refine br_48 ?_ ?_ | with_reducible refine br_49 ?_ ?_ | with_reducible refine br_50 ?_ ?_ | with_reducible refine br_51 ?_ ?_) <;> intro h <;> try simp (disch := first | assumption | exact Nat.le_of_ble_eq_true rfl | omega) only [ev_wr_id, not_true_eq_false, not_false_eq_true, Int.reduceEq, Int.reduceLT, Int.reduceLE, and_self, and_true, true_and, and_false, false_and, reduceIte] at h <;> try (exfalso; omega; done)))
    · obtain ⟨f2, q6, q7, e, h⟩ := none (fun z hz => c1 (by rcases hz.2.2 with q | q; exact Or.inl q.1; exact Or.inr q.2)) (some (.inl (-1))) (some (.inl (f x + σ 183 (9 + 4 * r + 2))))
      refine ⟨f2, q6, q7, ?_, h⟩
      rw [← e]
      rw [if_neg (fun q => c1 (Or.inl q)), if_neg (fun q => c1 (Or.inr q))] at e143
      clear e h ih none hf hp a8 h1 c1
      rw [bk_144_6]
      repeat' (first | (simp (disch := first | assumption | exact Nat.le_of_ble_eq_true rfl | omega) only [bk_144_0, eo_6, eo_3_4n, eo_3_4i, eo_3_4r, eo_53, eo_0_4, eo_1_0, g11_28_4, eo_0_1, eo_52, bk_144_2, bk_144_3, g11_28_5, eo_23_4n, eo_23_4i, eo_23_4r, bk_144_4, eo_3_5n, eo_3_5i, eo_3_5r, eo_0_5, g11_28_0, v11_3, ev_ki, ev_kv, eo_3_6n, eo_3_6i, eo_3_6r, eo_10, eo_3_7n, eo_3_7i, eo_3_7r, eo_0_6, eo_0_2, eo_0_3, v11_4, eo_0_7, bk_144_7, bk_144_8, eo_23_5n, eo_23_5i, eo_23_5r, bk_144_11, bk_144_12, bk_144_13, bk_144_14, bk_144_15, eo_58, a32_186, a33_186, a34_187, a35_187, a32_183, a33_183, c_113, m183, e143, st_dd_1, st_dd_f, Int.add_zero, Int.add_sub_cancel, Int.reduceAdd, Int.reduceMul, Int.reduceSub, Int.reduceNeg, ev_wr_id]) | ((first | with_reducible refine br_40 ?_ ?_ | with_reducible refine br_41 ?_ ?_ | with_reducible refine br_42 ?_ ?_ | with_reducible refine br_43 ?_ ?_ | with_reducible refine br_44 ?_ ?_ | with_reducible refine br_45 ?_ ?_ | with_reducible refine br_46 ?_ ?_ | with_reducible refine br_47 ?_ ?_ | with_reducible refine br_48 ?_ ?_ | with_reducible refine br_49 ?_ ?_ | with_reducible refine br_50 ?_ ?_ | with_reducible refine br_51 ?_ ?_) <;> intro h <;> try simp (disch := first | assumption | exact Nat.le_of_ble_eq_true rfl | omega) only [ev_wr_id, not_true_eq_false, not_false_eq_true, Int.reduceEq, Int.reduceLT, Int.reduceLE, and_self, and_true, true_and, and_false, false_and, reduceIte] at h <;> try (exfalso; omega; done)))
def st_sl (f d : Int → Int) (n c : Int) : Prop := (c = -1 ∧ ∀ y, 0 ≤ y → y < n → ¬ st_ca f d y) ∨ ((0 ≤ c ∧ c < n) ∧ st_ca f d c ∧ ∀ y, 0 ≤ y → y < n → st_ca f d y → f c ≤ f y)
theorem st_sl_n {f d : Int → Int} {n c : Int} (h : st_sl f d n c) (hn : 0 ≤ n) : ((st_ca f d n ∧ (c = -1 ∨ f n < f c)) → st_sl f d (n + 1) n) ∧ (¬ (st_ca f d n ∧ (c = -1 ∨ f n < f c)) → st_sl f d (n + 1) c) := by
  constructor
  · intro ⟨h1, h2⟩
    refine Or.inr ⟨by omega, h1, fun y y0 y1 hy => ?_⟩
    by_cases q : y = n
    · rw [q]
      exact Int.le_refl _
    · rcases h with ⟨k1, k2⟩ | ⟨k1, k2, k3⟩
      · exact absurd hy (k2 y y0 (by omega))
      · have := k3 y y0 (by omega) hy
        omega
  · intro h1
    rcases h with ⟨k1, k2⟩ | ⟨k1, k2, k3⟩
    · refine Or.inl ⟨k1, fun y y0 y1 hy => ?_⟩
      by_cases q : y = n
      · rw [q] at hy
        exact h1 ⟨hy, Or.inl k1⟩
      · exact k2 y y0 (by omega) hy
    · refine Or.inr ⟨by omega, k2, fun y y0 y1 hy => ?_⟩
      by_cases q : y = n
      · rw [q] at hy ⊢
        by_cases q2 : f c ≤ f n
        · exact q2
        · exact absurd ⟨hy, Or.inr (by omega)⟩ h1
      · exact k3 y y0 (by omega) hy
theorem l_144c {σ : ev_M} {s w o : Int} {f d : Int → Int} {p6 p7 : Option ev_V} (a2 : st_I (σ 183)) (hp : ∀ y, 0 ≤ y → y < 10 → f y = -1 ∨ (0 ≤ f y ∧ f y ≤ 2000)) (hd : ∀ y, 0 ≤ y → y < 10 → 0 ≤ d y ∧ d y ≤ 1) : ∀ (k : Nat) (n c : Int), 0 ≤ n → n + k = σ 183 0 → st_sl f d n c → ∃ c2, EB 144 10 [some (.inr (.inl 182)), some (.inl s), some (.inl w), some (.inl o), some (.inl c), some (.inl n), p6, p7] [] (st_dd σ f d) = EB 144 5 [some (.inr (.inl 182)), some (.inl s), some (.inl w), some (.inl o), some (.inl c2), some (.inl (σ 183 0)), p6, p7] [] (st_dd σ f d) ∧ st_sl f d (σ 183 0) c2 := by
  have i0 := a2.1.1
  have m183 : st_dd σ f d 183 = σ 183 := st_dd_o (by omega)
  intro k
  induction k with
  | zero =>
    intro n c h0 h1 hc
    obtain rfl : n = σ 183 0 := by omega
    refine ⟨c, ?_, hc⟩
    clear hc hp hd h1
    rw [bk_144_10]
    repeat' (first | (simp (disch := first | assumption | exact Nat.le_of_ble_eq_true rfl | omega) only [bk_144_0, eo_6, eo_3_4n, eo_3_4i, eo_3_4r, eo_53, eo_0_4, eo_1_0, g11_28_4, eo_0_1, eo_52, bk_144_2, bk_144_3, g11_28_5, eo_23_4n, eo_23_4i, eo_23_4r, bk_144_4, eo_3_5n, eo_3_5i, eo_3_5r, eo_0_5, g11_28_0, v11_3, ev_ki, ev_kv, eo_3_6n, eo_3_6i, eo_3_6r, eo_10, eo_3_7n, eo_3_7i, eo_3_7r, eo_0_6, eo_0_2, eo_0_3, v11_4, eo_0_7, bk_144_7, bk_144_8, eo_23_5n, eo_23_5i, eo_23_5r, bk_144_9, bk_144_11, bk_144_12, bk_144_13, bk_144_14, bk_144_15, eo_58, a32_186, a33_186, a34_187, a35_187, a32_183, a33_183, c_143, c_113, c_142, m183, Int.add_zero, Int.add_sub_cancel, Int.reduceAdd, Int.reduceMul, Int.reduceSub, Int.reduceNeg, ev_wr_id]) | ((first | with_reducible refine br_40 ?_ ?_ | with_reducible refine br_41 ?_ ?_ | with_reducible refine br_42 ?_ ?_ | with_reducible refine br_43 ?_ ?_ | with_reducible refine br_44 ?_ ?_ | with_reducible refine br_45 ?_ ?_ | with_reducible refine br_46 ?_ ?_ | with_reducible refine br_47 ?_ ?_ | with_reducible refine br_48 ?_ ?_ | with_reducible refine br_49 ?_ ?_ | with_reducible refine br_50 ?_ ?_ | with_reducible refine br_51 ?_ ?_) <;> intro h <;> try simp (disch := first | assumption | exact Nat.le_of_ble_eq_true rfl | omega) only [ev_wr_id, not_true_eq_false, not_false_eq_true, Int.reduceEq, Int.reduceLT, Int.reduceLE, and_self, and_true, true_and, and_false, false_and, reduceIte] at h <;> try (exfalso; omega; done)))
  | succ k ih =>
    intro n c h0 h1 hc
    have hpn := hp n h0 (by omega)
    have hdn := hd n h0 (by omega)
    have hn10 : n < 10 ∧ n < σ 183 0 := by omega
    obtain ⟨w1, w2⟩ := st_sl_n hc h0
    have hcr : c = -1 ∨ (0 ≤ c ∧ c < 10 ∧ 0 ≤ f c ∧ f c ≤ 2000) := by
      rcases hc with q | q
      · exact Or.inl q.1
      · have := hp c q.1.1 (by omega)
        have := q.2.1.2
        omega
    by_cases c1 : st_ca f d n ∧ (c = -1 ∨ f n < f c)
    · obtain ⟨c2, e, h⟩ := ih (n + 1) n (by omega) (by omega) (w1 c1)
      refine ⟨c2, ?_, h⟩
      rw [← e]
      have c3 := c1.1.1
      have c4 := c1.1.2
      have c5 := c1.2
      clear e h ih w1 w2 hc hp hd h1 c1
      rw [bk_144_10]
      repeat' (first | (simp (disch := first | assumption | exact Nat.le_of_ble_eq_true rfl | omega) only [bk_144_0, eo_6, eo_3_4n, eo_3_4i, eo_3_4r, eo_53, eo_0_4, eo_1_0, g11_28_4, eo_0_1, eo_52, bk_144_2, bk_144_3, g11_28_5, eo_23_4n, eo_23_4i, eo_23_4r, bk_144_4, eo_3_5n, eo_3_5i, eo_3_5r, eo_0_5, g11_28_0, v11_3, ev_ki, ev_kv, eo_3_6n, eo_3_6i, eo_3_6r, eo_10, eo_3_7n, eo_3_7i, eo_3_7r, eo_0_6, eo_0_2, eo_0_3, v11_4, eo_0_7, bk_144_7, bk_144_8, eo_23_5n, eo_23_5i, eo_23_5r, bk_144_9, bk_144_11, bk_144_12, bk_144_13, bk_144_14, bk_144_15, eo_58, a32_186, a33_186, a34_187, a35_187, a32_183, a33_183, c_143, c_113, c_142, m183, st_dd_1, st_dd_2, Int.add_zero, Int.add_sub_cancel, Int.reduceAdd, Int.reduceMul, Int.reduceSub, Int.reduceNeg, ev_wr_id]) | ((first | with_reducible refine br_40 ?_ ?_ | with_reducible refine br_41 ?_ ?_ | with_reducible refine br_42 ?_ ?_ | with_reducible refine br_43 ?_ ?_ | with_reducible refine br_44 ?_ ?_ | with_reducible refine br_45 ?_ ?_ | with_reducible refine br_46 ?_ ?_ | with_reducible refine br_47 ?_ ?_ | with_reducible refine br_48 ?_ ?_ | with_reducible refine br_49 ?_ ?_ | with_reducible refine br_50 ?_ ?_ | with_reducible refine br_51 ?_ ?_) <;> intro h <;> try simp (disch := first | assumption | exact Nat.le_of_ble_eq_true rfl | omega) only [ev_wr_id, not_true_eq_false, not_false_eq_true, Int.reduceEq, Int.reduceLT, Int.reduceLE, and_self, and_true, true_and, and_false, false_and, reduceIte] at h <;> try (exfalso; omega; done)))
    · obtain ⟨c2, e, h⟩ := ih (n + 1) c (by omega) (by omega) (w2 c1)
      refine ⟨c2, ?_, h⟩
      rw [← e]
      have c3 : d n = 1 ∨ f n = -1 ∨ (c ≠ -1 ∧ ¬ f n < f c) := by
        unfold st_ca at c1
        omega
      clear e h ih w1 w2 hc hp hd h1 c1
      rw [bk_144_10]
      repeat' (first | (simp (disch := first | assumption | exact Nat.le_of_ble_eq_true rfl | omega) only [bk_144_0, eo_6, eo_3_4n, eo_3_4i, eo_3_4r, eo_53, eo_0_4, eo_1_0, g11_28_4, eo_0_1, eo_52, bk_144_2, bk_144_3, g11_28_5, eo_23_4n, eo_23_4i, eo_23_4r, bk_144_4, eo_3_5n, eo_3_5i, eo_3_5r, eo_0_5, g11_28_0, v11_3, ev_ki, ev_kv, eo_3_6n, eo_3_6i, eo_3_6r, eo_10, eo_3_7n, eo_3_7i, eo_3_7r, eo_0_6, eo_0_2, eo_0_3, v11_4, eo_0_7, bk_144_7, bk_144_8, eo_23_5n, eo_23_5i, eo_23_5r, bk_144_9, bk_144_11, bk_144_12, bk_144_13, bk_144_14, bk_144_15, eo_58, a32_186, a33_186, a34_187, a35_187, a32_183, a33_183, c_143, c_113, c_142, m183, st_dd_1, st_dd_2, Int.add_zero, Int.add_sub_cancel, Int.reduceAdd, Int.reduceMul, Int.reduceSub, Int.reduceNeg, ev_wr_id]) | ((first | with_reducible refine br_40 ?_ ?_ | with_reducible refine br_41 ?_ ?_ | with_reducible refine br_42 ?_ ?_ | with_reducible refine br_43 ?_ ?_ | with_reducible refine br_44 ?_ ?_ | with_reducible refine br_45 ?_ ?_ | with_reducible refine br_46 ?_ ?_ | with_reducible refine br_47 ?_ ?_ | with_reducible refine br_48 ?_ ?_ | with_reducible refine br_49 ?_ ?_ | with_reducible refine br_50 ?_ ?_ | with_reducible refine br_51 ?_ ?_) <;> intro h <;> try simp (disch := first | assumption | exact Nat.le_of_ble_eq_true rfl | omega) only [ev_wr_id, not_true_eq_false, not_false_eq_true, Int.reduceEq, Int.reduceLT, Int.reduceLE, and_self, and_true, true_and, and_false, false_and, reduceIte] at h <;> try (exfalso; omega; done)))
theorem l_144 {σ : ev_M} {s w o : Int} (a2 : st_I (σ 183)) (a8 : ∀ r, 0 ≤ r → r ≤ 9 → σ 184 r = ev_ps r) (hs : 0 ≤ s ∧ s < σ 183 0) (hw : 0 ≤ w ∧ w ≤ 60) (ho : -1 ≤ o ∧ o < 20) : ∀ (k : Nat) (x : Int) (f d : Int → Int) (p5 p6 p7 : Option ev_V), 10 ≤ ev_nu (fun z => d z = 1) 10 + k → st_di (σ 183) w o s f d → st_sl f d (σ 183 0) x → ∃ f2 d2, EB 144 5 [some (.inr (.inl 182)), some (.inl s), some (.inl w), some (.inl o), some (.inl x), p5, p6, p7] [] (st_dd σ f d) = some (none, st_dd σ f2 d2) ∧ st_sp (σ 183) w o s (st_F f2) ∧ ∀ y, 0 ≤ y → y < 10 → f2 y = -1 ∨ (0 ≤ f2 y ∧ f2 y ≤ 990) := by
  have i0 := a2.1.1
  have i1 := a2.1.2.1
  have fin : ∀ (f d : Int → Int), st_di (σ 183) w o s f d → ∀ y, 0 ≤ y → y < 10 → f y = -1 ∨ (0 ≤ f y ∧ f y ≤ 990) := fun f d h y h0 h1 => by
    have := h.2.2.1 y h0 h1
    have := ev_nu_le (p := fun z => d z = 1) 10
    omega
  have last : ∀ (f d : Int → Int) (p5 p6 p7 : Option ev_V), st_di (σ 183) w o s f d → st_sl f d (σ 183 0) (-1) → ∃ f2 d2, EB 144 5 [some (.inr (.inl 182)), some (.inl s), some (.inl w), some (.inl o), some (.inl (-1)), p5, p6, p7] [] (st_dd σ f d) = some (none, st_dd σ f2 d2) ∧ st_sp (σ 183) w o s (st_F f2) ∧ ∀ y, 0 ≤ y → y < 10 → f2 y = -1 ∨ (0 ≤ f2 y ∧ f2 y ≤ 990) := by
    intro f d p5 p6 p7 hdi hsl
    refine ⟨f, d, ?_, st_di_e a2 hdi hs ?_, fin f d hdi⟩
    · rw [bk_144_5]
      repeat' (first | (simp (disch := first | assumption | exact Nat.le_of_ble_eq_true rfl | omega) only [bk_144_0, eo_6, eo_3_4n, eo_3_4i, eo_3_4r, eo_53, eo_0_4, eo_1_0, g11_28_4, eo_0_1, eo_52, bk_144_2, bk_144_3, g11_28_5, eo_23_4n, eo_23_4i, eo_23_4r, bk_144_4, eo_3_5n, eo_3_5i, eo_3_5r, eo_0_5, g11_28_0, v11_3, ev_ki, ev_kv, eo_3_6n, eo_3_6i, eo_3_6r, eo_10, eo_3_7n, eo_3_7i, eo_3_7r, eo_0_6, eo_0_2, eo_0_3, v11_4, eo_0_7, bk_144_7, bk_144_8, eo_23_5n, eo_23_5i, eo_23_5r, bk_144_9, bk_144_11, bk_144_12, bk_144_13, bk_144_14, bk_144_15, eo_58, a32_186, a33_186, a34_187, a35_187, a32_183, a33_183, c_143, c_113, c_142, Int.add_zero, Int.add_sub_cancel, Int.reduceAdd, Int.reduceMul, Int.reduceSub, Int.reduceNeg, ev_wr_id]) | ((first | with_reducible refine br_40 ?_ ?_ | with_reducible refine br_41 ?_ ?_ | with_reducible refine br_42 ?_ ?_ | with_reducible refine br_43 ?_ ?_ | with_reducible refine br_44 ?_ ?_ | with_reducible refine br_45 ?_ ?_ | with_reducible refine br_46 ?_ ?_ | with_reducible refine br_47 ?_ ?_ | with_reducible refine br_48 ?_ ?_ | with_reducible refine br_49 ?_ ?_ | with_reducible refine br_50 ?_ ?_ | with_reducible refine br_51 ?_ ?_) <;> intro h <;> try simp (disch := first | assumption | exact Nat.le_of_ble_eq_true rfl | omega) only [ev_wr_id, not_true_eq_false, not_false_eq_true, Int.reduceEq, Int.reduceLT, Int.reduceLE, and_self, and_true, true_and, and_false, false_and, reduceIte] at h <;> try (exfalso; omega; done)))
    · rcases hsl with q | q
      · exact q.2
      · omega
  intro k
  induction k with
  | zero =>
    intro x f d p5 p6 p7 hk hdi hsl
    rcases hsl with q | ⟨q1, q2, q3⟩
    · rw [q.1]
      exact last f d p5 p6 p7 hdi (Or.inl ⟨rfl, q.2⟩)
    · have h1 := ev_nu_1 (p := fun z => d z = 1) (q := fun z => d z = 1 ∨ z = x) (y := x) (by omega) (fun z hz => Or.inl hz) (Or.inr rfl) (fun hz => by
        have h1 := q2.1
        omega)
      have h2 := ev_nu_le (p := fun z => d z = 1 ∨ z = x) 10
      omega
  | succ k ih =>
    intro x f d p5 p6 p7 hk hdi hsl
    rcases hsl with q | ⟨q1, q2, q3⟩
    · rw [q.1]
      exact last f d p5 p6 p7 hdi (Or.inl ⟨rfl, q.2⟩)
    · have hp := fin f d hdi
      have hpx := hp x q1.1 (by omega)
      have hx0 : 0 ≤ f x := by
        have := q2.2
        omega
      have hmin : ∀ y, 0 ≤ y → y < 10 → st_ca f d y → f x ≤ f y := fun y h0 h1 hy => by
        by_cases c : y = s
        · exact q3 y h0 (by omega) hy
        · obtain ⟨r, z, k1, k2, k3⟩ := hdi.2.2.2.2.2 y h0 h1 c hy.2
          exact q3 y h0 (st_ej_in a2 k1).2.1.2 hy
      obtain ⟨f2, q6, q7, eb, hb⟩ := l_144b (σ := σ) (s := s) (w := w) (o := o) (x := x) (f0 := f) (d := ev_u1 d x 1) a2 a8 hw ho q1 hx0 hp (σ 183 1).toNat 0 f p6 p7 (by omega) (by omega) ⟨fun y _ _ => Or.inl rfl, fun r y hr he => by have := he.1.1; omega, rfl⟩
      have hdi2 := st_di_n a2 hdi ⟨q1.1, by omega⟩ q2 hmin ⟨hs.1, by omega⟩ hb
      obtain ⟨c2, ec, hc⟩ := l_144c (σ := σ) (s := s) (w := w) (o := o) (f := f2) (d := ev_u1 d x 1) (p6 := q6) (p7 := q7) a2 (fun y h0 h1 => by have := fin f2 _ hdi2 y h0 h1; omega) hdi2.1 (σ 183 0).toNat 0 (-1) (by omega) (by omega) (Or.inl ⟨rfl, fun y h0 h1 => by omega⟩)
      have hcn : ev_nu (fun z => d z = 1) 10 + 1 ≤ ev_nu (fun z => ev_u1 d x 1 z = 1) 10 := ev_nu_1 (y := x) (by omega) (fun z hz => by
        by_cases c : z = x
        · exact ev_u1_eq c
        · show ev_u1 d x 1 z = 1
          rw [ev_u1_ne c]
          exact hz) (ev_u1_eq rfl) (fun hz => by
        have h1 := q2.1
        omega)
      obtain ⟨f3, d3, e, h⟩ := ih c2 f2 (ev_u1 d x 1) (some (.inl (σ 183 0))) q6 q7 (by omega) hdi2 hc
      refine ⟨f3, d3, ?_, h⟩
      rw [← e, ← ec]
      have hx10 : 0 ≤ x ∧ x < 10 := by omega
      clear e h ec hc hdi2 hb hdi q3 hmin hp hcn ih last fin a8 hk
      rw [bk_144_5]
      repeat' (first | (simp (disch := first | assumption | exact Nat.le_of_ble_eq_true rfl | omega) only [bk_144_0, eo_6, eo_3_4n, eo_3_4i, eo_3_4r, eo_53, eo_0_4, eo_1_0, g11_28_4, eo_0_1, eo_52, bk_144_2, bk_144_3, g11_28_5, eo_23_4n, eo_23_4i, eo_23_4r, bk_144_4, eo_3_5n, eo_3_5i, eo_3_5r, eo_0_5, g11_28_0, v11_3, ev_ki, ev_kv, eo_3_6n, eo_3_6i, eo_3_6r, eo_10, eo_3_7n, eo_3_7i, eo_3_7r, eo_0_6, eo_0_2, eo_0_3, v11_4, eo_0_7, bk_144_7, bk_144_8, eo_23_5n, eo_23_5i, eo_23_5r, bk_144_9, bk_144_11, bk_144_12, bk_144_13, bk_144_14, bk_144_15, eo_58, a32_186, a33_186, a34_187, a35_187, a32_183, a33_183, c_143, c_113, c_142, st_dd_d, Int.add_zero, Int.add_sub_cancel, Int.reduceAdd, Int.reduceMul, Int.reduceSub, Int.reduceNeg, ev_wr_id]) | ((first | with_reducible refine br_40 ?_ ?_ | with_reducible refine br_41 ?_ ?_ | with_reducible refine br_42 ?_ ?_ | with_reducible refine br_43 ?_ ?_ | with_reducible refine br_44 ?_ ?_ | with_reducible refine br_45 ?_ ?_ | with_reducible refine br_46 ?_ ?_ | with_reducible refine br_47 ?_ ?_ | with_reducible refine br_48 ?_ ?_ | with_reducible refine br_49 ?_ ?_ | with_reducible refine br_50 ?_ ?_ | with_reducible refine br_51 ?_ ?_) <;> intro h <;> try simp (disch := first | assumption | exact Nat.le_of_ble_eq_true rfl | omega) only [ev_wr_id, not_true_eq_false, not_false_eq_true, Int.reduceEq, Int.reduceLT, Int.reduceLE, and_self, and_true, true_and, and_false, false_and, reduceIte] at h <;> try (exfalso; omega; done)))
      rw [eb, bk_144_9]
      repeat' (first | (simp (disch := first | assumption | exact Nat.le_of_ble_eq_true rfl | omega) only [bk_144_0, eo_6, eo_3_4n, eo_3_4i, eo_3_4r, eo_53, eo_0_4, eo_1_0, g11_28_4, eo_0_1, eo_52, bk_144_2, bk_144_3, g11_28_5, eo_23_4n, eo_23_4i, eo_23_4r, bk_144_4, eo_3_5n, eo_3_5i, eo_3_5r, eo_0_5, g11_28_0, v11_3, ev_ki, ev_kv, eo_3_6n, eo_3_6i, eo_3_6r, eo_10, eo_3_7n, eo_3_7i, eo_3_7r, eo_0_6, eo_0_2, eo_0_3, v11_4, eo_0_7, bk_144_7, bk_144_8, eo_23_5n, eo_23_5i, eo_23_5r, bk_144_9, bk_144_11, bk_144_12, bk_144_13, bk_144_14, bk_144_15, eo_58, a32_186, a33_186, a34_187, a35_187, a32_183, a33_183, c_143, c_113, c_142, Int.add_zero, Int.add_sub_cancel, Int.reduceAdd, Int.reduceMul, Int.reduceSub, Int.reduceNeg, ev_wr_id]) | ((first | with_reducible refine br_40 ?_ ?_ | with_reducible refine br_41 ?_ ?_ | with_reducible refine br_42 ?_ ?_ | with_reducible refine br_43 ?_ ?_ | with_reducible refine br_44 ?_ ?_ | with_reducible refine br_45 ?_ ?_ | with_reducible refine br_46 ?_ ?_ | with_reducible refine br_47 ?_ ?_ | with_reducible refine br_48 ?_ ?_ | with_reducible refine br_49 ?_ ?_ | with_reducible refine br_50 ?_ ?_ | with_reducible refine br_51 ?_ ?_) <;> intro h <;> try simp (disch := first | assumption | exact Nat.le_of_ble_eq_true rfl | omega) only [ev_wr_id, not_true_eq_false, not_false_eq_true, Int.reduceEq, Int.reduceLT, Int.reduceLE, and_self, and_true, true_and, and_false, false_and, reduceIte] at h <;> try (exfalso; omega; done)))
theorem c_144 {σ : ev_M} {s w o : Int} (a2 : st_I (σ 183)) (a8 : ∀ r, 0 ≤ r → r ≤ 9 → σ 184 r = ev_ps r) (hs : 0 ≤ s ∧ s < σ 183 0) (hw : 0 ≤ w ∧ w ≤ 60) (ho : -1 ≤ o ∧ o < 20) : ∃ f d, EM 144 [.inr (.inl 182), .inl s, .inl w, .inl o] σ = some (none, st_dd σ f d) ∧ st_sp (σ 183) w o s (st_F f) ∧ ∀ y, 0 ≤ y → y < 10 → f y = -1 ∨ (0 ≤ f y ∧ f y ≤ 990) := by
  have i0 := a2.1.1
  obtain ⟨f1, d1, e1, h1⟩ := l_144a (σ := σ) (s := s) (w := w) (o := o) (p5 := none) (p6 := none) (p7 := none) (by omega) 10 0 (σ 186) (σ 187) (by omega) (by omega) (fun y y0 y1 => by omega)
  rw [st_dd_s] at e1
  have hdi : st_di (σ 183) w o s f1 d1 := by
    refine ⟨fun y h0 h2 => ?_, ?_, fun y h0 h2 => ?_, fun z h0 h2 hz => ?_, fun r z y he hz => ?_, fun y h0 h2 hys hy => ?_⟩
    · rw [(h1 y h0 h2).2]
      omega
    · rw [(h1 s hs.1 (by omega)).1, if_pos rfl]
    · rw [(h1 y h0 h2).1]
      split
      · exact Or.inr ⟨Int.le_refl _, by omega⟩
      · exact Or.inl rfl
    · rw [(h1 z h0 h2).2] at hz
      omega
    · have g := st_ej_in a2 he
      rw [(h1 z g.1.1 (by omega)).2] at hz
      omega
    · rw [(h1 y h0 h2).1, if_neg hys] at hy
      exact absurd rfl hy
  obtain ⟨f, d, e, h⟩ := l_144 a2 a8 hs hw ho 10 s f1 d1 none none none (by omega) hdi (Or.inr ⟨hs, ⟨(h1 s hs.1 (by omega)).2, by rw [(h1 s hs.1 (by omega)).1, if_pos rfl]; omega⟩, fun y y0 y1 hy => by
    have h2 := h1 y y0 (by omega)
    have h3 := hy.2
    rw [(h1 s hs.1 (by omega)).1, if_pos rfl]
    rw [h2.1] at h3 ⊢
    by_cases c : y = s
    · rw [if_pos c]
      exact Int.le_refl _
    · rw [if_neg c] at h3
      exact absurd rfl h3⟩)
  refine ⟨f, d, ?_, h⟩
  rw [mm_144]
  repeat' (first | (simp (disch := first | assumption | exact Nat.le_of_ble_eq_true rfl | omega) only [bk_144_0, eo_6, eo_3_4n, eo_3_4i, eo_3_4r, eo_53, eo_0_4, eo_1_0, g11_28_4, eo_0_1, eo_52, bk_144_2, bk_144_3, g11_28_5, eo_23_4n, eo_23_4i, eo_23_4r, bk_144_4, eo_3_5n, eo_3_5i, eo_3_5r, eo_0_5, g11_28_0, v11_3, ev_ki, ev_kv, eo_3_6n, eo_3_6i, eo_3_6r, eo_10, eo_3_7n, eo_3_7i, eo_3_7r, eo_0_6, eo_0_2, eo_0_3, v11_4, eo_0_7, bk_144_7, bk_144_8, eo_23_5n, eo_23_5i, eo_23_5r, bk_144_9, bk_144_11, bk_144_12, bk_144_13, bk_144_14, bk_144_15, eo_58, a32_186, a33_186, a34_187, a35_187, a32_183, a33_183, c_143, c_113, c_142, Int.add_zero, Int.add_sub_cancel, Int.reduceAdd, Int.reduceMul, Int.reduceSub, Int.reduceNeg, ev_wr_id]) | ((first | with_reducible refine br_40 ?_ ?_ | with_reducible refine br_41 ?_ ?_ | with_reducible refine br_42 ?_ ?_ | with_reducible refine br_43 ?_ ?_ | with_reducible refine br_44 ?_ ?_ | with_reducible refine br_45 ?_ ?_ | with_reducible refine br_46 ?_ ?_ | with_reducible refine br_47 ?_ ?_ | with_reducible refine br_48 ?_ ?_ | with_reducible refine br_49 ?_ ?_ | with_reducible refine br_50 ?_ ?_ | with_reducible refine br_51 ?_ ?_) <;> intro h <;> try simp (disch := first | assumption | exact Nat.le_of_ble_eq_true rfl | omega) only [ev_wr_id, not_true_eq_false, not_false_eq_true, Int.reduceEq, Int.reduceLT, Int.reduceLE, and_self, and_true, true_and, and_false, false_and, reduceIte] at h <;> try (exfalso; omega; done)))
  rw [e1, bk_144_4]
  repeat' (first | (simp (disch := first | assumption | exact Nat.le_of_ble_eq_true rfl | omega) only [bk_144_0, eo_6, eo_3_4n, eo_3_4i, eo_3_4r, eo_53, eo_0_4, eo_1_0, g11_28_4, eo_0_1, eo_52, bk_144_2, bk_144_3, g11_28_5, eo_23_4n, eo_23_4i, eo_23_4r, bk_144_4, eo_3_5n, eo_3_5i, eo_3_5r, eo_0_5, g11_28_0, v11_3, ev_ki, ev_kv, eo_3_6n, eo_3_6i, eo_3_6r, eo_10, eo_3_7n, eo_3_7i, eo_3_7r, eo_0_6, eo_0_2, eo_0_3, v11_4, eo_0_7, bk_144_7, bk_144_8, eo_23_5n, eo_23_5i, eo_23_5r, bk_144_9, bk_144_11, bk_144_12, bk_144_13, bk_144_14, bk_144_15, eo_58, a32_186, a33_186, a34_187, a35_187, a32_183, a33_183, c_143, c_113, c_142, Int.add_zero, Int.add_sub_cancel, Int.reduceAdd, Int.reduceMul, Int.reduceSub, Int.reduceNeg, ev_wr_id]) | ((first | with_reducible refine br_40 ?_ ?_ | with_reducible refine br_41 ?_ ?_ | with_reducible refine br_42 ?_ ?_ | with_reducible refine br_43 ?_ ?_ | with_reducible refine br_44 ?_ ?_ | with_reducible refine br_45 ?_ ?_ | with_reducible refine br_46 ?_ ?_ | with_reducible refine br_47 ?_ ?_ | with_reducible refine br_48 ?_ ?_ | with_reducible refine br_49 ?_ ?_ | with_reducible refine br_50 ?_ ?_ | with_reducible refine br_51 ?_ ?_) <;> intro h <;> try simp (disch := first | assumption | exact Nat.le_of_ble_eq_true rfl | omega) only [ev_wr_id, not_true_eq_false, not_false_eq_true, Int.reduceEq, Int.reduceLT, Int.reduceLE, and_self, and_true, true_and, and_false, false_and, reduceIte] at h <;> try (exfalso; omega; done)))
  exact e
