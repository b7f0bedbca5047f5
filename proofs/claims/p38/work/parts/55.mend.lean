/-! repairs -/
def st_ml (U : Int → Int) (l : Int) : Int → Int := ev_u1 (ev_u1 U (119 + 30 * U (299 + 3 * l) + 5 * U (299 + 3 * l + 1) + 1) (if U (119 + 30 * U (299 + 3 * l) + 5 * U (299 + 3 * l + 1) + 1) + U (299 + 3 * l + 2) < 9 then U (119 + 30 * U (299 + 3 * l) + 5 * U (299 + 3 * l + 1) + 1) + U (299 + 3 * l + 2) else 9)) (119 + 30 * U (299 + 3 * l) + 5 * U (299 + 3 * l + 1) + 2) 0
def st_md : Nat → Int → (Int → Int) → Int → Int
  | 0, _, U => U
  | k + 1, l, U => st_md k (l + 1) (st_ml U l)
theorem st_ml_I {U : Int → Int} {l : Int} (h : st_I U) (hl : 0 ≤ l ∧ l < U 3) : st_I (st_ml U l) := by
  have g := h.2.2.2.2.2.1 l hl.1 hl.2
  have hpc := h.2.2.2.2.1 _ _ g.1.1 g.1.2 g.2.1.1 g.2.1.2
  have h2 := pi_part (v := if U (119 + 30 * U (299 + 3 * l) + 5 * U (299 + 3 * l + 1) + 1) + U (299 + 3 * l + 2) < 9 then U (119 + 30 * U (299 + 3 * l) + 5 * U (299 + 3 * l + 1) + 1) + U (299 + 3 * l + 2) else 9) h g.1 g.2.1 (Or.inl ⟨rfl, by split <;> omega⟩)
  have i2 := h.1.2.2.1
  have hbb := h.2.2.1 _ g.1.1 g.1.2
  exact pi_part h2 (by rw [ev_u1_ne (by omega)]; exact g.1) (by rw [ev_u1_ne (by omega)]; exact g.2.1) (Or.inr (Or.inl ⟨rfl, by omega⟩))
theorem st_ml_out {U : Int → Int} {l : Int} (h : st_I U) (hl : 0 ≤ l ∧ l < U 3) : (∀ k, k < 119 ∨ 299 ≤ k → st_ml U l k = U k) ∧ ∀ b c o, 0 ≤ b → b < 6 → 0 ≤ c → c < 6 → o = 0 ∨ o = 3 ∨ o = 4 → st_ml U l (119 + 30 * b + 5 * c + o) = U (119 + 30 * b + 5 * c + o) := by
  have g := h.2.2.2.2.2.1 l hl.1 hl.2
  have i2 := h.1.2.2.1
  have hbb := h.2.2.1 _ g.1.1 g.1.2
  unfold st_ml
  constructor
  · intro k hk
    rw [ev_u1_ne (by omega), ev_u1_ne (by omega)]
  · intro b c o h0 h1 h2 h3 ho
    rw [ev_u1_ne (by omega), ev_u1_ne (by omega)]
theorem st_ml_E {U V : Int → Int} {l : Int} (e : st_E U V) (h : st_I U) (hl : 0 ≤ l ∧ l < U 3) : st_E (st_ml U l) (st_ml V l) := by
  have g := h.2.2.2.2.2.1 l hl.1 hl.2
  have i2 := h.1.2.2.1
  have i3 := h.1.2.2.2.1
  have hbb := h.2.2.1 _ g.1.1 g.1.2
  have e1 := e (299 + 3 * l) (by omega) (by omega)
  have e2 := e (299 + 3 * l + 1) (by omega) (by omega)
  have e3 := e (299 + 3 * l + 2) (by omega) (by omega)
  have e4 := e (119 + 30 * U (299 + 3 * l) + 5 * U (299 + 3 * l + 1) + 1) (by omega) (by omega)
  unfold st_ml
  rw [← e1, ← e2, ← e3, ← e4]
  exact st_E_u (st_E_u e)
theorem st_md_E : ∀ (k : Nat) (l : Int) (U V : Int → Int), st_E U V → st_I U → 0 ≤ l → l + k = U 3 → st_E (st_md k l U) (st_md k l V) ∧ st_I (st_md k l U) := by
  intro k
  induction k with
  | zero =>
    intro l U V e h h0 h1
    exact ⟨e, h⟩
  | succ k ih =>
    intro l U V e h h0 h1
    exact ih (l + 1) _ _ (st_ml_E e h (by omega)) (st_ml_I h (by omega)) (by omega) (by rw [(st_ml_out h (by omega)).1 3 (by omega)]; omega)
theorem st_md_hi : ∀ (k : Nat) (l : Int) (U : Int → Int), st_I U → 0 ≤ l → l + k = U 3 → ∀ q, 299 ≤ q → st_md k l U q = U q := by
  intro k
  induction k with
  | zero =>
    intro l U h h0 h1 q hq
    rfl
  | succ k ih =>
    intro l U h h0 h1 q hq
    have ho := st_ml_out h (l := l) (by omega)
    rw [show st_md (k + 1) l U = st_md k (l + 1) (st_ml U l) from rfl, ih (l + 1) _ (st_ml_I h (by omega)) (by omega) (by rw [ho.1 3 (by omega)]; omega) q hq, ho.1 q (by omega)]
theorem l_55 : ∀ (k : Nat) (l : Int) (p2 : Option ev_V) (U : Int → Int) (σ : ev_M), st_I U → 0 ≤ l → l + k = U 3 → st_E (st_T σ ev_n) U → ∃ σ1, EB 55 1 [some (.inr (.inl ev_n)), some (.inl l), p2] [] σ = some (none, σ1) ∧ (∀ i, i ≠ ev_n + 13 → i ≠ ev_n + 14 → i ≠ ev_n + 17 → σ1 i = σ i) ∧ st_E (st_T σ1 ev_n) (ev_u1 (st_md k l U) 3 0) := by
  have hSn := ev_S_n
  have hn0 : ev_n = 0 := rfl
  intro k
  induction k with
  | zero =>
    intro l p2 U σ h h0 h1 hE
    have i3 := h.1.2.2.2.1
    have e17 : σ (ev_n + 17) 0 = l := by rw [tr_n3 (σ := σ) (s := ev_n), hE _ (by omega) (by omega)]; omega
    refine ⟨ev_up σ (ev_n + 17) 0 0, ?_, fun i q0 q1 q2 => by funext z; exact ev_up_ne (by omega), st_E_t tw_n3 (st_E_u hE)⟩
    rw [bk_55_1]
    repeat' (first | (simp (disch := first | assumption | exact Nat.le_of_ble_eq_true rfl | omega) only [bk_55_0, eo_6, eo_3_1n, eo_3_1i, eo_3_1r, eo_53, eo_0_1, eo_1_0, g7_28_2, g4_27, g4_28_2, g4_28_3, eo_60_2, ev_ki, ev_kv, eo_3_2n, eo_3_2i, eo_3_2r, g7_28_1, eo_0_2, g1_28_7, g4_28_4, eo_10, eo_63, v1_3, eo_23_1n, eo_23_1i, eo_23_1r, eo_52, bk_55_2, g4_30, eo_58, a32_s18, a32_s19, a32_s13, a32_s20, c_5, c_11, e17, Int.add_zero, Int.add_sub_cancel, Int.reduceAdd, Int.reduceMul, Int.reduceSub, Int.reduceNeg, ev_wr_id]) | ((first | with_reducible refine br_40 ?_ ?_ | with_reducible refine br_41 ?_ ?_ | with_reducible refine br_42 ?_ ?_ | with_reducible refine br_43 ?_ ?_ | with_reducible refine br_44 ?_ ?_ | with_reducible refine br_45 ?_ ?_ | with_reducible refine br_46 ?_ ?_ | with_reducible refine br_47 ?_ ?_ | with_reducible refine br_48 ?_ ?_ | with_reducible refine br_49 ?_ ?_ | with_reducible refine br_50 ?_ ?_ | with_reducible refine br_51 ?_ ?_) <;> intro h <;> try simp (disch := first | assumption | exact Nat.le_of_ble_eq_true rfl | omega) only [ev_wr_id, not_true_eq_false, not_false_eq_true, Int.reduceEq, Int.reduceLT, Int.reduceLE, and_self, and_true, true_and, and_false, false_and, reduceIte] at h <;> try (exfalso; omega; done)))
  | succ k ih =>
    intro l p2 U σ h h0 h1 hE
    have i2 := h.1.2.2.1
    have i3 := h.1.2.2.2.1
    have e17 : σ (ev_n + 17) 0 = U 3 := by rw [tr_n3 (σ := σ) (s := ev_n), hE _ (by omega) (by omega)]
    have g := h.2.2.2.2.2.1 l h0 (by omega)
    have hbb := h.2.2.1 _ g.1.1 g.1.2
    have e18 : σ (ev_n + 18) l = U (299 + 3 * l) := by rw [tr_18 (σ := σ) (s := ev_n) (by omega), hE _ (by omega) (by omega)]
    have e19 : σ (ev_n + 19) l = U (299 + 3 * l + 1) := by rw [tr_19 (σ := σ) (s := ev_n) (by omega), hE _ (by omega) (by omega)]
    have e20 : σ (ev_n + 20) l = U (299 + 3 * l + 2) := by rw [tr_20 (σ := σ) (s := ev_n) (by omega), hE _ (by omega) (by omega)]
    have hout := st_ml_out h (l := l) (by omega)
    have hml := st_ml_I h (l := l) (by omega)
    have hpc := h.2.2.2.2.1 _ _ g.1.1 g.1.2 g.2.1.1 g.2.1.2
    obtain ⟨b, hbq⟩ : ∃ b, b = U (299 + 3 * l) := ⟨_, rfl⟩
    obtain ⟨c, hcq⟩ : ∃ c, c = U (299 + 3 * l + 1) := ⟨_, rfl⟩
    have hmd : st_ml U l = ev_u1 (ev_u1 U (119 + 30 * b + 5 * c + 1) (if U (119 + 30 * b + 5 * c + 1) + U (299 + 3 * l + 2) < 9 then U (119 + 30 * b + 5 * c + 1) + U (299 + 3 * l + 2) else 9)) (119 + 30 * b + 5 * c + 2) 0 := by rw [hbq, hcq]; rfl
    rw [← hbq] at e18 g hbb hpc
    rw [← hcq] at e19 g hpc
    have e13 : σ (ev_n + 13) (b * 6 + c) = U (119 + 30 * b + 5 * c + 1) := by rw [tr_13 (σ := σ) (s := ev_n) (b := b) (c := c) (by omega) (by omega), hE _ (by omega) (by omega)]
    obtain ⟨v, hv⟩ : ∃ v, v = if U (119 + 30 * b + 5 * c + 1) + U (299 + 3 * l + 2) < 9 then U (119 + 30 * b + 5 * c + 1) + U (299 + 3 * l + 2) else 9 := ⟨_, rfl⟩
    rw [← hv] at hmd
    obtain ⟨σ1, e, hF, hE1⟩ := ih (l + 1) (some (.inl (b * 6 + c))) (st_ml U l) (ev_up (ev_up σ (ev_n + 13) (b * 6 + c) v) (ev_n + 14) (b * 6 + c) 0) hml (by omega) (by rw [hout.1 3 (by omega)]; omega) (by
      rw [hmd]
      exact st_E_t (tw_14 (by omega) (by omega)) (st_E_u (st_E_t (tw_13 (by omega) (by omega)) (st_E_u hE))))
    refine ⟨σ1, ?_, fun i q0 q1 q2 => by rw [hF i q0 q1 q2]; funext z; simp (disch := omega) only [ev_up_ne], hE1⟩
    rw [← e, bk_55_1]
    have hvs := hv.symm
    repeat' (first | (simp (disch := first | assumption | exact Nat.le_of_ble_eq_true rfl | omega) only [bk_55_0, eo_6, eo_3_1n, eo_3_1i, eo_3_1r, eo_53, eo_0_1, eo_1_0, g7_28_2, g4_27, g4_28_2, g4_28_3, eo_60_2, ev_ki, ev_kv, eo_3_2n, eo_3_2i, eo_3_2r, g7_28_1, eo_0_2, g1_28_7, g4_28_4, eo_10, eo_63, v1_3, eo_23_1n, eo_23_1i, eo_23_1r, eo_52, bk_55_2, g4_30, eo_58, a32_s18, a32_s19, a32_s13, a32_s20, c_5, c_11, e17, e18, e19, e20, e13, hvs, Int.add_zero, Int.add_sub_cancel, Int.reduceAdd, Int.reduceMul, Int.reduceSub, Int.reduceNeg, ev_wr_id]) | ((first | with_reducible refine br_40 ?_ ?_ | with_reducible refine br_41 ?_ ?_ | with_reducible refine br_42 ?_ ?_ | with_reducible refine br_43 ?_ ?_ | with_reducible refine br_44 ?_ ?_ | with_reducible refine br_45 ?_ ?_ | with_reducible refine br_46 ?_ ?_ | with_reducible refine br_47 ?_ ?_ | with_reducible refine br_48 ?_ ?_ | with_reducible refine br_49 ?_ ?_ | with_reducible refine br_50 ?_ ?_ | with_reducible refine br_51 ?_ ?_) <;> intro h <;> try simp (disch := first | assumption | exact Nat.le_of_ble_eq_true rfl | omega) only [ev_wr_id, not_true_eq_false, not_false_eq_true, Int.reduceEq, Int.reduceLT, Int.reduceLE, and_self, and_true, true_and, and_false, false_and, reduceIte] at h <;> try (exfalso; omega; done)))
theorem c_55 {T : Int → Int} {σ : ev_M} (h : st_I T) (hE : st_E (st_T σ ev_n) T) : ∃ σ1, EM 55 [.inr (.inl ev_n)] σ = some (none, σ1) ∧ (∀ i, i ≠ ev_n + 13 → i ≠ ev_n + 14 → i ≠ ev_n + 17 → σ1 i = σ i) ∧ st_E (st_T σ1 ev_n) (ev_u1 (st_md (T 3).toNat 0 T) 3 0) := by
  have i3 := h.1.2.2.2.1
  obtain ⟨σ1, e, hh⟩ := l_55 (T 3).toNat 0 none T σ h (by omega) (by omega) hE
  refine ⟨σ1, ?_, hh⟩
  rw [mm_55]
  repeat' (first | (simp (disch := first | assumption | exact Nat.le_of_ble_eq_true rfl | omega) only [bk_55_0, eo_6, eo_3_1n, eo_3_1i, eo_3_1r, eo_53, eo_0_1, eo_1_0, g7_28_2, g4_27, g4_28_2, g4_28_3, eo_60_2, ev_ki, ev_kv, eo_3_2n, eo_3_2i, eo_3_2r, g7_28_1, eo_0_2, g1_28_7, g4_28_4, eo_10, eo_63, v1_3, eo_23_1n, eo_23_1i, eo_23_1r, eo_52, bk_55_2, g4_30, eo_58, a32_s18, a32_s19, a32_s13, a32_s20, c_5, c_11, Int.add_zero, Int.add_sub_cancel, Int.reduceAdd, Int.reduceMul, Int.reduceSub, Int.reduceNeg, ev_wr_id]) | ((first | with_reducible refine br_40 ?_ ?_ | with_reducible refine br_41 ?_ ?_ | with_reducible refine br_42 ?_ ?_ | with_reducible refine br_43 ?_ ?_ | with_reducible refine br_44 ?_ ?_ | with_reducible refine br_45 ?_ ?_ | with_reducible refine br_46 ?_ ?_ | with_reducible refine br_47 ?_ ?_ | with_reducible refine br_48 ?_ ?_ | with_reducible refine br_49 ?_ ?_ | with_reducible refine br_50 ?_ ?_ | with_reducible refine br_51 ?_ ?_) <;> intro h <;> try simp (disch := first | assumption | exact Nat.le_of_ble_eq_true rfl | omega) only [ev_wr_id, not_true_eq_false, not_false_eq_true, Int.reduceEq, Int.reduceLT, Int.reduceLE, and_self, and_true, true_and, and_false, false_and, reduceIte] at h <;> try (exfalso; omega; done)))
  exact e
