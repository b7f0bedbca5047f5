/-! the years until a bridge weakens -/
theorem ev_fo_mono (r : Int) {st st2 : Int → Int} : ∀ (k : Nat) (o acc acc2 : Int), (∀ q, o ≤ q → q < o + k → st q ≤ st2 q) → acc ≤ acc2 → ev_fo r st k o acc ≤ ev_fo r st2 k o acc2 := by
  intro k
  induction k with
  | zero =>
    intro o acc acc2 h h1
    exact h1
  | succ k ih =>
    intro o acc acc2 h h1
    have ho := h o (by omega) (by omega)
    obtain ⟨x1, x2⟩ := ev_fo_s r st k o acc
    obtain ⟨y1, y2⟩ := ev_fo_s r st2 k o acc2
    have hq : ∀ q, o + 1 ≤ q → q < o + 1 + k → st q ≤ st2 q := fun q h0 h2 => h q (by omega) (by omega)
    by_cases hb : ev_bt r o
    · by_cases c1 : acc < st o
      · rw [x1 hb c1]
        by_cases c2 : acc2 < st2 o
        · rw [y1 hb c2]
          exact ih _ _ _ hq ho
        · rw [y2 (fun q => c2 q.2)]
          exact ih _ _ _ hq (by omega)
      · rw [x2 (fun q => c1 q.2)]
        by_cases c2 : acc2 < st2 o
        · rw [y1 hb c2]
          exact ih _ _ _ hq (by omega)
        · rw [y2 (fun q => c2 q.2)]
          exact ih _ _ _ hq h1
    · rw [x2 (fun q => hb q.1), y2 (fun q => hb q.1)]
      exact ih _ _ _ hq h1
theorem ev_sf_mono {ra ra2 re : Int → Int} {n : Int} : ∀ k : Nat, (k : Int) ≤ n → (∀ c, 0 ≤ c → c < n → ra c ≤ ra2 c) → ∀ c, n - k ≤ c → c < n → ev_sf ra re n k c ≤ ev_sf ra2 re n k c := by
  intro k
  induction k with
  | zero =>
    intro h0 h1 c h2 h3
    omega
  | succ k ih =>
    intro h0 h1 c h2 h3
    have h := ih (by omega) h1
    unfold ev_sf
    by_cases hc : c = n - 1 - k
    · rw [ev_u1_eq hc, ev_u1_eq hc]
      have h4 := ev_fo_mono (re (n - 1 - k)) (st := ev_sf ra re n k) (st2 := ev_sf ra2 re n k) k (n - k) (ev_g0 (re (n - 1 - k))) (ev_g0 (re (n - 1 - k))) (fun q q0 q1 => h q (by omega) (by omega)) (Int.le_refl _)
      have h5 := h1 (n - 1 - k) (by omega) (by omega)
      split <;> split <;> omega
    · rw [ev_u1_ne hc, ev_u1_ne hc]
      exact h c (by omega) h3
theorem ev_tr_mono {ra ra2 re : Int → Int} {n : Int} (hn : 0 ≤ n) (h : ∀ c, 0 ≤ c → c < n → ra c ≤ ra2 c) : ev_tr ra re n ≤ ev_tr ra2 re n := by
  unfold ev_tr
  by_cases c : n = 0
  · rw [if_pos c, if_pos c]
    omega
  · rw [if_neg c, if_neg c]
    exact ev_sf_mono n.toNat (by omega) h 0 (by omega) (by omega)
/-- a bridge's rating after some years -/
def st_wt (T : Int → Int) (b y : Int) : Int := ev_tr (fun c => st_ra T b c y) (fun c => T (119 + 30 * b + 5 * c + 4)) (T (89 + 5 * b + 1))
theorem st_wt_mono {T : Int → Int} {b y z : Int} (hI : st_I T) (hb : 0 ≤ b ∧ b < T 2) (h0 : 0 ≤ y) (h1 : y ≤ z) : st_wt T b z ≤ st_wt T b y := by
  have hbb := hI.2.2.1 b hb.1 hb.2
  refine ev_tr_mono hbb.2.1.1 (fun c q0 q1 => ?_)
  have hpc := hI.2.2.2.2.1 b c hb.1 hb.2 q0 q1
  have := Int.mul_le_mul_of_nonneg_right h1 hpc.2.2.2.1.1
  unfold st_ra
  split <;> split <;> omega
theorem st_wt_0 {T : Int → Int} {b : Int} (hI : st_I T) (hb : 0 ≤ b ∧ b < T 2) : st_wt T b 0 = st_rt T b := by
  have hbb := hI.2.2.1 b hb.1 hb.2
  exact ev_tr_congr hbb.2.1.1 (fun c q0 q1 => ⟨((st_G_0 hI).1 b c hb.1 hb.2 q0 q1).1.symm, rfl⟩)
theorem st_wt_G {T U : Int → Int} {f : Int → Int → Int} {b y : Int} (hI : st_I T) (hb : 0 ≤ b ∧ b < T 2) (hG : st_G T U f) (hf : ∀ c, 0 ≤ c → f b c = y) : st_rt U b = st_wt T b y := by
  have hbb := hI.2.2.1 b hb.1 hb.2
  have i2 := hI.1.2.2.1
  unfold st_rt st_wt
  rw [st_G_lo hI hG (89 + 5 * b + 1) (by omega) (by omega)]
  refine ev_tr_congr hbb.2.1.1 (fun c q0 q1 => ⟨?_, ?_⟩)
  · rw [(hG.1 b c hb.1 hb.2 q0 q1).1, hf c q0]
  · exact st_G_p hI hG (by omega) (by omega) (by omega)
theorem c_19T {b y : Int} {σ : ev_M} (hE : st_E (st_T σ ev_n) (σ 183)) (hI : st_I (σ 183)) (hb : 0 ≤ b ∧ b < σ 183 2) (hy : 0 ≤ y ∧ y ≤ 1000) : ∃ f g, EM 19 [.inr (.inl 170), .inr (.inl (ev_n + 6)), .inl b, .inl y] σ = some (some (.inl (st_wt (σ 183) b y)), ev_fr σ f g) := by
  have hI2 := st_I_E (st_E_s hE) hI
  have e2 := hE 2 (by omega) (by omega)
  have hb2 : 0 ≤ b ∧ b < st_T σ ev_n 2 := by omega
  have i2 := hI.1.2.2.1
  have hbb := hI.2.2.1 b hb.1 hb.2
  have hpk := st_pk hI2 hb2
  obtain ⟨f, g, e, hf, hg⟩ := c_19 ev_S_n (by omega) hpk hy
  have e11 : σ (ev_n + 11) b = σ 183 (89 + 5 * b + 1) := (tr_11 (by omega)).trans (hE _ (by omega) (by omega))
  refine ⟨f, g, ?_⟩
  rw [e, show ev_tr (ev_ra σ ev_n b y) (fun c => σ (ev_n + 16) (b * 6 + c)) (σ (ev_n + 11) b) = st_wt (σ 183) b y from ?_]
  rw [e11]
  refine ev_tr_congr hbb.2.1.1 (fun c h0 h1 => ⟨?_, ?_⟩)
  · unfold ev_ra st_ra
    rw [tr_13 (σ := σ) (s := ev_n) (b := b) (c := c) (by omega) (by omega), tr_14 (σ := σ) (s := ev_n) (b := b) (c := c) (by omega) (by omega), tr_15 (σ := σ) (s := ev_n) (b := b) (c := c) (by omega) (by omega), hE _ (by omega) (by omega), hE _ (by omega) (by omega), hE _ (by omega) (by omega)]
  · exact (tr_16 (by omega) (by omega)).trans (hE _ (by omega) (by omega))
theorem ev_fr_E {σ : ev_M} {f g : Int → Int} (hE : st_E (st_T σ ev_n) (σ 183)) : st_E (st_T (ev_fr σ f g) ev_n) (ev_fr σ f g 183) := by
  rw [ev_fr_row (by omega)]
  exact st_E_t (st_T_congr (fun o q0 q1 => ev_fr_row (by unfold ev_n; omega))) hE
theorem l_24 {b : Int} : ∀ (k : Nat) (p kept : Int) (p6 : Option ev_V) (σ : ev_M), p = 2 ^ k → p ≤ 1024 → st_E (st_T σ ev_n) (σ 183) → st_I (σ 183) → 0 ≤ b ∧ b < σ 183 2 → 0 ≤ kept ∧ kept ≤ 1000 → st_rt (σ 183) b ≤ st_wt (σ 183) b kept → (1000 < kept + p ∨ st_wt (σ 183) b (kept + p) < st_rt (σ 183) b) → ∃ m σ1, EB 24 1 [some (.inr (.inl 170)), some (.inr (.inl (ev_n + 6))), some (.inl b), some (.inl (st_rt (σ 183) b)), some (.inl kept), some (.inl (p / 2)), p6] [] σ = some (some (.inl (if m < 1000 then m + 1 else -1)), σ1) ∧ st_N σ σ1 ∧ σ1 183 = σ 183 ∧ (0 ≤ m ∧ m ≤ 1000) ∧ st_rt (σ 183) b ≤ st_wt (σ 183) b m ∧ (m < 1000 → st_wt (σ 183) b (m + 1) < st_rt (σ 183) b) := by
  intro k
  induction k with
  | zero =>
    intro p kept p6 σ hp hp2 a1 a2 hb hk hk1 hk2
    obtain rfl : p = 1 := hp
    refine ⟨kept, σ, ?_, st_N_r, rfl, hk, hk1, fun h => by omega⟩
    rw [bk_24_1]
    by_cases c : kept < 1000
    · rw [if_pos c]
      repeat' (first | (simp (disch := first | assumption | exact Nat.le_of_ble_eq_true rfl | omega) only [bk_24_0, eo_1_0, eo_1_1, eo_0_2, v2_3, ev_ki, ev_kv, eo_3_3n, eo_3_3i, eo_3_3r, eo_6, eo_3_4n, eo_3_4i, eo_3_4r, eo_3_5n, eo_3_5i, eo_3_5r, eo_53, eo_0_5, eo_0_4, eo_10, eo_3_6n, eo_3_6i, eo_3_6r, eo_0_6, v2_4, eo_0_3, bk_24_2, eo_13d, ev_div_id, eo_52, bk_24_3, bk_24_4, bk_24_5, eo_56i, Int.add_zero, Int.add_sub_cancel, Int.reduceAdd, Int.reduceMul, Int.reduceSub, Int.reduceNeg, ev_wr_id]) | ((first | with_reducible refine br_40 ?_ ?_ | with_reducible refine br_41 ?_ ?_ | with_reducible refine br_42 ?_ ?_ | with_reducible refine br_43 ?_ ?_ | with_reducible refine br_44 ?_ ?_ | with_reducible refine br_45 ?_ ?_ | with_reducible refine br_46 ?_ ?_ | with_reducible refine br_47 ?_ ?_ | with_reducible refine br_48 ?_ ?_ | with_reducible refine br_49 ?_ ?_ | with_reducible refine br_50 ?_ ?_ | with_reducible refine br_51 ?_ ?_) <;> intro h <;> try simp (disch := first | assumption | exact Nat.le_of_ble_eq_true rfl | omega) only [ev_wr_id, not_true_eq_false, not_false_eq_true, Int.reduceEq, Int.reduceLT, Int.reduceLE, and_self, and_true, true_and, and_false, false_and, reduceIte] at h <;> try (exfalso; omega; done)))
    · rw [if_neg c]
      repeat' (first | (simp (disch := first | assumption | exact Nat.le_of_ble_eq_true rfl | omega) only [bk_24_0, eo_1_0, eo_1_1, eo_0_2, v2_3, ev_ki, ev_kv, eo_3_3n, eo_3_3i, eo_3_3r, eo_6, eo_3_4n, eo_3_4i, eo_3_4r, eo_3_5n, eo_3_5i, eo_3_5r, eo_53, eo_0_5, eo_0_4, eo_10, eo_3_6n, eo_3_6i, eo_3_6r, eo_0_6, v2_4, eo_0_3, bk_24_2, eo_13d, ev_div_id, eo_52, bk_24_3, bk_24_4, bk_24_5, eo_56i, Int.add_zero, Int.add_sub_cancel, Int.reduceAdd, Int.reduceMul, Int.reduceSub, Int.reduceNeg, ev_wr_id]) | ((first | with_reducible refine br_40 ?_ ?_ | with_reducible refine br_41 ?_ ?_ | with_reducible refine br_42 ?_ ?_ | with_reducible refine br_43 ?_ ?_ | with_reducible refine br_44 ?_ ?_ | with_reducible refine br_45 ?_ ?_ | with_reducible refine br_46 ?_ ?_ | with_reducible refine br_47 ?_ ?_ | with_reducible refine br_48 ?_ ?_ | with_reducible refine br_49 ?_ ?_ | with_reducible refine br_50 ?_ ?_ | with_reducible refine br_51 ?_ ?_) <;> intro h <;> try simp (disch := first | assumption | exact Nat.le_of_ble_eq_true rfl | omega) only [ev_wr_id, not_true_eq_false, not_false_eq_true, Int.reduceEq, Int.reduceLT, Int.reduceLE, and_self, and_true, true_and, and_false, false_and, reduceIte] at h <;> try (exfalso; omega; done)))
  | succ k ih =>
    intro p kept p6 σ hp hp2 a1 a2 hb hk hk1 hk2
    have h2 : (2 : Int) ^ (k + 1) = 2 ^ k * 2 := Int.pow_succ 2 k
    have h1 : (0 : Int) < 2 ^ k := Int.pow_pos (by omega)
    obtain ⟨w, hw⟩ : ∃ w : Int, w = 2 ^ k := ⟨_, rfl⟩
    rw [← hw] at h1 h2
    have hpw : p / 2 = w := by omega
    have hrt := st_rt_in a2 hb
    rw [hpw]
    by_cases c1 : kept + w ≤ 1000
    · obtain ⟨f, g, e19⟩ := c_19T a1 a2 hb (y := kept + w) (by omega)
      have m183 : ev_fr σ f g 183 = σ 183 := ev_fr_row (by omega)
      have hwt : 0 ≤ st_wt (σ 183) b (kept + w) ∧ st_wt (σ 183) b (kept + w) ≤ 9 := ev_tr_in (a2.2.2.1 b hb.1 hb.2).2.1.1 (fun c q0 q1 => by
        have hpc := a2.2.2.2.2.1 b c hb.1 hb.2 q0 q1
        exact (st_rw_in hpc.2.1 hpc.2.2.1 hpc.2.2.2.1 (by omega)).1)
      by_cases c2 : st_wt (σ 183) b (kept + w) < st_rt (σ 183) b
      · obtain ⟨m, σ1, e, hN, h183, h⟩ := ih w kept (some (.inl (kept + w))) (ev_fr σ f g) hw (by omega) (ev_fr_E a1) (by rw [m183]; exact a2) (by rw [m183]; exact hb) hk (by rw [m183]; exact hk1) (by rw [m183]; exact Or.inr c2)
        rw [m183] at e h
        refine ⟨m, σ1, ?_, st_N_t st_N_fr hN, by rw [h183, m183], h⟩
        rw [← e, bk_24_1]
        repeat' (first | (simp (disch := first | assumption | exact Nat.le_of_ble_eq_true rfl | omega) only [bk_24_0, eo_1_0, eo_1_1, eo_0_2, v2_3, ev_ki, ev_kv, eo_3_3n, eo_3_3i, eo_3_3r, eo_6, eo_3_4n, eo_3_4i, eo_3_4r, eo_3_5n, eo_3_5i, eo_3_5r, eo_53, eo_0_5, eo_0_4, eo_10, eo_3_6n, eo_3_6i, eo_3_6r, eo_0_6, v2_4, eo_0_3, bk_24_2, eo_13d, ev_div_id, eo_52, bk_24_3, bk_24_4, bk_24_5, eo_56i, e19, Int.add_zero, Int.add_sub_cancel, Int.reduceAdd, Int.reduceMul, Int.reduceSub, Int.reduceNeg, ev_wr_id]) | ((first | with_reducible refine br_40 ?_ ?_ | with_reducible refine br_41 ?_ ?_ | with_reducible refine br_42 ?_ ?_ | with_reducible refine br_43 ?_ ?_ | with_reducible refine br_44 ?_ ?_ | with_reducible refine br_45 ?_ ?_ | with_reducible refine br_46 ?_ ?_ | with_reducible refine br_47 ?_ ?_ | with_reducible refine br_48 ?_ ?_ | with_reducible refine br_49 ?_ ?_ | with_reducible refine br_50 ?_ ?_ | with_reducible refine br_51 ?_ ?_) <;> intro h <;> try simp (disch := first | assumption | exact Nat.le_of_ble_eq_true rfl | omega) only [ev_wr_id, not_true_eq_false, not_false_eq_true, Int.reduceEq, Int.reduceLT, Int.reduceLE, and_self, and_true, true_and, and_false, false_and, reduceIte] at h <;> try (exfalso; omega; done)))
      · obtain ⟨m, σ1, e, hN, h183, h⟩ := ih w (kept + w) (some (.inl (kept + w))) (ev_fr σ f g) hw (by omega) (ev_fr_E a1) (by rw [m183]; exact a2) (by rw [m183]; exact hb) (by omega) (by rw [m183]; omega) (by rw [m183, show kept + w + w = kept + p by omega]; exact hk2)
        rw [m183] at e h
        refine ⟨m, σ1, ?_, st_N_t st_N_fr hN, by rw [h183, m183], h⟩
        rw [← e, bk_24_1]
        repeat' (first | (simp (disch := first | assumption | exact Nat.le_of_ble_eq_true rfl | omega) only [bk_24_0, eo_1_0, eo_1_1, eo_0_2, v2_3, ev_ki, ev_kv, eo_3_3n, eo_3_3i, eo_3_3r, eo_6, eo_3_4n, eo_3_4i, eo_3_4r, eo_3_5n, eo_3_5i, eo_3_5r, eo_53, eo_0_5, eo_0_4, eo_10, eo_3_6n, eo_3_6i, eo_3_6r, eo_0_6, v2_4, eo_0_3, bk_24_2, eo_13d, ev_div_id, eo_52, bk_24_3, bk_24_4, bk_24_5, eo_56i, e19, Int.add_zero, Int.add_sub_cancel, Int.reduceAdd, Int.reduceMul, Int.reduceSub, Int.reduceNeg, ev_wr_id]) | ((first | with_reducible refine br_40 ?_ ?_ | with_reducible refine br_41 ?_ ?_ | with_reducible refine br_42 ?_ ?_ | with_reducible refine br_43 ?_ ?_ | with_reducible refine br_44 ?_ ?_ | with_reducible refine br_45 ?_ ?_ | with_reducible refine br_46 ?_ ?_ | with_reducible refine br_47 ?_ ?_ | with_reducible refine br_48 ?_ ?_ | with_reducible refine br_49 ?_ ?_ | with_reducible refine br_50 ?_ ?_ | with_reducible refine br_51 ?_ ?_) <;> intro h <;> try simp (disch := first | assumption | exact Nat.le_of_ble_eq_true rfl | omega) only [ev_wr_id, not_true_eq_false, not_false_eq_true, Int.reduceEq, Int.reduceLT, Int.reduceLE, and_self, and_true, true_and, and_false, false_and, reduceIte] at h <;> try (exfalso; omega; done)))
    · obtain ⟨m, σ1, e, h⟩ := ih w kept (some (.inl (kept + w))) σ hw (by omega) a1 a2 hb hk hk1 (by omega)
      refine ⟨m, σ1, ?_, h⟩
      rw [← e, bk_24_1]
      repeat' (first | (simp (disch := first | assumption | exact Nat.le_of_ble_eq_true rfl | omega) only [bk_24_0, eo_1_0, eo_1_1, eo_0_2, v2_3, ev_ki, ev_kv, eo_3_3n, eo_3_3i, eo_3_3r, eo_6, eo_3_4n, eo_3_4i, eo_3_4r, eo_3_5n, eo_3_5i, eo_3_5r, eo_53, eo_0_5, eo_0_4, eo_10, eo_3_6n, eo_3_6i, eo_3_6r, eo_0_6, v2_4, eo_0_3, bk_24_2, eo_13d, ev_div_id, eo_52, bk_24_3, bk_24_4, bk_24_5, eo_56i, Int.add_zero, Int.add_sub_cancel, Int.reduceAdd, Int.reduceMul, Int.reduceSub, Int.reduceNeg, ev_wr_id]) | ((first | with_reducible refine br_40 ?_ ?_ | with_reducible refine br_41 ?_ ?_ | with_reducible refine br_42 ?_ ?_ | with_reducible refine br_43 ?_ ?_ | with_reducible refine br_44 ?_ ?_ | with_reducible refine br_45 ?_ ?_ | with_reducible refine br_46 ?_ ?_ | with_reducible refine br_47 ?_ ?_ | with_reducible refine br_48 ?_ ?_ | with_reducible refine br_49 ?_ ?_ | with_reducible refine br_50 ?_ ?_ | with_reducible refine br_51 ?_ ?_) <;> intro h <;> try simp (disch := first | assumption | exact Nat.le_of_ble_eq_true rfl | omega) only [ev_wr_id, not_true_eq_false, not_false_eq_true, Int.reduceEq, Int.reduceLT, Int.reduceLE, and_self, and_true, true_and, and_false, false_and, reduceIte] at h <;> try (exfalso; omega; done)))
