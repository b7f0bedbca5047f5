/-! settling the award: the class's side -/
def st_w (σ : ev_M) (c : Int) (u t : Int → Int) : ev_M := fun a z => if a = 181 then t z else if a = 180 then u z else if a = 179 ∧ z = 0 then c else σ a z
theorem st_w_o {σ : ev_M} {c i : Int} {u t : Int → Int} (h : i ≠ 179 ∧ i ≠ 180 ∧ i ≠ 181) : st_w σ c u t i = σ i := by
  funext z
  unfold st_w
  rw [if_neg (by omega), if_neg (by omega), if_neg (by omega)]
theorem st_w_0 {σ : ev_M} {c : Int} {u t : Int → Int} : st_w σ c u t 179 0 = c := by
  unfold st_w
  simp
theorem st_w_1 {σ : ev_M} {c : Int} {u t : Int → Int} : st_w σ c u t 180 = u := by
  funext z
  unfold st_w
  simp
theorem st_w_2 {σ : ev_M} {c : Int} {u t : Int → Int} : st_w σ c u t 181 = t := by
  funext z
  unfold st_w
  simp
theorem st_w_c {σ : ev_M} {c v : Int} {u t : Int → Int} : ev_up (st_w σ c u t) 179 0 v = st_w σ v u t := by
  funext a z
  unfold ev_up st_w
  by_cases h1 : a = 181
  · subst h1
    simp
  · by_cases h2 : a = 180
    · subst h2
      simp
    · by_cases h3 : a = 179
      · subst h3
        by_cases h4 : z = 0 <;> simp [h4]
      · simp [h1, h2, h3]
theorem st_w_u {σ : ev_M} {c k v : Int} {u t : Int → Int} : ev_up (st_w σ c u t) 180 k v = st_w σ c (ev_u1 u k v) t := by
  funext a z
  unfold ev_up st_w ev_u1
  by_cases h1 : a = 181
  · subst h1
    simp
  · by_cases h2 : a = 180
    · subst h2
      simp
    · simp [h1, h2]
theorem st_w_t {σ : ev_M} {c : Int} {u t t2 : Int → Int} : ev_ua (st_w σ c u t) 181 t2 = st_w σ c u t2 := by
  funext a z
  unfold ev_ua st_w
  by_cases h1 : a = 181
  · simp [h1]
  · simp [h1]
theorem st_w_p {σ : ev_M} {c : Int} {u t : Int → Int} : ev_cp (st_w σ c u t) 181 0 180 0 8 = st_w σ c (fun y => if 0 ≤ y ∧ y < 8 then t y else u y) t := by
  funext a z
  unfold ev_cp st_w
  by_cases h1 : a = 181
  · subst h1
    simp
  · by_cases h2 : a = 180
    · subst h2
      simp
    · simp [h1, h2]
theorem st_w_s {σ : ev_M} : st_w σ (σ 179 0) (σ 180) (σ 181) = σ := by
  funext a z
  unfold st_w
  by_cases h1 : a = 181
  · simp [h1]
  · by_cases h2 : a = 180
    · simp [h2]
    · by_cases h3 : a = 179 ∧ z = 0
      · simp [h3]
      · simp [h1, h2, h3]
theorem st_gy_eq {c : Int → Int → Int} {B s : Int} {L : Nat} {t u : Int → Int} (h : ∀ k : Nat, k < L → u k = t k) (g : st_gy c B L s t) : st_gy c B L s u := fun k hk => by
  rw [h k hk]
  exact g k hk
theorem l_3 {σ : ev_M} {B L : Int} {M : Nat} (hB : 0 < B ∧ B ≤ 3) (hM : L = M) (hL : L ≤ 8) (ht : st_va B M (σ 181)) (hu : st_va B M (σ 180)) : ∀ (k m : Nat) (n : Int), n = m → m + k = M → (∀ j : Nat, j < m → σ 181 j = σ 180 j) → EB 3 1 [some (.inr (.inl 179)), some (.inl L), some (.inl n)] [] σ = some (some (.inl (if st_nm B (σ 181) M < st_nm B (σ 180) M then 1 else 0)), σ) := by
  intro k
  induction k with
  | zero =>
    intro m n hn hm hj
    rw [if_neg (by rw [st_nm_eq M (fun j hk => hj j (by omega))]; exact Int.lt_irrefl _)]
    have hnL : n = L ∧ 0 ≤ L := by omega
    clear hj hm hn ht hu hM
    rw [bk_3_1]
    repeat' (first | (simp (disch := first | assumption | exact Nat.le_of_ble_eq_true rfl | omega) only [bk_3_0, eo_6, eo_3_2n, eo_3_2i, eo_3_2r, eo_53, eo_0_2, eo_0_1, eo_1_0, g0_28_2, g0_28_1, eo_52, bk_3_2, bk_3_3, eo_56z, bk_3_4, eo_23_2n, eo_23_2i, eo_23_2r, bk_3_5, a32_181, a32_180, Int.add_zero, Int.add_sub_cancel, Int.reduceAdd, Int.reduceMul, Int.reduceSub, Int.reduceNeg, ev_wr_id]) | ((first | with_reducible refine br_40 ?_ ?_ | with_reducible refine br_41 ?_ ?_ | with_reducible refine br_42 ?_ ?_ | with_reducible refine br_43 ?_ ?_ | with_reducible refine br_44 ?_ ?_ | with_reducible refine br_45 ?_ ?_ | with_reducible refine br_46 ?_ ?_ | with_reducible refine br_47 ?_ ?_ | with_reducible refine br_48 ?_ ?_ | with_reducible refine br_49 ?_ ?_ | with_reducible refine br_50 ?_ ?_ | with_reducible refine br_51 ?_ ?_) <;> intro h <;> try simp (disch := first | assumption | exact Nat.le_of_ble_eq_true rfl | omega) only [ev_wr_id, not_true_eq_false, not_false_eq_true, Int.reduceEq, Int.reduceLT, Int.reduceLE, and_self, and_true, true_and, and_false, false_and, reduceIte] at h <;> try (exfalso; omega; done)))
  | succ k ih =>
    intro m n hn hm hj
    have h1 := ht m (by omega)
    have h2 := hu m (by omega)
    have hnL : 0 ≤ n ∧ n < L := by omega
    obtain ⟨x, hx⟩ : ∃ x, x = σ 181 n := ⟨_, rfl⟩
    obtain ⟨y, hy⟩ : ∃ y, y = σ 180 n := ⟨_, rfl⟩
    have hx2 := hx.symm
    have hy2 := hy.symm
    rw [← hn, ← hx] at h1
    rw [← hn, ← hy] at h2
    by_cases c1 : x = y
    · have e := ih (m + 1) (n + 1) (by omega) (by omega) (fun j hk => by
        by_cases c : j = m
        · rw [c, ← hn, ← hx, ← hy]; exact c1
        · exact hj j (by omega))
      rw [← e]
      clear e ih hj hm hn ht hu hM hx hy
      rw [bk_3_1]
      repeat' (first | (simp (disch := first | assumption | exact Nat.le_of_ble_eq_true rfl | omega) only [bk_3_0, eo_6, eo_3_2n, eo_3_2i, eo_3_2r, eo_53, eo_0_2, eo_0_1, eo_1_0, g0_28_2, g0_28_1, eo_52, bk_3_2, bk_3_3, eo_56z, bk_3_4, eo_23_2n, eo_23_2i, eo_23_2r, bk_3_5, a32_181, a32_180, hx2, hy2, Int.add_zero, Int.add_sub_cancel, Int.reduceAdd, Int.reduceMul, Int.reduceSub, Int.reduceNeg, ev_wr_id]) | ((first | with_reducible refine br_40 ?_ ?_ | with_reducible refine br_41 ?_ ?_ | with_reducible refine br_42 ?_ ?_ | with_reducible refine br_43 ?_ ?_ | with_reducible refine br_44 ?_ ?_ | with_reducible refine br_45 ?_ ?_ | with_reducible refine br_46 ?_ ?_ | with_reducible refine br_47 ?_ ?_ | with_reducible refine br_48 ?_ ?_ | with_reducible refine br_49 ?_ ?_ | with_reducible refine br_50 ?_ ?_ | with_reducible refine br_51 ?_ ?_) <;> intro h <;> try simp (disch := first | assumption | exact Nat.le_of_ble_eq_true rfl | omega) only [ev_wr_id, not_true_eq_false, not_false_eq_true, Int.reduceEq, Int.reduceLT, Int.reduceLE, and_self, and_true, true_and, and_false, false_and, reduceIte] at h <;> try (exfalso; omega; done)))
    · have e1 : st_nm B (σ 181) m = st_nm B (σ 180) m := st_nm_eq m hj
      by_cases c2 : x < y
      · have e2 : st_nm B (σ 181) (m + 1) < st_nm B (σ 180) (m + 1) := by
          unfold st_nm
          rw [e1, ← hn, ← hx, ← hy]
          omega
        rw [if_pos (st_nm_lt hB k (m + 1) M (by omega) ht hu e2)]
        clear e1 e2 ih hj hm hn ht hu hM hx hy
        rw [bk_3_1]
        repeat' (first | (simp (disch := first | assumption | exact Nat.le_of_ble_eq_true rfl | omega) only [bk_3_0, eo_6, eo_3_2n, eo_3_2i, eo_3_2r, eo_53, eo_0_2, eo_0_1, eo_1_0, g0_28_2, g0_28_1, eo_52, bk_3_2, bk_3_3, eo_56z, bk_3_4, eo_23_2n, eo_23_2i, eo_23_2r, bk_3_5, a32_181, a32_180, hx2, hy2, Int.add_zero, Int.add_sub_cancel, Int.reduceAdd, Int.reduceMul, Int.reduceSub, Int.reduceNeg, ev_wr_id]) | ((first | with_reducible refine br_40 ?_ ?_ | with_reducible refine br_41 ?_ ?_ | with_reducible refine br_42 ?_ ?_ | with_reducible refine br_43 ?_ ?_ | with_reducible refine br_44 ?_ ?_ | with_reducible refine br_45 ?_ ?_ | with_reducible refine br_46 ?_ ?_ | with_reducible refine br_47 ?_ ?_ | with_reducible refine br_48 ?_ ?_ | with_reducible refine br_49 ?_ ?_ | with_reducible refine br_50 ?_ ?_ | with_reducible refine br_51 ?_ ?_) <;> intro h <;> try simp (disch := first | assumption | exact Nat.le_of_ble_eq_true rfl | omega) only [ev_wr_id, not_true_eq_false, not_false_eq_true, Int.reduceEq, Int.reduceLT, Int.reduceLE, and_self, and_true, true_and, and_false, false_and, reduceIte] at h <;> try (exfalso; omega; done)))
      · have e2 : st_nm B (σ 180) (m + 1) < st_nm B (σ 181) (m + 1) := by
          unfold st_nm
          rw [e1, ← hn, ← hx, ← hy]
          omega
        have e3 := st_nm_lt hB k (m + 1) M (by omega) hu ht e2
        rw [if_neg (by omega)]
        clear e1 e2 e3 ih hj hm hn ht hu hM hx hy
        rw [bk_3_1]
        repeat' (first | (simp (disch := first | assumption | exact Nat.le_of_ble_eq_true rfl | omega) only [bk_3_0, eo_6, eo_3_2n, eo_3_2i, eo_3_2r, eo_53, eo_0_2, eo_0_1, eo_1_0, g0_28_2, g0_28_1, eo_52, bk_3_2, bk_3_3, eo_56z, bk_3_4, eo_23_2n, eo_23_2i, eo_23_2r, bk_3_5, a32_181, a32_180, hx2, hy2, Int.add_zero, Int.add_sub_cancel, Int.reduceAdd, Int.reduceMul, Int.reduceSub, Int.reduceNeg, ev_wr_id]) | ((first | with_reducible refine br_40 ?_ ?_ | with_reducible refine br_41 ?_ ?_ | with_reducible refine br_42 ?_ ?_ | with_reducible refine br_43 ?_ ?_ | with_reducible refine br_44 ?_ ?_ | with_reducible refine br_45 ?_ ?_ | with_reducible refine br_46 ?_ ?_ | with_reducible refine br_47 ?_ ?_ | with_reducible refine br_48 ?_ ?_ | with_reducible refine br_49 ?_ ?_ | with_reducible refine br_50 ?_ ?_ | with_reducible refine br_51 ?_ ?_) <;> intro h <;> try simp (disch := first | assumption | exact Nat.le_of_ble_eq_true rfl | omega) only [ev_wr_id, not_true_eq_false, not_false_eq_true, Int.reduceEq, Int.reduceLT, Int.reduceLE, and_self, and_true, true_and, and_false, false_and, reduceIte] at h <;> try (exfalso; omega; done)))
theorem c_3 {σ : ev_M} {B L : Int} {M : Nat} (hB : 0 < B ∧ B ≤ 3) (hM : L = M) (hL : L ≤ 8) (ht : st_va B M (σ 181)) (hu : st_va B M (σ 180)) : EM 3 [.inr (.inl 179), .inl L] σ = some (some (.inl (if st_nm B (σ 181) M < st_nm B (σ 180) M then 1 else 0)), σ) := by
  rw [mm_3]
  repeat' (first | (simp (disch := first | assumption | exact Nat.le_of_ble_eq_true rfl | omega) only [bk_3_0, eo_6, eo_3_2n, eo_3_2i, eo_3_2r, eo_53, eo_0_2, eo_0_1, eo_1_0, g0_28_2, g0_28_1, eo_52, bk_3_2, bk_3_3, eo_56z, bk_3_4, eo_23_2n, eo_23_2i, eo_23_2r, bk_3_5, a32_181, a32_180, Int.add_zero, Int.add_sub_cancel, Int.reduceAdd, Int.reduceMul, Int.reduceSub, Int.reduceNeg, ev_wr_id]) | ((first | with_reducible refine br_40 ?_ ?_ | with_reducible refine br_41 ?_ ?_ | with_reducible refine br_42 ?_ ?_ | with_reducible refine br_43 ?_ ?_ | with_reducible refine br_44 ?_ ?_ | with_reducible refine br_45 ?_ ?_ | with_reducible refine br_46 ?_ ?_ | with_reducible refine br_47 ?_ ?_ | with_reducible refine br_48 ?_ ?_ | with_reducible refine br_49 ?_ ?_ | with_reducible refine br_50 ?_ ?_ | with_reducible refine br_51 ?_ ?_) <;> intro h <;> try simp (disch := first | assumption | exact Nat.le_of_ble_eq_true rfl | omega) only [ev_wr_id, not_true_eq_false, not_false_eq_true, Int.reduceEq, Int.reduceLT, Int.reduceLE, and_self, and_true, true_and, and_false, false_and, reduceIte] at h <;> try (exfalso; omega; done)))
  exact l_3 hB hM hL ht hu M 0 0 rfl (by omega) (fun j hj => by omega)
theorem st_fs_in {T : Int → Int} {s : Int} (h : st_I T) : 0 ≤ st_fs (st_fe T) (T 4) s ∧ st_fs (st_fe T) (T 4) s ≤ 2997 := by
  have i4 := h.1.2.2.2.2.1
  have h1 := ev_ss_in (f := fun b => if ev_bt s b then st_fe T b else 0) (m := 999) (T 4).toNat 0 0 (fun q h0 h1 => by
    have := (h.2.2.2.2.2.2 q h0 (by omega)).1
    unfold st_fe
    split <;> omega)
  unfold st_fs
  omega
theorem st_pc_in {T : Int → Int} {s : Int} {t : Int → Int} (h : st_I T) (h3 : 0 < T 3) (g : st_gy (st_co T) (T 4) (T 3).toNat s t) : 1 ≤ st_fs (st_fe T) (T 4) s + st_sc (st_co T) t (T 3).toNat ∧ st_fs (st_fe T) (T 4) s + st_sc (st_co T) t (T 3).toNat ≤ 10125 := by
  have i3 := h.1.2.2.2.1
  have h1 := st_fs_in (s := s) h
  have h2 := st_sc_in (c := st_co T) (a := t) (m := 891) (T 3).toNat (fun k hk => st_co_in h (by omega) ⟨(g k hk).1.1, (g k hk).1.2.1⟩)
  omega
def st_iv (T : Int → Int) (s c : Int) (u : Int → Int) : Prop := (s = 1 ∧ c = -1) ∨ ((1 < s ∧ 1 ≤ c ∧ c ≤ 10125) ∧ ∃ s0, st_gy (st_co T) (T 4) (T 3).toNat s0 u ∧ c = st_fs (st_fe T) (T 4) s0 + st_sc (st_co T) u (T 3).toNat ∧ ∀ s2, 1 ≤ s2 → s2 < s → ∃ t2, st_gy (st_co T) (T 4) (T 3).toNat s2 t2 ∧ c ≤ st_fs (st_fe T) (T 4) s2 + st_sc (st_co T) t2 (T 3).toNat ∧ (c = st_fs (st_fe T) (T 4) s2 + st_sc (st_co T) t2 (T 3).toNat → st_nm (T 4) u (T 3).toNat ≤ st_nm (T 4) t2 (T 3).toNat))
theorem st_iv_n {T : Int → Int} {s c v : Int} {u t u2 : Int → Int} (hI : st_I T) (h3 : 0 < T 3) (h : st_iv T s c u) (hs : 1 ≤ s) (g : st_gy (st_co T) (T 4) (T 3).toNat s t) (hv : v = st_fs (st_fe T) (T 4) s + st_sc (st_co T) t (T 3).toNat) (hu : ∀ k : Nat, k < (T 3).toNat → u2 k = t k) (hc : c = -1 ∨ v < c ∨ (v = c ∧ st_nm (T 4) t (T 3).toNat < st_nm (T 4) u (T 3).toNat)) : st_iv T (s + 1) v u2 := by
  have hb := st_pc_in hI h3 g
  have hnm := st_nm_eq (B := T 4) (T 3).toNat hu
  have hsc := st_sc_eq (c := st_co T) (T 3).toNat hu
  refine Or.inr ⟨by omega, s, st_gy_eq hu g, by rw [hsc]; exact hv, fun s2 h1 h2 => ?_⟩
  by_cases c1 : s2 = s
  · rw [c1]
    exact ⟨t, g, by omega, fun _ => by rw [hnm]; exact Int.le_refl _⟩
  · rcases h with ⟨q1, q2⟩ | ⟨⟨q0, q1, q9⟩, s0, q2, q3, q4⟩
    · omega
    · obtain ⟨t2, k1, k2, k3⟩ := q4 s2 h1 (by omega)
      refine ⟨t2, k1, by omega, fun he => ?_⟩
      rw [hnm]
      have := k3 (by omega)
      omega
theorem st_iv_k {T : Int → Int} {s c v : Int} {u t : Int → Int} (hI : st_I T) (h3 : 0 < T 3) (h : st_iv T s c u) (hs : 1 ≤ s) (g : st_gy (st_co T) (T 4) (T 3).toNat s t) (hv : v = st_fs (st_fe T) (T 4) s + st_sc (st_co T) t (T 3).toNat) (hc : ¬ (c = -1 ∨ v < c ∨ (v = c ∧ st_nm (T 4) t (T 3).toNat < st_nm (T 4) u (T 3).toNat))) : st_iv T (s + 1) c u := by
  have hb := st_pc_in hI h3 g
  rcases h with ⟨q1, q2⟩ | ⟨⟨q0, q1, q9⟩, s0, q2, q3, q4⟩
  · omega
  · refine Or.inr ⟨by omega, s0, q2, q3, fun s2 h1 h2 => ?_⟩
    by_cases c1 : s2 = s
    · rw [c1]
      exact ⟨t, g, by omega, fun _ => by omega⟩
    · exact q4 s2 h1 (by omega)
theorem l_0a {σ : ev_M} {c : Int} {t : Int → Int} {p4 p5 : Option ev_V} : ∀ (k : Nat) (n L : Int) (u : Int → Int), 0 ≤ n → n + k = L → L ≤ 8 → (∀ y, 0 ≤ y → y < n → u y = -1) → ∃ u2, EB 0 3 [some (.inr (.inl 179)), some (.inr (.inl ev_n)), some (.inl L), some (.inl n), p4, p5] [] (st_w σ c u t) = EB 0 4 [some (.inr (.inl 179)), some (.inr (.inl ev_n)), some (.inl L), some (.inl L), p4, p5] [] (st_w σ c u2 t) ∧ ∀ y, 0 ≤ y → y < L → u2 y = -1 := by
  intro k
  induction k with
  | zero =>
    intro n L u h0 h1 h2 hu
    obtain rfl : n = L := by omega
    refine ⟨u, ?_, hu⟩
    clear hu
    rw [bk_0_3]
    repeat' (first | (simp (disch := first | assumption | exact Nat.le_of_ble_eq_true rfl | omega) only [bk_0_0, eo_1_1, g7_28_2, g4_27, eo_3_2n, eo_3_2i, eo_3_2r, eo_1_0, eo_0_2, eo_6, eo_52, bk_0_1, eo_53, bk_0_2, g0_30, eo_3_3n, eo_3_3i, eo_3_3r, eo_0_3, g0_28_1, eo_23_3n, eo_23_3i, eo_23_3r, bk_0_5, eo_18, bk_0_6, eo_3_4n, eo_3_4i, eo_3_4r, eo_0_4, v0_3, ev_ki, ev_kv, eo_3_5n, eo_3_5i, eo_3_5r, g0_27, eo_0_5, v0_2, bk_0_8, g0_28_2, bk_0_9, eo_23_4n, eo_23_4i, eo_23_4r, bk_0_10, eo_58, a33_180, a33_181, cp_aw, c_3, Int.add_zero, Int.add_sub_cancel, Int.reduceAdd, Int.reduceMul, Int.reduceSub, Int.reduceNeg, ev_wr_id]) | ((first | with_reducible refine br_40 ?_ ?_ | with_reducible refine br_41 ?_ ?_ | with_reducible refine br_42 ?_ ?_ | with_reducible refine br_43 ?_ ?_ | with_reducible refine br_44 ?_ ?_ | with_reducible refine br_45 ?_ ?_ | with_reducible refine br_46 ?_ ?_ | with_reducible refine br_47 ?_ ?_ | with_reducible refine br_48 ?_ ?_ | with_reducible refine br_49 ?_ ?_ | with_reducible refine br_50 ?_ ?_ | with_reducible refine br_51 ?_ ?_) <;> intro h <;> try simp (disch := first | assumption | exact Nat.le_of_ble_eq_true rfl | omega) only [ev_wr_id, not_true_eq_false, not_false_eq_true, Int.reduceEq, Int.reduceLT, Int.reduceLE, and_self, and_true, true_and, and_false, false_and, reduceIte] at h <;> try (exfalso; omega; done)))
  | succ k ih =>
    intro n L u h0 h1 h2 hu
    obtain ⟨u2, e, h⟩ := ih (n + 1) L (ev_u1 u n (-1)) (by omega) (by omega) h2 (fun y y0 y1 => by
      by_cases c : y = n
      · rw [ev_u1_eq c]
      · rw [ev_u1_ne c]; exact hu y y0 (by omega))
    refine ⟨u2, ?_, h⟩
    rw [← e]
    clear e h hu ih
    rw [bk_0_3]
    repeat' (first | (simp (disch := first | assumption | exact Nat.le_of_ble_eq_true rfl | omega) only [bk_0_0, eo_1_1, g7_28_2, g4_27, eo_3_2n, eo_3_2i, eo_3_2r, eo_1_0, eo_0_2, eo_6, eo_52, bk_0_1, eo_53, bk_0_2, g0_30, eo_3_3n, eo_3_3i, eo_3_3r, eo_0_3, g0_28_1, eo_23_3n, eo_23_3i, eo_23_3r, bk_0_5, eo_18, bk_0_6, eo_3_4n, eo_3_4i, eo_3_4r, eo_0_4, v0_3, ev_ki, ev_kv, eo_3_5n, eo_3_5i, eo_3_5r, g0_27, eo_0_5, v0_2, bk_0_8, g0_28_2, bk_0_9, eo_23_4n, eo_23_4i, eo_23_4r, bk_0_10, eo_58, a33_180, a33_181, cp_aw, c_3, st_w_u, Int.add_zero, Int.add_sub_cancel, Int.reduceAdd, Int.reduceMul, Int.reduceSub, Int.reduceNeg, ev_wr_id]) | ((first | with_reducible refine br_40 ?_ ?_ | with_reducible refine br_41 ?_ ?_ | with_reducible refine br_42 ?_ ?_ | with_reducible refine br_43 ?_ ?_ | with_reducible refine br_44 ?_ ?_ | with_reducible refine br_45 ?_ ?_ | with_reducible refine br_46 ?_ ?_ | with_reducible refine br_47 ?_ ?_ | with_reducible refine br_48 ?_ ?_ | with_reducible refine br_49 ?_ ?_ | with_reducible refine br_50 ?_ ?_ | with_reducible refine br_51 ?_ ?_) <;> intro h <;> try simp (disch := first | assumption | exact Nat.le_of_ble_eq_true rfl | omega) only [ev_wr_id, not_true_eq_false, not_false_eq_true, Int.reduceEq, Int.reduceLT, Int.reduceLE, and_self, and_true, true_and, and_false, false_and, reduceIte] at h <;> try (exfalso; omega; done)))
theorem st_ne_in : ∀ b : Fin 4, ∀ s : Fin 8, 1 ≤ s.val → s.val < 2 ^ b.val → ∃ q : Fin 3, q.val < b.val ∧ ev_bt (s.val : Int) (q.val : Int) := by decide +kernel
theorem l_0b {σ : ev_M} {W : Int} (a1 : st_E (st_T σ ev_n) (σ 183)) (a2 : st_I (σ 183)) (h3 : 0 < σ 183 3) (h4 : 0 < σ 183 4) (hW : W = 2 ^ (σ 183 4).toNat) (hW8 : W ≤ 8) : ∀ (k : Nat) (s c : Int) (u t : Int → Int) (p5 : Option ev_V), 1 ≤ s → s + k = W → st_iv (σ 183) s c u → ∃ c2 u2 t2, EB 0 7 [some (.inr (.inl 179)), some (.inr (.inl ev_n)), some (.inl (σ 183 3)), some (.inl W), some (.inl s), p5] [] (st_w σ c u t) = some (none, st_w σ c2 u2 t2) ∧ st_iv (σ 183) W c2 u2 := by
  obtain ⟨t0, t1, t2, t3, t4, t5, t6, t7, t8, r2, r3, r4, r5, r7, r11, r8, r9, r10, r12, r13, r14, r15, r16, r18, r19, r20, r21, r22⟩ := st_rd a1; obtain ⟨⟨i0, i1, i2, i3, i4, i5⟩, hr, hb, hc, hp, hl, hq⟩ := id a2; have hSn := ev_S_n; have hn0 : ev_n = 0 := rfl
  intro k
  induction k with
  | zero =>
    intro s c u t p5 hs0 hs1 hv
    obtain rfl : s = W := by omega
    refine ⟨c, u, t, ?_, hv⟩
    clear hv hW
    rw [bk_0_7]
    repeat' (first | (simp (disch := first | assumption | exact Nat.le_of_ble_eq_true rfl | omega) only [bk_0_0, eo_1_1, g7_28_2, g4_27, eo_3_2n, eo_3_2i, eo_3_2r, eo_1_0, eo_0_2, eo_6, eo_52, bk_0_1, eo_53, bk_0_2, g0_30, eo_3_3n, eo_3_3i, eo_3_3r, eo_0_3, g0_28_1, eo_23_3n, eo_23_3i, eo_23_3r, bk_0_4, bk_0_5, eo_18, bk_0_6, eo_3_4n, eo_3_4i, eo_3_4r, eo_0_4, v0_3, ev_ki, ev_kv, eo_3_5n, eo_3_5i, eo_3_5r, g0_27, eo_0_5, v0_2, bk_0_8, g0_28_2, bk_0_9, eo_23_4n, eo_23_4i, eo_23_4r, bk_0_10, eo_58, a33_180, a33_181, cp_aw, c_3, Int.add_zero, Int.add_sub_cancel, Int.reduceAdd, Int.reduceMul, Int.reduceSub, Int.reduceNeg, ev_wr_id]) | ((first | with_reducible refine br_40 ?_ ?_ | with_reducible refine br_41 ?_ ?_ | with_reducible refine br_42 ?_ ?_ | with_reducible refine br_43 ?_ ?_ | with_reducible refine br_44 ?_ ?_ | with_reducible refine br_45 ?_ ?_ | with_reducible refine br_46 ?_ ?_ | with_reducible refine br_47 ?_ ?_ | with_reducible refine br_48 ?_ ?_ | with_reducible refine br_49 ?_ ?_ | with_reducible refine br_50 ?_ ?_ | with_reducible refine br_51 ?_ ?_) <;> intro h <;> try simp (disch := first | assumption | exact Nat.le_of_ble_eq_true rfl | omega) only [ev_wr_id, not_true_eq_false, not_false_eq_true, Int.reduceEq, Int.reduceLT, Int.reduceLE, and_self, and_true, true_and, and_false, false_and, reduceIte] at h <;> try (exfalso; omega; done)))
  | succ k ih =>
    intro s c u t p5 hs0 hs1 hv
    have m183 : st_w σ c u t 183 = σ 183 := st_w_o (by omega)
    have hE : st_E (st_T (st_w σ c u t) ev_n) (σ 183) := st_E_t (st_T_congr (fun o q0 q1 => st_w_o (by omega))) a1
    have hne : st_ne (σ 183 4) s := by
      obtain ⟨q, q1, q2⟩ := st_ne_in ⟨(σ 183 4).toNat, by omega⟩ ⟨s.toNat, by omega⟩ (by dsimp only; omega) (by
        dsimp only
        have : ((2 ^ (σ 183 4).toNat : Nat) : Int) = 2 ^ (σ 183 4).toNat := by simp
        omega)
      dsimp only at q1 q2
      rw [show ((s.toNat : Nat) : Int) = s by omega] at q2
      exact ⟨q.val, by omega, by omega, q2⟩
    obtain ⟨t2, e1, g⟩ := c_1 (σ := st_w σ c u t) (s := s) (by rw [m183]; exact hE) (by rw [m183]; exact a2) (by omega) (by rw [m183]; exact hne)
    rw [m183] at e1 g
    rw [st_w_t] at e1
    obtain ⟨v, hvq⟩ : ∃ v, v = st_fs (st_fe (σ 183)) (σ 183 4) s + st_sc (st_co (σ 183)) t2 (σ 183 3).toNat := ⟨_, rfl⟩
    rw [← hvq] at e1
    have hb := st_pc_in a2 h3 g
    rw [← hvq] at hb
    have hcr : c = -1 ∨ (1 ≤ c ∧ c ≤ 10125) := by
      rcases hv with q | q
      · exact Or.inl q.2
      · exact Or.inr q.1.2
    by_cases c0 : c = -1 ∨ v < c ∨ (v = c ∧ st_nm (σ 183 4) t2 (σ 183 3).toNat < st_nm (σ 183 4) u (σ 183 3).toNat)
    · obtain ⟨u2, hu2⟩ : ∃ f : Int → Int, f = fun y => if 0 ≤ y ∧ y < 8 then t2 y else u y := ⟨_, rfl⟩
      have hn := st_iv_n (u2 := u2) a2 h3 hv hs0 g hvq (fun k hk => by rw [hu2]; exact if_pos (by omega)) c0
      obtain ⟨c3, u3, t3x, e, hv3⟩ := ih (s + 1) v u2 t2 (some (.inl v)) (by omega) (by omega) hn
      refine ⟨c3, u3, t3x, ?_, hv3⟩
      have hp : ev_cp (st_w σ v u t2) 181 0 180 0 8 = st_w σ v u2 t2 := by rw [hu2]; exact st_w_p
      rw [← e]
      by_cases c5 : v = c ∧ c ≠ -1
      · have c6 : st_nm (σ 183 4) t2 (σ 183 3).toNat < st_nm (σ 183 4) u (σ 183 3).toNat := by omega
        have hgu : st_va (σ 183 4) (σ 183 3).toNat u := by
          rcases hv with q | ⟨q, s0, q2, q3⟩
          · omega
          · exact fun k hk => ⟨(q2 k hk).1.1, (q2 k hk).1.2.1⟩
        have e3 := c_3 (σ := st_w σ c u t2) (B := σ 183 4) (L := σ 183 3) (M := (σ 183 3).toNat) (by omega) (by omega) (by omega) (by rw [st_w_2]; exact fun k hk => ⟨(g k hk).1.1, (g k hk).1.2.1⟩) (by rw [st_w_1]; exact hgu)
        rw [st_w_1, st_w_2, if_pos c6] at e3
        clear hv hn hv3 e g hvq c6 hne hW ih hu2
        rw [bk_0_7]
        repeat' (first | (simp (disch := first | assumption | exact Nat.le_of_ble_eq_true rfl | omega) only [bk_0_0, eo_1_1, g7_28_2, g4_27, eo_3_2n, eo_3_2i, eo_3_2r, eo_1_0, eo_0_2, eo_6, eo_52, bk_0_1, eo_53, bk_0_2, g0_30, eo_3_3n, eo_3_3i, eo_3_3r, eo_0_3, g0_28_1, eo_23_3n, eo_23_3i, eo_23_3r, bk_0_4, bk_0_5, eo_18, bk_0_6, eo_3_4n, eo_3_4i, eo_3_4r, eo_0_4, v0_3, ev_ki, ev_kv, eo_3_5n, eo_3_5i, eo_3_5r, g0_27, eo_0_5, v0_2, bk_0_8, g0_28_2, bk_0_9, eo_23_4n, eo_23_4i, eo_23_4r, bk_0_10, eo_58, a33_180, a33_181, cp_aw, e1, st_w_0, st_w_c, e3, hp, Int.add_zero, Int.add_sub_cancel, Int.reduceAdd, Int.reduceMul, Int.reduceSub, Int.reduceNeg, ev_wr_id]) | ((first | with_reducible refine br_40 ?_ ?_ | with_reducible refine br_41 ?_ ?_ | with_reducible refine br_42 ?_ ?_ | with_reducible refine br_43 ?_ ?_ | with_reducible refine br_44 ?_ ?_ | with_reducible refine br_45 ?_ ?_ | with_reducible refine br_46 ?_ ?_ | with_reducible refine br_47 ?_ ?_ | with_reducible refine br_48 ?_ ?_ | with_reducible refine br_49 ?_ ?_ | with_reducible refine br_50 ?_ ?_ | with_reducible refine br_51 ?_ ?_) <;> intro h <;> try simp (disch := first | assumption | exact Nat.le_of_ble_eq_true rfl | omega) only [ev_wr_id, not_true_eq_false, not_false_eq_true, Int.reduceEq, Int.reduceLT, Int.reduceLE, and_self, and_true, true_and, and_false, false_and, reduceIte] at h <;> try (exfalso; omega; done)))
      · clear hv hn hv3 e g hvq hne hW ih hu2
        have c7 : c = -1 ∨ v < c := by omega
        rw [bk_0_7]
        repeat' (first | (simp (disch := first | assumption | exact Nat.le_of_ble_eq_true rfl | omega) only [bk_0_0, eo_1_1, g7_28_2, g4_27, eo_3_2n, eo_3_2i, eo_3_2r, eo_1_0, eo_0_2, eo_6, eo_52, bk_0_1, eo_53, bk_0_2, g0_30, eo_3_3n, eo_3_3i, eo_3_3r, eo_0_3, g0_28_1, eo_23_3n, eo_23_3i, eo_23_3r, bk_0_4, bk_0_5, eo_18, bk_0_6, eo_3_4n, eo_3_4i, eo_3_4r, eo_0_4, v0_3, ev_ki, ev_kv, eo_3_5n, eo_3_5i, eo_3_5r, g0_27, eo_0_5, v0_2, bk_0_8, g0_28_2, bk_0_9, eo_23_4n, eo_23_4i, eo_23_4r, bk_0_10, eo_58, a33_180, a33_181, cp_aw, e1, st_w_0, st_w_c, hp, Int.add_zero, Int.add_sub_cancel, Int.reduceAdd, Int.reduceMul, Int.reduceSub, Int.reduceNeg, ev_wr_id]) | ((first | with_reducible refine br_40 ?_ ?_ | with_reducible refine br_41 ?_ ?_ | with_reducible refine br_42 ?_ ?_ | with_reducible refine br_43 ?_ ?_ | with_reducible refine br_44 ?_ ?_ | with_reducible refine br_45 ?_ ?_ | with_reducible refine br_46 ?_ ?_ | with_reducible refine br_47 ?_ ?_ | with_reducible refine br_48 ?_ ?_ | with_reducible refine br_49 ?_ ?_ | with_reducible refine br_50 ?_ ?_ | with_reducible refine br_51 ?_ ?_) <;> intro h <;> try simp (disch := first | assumption | exact Nat.le_of_ble_eq_true rfl | omega) only [ev_wr_id, not_true_eq_false, not_false_eq_true, Int.reduceEq, Int.reduceLT, Int.reduceLE, and_self, and_true, true_and, and_false, false_and, reduceIte] at h <;> try (exfalso; omega; done)))
    · have hk := st_iv_k a2 h3 hv hs0 g hvq c0
      obtain ⟨c3, u3, t3x, e, hv3⟩ := ih (s + 1) c u t2 (some (.inl v)) (by omega) (by omega) hk
      refine ⟨c3, u3, t3x, ?_, hv3⟩
      rw [← e]
      by_cases c5 : v = c
      · have c6 : ¬ st_nm (σ 183 4) t2 (σ 183 3).toNat < st_nm (σ 183 4) u (σ 183 3).toNat := by omega
        have hgu : st_va (σ 183 4) (σ 183 3).toNat u := by
          rcases hv with q | ⟨q, s0, q2, q3⟩
          · omega
          · exact fun k hk => ⟨(q2 k hk).1.1, (q2 k hk).1.2.1⟩
        have e3 := c_3 (σ := st_w σ c u t2) (B := σ 183 4) (L := σ 183 3) (M := (σ 183 3).toNat) (by omega) (by omega) (by omega) (by rw [st_w_2]; exact fun k hk => ⟨(g k hk).1.1, (g k hk).1.2.1⟩) (by rw [st_w_1]; exact hgu)
        rw [st_w_1, st_w_2, if_neg c6] at e3
        have c7 : c ≠ -1 := by omega
        clear hv hk hv3 e g hvq c6 hne hW ih c0
        rw [bk_0_7]
        repeat' (first | (simp (disch := first | assumption | exact Nat.le_of_ble_eq_true rfl | omega) only [bk_0_0, eo_1_1, g7_28_2, g4_27, eo_3_2n, eo_3_2i, eo_3_2r, eo_1_0, eo_0_2, eo_6, eo_52, bk_0_1, eo_53, bk_0_2, g0_30, eo_3_3n, eo_3_3i, eo_3_3r, eo_0_3, g0_28_1, eo_23_3n, eo_23_3i, eo_23_3r, bk_0_4, bk_0_5, eo_18, bk_0_6, eo_3_4n, eo_3_4i, eo_3_4r, eo_0_4, v0_3, ev_ki, ev_kv, eo_3_5n, eo_3_5i, eo_3_5r, g0_27, eo_0_5, v0_2, bk_0_8, g0_28_2, bk_0_9, eo_23_4n, eo_23_4i, eo_23_4r, bk_0_10, eo_58, a33_180, a33_181, cp_aw, e1, st_w_0, st_w_c, e3, Int.add_zero, Int.add_sub_cancel, Int.reduceAdd, Int.reduceMul, Int.reduceSub, Int.reduceNeg, ev_wr_id]) | ((first | with_reducible refine br_40 ?_ ?_ | with_reducible refine br_41 ?_ ?_ | with_reducible refine br_42 ?_ ?_ | with_reducible refine br_43 ?_ ?_ | with_reducible refine br_44 ?_ ?_ | with_reducible refine br_45 ?_ ?_ | with_reducible refine br_46 ?_ ?_ | with_reducible refine br_47 ?_ ?_ | with_reducible refine br_48 ?_ ?_ | with_reducible refine br_49 ?_ ?_ | with_reducible refine br_50 ?_ ?_ | with_reducible refine br_51 ?_ ?_) <;> intro h <;> try simp (disch := first | assumption | exact Nat.le_of_ble_eq_true rfl | omega) only [ev_wr_id, not_true_eq_false, not_false_eq_true, Int.reduceEq, Int.reduceLT, Int.reduceLE, and_self, and_true, true_and, and_false, false_and, reduceIte] at h <;> try (exfalso; omega; done)))
      · have c7 : c ≠ -1 ∧ ¬ v < c := by omega
        clear hv hk hv3 e g hvq hne hW ih c0
        rw [bk_0_7]
        repeat' (first | (simp (disch := first | assumption | exact Nat.le_of_ble_eq_true rfl | omega) only [bk_0_0, eo_1_1, g7_28_2, g4_27, eo_3_2n, eo_3_2i, eo_3_2r, eo_1_0, eo_0_2, eo_6, eo_52, bk_0_1, eo_53, bk_0_2, g0_30, eo_3_3n, eo_3_3i, eo_3_3r, eo_0_3, g0_28_1, eo_23_3n, eo_23_3i, eo_23_3r, bk_0_4, bk_0_5, eo_18, bk_0_6, eo_3_4n, eo_3_4i, eo_3_4r, eo_0_4, v0_3, ev_ki, ev_kv, eo_3_5n, eo_3_5i, eo_3_5r, g0_27, eo_0_5, v0_2, bk_0_8, g0_28_2, bk_0_9, eo_23_4n, eo_23_4i, eo_23_4r, bk_0_10, eo_58, a33_180, a33_181, cp_aw, e1, st_w_0, st_w_c, Int.add_zero, Int.add_sub_cancel, Int.reduceAdd, Int.reduceMul, Int.reduceSub, Int.reduceNeg, ev_wr_id]) | ((first | with_reducible refine br_40 ?_ ?_ | with_reducible refine br_41 ?_ ?_ | with_reducible refine br_42 ?_ ?_ | with_reducible refine br_43 ?_ ?_ | with_reducible refine br_44 ?_ ?_ | with_reducible refine br_45 ?_ ?_ | with_reducible refine br_46 ?_ ?_ | with_reducible refine br_47 ?_ ?_ | with_reducible refine br_48 ?_ ?_ | with_reducible refine br_49 ?_ ?_ | with_reducible refine br_50 ?_ ?_ | with_reducible refine br_51 ?_ ?_) <;> intro h <;> try simp (disch := first | assumption | exact Nat.le_of_ble_eq_true rfl | omega) only [ev_wr_id, not_true_eq_false, not_false_eq_true, Int.reduceEq, Int.reduceLT, Int.reduceLE, and_self, and_true, true_and, and_false, false_and, reduceIte] at h <;> try (exfalso; omega; done)))
theorem ev_shl_B : ∀ b : Fin 4, ev_shl 1 (b.val : Int) = 2 ^ b.val ∧ (2 : Int) ^ b.val ≤ 8 ∧ 1 ≤ (2 : Int) ^ b.val := by decide +kernel
theorem c_0 {σ : ev_M} (a1 : st_E (st_T σ ev_n) (σ 183)) (a2 : st_I (σ 183)) : ∃ c u t, EM 0 [.inr (.inl 179), .inr (.inl ev_n)] σ = some (none, st_w σ c u t) ∧ st_aw (st_co (σ 183)) (st_fe (σ 183)) (σ 183 4) (σ 183 3).toNat c u ∧ -1 ≤ c ∧ c ≤ 10125 := by
  obtain ⟨t0, t1, t2, t3, t4, t5, t6, t7, t8, r2, r3, r4, r5, r7, r11, r8, r9, r10, r12, r13, r14, r15, r16, r18, r19, r20, r21, r22⟩ := st_rd a1; obtain ⟨⟨i0, i1, i2, i3, i4, i5⟩, hr, hb, hc, hp, hl, hq⟩ := id a2; have hSn := ev_S_n; have hn0 : ev_n = 0 := rfl
  obtain ⟨w1, w2, w3⟩ := ev_shl_B ⟨(σ 183 4).toNat, by omega⟩
  dsimp only at w1 w2 w3
  rw [show (((σ 183 4).toNat : Nat) : Int) = σ 183 4 by omega] at w1
  by_cases c1 : σ 183 3 = 0
  · refine ⟨0, σ 180, σ 181, ?_, Or.inl ⟨by omega, rfl⟩, by omega, by omega⟩
    obtain ⟨u2, e, h⟩ := l_0a (σ := σ) (c := 0) (t := σ 181) (p4 := none) (p5 := none) 0 0 0 (σ 180) (by omega) (by omega) (by omega) (fun y y0 y1 => by omega)
    have e2 : EB 0 3 [some (.inr (.inl 179)), some (.inr (.inl ev_n)), some (.inl 0), some (.inl 0), none, none] [] (st_w σ 0 (σ 180) (σ 181)) = some (none, st_w σ 0 (σ 180) (σ 181)) := by
      rw [bk_0_3]
      repeat' (first | (simp (disch := first | assumption | exact Nat.le_of_ble_eq_true rfl | omega) only [bk_0_0, eo_1_1, g7_28_2, g4_27, eo_3_2n, eo_3_2i, eo_3_2r, eo_1_0, eo_0_2, eo_6, eo_52, bk_0_1, eo_53, bk_0_2, g0_30, eo_3_3n, eo_3_3i, eo_3_3r, eo_0_3, g0_28_1, eo_23_3n, eo_23_3i, eo_23_3r, bk_0_4, bk_0_5, eo_18, bk_0_6, eo_3_4n, eo_3_4i, eo_3_4r, eo_0_4, v0_3, ev_ki, ev_kv, eo_3_5n, eo_3_5i, eo_3_5r, g0_27, eo_0_5, v0_2, bk_0_8, g0_28_2, bk_0_9, eo_23_4n, eo_23_4i, eo_23_4r, bk_0_10, eo_58, a33_180, a33_181, cp_aw, c_3, Int.add_zero, Int.add_sub_cancel, Int.reduceAdd, Int.reduceMul, Int.reduceSub, Int.reduceNeg, ev_wr_id]) | ((first | with_reducible refine br_40 ?_ ?_ | with_reducible refine br_41 ?_ ?_ | with_reducible refine br_42 ?_ ?_ | with_reducible refine br_43 ?_ ?_ | with_reducible refine br_44 ?_ ?_ | with_reducible refine br_45 ?_ ?_ | with_reducible refine br_46 ?_ ?_ | with_reducible refine br_47 ?_ ?_ | with_reducible refine br_48 ?_ ?_ | with_reducible refine br_49 ?_ ?_ | with_reducible refine br_50 ?_ ?_ | with_reducible refine br_51 ?_ ?_) <;> intro h <;> try simp (disch := first | assumption | exact Nat.le_of_ble_eq_true rfl | omega) only [ev_wr_id, not_true_eq_false, not_false_eq_true, Int.reduceEq, Int.reduceLT, Int.reduceLE, and_self, and_true, true_and, and_false, false_and, reduceIte] at h <;> try (exfalso; omega; done)))
      rw [bk_0_7]
      repeat' (first | (simp (disch := first | assumption | exact Nat.le_of_ble_eq_true rfl | omega) only [bk_0_0, eo_1_1, g7_28_2, g4_27, eo_3_2n, eo_3_2i, eo_3_2r, eo_1_0, eo_0_2, eo_6, eo_52, bk_0_1, eo_53, bk_0_2, g0_30, eo_3_3n, eo_3_3i, eo_3_3r, eo_0_3, g0_28_1, eo_23_3n, eo_23_3i, eo_23_3r, bk_0_4, bk_0_5, eo_18, bk_0_6, eo_3_4n, eo_3_4i, eo_3_4r, eo_0_4, v0_3, ev_ki, ev_kv, eo_3_5n, eo_3_5i, eo_3_5r, g0_27, eo_0_5, v0_2, bk_0_8, g0_28_2, bk_0_9, eo_23_4n, eo_23_4i, eo_23_4r, bk_0_10, eo_58, a33_180, a33_181, cp_aw, c_3, Int.add_zero, Int.add_sub_cancel, Int.reduceAdd, Int.reduceMul, Int.reduceSub, Int.reduceNeg, ev_wr_id]) | ((first | with_reducible refine br_40 ?_ ?_ | with_reducible refine br_41 ?_ ?_ | with_reducible refine br_42 ?_ ?_ | with_reducible refine br_43 ?_ ?_ | with_reducible refine br_44 ?_ ?_ | with_reducible refine br_45 ?_ ?_ | with_reducible refine br_46 ?_ ?_ | with_reducible refine br_47 ?_ ?_ | with_reducible refine br_48 ?_ ?_ | with_reducible refine br_49 ?_ ?_ | with_reducible refine br_50 ?_ ?_ | with_reducible refine br_51 ?_ ?_) <;> intro h <;> try simp (disch := first | assumption | exact Nat.le_of_ble_eq_true rfl | omega) only [ev_wr_id, not_true_eq_false, not_false_eq_true, Int.reduceEq, Int.reduceLT, Int.reduceLE, and_self, and_true, true_and, and_false, false_and, reduceIte] at h <;> try (exfalso; omega; done)))
    rw [mm_0, ← e2]
    have hs := st_w_s (σ := σ)
    conv => lhs; rw [← hs]
    repeat' (first | (simp (disch := first | assumption | exact Nat.le_of_ble_eq_true rfl | omega) only [bk_0_0, eo_1_1, g7_28_2, g4_27, eo_3_2n, eo_3_2i, eo_3_2r, eo_1_0, eo_0_2, eo_6, eo_52, bk_0_1, eo_53, bk_0_2, g0_30, eo_3_3n, eo_3_3i, eo_3_3r, eo_0_3, g0_28_1, eo_23_3n, eo_23_3i, eo_23_3r, bk_0_4, bk_0_5, eo_18, bk_0_6, eo_3_4n, eo_3_4i, eo_3_4r, eo_0_4, v0_3, ev_ki, ev_kv, eo_3_5n, eo_3_5i, eo_3_5r, g0_27, eo_0_5, v0_2, bk_0_8, g0_28_2, bk_0_9, eo_23_4n, eo_23_4i, eo_23_4r, bk_0_10, eo_58, a33_180, a33_181, cp_aw, c_3, st_w_o, t3, c1, st_w_c, Int.add_zero, Int.add_sub_cancel, Int.reduceAdd, Int.reduceMul, Int.reduceSub, Int.reduceNeg, ev_wr_id]) | ((first | with_reducible refine br_40 ?_ ?_ | with_reducible refine br_41 ?_ ?_ | with_reducible refine br_42 ?_ ?_ | with_reducible refine br_43 ?_ ?_ | with_reducible refine br_44 ?_ ?_ | with_reducible refine br_45 ?_ ?_ | with_reducible refine br_46 ?_ ?_ | with_reducible refine br_47 ?_ ?_ | with_reducible refine br_48 ?_ ?_ | with_reducible refine br_49 ?_ ?_ | with_reducible refine br_50 ?_ ?_ | with_reducible refine br_51 ?_ ?_) <;> intro h <;> try simp (disch := first | assumption | exact Nat.le_of_ble_eq_true rfl | omega) only [ev_wr_id, not_true_eq_false, not_false_eq_true, Int.reduceEq, Int.reduceLT, Int.reduceLE, and_self, and_true, true_and, and_false, false_and, reduceIte] at h <;> try (exfalso; omega; done)))
  · obtain ⟨u2, e, h⟩ := l_0a (σ := σ) (c := -1) (t := σ 181) (p4 := none) (p5 := none) (σ 183 3).toNat 0 (σ 183 3) (σ 180) (by omega) (by omega) (by omega) (fun y y0 y1 => by omega)
    have hst : EM 0 [.inr (.inl 179), .inr (.inl ev_n)] σ = EB 0 3 [some (.inr (.inl 179)), some (.inr (.inl ev_n)), some (.inl (σ 183 3)), some (.inl 0), none, none] [] (st_w σ (-1) (σ 180) (σ 181)) := by
      have hs := st_w_s (σ := σ)
      rw [mm_0]
      conv => lhs; rw [← hs]
      repeat' (first | (simp (disch := first | assumption | exact Nat.le_of_ble_eq_true rfl | omega) only [bk_0_0, eo_1_1, g7_28_2, g4_27, eo_3_2n, eo_3_2i, eo_3_2r, eo_1_0, eo_0_2, eo_6, eo_52, bk_0_1, eo_53, bk_0_2, g0_30, eo_3_3n, eo_3_3i, eo_3_3r, eo_0_3, g0_28_1, eo_23_3n, eo_23_3i, eo_23_3r, bk_0_4, bk_0_5, eo_18, bk_0_6, eo_3_4n, eo_3_4i, eo_3_4r, eo_0_4, v0_3, ev_ki, ev_kv, eo_3_5n, eo_3_5i, eo_3_5r, g0_27, eo_0_5, v0_2, bk_0_8, g0_28_2, bk_0_9, eo_23_4n, eo_23_4i, eo_23_4r, bk_0_10, eo_58, a33_180, a33_181, cp_aw, c_3, st_w_o, t3, st_w_c, Int.add_zero, Int.add_sub_cancel, Int.reduceAdd, Int.reduceMul, Int.reduceSub, Int.reduceNeg, ev_wr_id]) | ((first | with_reducible refine br_40 ?_ ?_ | with_reducible refine br_41 ?_ ?_ | with_reducible refine br_42 ?_ ?_ | with_reducible refine br_43 ?_ ?_ | with_reducible refine br_44 ?_ ?_ | with_reducible refine br_45 ?_ ?_ | with_reducible refine br_46 ?_ ?_ | with_reducible refine br_47 ?_ ?_ | with_reducible refine br_48 ?_ ?_ | with_reducible refine br_49 ?_ ?_ | with_reducible refine br_50 ?_ ?_ | with_reducible refine br_51 ?_ ?_) <;> intro h <;> try simp (disch := first | assumption | exact Nat.le_of_ble_eq_true rfl | omega) only [ev_wr_id, not_true_eq_false, not_false_eq_true, Int.reduceEq, Int.reduceLT, Int.reduceLE, and_self, and_true, true_and, and_false, false_and, reduceIte] at h <;> try (exfalso; omega; done)))
    by_cases c2 : σ 183 4 = 0
    · refine ⟨-1, u2, σ 181, ?_, Or.inr (Or.inl ⟨by omega, c2, rfl, fun k hk => h k (by omega) (by omega)⟩), by omega, by omega⟩
      rw [hst, e, bk_0_4]
      rw [c2] at w1 t4
      have w4 : ev_shl 1 0 = 1 := by rw [w1]; decide +kernel
      repeat' (first | (simp (disch := first | assumption | exact Nat.le_of_ble_eq_true rfl | omega) only [bk_0_0, eo_1_1, g7_28_2, g4_27, eo_3_2n, eo_3_2i, eo_3_2r, eo_1_0, eo_0_2, eo_6, eo_52, bk_0_1, eo_53, bk_0_2, g0_30, eo_3_3n, eo_3_3i, eo_3_3r, eo_0_3, g0_28_1, eo_23_3n, eo_23_3i, eo_23_3r, bk_0_4, bk_0_5, eo_18, bk_0_6, eo_3_4n, eo_3_4i, eo_3_4r, eo_0_4, v0_3, ev_ki, ev_kv, eo_3_5n, eo_3_5i, eo_3_5r, g0_27, eo_0_5, v0_2, bk_0_8, g0_28_2, bk_0_9, eo_23_4n, eo_23_4i, eo_23_4r, bk_0_10, eo_58, a33_180, a33_181, cp_aw, c_3, st_w_o, t4, w4, Int.add_zero, Int.add_sub_cancel, Int.reduceAdd, Int.reduceMul, Int.reduceSub, Int.reduceNeg, ev_wr_id]) | ((first | with_reducible refine br_40 ?_ ?_ | with_reducible refine br_41 ?_ ?_ | with_reducible refine br_42 ?_ ?_ | with_reducible refine br_43 ?_ ?_ | with_reducible refine br_44 ?_ ?_ | with_reducible refine br_45 ?_ ?_ | with_reducible refine br_46 ?_ ?_ | with_reducible refine br_47 ?_ ?_ | with_reducible refine br_48 ?_ ?_ | with_reducible refine br_49 ?_ ?_ | with_reducible refine br_50 ?_ ?_ | with_reducible refine br_51 ?_ ?_) <;> intro h <;> try simp (disch := first | assumption | exact Nat.le_of_ble_eq_true rfl | omega) only [ev_wr_id, not_true_eq_false, not_false_eq_true, Int.reduceEq, Int.reduceLT, Int.reduceLE, and_self, and_true, true_and, and_false, false_and, reduceIte] at h <;> try (exfalso; omega; done)))
      rw [bk_0_7]
      repeat' (first | (simp (disch := first | assumption | exact Nat.le_of_ble_eq_true rfl | omega) only [bk_0_0, eo_1_1, g7_28_2, g4_27, eo_3_2n, eo_3_2i, eo_3_2r, eo_1_0, eo_0_2, eo_6, eo_52, bk_0_1, eo_53, bk_0_2, g0_30, eo_3_3n, eo_3_3i, eo_3_3r, eo_0_3, g0_28_1, eo_23_3n, eo_23_3i, eo_23_3r, bk_0_4, bk_0_5, eo_18, bk_0_6, eo_3_4n, eo_3_4i, eo_3_4r, eo_0_4, v0_3, ev_ki, ev_kv, eo_3_5n, eo_3_5i, eo_3_5r, g0_27, eo_0_5, v0_2, bk_0_8, g0_28_2, bk_0_9, eo_23_4n, eo_23_4i, eo_23_4r, bk_0_10, eo_58, a33_180, a33_181, cp_aw, c_3, Int.add_zero, Int.add_sub_cancel, Int.reduceAdd, Int.reduceMul, Int.reduceSub, Int.reduceNeg, ev_wr_id]) | ((first | with_reducible refine br_40 ?_ ?_ | with_reducible refine br_41 ?_ ?_ | with_reducible refine br_42 ?_ ?_ | with_reducible refine br_43 ?_ ?_ | with_reducible refine br_44 ?_ ?_ | with_reducible refine br_45 ?_ ?_ | with_reducible refine br_46 ?_ ?_ | with_reducible refine br_47 ?_ ?_ | with_reducible refine br_48 ?_ ?_ | with_reducible refine br_49 ?_ ?_ | with_reducible refine br_50 ?_ ?_ | with_reducible refine br_51 ?_ ?_) <;> intro h <;> try simp (disch := first | assumption | exact Nat.le_of_ble_eq_true rfl | omega) only [ev_wr_id, not_true_eq_false, not_false_eq_true, Int.reduceEq, Int.reduceLT, Int.reduceLE, and_self, and_true, true_and, and_false, false_and, reduceIte] at h <;> try (exfalso; omega; done)))
    · obtain ⟨W, hW⟩ : ∃ W : Int, W = 2 ^ (σ 183 4).toNat := ⟨_, rfl⟩
      rw [← hW] at w1 w2 w3
      obtain ⟨c3, u3, t3x, e3, hv⟩ := l_0b (σ := σ) (W := W) a1 a2 (by omega) (by omega) hW (by omega) (W - 1).toNat 1 (-1) u2 (σ 181) none (by omega) (by omega) (Or.inl ⟨rfl, rfl⟩)
      have hW1 : W ≠ 1 := by
        rcases (show σ 183 4 = 1 ∨ σ 183 4 = 2 ∨ σ 183 4 = 3 by omega) with h | h | h <;> rw [h] at hW <;> rw [hW] <;> decide
      rcases hv with q | ⟨q0, s0, q1, q2, q3⟩
      · omega
      · refine ⟨c3, u3, t3x, ?_, st_best (by omega) (by omega) (fun b h0 h1 => ?_) q1 q2 (fun s2 h1 h2 => q3 s2 h1 (by omega)), by omega, by omega⟩
        · rw [hst, e, ← e3, bk_0_4]
          repeat' (first | (simp (disch := first | assumption | exact Nat.le_of_ble_eq_true rfl | omega) only [bk_0_0, eo_1_1, g7_28_2, g4_27, eo_3_2n, eo_3_2i, eo_3_2r, eo_1_0, eo_0_2, eo_6, eo_52, bk_0_1, eo_53, bk_0_2, g0_30, eo_3_3n, eo_3_3i, eo_3_3r, eo_0_3, g0_28_1, eo_23_3n, eo_23_3i, eo_23_3r, bk_0_4, bk_0_5, eo_18, bk_0_6, eo_3_4n, eo_3_4i, eo_3_4r, eo_0_4, v0_3, ev_ki, ev_kv, eo_3_5n, eo_3_5i, eo_3_5r, g0_27, eo_0_5, v0_2, bk_0_8, g0_28_2, bk_0_9, eo_23_4n, eo_23_4i, eo_23_4r, bk_0_10, eo_58, a33_180, a33_181, cp_aw, c_3, st_w_o, t4, w1, Int.add_zero, Int.add_sub_cancel, Int.reduceAdd, Int.reduceMul, Int.reduceSub, Int.reduceNeg, ev_wr_id]) | ((first | with_reducible refine br_40 ?_ ?_ | with_reducible refine br_41 ?_ ?_ | with_reducible refine br_42 ?_ ?_ | with_reducible refine br_43 ?_ ?_ | with_reducible refine br_44 ?_ ?_ | with_reducible refine br_45 ?_ ?_ | with_reducible refine br_46 ?_ ?_ | with_reducible refine br_47 ?_ ?_ | with_reducible refine br_48 ?_ ?_ | with_reducible refine br_49 ?_ ?_ | with_reducible refine br_50 ?_ ?_ | with_reducible refine br_51 ?_ ?_) <;> intro h <;> try simp (disch := first | assumption | exact Nat.le_of_ble_eq_true rfl | omega) only [ev_wr_id, not_true_eq_false, not_false_eq_true, Int.reduceEq, Int.reduceLT, Int.reduceLE, and_self, and_true, true_and, and_false, false_and, reduceIte] at h <;> try (exfalso; omega; done)))
        · exact (hq b h0 h1).1.1

