/-! the award: the reference's side -/
def st_v (σ : ev_M) (c : Int) (g : Int → Int) : ev_M := fun a z => if a = 189 then g z else if a = 182 ∧ z = 9 then c else σ a z
theorem st_v_o {σ : ev_M} {c i : Int} {g : Int → Int} (h : i ≠ 182 ∧ i ≠ 189) : st_v σ c g i = σ i := by
  funext z
  unfold st_v
  rw [if_neg (by omega), if_neg (by omega)]
theorem st_v_z {σ : ev_M} {c z : Int} {g : Int → Int} (h : z ≠ 9) : st_v σ c g 182 z = σ 182 z := by
  unfold st_v
  rw [if_neg (by omega), if_neg (by omega)]
theorem st_v_0 {σ : ev_M} {c : Int} {g : Int → Int} : st_v σ c g 182 9 = c := by
  unfold st_v
  simp
theorem st_v_1 {σ : ev_M} {c : Int} {g : Int → Int} : st_v σ c g 189 = g := by
  funext z
  unfold st_v
  simp
theorem st_v_c {σ : ev_M} {c v : Int} {g : Int → Int} : ev_up (st_v σ c g) 182 9 v = st_v σ v g := by
  funext a z
  unfold ev_up st_v
  by_cases h1 : a = 189
  · subst h1
    simp
  · by_cases h3 : a = 182
    · subst h3
      by_cases h4 : z = 9 <;> simp [h4]
    · simp [h1, h3]
theorem st_v_u {σ : ev_M} {c k v : Int} {g : Int → Int} : ev_up (st_v σ c g) 189 k v = st_v σ c (ev_u1 g k v) := by
  funext a z
  unfold ev_up st_v ev_u1
  by_cases h1 : a = 189
  · subst h1
    simp
  · simp [h1]
theorem st_v_s {σ : ev_M} : st_v σ (σ 182 9) (σ 189) = σ := by
  funext a z
  unfold st_v
  by_cases h1 : a = 189
  · simp [h1]
  · by_cases h3 : a = 182 ∧ z = 9
    · simp [h3]
    · simp [h1, h3]
theorem st_v_N {σ : ev_M} {c : Int} {g : Int → Int} : st_N σ (st_v σ c g) := by
  refine ⟨fun i h => st_v_o (by omega), by rw [st_v_o (by omega)], by rw [st_v_o (by omega)], st_v_z (by omega), st_v_z (by omega), fun k _ _ => by rw [st_v_o (by omega)]⟩
/-- how many givings there are -/
def st_pw (B : Int) : Nat → Int
  | 0 => 1
  | n + 1 => st_pw B n * B
theorem st_pw_in : ∀ b : Fin 4, ∀ n : Fin 9, 0 ≤ st_pw (b.val : Int) n.val ∧ st_pw (b.val : Int) n.val ≤ 6561 ∧ (b.val = 0 → 0 < n.val → st_pw (b.val : Int) n.val = 0) ∧ (0 < b.val → 0 < st_pw (b.val : Int) n.val) := by decide +kernel
theorem st_pw_B {B : Int} {n : Nat} (hB : 0 ≤ B ∧ B ≤ 3) (hn : n ≤ 8) : 0 ≤ st_pw B n ∧ st_pw B n ≤ 6561 ∧ (B = 0 → 0 < n → st_pw B n = 0) ∧ (0 < B → 0 < st_pw B n) := by
  have h := st_pw_in ⟨B.toNat, by omega⟩ ⟨n, by omega⟩
  dsimp only at h
  rw [show ((B.toNat : Nat) : Int) = B by omega] at h
  exact ⟨h.1, h.2.1, fun h1 h2 => h.2.2.1 (by omega) h2, fun h1 => h.2.2.2 (by omega)⟩
/-- the giving of a number -/
theorem st_giv {B : Int} (hB : 0 < B ∧ B ≤ 3) : ∀ (L : Nat) (n : Int), 0 ≤ n → n < st_pw B L → ∃ a, st_va B L a ∧ st_nm B a L = n := by
  intro L
  induction L with
  | zero =>
    intro n h0 h1
    refine ⟨fun _ => 0, fun k hk => by omega, ?_⟩
    unfold st_pw at h1
    unfold st_nm
    omega
  | succ L ih =>
    intro n h0 h1
    unfold st_pw at h1
    obtain ⟨a, ha, hn⟩ := ih (n / B) (by rcases (show B = 1 ∨ B = 2 ∨ B = 3 by omega) with rfl | rfl | rfl <;> omega) (by rcases (show B = 1 ∨ B = 2 ∨ B = 3 by omega) with rfl | rfl | rfl <;> omega)
    have hm : 0 ≤ n % B ∧ n % B < B := ⟨Int.emod_nonneg _ (by omega), Int.emod_lt_of_pos _ (by omega)⟩
    refine ⟨ev_u1 a L (n % B), fun k hk => ?_, ?_⟩
    · by_cases c : k = L
      · rw [ev_u1_eq (by omega)]
        exact hm
      · rw [ev_u1_ne (by omega)]
        exact ha k (by omega)
    · unfold st_nm
      rw [st_nm_eq L (b := a) (fun k hk => ev_u1_ne (by omega)), hn, ev_u1_eq rfl]
      rcases (show B = 1 ∨ B = 2 ∨ B = 3 by omega) with rfl | rfl | rfl <;> omega
theorem st_nm_in {B : Int} (hB : 0 < B ∧ B ≤ 3) : ∀ (L : Nat) (a : Int → Int), st_va B L a → 0 ≤ st_nm B a L ∧ st_nm B a L < st_pw B L := by
  intro L
  induction L with
  | zero =>
    intro a _
    unfold st_nm st_pw
    omega
  | succ L ih =>
    intro a h
    have h1 := ih a (st_va_le h (by omega))
    have h2 := h L (by omega)
    unfold st_nm st_pw
    rcases (show B = 1 ∨ B = 2 ∨ B = 3 by omega) with rfl | rfl | rfl <;> omega
theorem ev_or_tab : ∀ s : Fin 8, ∀ d : Fin 3, 0 ≤ ev_or (s.val : Int) (ev_shl 1 (d.val : Int)) ∧ ev_or (s.val : Int) (ev_shl 1 (d.val : Int)) ≤ 7 ∧ ∀ b : Fin 3, ev_bt (ev_or (s.val : Int) (ev_shl 1 (d.val : Int))) (b.val : Int) ↔ (ev_bt (s.val : Int) (b.val : Int) ∨ b.val = d.val) := by decide +kernel
theorem ev_or_in {s d : Int} (hs : 0 ≤ s ∧ s ≤ 7) (hd : 0 ≤ d ∧ d ≤ 2) : (0 ≤ ev_or s (ev_shl 1 d) ∧ ev_or s (ev_shl 1 d) ≤ 7) ∧ ∀ b, 0 ≤ b → b ≤ 2 → (ev_bt (ev_or s (ev_shl 1 d)) b ↔ (ev_bt s b ∨ b = d)) := by
  have h := ev_or_tab ⟨s.toNat, by omega⟩ ⟨d.toNat, by omega⟩
  dsimp only at h
  rw [show ((s.toNat : Nat) : Int) = s by omega, show ((d.toNat : Nat) : Int) = d by omega] at h
  refine ⟨⟨h.1, h.2.1⟩, fun b b0 b1 => ?_⟩
  have h2 := h.2.2 ⟨b.toNat, by omega⟩
  dsimp only at h2
  rw [show ((b.toNat : Nat) : Int) = b by omega] at h2
  rw [h2]
  constructor
  · rintro (h | h)
    · exact Or.inl h
    · exact Or.inr (by omega)
  · rintro (h | h)
    · exact Or.inl h
    · exact Or.inr (by omega)
def st_sb (B : Int) (s : Int) (a : Int → Int) (m : Nat) (s1 : Int) : Prop := ∀ b, 0 ≤ b → b < B → (ev_bt s1 b ↔ (ev_bt s b ∨ st_us a b m = 1))
theorem l_161a {σ : ev_M} {al c n bst : Int} {g : Int → Int} (a2 : st_I (σ 183)) : ∀ (k : Nat) (a : Int → Int) (l L B sum set : Int), l + 1 = k → k ≤ 8 → L = σ 183 3 → B = σ 183 4 → 0 < B → k ≤ L → st_va B k a → 0 ≤ set ∧ set ≤ 7 → ∃ s1, EB 161 6 [some (.inr (.inl 182)), some (.inl al), some (.inl bst), some (.inl n), some (.inl sum), some (.inl set), some (.inl (st_nm B a k)), some (.inl l)] [] (st_v σ c g) = EB 161 7 [some (.inr (.inl 182)), some (.inl al), some (.inl bst), some (.inl n), some (.inl (sum + st_sc (st_co (σ 183)) a k)), some (.inl s1), some (.inl 0), some (.inl (-1))] [] (st_v σ c g) ∧ (0 ≤ s1 ∧ s1 ≤ 7) ∧ st_sb B set a k s1 := by
  have i3 := a2.1.2.2.2.1
  have i4 := a2.1.2.2.2.2.1
  intro k
  induction k with
  | zero =>
    intro a l L B sum set hl hk8 hL hB hB0 hkL ha hs
    refine ⟨set, ?_, hs, fun b b0 b1 => ⟨fun h => Or.inl h, fun h => ?_⟩⟩
    rotate_left
    · rcases h with h | h
      · exact h
      · rw [show st_us a b 0 = 0 from rfl] at h
        omega
    obtain rfl : l = -1 := by omega
    rw [show st_nm B a 0 = 0 from rfl, show st_sc (st_co (σ 183)) a 0 = 0 from rfl, Int.add_zero]
    clear ha hk8 hkL hl
    rw [bk_161_6]
    repeat' (first | (simp (disch := first | assumption | exact Nat.le_of_ble_eq_true rfl | omega) only [bk_161_0, eo_6, eo_3_1n, eo_3_1i, eo_3_1r, eo_3_2n, eo_3_2i, eo_3_2r, eo_53, eo_0_2, eo_1_0, g11_28_0, eo_0_1, eo_12, g11_28_8, eo_23_2n, eo_23_2i, eo_23_2r, eo_52, bk_161_2, bk_161_3, bk_161_4, g11_30, eo_3_3n, eo_3_3i, eo_3_3r, eo_0_3, eo_3_4n, eo_3_4i, eo_3_4r, eo_3_5n, eo_3_5i, eo_3_5r, eo_3_6n, eo_3_6i, eo_3_6r, eo_11, eo_3_7n, eo_3_7i, eo_3_7r, eo_0_7, eo_0_4, eo_0_6, eo_14d, ev_rem_id, v11_3, ev_ki, ev_kv, eo_10, eo_0_5, eo_18, eo_16, eo_13d, ev_div_id, eo_23_7n, eo_23_7i, eo_23_7r, eo_19, eo_15, bk_161_9, g11_27, bk_161_10, bk_161_11, bk_161_12, bk_161_13, bk_161_14, eo_23_3n, eo_23_3i, eo_23_3r, bk_161_15, bk_161_17, eo_58, a32_183, a33_183, a32_189, a33_189, Int.add_zero, Int.add_sub_cancel, Int.reduceAdd, Int.reduceMul, Int.reduceSub, Int.reduceNeg, ev_wr_id]) | ((first | with_reducible refine br_40 ?_ ?_ | with_reducible refine br_41 ?_ ?_ | with_reducible refine br_42 ?_ ?_ | with_reducible refine br_43 ?_ ?_ | with_reducible refine br_44 ?_ ?_ | with_reducible refine br_45 ?_ ?_ | with_reducible refine br_46 ?_ ?_ | with_reducible refine br_47 ?_ ?_ | with_reducible refine br_48 ?_ ?_ | with_reducible refine br_49 ?_ ?_ | with_reducible refine br_50 ?_ ?_ | with_reducible refine br_51 ?_ ?_) <;> intro h <;> try simp (disch := first | assumption | exact Nat.le_of_ble_eq_true rfl | omega) only [ev_wr_id, not_true_eq_false, not_false_eq_true, Int.reduceEq, Int.reduceLT, Int.reduceLE, and_self, and_true, true_and, and_false, false_and, reduceIte] at h <;> try (exfalso; omega; done)))
  | succ k ih =>
    intro a l L B sum set hl hk8 hL hB hB0 hkL ha hs
    have hak := ha k (by omega)
    have hnm := st_nm_in (B := B) (by omega) k a (st_va_le ha (by omega))
    have hpw := (st_pw_B (B := B) (n := k) (by omega) (by omega)).2.1
    obtain ⟨d, hd⟩ : ∃ d, d = a k := ⟨_, rfl⟩
    rw [← hd] at hak
    obtain ⟨o1, o2⟩ := ev_or_in hs (d := d) (by omega)
    obtain ⟨s1, e, h1, h2⟩ := ih a (l + -1) L B (sum + st_co (σ 183) l d) (ev_or set (ev_shl 1 d)) (by omega) (by omega) hL hB hB0 (by omega) (st_va_le ha (by omega)) o1
    refine ⟨s1, ?_, h1, fun b b0 b1 => ?_⟩
    · have hsc : sum + st_sc (st_co (σ 183)) a (k + 1) = sum + st_co (σ 183) l d + st_sc (st_co (σ 183)) a k := by
        show sum + (st_sc (st_co (σ 183)) a k + st_co (σ 183) k (a k)) = _
        rw [← hd, show (k : Int) = l by omega]
        omega
      rw [hsc, ← e]
      obtain ⟨x, hx⟩ : ∃ x, x = st_nm B a k := ⟨_, rfl⟩
      have hy : st_nm B a (k + 1) = x * B + d := by
        rw [hx, hd]
        rfl
      rw [hy, ← hx]
      obtain ⟨y, hyy⟩ : ∃ y, y = x * B + d := ⟨_, rfl⟩
      have hdv : y / B = x ∧ y % B = d ∧ 0 ≤ y ∧ y ≤ 20000 := by
        rw [hyy]
        rcases (show B = 1 ∨ B = 2 ∨ B = 3 by omega) with h | h | h <;> rw [h] at hak ⊢ <;> omega
      obtain ⟨v1, v2, v3, v4⟩ := hdv
      rw [← hyy]
      have m183 : st_v σ c g 183 = σ 183 := st_v_o (by omega)
      have s3 := congrFun m183 3
      have s4 := congrFun m183 4
      rw [← hL] at s3
      rw [← hB] at s4
      have e160 := e_160 (σ := st_v σ c g) (l := l) (q := d) (by rw [m183]; exact a2) (by rw [m183]; omega) (by rw [m183]; omega)
      rw [m183] at e160
      have hl0 : 0 ≤ l ∧ l < 8 := by omega
      clear e h2 ih ha hnm hkL hk8 hl hyy hy hx hsc o2 hpw
      rw [bk_161_6]
      repeat' (first | (simp (disch := first | assumption | exact Nat.le_of_ble_eq_true rfl | omega) only [bk_161_0, eo_6, eo_3_1n, eo_3_1i, eo_3_1r, eo_3_2n, eo_3_2i, eo_3_2r, eo_53, eo_0_2, eo_1_0, g11_28_0, eo_0_1, eo_12, g11_28_8, eo_23_2n, eo_23_2i, eo_23_2r, eo_52, bk_161_2, bk_161_3, bk_161_4, g11_30, eo_3_3n, eo_3_3i, eo_3_3r, eo_0_3, eo_3_4n, eo_3_4i, eo_3_4r, eo_3_5n, eo_3_5i, eo_3_5r, eo_3_6n, eo_3_6i, eo_3_6r, eo_11, eo_3_7n, eo_3_7i, eo_3_7r, eo_0_7, eo_0_4, eo_0_6, eo_14d, ev_rem_id, v11_3, ev_ki, ev_kv, eo_10, eo_0_5, eo_18, eo_16, eo_13d, ev_div_id, eo_23_7n, eo_23_7i, eo_23_7r, eo_19, eo_15, bk_161_9, g11_27, bk_161_10, bk_161_11, bk_161_12, bk_161_13, bk_161_14, eo_23_3n, eo_23_3i, eo_23_3r, bk_161_15, bk_161_17, eo_58, a32_183, a33_183, a32_189, a33_189, s3, s4, v2, v1, e160, Int.add_zero, Int.add_sub_cancel, Int.reduceAdd, Int.reduceMul, Int.reduceSub, Int.reduceNeg, ev_wr_id]) | ((first | with_reducible refine br_40 ?_ ?_ | with_reducible refine br_41 ?_ ?_ | with_reducible refine br_42 ?_ ?_ | with_reducible refine br_43 ?_ ?_ | with_reducible refine br_44 ?_ ?_ | with_reducible refine br_45 ?_ ?_ | with_reducible refine br_46 ?_ ?_ | with_reducible refine br_47 ?_ ?_ | with_reducible refine br_48 ?_ ?_ | with_reducible refine br_49 ?_ ?_ | with_reducible refine br_50 ?_ ?_ | with_reducible refine br_51 ?_ ?_) <;> intro h <;> try simp (disch := first | assumption | exact Nat.le_of_ble_eq_true rfl | omega) only [ev_wr_id, not_true_eq_false, not_false_eq_true, Int.reduceEq, Int.reduceLT, Int.reduceLE, and_self, and_true, true_and, and_false, false_and, reduceIte] at h <;> try (exfalso; omega; done)))
    · rw [h2 b b0 b1, o2 b b0 (by omega)]
      show _ ↔ (_ ∨ (if a k = b then 1 else st_us a b k) = 1)
      rw [← hd]
      by_cases c1 : d = b
      · rw [if_pos c1]
        exact ⟨fun _ => Or.inr rfl, fun _ => Or.inl (Or.inr c1.symm)⟩
      · rw [if_neg c1]
        constructor
        · rintro ((h | h) | h)
          · exact Or.inl h
          · exact absurd h.symm c1
          · exact Or.inr h
        · rintro (h | h)
          · exact Or.inl (Or.inl h)
          · exact Or.inr h
theorem l_161b {σ : ev_M} {al c n bst s1 z6 : Int} {g : Int → Int} {f : Int → Int} (a2 : st_I (σ 183)) (hf : ∀ b, 0 ≤ b → b < σ 183 4 → ev_and (ev_shr s1 b) 1 = f b) : ∀ (k : Nat) (b sum : Int), 0 ≤ b → b + k = σ 183 4 → EB 161 8 [some (.inr (.inl 182)), some (.inl al), some (.inl bst), some (.inl n), some (.inl sum), some (.inl s1), some (.inl z6), some (.inl b)] [] (st_v σ c g) = EB 161 9 [some (.inr (.inl 182)), some (.inl al), some (.inl bst), some (.inl n), some (.inl (ev_ss (fun b => f b * st_fe (σ 183) b) k b sum)), some (.inl s1), some (.inl z6), some (.inl (σ 183 4))] [] (st_v σ c g) := by
  have i4 := a2.1.2.2.2.2.1
  have m183 : st_v σ c g 183 = σ 183 := st_v_o (by omega)
  intro k
  induction k with
  | zero =>
    intro b sum h0 h1
    obtain rfl : b = σ 183 4 := by omega
    rw [show ev_ss (fun b => f b * st_fe (σ 183) b) 0 (σ 183 4) sum = sum from rfl, bk_161_8]
    repeat' (first | (simp (disch := first | assumption | exact Nat.le_of_ble_eq_true rfl | omega) only [bk_161_0, eo_6, eo_3_1n, eo_3_1i, eo_3_1r, eo_3_2n, eo_3_2i, eo_3_2r, eo_53, eo_0_2, eo_1_0, g11_28_0, eo_0_1, eo_12, g11_28_8, eo_23_2n, eo_23_2i, eo_23_2r, eo_52, bk_161_2, bk_161_3, bk_161_4, g11_30, eo_3_3n, eo_3_3i, eo_3_3r, eo_0_3, eo_3_4n, eo_3_4i, eo_3_4r, eo_3_5n, eo_3_5i, eo_3_5r, eo_3_6n, eo_3_6i, eo_3_6r, eo_11, eo_3_7n, eo_3_7i, eo_3_7r, eo_0_7, eo_0_4, eo_0_6, eo_14d, ev_rem_id, v11_3, ev_ki, ev_kv, eo_10, eo_0_5, eo_18, eo_16, eo_13d, ev_div_id, eo_23_7n, eo_23_7i, eo_23_7r, bk_161_7, eo_19, eo_15, g11_27, bk_161_10, bk_161_11, bk_161_12, bk_161_13, bk_161_14, eo_23_3n, eo_23_3i, eo_23_3r, bk_161_15, bk_161_17, eo_58, a32_183, a33_183, a32_189, a33_189, m183, Int.add_zero, Int.add_sub_cancel, Int.reduceAdd, Int.reduceMul, Int.reduceSub, Int.reduceNeg, ev_wr_id]) | ((first | with_reducible refine br_40 ?_ ?_ | with_reducible refine br_41 ?_ ?_ | with_reducible refine br_42 ?_ ?_ | with_reducible refine br_43 ?_ ?_ | with_reducible refine br_44 ?_ ?_ | with_reducible refine br_45 ?_ ?_ | with_reducible refine br_46 ?_ ?_ | with_reducible refine br_47 ?_ ?_ | with_reducible refine br_48 ?_ ?_ | with_reducible refine br_49 ?_ ?_ | with_reducible refine br_50 ?_ ?_ | with_reducible refine br_51 ?_ ?_) <;> intro h <;> try simp (disch := first | assumption | exact Nat.le_of_ble_eq_true rfl | omega) only [ev_wr_id, not_true_eq_false, not_false_eq_true, Int.reduceEq, Int.reduceLT, Int.reduceLE, and_self, and_true, true_and, and_false, false_and, reduceIte] at h <;> try (exfalso; omega; done)))
  | succ k ih =>
    intro b sum h0 h1
    have e := ih (b + 1) (sum + f b * st_fe (σ 183) b) (by omega) (by omega)
    have hfb := hf b h0 (by omega)
    rw [show ev_ss (fun b => f b * st_fe (σ 183) b) (k + 1) b sum = ev_ss (fun b => f b * st_fe (σ 183) b) k (b + 1) (sum + f b * st_fe (σ 183) b) from rfl, ← e]
    clear e ih
    unfold st_fe
    rw [bk_161_8]
    repeat' (first | (simp (disch := first | assumption | exact Nat.le_of_ble_eq_true rfl | omega) only [bk_161_0, eo_6, eo_3_1n, eo_3_1i, eo_3_1r, eo_3_2n, eo_3_2i, eo_3_2r, eo_53, eo_0_2, eo_1_0, g11_28_0, eo_0_1, eo_12, g11_28_8, eo_23_2n, eo_23_2i, eo_23_2r, eo_52, bk_161_2, bk_161_3, bk_161_4, g11_30, eo_3_3n, eo_3_3i, eo_3_3r, eo_0_3, eo_3_4n, eo_3_4i, eo_3_4r, eo_3_5n, eo_3_5i, eo_3_5r, eo_3_6n, eo_3_6i, eo_3_6r, eo_11, eo_3_7n, eo_3_7i, eo_3_7r, eo_0_7, eo_0_4, eo_0_6, eo_14d, ev_rem_id, v11_3, ev_ki, ev_kv, eo_10, eo_0_5, eo_18, eo_16, eo_13d, ev_div_id, eo_23_7n, eo_23_7i, eo_23_7r, bk_161_7, eo_19, eo_15, g11_27, bk_161_10, bk_161_11, bk_161_12, bk_161_13, bk_161_14, eo_23_3n, eo_23_3i, eo_23_3r, bk_161_15, bk_161_17, eo_58, a32_183, a33_183, a32_189, a33_189, m183, hfb, Int.add_zero, Int.add_sub_cancel, Int.reduceAdd, Int.reduceMul, Int.reduceSub, Int.reduceNeg, ev_wr_id]) | ((first | with_reducible refine br_40 ?_ ?_ | with_reducible refine br_41 ?_ ?_ | with_reducible refine br_42 ?_ ?_ | with_reducible refine br_43 ?_ ?_ | with_reducible refine br_44 ?_ ?_ | with_reducible refine br_45 ?_ ?_ | with_reducible refine br_46 ?_ ?_ | with_reducible refine br_47 ?_ ?_ | with_reducible refine br_48 ?_ ?_ | with_reducible refine br_49 ?_ ?_ | with_reducible refine br_50 ?_ ?_ | with_reducible refine br_51 ?_ ?_) <;> intro h <;> try simp (disch := first | assumption | exact Nat.le_of_ble_eq_true rfl | omega) only [ev_wr_id, not_true_eq_false, not_false_eq_true, Int.reduceEq, Int.reduceLT, Int.reduceLE, and_self, and_true, true_and, and_false, false_and, reduceIte] at h <;> try (exfalso; omega; done)))
def st_im (T : Int → Int) (n bst c : Int) : Prop := (n = 0 ∧ bst = -1) ∨ ((1 ≤ n ∧ 0 ≤ c ∧ c ≤ 10125) ∧ ∃ t, st_va (T 4) (T 3).toNat t ∧ bst = st_nm (T 4) t (T 3).toNat ∧ bst < n ∧ c = st_pr (st_co T) (st_fe T) (T 4) (T 3).toNat t ∧ ∀ a, st_va (T 4) (T 3).toNat a → st_nm (T 4) a (T 3).toNat < n → c ≤ st_pr (st_co T) (st_fe T) (T 4) (T 3).toNat a ∧ (st_nm (T 4) a (T 3).toNat < bst → c < st_pr (st_co T) (st_fe T) (T 4) (T 3).toNat a))
theorem st_pr_in {T : Int → Int} {a : Int → Int} (h : st_I T) (ha : st_va (T 4) (T 3).toNat a) : 0 ≤ st_pr (st_co T) (st_fe T) (T 4) (T 3).toNat a ∧ st_pr (st_co T) (st_fe T) (T 4) (T 3).toNat a ≤ 10125 := by
  have i3 := h.1.2.2.2.1
  have i4 := h.1.2.2.2.2.1
  have h2 := st_sc_in (c := st_co T) (a := a) (m := 891) (T 3).toNat (fun k hk => st_co_in h (by omega) (ha k hk))
  have h1 := ev_ss_in (f := fun b => st_us a b (T 3).toNat * st_fe T b) (m := 999) (T 4).toNat 0 (st_sc (st_co T) a (T 3).toNat) (fun q h0 h1 => by
    have := (h.2.2.2.2.2.2 q h0 (by omega)).1
    have hu := st_us_in (a := a) (b := q) (T 3).toNat
    unfold st_fe
    rcases (show st_us a q (T 3).toNat = 0 ∨ st_us a q (T 3).toNat = 1 by omega) with h | h <;> rw [h] <;> omega)
  unfold st_pr
  omega
theorem st_im_n {T : Int → Int} {n bst c v : Int} {t : Int → Int} (hI : st_I T) (h4 : 0 < T 4) (h : st_im T n bst c) (hn : 0 ≤ n) (ht : st_va (T 4) (T 3).toNat t) (htn : st_nm (T 4) t (T 3).toNat = n) (hv : v = st_pr (st_co T) (st_fe T) (T 4) (T 3).toNat t) : ((bst = -1 ∨ v < c) → st_im T (n + 1) n v) ∧ (¬ (bst = -1 ∨ v < c) → st_im T (n + 1) bst c) := by
  have i3 := hI.1.2.2.2.1
  have i4 := hI.1.2.2.2.2.1
  have hp := st_pr_in hI ht
  have hsame : ∀ a, st_va (T 4) (T 3).toNat a → st_nm (T 4) a (T 3).toNat = n → st_pr (st_co T) (st_fe T) (T 4) (T 3).toNat a = v := fun a ha hna => by
    rw [hv]
    exact st_pr_eq (st_nm_inj ⟨h4, by omega⟩ _ ha ht (by omega))
  constructor
  · intro hc
    refine Or.inr ⟨by omega, t, ht, htn.symm, by omega, hv, fun a ha hna => ?_⟩
    by_cases c1 : st_nm (T 4) a (T 3).toNat = n
    · exact ⟨by have := hsame a ha c1; omega, fun h => by omega⟩
    · rcases h with ⟨q1, q2⟩ | ⟨q0, t0, q1, q2, q3, q4, q5⟩
      · have := (st_nm_in ⟨h4, by omega⟩ _ a ha).1
        omega
      · have hb0 := (st_nm_in ⟨h4, by omega⟩ _ t0 q1).1
        have := (q5 a ha (by omega)).1
        exact ⟨by omega, fun _ => by omega⟩
  · intro hc
    rcases h with ⟨q1, q2⟩ | ⟨q0, t0, q1, q2, q3, q4, q5⟩
    · omega
    · refine Or.inr ⟨by omega, t0, q1, q2, by omega, q4, fun a ha hna => ?_⟩
      by_cases c1 : st_nm (T 4) a (T 3).toNat = n
      · exact ⟨by have := hsame a ha c1; omega, fun h => by omega⟩
      · exact q5 a ha (by omega)
theorem l_161c {σ : ev_M} {g : Int → Int} (a2 : st_I (σ 183)) (h3 : 0 < σ 183 3) (h4 : 0 < σ 183 4) : ∀ (k : Nat) (n al bst c : Int) (p4 p5 p6 p7 : Option ev_V), 0 ≤ n → n + k = al → al = st_pw (σ 183 4) (σ 183 3).toNat → st_im (σ 183) n bst c → ∃ b2 c2 q4 q5 q6 q7, EB 161 5 [some (.inr (.inl 182)), some (.inl al), some (.inl bst), some (.inl n), p4, p5, p6, p7] [] (st_v σ c g) = EB 161 15 [some (.inr (.inl 182)), some (.inl al), some (.inl b2), some (.inl al), q4, q5, q6, q7] [] (st_v σ c2 g) ∧ st_im (σ 183) al b2 c2 := by
  have i3 := a2.1.2.2.2.1
  have i4 := a2.1.2.2.2.2.1
  intro k
  induction k with
  | zero =>
    intro n al bst c p4 p5 p6 p7 h0 h1 hal hv
    obtain rfl : n = al := by omega
    have hpw := st_pw_B (B := σ 183 4) (n := (σ 183 3).toNat) (by omega) (by omega)
    rw [← hal] at hpw
    refine ⟨bst, c, p4, p5, p6, p7, ?_, hv⟩
    have m183 : st_v σ c g 183 = σ 183 := st_v_o (by omega)
    clear hv hal
    rw [bk_161_5]
    repeat' (first | (simp (disch := first | assumption | exact Nat.le_of_ble_eq_true rfl | omega) only [bk_161_0, eo_6, eo_3_1n, eo_3_1i, eo_3_1r, eo_3_2n, eo_3_2i, eo_3_2r, eo_53, eo_0_2, eo_1_0, g11_28_0, eo_0_1, eo_12, g11_28_8, eo_23_2n, eo_23_2i, eo_23_2r, eo_52, bk_161_2, bk_161_3, bk_161_4, g11_30, eo_3_3n, eo_3_3i, eo_3_3r, eo_0_3, eo_3_4n, eo_3_4i, eo_3_4r, eo_3_5n, eo_3_5i, eo_3_5r, eo_3_6n, eo_3_6i, eo_3_6r, eo_11, eo_3_7n, eo_3_7i, eo_3_7r, eo_0_7, eo_0_4, eo_0_6, eo_14d, ev_rem_id, v11_3, ev_ki, ev_kv, eo_10, eo_0_5, eo_18, eo_16, eo_13d, ev_div_id, eo_23_7n, eo_23_7i, eo_23_7r, bk_161_7, eo_19, eo_15, bk_161_9, g11_27, bk_161_10, bk_161_11, bk_161_12, bk_161_13, bk_161_14, eo_23_3n, eo_23_3i, eo_23_3r, bk_161_17, eo_58, a32_183, a33_183, a32_189, a33_189, Int.add_zero, Int.add_sub_cancel, Int.reduceAdd, Int.reduceMul, Int.reduceSub, Int.reduceNeg, ev_wr_id]) | ((first | with_reducible refine br_40 ?_ ?_ | with_reducible refine br_41 ?_ ?_ | with_reducible refine br_42 ?_ ?_ | with_reducible refine br_43 ?_ ?_ | with_reducible refine br_44 ?_ ?_ | with_reducible refine br_45 ?_ ?_ | with_reducible refine br_46 ?_ ?_ | with_reducible refine br_47 ?_ ?_ | with_reducible refine br_48 ?_ ?_ | with_reducible refine br_49 ?_ ?_ | with_reducible refine br_50 ?_ ?_ | with_reducible refine br_51 ?_ ?_) <;> intro h <;> try simp (disch := first | assumption | exact Nat.le_of_ble_eq_true rfl | omega) only [ev_wr_id, not_true_eq_false, not_false_eq_true, Int.reduceEq, Int.reduceLT, Int.reduceLE, and_self, and_true, true_and, and_false, false_and, reduceIte] at h <;> try (exfalso; omega; done)))
  | succ k ih =>
    intro n al bst c p4 p5 p6 p7 h0 h1 hal hv
    have hpw := st_pw_B (B := σ 183 4) (n := (σ 183 3).toNat) (by omega) (by omega)
    rw [← hal] at hpw
    obtain ⟨a, ha, hn⟩ := st_giv (B := σ 183 4) (by omega) (σ 183 3).toNat n h0 (by omega)
    obtain ⟨v, hvv⟩ : ∃ v, v = st_pr (st_co (σ 183)) (st_fe (σ 183)) (σ 183 4) (σ 183 3).toNat a := ⟨_, rfl⟩
    have hvb := st_pr_in a2 ha
    rw [← hvv] at hvb
    obtain ⟨w1, w2⟩ := st_im_n a2 h4 hv h0 ha hn hvv
    obtain ⟨s1, e6, hs, hsb⟩ := l_161a (σ := σ) (al := al) (c := c) (n := n) (bst := bst) (g := g) a2 (σ 183 3).toNat a (σ 183 3 - 1) (σ 183 3) (σ 183 4) 0 0 (by omega) (by omega) rfl rfl h4 (by omega) ha (by omega)
    rw [hn, Int.zero_add] at e6
    have hf : ∀ b, 0 ≤ b → b < σ 183 4 → ev_and (ev_shr s1 b) 1 = st_us a b (σ 183 3).toNat := fun b b0 b1 => by
      obtain ⟨x1, x2, x3, x4, x5, x6⟩ := ev_bits (r := s1) (o := b) (by omega) (by omega)
      have hu := st_us_in (a := a) (b := b) (σ 183 3).toNat
      have hb := hsb b b0 b1
      have hz : ¬ ev_bt 0 b := by
        unfold ev_bt
        rw [Int.zero_ediv]
        omega
      by_cases c1 : st_us a b (σ 183 3).toNat = 1
      · rw [c1]
        exact x2.mpr (hb.mpr (Or.inr c1))
      · have : ¬ ev_and (ev_shr s1 b) 1 = 1 := fun h => by
          rcases hb.mp (x2.mp h) with h | h
          · exact hz h
          · exact c1 h
        omega
    have e8 := l_161b (σ := σ) (al := al) (c := c) (n := n) (bst := bst) (s1 := s1) (z6 := 0) (g := g) a2 hf (σ 183 4).toNat 0 (st_sc (st_co (σ 183)) a (σ 183 3).toNat) (by omega) (by omega)
    rw [show ev_ss (fun b => st_us a b (σ 183 3).toNat * st_fe (σ 183) b) (σ 183 4).toNat 0 (st_sc (st_co (σ 183)) a (σ 183 3).toNat) = v from hvv.symm] at e8
    have m183 : st_v σ c g 183 = σ 183 := st_v_o (by omega)
    have s3 := congrFun m183 3
    have hbr : bst = -1 ∨ (0 ≤ bst ∧ bst < n ∧ 0 ≤ c ∧ c ≤ 10125) := by
      rcases hv with q | ⟨q0, t0, q1, q2, q3, q4, q5⟩
      · exact Or.inl q.2
      · have hb0 := (st_nm_in ⟨h4, by omega⟩ _ t0 q1).1
        exact Or.inr (by omega)
    by_cases c0 : bst = -1 ∨ v < c
    · obtain ⟨b2, c2, q4, q5, q6, q7, e, h⟩ := ih (n + 1) al n v (some (.inl v)) (some (.inl s1)) (some (.inl 0)) (some (.inl (σ 183 4))) (by omega) (by omega) hal (w1 c0)
      refine ⟨b2, c2, q4, q5, q6, q7, ?_, h⟩
      rw [← e]
      clear e h ih w1 w2 hv hf hsb hvv ha hn hal
      rw [bk_161_5]
      repeat' (first | (simp (disch := first | assumption | exact Nat.le_of_ble_eq_true rfl | omega) only [bk_161_0, eo_6, eo_3_1n, eo_3_1i, eo_3_1r, eo_3_2n, eo_3_2i, eo_3_2r, eo_53, eo_0_2, eo_1_0, g11_28_0, eo_0_1, eo_12, g11_28_8, eo_23_2n, eo_23_2i, eo_23_2r, eo_52, bk_161_2, bk_161_3, bk_161_4, g11_30, eo_3_3n, eo_3_3i, eo_3_3r, eo_0_3, eo_3_4n, eo_3_4i, eo_3_4r, eo_3_5n, eo_3_5i, eo_3_5r, eo_3_6n, eo_3_6i, eo_3_6r, eo_11, eo_3_7n, eo_3_7i, eo_3_7r, eo_0_7, eo_0_4, eo_0_6, eo_14d, ev_rem_id, v11_3, ev_ki, ev_kv, eo_10, eo_0_5, eo_18, eo_16, eo_13d, ev_div_id, eo_23_7n, eo_23_7i, eo_23_7r, bk_161_7, eo_19, eo_15, bk_161_9, g11_27, bk_161_10, bk_161_11, bk_161_12, bk_161_13, bk_161_14, eo_23_3n, eo_23_3i, eo_23_3r, bk_161_15, bk_161_17, eo_58, a32_183, a33_183, a32_189, a33_189, s3, Int.add_zero, Int.add_sub_cancel, Int.reduceAdd, Int.reduceMul, Int.reduceSub, Int.reduceNeg, ev_wr_id]) | ((first | with_reducible refine br_40 ?_ ?_ | with_reducible refine br_41 ?_ ?_ | with_reducible refine br_42 ?_ ?_ | with_reducible refine br_43 ?_ ?_ | with_reducible refine br_44 ?_ ?_ | with_reducible refine br_45 ?_ ?_ | with_reducible refine br_46 ?_ ?_ | with_reducible refine br_47 ?_ ?_ | with_reducible refine br_48 ?_ ?_ | with_reducible refine br_49 ?_ ?_ | with_reducible refine br_50 ?_ ?_ | with_reducible refine br_51 ?_ ?_) <;> intro h <;> try simp (disch := first | assumption | exact Nat.le_of_ble_eq_true rfl | omega) only [ev_wr_id, not_true_eq_false, not_false_eq_true, Int.reduceEq, Int.reduceLT, Int.reduceLE, and_self, and_true, true_and, and_false, false_and, reduceIte] at h <;> try (exfalso; omega; done)))
      rw [e6, bk_161_7]
      repeat' (first | (simp (disch := first | assumption | exact Nat.le_of_ble_eq_true rfl | omega) only [bk_161_0, eo_6, eo_3_1n, eo_3_1i, eo_3_1r, eo_3_2n, eo_3_2i, eo_3_2r, eo_53, eo_0_2, eo_1_0, g11_28_0, eo_0_1, eo_12, g11_28_8, eo_23_2n, eo_23_2i, eo_23_2r, eo_52, bk_161_2, bk_161_3, bk_161_4, g11_30, eo_3_3n, eo_3_3i, eo_3_3r, eo_0_3, eo_3_4n, eo_3_4i, eo_3_4r, eo_3_5n, eo_3_5i, eo_3_5r, eo_3_6n, eo_3_6i, eo_3_6r, eo_11, eo_3_7n, eo_3_7i, eo_3_7r, eo_0_7, eo_0_4, eo_0_6, eo_14d, ev_rem_id, v11_3, ev_ki, ev_kv, eo_10, eo_0_5, eo_18, eo_16, eo_13d, ev_div_id, eo_23_7n, eo_23_7i, eo_23_7r, bk_161_7, eo_19, eo_15, bk_161_9, g11_27, bk_161_10, bk_161_11, bk_161_12, bk_161_13, bk_161_14, eo_23_3n, eo_23_3i, eo_23_3r, bk_161_15, bk_161_17, eo_58, a32_183, a33_183, a32_189, a33_189, Int.add_zero, Int.add_sub_cancel, Int.reduceAdd, Int.reduceMul, Int.reduceSub, Int.reduceNeg, ev_wr_id]) | ((first | with_reducible refine br_40 ?_ ?_ | with_reducible refine br_41 ?_ ?_ | with_reducible refine br_42 ?_ ?_ | with_reducible refine br_43 ?_ ?_ | with_reducible refine br_44 ?_ ?_ | with_reducible refine br_45 ?_ ?_ | with_reducible refine br_46 ?_ ?_ | with_reducible refine br_47 ?_ ?_ | with_reducible refine br_48 ?_ ?_ | with_reducible refine br_49 ?_ ?_ | with_reducible refine br_50 ?_ ?_ | with_reducible refine br_51 ?_ ?_) <;> intro h <;> try simp (disch := first | assumption | exact Nat.le_of_ble_eq_true rfl | omega) only [ev_wr_id, not_true_eq_false, not_false_eq_true, Int.reduceEq, Int.reduceLT, Int.reduceLE, and_self, and_true, true_and, and_false, false_and, reduceIte] at h <;> try (exfalso; omega; done)))
      rw [e8, bk_161_9]
      repeat' (first | (simp (disch := first | assumption | exact Nat.le_of_ble_eq_true rfl | omega) only [bk_161_0, eo_6, eo_3_1n, eo_3_1i, eo_3_1r, eo_3_2n, eo_3_2i, eo_3_2r, eo_53, eo_0_2, eo_1_0, g11_28_0, eo_0_1, eo_12, g11_28_8, eo_23_2n, eo_23_2i, eo_23_2r, eo_52, bk_161_2, bk_161_3, bk_161_4, g11_30, eo_3_3n, eo_3_3i, eo_3_3r, eo_0_3, eo_3_4n, eo_3_4i, eo_3_4r, eo_3_5n, eo_3_5i, eo_3_5r, eo_3_6n, eo_3_6i, eo_3_6r, eo_11, eo_3_7n, eo_3_7i, eo_3_7r, eo_0_7, eo_0_4, eo_0_6, eo_14d, ev_rem_id, v11_3, ev_ki, ev_kv, eo_10, eo_0_5, eo_18, eo_16, eo_13d, ev_div_id, eo_23_7n, eo_23_7i, eo_23_7r, bk_161_7, eo_19, eo_15, bk_161_9, g11_27, bk_161_10, bk_161_11, bk_161_12, bk_161_13, bk_161_14, eo_23_3n, eo_23_3i, eo_23_3r, bk_161_15, bk_161_17, eo_58, a32_183, a33_183, a32_189, a33_189, st_v_0, st_v_c, Int.add_zero, Int.add_sub_cancel, Int.reduceAdd, Int.reduceMul, Int.reduceSub, Int.reduceNeg, ev_wr_id]) | ((first | with_reducible refine br_40 ?_ ?_ | with_reducible refine br_41 ?_ ?_ | with_reducible refine br_42 ?_ ?_ | with_reducible refine br_43 ?_ ?_ | with_reducible refine br_44 ?_ ?_ | with_reducible refine br_45 ?_ ?_ | with_reducible refine br_46 ?_ ?_ | with_reducible refine br_47 ?_ ?_ | with_reducible refine br_48 ?_ ?_ | with_reducible refine br_49 ?_ ?_ | with_reducible refine br_50 ?_ ?_ | with_reducible refine br_51 ?_ ?_) <;> intro h <;> try simp (disch := first | assumption | exact Nat.le_of_ble_eq_true rfl | omega) only [ev_wr_id, not_true_eq_false, not_false_eq_true, Int.reduceEq, Int.reduceLT, Int.reduceLE, and_self, and_true, true_and, and_false, false_and, reduceIte] at h <;> try (exfalso; omega; done)))
    · obtain ⟨b2, c2, q4, q5, q6, q7, e, h⟩ := ih (n + 1) al bst c (some (.inl v)) (some (.inl s1)) (some (.inl 0)) (some (.inl (σ 183 4))) (by omega) (by omega) hal (w2 c0)
      refine ⟨b2, c2, q4, q5, q6, q7, ?_, h⟩
      rw [← e]
      have c3 : bst ≠ -1 ∧ ¬ v < c := by omega
      clear e h ih w1 w2 hv hf hsb hvv ha hn hal
      rw [bk_161_5]
      repeat' (first | (simp (disch := first | assumption | exact Nat.le_of_ble_eq_true rfl | omega) only [bk_161_0, eo_6, eo_3_1n, eo_3_1i, eo_3_1r, eo_3_2n, eo_3_2i, eo_3_2r, eo_53, eo_0_2, eo_1_0, g11_28_0, eo_0_1, eo_12, g11_28_8, eo_23_2n, eo_23_2i, eo_23_2r, eo_52, bk_161_2, bk_161_3, bk_161_4, g11_30, eo_3_3n, eo_3_3i, eo_3_3r, eo_0_3, eo_3_4n, eo_3_4i, eo_3_4r, eo_3_5n, eo_3_5i, eo_3_5r, eo_3_6n, eo_3_6i, eo_3_6r, eo_11, eo_3_7n, eo_3_7i, eo_3_7r, eo_0_7, eo_0_4, eo_0_6, eo_14d, ev_rem_id, v11_3, ev_ki, ev_kv, eo_10, eo_0_5, eo_18, eo_16, eo_13d, ev_div_id, eo_23_7n, eo_23_7i, eo_23_7r, bk_161_7, eo_19, eo_15, bk_161_9, g11_27, bk_161_10, bk_161_11, bk_161_12, bk_161_13, bk_161_14, eo_23_3n, eo_23_3i, eo_23_3r, bk_161_15, bk_161_17, eo_58, a32_183, a33_183, a32_189, a33_189, s3, Int.add_zero, Int.add_sub_cancel, Int.reduceAdd, Int.reduceMul, Int.reduceSub, Int.reduceNeg, ev_wr_id]) | ((first | with_reducible refine br_40 ?_ ?_ | with_reducible refine br_41 ?_ ?_ | with_reducible refine br_42 ?_ ?_ | with_reducible refine br_43 ?_ ?_ | with_reducible refine br_44 ?_ ?_ | with_reducible refine br_45 ?_ ?_ | with_reducible refine br_46 ?_ ?_ | with_reducible refine br_47 ?_ ?_ | with_reducible refine br_48 ?_ ?_ | with_reducible refine br_49 ?_ ?_ | with_reducible refine br_50 ?_ ?_ | with_reducible refine br_51 ?_ ?_) <;> intro h <;> try simp (disch := first | assumption | exact Nat.le_of_ble_eq_true rfl | omega) only [ev_wr_id, not_true_eq_false, not_false_eq_true, Int.reduceEq, Int.reduceLT, Int.reduceLE, and_self, and_true, true_and, and_false, false_and, reduceIte] at h <;> try (exfalso; omega; done)))
      rw [e6, bk_161_7]
      repeat' (first | (simp (disch := first | assumption | exact Nat.le_of_ble_eq_true rfl | omega) only [bk_161_0, eo_6, eo_3_1n, eo_3_1i, eo_3_1r, eo_3_2n, eo_3_2i, eo_3_2r, eo_53, eo_0_2, eo_1_0, g11_28_0, eo_0_1, eo_12, g11_28_8, eo_23_2n, eo_23_2i, eo_23_2r, eo_52, bk_161_2, bk_161_3, bk_161_4, g11_30, eo_3_3n, eo_3_3i, eo_3_3r, eo_0_3, eo_3_4n, eo_3_4i, eo_3_4r, eo_3_5n, eo_3_5i, eo_3_5r, eo_3_6n, eo_3_6i, eo_3_6r, eo_11, eo_3_7n, eo_3_7i, eo_3_7r, eo_0_7, eo_0_4, eo_0_6, eo_14d, ev_rem_id, v11_3, ev_ki, ev_kv, eo_10, eo_0_5, eo_18, eo_16, eo_13d, ev_div_id, eo_23_7n, eo_23_7i, eo_23_7r, bk_161_7, eo_19, eo_15, bk_161_9, g11_27, bk_161_10, bk_161_11, bk_161_12, bk_161_13, bk_161_14, eo_23_3n, eo_23_3i, eo_23_3r, bk_161_15, bk_161_17, eo_58, a32_183, a33_183, a32_189, a33_189, Int.add_zero, Int.add_sub_cancel, Int.reduceAdd, Int.reduceMul, Int.reduceSub, Int.reduceNeg, ev_wr_id]) | ((first | with_reducible refine br_40 ?_ ?_ | with_reducible refine br_41 ?_ ?_ | with_reducible refine br_42 ?_ ?_ | with_reducible refine br_43 ?_ ?_ | with_reducible refine br_44 ?_ ?_ | with_reducible refine br_45 ?_ ?_ | with_reducible refine br_46 ?_ ?_ | with_reducible refine br_47 ?_ ?_ | with_reducible refine br_48 ?_ ?_ | with_reducible refine br_49 ?_ ?_ | with_reducible refine br_50 ?_ ?_ | with_reducible refine br_51 ?_ ?_) <;> intro h <;> try simp (disch := first | assumption | exact Nat.le_of_ble_eq_true rfl | omega) only [ev_wr_id, not_true_eq_false, not_false_eq_true, Int.reduceEq, Int.reduceLT, Int.reduceLE, and_self, and_true, true_and, and_false, false_and, reduceIte] at h <;> try (exfalso; omega; done)))
      rw [e8, bk_161_9]
      repeat' (first | (simp (disch := first | assumption | exact Nat.le_of_ble_eq_true rfl | omega) only [bk_161_0, eo_6, eo_3_1n, eo_3_1i, eo_3_1r, eo_3_2n, eo_3_2i, eo_3_2r, eo_53, eo_0_2, eo_1_0, g11_28_0, eo_0_1, eo_12, g11_28_8, eo_23_2n, eo_23_2i, eo_23_2r, eo_52, bk_161_2, bk_161_3, bk_161_4, g11_30, eo_3_3n, eo_3_3i, eo_3_3r, eo_0_3, eo_3_4n, eo_3_4i, eo_3_4r, eo_3_5n, eo_3_5i, eo_3_5r, eo_3_6n, eo_3_6i, eo_3_6r, eo_11, eo_3_7n, eo_3_7i, eo_3_7r, eo_0_7, eo_0_4, eo_0_6, eo_14d, ev_rem_id, v11_3, ev_ki, ev_kv, eo_10, eo_0_5, eo_18, eo_16, eo_13d, ev_div_id, eo_23_7n, eo_23_7i, eo_23_7r, bk_161_7, eo_19, eo_15, bk_161_9, g11_27, bk_161_10, bk_161_11, bk_161_12, bk_161_13, bk_161_14, eo_23_3n, eo_23_3i, eo_23_3r, bk_161_15, bk_161_17, eo_58, a32_183, a33_183, a32_189, a33_189, st_v_0, st_v_c, Int.add_zero, Int.add_sub_cancel, Int.reduceAdd, Int.reduceMul, Int.reduceSub, Int.reduceNeg, ev_wr_id]) | ((first | with_reducible refine br_40 ?_ ?_ | with_reducible refine br_41 ?_ ?_ | with_reducible refine br_42 ?_ ?_ | with_reducible refine br_43 ?_ ?_ | with_reducible refine br_44 ?_ ?_ | with_reducible refine br_45 ?_ ?_ | with_reducible refine br_46 ?_ ?_ | with_reducible refine br_47 ?_ ?_ | with_reducible refine br_48 ?_ ?_ | with_reducible refine br_49 ?_ ?_ | with_reducible refine br_50 ?_ ?_ | with_reducible refine br_51 ?_ ?_) <;> intro h <;> try simp (disch := first | assumption | exact Nat.le_of_ble_eq_true rfl | omega) only [ev_wr_id, not_true_eq_false, not_false_eq_true, Int.reduceEq, Int.reduceLT, Int.reduceLE, and_self, and_true, true_and, and_false, false_and, reduceIte] at h <;> try (exfalso; omega; done)))
theorem l_161d {σ : ev_M} {al : Int} {p4 p5 p6 p7 : Option ev_V} (a2 : st_I (σ 183)) (h4 : 0 < σ 183 4) : ∀ (k : Nat) (l c : Int) (a g : Int → Int), l + 1 = k → k ≤ (σ 183 3).toNat → st_va (σ 183 4) k a → ∃ g2, EB 161 16 [some (.inr (.inl 182)), some (.inl al), some (.inl (st_nm (σ 183 4) a k)), some (.inl l), p4, p5, p6, p7] [] (st_v σ c g) = some (none, st_v σ c g2) ∧ (∀ j : Nat, j < k → g2 j = a j) ∧ ∀ j, l < j → g2 j = g j := by
  have i3 := a2.1.2.2.2.1
  have i4 := a2.1.2.2.2.2.1
  intro k
  induction k with
  | zero =>
    intro l c a g hl hk ha
    refine ⟨g, ?_, fun j hj => by omega, fun _ _ => rfl⟩
    obtain rfl : l = -1 := by omega
    rw [show st_nm (σ 183 4) a 0 = 0 from rfl]
    clear ha hk hl
    rw [bk_161_16]
    repeat' (first | (simp (disch := first | assumption | exact Nat.le_of_ble_eq_true rfl | omega) only [bk_161_0, eo_6, eo_3_1n, eo_3_1i, eo_3_1r, eo_3_2n, eo_3_2i, eo_3_2r, eo_53, eo_0_2, eo_1_0, g11_28_0, eo_0_1, eo_12, g11_28_8, eo_23_2n, eo_23_2i, eo_23_2r, eo_52, bk_161_2, bk_161_3, bk_161_4, g11_30, eo_3_3n, eo_3_3i, eo_3_3r, eo_0_3, eo_3_4n, eo_3_4i, eo_3_4r, eo_3_5n, eo_3_5i, eo_3_5r, eo_3_6n, eo_3_6i, eo_3_6r, eo_11, eo_3_7n, eo_3_7i, eo_3_7r, eo_0_7, eo_0_4, eo_0_6, eo_14d, ev_rem_id, v11_3, ev_ki, ev_kv, eo_10, eo_0_5, eo_18, eo_16, eo_13d, ev_div_id, eo_23_7n, eo_23_7i, eo_23_7r, bk_161_7, eo_19, eo_15, bk_161_9, g11_27, bk_161_10, bk_161_11, bk_161_12, bk_161_13, bk_161_14, eo_23_3n, eo_23_3i, eo_23_3r, bk_161_15, bk_161_17, eo_58, a32_183, a33_183, a32_189, a33_189, Int.add_zero, Int.add_sub_cancel, Int.reduceAdd, Int.reduceMul, Int.reduceSub, Int.reduceNeg, ev_wr_id]) | ((first | with_reducible refine br_40 ?_ ?_ | with_reducible refine br_41 ?_ ?_ | with_reducible refine br_42 ?_ ?_ | with_reducible refine br_43 ?_ ?_ | with_reducible refine br_44 ?_ ?_ | with_reducible refine br_45 ?_ ?_ | with_reducible refine br_46 ?_ ?_ | with_reducible refine br_47 ?_ ?_ | with_reducible refine br_48 ?_ ?_ | with_reducible refine br_49 ?_ ?_ | with_reducible refine br_50 ?_ ?_ | with_reducible refine br_51 ?_ ?_) <;> intro h <;> try simp (disch := first | assumption | exact Nat.le_of_ble_eq_true rfl | omega) only [ev_wr_id, not_true_eq_false, not_false_eq_true, Int.reduceEq, Int.reduceLT, Int.reduceLE, and_self, and_true, true_and, and_false, false_and, reduceIte] at h <;> try (exfalso; omega; done)))
  | succ k ih =>
    intro l c a g hl hk ha
    have hak := ha k (by omega)
    have hnm := st_nm_in (B := σ 183 4) (by omega) k a (st_va_le ha (by omega))
    have hpw := (st_pw_B (B := σ 183 4) (n := k) (by omega) (by omega)).2.1
    obtain ⟨d, hd⟩ : ∃ d, d = a k := ⟨_, rfl⟩
    rw [← hd] at hak
    obtain ⟨g2, e, h1, h2⟩ := ih (l + -1) c a (ev_u1 g l d) (by omega) (by omega) (st_va_le ha (by omega))
    refine ⟨g2, ?_, fun j hj => ?_, fun j hj => by rw [h2 j (by omega), ev_u1_ne (by omega)]⟩
    · rw [← e]
      obtain ⟨x, hx⟩ : ∃ x, x = st_nm (σ 183 4) a k := ⟨_, rfl⟩
      obtain ⟨B, hB⟩ : ∃ B, B = σ 183 4 := ⟨_, rfl⟩
      have hy : st_nm (σ 183 4) a (k + 1) = x * B + d := by
        rw [hx, hd, hB]
        rfl
      rw [hy, ← hx]
      obtain ⟨y, hyy⟩ : ∃ y, y = x * B + d := ⟨_, rfl⟩
      rw [← hx] at hnm
      have hdv : y / B = x ∧ y % B = d ∧ 0 ≤ y ∧ y ≤ 20000 := by
        rw [hyy]
        rcases (show B = 1 ∨ B = 2 ∨ B = 3 by omega) with h | h | h <;> rw [h] at hB ⊢ <;> omega
      obtain ⟨v1, v2, v3, v4⟩ := hdv
      rw [← hyy]
      have m183 : st_v σ c g 183 = σ 183 := st_v_o (by omega)
      have s4 := congrFun m183 4
      rw [← hB] at s4
      have m183b : st_v σ c (ev_u1 g l d) 183 = σ 183 := st_v_o (by omega)
      have s4b := congrFun m183b 4
      rw [← hB] at s4b
      have hl0 : 0 ≤ l ∧ l < 8 := by omega
      rw [← hB] at i4 h4
      clear e h2 h1 ih ha hnm hk hl hyy hy hx hpw hd hB
      rw [bk_161_16]
      repeat' (first | (simp (disch := first | assumption | exact Nat.le_of_ble_eq_true rfl | omega) only [bk_161_0, eo_6, eo_3_1n, eo_3_1i, eo_3_1r, eo_3_2n, eo_3_2i, eo_3_2r, eo_53, eo_0_2, eo_1_0, g11_28_0, eo_0_1, eo_12, g11_28_8, eo_23_2n, eo_23_2i, eo_23_2r, eo_52, bk_161_2, bk_161_3, bk_161_4, g11_30, eo_3_3n, eo_3_3i, eo_3_3r, eo_0_3, eo_3_4n, eo_3_4i, eo_3_4r, eo_3_5n, eo_3_5i, eo_3_5r, eo_3_6n, eo_3_6i, eo_3_6r, eo_11, eo_3_7n, eo_3_7i, eo_3_7r, eo_0_7, eo_0_4, eo_0_6, eo_14d, ev_rem_id, v11_3, ev_ki, ev_kv, eo_10, eo_0_5, eo_18, eo_16, eo_13d, ev_div_id, eo_23_7n, eo_23_7i, eo_23_7r, bk_161_7, eo_19, eo_15, bk_161_9, g11_27, bk_161_10, bk_161_11, bk_161_12, bk_161_13, bk_161_14, eo_23_3n, eo_23_3i, eo_23_3r, bk_161_15, bk_161_17, eo_58, a32_183, a33_183, a32_189, a33_189, s4, v2, v1, st_v_u, s4b, Int.add_zero, Int.add_sub_cancel, Int.reduceAdd, Int.reduceMul, Int.reduceSub, Int.reduceNeg, ev_wr_id]) | ((first | with_reducible refine br_40 ?_ ?_ | with_reducible refine br_41 ?_ ?_ | with_reducible refine br_42 ?_ ?_ | with_reducible refine br_43 ?_ ?_ | with_reducible refine br_44 ?_ ?_ | with_reducible refine br_45 ?_ ?_ | with_reducible refine br_46 ?_ ?_ | with_reducible refine br_47 ?_ ?_ | with_reducible refine br_48 ?_ ?_ | with_reducible refine br_49 ?_ ?_ | with_reducible refine br_50 ?_ ?_ | with_reducible refine br_51 ?_ ?_) <;> intro h <;> try simp (disch := first | assumption | exact Nat.le_of_ble_eq_true rfl | omega) only [ev_wr_id, not_true_eq_false, not_false_eq_true, Int.reduceEq, Int.reduceLT, Int.reduceLE, and_self, and_true, true_and, and_false, false_and, reduceIte] at h <;> try (exfalso; omega; done)))
    · by_cases c1 : j = k
      · rw [h2 j (by omega), ev_u1_eq (by omega), c1, ← hd]
      · exact h1 j (by omega)
theorem l_161e {σ : ev_M} {c : Int} {p3 p4 p5 p6 p7 : Option ev_V} (a2 : st_I (σ 183)) : ∀ (k m : Nat) (n : Int) (g : Int → Int), n = m → n + k = σ 183 3 → (∀ j, 0 ≤ j → j < n → g j = -1) → ∃ g2, EB 161 1 [some (.inr (.inl 182)), some (.inl (st_pw (σ 183 4) m)), some (.inl n), p3, p4, p5, p6, p7] [] (st_v σ c g) = EB 161 2 [some (.inr (.inl 182)), some (.inl (st_pw (σ 183 4) (σ 183 3).toNat)), some (.inl (σ 183 3)), p3, p4, p5, p6, p7] [] (st_v σ c g2) ∧ ∀ j, 0 ≤ j → j < σ 183 3 → g2 j = -1 := by
  have i3 := a2.1.2.2.2.1
  have i4 := a2.1.2.2.2.2.1
  intro k
  induction k with
  | zero =>
    intro m n g hm hn hg
    have hnL : (σ 183 3).toNat = m := by omega
    refine ⟨g, ?_, fun j h0 h1 => hg j h0 (by omega)⟩
    have m183 : st_v σ c g 183 = σ 183 := st_v_o (by omega)
    have hn2 : n = σ 183 3 := by omega
    subst hn2
    rw [hnL]
    clear hg hm hnL hn
    rw [bk_161_1]
    repeat' (first | (simp (disch := first | assumption | exact Nat.le_of_ble_eq_true rfl | omega) only [bk_161_0, eo_6, eo_3_1n, eo_3_1i, eo_3_1r, eo_3_2n, eo_3_2i, eo_3_2r, eo_53, eo_0_2, eo_1_0, g11_28_0, eo_0_1, eo_12, g11_28_8, eo_23_2n, eo_23_2i, eo_23_2r, eo_52, bk_161_3, bk_161_4, g11_30, eo_3_3n, eo_3_3i, eo_3_3r, eo_0_3, eo_3_4n, eo_3_4i, eo_3_4r, eo_3_5n, eo_3_5i, eo_3_5r, eo_3_6n, eo_3_6i, eo_3_6r, eo_11, eo_3_7n, eo_3_7i, eo_3_7r, eo_0_7, eo_0_4, eo_0_6, eo_14d, ev_rem_id, v11_3, ev_ki, ev_kv, eo_10, eo_0_5, eo_18, eo_16, eo_13d, ev_div_id, eo_23_7n, eo_23_7i, eo_23_7r, bk_161_7, eo_19, eo_15, bk_161_9, g11_27, bk_161_10, bk_161_11, bk_161_12, bk_161_13, bk_161_14, eo_23_3n, eo_23_3i, eo_23_3r, bk_161_15, bk_161_17, eo_58, a32_183, a33_183, a32_189, a33_189, m183, Int.add_zero, Int.add_sub_cancel, Int.reduceAdd, Int.reduceMul, Int.reduceSub, Int.reduceNeg, ev_wr_id]) | ((first | with_reducible refine br_40 ?_ ?_ | with_reducible refine br_41 ?_ ?_ | with_reducible refine br_42 ?_ ?_ | with_reducible refine br_43 ?_ ?_ | with_reducible refine br_44 ?_ ?_ | with_reducible refine br_45 ?_ ?_ | with_reducible refine br_46 ?_ ?_ | with_reducible refine br_47 ?_ ?_ | with_reducible refine br_48 ?_ ?_ | with_reducible refine br_49 ?_ ?_ | with_reducible refine br_50 ?_ ?_ | with_reducible refine br_51 ?_ ?_) <;> intro h <;> try simp (disch := first | assumption | exact Nat.le_of_ble_eq_true rfl | omega) only [ev_wr_id, not_true_eq_false, not_false_eq_true, Int.reduceEq, Int.reduceLT, Int.reduceLE, and_self, and_true, true_and, and_false, false_and, reduceIte] at h <;> try (exfalso; omega; done)))
  | succ k ih =>
    intro m n g hm hn hg
    have m183 : st_v σ c g 183 = σ 183 := st_v_o (by omega)
    obtain ⟨g2, e, h⟩ := ih (m + 1) (n + 1) (ev_u1 g n (-1)) (by omega) (by omega) (fun j h0 h1 => by
      by_cases c1 : j = n
      · rw [ev_u1_eq c1]
      · rw [ev_u1_ne c1]; exact hg j h0 (by omega))
    refine ⟨g2, ?_, h⟩
    rw [← e, show st_pw (σ 183 4) (m + 1) = st_pw (σ 183 4) m * σ 183 4 from rfl]
    have hn0 : 0 ≤ n ∧ n < σ 183 3 := by omega
    clear hg hm e h ih hn
    rw [bk_161_1]
    repeat' (first | (simp (disch := first | assumption | exact Nat.le_of_ble_eq_true rfl | omega) only [bk_161_0, eo_6, eo_3_1n, eo_3_1i, eo_3_1r, eo_3_2n, eo_3_2i, eo_3_2r, eo_53, eo_0_2, eo_1_0, g11_28_0, eo_0_1, eo_12, g11_28_8, eo_23_2n, eo_23_2i, eo_23_2r, eo_52, bk_161_3, bk_161_4, g11_30, eo_3_3n, eo_3_3i, eo_3_3r, eo_0_3, eo_3_4n, eo_3_4i, eo_3_4r, eo_3_5n, eo_3_5i, eo_3_5r, eo_3_6n, eo_3_6i, eo_3_6r, eo_11, eo_3_7n, eo_3_7i, eo_3_7r, eo_0_7, eo_0_4, eo_0_6, eo_14d, ev_rem_id, v11_3, ev_ki, ev_kv, eo_10, eo_0_5, eo_18, eo_16, eo_13d, ev_div_id, eo_23_7n, eo_23_7i, eo_23_7r, bk_161_7, eo_19, eo_15, bk_161_9, g11_27, bk_161_10, bk_161_11, bk_161_12, bk_161_13, bk_161_14, eo_23_3n, eo_23_3i, eo_23_3r, bk_161_15, bk_161_17, eo_58, a32_183, a33_183, a32_189, a33_189, m183, st_v_u, Int.add_zero, Int.add_sub_cancel, Int.reduceAdd, Int.reduceMul, Int.reduceSub, Int.reduceNeg, ev_wr_id]) | ((first | with_reducible refine br_40 ?_ ?_ | with_reducible refine br_41 ?_ ?_ | with_reducible refine br_42 ?_ ?_ | with_reducible refine br_43 ?_ ?_ | with_reducible refine br_44 ?_ ?_ | with_reducible refine br_45 ?_ ?_ | with_reducible refine br_46 ?_ ?_ | with_reducible refine br_47 ?_ ?_ | with_reducible refine br_48 ?_ ?_ | with_reducible refine br_49 ?_ ?_ | with_reducible refine br_50 ?_ ?_ | with_reducible refine br_51 ?_ ?_) <;> intro h <;> try simp (disch := first | assumption | exact Nat.le_of_ble_eq_true rfl | omega) only [ev_wr_id, not_true_eq_false, not_false_eq_true, Int.reduceEq, Int.reduceLT, Int.reduceLE, and_self, and_true, true_and, and_false, false_and, reduceIte] at h <;> try (exfalso; omega; done)))
theorem c_161 {σ : ev_M} (a2 : st_I (σ 183)) : ∃ c g, EM 161 [.inr (.inl 182)] σ = some (none, st_v σ c g) ∧ st_aw (st_co (σ 183)) (st_fe (σ 183)) (σ 183 4) (σ 183 3).toNat c g ∧ -1 ≤ c ∧ c ≤ 10125 := by
  have i3 := a2.1.2.2.2.1
  have i4 := a2.1.2.2.2.2.1
  have hpw := st_pw_B (B := σ 183 4) (n := (σ 183 3).toNat) (by omega) (by omega)
  obtain ⟨g2, e, h⟩ := l_161e (σ := σ) (c := σ 182 9) (p3 := none) (p4 := none) (p5 := none) (p6 := none) (p7 := none) a2 (σ 183 3).toNat 0 0 (σ 189) rfl (by omega) (fun j h0 h1 => by omega)
  rw [st_v_s, show st_pw (σ 183 4) 0 = 1 from rfl] at e
  obtain ⟨al, hal⟩ : ∃ al, al = st_pw (σ 183 4) (σ 183 3).toNat := ⟨_, rfl⟩
  rw [← hal] at e hpw
  have m183 : ∀ c g, st_v σ c g 183 = σ 183 := fun c g => st_v_o (by omega)
  have hst : EM 161 [.inr (.inl 182)] σ = EB 161 2 [some (.inr (.inl 182)), some (.inl al), some (.inl (σ 183 3)), none, none, none, none, none] [] (st_v σ (σ 182 9) g2) := by
    rw [mm_161]
    repeat' (first | (simp (disch := first | assumption | exact Nat.le_of_ble_eq_true rfl | omega) only [bk_161_0, eo_6, eo_3_1n, eo_3_1i, eo_3_1r, eo_3_2n, eo_3_2i, eo_3_2r, eo_53, eo_0_2, eo_1_0, g11_28_0, eo_0_1, eo_12, g11_28_8, eo_23_2n, eo_23_2i, eo_23_2r, eo_52, bk_161_3, bk_161_4, g11_30, eo_3_3n, eo_3_3i, eo_3_3r, eo_0_3, eo_3_4n, eo_3_4i, eo_3_4r, eo_3_5n, eo_3_5i, eo_3_5r, eo_3_6n, eo_3_6i, eo_3_6r, eo_11, eo_3_7n, eo_3_7i, eo_3_7r, eo_0_7, eo_0_4, eo_0_6, eo_14d, ev_rem_id, v11_3, ev_ki, ev_kv, eo_10, eo_0_5, eo_18, eo_16, eo_13d, ev_div_id, eo_23_7n, eo_23_7i, eo_23_7r, bk_161_7, eo_19, eo_15, bk_161_9, g11_27, bk_161_10, bk_161_11, bk_161_12, bk_161_13, bk_161_14, eo_23_3n, eo_23_3i, eo_23_3r, bk_161_15, bk_161_17, eo_58, a32_183, a33_183, a32_189, a33_189, Int.add_zero, Int.add_sub_cancel, Int.reduceAdd, Int.reduceMul, Int.reduceSub, Int.reduceNeg, ev_wr_id]) | ((first | with_reducible refine br_40 ?_ ?_ | with_reducible refine br_41 ?_ ?_ | with_reducible refine br_42 ?_ ?_ | with_reducible refine br_43 ?_ ?_ | with_reducible refine br_44 ?_ ?_ | with_reducible refine br_45 ?_ ?_ | with_reducible refine br_46 ?_ ?_ | with_reducible refine br_47 ?_ ?_ | with_reducible refine br_48 ?_ ?_ | with_reducible refine br_49 ?_ ?_ | with_reducible refine br_50 ?_ ?_ | with_reducible refine br_51 ?_ ?_) <;> intro h <;> try simp (disch := first | assumption | exact Nat.le_of_ble_eq_true rfl | omega) only [ev_wr_id, not_true_eq_false, not_false_eq_true, Int.reduceEq, Int.reduceLT, Int.reduceLE, and_self, and_true, true_and, and_false, false_and, reduceIte] at h <;> try (exfalso; omega; done)))
    exact e
  by_cases c1 : σ 183 3 = 0
  · refine ⟨0, g2, ?_, Or.inl ⟨by omega, rfl⟩, by omega, by omega⟩
    have hal1 : al = 1 := by rw [hal, c1]; rfl
    rw [hst, hal1]
    clear hal hst e hal1 hpw
    rw [bk_161_2]
    repeat' (first | (simp (disch := first | assumption | exact Nat.le_of_ble_eq_true rfl | omega) only [bk_161_0, eo_6, eo_3_1n, eo_3_1i, eo_3_1r, eo_3_2n, eo_3_2i, eo_3_2r, eo_53, eo_0_2, eo_1_0, g11_28_0, eo_0_1, eo_12, g11_28_8, eo_23_2n, eo_23_2i, eo_23_2r, eo_52, bk_161_2, bk_161_3, bk_161_4, g11_30, eo_3_3n, eo_3_3i, eo_3_3r, eo_0_3, eo_3_4n, eo_3_4i, eo_3_4r, eo_3_5n, eo_3_5i, eo_3_5r, eo_3_6n, eo_3_6i, eo_3_6r, eo_11, eo_3_7n, eo_3_7i, eo_3_7r, eo_0_7, eo_0_4, eo_0_6, eo_14d, ev_rem_id, v11_3, ev_ki, ev_kv, eo_10, eo_0_5, eo_18, eo_16, eo_13d, ev_div_id, eo_23_7n, eo_23_7i, eo_23_7r, bk_161_7, eo_19, eo_15, bk_161_9, g11_27, bk_161_10, bk_161_11, bk_161_12, bk_161_13, bk_161_14, eo_23_3n, eo_23_3i, eo_23_3r, bk_161_15, bk_161_17, eo_58, a32_183, a33_183, a32_189, a33_189, m183, c1, st_v_c, Int.add_zero, Int.add_sub_cancel, Int.reduceAdd, Int.reduceMul, Int.reduceSub, Int.reduceNeg, ev_wr_id]) | ((first | with_reducible refine br_40 ?_ ?_ | with_reducible refine br_41 ?_ ?_ | with_reducible refine br_42 ?_ ?_ | with_reducible refine br_43 ?_ ?_ | with_reducible refine br_44 ?_ ?_ | with_reducible refine br_45 ?_ ?_ | with_reducible refine br_46 ?_ ?_ | with_reducible refine br_47 ?_ ?_ | with_reducible refine br_48 ?_ ?_ | with_reducible refine br_49 ?_ ?_ | with_reducible refine br_50 ?_ ?_ | with_reducible refine br_51 ?_ ?_) <;> intro h <;> try simp (disch := first | assumption | exact Nat.le_of_ble_eq_true rfl | omega) only [ev_wr_id, not_true_eq_false, not_false_eq_true, Int.reduceEq, Int.reduceLT, Int.reduceLE, and_self, and_true, true_and, and_false, false_and, reduceIte] at h <;> try (exfalso; omega; done)))
    rw [bk_161_5]
    repeat' (first | (simp (disch := first | assumption | exact Nat.le_of_ble_eq_true rfl | omega) only [bk_161_0, eo_6, eo_3_1n, eo_3_1i, eo_3_1r, eo_3_2n, eo_3_2i, eo_3_2r, eo_53, eo_0_2, eo_1_0, g11_28_0, eo_0_1, eo_12, g11_28_8, eo_23_2n, eo_23_2i, eo_23_2r, eo_52, bk_161_2, bk_161_3, bk_161_4, g11_30, eo_3_3n, eo_3_3i, eo_3_3r, eo_0_3, eo_3_4n, eo_3_4i, eo_3_4r, eo_3_5n, eo_3_5i, eo_3_5r, eo_3_6n, eo_3_6i, eo_3_6r, eo_11, eo_3_7n, eo_3_7i, eo_3_7r, eo_0_7, eo_0_4, eo_0_6, eo_14d, ev_rem_id, v11_3, ev_ki, ev_kv, eo_10, eo_0_5, eo_18, eo_16, eo_13d, ev_div_id, eo_23_7n, eo_23_7i, eo_23_7r, bk_161_7, eo_19, eo_15, bk_161_9, g11_27, bk_161_10, bk_161_11, bk_161_12, bk_161_13, bk_161_14, eo_23_3n, eo_23_3i, eo_23_3r, bk_161_15, bk_161_17, eo_58, a32_183, a33_183, a32_189, a33_189, m183, c1, Int.add_zero, Int.add_sub_cancel, Int.reduceAdd, Int.reduceMul, Int.reduceSub, Int.reduceNeg, ev_wr_id]) | ((first | with_reducible refine br_40 ?_ ?_ | with_reducible refine br_41 ?_ ?_ | with_reducible refine br_42 ?_ ?_ | with_reducible refine br_43 ?_ ?_ | with_reducible refine br_44 ?_ ?_ | with_reducible refine br_45 ?_ ?_ | with_reducible refine br_46 ?_ ?_ | with_reducible refine br_47 ?_ ?_ | with_reducible refine br_48 ?_ ?_ | with_reducible refine br_49 ?_ ?_ | with_reducible refine br_50 ?_ ?_ | with_reducible refine br_51 ?_ ?_) <;> intro h <;> try simp (disch := first | assumption | exact Nat.le_of_ble_eq_true rfl | omega) only [ev_wr_id, not_true_eq_false, not_false_eq_true, Int.reduceEq, Int.reduceLT, Int.reduceLE, and_self, and_true, true_and, and_false, false_and, reduceIte] at h <;> try (exfalso; omega; done)))
    rw [bk_161_16]
    repeat' (first | (simp (disch := first | assumption | exact Nat.le_of_ble_eq_true rfl | omega) only [bk_161_0, eo_6, eo_3_1n, eo_3_1i, eo_3_1r, eo_3_2n, eo_3_2i, eo_3_2r, eo_53, eo_0_2, eo_1_0, g11_28_0, eo_0_1, eo_12, g11_28_8, eo_23_2n, eo_23_2i, eo_23_2r, eo_52, bk_161_2, bk_161_3, bk_161_4, g11_30, eo_3_3n, eo_3_3i, eo_3_3r, eo_0_3, eo_3_4n, eo_3_4i, eo_3_4r, eo_3_5n, eo_3_5i, eo_3_5r, eo_3_6n, eo_3_6i, eo_3_6r, eo_11, eo_3_7n, eo_3_7i, eo_3_7r, eo_0_7, eo_0_4, eo_0_6, eo_14d, ev_rem_id, v11_3, ev_ki, ev_kv, eo_10, eo_0_5, eo_18, eo_16, eo_13d, ev_div_id, eo_23_7n, eo_23_7i, eo_23_7r, bk_161_7, eo_19, eo_15, bk_161_9, g11_27, bk_161_10, bk_161_11, bk_161_12, bk_161_13, bk_161_14, eo_23_3n, eo_23_3i, eo_23_3r, bk_161_15, bk_161_17, eo_58, a32_183, a33_183, a32_189, a33_189, m183, c1, Int.add_zero, Int.add_sub_cancel, Int.reduceAdd, Int.reduceMul, Int.reduceSub, Int.reduceNeg, ev_wr_id]) | ((first | with_reducible refine br_40 ?_ ?_ | with_reducible refine br_41 ?_ ?_ | with_reducible refine br_42 ?_ ?_ | with_reducible refine br_43 ?_ ?_ | with_reducible refine br_44 ?_ ?_ | with_reducible refine br_45 ?_ ?_ | with_reducible refine br_46 ?_ ?_ | with_reducible refine br_47 ?_ ?_ | with_reducible refine br_48 ?_ ?_ | with_reducible refine br_49 ?_ ?_ | with_reducible refine br_50 ?_ ?_ | with_reducible refine br_51 ?_ ?_) <;> intro h <;> try simp (disch := first | assumption | exact Nat.le_of_ble_eq_true rfl | omega) only [ev_wr_id, not_true_eq_false, not_false_eq_true, Int.reduceEq, Int.reduceLT, Int.reduceLE, and_self, and_true, true_and, and_false, false_and, reduceIte] at h <;> try (exfalso; omega; done)))
  · by_cases c2 : σ 183 4 = 0
    · have h0 := hpw.2.2.1 c2 (by omega)
      refine ⟨-1, g2, ?_, Or.inr (Or.inl ⟨by omega, c2, rfl, fun k hk => h k (by omega) (by omega)⟩), by omega, by omega⟩
      rw [hst, h0]
      clear hal hst e hpw h0
      rw [bk_161_2]
      repeat' (first | (simp (disch := first | assumption | exact Nat.le_of_ble_eq_true rfl | omega) only [bk_161_0, eo_6, eo_3_1n, eo_3_1i, eo_3_1r, eo_3_2n, eo_3_2i, eo_3_2r, eo_53, eo_0_2, eo_1_0, g11_28_0, eo_0_1, eo_12, g11_28_8, eo_23_2n, eo_23_2i, eo_23_2r, eo_52, bk_161_2, bk_161_3, bk_161_4, g11_30, eo_3_3n, eo_3_3i, eo_3_3r, eo_0_3, eo_3_4n, eo_3_4i, eo_3_4r, eo_3_5n, eo_3_5i, eo_3_5r, eo_3_6n, eo_3_6i, eo_3_6r, eo_11, eo_3_7n, eo_3_7i, eo_3_7r, eo_0_7, eo_0_4, eo_0_6, eo_14d, ev_rem_id, v11_3, ev_ki, ev_kv, eo_10, eo_0_5, eo_18, eo_16, eo_13d, ev_div_id, eo_23_7n, eo_23_7i, eo_23_7r, bk_161_7, eo_19, eo_15, bk_161_9, g11_27, bk_161_10, bk_161_11, bk_161_12, bk_161_13, bk_161_14, eo_23_3n, eo_23_3i, eo_23_3r, bk_161_15, bk_161_17, eo_58, a32_183, a33_183, a32_189, a33_189, m183, st_v_c, Int.add_zero, Int.add_sub_cancel, Int.reduceAdd, Int.reduceMul, Int.reduceSub, Int.reduceNeg, ev_wr_id]) | ((first | with_reducible refine br_40 ?_ ?_ | with_reducible refine br_41 ?_ ?_ | with_reducible refine br_42 ?_ ?_ | with_reducible refine br_43 ?_ ?_ | with_reducible refine br_44 ?_ ?_ | with_reducible refine br_45 ?_ ?_ | with_reducible refine br_46 ?_ ?_ | with_reducible refine br_47 ?_ ?_ | with_reducible refine br_48 ?_ ?_ | with_reducible refine br_49 ?_ ?_ | with_reducible refine br_50 ?_ ?_ | with_reducible refine br_51 ?_ ?_) <;> intro h <;> try simp (disch := first | assumption | exact Nat.le_of_ble_eq_true rfl | omega) only [ev_wr_id, not_true_eq_false, not_false_eq_true, Int.reduceEq, Int.reduceLT, Int.reduceLE, and_self, and_true, true_and, and_false, false_and, reduceIte] at h <;> try (exfalso; omega; done)))
      rw [bk_161_5]
      repeat' (first | (simp (disch := first | assumption | exact Nat.le_of_ble_eq_true rfl | omega) only [bk_161_0, eo_6, eo_3_1n, eo_3_1i, eo_3_1r, eo_3_2n, eo_3_2i, eo_3_2r, eo_53, eo_0_2, eo_1_0, g11_28_0, eo_0_1, eo_12, g11_28_8, eo_23_2n, eo_23_2i, eo_23_2r, eo_52, bk_161_2, bk_161_3, bk_161_4, g11_30, eo_3_3n, eo_3_3i, eo_3_3r, eo_0_3, eo_3_4n, eo_3_4i, eo_3_4r, eo_3_5n, eo_3_5i, eo_3_5r, eo_3_6n, eo_3_6i, eo_3_6r, eo_11, eo_3_7n, eo_3_7i, eo_3_7r, eo_0_7, eo_0_4, eo_0_6, eo_14d, ev_rem_id, v11_3, ev_ki, ev_kv, eo_10, eo_0_5, eo_18, eo_16, eo_13d, ev_div_id, eo_23_7n, eo_23_7i, eo_23_7r, bk_161_7, eo_19, eo_15, bk_161_9, g11_27, bk_161_10, bk_161_11, bk_161_12, bk_161_13, bk_161_14, eo_23_3n, eo_23_3i, eo_23_3r, bk_161_15, bk_161_17, eo_58, a32_183, a33_183, a32_189, a33_189, m183, Int.add_zero, Int.add_sub_cancel, Int.reduceAdd, Int.reduceMul, Int.reduceSub, Int.reduceNeg, ev_wr_id]) | ((first | with_reducible refine br_40 ?_ ?_ | with_reducible refine br_41 ?_ ?_ | with_reducible refine br_42 ?_ ?_ | with_reducible refine br_43 ?_ ?_ | with_reducible refine br_44 ?_ ?_ | with_reducible refine br_45 ?_ ?_ | with_reducible refine br_46 ?_ ?_ | with_reducible refine br_47 ?_ ?_ | with_reducible refine br_48 ?_ ?_ | with_reducible refine br_49 ?_ ?_ | with_reducible refine br_50 ?_ ?_ | with_reducible refine br_51 ?_ ?_) <;> intro h <;> try simp (disch := first | assumption | exact Nat.le_of_ble_eq_true rfl | omega) only [ev_wr_id, not_true_eq_false, not_false_eq_true, Int.reduceEq, Int.reduceLT, Int.reduceLE, and_self, and_true, true_and, and_false, false_and, reduceIte] at h <;> try (exfalso; omega; done)))
      rw [bk_161_16]
      repeat' (first | (simp (disch := first | assumption | exact Nat.le_of_ble_eq_true rfl | omega) only [bk_161_0, eo_6, eo_3_1n, eo_3_1i, eo_3_1r, eo_3_2n, eo_3_2i, eo_3_2r, eo_53, eo_0_2, eo_1_0, g11_28_0, eo_0_1, eo_12, g11_28_8, eo_23_2n, eo_23_2i, eo_23_2r, eo_52, bk_161_2, bk_161_3, bk_161_4, g11_30, eo_3_3n, eo_3_3i, eo_3_3r, eo_0_3, eo_3_4n, eo_3_4i, eo_3_4r, eo_3_5n, eo_3_5i, eo_3_5r, eo_3_6n, eo_3_6i, eo_3_6r, eo_11, eo_3_7n, eo_3_7i, eo_3_7r, eo_0_7, eo_0_4, eo_0_6, eo_14d, ev_rem_id, v11_3, ev_ki, ev_kv, eo_10, eo_0_5, eo_18, eo_16, eo_13d, ev_div_id, eo_23_7n, eo_23_7i, eo_23_7r, bk_161_7, eo_19, eo_15, bk_161_9, g11_27, bk_161_10, bk_161_11, bk_161_12, bk_161_13, bk_161_14, eo_23_3n, eo_23_3i, eo_23_3r, bk_161_15, bk_161_17, eo_58, a32_183, a33_183, a32_189, a33_189, m183, Int.add_zero, Int.add_sub_cancel, Int.reduceAdd, Int.reduceMul, Int.reduceSub, Int.reduceNeg, ev_wr_id]) | ((first | with_reducible refine br_40 ?_ ?_ | with_reducible refine br_41 ?_ ?_ | with_reducible refine br_42 ?_ ?_ | with_reducible refine br_43 ?_ ?_ | with_reducible refine br_44 ?_ ?_ | with_reducible refine br_45 ?_ ?_ | with_reducible refine br_46 ?_ ?_ | with_reducible refine br_47 ?_ ?_ | with_reducible refine br_48 ?_ ?_ | with_reducible refine br_49 ?_ ?_ | with_reducible refine br_50 ?_ ?_ | with_reducible refine br_51 ?_ ?_) <;> intro h <;> try simp (disch := first | assumption | exact Nat.le_of_ble_eq_true rfl | omega) only [ev_wr_id, not_true_eq_false, not_false_eq_true, Int.reduceEq, Int.reduceLT, Int.reduceLE, and_self, and_true, true_and, and_false, false_and, reduceIte] at h <;> try (exfalso; omega; done)))
    · have hpos := hpw.2.2.2 (by omega)
      obtain ⟨b2, c3, q4, q5, q6, q7, e5, hv⟩ := l_161c (σ := σ) (g := g2) a2 (by omega) (by omega) al.toNat 0 al (-1) (-1) none none none none (by omega) (by omega) hal (Or.inl ⟨rfl, rfl⟩)
      rcases hv with ⟨q1, q2⟩ | ⟨q0, t0, q1, q2, q3, q9, q8⟩
      · omega
      · obtain ⟨g3, e16, k1, k2⟩ := l_161d (σ := σ) (al := al) (p4 := q4) (p5 := q5) (p6 := q6) (p7 := q7) a2 (by omega) (σ 183 3).toNat (σ 183 3 - 1) c3 t0 g2 (by omega) (by omega) q1
        rw [← q2] at e16
        refine ⟨c3, g3, ?_, Or.inr (Or.inr ⟨by omega, by omega, fun k hk => by rw [k1 k hk]; exact q1 k hk, by rw [q9]; exact (st_pr_eq k1).symm, fun a ha => ?_⟩), by omega, by omega⟩
        · rw [hst, ← e16]
          clear hal hst e e16 hpw q8 q9 q2 k1 k2 q1
          rw [bk_161_2]
          repeat' (first | (simp (disch := first | assumption | exact Nat.le_of_ble_eq_true rfl | omega) only [bk_161_0, eo_6, eo_3_1n, eo_3_1i, eo_3_1r, eo_3_2n, eo_3_2i, eo_3_2r, eo_53, eo_0_2, eo_1_0, g11_28_0, eo_0_1, eo_12, g11_28_8, eo_23_2n, eo_23_2i, eo_23_2r, eo_52, bk_161_2, bk_161_3, bk_161_4, g11_30, eo_3_3n, eo_3_3i, eo_3_3r, eo_0_3, eo_3_4n, eo_3_4i, eo_3_4r, eo_3_5n, eo_3_5i, eo_3_5r, eo_3_6n, eo_3_6i, eo_3_6r, eo_11, eo_3_7n, eo_3_7i, eo_3_7r, eo_0_7, eo_0_4, eo_0_6, eo_14d, ev_rem_id, v11_3, ev_ki, ev_kv, eo_10, eo_0_5, eo_18, eo_16, eo_13d, ev_div_id, eo_23_7n, eo_23_7i, eo_23_7r, bk_161_7, eo_19, eo_15, bk_161_9, g11_27, bk_161_10, bk_161_11, bk_161_12, bk_161_13, bk_161_14, eo_23_3n, eo_23_3i, eo_23_3r, bk_161_15, bk_161_17, eo_58, a32_183, a33_183, a32_189, a33_189, m183, st_v_c, Int.add_zero, Int.add_sub_cancel, Int.reduceAdd, Int.reduceMul, Int.reduceSub, Int.reduceNeg, ev_wr_id]) | ((first | with_reducible refine br_40 ?_ ?_ | with_reducible refine br_41 ?_ ?_ | with_reducible refine br_42 ?_ ?_ | with_reducible refine br_43 ?_ ?_ | with_reducible refine br_44 ?_ ?_ | with_reducible refine br_45 ?_ ?_ | with_reducible refine br_46 ?_ ?_ | with_reducible refine br_47 ?_ ?_ | with_reducible refine br_48 ?_ ?_ | with_reducible refine br_49 ?_ ?_ | with_reducible refine br_50 ?_ ?_ | with_reducible refine br_51 ?_ ?_) <;> intro h <;> try simp (disch := first | assumption | exact Nat.le_of_ble_eq_true rfl | omega) only [ev_wr_id, not_true_eq_false, not_false_eq_true, Int.reduceEq, Int.reduceLT, Int.reduceLE, and_self, and_true, true_and, and_false, false_and, reduceIte] at h <;> try (exfalso; omega; done)))
          rw [e5, bk_161_15]
          repeat' (first | (simp (disch := first | assumption | exact Nat.le_of_ble_eq_true rfl | omega) only [bk_161_0, eo_6, eo_3_1n, eo_3_1i, eo_3_1r, eo_3_2n, eo_3_2i, eo_3_2r, eo_53, eo_0_2, eo_1_0, g11_28_0, eo_0_1, eo_12, g11_28_8, eo_23_2n, eo_23_2i, eo_23_2r, eo_52, bk_161_2, bk_161_3, bk_161_4, g11_30, eo_3_3n, eo_3_3i, eo_3_3r, eo_0_3, eo_3_4n, eo_3_4i, eo_3_4r, eo_3_5n, eo_3_5i, eo_3_5r, eo_3_6n, eo_3_6i, eo_3_6r, eo_11, eo_3_7n, eo_3_7i, eo_3_7r, eo_0_7, eo_0_4, eo_0_6, eo_14d, ev_rem_id, v11_3, ev_ki, ev_kv, eo_10, eo_0_5, eo_18, eo_16, eo_13d, ev_div_id, eo_23_7n, eo_23_7i, eo_23_7r, bk_161_7, eo_19, eo_15, bk_161_9, g11_27, bk_161_10, bk_161_11, bk_161_12, bk_161_13, bk_161_14, eo_23_3n, eo_23_3i, eo_23_3r, bk_161_15, bk_161_17, eo_58, a32_183, a33_183, a32_189, a33_189, m183, Int.add_zero, Int.add_sub_cancel, Int.reduceAdd, Int.reduceMul, Int.reduceSub, Int.reduceNeg, ev_wr_id]) | ((first | with_reducible refine br_40 ?_ ?_ | with_reducible refine br_41 ?_ ?_ | with_reducible refine br_42 ?_ ?_ | with_reducible refine br_43 ?_ ?_ | with_reducible refine br_44 ?_ ?_ | with_reducible refine br_45 ?_ ?_ | with_reducible refine br_46 ?_ ?_ | with_reducible refine br_47 ?_ ?_ | with_reducible refine br_48 ?_ ?_ | with_reducible refine br_49 ?_ ?_ | with_reducible refine br_50 ?_ ?_ | with_reducible refine br_51 ?_ ?_) <;> intro h <;> try simp (disch := first | assumption | exact Nat.le_of_ble_eq_true rfl | omega) only [ev_wr_id, not_true_eq_false, not_false_eq_true, Int.reduceEq, Int.reduceLT, Int.reduceLE, and_self, and_true, true_and, and_false, false_and, reduceIte] at h <;> try (exfalso; omega; done)))
        · have hna := (st_nm_in (B := σ 183 4) (by omega) _ a ha).2
          rw [← hal] at hna
          have := q8 a ha hna
          rw [st_pr_eq k1, st_nm_eq _ k1, ← q9, ← q2]
          exact this
