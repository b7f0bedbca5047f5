/-! a road of the text on both sides -/
def st_fk (f f2 : Int → Int) : Prop := f2 1 = f 1 ∧ f2 3 = f 3 ∧ f2 5 = f 5 ∧ f2 6 = f 6
def st_gk (g g2 : Int → Int) : Prop := ∀ k, k ≠ 12 → k ≠ 13 → g2 k = g k
theorem b_40 {S : ev_M} {c : Int → Int} {n i lo hi no : Int} {f : Int → Int} (ht : st_tx S c n) (hn : f 1 = n) (hi0 : f 2 = i) (h0 : 0 ≤ i ∧ i ≤ n) (hlo : -9999 ≤ lo ∧ lo ≤ 9999) (hhi : -9999 ≤ hi ∧ hi ≤ 9999) (hno : -9999 ≤ no ∧ no ≤ 9999) : (st_nk c n (st_bk c n i) lo hi no → ∃ f2, EM 40 [.inr (.inl 164), .inl lo, .inl hi, .inl no] (ev_ua S 164 f) = some (some (.inl 1), ev_ua S 164 f2) ∧ f2 2 = st_ne1 c n (st_bk c n i) ∧ f2 4 = st_nu1 c n (st_bk c n i) 2 ∧ st_fk f f2) ∧ (¬ st_nk c n (st_bk c n i) lo hi no → ∃ f2, EM 40 [.inr (.inl 164), .inl lo, .inl hi, .inl no] (ev_ua S 164 f) = some (some (.inl 0), ev_ua S 164 f2) ∧ f2 3 = st_bk c n i ∧ f2 1 = f 1) := by
  obtain ⟨w1, w2⟩ := c_40x ht hn hi0 h0 hlo hhi hno
  refine ⟨fun h => ⟨_, w1 h, st_f_at, st_f_no, st_f_o (by omega), st_f_o (by omega), st_f_o (by omega), st_f_o (by omega)⟩, fun h => ?_⟩
  obtain ⟨j, v, e⟩ := w2 h
  exact ⟨_, e, ev_u1_eq rfl, by rw [ev_u1_ne (by omega), st_f_o (by omega)]⟩
theorem b_39 {S : ev_M} {c : Int → Int} {n i s : Int} {f : Int → Int} (ht : st_tx S c n) (hn : f 1 = n) (hi : f 2 = i) (h0 : 0 ≤ i ∧ i ≤ n) (hs : 0 ≤ s ∧ s ≤ 255) : (st_bk c n i < n ∧ c (st_bk c n i) = s → ∃ f2, EM 39 [.inr (.inl 164), .inl s] (ev_ua S 164 f) = some (some (.inl 1), ev_ua S 164 f2) ∧ f2 2 = st_bk c n i + 1 ∧ st_fk f f2) ∧ (¬ (st_bk c n i < n ∧ c (st_bk c n i) = s) → ∃ f2, EM 39 [.inr (.inl 164), .inl s] (ev_ua S 164 f) = some (some (.inl 0), ev_ua S 164 f2) ∧ f2 3 = st_bk c n i ∧ f2 1 = f 1) := by
  obtain ⟨w1, w2⟩ := c_39x ht hn hi h0 hs
  exact ⟨fun h => ⟨_, w1 h, ev_u1_eq rfl, ev_u1_ne (by omega), ev_u1_ne (by omega), ev_u1_ne (by omega), ev_u1_ne (by omega)⟩, fun h => ⟨_, w2 h, ev_u1_eq rfl, by rw [ev_u1_ne (by omega), ev_u1_ne (by omega)]⟩⟩
theorem b_41 {S : ev_M} {c : Int → Int} {n i : Int} {f : Int → Int} (ht : st_tx S c n) (hn : f 1 = n) (hi : f 2 = i) (h0 : 0 ≤ i ∧ i ≤ n) : ∃ f2, EM 41 [.inr (.inl 164)] (ev_ua S 164 f) = some (none, ev_ua S 164 f2) ∧ f2 2 = st_bk c n i ∧ st_fk f f2 := ⟨_, c_41x ht hn hi h0, ev_u1_eq rfl, ev_u1_ne (by omega), ev_u1_ne (by omega), ev_u1_ne (by omega), ev_u1_ne (by omega)⟩
theorem b_175 {U : ev_M} {c : Int → Int} {n i lo hi no : Int} {g : Int → Int} (ht : st_my U c n) (hn : g 11 = n) (hi0 : g 12 = i) (h0 : 0 ≤ i ∧ i ≤ n) (hlo : -9999 ≤ lo ∧ lo ≤ 9999) (hhi : -9999 ≤ hi ∧ hi ≤ 9999) (hno : -9999 ≤ no ∧ no ≤ 9999) : (st_nk c n (st_bk c n i) lo hi no → ∃ g2, EM 175 [.inr (.inl 182), .inl lo, .inl hi, .inl no] (ev_ua U 182 g) = some (some (.inl 1), ev_ua U 182 g2) ∧ g2 12 = st_ne1 c n (st_bk c n i) ∧ g2 13 = st_nu1 c n (st_bk c n i) 2 ∧ st_gk g g2) ∧ (¬ st_nk c n (st_bk c n i) lo hi no → ∃ g2, EM 175 [.inr (.inl 182), .inl lo, .inl hi, .inl no] (ev_ua U 182 g) = some (some (.inl 0), ev_ua U 182 g2) ∧ g2 12 = st_bk c n i ∧ st_gk g g2) := by
  obtain ⟨w1, w2⟩ := c_175x ht hn hi0 h0 hlo hhi hno
  refine ⟨fun h => ⟨_, w1 h, st_g_at, st_g_no, fun k h1 h2 => st_g_o ⟨h1, h2⟩⟩, fun h => ?_⟩
  obtain ⟨v, e⟩ := w2 h
  exact ⟨_, e, st_g_at, fun k h1 h2 => st_g_o ⟨h1, h2⟩⟩
theorem b_174 {U : ev_M} {c : Int → Int} {n i s : Int} {g : Int → Int} (ht : st_my U c n) (hn : g 11 = n) (hi : g 12 = i) (h0 : 0 ≤ i ∧ i ≤ n) (hs : 0 ≤ s ∧ s ≤ 255) : (st_bk c n i < n ∧ c (st_bk c n i) = s → ∃ g2, EM 174 [.inr (.inl 182), .inl s] (ev_ua U 182 g) = some (some (.inl 1), ev_ua U 182 g2) ∧ g2 12 = st_bk c n i + 1 ∧ st_gk g g2) ∧ (¬ (st_bk c n i < n ∧ c (st_bk c n i) = s) → ∃ g2, EM 174 [.inr (.inl 182), .inl s] (ev_ua U 182 g) = some (some (.inl 0), ev_ua U 182 g2) ∧ g2 12 = st_bk c n i ∧ st_gk g g2) := by
  obtain ⟨w1, w2⟩ := c_174x ht hn hi h0 hs
  exact ⟨fun h => ⟨_, w1 h, ev_u1_eq rfl, fun k h1 h2 => ev_u1_ne h1⟩, fun h => ⟨_, w2 h, ev_u1_eq rfl, fun k h1 h2 => ev_u1_ne h1⟩⟩
theorem b_173 {U : ev_M} {c : Int → Int} {n i : Int} {g : Int → Int} (ht : st_my U c n) (hn : g 11 = n) (hi : g 12 = i) (h0 : 0 ≤ i ∧ i ≤ n) : ∃ g2, EM 173 [.inr (.inl 182)] (ev_ua U 182 g) = some (some (.inl (st_hr c n (st_bk c n i))), ev_ua U 182 g2) ∧ g2 12 = st_bk c n i ∧ st_gk g g2 := ⟨_, c_173x ht hn hi h0, ev_u1_eq rfl, fun k h1 h2 => ev_u1_ne h1⟩
theorem st_fk_t {f g h : Int → Int} (a : st_fk f g) (b : st_fk g h) : st_fk f h := ⟨b.1.trans a.1, b.2.1.trans a.2.1, b.2.2.1.trans a.2.2.1, b.2.2.2.trans a.2.2.2⟩
theorem st_gk_t {f g h : Int → Int} (a : st_gk f g) (b : st_gk g h) : st_gk f h := fun k h1 h2 => (b k h1 h2).trans (a k h1 h2)
def st_l0 (T : Int → Int) (x y l : Int) : Int → Int := ev_u1 (ev_u1 (ev_u1 (ev_u1 (ev_u1 T (9 + 4 * T 1) x) (9 + 4 * T 1 + 1) y) (9 + 4 * T 1 + 2) l) (9 + 4 * T 1 + 3) (-1)) 1 (T 1 + 1)
def st_b0 (T : Int → Int) (r : Int) : Int → Int := ev_u1 (ev_u1 (ev_u1 (ev_u1 (ev_u1 (ev_u1 (ev_u1 T (89 + 5 * T 2) r) (89 + 5 * T 2 + 1) 0) (89 + 5 * T 2 + 2) 0) (89 + 5 * T 2 + 3) (T 5)) (89 + 5 * T 2 + 4) 0) (9 + 4 * r + 3) (T 2)) 2 (T 2 + 1)
def st_l1 (T : Int → Int) (x y l br : Int) : Int → Int := if br = 1 then st_b0 (st_l0 T x y l) (T 1) else st_l0 T x y l
theorem ev_up_183 {μ : ev_M} {T g : Int → Int} {k v : Int} : ev_up (ev_ua (ev_ua μ 183 T) 182 g) 183 k v = ev_ua (ev_ua μ 183 (ev_u1 T k v)) 182 g := by
  funext a z
  unfold ev_up ev_ua ev_u1
  by_cases h1 : a = 182
  · subst h1
    simp
  · by_cases h2 : a = 183
    · subst h2
      simp
    · simp [h1, h2]
theorem st_183 {μ : ev_M} {T g : Int → Int} {k : Int} : ev_ua (ev_ua μ 183 T) 182 g 183 k = T k := by rw [ev_ua_ne (by omega), ev_ua_eq]
theorem e_122 {μ : ev_M} {T g : Int → Int} {x y l : Int} (h : 0 ≤ T 1 ∧ T 1 < 20) : EM 122 [.inr (.inl 182), .inl x, .inl y, .inl l] (ev_ua (ev_ua μ 183 T) 182 g) = some (none, ev_ua (ev_ua μ 183 (st_l0 T x y l)) 182 g) := by
  rw [c_122 (n := T 1) st_183 h]
  simp only [ev_up_183]
  rfl
theorem e_123 {μ : ev_M} {T g : Int → Int} {r : Int} (h : 0 ≤ T 2 ∧ T 2 < 6) (hr : 0 ≤ r ∧ r < 20) : EM 123 [.inr (.inl 182), .inl r] (ev_ua (ev_ua μ 183 T) 182 g) = some (none, ev_ua (ev_ua μ 183 (st_b0 T r)) 182 g) := by
  rw [c_123 (n := T 2) (y := T 5) st_183 st_183 h hr]
  simp only [ev_up_183]
  rfl
def st_kp (S S2 : ev_M) (k x y l br : Int) : Prop := (∀ i, i ≠ 166 → i ≠ 167 → i ≠ 168 → i ≠ 169 → S2 i = S i) ∧ (∀ j, S2 166 j = if j = k then x else S 166 j) ∧ (∀ j, S2 167 j = if j = k then y else S 167 j) ∧ (∀ j, S2 168 j = if j = k then l else S 168 j) ∧ ∀ j, S2 169 j = if j = k then br else S 169 j
theorem b_36 {S : ev_M} {f : Int → Int} {x y l k : Int} (hk : f 5 = k) (h : 0 ≤ k ∧ k < 20) : ∃ f2 S2, EM 36 [.inr (.inl 164), .inl x, .inl y, .inl l] (ev_ua S 164 f) = some (some (.inl 1), ev_ua S2 164 f2) ∧ f2 = ev_u1 f 5 (k + 1) ∧ st_kp S S2 k x y l 0 := by
  obtain ⟨S2, d2⟩ : ∃ z, z = ev_up (ev_up (ev_up (ev_up S 166 k x) 167 k y) 168 k l) 169 k 0 := ⟨_, rfl⟩
  refine ⟨_, S2, ?_, rfl, fun i h1 h2 h3 h4 => ?_, fun j => ?_, fun j => ?_, fun j => ?_, fun j => ?_⟩
  · have hS : ∀ a, a ≠ 164 → ∀ f j v, ev_up (ev_ua S 164 f) a j v = ev_ua (ev_up S a j v) 164 f := fun a ha f j v => by
      funext p z
      unfold ev_up ev_ua
      by_cases q : p = 164
      · subst q
        simp [Ne.symm ha]
      · simp [q]
    have hS2 : ∀ S3 : ev_M, ∀ a, a ≠ 164 → ∀ f j v, ev_up (ev_ua S3 164 f) a j v = ev_ua (ev_up S3 a j v) 164 f := fun S3 a ha f j v => by
      funext p z
      unfold ev_up ev_ua
      by_cases q : p = 164
      · subst q
        simp [Ne.symm ha]
      · simp [q]
    have d2s := d2.symm
    clear d2
    rw [mm_36]
    repeat' (first | (simp (disch := first | assumption | exact Nat.le_of_ble_eq_true rfl | omega) only [bk_36_0, eo_1_0, g5_27, eo_6, v5_2, ev_ki, ev_kv, eo_56z, bk_36_1, g5_28_7, eo_0_1, g5_28_8, eo_0_2, g5_28_9, eo_0_3, g5_28_10, eo_24i, eo_24r, eo_10, g5_30, a33_166, a33_167, a33_168, a35_169, c_43, ev_ua_eq, hk, hS2, d2s, ev_up_ua, Int.add_zero, Int.add_sub_cancel, Int.reduceAdd, Int.reduceMul, Int.reduceSub, Int.reduceNeg, ev_wr_id]) | ((first | with_reducible refine br_40 ?_ ?_ | with_reducible refine br_41 ?_ ?_ | with_reducible refine br_42 ?_ ?_ | with_reducible refine br_43 ?_ ?_ | with_reducible refine br_44 ?_ ?_ | with_reducible refine br_45 ?_ ?_ | with_reducible refine br_46 ?_ ?_ | with_reducible refine br_47 ?_ ?_ | with_reducible refine br_48 ?_ ?_ | with_reducible refine br_49 ?_ ?_ | with_reducible refine br_50 ?_ ?_ | with_reducible refine br_51 ?_ ?_) <;> intro h <;> try simp (disch := first | assumption | exact Nat.le_of_ble_eq_true rfl | omega) only [ev_wr_id, not_true_eq_false, not_false_eq_true, Int.reduceEq, Int.reduceLT, Int.reduceLE, and_self, and_true, true_and, and_false, false_and, reduceIte] at h <;> try (exfalso; omega; done)))
  · rw [d2]
    funext z
    simp (disch := omega) only [ev_up_ne]
  · rw [d2]
    by_cases q : j = k
    · rw [if_pos q]
      simp (disch := omega) only [ev_up_ne, ev_up_eq]
    · rw [if_neg q]
      simp (disch := omega) only [ev_up_ne]
  · rw [d2]
    by_cases q : j = k
    · rw [if_pos q]
      simp (disch := omega) only [ev_up_ne, ev_up_eq]
    · rw [if_neg q]
      simp (disch := omega) only [ev_up_ne]
  · rw [d2]
    by_cases q : j = k
    · rw [if_pos q]
      simp (disch := omega) only [ev_up_ne, ev_up_eq]
    · rw [if_neg q]
      simp (disch := omega) only [ev_up_ne]
  · rw [d2]
    by_cases q : j = k
    · rw [if_pos q]
      simp (disch := omega) only [ev_up_ne, ev_up_eq]
    · rw [if_neg q]
      simp (disch := omega) only [ev_up_ne]
theorem b_37 {S : ev_M} {c : Int → Int} {n i k B b : Int} {f : Int → Int} (ht : st_tx S c n) (hn : f 1 = n) (hi : f 2 = i) (h0 : 0 ≤ i ∧ i ≤ n) (hk : f 5 = k) (hk0 : 1 ≤ k ∧ k ≤ 20) (hB : S (ev_n + 6) 0 = B) (hb : f 6 = b) (hBb : 0 ≤ B + b ∧ B + b ≤ 6) : (¬ (st_bk c n i < n ∧ c (st_bk c n i) = 98) → ∃ f2, EM 37 [.inr (.inl 164), .inr (.inl ev_n)] (ev_ua S 164 f) = some (some (.inl 1), ev_ua S 164 f2) ∧ f2 2 = st_bk c n i ∧ st_fk f f2) ∧ ((st_bk c n i < n ∧ c (st_bk c n i) = 98) → 6 ≤ B + b → ∃ f2, EM 37 [.inr (.inl 164), .inr (.inl ev_n)] (ev_ua S 164 f) = some (some (.inl 0), ev_ua S 164 f2) ∧ f2 3 = st_bk c n i ∧ f2 1 = f 1) ∧ ((st_bk c n i < n ∧ c (st_bk c n i) = 98) → B + b < 6 → ∃ f2, EM 37 [.inr (.inl 164), .inr (.inl ev_n)] (ev_ua S 164 f) = some (some (.inl 1), ev_ua (ev_up S 169 (k - 1) 1) 164 f2) ∧ f2 2 = st_bk c n i + 1 ∧ f2 1 = f 1 ∧ f2 3 = f 3 ∧ f2 5 = f 5 ∧ f2 6 = b + 1) := by
  obtain ⟨f1, e41, k1, k2⟩ := b_41 ht hn hi h0
  have hin := st_bk_in (c := c) h0.2
  obtain ⟨p, hp⟩ : ∃ p, p = st_bk c n i := ⟨_, rfl⟩
  rw [← hp] at k1 hin ⊢
  have n9 := ht.1
  have hn1 : f1 1 = n := by rw [k2.1, hn]
  have hk1 : f1 5 = k := by rw [k2.2.2.1, hk]
  have hb1 : f1 6 = b := by rw [k2.2.2.2, hb]
  have hSn := ev_S_n
  have hn0 : ev_n = 0 := rfl
  have hpb := ht.2 p (by omega)
  have hSx : ∀ S3 : ev_M, ∀ a, a ≠ 164 → ∀ f j v, ev_up (ev_ua S3 164 f) a j v = ev_ua (ev_up S3 a j v) 164 f := fun S3 a ha f j v => by
    funext p z
    unfold ev_up ev_ua
    by_cases q : p = 164
    · subst q
      simp [Ne.symm ha]
    · simp [q]
  refine ⟨fun q => ⟨f1, ?_, k1, k2⟩, fun q q6 => ⟨ev_u1 f1 3 p, ?_, ev_u1_eq rfl, by rw [ev_u1_ne (by omega)]; exact k2.1⟩, fun q q6 => ⟨ev_u1 (ev_u1 f1 6 (b + 1)) 2 (p + 1), ?_, ev_u1_eq rfl, by rw [ev_u1_ne (by omega), ev_u1_ne (by omega)]; exact k2.1, by rw [ev_u1_ne (by omega), ev_u1_ne (by omega)]; exact k2.2.1, by rw [ev_u1_ne (by omega), ev_u1_ne (by omega)]; exact k2.2.2.1, by rw [ev_u1_ne (by omega), ev_u1_eq rfl]⟩⟩
  · by_cases q1 : p < n
    · have h5 := (hpb q1).1
      have h6 := (hpb q1).2
      have q2 : c p ≠ 98 := fun h => q ⟨q1, h⟩
      clear ht hpb q hSx
      rw [mm_37]
      repeat' (first | (simp (disch := first | assumption | exact Nat.le_of_ble_eq_true rfl | omega) only [bk_37_0, eo_1_0, v5_1, ev_ki, ev_kv, g5_27, g5_28_0, eo_6, eo_53, bk_37_1, eo_56z, bk_37_2, eo_1_1, g7_28_1, g1_27, eo_10, bk_37_3, v5_2, bk_37_4, g5_28_10, eo_11, eo_24i, eo_24r, g5_30, a32_165, a35_169, c_43, e41, ev_ua_eq, ev_ua_ne, hn1, k1, h5, Int.add_zero, Int.add_sub_cancel, Int.reduceAdd, Int.reduceMul, Int.reduceSub, Int.reduceNeg, ev_wr_id]) | ((first | with_reducible refine br_40 ?_ ?_ | with_reducible refine br_41 ?_ ?_ | with_reducible refine br_42 ?_ ?_ | with_reducible refine br_43 ?_ ?_ | with_reducible refine br_44 ?_ ?_ | with_reducible refine br_45 ?_ ?_ | with_reducible refine br_46 ?_ ?_ | with_reducible refine br_47 ?_ ?_ | with_reducible refine br_48 ?_ ?_ | with_reducible refine br_49 ?_ ?_ | with_reducible refine br_50 ?_ ?_ | with_reducible refine br_51 ?_ ?_) <;> intro h <;> try simp (disch := first | assumption | exact Nat.le_of_ble_eq_true rfl | omega) only [ev_wr_id, not_true_eq_false, not_false_eq_true, Int.reduceEq, Int.reduceLT, Int.reduceLE, and_self, and_true, true_and, and_false, false_and, reduceIte] at h <;> try (exfalso; omega; done)))
    · clear ht hpb q hSx
      rw [mm_37]
      repeat' (first | (simp (disch := first | assumption | exact Nat.le_of_ble_eq_true rfl | omega) only [bk_37_0, eo_1_0, v5_1, ev_ki, ev_kv, g5_27, g5_28_0, eo_6, eo_53, bk_37_1, eo_56z, bk_37_2, eo_1_1, g7_28_1, g1_27, eo_10, bk_37_3, v5_2, bk_37_4, g5_28_10, eo_11, eo_24i, eo_24r, g5_30, a32_165, a35_169, c_43, e41, ev_ua_eq, ev_ua_ne, hn1, k1, Int.add_zero, Int.add_sub_cancel, Int.reduceAdd, Int.reduceMul, Int.reduceSub, Int.reduceNeg, ev_wr_id]) | ((first | with_reducible refine br_40 ?_ ?_ | with_reducible refine br_41 ?_ ?_ | with_reducible refine br_42 ?_ ?_ | with_reducible refine br_43 ?_ ?_ | with_reducible refine br_44 ?_ ?_ | with_reducible refine br_45 ?_ ?_ | with_reducible refine br_46 ?_ ?_ | with_reducible refine br_47 ?_ ?_ | with_reducible refine br_48 ?_ ?_ | with_reducible refine br_49 ?_ ?_ | with_reducible refine br_50 ?_ ?_ | with_reducible refine br_51 ?_ ?_) <;> intro h <;> try simp (disch := first | assumption | exact Nat.le_of_ble_eq_true rfl | omega) only [ev_wr_id, not_true_eq_false, not_false_eq_true, Int.reduceEq, Int.reduceLT, Int.reduceLE, and_self, and_true, true_and, and_false, false_and, reduceIte] at h <;> try (exfalso; omega; done)))
  · have h5 := (hpb q.1).1
    have h6 := (hpb q.1).2
    have q1 := q.1
    have q2 := q.2
    clear ht hpb q hSx
    rw [mm_37]
    repeat' (first | (simp (disch := first | assumption | exact Nat.le_of_ble_eq_true rfl | omega) only [bk_37_0, eo_1_0, v5_1, ev_ki, ev_kv, g5_27, g5_28_0, eo_6, eo_53, bk_37_1, eo_56z, bk_37_2, eo_1_1, g7_28_1, g1_27, eo_10, bk_37_3, v5_2, bk_37_4, g5_28_10, eo_11, eo_24i, eo_24r, g5_30, a32_165, a35_169, c_43, e41, ev_ua_eq, ev_ua_ne, hn1, k1, h5, hB, hb1, ev_up_ua, Int.add_zero, Int.add_sub_cancel, Int.reduceAdd, Int.reduceMul, Int.reduceSub, Int.reduceNeg, ev_wr_id]) | ((first | with_reducible refine br_40 ?_ ?_ | with_reducible refine br_41 ?_ ?_ | with_reducible refine br_42 ?_ ?_ | with_reducible refine br_43 ?_ ?_ | with_reducible refine br_44 ?_ ?_ | with_reducible refine br_45 ?_ ?_ | with_reducible refine br_46 ?_ ?_ | with_reducible refine br_47 ?_ ?_ | with_reducible refine br_48 ?_ ?_ | with_reducible refine br_49 ?_ ?_ | with_reducible refine br_50 ?_ ?_ | with_reducible refine br_51 ?_ ?_) <;> intro h <;> try simp (disch := first | assumption | exact Nat.le_of_ble_eq_true rfl | omega) only [ev_wr_id, not_true_eq_false, not_false_eq_true, Int.reduceEq, Int.reduceLT, Int.reduceLE, and_self, and_true, true_and, and_false, false_and, reduceIte] at h <;> try (exfalso; omega; done)))
  · have h5 := (hpb q.1).1
    have h6 := (hpb q.1).2
    have q1 := q.1
    have q2 := q.2
    have m1 : ev_u1 f1 6 (b + 1) 2 = p := by rw [ev_u1_ne (by omega)]; exact k1
    clear ht hpb q
    rw [mm_37]
    repeat' (first | (simp (disch := first | assumption | exact Nat.le_of_ble_eq_true rfl | omega) only [bk_37_0, eo_1_0, v5_1, ev_ki, ev_kv, g5_27, g5_28_0, eo_6, eo_53, bk_37_1, eo_56z, bk_37_2, eo_1_1, g7_28_1, g1_27, eo_10, bk_37_3, v5_2, bk_37_4, g5_28_10, eo_11, eo_24i, eo_24r, g5_30, a32_165, a35_169, c_43, e41, ev_ua_eq, ev_ua_ne, hn1, k1, h5, hB, hb1, hk1, ev_up_ua, hSx, m1, Int.add_zero, Int.add_sub_cancel, Int.reduceAdd, Int.reduceMul, Int.reduceSub, Int.reduceNeg, ev_wr_id]) | ((first | with_reducible refine br_40 ?_ ?_ | with_reducible refine br_41 ?_ ?_ | with_reducible refine br_42 ?_ ?_ | with_reducible refine br_43 ?_ ?_ | with_reducible refine br_44 ?_ ?_ | with_reducible refine br_45 ?_ ?_ | with_reducible refine br_46 ?_ ?_ | with_reducible refine br_47 ?_ ?_ | with_reducible refine br_48 ?_ ?_ | with_reducible refine br_49 ?_ ?_ | with_reducible refine br_50 ?_ ?_ | with_reducible refine br_51 ?_ ?_) <;> intro h <;> try simp (disch := first | assumption | exact Nat.le_of_ble_eq_true rfl | omega) only [ev_wr_id, not_true_eq_false, not_false_eq_true, Int.reduceEq, Int.reduceLT, Int.reduceLE, and_self, and_true, true_and, and_false, false_and, reduceIte] at h <;> try (exfalso; omega; done)))
