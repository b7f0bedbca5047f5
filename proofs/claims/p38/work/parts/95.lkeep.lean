/-! what the law's own calls keep -/
theorem law_of {T U : Int → Int} (hI : st_I T) (h1 : U 1 = T 1) (h2 : U 2 = T 2) (h3 : ∀ r, 0 ≤ r → r < 20 → U (9 + 4 * r + 3) = T (9 + 4 * r + 3)) (h4 : ∀ b, 0 ≤ b → b < 6 → U (89 + 5 * b) = T (89 + 5 * b) ∧ U (89 + 5 * b + 1) = T (89 + 5 * b + 1)) (h5 : ∀ b c, 0 ≤ b → b < 6 → 0 ≤ c → c < 6 → U (119 + 30 * b + 5 * c + 4) = T (119 + 30 * b + 5 * c + 4)) (hL : law_I T) : law_I U := by
  have i2 := hI.1.2.2.1
  have i1 := hI.1.2.1
  refine ⟨fun b b0 b1 => ?_, fun r r0 r1 hr => ?_, fun b c k b0 b1 c0 c1 k0 k1 => ?_⟩
  · rw [h2] at b1
    have g := (hI.2.2.1 b b0 b1).1
    rw [(h4 b b0 (by omega)).1, h3 _ g.1 (by omega)]
    exact hL.1 b b0 b1
  · rw [h1] at r1
    have g := (hI.2.1 r r0 r1).2.2.2.2
    rw [h3 r r0 (by omega)] at hr ⊢
    rw [(h4 _ (by omega) (by omega)).1]
    exact hL.2.1 r r0 r1 hr
  · rw [h2] at b1
    rw [(h4 b b0 (by omega)).2] at c1
    have g := (hI.2.2.1 b b0 b1).2.1
    rw [h5 b c b0 (by omega) c0 (by omega)]
    exact hL.2.2 b c k b0 b1 c0 c1 k0 k1
section LK
variable {T : Int → Int}
theorem lk_towns {v : Int} (hI : st_I T) (hL : law_I T) : law_I (ev_u1 T 0 v) := law_of hI (ev_u1_ne (by omega)) (ev_u1_ne (by omega)) (fun r _ _ => ev_u1_ne (by omega)) (fun b _ _ => ⟨ev_u1_ne (by omega), ev_u1_ne (by omega)⟩) (fun b c _ _ _ _ => ev_u1_ne (by omega)) hL
theorem lk_lines {v : Int} (hI : st_I T) (hL : law_I T) : law_I (ev_u1 T 3 v) := law_of hI (ev_u1_ne (by omega)) (ev_u1_ne (by omega)) (fun r _ _ => ev_u1_ne (by omega)) (fun b _ _ => ⟨ev_u1_ne (by omega), ev_u1_ne (by omega)⟩) (fun b c _ _ _ _ => ev_u1_ne (by omega)) hL
theorem lk_close {b v : Int} (hI : st_I T) (hb : 0 ≤ b ∧ b < 6) (hL : law_I T) : law_I (ev_u1 T (89 + 5 * b + 4) v) := law_of hI (ev_u1_ne (by omega)) (ev_u1_ne (by omega)) (fun r _ _ => ev_u1_ne (by omega)) (fun b _ _ => ⟨ev_u1_ne (by omega), ev_u1_ne (by omega)⟩) (fun b c _ _ _ _ => ev_u1_ne (by omega)) hL
theorem lk_rate {b c v : Int} (hI : st_I T) (hb : 0 ≤ b ∧ b < 6) (hc : 0 ≤ c ∧ c < 6) (hL : law_I T) : law_I (st_nrate T b c v) := by
  unfold st_nrate
  refine law_of hI ?_ ?_ (fun r _ _ => ?_) (fun b _ _ => ⟨?_, ?_⟩) (fun b c _ _ _ _ => ?_) hL <;> rw [ev_u1_ne (by omega), ev_u1_ne (by omega)]
theorem lk_look {b : Int} (hI : st_I T) (hb : 0 ≤ b ∧ b < 6) (hL : law_I T) : law_I (st_look T b) := by
  unfold st_look
  refine law_of hI ?_ ?_ (fun r _ _ => ?_) (fun b _ _ => ⟨?_, ?_⟩) (fun b c _ _ _ _ => ?_) hL <;> rw [ev_u1_ne (by omega), ev_u1_ne (by omega), ev_u1_ne (by omega), ev_u1_ne (by omega)]
theorem lk_line {b c p : Int} (hI : st_I T) (hL : law_I T) : law_I (st_nline T b c p) := by
  have i3 := hI.1.2.2.2.1
  unfold st_nline
  refine law_of hI ?_ ?_ (fun r _ _ => ?_) (fun b _ _ => ⟨?_, ?_⟩) (fun b c _ _ _ _ => ?_) hL <;> rw [ev_u1_ne (by omega), ev_u1_ne (by omega), ev_u1_ne (by omega), ev_u1_ne (by omega)]
theorem lk_bid {f p0 p1 p2 p3 : Int} (hI : st_I T) (hL : law_I T) : law_I (st_nbid T f p0 p1 p2 p3) := by
  have i3 := hI.1.2.2.2.2.1
  unfold st_nbid
  refine law_of hI ?_ ?_ (fun r _ _ => ?_) (fun b _ _ => ⟨?_, ?_⟩) (fun b c _ _ _ _ => ?_) hL <;> rw [ev_u1_ne (by omega), ev_u1_ne (by omega), ev_u1_ne (by omega), ev_u1_ne (by omega), ev_u1_ne (by omega), ev_u1_ne (by omega)]
theorem lk_year {y : Int} {U : Int → Int} (hI : st_I T) (hy : 0 ≤ y ∧ T 5 + y ≤ 1000) (h : st_nyear T y U) (hL : law_I T) : law_I U := by
  have hI2 := pi_year hI (v := T 5 + y) (by omega) hy.2
  have i5 := hI.1.2.2.2.2.2
  refine law_of hI ?_ ?_ (fun r _ _ => ?_) (fun b _ _ => ⟨?_, ?_⟩) (fun b c b0 b1 c0 c1 => ?_) hL
  · rw [st_G_lo hI2 h _ (by omega) (by omega), ev_u1_ne (by omega)]
  · rw [st_G_lo hI2 h _ (by omega) (by omega), ev_u1_ne (by omega)]
  · rw [st_G_lo hI2 h _ (by omega) (by omega), ev_u1_ne (by omega)]
  · rw [st_G_lo hI2 h _ (by omega) (by omega), ev_u1_ne (by omega)]
  · rw [st_G_lo hI2 h _ (by omega) (by omega), ev_u1_ne (by omega)]
  · rw [st_G_p hI2 h ⟨b0, b1⟩ ⟨c0, c1⟩ (o := 4) (Or.inr (Or.inr rfl)), ev_u1_ne (by omega)]
theorem st_md_o : ∀ (k : Nat) (l : Int) (U : Int → Int), st_I U → 0 ≤ l → l + k = U 3 → ∀ b c o, 0 ≤ b → b < 6 → 0 ≤ c → c < 6 → o = 0 ∨ o = 3 ∨ o = 4 → st_md k l U (119 + 30 * b + 5 * c + o) = U (119 + 30 * b + 5 * c + o) := by
  intro k
  induction k with
  | zero => exact fun l U _ _ _ b c o _ _ _ _ _ => rfl
  | succ k ih =>
    intro l U h h0 h1 b c o b0 b1 c0 c1 ho
    have hm := st_ml_out h (l := l) (by omega)
    rw [show st_md (k + 1) l U = st_md k (l + 1) (st_ml U l) from rfl, ih (l + 1) _ (st_ml_I h (by omega)) (by omega) (by rw [hm.1 3 (by omega)]; omega) b c o b0 b1 c0 c1 ho]
    exact hm.2 b c o b0 b1 c0 c1 ho
def st_nmend (T : Int → Int) (c : Int) : Int → Int := ev_u1 (ev_u1 (st_md (T 3).toNat 0 T) 8 (T 8 + c)) 3 0
theorem st_nmend_lo {c : Int} (hI : st_I T) {q : Int} (hq : q < 119) (h3 : q ≠ 3) (h8 : q ≠ 8) : st_nmend T c q = T q := by
  have i3 := hI.1.2.2.2.1
  unfold st_nmend
  rw [ev_u1_ne h3, ev_u1_ne h8, st_md_low (T 3).toNat 0 T hI (by omega) (by omega) q hq]
theorem lk_mend {c : Int} (hI : st_I T) (hL : law_I T) : law_I (st_nmend T c) := by
  have i3 := hI.1.2.2.2.1
  have i1 := hI.1.2.1
  refine law_of hI (st_nmend_lo hI (by omega) (by omega) (by omega)) (st_nmend_lo hI (by omega) (by omega) (by omega)) (fun r _ _ => st_nmend_lo hI (by omega) (by omega) (by omega)) (fun b _ _ => ⟨st_nmend_lo hI (by omega) (by omega) (by omega), st_nmend_lo hI (by omega) (by omega) (by omega)⟩) (fun b c b0 b1 c0 c1 => ?_) hL
  unfold st_nmend
  rw [ev_u1_ne (by omega), ev_u1_ne (by omega)]
  exact st_md_o (T 3).toNat 0 T hI (by omega) (by omega) b c 4 b0 b1 c0 c1 (Or.inr (Or.inr rfl))
theorem lk_road {a b len : Int} (hI : st_I T) (h1 : T 1 < 20) (hL : law_I T) : law_I (st_nroad T a b len) := by
  have i2 := hI.1.2.2.1
  have i1 := hI.1.2.1
  have lo : ∀ q, q = 2 ∨ 89 ≤ q → st_nroad T a b len q = T q := fun q hq => by
    unfold st_nroad
    rw [ev_u1_ne (by omega), ev_u1_ne (by omega), ev_u1_ne (by omega), ev_u1_ne (by omega), ev_u1_ne (by omega)]
  have e1 : st_nroad T a b len 1 = T 1 + 1 := ev_u1_eq rfl
  have er : ∀ r, 0 ≤ r → r < T 1 → st_nroad T a b len (9 + 4 * r + 3) = T (9 + 4 * r + 3) := fun r r0 r1 => by
    unfold st_nroad
    rw [ev_u1_ne (by omega), ev_u1_ne (by omega), ev_u1_ne (by omega), ev_u1_ne (by omega), ev_u1_ne (by omega)]
  have en : st_nroad T a b len (9 + 4 * T 1 + 3) = -1 := by
    unfold st_nroad
    rw [ev_u1_ne (by omega)]
    exact ev_u1_eq rfl
  refine ⟨fun b b0 b1 => ?_, fun r r0 r1 hr => ?_, fun b c k b0 b1 c0 c1 k0 k1 => ?_⟩
  · rw [lo 2 (by omega)] at b1
    have g := (hI.2.2.1 b b0 b1).1
    rw [lo (89 + 5 * b) (by omega), er _ g.1 g.2]
    exact hL.1 b b0 b1
  · rw [e1] at r1
    by_cases c : r = T 1
    · rw [c, en] at hr
      exact absurd rfl hr
    · rw [er r r0 (by omega)] at hr ⊢
      have g := (hI.2.1 r r0 (by omega)).2.2.2.2
      rw [lo _ (by omega)]
      exact hL.2.1 r r0 (by omega) hr
  · rw [lo 2 (by omega)] at b1
    rw [lo _ (by omega)] at c1
    rw [lo _ (by omega)]
    exact hL.2.2 b c k b0 b1 c0 c1 k0 k1
theorem lk_bridge {r : Int} (hI : st_I T) (h2 : T 2 < 6) (hr : 0 ≤ r ∧ r < T 1) (hr3 : T (9 + 4 * r + 3) = -1) (hL : law_I T) : law_I (st_nbridge T r) := by
  have i2 := hI.1.2.2.1
  have i1 := hI.1.2.1
  have lo : ∀ q, q ≠ 2 → q ≠ 9 + 4 * r + 3 → (q < 89 + 5 * T 2 ∨ 89 + 5 * T 2 + 4 < q) → st_nbridge T r q = T q := fun q q2 q3 q4 => by
    unfold st_nbridge
    rw [ev_u1_ne q2, ev_u1_ne q3, ev_u1_ne (by omega), ev_u1_ne (by omega), ev_u1_ne (by omega), ev_u1_ne (by omega), ev_u1_ne (by omega)]
  have e2 : st_nbridge T r 2 = T 2 + 1 := ev_u1_eq rfl
  have e3 : st_nbridge T r (9 + 4 * r + 3) = T 2 := by
    unfold st_nbridge
    rw [ev_u1_ne (by omega)]
    exact ev_u1_eq rfl
  have en : st_nbridge T r (89 + 5 * T 2) = r := by
    unfold st_nbridge
    rw [ev_u1_ne (by omega), ev_u1_ne (by omega), ev_u1_ne (by omega), ev_u1_ne (by omega), ev_u1_ne (by omega), ev_u1_ne (by omega)]
    exact ev_u1_eq rfl
  have ec : st_nbridge T r (89 + 5 * T 2 + 1) = 0 := by
    unfold st_nbridge
    rw [ev_u1_ne (by omega), ev_u1_ne (by omega), ev_u1_ne (by omega), ev_u1_ne (by omega), ev_u1_ne (by omega)]
    exact ev_u1_eq rfl
  refine ⟨fun b b0 b1 => ?_, fun q q0 q1 hq => ?_, fun b c k b0 b1 c0 c1 k0 k1 => ?_⟩
  · rw [e2] at b1
    by_cases c : b = T 2
    · rw [c, en, e3]
    · have g := (hI.2.2.1 b b0 (by omega)).1
      have g2 := hL.1 b b0 (by omega)
      have hne : T (89 + 5 * b) ≠ r := fun q => by
        rw [q, hr3] at g2
        omega
      rw [lo (89 + 5 * b) (by omega) (by omega) (by omega), lo _ (by omega) (by omega) (by omega)]
      exact g2
  · rw [lo 1 (by omega) (by omega) (by omega)] at q1
    by_cases c : q = r
    · rw [c, e3, en]
    · rw [lo (9 + 4 * q + 3) (by omega) (by omega) (by omega)] at hq ⊢
      have g := (hI.2.1 q q0 q1).2.2.2.2
      rw [lo _ (by omega) (by omega) (by omega)]
      exact hL.2.1 q q0 q1 hq
  · rw [e2] at b1
    by_cases x : b = T 2
    · rw [x, ec] at c1
      omega
    · rw [lo (89 + 5 * b + 1) (by omega) (by omega) (by omega)] at c1
      rw [lo _ (by omega) (by omega) (by omega)]
      exact hL.2.2 b c k b0 (by omega) c0 c1 k0 k1
theorem ev_bt_0 (k : Int) : ¬ ev_bt 0 k := by
  unfold ev_bt
  rw [Int.zero_ediv]
  omega
theorem lk_comp {b kd ra rt : Int} (hI : st_I T) (hb : 0 ≤ b ∧ b < T 2) (hn : T (89 + 5 * b + 1) < 6) (hL : law_I T) : law_I (st_ncomp T b kd ra rt) := by
  have i2 := hI.1.2.2.1
  have i1 := hI.1.2.1
  have hb1 := (hI.2.2.1 b hb.1 hb.2).2.1
  have lo : ∀ q, q ≠ 89 + 5 * b + 1 → (q < 119 + 30 * b + 5 * T (89 + 5 * b + 1) ∨ 119 + 30 * b + 5 * T (89 + 5 * b + 1) + 4 < q) → st_ncomp T b kd ra rt q = T q := fun q q2 q4 => by
    unfold st_ncomp
    rw [ev_u1_ne q2, ev_u1_ne (by omega), ev_u1_ne (by omega), ev_u1_ne (by omega), ev_u1_ne (by omega), ev_u1_ne (by omega)]
  have e1 : st_ncomp T b kd ra rt (89 + 5 * b + 1) = T (89 + 5 * b + 1) + 1 := ev_u1_eq rfl
  have e4 : st_ncomp T b kd ra rt (119 + 30 * b + 5 * T (89 + 5 * b + 1) + 4) = 0 := by
    unfold st_ncomp
    rw [ev_u1_ne (by omega)]
    exact ev_u1_eq rfl
  refine ⟨fun q q0 q1 => ?_, fun q q0 q1 hq => ?_, fun q c k q0 q1 c0 c1 k0 k1 => ?_⟩
  · rw [lo 2 (by omega) (by omega)] at q1
    have g := (hI.2.2.1 q q0 q1).1
    rw [lo (89 + 5 * q) (by omega) (by omega), lo _ (by omega) (by omega)]
    exact hL.1 q q0 q1
  · rw [lo 1 (by omega) (by omega)] at q1
    have g := (hI.2.1 q q0 q1).2.2.2.2
    rw [lo (9 + 4 * q + 3) (by omega) (by omega)] at hq ⊢
    rw [lo _ (by omega) (by omega)]
    exact hL.2.1 q q0 q1 hq
  · rw [lo 2 (by omega) (by omega)] at q1
    by_cases x : q = b
    · subst x
      rw [e1] at c1
      by_cases y : c = T (89 + 5 * q + 1)
      · rw [y, e4]
        exact ev_bt_0 k
      · rw [lo _ (by omega) (by omega)]
        exact hL.2.2 q c k q0 q1 c0 (by omega) k0 k1
    · have g := (hI.2.2.1 q q0 q1).2.1
      rw [lo (89 + 5 * q + 1) (by omega) (by omega)] at c1
      rw [lo _ (by omega) (by omega)]
      exact hL.2.2 q c k q0 q1 c0 c1 k0 k1
theorem ev_xb_tab : ∀ r : Fin 128, ∀ o : Fin 7, ev_xor (r.val : Int) (if o.val = 6 then (64 : Int) else ev_shl 1 (o.val : Int)) = ((r.val ^^^ 2 ^ o.val : Nat) : Int) := by decide +kernel
theorem ev_xb_n {n p q : Nat} (h : q ≠ p) : ev_bt ((n ^^^ 2 ^ p : Nat) : Int) (q : Int) ↔ ev_bt (n : Int) (q : Int) := by
  have key : ∀ x : Nat, ev_bt (x : Int) (q : Int) ↔ x.testBit q = true := fun x => by
    rw [Nat.testBit_eq_decide_div_mod_eq, decide_eq_true_iff]
    show (x : Int) / 2 ^ ((q : Int).toNat) % 2 = 1 ↔ _
    rw [Int.toNat_natCast]
    have e : (x : Int) / 2 ^ q % 2 = ((x / 2 ^ q % 2 : Nat) : Int) := by
      rw [Int.natCast_emod, Int.natCast_ediv, Int.natCast_pow]
      rfl
    rw [e]
    omega
  rw [key, key, Nat.testBit_xor, Nat.testBit_two_pow_of_ne (by omega)]
  simp
theorem ev_xb {r o k : Int} (hr : 0 ≤ r ∧ r ≤ 127) (ho : o = -1 ∨ 0 ≤ o ∧ o < 6) (hk : 0 ≤ k ∧ k < 6) (hne : k ≠ o) : ev_bt (ev_xor r (st_rm o)) k ↔ ev_bt r k := by
  obtain ⟨n, rfl⟩ : ∃ n : Nat, r = n := ⟨r.toNat, by omega⟩
  obtain ⟨q, rfl⟩ : ∃ n : Nat, k = n := ⟨k.toNat, by omega⟩
  unfold st_rm
  rcases ho with rfl | h
  · have h := ev_xb_tab ⟨n, by omega⟩ ⟨6, by omega⟩
    have h : ev_xor (n : Int) 64 = ((n ^^^ 2 ^ 6 : Nat) : Int) := h
    rw [if_pos rfl, h]
    exact ev_xb_n (by omega)
  · obtain ⟨p, rfl⟩ : ∃ n : Nat, o = n := ⟨o.toNat, by omega⟩
    have h := ev_xb_tab ⟨n, by omega⟩ ⟨p, by omega⟩
    dsimp only at h
    rw [if_neg (by omega)] at h
    rw [if_neg (by omega), h]
    exact ev_xb_n (by omega)
theorem lk_rest {b c o : Int} (hI : st_I T) (hb : 0 ≤ b ∧ b < T 2) (hc : 0 ≤ c ∧ c < T (89 + 5 * b + 1)) (ho : o = -1 ∨ (c < o ∧ o < 6)) (hL : law_I T) : law_I (st_nrest T b c o) := by
  have i2 := hI.1.2.2.1
  have i1 := hI.1.2.1
  have hb1 := (hI.2.2.1 b hb.1 hb.2).2.1
  have lo : ∀ q, q ≠ 119 + 30 * b + 5 * c + 4 → st_nrest T b c o q = T q := fun q h => ev_u1_ne h
  refine ⟨fun q q0 q1 => ?_, fun q q0 q1 hq => ?_, fun q d k q0 q1 c0 c1 k0 k1 => ?_⟩
  · rw [lo 2 (by omega)] at q1
    have g := (hI.2.2.1 q q0 q1).1
    rw [lo (89 + 5 * q) (by omega), lo _ (by omega)]
    exact hL.1 q q0 q1
  · rw [lo 1 (by omega)] at q1
    have g := (hI.2.1 q q0 q1).2.2.2.2
    rw [lo (9 + 4 * q + 3) (by omega)] at hq ⊢
    rw [lo _ (by omega)]
    exact hL.2.1 q q0 q1 hq
  · rw [lo 2 (by omega)] at q1
    rw [lo (89 + 5 * q + 1) (by omega)] at c1
    have g := (hI.2.2.1 q q0 q1).2.1
    by_cases x : q = b ∧ d = c
    · obtain ⟨rfl, rfl⟩ := x
      have hre := (hI.2.2.2.2.1 q d q0 q1 c0 c1).2.2.2.2
      unfold st_nrest
      rw [ev_u1_eq rfl, ev_xb hre (by omega) (by omega) (by omega)]
      exact hL.2.2 q d k q0 q1 c0 c1 k0 k1
    · rw [lo _ (by omega)]
      exact hL.2.2 q d k q0 q1 c0 c1 k0 k1
theorem lk_run {x h : Int} (hI : st_I T) (hL : law_I T) : law_I (st_run 6 T x h 0 (fun _ => -1)).1 := st_rv_L hI (st_run_v hI 6 T x h 0 (fun _ => -1) (by omega) hI st_rv_0) hL
end LK
