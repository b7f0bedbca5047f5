/-! the law's look at the rounds -/
theorem st_np_ex (T G : Int → Int) : ∀ n : Nat, ∃ c, st_np T G n c := by
  intro n
  induction n with
  | zero => exact ⟨-1, Or.inl ⟨rfl, fun b hb h => by have := h.1.1; omega⟩⟩
  | succ n ih =>
    obtain ⟨c, hc⟩ := ih
    rw [show ((n + 1 : Nat) : Int) = (n : Int) + 1 by omega]
    by_cases q : st_cb T G n ∧ (c = -1 ∨ G (st_sn T G n) < G (st_sn T G c))
    · refine ⟨n, Or.inr ⟨⟨q.1, by omega⟩, fun b hb h => ?_⟩⟩
      by_cases e : b = n
      · subst e
        exact ⟨Int.le_refl _, fun h => by omega⟩
      · rcases hc with ⟨k1, k2⟩ | ⟨k1, k2⟩
        · exact absurd h (k2 b (by omega))
        · have k3 := k2 b (by omega) h
          have k4 : 0 ≤ c := k1.1.1.1
          have k5 : G (st_sn T G n) < G (st_sn T G c) := by
            rcases q.2 with q2 | q2
            · omega
            · exact q2
          exact ⟨by omega, fun _ => by omega⟩
    · refine ⟨c, ?_⟩
      rcases hc with ⟨k1, k2⟩ | ⟨k1, k2⟩
      · refine Or.inl ⟨k1, fun b hb h => ?_⟩
        by_cases e : b = n
        · subst e
          exact q ⟨h, Or.inl k1⟩
        · exact k2 b (by omega) h
      · refine Or.inr ⟨⟨k1.1, by omega⟩, fun b hb h => ?_⟩
        by_cases e : b = n
        · subst e
          refine ⟨?_, fun h2 => by omega⟩
          rcases (show G (st_sn T G n) < G (st_sn T G c) ∨ G (st_sn T G c) ≤ G (st_sn T G n) by omega) with k | k
          · exact absurd ⟨h, Or.inr k⟩ q
          · exact k
        · exact k2 b (by omega) h
theorem st_nb_p {T : Int → Int} (G : Int → Int) (hI : st_I T) : st_np T G (T 2) (st_nb T G) := by
  obtain ⟨c, hc⟩ := st_np_ex T G (T 2).toNat
  rw [show (((T 2).toNat : Nat) : Int) = T 2 by have := hI.1.2.2.1; omega] at hc
  exact Classical.epsilon_spec (p := fun c => st_np T G (T 2) c) ⟨c, hc⟩
/-- the nearer end of a bridge's road -/
theorem st_sn_m (T G : Int → Int) (b : Int) : (st_sn T G b = T (9 + 4 * T (89 + 5 * b)) ∨ st_sn T G b = T (9 + 4 * T (89 + 5 * b) + 1)) ∧ G (st_sn T G b) ≤ G (T (9 + 4 * T (89 + 5 * b))) ∧ G (st_sn T G b) ≤ G (T (9 + 4 * T (89 + 5 * b) + 1)) := by
  unfold st_sn st_hg st_lw
  generalize T (9 + 4 * T (89 + 5 * b)) = x
  generalize T (9 + 4 * T (89 + 5 * b) + 1) = y
  rcases Int.lt_trichotomy x y with c | c | c
  · rw [if_pos c, if_neg (show ¬ y < x by omega)]
    split
    · exact ⟨Or.inr rfl, by omega, Int.le_refl _⟩
    · exact ⟨Or.inl rfl, Int.le_refl _, by omega⟩
  · subst c
    simp
  · rw [if_neg (show ¬ x < y by omega), if_pos c]
    split
    · exact ⟨Or.inl rfl, Int.le_refl _, by omega⟩
    · exact ⟨Or.inr rfl, by omega, Int.le_refl _⟩
/-- a round so far: what was looked at, and the row then -/
def st_rv (T T1 : Int → Int) (m : Int) (O : Int → Int) : Prop :=
  (∀ k, k < 6 ∨ (8 ≤ k ∧ k < 89) ∨ 119 ≤ k → T1 k = T k) ∧ (∀ b, 0 ≤ b → b < 6 → T1 (89 + 5 * b) = T (89 + 5 * b) ∧ T1 (89 + 5 * b + 1) = T (89 + 5 * b + 1) ∧ T1 (89 + 5 * b + 4) = T (89 + 5 * b + 4)) ∧
  (∀ b, 0 ≤ b → b < T 2 → (∃ i, 0 ≤ i ∧ i < m ∧ O i = b) → st_due T1 b = 0) ∧ (∀ b, 0 ≤ b → b < T 2 → ¬ (∃ i, 0 ≤ i ∧ i < m ∧ O i = b) → st_due T1 b = st_due T b) ∧
  (∀ i, 0 ≤ i → i < m → (0 ≤ O i ∧ O i < T 2) ∧ st_due T (O i) = 1 ∧ ∀ k, 0 ≤ k → k < i → O k ≠ O i) ∧
  T1 6 = T 6 + m ∧ T1 7 = T 7 + ev_ss (fun i => 5 + T (89 + 5 * O i + 1)) m.toNat 0 0 ∧ ev_ss (st_due T1) (T 2).toNat 0 0 = ev_ss (st_due T) (T 2).toNat 0 0 - m
theorem st_rv_s {T T1 : Int → Int} {m c : Int} {O : Int → Int} (hI : st_I T) (hI1 : st_I T1) (hm : 0 ≤ m) (h : st_rv T T1 m O) (hc : 0 ≤ c ∧ c < T1 2) (hd : st_due T1 c = 1) : st_rv T (st_look T1 c) (m + 1) (ev_u1 O m c) := by
  obtain ⟨h1, h2, h3, h4, h5, h6, h7, h8⟩ := h
  have i2 := hI.1.2.2.1
  have e2 := h1 2 (by omega)
  rw [e2] at hc
  have hn : ¬ ∃ i, 0 ≤ i ∧ i < m ∧ O i = c := fun h => by
    have := h3 c hc.1 hc.2 h
    omega
  have hdc : st_due T c = 1 := by rw [← h4 c hc.1 hc.2 hn]; exact hd
  have l2 : ∀ b, 0 ≤ b → st_look T1 c (89 + 5 * b + 2) = if b = c then st_rt T1 c else T1 (89 + 5 * b + 2) := fun b hb => by
    unfold st_look
    by_cases q : b = c
    · subst q
      rw [if_pos rfl]
      simp (disch := omega) only [ev_u1_eq, ev_u1_ne]
    · rw [if_neg q]
      simp (disch := omega) only [ev_u1_eq, ev_u1_ne]
  have l3 : ∀ b, 0 ≤ b → st_look T1 c (89 + 5 * b + 3) = if b = c then T1 5 else T1 (89 + 5 * b + 3) := fun b hb => by
    unfold st_look
    by_cases q : b = c
    · subst q
      rw [if_pos rfl]
      simp (disch := omega) only [ev_u1_eq, ev_u1_ne]
    · rw [if_neg q]
      simp (disch := omega) only [ev_u1_eq, ev_u1_ne]
  have l5 : st_look T1 c 5 = T1 5 := by
    unfold st_look
    simp (disch := omega) only [ev_u1_eq, ev_u1_ne]
  have ld : ∀ b, 0 ≤ b → st_due (st_look T1 c) b = if b = c then 0 else st_due T1 b := fun b hb => by
    unfold st_due
    rw [l2 b hb, l3 b hb, l5]
    by_cases q : b = c
    · rw [if_pos q, if_pos q, if_pos q, if_neg]
      split
      · omega
      · split <;> omega
    · rw [if_neg q, if_neg q, if_neg q]
  have om : ∀ i, i ≠ m → ev_u1 O m c i = O i := fun i hi => ev_u1_ne hi
  have oc : ev_u1 O m c m = c := ev_u1_eq rfl
  refine ⟨fun k hk => ?_, fun b b0 b1 => ?_, fun b b0 b1 hb => ?_, fun b b0 b1 hb => ?_, fun i i0 i1 => ?_, ?_, ?_, ?_⟩
  · rw [← h1 k hk]
    unfold st_look
    simp (disch := omega) only [ev_u1_ne]
  · rw [← (h2 b b0 b1).1, ← (h2 b b0 b1).2.1, ← (h2 b b0 b1).2.2]
    unfold st_look
    refine ⟨?_, ?_, ?_⟩ <;> simp (disch := omega) only [ev_u1_ne]
  · rw [ld b b0]
    by_cases q : b = c
    · rw [if_pos q]
    · rw [if_neg q]
      obtain ⟨i, q0, q1, q2⟩ := hb
      by_cases qi : i = m
      · rw [qi, oc] at q2
        exact absurd q2.symm q
      · rw [om i qi] at q2
        exact h3 b b0 b1 ⟨i, q0, by omega, q2⟩
  · rw [ld b b0, if_neg (fun q => hb ⟨m, hm, by omega, by rw [oc, q]⟩)]
    refine h4 b b0 b1 (fun ⟨i, q0, q1, q2⟩ => hb ⟨i, q0, by omega, ?_⟩)
    rw [om i (by omega)]
    exact q2
  · by_cases qi : i = m
    · subst qi
      rw [oc]
      refine ⟨hc, hdc, fun k k0 k1 => ?_⟩
      rw [om k (by omega)]
      exact fun q => hn ⟨k, k0, k1, q⟩
    · rw [om i qi]
      obtain ⟨k1, k2, k3⟩ := h5 i i0 (by omega)
      refine ⟨k1, k2, fun k q0 q1 => ?_⟩
      rw [om k (by omega)]
      exact k3 k q0 q1
  · have e : st_look T1 c 6 = T1 6 + 1 := by
      unfold st_look
      simp (disch := omega) only [ev_u1_eq, ev_u1_ne]
    rw [e, h6]
    omega
  · have e : st_look T1 c 7 = T1 7 + (5 + T1 (89 + 5 * c + 1)) := by
      unfold st_look
      simp (disch := omega) only [ev_u1_eq, ev_u1_ne]
    have e3 : ev_ss (fun i => 5 + T (89 + 5 * ev_u1 O m c i + 1)) m.toNat 0 0 = ev_ss (fun i => 5 + T (89 + 5 * O i + 1)) m.toNat 0 0 := ev_ss_congr _ _ _ (fun q q0 q1 => by rw [om q (by omega)])
    rw [e, h7, show (m + 1).toNat = m.toNat + 1 by omega, ev_ss_sn, e3, show (0 : Int) + (m.toNat : Int) = m by omega, oc, (h2 c hc.1 (by omega)).2.1]
    omega
  · have e : ev_ss (st_due T1) (T 2).toNat 0 0 = ev_ss (fun b => st_due (st_look T1 c) b + (fun q => if c = q then (fun _ => 1) q else 0) b) (T 2).toNat 0 0 := ev_ss_congr _ _ _ (fun q q0 q1 => by
      dsimp only
      rw [ld q (by omega)]
      by_cases x : q = c
      · rw [if_pos x, if_pos x.symm, x, hd]
        omega
      · rw [if_neg x, if_neg (fun y => x y.symm)]
        omega)
    have e2 := ev_ss_ad (f := st_due (st_look T1 c)) (g := fun q => if c = q then (fun _ => 1) q else 0) (T 2).toNat 0 0 0
    have e3 := ev_ss_dl (h := fun _ => 1) (u := c) (T 2).toNat 0 0
    rw [if_pos (by omega)] at e3
    rw [e3] at e2
    rw [show (0 : Int) + 0 = 0 from rfl] at e2
    rw [e2] at e
    omega
theorem st_run_v {T : Int → Int} (hI : st_I T) : ∀ (k : Nat) (T1 : Int → Int) (x h m : Int) (O : Int → Int), 0 ≤ m → st_I T1 → st_rv T T1 m O → st_rv T (st_run k T1 x h m O).1 (st_run k T1 x h m O).2.1 (st_run k T1 x h m O).2.2 := by
  intro k
  induction k with
  | zero => exact fun T1 x h m O _ _ hr => hr
  | succ k ih =>
    intro T1 x h m O hm hI1 hr
    by_cases c : st_nb T1 (st_Gs T1 12 (-1) x) = -1 ∨ h < st_nd T1 (st_Gs T1 12 (-1) x) (st_nb T1 (st_Gs T1 12 (-1) x))
    · rw [st_run_e rfl rfl c]
      exact hr
    · rw [st_run_s rfl rfl c]
      have hp := st_nb_p (st_Gs T1 12 (-1) x) hI1
      rcases hp with ⟨k1, -⟩ | ⟨k1, -⟩
      · exact absurd (Or.inl k1) c
      · exact ih _ _ _ _ _ (by omega) (st_look_I hI1 k1.1.1) (st_rv_s hI hI1 hm hr k1.1.1 k1.1.2.1)
theorem st_rv_0 {T : Int → Int} {O : Int → Int} : st_rv T T 0 O := ⟨fun _ _ => rfl, fun _ _ _ => ⟨rfl, rfl, rfl⟩, fun b b0 b1 ⟨i, q0, q1, q2⟩ => by omega, fun _ _ _ _ => rfl, fun i i0 i1 => by omega, by omega, by show T 7 = T 7 + 0; omega, by omega⟩
/-- what holds of a row when a round was gone -/
theorem st_rv_L {T T1 : Int → Int} {m : Int} {O : Int → Int} (hI : st_I T) (h : st_rv T T1 m O) (hL : law_I T) : law_I T1 := by
  have i2 := hI.1.2.2.1
  have i1 := hI.1.2.1
  obtain ⟨h1, h2, -⟩ := h
  have e1 := h1 1 (by omega)
  have e2 := h1 2 (by omega)
  refine ⟨fun b b0 b1 => ?_, fun r r0 r1 hr => ?_, fun b c k b0 b1 c0 c1 k0 k1 => ?_⟩
  · rw [e2] at b1
    have g := (hI.2.2.1 b b0 b1).1
    rw [(h2 b b0 (by omega)).1, h1 _ (by omega)]
    exact hL.1 b b0 b1
  · rw [e1] at r1
    have g := (hI.2.1 r r0 r1).2.2.2.2
    rw [h1 (9 + 4 * r + 3) (by omega)] at hr ⊢
    rw [(h2 _ (by omega) (by omega)).1]
    exact hL.2.1 r r0 r1 hr
  · rw [e2] at b1
    rw [(h2 b b0 (by omega)).2.1] at c1
    rw [h1 _ (by omega)]
    exact hL.2.2 b c k b0 b1 c0 c1 k0 k1
/-- what was written of a round stays -/
theorem st_run_O : ∀ (k : Nat) (T : Int → Int) (x h m : Int) (O : Int → Int) (i : Int), i < m → (st_run k T x h m O).2.2 i = O i := by
  intro k
  induction k with
  | zero => exact fun T x h m O i _ => rfl
  | succ k ih =>
    intro T x h m O i hi
    by_cases c : st_nb T (st_Gs T 12 (-1) x) = -1 ∨ h < st_nd T (st_Gs T 12 (-1) x) (st_nb T (st_Gs T 12 (-1) x))
    · rw [st_run_e rfl rfl c]
    · rw [st_run_s rfl rfl c, ih _ _ _ _ _ i (by omega)]
      exact ev_u1_ne (by omega)
