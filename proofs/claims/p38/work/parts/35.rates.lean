/-! strengths: the reference's rates; the class's true ratings -/
/-- a frame's two rows after a question -/
def ev_fr (σ : ev_M) (f g : Int → Int) : ev_M := ev_ua (ev_ua σ 171 f) 172 g
theorem ev_sf_congr {ra ra' re re' : Int → Int} {n : Int} : ∀ k : Nat, (k : Int) ≤ n → (∀ c, 0 ≤ c → c < n → ra c = ra' c ∧ re c = re' c) → ∀ q, ev_sf ra re n k q = ev_sf ra' re' n k q := by
  intro k
  induction k with
  | zero => intro _ _ q; rfl
  | succ k ih =>
    intro hk h q
    have ih' : ev_sf ra re n k = ev_sf ra' re' n k := funext (ih (by omega) h)
    have hc := h (n - 1 - k) (by omega) (by omega)
    unfold ev_sf
    rw [ih', hc.1, hc.2]
theorem ev_tr_congr {ra ra' re re' : Int → Int} {n : Int} (hn : 0 ≤ n) (h : ∀ c, 0 ≤ c → c < n → ra c = ra' c ∧ re c = re' c) : ev_tr ra re n = ev_tr ra' re' n := by
  unfold ev_tr
  split
  · rfl
  · exact ev_sf_congr n.toNat (by omega) h 0
theorem ev_ra_in {σ : ev_M} {s b y c : Int} (hp : ev_pk σ s b) (hy : 0 ≤ y ∧ y ≤ 1000) (h0 : 0 ≤ c) (h1 : c < σ (s + 11) b) : 0 ≤ ev_ra σ s b y c ∧ ev_ra σ s b y c ≤ 9 := by
  obtain ⟨q1, q2, q3, q4⟩ := hp.2 c h0 h1
  have q5 := ev_mulb hy q3
  unfold ev_ra
  split <;> omega
theorem c_19 {s b y : Int} {σ : ev_M} (hs : ev_S s) (hb : 0 ≤ b ∧ b < 6) (hp : ev_pk σ s b) (hy : 0 ≤ y ∧ y ≤ 1000) : ∃ f g, EM 19 [.inr (.inl 170), .inr (.inl (s + 6)), .inl b, .inl y] σ = some (some (.inl (ev_tr (ev_ra σ s b y) (fun c => σ (s + 16) (b * 6 + c)) (σ (s + 11) b))), ev_fr σ f g) ∧ (∀ o, 0 ≤ o → o < σ (s + 11) b → f o = ev_ra σ s b y o) ∧ ∀ q, 0 ≤ q → q < σ (s + 11) b → g q = ev_sf (ev_ra σ s b y) (fun c => σ (s + 16) (b * 6 + c)) (σ (s + 11) b) (σ (s + 11) b).toNat q := by
  have hs2 := hs
  unfold ev_S at hs2
  obtain ⟨f, e20, hf⟩ := c_20 hs hb hp hy
  have h11 : ∀ z, ev_ua σ 171 f (s + 11) z = σ (s + 11) z := fun z => ev_ua_ne (by omega)
  have h16 : ∀ z, ev_ua σ 171 f (s + 16) z = σ (s + 16) z := fun z => ev_ua_ne (by omega)
  have h171 : ev_ua σ 171 f 171 = f := by funext z; exact ev_ua_eq
  obtain ⟨g, e21, hg⟩ := c_21 (σ := ev_ua σ 171 f) (re := fun c => σ (s + 16) (b * 6 + c)) hs hb (by rw [h11]; exact hp.1) (by
    rw [h11, h171]
    intro c h0 h1
    rw [hf c h0 h1]
    exact ev_ra_in hp hy h0 h1) (by
    rw [h11]
    intro c h0 h1
    exact ⟨h16 _, (hp.2 c h0 h1).2.2.2⟩)
  rw [h11, h171] at e21 hg
  have ht : ev_tr f (fun c => σ (s + 16) (b * 6 + c)) (σ (s + 11) b) = ev_tr (ev_ra σ s b y) (fun c => σ (s + 16) (b * 6 + c)) (σ (s + 11) b) := ev_tr_congr hp.1.1 (fun c h0 h1 => ⟨hf c h0 h1, rfl⟩)
  rw [ht] at e21
  refine ⟨f, g, ?_, hf, fun q h0 h1 => ?_⟩
  · rw [mm_19]
    repeat' (first | (simp (disch := first | assumption | exact Nat.le_of_ble_eq_true rfl | omega) only [bk_19_0, eo_1_0, eo_1_1, eo_0_2, eo_0_3, v2_4, ev_ki, ev_kv, v2_3, eo_56i, e20, e21, Int.add_zero, Int.add_sub_cancel, Int.reduceAdd, Int.reduceMul, Int.reduceSub, Int.reduceNeg, ev_wr_id]) | ((first | with_reducible refine br_40 ?_ ?_ | with_reducible refine br_41 ?_ ?_ | with_reducible refine br_42 ?_ ?_ | with_reducible refine br_43 ?_ ?_ | with_reducible refine br_44 ?_ ?_ | with_reducible refine br_45 ?_ ?_ | with_reducible refine br_46 ?_ ?_ | with_reducible refine br_47 ?_ ?_ | with_reducible refine br_48 ?_ ?_ | with_reducible refine br_49 ?_ ?_ | with_reducible refine br_50 ?_ ?_ | with_reducible refine br_51 ?_ ?_) <;> intro h <;> try simp (disch := first | assumption | exact Nat.le_of_ble_eq_true rfl | omega) only [ev_wr_id, not_true_eq_false, not_false_eq_true, Int.reduceEq, Int.reduceLT, Int.reduceLE, and_self, and_true, true_and, and_false, false_and, reduceIte] at h <;> try (exfalso; omega; done)))
    rfl
  · rw [hg q h0 h1]
    have h9 := hp.1.1
    exact ev_sf_congr _ (by omega) (fun c h0 h1 => ⟨hf c h0 h1, rfl⟩) q
theorem ev_ra_0 {σ : ev_M} {s b c : Int} (hp : ev_pk σ s b) (h0 : 0 ≤ c) (h1 : c < σ (s + 11) b) : ev_ra σ s b 0 c = σ (s + 13) (b * 6 + c) := by
  obtain ⟨q1, q2, q3, q4⟩ := hp.2 c h0 h1
  unfold ev_ra
  rw [Int.zero_mul]
  split <;> omega
/-- the true rating of a bridge of a state -/
def ev_rt (σ : ev_M) (s b : Int) : Int := ev_tr (fun c => σ (s + 13) (b * 6 + c)) (fun c => σ (s + 16) (b * 6 + c)) (σ (s + 11) b)
theorem c_18 {s b : Int} {σ : ev_M} (hs : ev_S s) (hb : 0 ≤ b ∧ b < 6) (hp : ev_pk σ s b) : ∃ f g, EM 18 [.inr (.inl 170), .inr (.inl (s + 6)), .inl b] σ = some (some (.inl (ev_rt σ s b)), ev_fr σ f g) ∧ (∀ o, 0 ≤ o → o < σ (s + 11) b → f o = σ (s + 13) (b * 6 + o)) ∧ ∀ q, 0 ≤ q → q < σ (s + 11) b → g q = ev_sf (fun c => σ (s + 13) (b * 6 + c)) (fun c => σ (s + 16) (b * 6 + c)) (σ (s + 11) b) (σ (s + 11) b).toNat q := by
  have hs2 := hs
  unfold ev_S at hs2
  obtain ⟨f, e20, hf⟩ := c_20 (y := 0) hs hb hp (by omega)
  have h11 : ∀ z, ev_ua σ 171 f (s + 11) z = σ (s + 11) z := fun z => ev_ua_ne (by omega)
  have h16 : ∀ z, ev_ua σ 171 f (s + 16) z = σ (s + 16) z := fun z => ev_ua_ne (by omega)
  have h171 : ev_ua σ 171 f 171 = f := by funext z; exact ev_ua_eq
  have hf2 : ∀ o, 0 ≤ o → o < σ (s + 11) b → f o = σ (s + 13) (b * 6 + o) := fun o h0 h1 => (hf o h0 h1).trans (ev_ra_0 hp h0 h1)
  obtain ⟨g, e21, hg⟩ := c_21 (σ := ev_ua σ 171 f) (re := fun c => σ (s + 16) (b * 6 + c)) hs hb (by rw [h11]; exact hp.1) (by
    rw [h11, h171]
    intro c h0 h1
    rw [hf2 c h0 h1]
    exact (hp.2 c h0 h1).1) (by
    rw [h11]
    intro c h0 h1
    exact ⟨h16 _, (hp.2 c h0 h1).2.2.2⟩)
  rw [h11, h171] at e21 hg
  have ht : ev_tr f (fun c => σ (s + 16) (b * 6 + c)) (σ (s + 11) b) = ev_rt σ s b := ev_tr_congr hp.1.1 (fun c h0 h1 => ⟨hf2 c h0 h1, rfl⟩)
  rw [ht] at e21
  refine ⟨f, g, ?_, hf2, fun q h0 h1 => ?_⟩
  · rw [mm_18]
    repeat' (first | (simp (disch := first | assumption | exact Nat.le_of_ble_eq_true rfl | omega) only [bk_18_0, eo_1_0, eo_1_1, eo_0_2, eo_6, v2_4, ev_ki, ev_kv, v2_3, eo_56i, e20, e21, Int.add_zero, Int.add_sub_cancel, Int.reduceAdd, Int.reduceMul, Int.reduceSub, Int.reduceNeg, ev_wr_id]) | ((first | with_reducible refine br_40 ?_ ?_ | with_reducible refine br_41 ?_ ?_ | with_reducible refine br_42 ?_ ?_ | with_reducible refine br_43 ?_ ?_ | with_reducible refine br_44 ?_ ?_ | with_reducible refine br_45 ?_ ?_ | with_reducible refine br_46 ?_ ?_ | with_reducible refine br_47 ?_ ?_ | with_reducible refine br_48 ?_ ?_ | with_reducible refine br_49 ?_ ?_ | with_reducible refine br_50 ?_ ?_ | with_reducible refine br_51 ?_ ?_) <;> intro h <;> try simp (disch := first | assumption | exact Nat.le_of_ble_eq_true rfl | omega) only [ev_wr_id, not_true_eq_false, not_false_eq_true, Int.reduceEq, Int.reduceLT, Int.reduceLE, and_self, and_true, true_and, and_false, false_and, reduceIte] at h <;> try (exfalso; omega; done)))
    rfl
  · rw [hg q h0 h1]
    have h9 := hp.1.1
    exact ev_sf_congr _ (by omega) (fun c h0 h1 => ⟨hf2 c h0 h1, rfl⟩) q

