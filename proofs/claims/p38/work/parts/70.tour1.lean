/-! the round: the nearest of what is due -/
noncomputable def st_Gs (T : Int → Int) (w o s : Int) : Int → Int := Classical.epsilon (fun G => st_sp T w o s G)
def st_mm (T : Int → Int) : ev_M := fun a z => if a = 184 then ev_ps z else T z
theorem st_mm_3 {T : Int → Int} : st_mm T 183 = T := funext fun _ => if_neg (by decide)
theorem st_mm_4 {T : Int → Int} {r : Int} : st_mm T 184 r = ev_ps r := if_pos rfl
def st_lw (T : Int → Int) (r : Int) : Int := if T (9 + 4 * r + 1) < T (9 + 4 * r) then T (9 + 4 * r + 1) else T (9 + 4 * r)
def st_hg (T : Int → Int) (r : Int) : Int := if T (9 + 4 * r) < T (9 + 4 * r + 1) then T (9 + 4 * r + 1) else T (9 + 4 * r)
def st_sn (T : Int → Int) (G : Int → Int) (b : Int) : Int := if G (st_hg T (T (89 + 5 * b))) < G (st_lw T (T (89 + 5 * b))) then st_hg T (T (89 + 5 * b)) else st_lw T (T (89 + 5 * b))
theorem st_sn_in {T G : Int → Int} {b : Int} (hI : st_I T) (hb : 0 ≤ b ∧ b < T 2) : 0 ≤ st_sn T G b ∧ st_sn T G b < T 0 := by
  have hbb := hI.2.2.1 b hb.1 hb.2
  have g := hI.2.1 _ hbb.1.1 hbb.1.2
  have h1 : 0 ≤ st_lw T (T (89 + 5 * b)) ∧ st_lw T (T (89 + 5 * b)) < T 0 := by
    unfold st_lw
    split <;> omega
  have h2 : 0 ≤ st_hg T (T (89 + 5 * b)) ∧ st_hg T (T (89 + 5 * b)) < T 0 := by
    unfold st_hg
    split <;> omega
  unfold st_sn
  split <;> assumption
theorem c_59 {σ : ev_M} {s b : Int} {T G : Int → Int} (hs : ev_S s) (hE : st_E (st_T σ s) T) (hI : st_I T) (hb : 0 ≤ b ∧ b < T 2) (hG : ∀ y, 0 ≤ y → y < 10 → σ 174 y = G y ∧ 0 ≤ G y ∧ G y ≤ 1000000) : EM 59 [.inr (.inl s), .inr (.inl 173), .inl b] σ = some (some (.inl (st_sn T G b)), σ) := by
  have hbb := hI.2.2.1 b hb.1 hb.2
  have i0 := hI.1.1
  have i1 := hI.1.2.1
  have i2 := hI.1.2.2.1
  have g := hI.2.1 _ hbb.1.1 hbb.1.2
  have e7 : σ (s + 7) b = T (89 + 5 * b) := by rw [tr_7 (σ := σ) (s := s) (by omega), hE _ (by omega) (by omega)]
  obtain ⟨r, hr⟩ : ∃ r, r = T (89 + 5 * b) := ⟨_, rfl⟩
  rw [← hr] at e7 hbb g
  have e2 : σ (s + 2) r = T (9 + 4 * r) := by rw [tr_2 (σ := σ) (s := s) (by omega), hE _ (by omega) (by omega)]
  have e3 : σ (s + 3) r = T (9 + 4 * r + 1) := by rw [tr_3 (σ := σ) (s := s) (by omega), hE _ (by omega) (by omega)]
  obtain ⟨lo, hlo⟩ : ∃ lo, lo = st_lw T r := ⟨_, rfl⟩
  obtain ⟨hi, hhi⟩ : ∃ hi, hi = st_hg T r := ⟨_, rfl⟩
  have q1 : (if T (9 + 4 * r + 1) < T (9 + 4 * r) then T (9 + 4 * r + 1) else T (9 + 4 * r)) = lo := hlo.symm
  have q2 : (if T (9 + 4 * r) < T (9 + 4 * r + 1) then T (9 + 4 * r + 1) else T (9 + 4 * r)) = hi := hhi.symm
  have b1 : 0 ≤ lo ∧ lo < 10 := by
    rw [hlo]
    unfold st_lw
    split <;> omega
  have b2 : 0 ≤ hi ∧ hi < 10 := by
    rw [hhi]
    unfold st_hg
    split <;> omega
  have g1 := hG lo b1.1 b1.2
  have g2 := hG hi b2.1 b2.2
  have k1 := g1.1
  have k2 := g2.1
  unfold st_sn
  rw [← hr, ← hlo, ← hhi]
  have hr20 : 0 ≤ r ∧ r < 20 := by omega
  have hb6 : 0 ≤ b ∧ b < 6 := by omega
  clear hG hlo hhi hr hE
  rw [mm_59]
  by_cases c : G hi < G lo
  · rw [if_pos c]
    repeat' (first | (simp (disch := first | assumption | exact Nat.le_of_ble_eq_true rfl | omega) only [bk_59_0, eo_1_0, g7_28_1, g1_28_1, eo_0_2, eo_3_3n, eo_3_3i, eo_3_3r, g7_28_0, g6_28_2, eo_0_3, g6_28_3, eo_63, eo_3_4n, eo_3_4i, eo_3_4r, eo_62, eo_3_5n, eo_3_5i, eo_3_5r, eo_1_1, g9_28_0, eo_0_5, eo_0_4, eo_52, bk_59_1, eo_53, bk_59_2, eo_56i, a32_s7, a32_s2, a32_s3, a32_174, e7, e2, e3, q1, q2, k1, k2, Int.add_zero, Int.add_sub_cancel, Int.reduceAdd, Int.reduceMul, Int.reduceSub, Int.reduceNeg, ev_wr_id]) | ((first | with_reducible refine br_40 ?_ ?_ | with_reducible refine br_41 ?_ ?_ | with_reducible refine br_42 ?_ ?_ | with_reducible refine br_43 ?_ ?_ | with_reducible refine br_44 ?_ ?_ | with_reducible refine br_45 ?_ ?_ | with_reducible refine br_46 ?_ ?_ | with_reducible refine br_47 ?_ ?_ | with_reducible refine br_48 ?_ ?_ | with_reducible refine br_49 ?_ ?_ | with_reducible refine br_50 ?_ ?_ | with_reducible refine br_51 ?_ ?_) <;> intro h <;> try simp (disch := first | assumption | exact Nat.le_of_ble_eq_true rfl | omega) only [ev_wr_id, not_true_eq_false, not_false_eq_true, Int.reduceEq, Int.reduceLT, Int.reduceLE, and_self, and_true, true_and, and_false, false_and, reduceIte] at h <;> try (exfalso; omega; done)))
  · rw [if_neg c]
    repeat' (first | (simp (disch := first | assumption | exact Nat.le_of_ble_eq_true rfl | omega) only [bk_59_0, eo_1_0, g7_28_1, g1_28_1, eo_0_2, eo_3_3n, eo_3_3i, eo_3_3r, g7_28_0, g6_28_2, eo_0_3, g6_28_3, eo_63, eo_3_4n, eo_3_4i, eo_3_4r, eo_62, eo_3_5n, eo_3_5i, eo_3_5r, eo_1_1, g9_28_0, eo_0_5, eo_0_4, eo_52, bk_59_1, eo_53, bk_59_2, eo_56i, a32_s7, a32_s2, a32_s3, a32_174, e7, e2, e3, q1, q2, k1, k2, Int.add_zero, Int.add_sub_cancel, Int.reduceAdd, Int.reduceMul, Int.reduceSub, Int.reduceNeg, ev_wr_id]) | ((first | with_reducible refine br_40 ?_ ?_ | with_reducible refine br_41 ?_ ?_ | with_reducible refine br_42 ?_ ?_ | with_reducible refine br_43 ?_ ?_ | with_reducible refine br_44 ?_ ?_ | with_reducible refine br_45 ?_ ?_ | with_reducible refine br_46 ?_ ?_ | with_reducible refine br_47 ?_ ?_ | with_reducible refine br_48 ?_ ?_ | with_reducible refine br_49 ?_ ?_ | with_reducible refine br_50 ?_ ?_ | with_reducible refine br_51 ?_ ?_) <;> intro h <;> try simp (disch := first | assumption | exact Nat.le_of_ble_eq_true rfl | omega) only [ev_wr_id, not_true_eq_false, not_false_eq_true, Int.reduceEq, Int.reduceLT, Int.reduceLE, and_self, and_true, true_and, and_false, false_and, reduceIte] at h <;> try (exfalso; omega; done)))
theorem e_49s {σ : ev_M} {s b : Int} {T : Int → Int} (hs : ev_S s) (hE : st_E (st_T σ s) T) (hI : st_I T) (h : 0 ≤ b ∧ b < T 2) : EM 49 [.inr (.inl s), .inl b] σ = some (some (.inl (st_due T b)), σ) := by
  have hbb := hI.2.2.1 b h.1 h.2
  have i2 := hI.1.2.2.1
  have i5 := hI.1.2.2.2.2.2
  have e8 : σ (s + 8) b = T (89 + 5 * b + 2) := by rw [tr_8 (σ := σ) (s := s) (by omega), hE _ (by omega) (by omega)]
  have e9 : σ (s + 9) b = T (89 + 5 * b + 3) := by rw [tr_9 (σ := σ) (s := s) (by omega), hE _ (by omega) (by omega)]
  have e3 : σ s 3 = T 5 := by rw [tr_n5 (σ := σ) (s := s), hE _ (by omega) (by omega)]
  rw [c_49 hs (by omega) (by omega) (by omega) (by omega), e8, e9, e3]
  rfl
def st_cb (T G : Int → Int) (b : Int) : Prop := (0 ≤ b ∧ b < T 2) ∧ st_due T b = 1 ∧ G (st_sn T G b) < 1000000
/-- the nearest below n -/
def st_np (T G : Int → Int) (n c : Int) : Prop := (c = -1 ∧ ∀ b, b < n → ¬ st_cb T G b) ∨ ((st_cb T G c ∧ c < n) ∧ ∀ b, b < n → st_cb T G b → G (st_sn T G c) ≤ G (st_sn T G b) ∧ (b < c → G (st_sn T G c) < G (st_sn T G b)))
theorem st_np_u {T G : Int → Int} {n c d : Int} (h1 : st_np T G n c) (h2 : st_np T G n d) : c = d := by
  rcases h1 with ⟨a1, a2⟩ | ⟨a1, a2⟩
  · rcases h2 with ⟨b1, b2⟩ | ⟨b1, b2⟩
    · omega
    · exact absurd b1.1 (a2 d b1.2)
  · rcases h2 with ⟨b1, b2⟩ | ⟨b1, b2⟩
    · exact absurd a1.1 (b2 c a1.2)
    · have k1 := a2 d b1.2 b1.1
      have k2 := b2 c a1.2 a1.1
      by_cases x : c = d
      · exact x
      · by_cases y : c < d
        · have := k2.2 y
          omega
        · have := k1.2 (by omega)
          omega
noncomputable def st_nb (T G : Int → Int) : Int := Classical.epsilon (fun c => st_np T G (T 2) c)
theorem st_nb_e {T G : Int → Int} {c : Int} (h : st_np T G (T 2) c) : st_nb T G = c := st_np_u (Classical.epsilon_spec (p := fun c => st_np T G (T 2) c) ⟨c, h⟩) h
theorem l_58 {σ : ev_M} {s : Int} {T G : Int → Int} (hs : ev_S s) (hE : st_E (st_T σ s) T) (hI : st_I T) (hG : ∀ y, 0 ≤ y → y < 10 → σ 174 y = G y ∧ 0 ≤ G y ∧ G y ≤ 1000000) : ∀ (k : Nat) (b c d : Int) (p5 : Option ev_V), 0 ≤ b → b + k = T 2 → st_np T G b c → ((c = -1 ∧ d = 1000000) ∨ (c ≠ -1 ∧ d = G (st_sn T G c))) → ∃ c2, EB 58 1 [some (.inr (.inl s)), some (.inr (.inl 173)), some (.inl c), some (.inl d), some (.inl b), p5] [] σ = some (some (.inl c2), σ) ∧ st_np T G (T 2) c2 := by
  have hsb := ev_S_in hs
  have i0 := hI.1.1
  have i2 := hI.1.2.2.1
  have t2 : σ (s + 6) 0 = T 2 := by rw [tr_n2 (σ := σ) (s := s), hE _ (by omega) (by omega)]
  intro k
  induction k with
  | zero =>
    intro b c d p5 h0 h1 hc hd
    obtain rfl : b = T 2 := by omega
    refine ⟨c, ?_, hc⟩
    clear hG hc hd h1
    rw [bk_58_1]
    repeat' (first | (simp (disch := first | assumption | exact Nat.le_of_ble_eq_true rfl | omega) only [bk_58_0, eo_6, eo_3_2n, eo_3_2i, eo_3_2r, eo_7, eo_3_3n, eo_3_3i, eo_3_3r, eo_3_4n, eo_3_4i, eo_3_4r, eo_53, eo_0_4, eo_1_0, g7_28_1, g1_27, eo_1_1, g9_28_0, eo_60_3, ev_ki, ev_kv, eo_3_5n, eo_3_5i, eo_3_5r, v7_2, eo_0_5, eo_0_3, bk_58_2, eo_23_4n, eo_23_4i, eo_23_4r, eo_52, bk_58_3, eo_0_2, eo_56i, a32_174, t2, Int.add_zero, Int.add_sub_cancel, Int.reduceAdd, Int.reduceMul, Int.reduceSub, Int.reduceNeg, ev_wr_id]) | ((first | with_reducible refine br_40 ?_ ?_ | with_reducible refine br_41 ?_ ?_ | with_reducible refine br_42 ?_ ?_ | with_reducible refine br_43 ?_ ?_ | with_reducible refine br_44 ?_ ?_ | with_reducible refine br_45 ?_ ?_ | with_reducible refine br_46 ?_ ?_ | with_reducible refine br_47 ?_ ?_ | with_reducible refine br_48 ?_ ?_ | with_reducible refine br_49 ?_ ?_ | with_reducible refine br_50 ?_ ?_ | with_reducible refine br_51 ?_ ?_) <;> intro h <;> try simp (disch := first | assumption | exact Nat.le_of_ble_eq_true rfl | omega) only [ev_wr_id, not_true_eq_false, not_false_eq_true, Int.reduceEq, Int.reduceLT, Int.reduceLE, and_self, and_true, true_and, and_false, false_and, reduceIte] at h <;> try (exfalso; omega; done)))
  | succ k ih =>
    intro b c d p5 h0 h1 hc hd
    have hb : 0 ≤ b ∧ b < T 2 := by omega
    have e59 := c_59 hs hE hI hb hG
    have e49 := e_49s hs hE hI hb
    have hsn := st_sn_in (G := G) hI hb
    have gs := hG (st_sn T G b) hsn.1 (by omega)
    have gse := gs.1
    have hdr : 0 ≤ d ∧ d ≤ 1000000 := by
      rcases hd with q | ⟨q1, q2⟩
      · omega
      · rcases hc with p | p
        · omega
        · have hsc := st_sn_in (G := G) hI p.1.1.1
          have := hG (st_sn T G c) hsc.1 (by omega)
          omega
    have hdue := st_due_in T b
    obtain ⟨z, hz⟩ : ∃ z, z = st_sn T G b := ⟨_, rfl⟩
    rw [← hz] at e59 hsn gs gse
    obtain ⟨u, hu⟩ : ∃ u, u = st_due T b := ⟨_, rfl⟩
    rw [← hu] at e49 hdue
    have hz10 : 0 ≤ z ∧ z < 10 := by omega
    by_cases c1 : u = 1 ∧ G z < d
    · have hcb : st_cb T G b := ⟨hb, by omega, by rw [← hz]; omega⟩
      have hn : st_np T G (b + 1) b := by
        refine Or.inr ⟨⟨hcb, by omega⟩, fun b2 hb2 hc2 => ?_⟩
        by_cases x : b2 = b
        · rw [x]
          exact ⟨Int.le_refl _, fun h => by omega⟩
        · rcases hc with ⟨p1, p2⟩ | ⟨p1, p2⟩
          · exact absurd hc2 (p2 b2 (by omega))
          · have := (p2 b2 (by omega) hc2).1
            rw [← hz]
            have hc0 := p1.1.1.1
            exact ⟨by omega, fun _ => by omega⟩
      obtain ⟨c2, e, h⟩ := ih (b + 1) b (G z) (some (.inl (G z))) (by omega) (by omega) hn (Or.inr ⟨by omega, by rw [hz]⟩)
      refine ⟨c2, ?_, h⟩
      rw [← e]
      have c2 := c1.1
      have c3 := c1.2
      rw [c2] at e49
      clear e h ih hn hcb hG hc hd hu hz h1 hdue c1
      rw [bk_58_1]
      repeat' (first | (simp (disch := first | assumption | exact Nat.le_of_ble_eq_true rfl | omega) only [bk_58_0, eo_6, eo_3_2n, eo_3_2i, eo_3_2r, eo_7, eo_3_3n, eo_3_3i, eo_3_3r, eo_3_4n, eo_3_4i, eo_3_4r, eo_53, eo_0_4, eo_1_0, g7_28_1, g1_27, eo_1_1, g9_28_0, eo_60_3, ev_ki, ev_kv, eo_3_5n, eo_3_5i, eo_3_5r, v7_2, eo_0_5, eo_0_3, bk_58_2, eo_23_4n, eo_23_4i, eo_23_4r, eo_52, bk_58_3, eo_0_2, eo_56i, a32_174, t2, e59, e49, gse, Int.add_zero, Int.add_sub_cancel, Int.reduceAdd, Int.reduceMul, Int.reduceSub, Int.reduceNeg, ev_wr_id]) | ((first | with_reducible refine br_40 ?_ ?_ | with_reducible refine br_41 ?_ ?_ | with_reducible refine br_42 ?_ ?_ | with_reducible refine br_43 ?_ ?_ | with_reducible refine br_44 ?_ ?_ | with_reducible refine br_45 ?_ ?_ | with_reducible refine br_46 ?_ ?_ | with_reducible refine br_47 ?_ ?_ | with_reducible refine br_48 ?_ ?_ | with_reducible refine br_49 ?_ ?_ | with_reducible refine br_50 ?_ ?_ | with_reducible refine br_51 ?_ ?_) <;> intro h <;> try simp (disch := first | assumption | exact Nat.le_of_ble_eq_true rfl | omega) only [ev_wr_id, not_true_eq_false, not_false_eq_true, Int.reduceEq, Int.reduceLT, Int.reduceLE, and_self, and_true, true_and, and_false, false_and, reduceIte] at h <;> try (exfalso; omega; done)))
    · have hn : st_np T G (b + 1) c := by
        rcases hc with ⟨p1, p2⟩ | ⟨p1, p2⟩
        · refine Or.inl ⟨p1, fun b2 hb2 hc2 => ?_⟩
          by_cases x : b2 = b
          · rw [x] at hc2
            have := hc2.2.2
            have := hc2.2.1
            rw [← hz] at *
            omega
          · exact p2 b2 (by omega) hc2
        · refine Or.inr ⟨⟨p1.1, by omega⟩, fun b2 hb2 hc2 => ?_⟩
          by_cases x : b2 = b
          · rw [x] at hc2 ⊢
            have h7 := hc2.2.1
            have hc0 := p1.1.1.1
            rw [← hz]
            exact ⟨by omega, fun h => by omega⟩
          · exact p2 b2 (by omega) hc2
      obtain ⟨c2, e, h⟩ := ih (b + 1) c d (some (.inl (G z))) (by omega) (by omega) hn hd
      refine ⟨c2, ?_, h⟩
      rw [← e]
      rcases hdue with q | q
      · rw [q] at e49
        clear e h ih hn hG hc hd hu hz h1 c1
        rw [bk_58_1]
        repeat' (first | (simp (disch := first | assumption | exact Nat.le_of_ble_eq_true rfl | omega) only [bk_58_0, eo_6, eo_3_2n, eo_3_2i, eo_3_2r, eo_7, eo_3_3n, eo_3_3i, eo_3_3r, eo_3_4n, eo_3_4i, eo_3_4r, eo_53, eo_0_4, eo_1_0, g7_28_1, g1_27, eo_1_1, g9_28_0, eo_60_3, ev_ki, ev_kv, eo_3_5n, eo_3_5i, eo_3_5r, v7_2, eo_0_5, eo_0_3, bk_58_2, eo_23_4n, eo_23_4i, eo_23_4r, eo_52, bk_58_3, eo_0_2, eo_56i, a32_174, t2, e59, e49, gse, Int.add_zero, Int.add_sub_cancel, Int.reduceAdd, Int.reduceMul, Int.reduceSub, Int.reduceNeg, ev_wr_id]) | ((first | with_reducible refine br_40 ?_ ?_ | with_reducible refine br_41 ?_ ?_ | with_reducible refine br_42 ?_ ?_ | with_reducible refine br_43 ?_ ?_ | with_reducible refine br_44 ?_ ?_ | with_reducible refine br_45 ?_ ?_ | with_reducible refine br_46 ?_ ?_ | with_reducible refine br_47 ?_ ?_ | with_reducible refine br_48 ?_ ?_ | with_reducible refine br_49 ?_ ?_ | with_reducible refine br_50 ?_ ?_ | with_reducible refine br_51 ?_ ?_) <;> intro h <;> try simp (disch := first | assumption | exact Nat.le_of_ble_eq_true rfl | omega) only [ev_wr_id, not_true_eq_false, not_false_eq_true, Int.reduceEq, Int.reduceLT, Int.reduceLE, and_self, and_true, true_and, and_false, false_and, reduceIte] at h <;> try (exfalso; omega; done)))
      · have c3 : ¬ G z < d := fun h => c1 ⟨q, h⟩
        rw [q] at e49
        clear e h ih hn hG hc hd hu hz h1 c1
        rw [bk_58_1]
        repeat' (first | (simp (disch := first | assumption | exact Nat.le_of_ble_eq_true rfl | omega) only [bk_58_0, eo_6, eo_3_2n, eo_3_2i, eo_3_2r, eo_7, eo_3_3n, eo_3_3i, eo_3_3r, eo_3_4n, eo_3_4i, eo_3_4r, eo_53, eo_0_4, eo_1_0, g7_28_1, g1_27, eo_1_1, g9_28_0, eo_60_3, ev_ki, ev_kv, eo_3_5n, eo_3_5i, eo_3_5r, v7_2, eo_0_5, eo_0_3, bk_58_2, eo_23_4n, eo_23_4i, eo_23_4r, eo_52, bk_58_3, eo_0_2, eo_56i, a32_174, t2, e59, e49, gse, Int.add_zero, Int.add_sub_cancel, Int.reduceAdd, Int.reduceMul, Int.reduceSub, Int.reduceNeg, ev_wr_id]) | ((first | with_reducible refine br_40 ?_ ?_ | with_reducible refine br_41 ?_ ?_ | with_reducible refine br_42 ?_ ?_ | with_reducible refine br_43 ?_ ?_ | with_reducible refine br_44 ?_ ?_ | with_reducible refine br_45 ?_ ?_ | with_reducible refine br_46 ?_ ?_ | with_reducible refine br_47 ?_ ?_ | with_reducible refine br_48 ?_ ?_ | with_reducible refine br_49 ?_ ?_ | with_reducible refine br_50 ?_ ?_ | with_reducible refine br_51 ?_ ?_) <;> intro h <;> try simp (disch := first | assumption | exact Nat.le_of_ble_eq_true rfl | omega) only [ev_wr_id, not_true_eq_false, not_false_eq_true, Int.reduceEq, Int.reduceLT, Int.reduceLE, and_self, and_true, true_and, and_false, false_and, reduceIte] at h <;> try (exfalso; omega; done)))
theorem c_58 {σ : ev_M} {s : Int} {T G : Int → Int} (hs : ev_S s) (hE : st_E (st_T σ s) T) (hI : st_I T) (hG : ∀ y, 0 ≤ y → y < 10 → σ 174 y = G y ∧ 0 ≤ G y ∧ G y ≤ 1000000) : EM 58 [.inr (.inl s), .inr (.inl 173)] σ = some (some (.inl (st_nb T G)), σ) ∧ st_np T G (T 2) (st_nb T G) := by
  have i2 := hI.1.2.2.1
  obtain ⟨c, e, h⟩ := l_58 hs hE hI hG (T 2).toNat 0 (-1) 1000000 none (by omega) (by omega) (Or.inl ⟨rfl, fun b hb hc => by have := hc.1.1; omega⟩) (Or.inl ⟨rfl, rfl⟩)
  rw [st_nb_e h]
  refine ⟨?_, h⟩
  rw [mm_58]
  repeat' (first | (simp (disch := first | assumption | exact Nat.le_of_ble_eq_true rfl | omega) only [bk_58_0, eo_6, eo_3_2n, eo_3_2i, eo_3_2r, eo_7, eo_3_3n, eo_3_3i, eo_3_3r, eo_3_4n, eo_3_4i, eo_3_4r, eo_53, eo_0_4, eo_1_0, g7_28_1, g1_27, eo_1_1, g9_28_0, eo_60_3, ev_ki, ev_kv, eo_3_5n, eo_3_5i, eo_3_5r, v7_2, eo_0_5, eo_0_3, bk_58_2, eo_23_4n, eo_23_4i, eo_23_4r, eo_52, bk_58_3, eo_0_2, eo_56i, a32_174, Int.add_zero, Int.add_sub_cancel, Int.reduceAdd, Int.reduceMul, Int.reduceSub, Int.reduceNeg, ev_wr_id]) | ((first | with_reducible refine br_40 ?_ ?_ | with_reducible refine br_41 ?_ ?_ | with_reducible refine br_42 ?_ ?_ | with_reducible refine br_43 ?_ ?_ | with_reducible refine br_44 ?_ ?_ | with_reducible refine br_45 ?_ ?_ | with_reducible refine br_46 ?_ ?_ | with_reducible refine br_47 ?_ ?_ | with_reducible refine br_48 ?_ ?_ | with_reducible refine br_49 ?_ ?_ | with_reducible refine br_50 ?_ ?_ | with_reducible refine br_51 ?_ ?_) <;> intro h <;> try simp (disch := first | assumption | exact Nat.le_of_ble_eq_true rfl | omega) only [ev_wr_id, not_true_eq_false, not_false_eq_true, Int.reduceEq, Int.reduceLT, Int.reduceLE, and_self, and_true, true_and, and_false, false_and, reduceIte] at h <;> try (exfalso; omega; done)))
  exact e
def st_nd (T G : Int → Int) (c : Int) : Int := (G (st_sn T G c) + 10 - 1) / 10 + 4
/-- the round -/
noncomputable def st_run : Nat → (Int → Int) → Int → Int → Int → (Int → Int) → (Int → Int) × Int × (Int → Int)
  | 0, T, _, _, m, O => (T, m, O)
  | k + 1, T, x, h, m, O => if st_nb T (st_Gs T 12 (-1) x) = -1 ∨ h < st_nd T (st_Gs T 12 (-1) x) (st_nb T (st_Gs T 12 (-1) x)) then (T, m, O) else st_run k (st_look T (st_nb T (st_Gs T 12 (-1) x))) (st_sn T (st_Gs T 12 (-1) x) (st_nb T (st_Gs T 12 (-1) x))) (h - st_nd T (st_Gs T 12 (-1) x) (st_nb T (st_Gs T 12 (-1) x))) (m + 1) (ev_u1 O m (st_nb T (st_Gs T 12 (-1) x)))
theorem st_look_I {T : Int → Int} {b : Int} (hI : st_I T) (hb : 0 ≤ b ∧ b < T 2) : st_I (st_look T b) := pi_look hI hb (st_rt_in hI hb) rfl
theorem st_look_ne {T : Int → Int} {b k : Int} (hb : 0 ≤ b) (h : k < 6 ∨ (8 ≤ k ∧ k < 89)) : st_look T b k = T k := by
  unfold st_look
  rw [ev_u1_ne (by omega), ev_u1_ne (by omega), ev_u1_ne (by omega), ev_u1_ne (by omega)]
theorem c_18s {σ : ev_M} {s b : Int} {T : Int → Int} (hs : ev_S s) (hE : st_E (st_T σ s) T) (hI : st_I T) (hb : 0 ≤ b ∧ b < T 2) : ∃ f g, EM 18 [.inr (.inl 170), .inr (.inl (s + 6)), .inl b] σ = some (some (.inl (st_rt T b)), ev_fr σ f g) := by
  have hI2 := st_I_E (st_E_s hE) hI
  have e2 := hE 2 (by omega) (by omega)
  have hb2 : 0 ≤ b ∧ b < st_T σ s 2 := by omega
  have i2 := hI.1.2.2.1
  obtain ⟨f, g, e, -, -⟩ := c_18 hs (by omega) (st_pk hI2 hb2)
  rw [st_rt_s hI2 hb2, st_rt_E hE hI2 hb2] at e
  exact ⟨f, g, e⟩

