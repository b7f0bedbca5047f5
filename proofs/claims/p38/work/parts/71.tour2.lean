/-! the round: the class's side -/
theorem st_run_e {k : Nat} {T : Int → Int} {x h m c : Int} {G O : Int → Int} (hG : st_Gs T 12 (-1) x = G) (hc : st_nb T G = c) (hs : c = -1 ∨ h < st_nd T G c) : st_run (k + 1) T x h m O = (T, m, O) := by
  subst hG
  subst hc
  unfold st_run
  rw [if_pos hs]
theorem st_run_s {k : Nat} {T : Int → Int} {x h m c : Int} {G O : Int → Int} (hG : st_Gs T 12 (-1) x = G) (hc : st_nb T G = c) (hs : ¬ (c = -1 ∨ h < st_nd T G c)) : st_run (k + 1) T x h m O = st_run k (st_look T c) (st_sn T G c) (h - st_nd T G c) (m + 1) (ev_u1 O m c) := by
  subst hG
  subst hc
  rw [st_run, if_neg hs]
theorem st_run_in : ∀ (k : Nat) (T : Int → Int) (x h m : Int) (O : Int → Int), m ≤ (st_run k T x h m O).2.1 ∧ (st_run k T x h m O).2.1 ≤ m + k := by
  intro k
  induction k with
  | zero =>
    intro T x h m O
    show m ≤ m ∧ m ≤ m + ((0 : Nat) : Int)
    omega
  | succ k ih =>
    intro T x h m O
    by_cases hs : st_nb T (st_Gs T 12 (-1) x) = -1 ∨ h < st_nd T (st_Gs T 12 (-1) x) (st_nb T (st_Gs T 12 (-1) x))
    · rw [st_run_e rfl rfl hs]
      show m ≤ m ∧ m ≤ m + ((k + 1 : Nat) : Int)
      omega
    · rw [st_run_s rfl rfl hs]
      have := ih (st_look T (st_nb T (st_Gs T 12 (-1) x))) (st_sn T (st_Gs T 12 (-1) x) (st_nb T (st_Gs T 12 (-1) x))) (h - st_nd T (st_Gs T 12 (-1) x) (st_nb T (st_Gs T 12 (-1) x))) (m + 1) (ev_u1 O m (st_nb T (st_Gs T 12 (-1) x)))
      omega
theorem l_57 {s st hr : Int} (hs : ev_S s) : ∀ (k : Nat) (T : Int → Int) (x h m : Int) (O : Int → Int) (σ : ev_M) (p8 p9 p10 : Option ev_V), 0 ≤ m → m + k = 6 → st_E (st_T σ s) T → st_I T → (0 ≤ x ∧ x < T 0) → (0 ≤ h ∧ h ≤ 200) → σ 177 0 = m → (∀ j, 0 ≤ j → j < m → σ 178 j = O j) → ∃ σ1, EB 57 1 [some (.inr (.inl 177)), some (.inr (.inl s)), some (.inr (.inl 173)), some (.inr (.inl 170)), some (.inl st), some (.inl hr), some (.inl x), some (.inl h), p8, p9, p10] [] σ = some (none, σ1) ∧ (∀ i, (i < s ∨ s + 22 < i) → i ≠ 171 → i ≠ 172 → i ≠ 174 → i ≠ 177 → i ≠ 178 → σ1 i = σ i) ∧ st_E (st_T σ1 s) (st_run k T x h m O).1 ∧ st_I (st_run k T x h m O).1 ∧ σ1 177 0 = (st_run k T x h m O).2.1 ∧ ∀ j, 0 ≤ j → j < (st_run k T x h m O).2.1 → σ1 178 j = (st_run k T x h m O).2.2 j := by
  have hsb := ev_S_in hs
  intro k
  induction k with
  | zero =>
    intro T x h m O σ p8 p9 p10 hm0 hm hE hI hx hh h177 h178
    refine ⟨σ, ?_, fun i _ _ _ _ _ _ => rfl, hE, hI, h177, h178⟩
    have h6 : σ 177 0 = 6 := by omega
    clear hE hI h178
    rw [bk_57_1]
    repeat' (first | (simp (disch := first | assumption | exact Nat.le_of_ble_eq_true rfl | omega) only [bk_57_0, eo_0_4, eo_3_6n, eo_3_6i, eo_3_6r, eo_0_5, eo_3_7n, eo_3_7i, eo_3_7r, eo_1_0, eo_6, g8_30, eo_53, g8_27, eo_1_2, eo_1_1, eo_0_6, v9_5, ev_ki, ev_kv, eo_60_2, eo_3_8n, eo_3_8i, eo_3_8r, eo_0_8, eo_58, bk_57_2, eo_60_3, eo_3_9n, eo_3_9i, eo_3_9r, g9_28_0, eo_0_9, eo_60_1, eo_10, eo_3_10n, eo_3_10i, eo_3_10r, eo_0_10, eo_0_7, bk_57_3, eo_11, eo_1_3, g7_28_1, v2_3, v7_3, g8_28_1, eo_24i, eo_24r, eo_52, bk_57_4, a32_174, a33_174, a32_178, a33_178, h6, Int.add_zero, Int.add_sub_cancel, Int.reduceAdd, Int.reduceMul, Int.reduceSub, Int.reduceNeg, ev_wr_id]) | ((first | with_reducible refine br_40 ?_ ?_ | with_reducible refine br_41 ?_ ?_ | with_reducible refine br_42 ?_ ?_ | with_reducible refine br_43 ?_ ?_ | with_reducible refine br_44 ?_ ?_ | with_reducible refine br_45 ?_ ?_ | with_reducible refine br_46 ?_ ?_ | with_reducible refine br_47 ?_ ?_ | with_reducible refine br_48 ?_ ?_ | with_reducible refine br_49 ?_ ?_ | with_reducible refine br_50 ?_ ?_ | with_reducible refine br_51 ?_ ?_) <;> intro h <;> try simp (disch := first | assumption | exact Nat.le_of_ble_eq_true rfl | omega) only [ev_wr_id, not_true_eq_false, not_false_eq_true, Int.reduceEq, Int.reduceLT, Int.reduceLE, and_self, and_true, true_and, and_false, false_and, reduceIte] at h <;> try (exfalso; omega; done)))
  | succ k ih =>
    intro T x h m O σ p8 p9 p10 hm0 hm hE hI hx hh h177 h178
    have i0 := hI.1.1
    have i2 := hI.1.2.2.1
    obtain ⟨G, hGq⟩ : ∃ G, G = st_Gs T 12 (-1) x := ⟨_, rfl⟩
    have hsp : st_sp T 12 (-1) x G := by rw [hGq]; exact st_Gs_sp hI hx (by omega) (by omega)
    obtain ⟨F, e62, hF⟩ := c_62 (σ := σ) (s := s) (fr := x) (w := 12) (o := -1) (T := T) (G := G) hs hE hI hx (by omega) (by omega) hsp
    obtain ⟨σF, dF⟩ : ∃ z, z = ev_ua σ 174 F := ⟨_, rfl⟩
    rw [← dF] at e62
    have hEF : st_E (st_T σF s) T := st_E_t (st_T_congr (fun o q0 q1 => by rw [dF]; exact ev_ua_row (by omega))) hE
    have hGF : ∀ y, 0 ≤ y → y < 10 → σF 174 y = G y ∧ 0 ≤ G y ∧ G y ≤ 1000000 := fun y y0 y1 => by
      have := hsp.2.1 y y0 y1
      rw [dF, ev_ua_eq, hF y y0 y1]
      omega
    obtain ⟨e58, hnp⟩ := c_58 (σ := σF) (s := s) (T := T) (G := G) hs hEF hI hGF
    obtain ⟨c, hc⟩ : ∃ c, c = st_nb T G := ⟨_, rfl⟩
    rw [← hc] at e58 hnp
    have hm6 : 0 ≤ m ∧ m < 6 := by omega
    by_cases c1 : c = -1
    · rw [st_run_e hGq.symm hc.symm (Or.inl c1)]
      refine ⟨σF, ?_, fun i _ _ _ h _ _ => by rw [dF]; exact ev_ua_row h, hEF, hI, by rw [dF, ev_ua_ne (by omega)]; exact h177, fun j h0 h1 => by rw [dF, ev_ua_ne (by omega)]; exact h178 j h0 h1⟩
      rw [c1] at e58
      clear hE hI h178 hsp hF hEF hGF hnp ih hc dF hGq
      rw [bk_57_1]
      repeat' (first | (simp (disch := first | assumption | exact Nat.le_of_ble_eq_true rfl | omega) only [bk_57_0, eo_0_4, eo_3_6n, eo_3_6i, eo_3_6r, eo_0_5, eo_3_7n, eo_3_7i, eo_3_7r, eo_1_0, eo_6, g8_30, eo_53, g8_27, eo_1_2, eo_1_1, eo_0_6, v9_5, ev_ki, ev_kv, eo_60_2, eo_3_8n, eo_3_8i, eo_3_8r, eo_0_8, eo_58, bk_57_2, eo_60_3, eo_3_9n, eo_3_9i, eo_3_9r, g9_28_0, eo_0_9, eo_60_1, eo_10, eo_3_10n, eo_3_10i, eo_3_10r, eo_0_10, eo_0_7, bk_57_3, eo_11, eo_1_3, g7_28_1, v2_3, v7_3, g8_28_1, eo_24i, eo_24r, eo_52, bk_57_4, a32_174, a33_174, a32_178, a33_178, h177, e62, e58, Int.add_zero, Int.add_sub_cancel, Int.reduceAdd, Int.reduceMul, Int.reduceSub, Int.reduceNeg, ev_wr_id]) | ((first | with_reducible refine br_40 ?_ ?_ | with_reducible refine br_41 ?_ ?_ | with_reducible refine br_42 ?_ ?_ | with_reducible refine br_43 ?_ ?_ | with_reducible refine br_44 ?_ ?_ | with_reducible refine br_45 ?_ ?_ | with_reducible refine br_46 ?_ ?_ | with_reducible refine br_47 ?_ ?_ | with_reducible refine br_48 ?_ ?_ | with_reducible refine br_49 ?_ ?_ | with_reducible refine br_50 ?_ ?_ | with_reducible refine br_51 ?_ ?_) <;> intro h <;> try simp (disch := first | assumption | exact Nat.le_of_ble_eq_true rfl | omega) only [ev_wr_id, not_true_eq_false, not_false_eq_true, Int.reduceEq, Int.reduceLT, Int.reduceLE, and_self, and_true, true_and, and_false, false_and, reduceIte] at h <;> try (exfalso; omega; done)))
    · have hcb : st_cb T G c := by
        rcases hnp with q | q
        · exact absurd q.1 c1
        · exact q.1.1
      have e59 := c_59 hs hEF hI hcb.1 hGF
      have hsn := st_sn_in (G := G) hI hcb.1
      obtain ⟨z, hz⟩ : ∃ z, z = st_sn T G c := ⟨_, rfl⟩
      have hGz := hcb.2.2
      rw [← hz] at e59 hsn hGz
      have gz := hGF z hsn.1 (by omega)
      have gze := gz.1
      have e60 := c_60 (σ := σF) (f := G z) (by omega)
      obtain ⟨n, hn⟩ : ∃ n, n = st_nd T G c := ⟨_, rfl⟩
      have hnn : (G z + 10 - 1) / 10 + 4 = n := by rw [hn, hz]; rfl
      have hnr : 4 ≤ n ∧ n ≤ 200000 := by omega
      obtain ⟨d, hd⟩ : ∃ d, d = (G z + 10 - 1) / 10 := ⟨_, rfl⟩
      rw [← hd] at e60 hnn
      have hz10 : 0 ≤ z ∧ z < 10 := by omega
      have hc6 : 0 ≤ c ∧ c < 6 := by
        have := hcb.1
        omega
      by_cases c2 : h < n
      · rw [st_run_e hGq.symm hc.symm (Or.inr (by rw [← hn]; exact c2))]
        refine ⟨σF, ?_, fun i _ _ _ h _ _ => by rw [dF]; exact ev_ua_row h, hEF, hI, by rw [dF, ev_ua_ne (by omega)]; exact h177, fun j h0 h1 => by rw [dF, ev_ua_ne (by omega)]; exact h178 j h0 h1⟩
        clear hE hI h178 hsp hF hEF hGF hnp ih hc dF hGq hcb hz hn hd
        rw [bk_57_1]
        repeat' (first | (simp (disch := first | assumption | exact Nat.le_of_ble_eq_true rfl | omega) only [bk_57_0, eo_0_4, eo_3_6n, eo_3_6i, eo_3_6r, eo_0_5, eo_3_7n, eo_3_7i, eo_3_7r, eo_1_0, eo_6, g8_30, eo_53, g8_27, eo_1_2, eo_1_1, eo_0_6, v9_5, ev_ki, ev_kv, eo_60_2, eo_3_8n, eo_3_8i, eo_3_8r, eo_0_8, eo_58, bk_57_2, eo_60_3, eo_3_9n, eo_3_9i, eo_3_9r, g9_28_0, eo_0_9, eo_60_1, eo_10, eo_3_10n, eo_3_10i, eo_3_10r, eo_0_10, eo_0_7, bk_57_3, eo_11, eo_1_3, g7_28_1, v2_3, v7_3, g8_28_1, eo_24i, eo_24r, eo_52, bk_57_4, a32_174, a33_174, a32_178, a33_178, h177, e62, e58, e59, gze, e60, hnn, Int.add_zero, Int.add_sub_cancel, Int.reduceAdd, Int.reduceMul, Int.reduceSub, Int.reduceNeg, ev_wr_id]) | ((first | with_reducible refine br_40 ?_ ?_ | with_reducible refine br_41 ?_ ?_ | with_reducible refine br_42 ?_ ?_ | with_reducible refine br_43 ?_ ?_ | with_reducible refine br_44 ?_ ?_ | with_reducible refine br_45 ?_ ?_ | with_reducible refine br_46 ?_ ?_ | with_reducible refine br_47 ?_ ?_ | with_reducible refine br_48 ?_ ?_ | with_reducible refine br_49 ?_ ?_ | with_reducible refine br_50 ?_ ?_ | with_reducible refine br_51 ?_ ?_) <;> intro h <;> try simp (disch := first | assumption | exact Nat.le_of_ble_eq_true rfl | omega) only [ev_wr_id, not_true_eq_false, not_false_eq_true, Int.reduceEq, Int.reduceLT, Int.reduceLE, and_self, and_true, true_and, and_false, false_and, reduceIte] at h <;> try (exfalso; omega; done)))
      · rw [st_run_s hGq.symm hc.symm (by rw [← hn]; omega), ← hz, ← hn]
        obtain ⟨f, g, e18⟩ := c_18s hs hEF hI hcb.1
        obtain ⟨σr, dr⟩ : ∃ z, z = ev_fr σF f g := ⟨_, rfl⟩
        rw [← dr] at e18
        have hr2 : ∀ i, i ≠ 171 → i ≠ 172 → σr i = σF i := fun i h0 h1 => by rw [dr]; exact ev_fr_row ⟨h0, h1⟩
        have hEr : st_E (st_T σr s) T := st_E_t (st_T_congr (fun o q0 q1 => hr2 _ (by omega) (by omega))) hEF
        obtain ⟨σ1, d1⟩ : ∃ z, z = ev_up (ev_up (ev_up (ev_up σr (s + 8) c (st_rt T c)) (s + 9) c (σr s 3)) s 4 (σr s 4 + 1)) s 5 (σr s 5 + (5 + σr (s + 11) c)) := ⟨_, rfl⟩
        have e51 := c_51 (σ := σr) (s := s) (b := c) (v := st_rt T c) hs hc6
        rw [← d1] at e51
        have q3 : σr s 3 = T 5 := by rw [tr_n5 (σ := σr) (s := s), hEr _ (by omega) (by omega)]
        have q4 : σr s 4 = T 6 := by rw [tr_n6 (σ := σr) (s := s), hEr _ (by omega) (by omega)]
        have q5 : σr s 5 = T 7 := by rw [tr_n7 (σ := σr) (s := s), hEr _ (by omega) (by omega)]
        have q11 : σr (s + 11) c = T (89 + 5 * c + 1) := by rw [tr_11 (σ := σr) (s := s) hc6, hEr _ (by omega) (by omega)]
        have h1f : ∀ i, (i < s ∨ s + 22 < i) → σ1 i = σr i := fun i hi => by rw [d1]; funext y; simp (disch := omega) only [ev_up_ne]
        have hE1 : st_E (st_T σ1 s) (st_look T c) := by
          rw [d1, q3, q4, q5, q11]
          exact st_E_t tw_n7 (st_E_u (st_E_t tw_n6 (st_E_u (st_E_t (tw_9 hc6) (st_E_u (st_E_t (tw_8 hc6) (st_E_u hEr)))))))
        have w177 : σ1 177 0 = m := by rw [h1f 177 (by omega), hr2 177 (by omega) (by omega), dF, ev_ua_ne (by omega)]; exact h177
        have w178 : σ1 178 = σ 178 := by rw [h1f 178 (by omega), hr2 178 (by omega) (by omega), dF, ev_ua_row (by omega)]
        obtain ⟨σ2, d2⟩ : ∃ z, z = ev_up (ev_up σ1 178 m c) 177 0 (m + 1) := ⟨_, rfl⟩
        have hE2 : st_E (st_T σ2 s) (st_look T c) := st_E_t (st_T_congr (fun o q0 q1 => by rw [d2]; funext y; simp (disch := omega) only [ev_up_ne])) hE1
        obtain ⟨σ3, e, k1, k2, k3, k4, k5⟩ := ih (st_look T c) z (h - n) (m + 1) (ev_u1 O m c) σ2 (some (.inl c)) (some (.inl z)) (some (.inl n)) (by omega) (by omega) hE2 (st_look_I hI hcb.1) (by rw [st_look_ne hc6.1 (by omega)]; exact hsn) (by omega) (by rw [d2, ev_up_eq ⟨rfl, rfl⟩]) (fun j h0 h1 => by
          rw [d2, ev_up_ne (by omega)]
          by_cases x : j = m
          · rw [ev_up_eq ⟨rfl, x⟩, ev_u1_eq x]
          · rw [ev_up_ne (by omega), ev_u1_ne x, w178]
            exact h178 j h0 (by omega))
        refine ⟨σ3, ?_, fun i h0 h1 h2 h3 h4 h5 => ?_, k2, k3, k4, k5⟩
        · rw [← e]
          have d2s := d2.symm
          clear hE hI h178 hsp hF hEF hGF hnp ih hc dF hGq hcb hz hn hd e k1 k2 k3 k4 k5 hE1 hE2 hEr h1f hr2 d1 dr d2 w178
          rw [bk_57_1]
          repeat' (first | (simp (disch := first | assumption | exact Nat.le_of_ble_eq_true rfl | omega) only [bk_57_0, eo_0_4, eo_3_6n, eo_3_6i, eo_3_6r, eo_0_5, eo_3_7n, eo_3_7i, eo_3_7r, eo_1_0, eo_6, g8_30, eo_53, g8_27, eo_1_2, eo_1_1, eo_0_6, v9_5, ev_ki, ev_kv, eo_60_2, eo_3_8n, eo_3_8i, eo_3_8r, eo_0_8, eo_58, bk_57_2, eo_60_3, eo_3_9n, eo_3_9i, eo_3_9r, g9_28_0, eo_0_9, eo_60_1, eo_10, eo_3_10n, eo_3_10i, eo_3_10r, eo_0_10, eo_0_7, bk_57_3, eo_11, eo_1_3, g7_28_1, v2_3, v7_3, g8_28_1, eo_24i, eo_24r, eo_52, bk_57_4, a32_174, a33_174, a32_178, a33_178, h177, e62, e58, e59, gze, e60, hnn, e18, e51, w177, ev_up_ne, d2s, Int.add_zero, Int.add_sub_cancel, Int.reduceAdd, Int.reduceMul, Int.reduceSub, Int.reduceNeg, ev_wr_id]) | ((first | with_reducible refine br_40 ?_ ?_ | with_reducible refine br_41 ?_ ?_ | with_reducible refine br_42 ?_ ?_ | with_reducible refine br_43 ?_ ?_ | with_reducible refine br_44 ?_ ?_ | with_reducible refine br_45 ?_ ?_ | with_reducible refine br_46 ?_ ?_ | with_reducible refine br_47 ?_ ?_ | with_reducible refine br_48 ?_ ?_ | with_reducible refine br_49 ?_ ?_ | with_reducible refine br_50 ?_ ?_ | with_reducible refine br_51 ?_ ?_) <;> intro h <;> try simp (disch := first | assumption | exact Nat.le_of_ble_eq_true rfl | omega) only [ev_wr_id, not_true_eq_false, not_false_eq_true, Int.reduceEq, Int.reduceLT, Int.reduceLE, and_self, and_true, true_and, and_false, false_and, reduceIte] at h <;> try (exfalso; omega; done)))
        · rw [k1 i h0 h1 h2 h3 h4 h5, d2]
          rw [show ev_up (ev_up σ1 178 m c) 177 0 (m + 1) i = σ1 i from by funext y; simp (disch := omega) only [ev_up_ne], h1f i h0, hr2 i h1 h2, dF, ev_ua_row h3]
theorem c_57 {σ : ev_M} {s x h : Int} {T : Int → Int} (hs : ev_S s) (hE : st_E (st_T σ s) T) (hI : st_I T) (hx : 0 ≤ x ∧ x < T 0) (hh : 0 ≤ h ∧ h ≤ 200) : ∃ σ1, EM 57 [.inr (.inl 177), .inr (.inl s), .inr (.inl 173), .inr (.inl 170), .inl x, .inl h] σ = some (none, σ1) ∧ (∀ i, (i < s ∨ s + 22 < i) → i ≠ 171 → i ≠ 172 → i ≠ 174 → i ≠ 177 → i ≠ 178 → σ1 i = σ i) ∧ st_E (st_T σ1 s) (st_run 6 T x h 0 (fun _ => -1)).1 ∧ st_I (st_run 6 T x h 0 (fun _ => -1)).1 ∧ σ1 177 0 = (st_run 6 T x h 0 (fun _ => -1)).2.1 ∧ ∀ j, 0 ≤ j → j < (st_run 6 T x h 0 (fun _ => -1)).2.1 → σ1 178 j = (st_run 6 T x h 0 (fun _ => -1)).2.2 j := by
  have hsb := ev_S_in hs
  obtain ⟨σ1, e, k1, k2⟩ := l_57 (st := x) (hr := h) hs 6 T x h 0 (fun _ => -1) (ev_up σ 177 0 0) none none none (by omega) (by omega) (st_E_t (st_T_congr (fun o q0 q1 => by funext y; simp (disch := omega) only [ev_up_ne])) hE) hI hx hh (ev_up_eq ⟨rfl, rfl⟩) (fun j h0 h1 => by omega)
  refine ⟨σ1, ?_, fun i h0 h1 h2 h3 h4 h5 => by rw [k1 i h0 h1 h2 h3 h4 h5]; funext y; exact ev_up_ne (by omega), k2⟩
  rw [mm_57]
  repeat' (first | (simp (disch := first | assumption | exact Nat.le_of_ble_eq_true rfl | omega) only [bk_57_0, eo_0_4, eo_3_6n, eo_3_6i, eo_3_6r, eo_0_5, eo_3_7n, eo_3_7i, eo_3_7r, eo_1_0, eo_6, g8_30, eo_53, g8_27, eo_1_2, eo_1_1, eo_0_6, v9_5, ev_ki, ev_kv, eo_60_2, eo_3_8n, eo_3_8i, eo_3_8r, eo_0_8, eo_58, bk_57_2, eo_60_3, eo_3_9n, eo_3_9i, eo_3_9r, g9_28_0, eo_0_9, eo_60_1, eo_10, eo_3_10n, eo_3_10i, eo_3_10r, eo_0_10, eo_0_7, bk_57_3, eo_11, eo_1_3, g7_28_1, v2_3, v7_3, g8_28_1, eo_24i, eo_24r, eo_52, bk_57_4, a32_174, a33_174, a32_178, a33_178, Int.add_zero, Int.add_sub_cancel, Int.reduceAdd, Int.reduceMul, Int.reduceSub, Int.reduceNeg, ev_wr_id]) | ((first | with_reducible refine br_40 ?_ ?_ | with_reducible refine br_41 ?_ ?_ | with_reducible refine br_42 ?_ ?_ | with_reducible refine br_43 ?_ ?_ | with_reducible refine br_44 ?_ ?_ | with_reducible refine br_45 ?_ ?_ | with_reducible refine br_46 ?_ ?_ | with_reducible refine br_47 ?_ ?_ | with_reducible refine br_48 ?_ ?_ | with_reducible refine br_49 ?_ ?_ | with_reducible refine br_50 ?_ ?_ | with_reducible refine br_51 ?_ ?_) <;> intro h <;> try simp (disch := first | assumption | exact Nat.le_of_ble_eq_true rfl | omega) only [ev_wr_id, not_true_eq_false, not_false_eq_true, Int.reduceEq, Int.reduceLT, Int.reduceLE, and_self, and_true, true_and, and_false, false_and, reduceIte] at h <;> try (exfalso; omega; done)))
  exact e

