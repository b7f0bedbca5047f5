/-! the law's cases -/
def lw_rows : List (Nat × Nat) := [(13, 68), (17, 121), (18, 69), (22, 124), (23, 70), (26, 125), (27, 71), (31, 126), (32, 72), (35, 127), (36, 73), (39, 128), (40, 74), (44, 129), (45, 75), (48, 131), (49, 76), (53, 132), (54, 77), (57, 134), (58, 78), (61, 136), (62, 79), (65, 137), (66, 80), (69, 139), (70, 81), (73, 141), (74, 82), (77, 148), (78, 83), (81, 149), (82, 84), (85, 150), (86, 85), (89, 152), (90, 86), (93, 154), (94, 87), (97, 155), (98, 88), (101, 156), (102, 89), (106, 157), (107, 90), (110, 158), (111, 91), (115, 159), (116, 92), (119, 162), (120, 93), (123, 165), (124, 94), (127, 166), (128, 95), (131, 168), (132, 96), (135, 169), (136, 97), (139, 170), (140, 98), (143, 171), (144, 99), (147, 172), (148, 100), (151, 178), (152, 101), (155, 179), (156, 102), (160, 181)]
def lw_rowp : List Nat := [476, 989, 512, 1004, 524, 1016, 540, 1032, 555, 1048, 568, 1060, 577, 1064, 581, 1068, 625, 1088, 629, 1092, 643, 1104, 647, 1112, 655, 1116, 664, 1124, 672, 1132, 710, 1160, 715, 1164, 727, 1168, 736, 1175, 749, 1183, 753, 1187, 766, 1191, 777, 1195, 785, 1199, 789, 1203, 818, 1215, 835, 1227, 839, 1231, 847, 1239, 857, 1243, 865, 1247, 869, 1251, 873, 1255, 917, 1279, 921, 1284]
def lw_lk (q : Nat × Nat) : Cond := .methodLink R_law q.1 (ev_yn q.2)
theorem lw_rows_p : (lw_rows.zip lw_rowp).all (fun q => decide (lw_tbl[q.2]? = some (lw_lk q.1))) = true := by decide +kernel
theorem lw_rows_ok : ∀ q ∈ lw_rows, lw_lk q ∈ lw_tbl := ev_zip_mem (by decide +kernel) lw_rows_p
theorem lw_link {cp j : Nat} (h : (lw_rows.contains (cp, j)) = true) : Cond.methodLink R_law cp (ev_yn j) ∈ lw_tbl := lw_rows_ok (cp, j) (by simpa using h)
def lw_mk (j own n : Nat) : Bool := decide (j < 182 ∧ ev_sta j = false ∧ ev_na j = n ∧ ev_own j = own) && lw_rck j
def lw_ck (pc n ic im : Nat) : Bool := decide (decode code pc = .ok (.aload_n 1, 1)) && (lw_pas (pc + 1) n && (decide (decode code (pc + 1 + 5 * n) = .ok (.invokevirtual ic, 3)) && (decide (decode code (pc + 1 + 5 * n + 3) = .ok (.aload_n 2, 1)) && (lw_pas (pc + 1 + 5 * n + 3 + 1) n && (decide (decode code (pc + 1 + 5 * n + 3 + 1 + 5 * n) = .ok (.invokevirtual im, 3)) && decide (decode code (pc + 1 + 5 * n + 3 + 1 + 5 * n + 3) = .ok (.if_icmp .eq (1250 - ((pc + 1 + 5 * n + 3 + 1 + 5 * n + 3 : Nat) : Int)), 3)))))))
theorem lw_rg (x : Int32) : -2147483648 ≤ x.toInt ∧ x.toInt ≤ 2147483647 := ⟨Int32.le_toInt x, by have := Int32.toInt_lt x; omega⟩
theorem lw_cls1 : ev_cls 161 = 10 := by decide +kernel
theorem lw_cls2 : ev_cls 182 = 11 := by decide +kernel
section LWC
variable {p : Program} {l : Launch} {e : Env} {s : State} {m : MethodId} {below : List Frame} {meth : Method} {c : Code} {D : va_G} {cI cZ cS : ClassId} {ad : Int → Nat} {b L : Nat} {xs : Nat → Int32} {pc : Nat} {st : List Value} {x : Int32} {σ : ev_M}
/-- two calls of methods that answer an int, and their comparison -/
theorem lw_int (F : lw_F p s m meth c D cI cZ cS ad b L xs) {i n jx jm ic im : Nat} (hi : i + 6 ≤ L) (hn : n ≤ 5) (hck : lw_ck pc n ic im = true) (hx : lw_mk jx 10 n = true) (hm : lw_mk jm 11 n = true) (hr : ev_ret jx = some .int) (h1 : lw_rows.contains (ic, jx) = true) (h2 : lw_rows.contains (im, jm) = true) (hP : st_P jx jm (lw_av xs i n) σ)
    (kk : ∀ σ1, st_J σ1 → lw_S p l e s m below meth c D cI cZ cS ad b 1250 [] (nI i) σ1) : lw_S p l e s m below meth c D cI cZ cS ad b pc [] (nI i) σ := by
  obtain ⟨v, σ1, σ2, e1, e2, hJ⟩ := hP
  unfold lw_ck at hck
  simp only [Bool.and_eq_true, decide_eq_true_eq] at hck
  obtain ⟨d0, d1, d2, d3, d4, d5, d6⟩ := hck
  unfold lw_mk at hx hm
  simp only [Bool.and_eq_true, decide_eq_true_eq] at hx hm
  obtain ⟨⟨x1, x2, x3, x4⟩, x5⟩ := hx
  obtain ⟨⟨m1, m2, m3, m4⟩, m5⟩ := hm
  obtain ⟨y, hy⟩ := (ew_kind ev_chks x1 e1).1 (Or.inl hr)
  cases hy
  refine lw_a1 F d0 (lw_qn F n (by omega) d1 ?_)
  refine lw_call F (o := 161) (rest := []) d2 x1 x2 ((lw_av_len xs i n).trans x3.symm) (lw_link h1) x5 (lw_cls1.trans x4.symm) (by rw [lw_as_av ad]) (by decide) e1 ?_
  refine lw_a2 F d3 (lw_qn F n (by omega) d4 ?_)
  refine lw_call F (o := 182) (rest := [.int (Int32.ofInt y)]) d5 m1 m2 ((lw_av_len xs i n).trans m3.symm) (lw_link h2) m5 (lw_cls2.trans m4.symm) (by rw [lw_as_av ad]; rfl) (by simp [Value.category]) e2 ?_
  intro H locs ls hP hS hl
  exact lv_icmp_eq (tgt := 1250) F.1.1 F.1.2.1 d6 (by omega) (fun _ => kk σ2 hJ H locs ls hP hS hl) (fun h => absurd rfl h)
def lw_bk (pc : Nat) : Bool := decide (decode code pc = .ok (.ifCond .eq 7, 3)) && (decide (decode code (pc + 3) = .ok (.iconst 1, 1)) && (decide (decode code (pc + 4) = .ok (.goto 4, 3)) && decide (decode code (pc + 7) = .ok (.iconst 0, 1))))
theorem lw_bool (F : lw_F p s m meth c D cI cZ cS ad b L xs) {w : Int32} {z : Int} (hz : z = if w = 0 then 0 else 1) (hc : lw_bk pc = true) (kk : lw_S p l e s m below meth c D cI cZ cS ad b (pc + 8) (.int (Int32.ofInt z) :: st) x σ) : lw_S p l e s m below meth c D cI cZ cS ad b pc (.int w :: st) x σ := by
  intro H locs ls hP hS hl
  unfold lw_bk at hc
  simp only [Bool.and_eq_true, decide_eq_true_eq] at hc
  obtain ⟨d0, d1, d2, d3⟩ := hc
  refine lv_if_eq (tgt := pc + 7) F.1.1 F.1.2.1 d0 (by omega) (fun h => ?_) (fun h => ?_)
  · rw [if_pos h] at hz
    subst hz
    exact lv_iconst (v := Int32.ofInt 0) F.1.1 F.1.2.1 d3 rfl (kk H locs ls hP hS hl)
  · rw [if_neg h] at hz
    subst hz
    exact lv_iconst (v := Int32.ofInt 1) F.1.1 F.1.2.1 d1 rfl (lv_goto (tgt := pc + 8) F.1.1 F.1.2.1 d2 (by omega) (kk H locs ls hP hS hl))
def lw_ck6 : Bool := decide (decode code 416 = .ok (.aload_n 1, 1)) && (lw_pas 417 2 && (lw_bk 427 && (decide (decode code 435 = .ok (.invokevirtual 40, 3)) && (decide (decode code 438 = .ok (.aload_n 2, 1)) && (lw_pas 439 2 && (lw_bk 449 && (decide (decode code 457 = .ok (.invokevirtual 44, 3)) && decide (decode code 460 = .ok (.if_icmp .eq 790, 3)))))))))
theorem lw_close (F : lw_F p s m meth c D cI cZ cS ad b L xs) {i jx jm : Nat} {z : Int} (hi : i + 6 ≤ L) (hz : z = if xs (i + 2) = 0 then 0 else 1) (hck : lw_ck6 = true) (hx : lw_mk jx 10 2 = true) (hm : lw_mk jm 11 2 = true) (hr : ev_ret jx = some .int) (h1 : lw_rows.contains (40, jx) = true) (h2 : lw_rows.contains (44, jm) = true) (hP : st_P jx jm [.inl (xs (i + 1)).toInt, .inl z] σ)
    (kk : ∀ σ1, st_J σ1 → lw_S p l e s m below meth c D cI cZ cS ad b 1250 [] (nI i) σ1) : lw_S p l e s m below meth c D cI cZ cS ad b 416 [] (nI i) σ := by
  obtain ⟨v, σ1, σ2, e1, e2, hJ⟩ := hP
  unfold lw_ck6 at hck
  simp only [Bool.and_eq_true, decide_eq_true_eq] at hck
  obtain ⟨d0, d1, b1, d2, d3, d4, b2, d5, d6⟩ := hck
  unfold lw_mk at hx hm
  simp only [Bool.and_eq_true, decide_eq_true_eq] at hx hm
  obtain ⟨⟨x1, x2, x3, x4⟩, x5⟩ := hx
  obtain ⟨⟨m1, m2, m3, m4⟩, m5⟩ := hm
  obtain ⟨y, hy⟩ := (ew_kind ev_chks x1 e1).1 (Or.inl hr)
  cases hy
  have hs : ∀ (st : List Value) (o : Int), Value.int (Int32.ofInt z) :: .int (xs (i + 1)) :: .ref (ad o) :: st = (([.inl (xs (i + 1)).toInt, .inl z] : List ev_V).map (ev_rv ad)).reverse ++ .ref (ad o) :: st := fun st o => by
    simp only [List.map_cons, List.map_nil, ev_rv, ev_oi_ti, List.reverse_cons, List.reverse_nil, List.nil_append, List.singleton_append, List.cons_append]
  refine lw_a1 F d0 (lw_qn F 2 (by omega) d1 ?_)
  refine lw_bool F hz b1 ?_
  refine lw_call F (o := 161) (as := [.inl (xs (i + 1)).toInt, .inl z]) (rest := []) d2 x1 x2 x3.symm (lw_link h1) x5 (lw_cls1.trans x4.symm) (hs [] 161) (by decide) e1 ?_
  refine lw_a2 F d3 (lw_qn F 2 (by omega) d4 ?_)
  refine lw_bool F hz b2 ?_
  refine lw_call F (o := 182) (as := [.inl (xs (i + 1)).toInt, .inl z]) (rest := [.int (Int32.ofInt y)]) d5 m1 m2 m3.symm (lw_link h2) m5 (lw_cls2.trans m4.symm) (hs _ 182) (by simp [Value.category]) e2 ?_
  intro H locs ls hP hS hl
  exact lv_icmp_eq (tgt := 1250) F.1.1 F.1.2.1 d6 (by decide) (fun _ => kk σ2 hJ H locs ls hP hS hl) (fun h => absurd rfl h)
/-- lcmp of two equal longs -/
theorem lw_lcmp (F : lw_F p s m meth c D cI cZ cS ad b L xs) {y : Int64} (hd : decode code pc = .ok (.lcmp, 1)) (kk : lw_S p l e s m below meth c D cI cZ cS ad b (pc + 1) (.int 0 :: st) x σ) : lw_S p l e s m below meth c D cI cZ cS ad b pc (.long y :: .long y :: st) x σ := by
  intro H locs ls hP hS hl T hT X
  obtain ⟨t, a, b⟩ := kk H locs ls hP hS hl T hT X
  have hexec := F.1.1
  have hb := F.1.2.1
  refine ⟨t, ?_, b⟩
  have h1 : ¬ y < y := Int64.lt_irrefl
  jvm_step X.here [X.here.top, hexec, hb, hd, h1]
  exact a
def lw_ck34 : Bool := decide (decode code 1236 = .ok (.aload_n 1, 1)) && (decide (decode code 1237 = .ok (.invokevirtual 156, 3)) && (decide (decode code 1240 = .ok (.aload_n 2, 1)) && (decide (decode code 1241 = .ok (.invokevirtual 160, 3)) && (decide (decode code 1244 = .ok (.lcmp, 1)) && decide (decode code 1245 = .ok (.ifCond .eq 5, 3))))))
theorem lw_digest (F : lw_F p s m meth c D cI cZ cS ad b L xs) {i jx jm : Nat} (hck : lw_ck34 = true) (hx : lw_mk jx 10 0 = true) (hm : lw_mk jm 11 0 = true) (hr : ev_ret jx = some .long) (h1 : lw_rows.contains (156, jx) = true) (h2 : lw_rows.contains (160, jm) = true) (hP : st_P jx jm [] σ)
    (kk : ∀ σ1, st_J σ1 → lw_S p l e s m below meth c D cI cZ cS ad b 1250 [] (nI i) σ1) : lw_S p l e s m below meth c D cI cZ cS ad b 1236 [] (nI i) σ := by
  obtain ⟨v, σ1, σ2, e1, e2, hJ⟩ := hP
  unfold lw_ck34 at hck
  simp only [Bool.and_eq_true, decide_eq_true_eq] at hck
  obtain ⟨d0, d2, d3, d5, d6, d7⟩ := hck
  unfold lw_mk at hx hm
  simp only [Bool.and_eq_true, decide_eq_true_eq] at hx hm
  obtain ⟨⟨x1, x2, x3, x4⟩, x5⟩ := hx
  obtain ⟨⟨m1, m2, m3, m4⟩, m5⟩ := hm
  obtain ⟨y, hy⟩ := (ew_kind ev_chks x1 e1).2 hr
  cases hy
  refine lw_a1 F d0 ?_
  refine lw_call F (o := 161) (as := []) (rest := []) d2 x1 x2 x3.symm (lw_link h1) x5 (lw_cls1.trans x4.symm) rfl (by decide) e1 ?_
  refine lw_a2 F d3 ?_
  refine lw_call F (o := 182) (as := []) (rest := [.long y]) d5 m1 m2 m3.symm (lw_link h2) m5 (lw_cls2.trans m4.symm) rfl (by simp [Value.category]) e2 ?_
  refine lw_lcmp F d6 ?_
  intro H locs ls hP hS hl
  exact lv_if_eq (tgt := 1250) F.1.1 F.1.2.1 d7 (by decide) (fun _ => kk σ2 hJ H locs ls hP hS hl) (fun h => absurd rfl h)

theorem lw_c_0 (F : lw_F p s m meth c D cI cZ cS ad b L xs) {i : Nat} (hi : i + 6 ≤ L) (hJ : st_J σ) (kk : ∀ σ1, st_J σ1 → lw_S p l e s m below meth c D cI cZ cS ad b 1250 [] (nI i) σ1) : lw_S p l e s m below meth c D cI cZ cS ad b 188 [] (nI i) σ := lw_int F (n := 1) (jx := 68) (jm := 121) (ic := 13) (im := 17) hi (by decide) (by decide +kernel) (by decide +kernel) (by decide +kernel) (by decide +kernel) (by decide +kernel) (by decide +kernel) (pr_68 hJ (lw_rg _)) kk
theorem lw_c_1 (F : lw_F p s m meth c D cI cZ cS ad b L xs) {i : Nat} (hi : i + 6 ≤ L) (hJ : st_J σ) (kk : ∀ σ1, st_J σ1 → lw_S p l e s m below meth c D cI cZ cS ad b 1250 [] (nI i) σ1) : lw_S p l e s m below meth c D cI cZ cS ad b 211 [] (nI i) σ := lw_int F (n := 3) (jx := 69) (jm := 124) (ic := 18) (im := 22) hi (by decide) (by decide +kernel) (by decide +kernel) (by decide +kernel) (by decide +kernel) (by decide +kernel) (by decide +kernel) (pr_69 hJ (lw_rg _) (lw_rg _) (lw_rg _)) kk
theorem lw_c_2 (F : lw_F p s m meth c D cI cZ cS ad b L xs) {i : Nat} (hi : i + 6 ≤ L) (hJ : st_J σ) (kk : ∀ σ1, st_J σ1 → lw_S p l e s m below meth c D cI cZ cS ad b 1250 [] (nI i) σ1) : lw_S p l e s m below meth c D cI cZ cS ad b 254 [] (nI i) σ := lw_int F (n := 1) (jx := 70) (jm := 125) (ic := 23) (im := 26) hi (by decide) (by decide +kernel) (by decide +kernel) (by decide +kernel) (by decide +kernel) (by decide +kernel) (by decide +kernel) (pr_70 hJ (lw_rg _)) kk
theorem lw_c_3 (F : lw_F p s m meth c D cI cZ cS ad b L xs) {i : Nat} (hi : i + 6 ≤ L) (hJ : st_J σ) (kk : ∀ σ1, st_J σ1 → lw_S p l e s m below meth c D cI cZ cS ad b 1250 [] (nI i) σ1) : lw_S p l e s m below meth c D cI cZ cS ad b 277 [] (nI i) σ := lw_int F (n := 4) (jx := 71) (jm := 126) (ic := 27) (im := 31) hi (by decide) (by decide +kernel) (by decide +kernel) (by decide +kernel) (by decide +kernel) (by decide +kernel) (by decide +kernel) (pr_71 hJ (lw_rg _) (lw_rg _) (lw_rg _) (lw_rg _)) kk
theorem lw_c_4 (F : lw_F p s m meth c D cI cZ cS ad b L xs) {i : Nat} (hi : i + 6 ≤ L) (hJ : st_J σ) (kk : ∀ σ1, st_J σ1 → lw_S p l e s m below meth c D cI cZ cS ad b 1250 [] (nI i) σ1) : lw_S p l e s m below meth c D cI cZ cS ad b 330 [] (nI i) σ := lw_int F (n := 3) (jx := 72) (jm := 127) (ic := 32) (im := 35) hi (by decide) (by decide +kernel) (by decide +kernel) (by decide +kernel) (by decide +kernel) (by decide +kernel) (by decide +kernel) (pr_72 hJ (lw_rg _) (lw_rg _) (lw_rg _)) kk
theorem lw_c_5 (F : lw_F p s m meth c D cI cZ cS ad b L xs) {i : Nat} (hi : i + 6 ≤ L) (hJ : st_J σ) (kk : ∀ σ1, st_J σ1 → lw_S p l e s m below meth c D cI cZ cS ad b 1250 [] (nI i) σ1) : lw_S p l e s m below meth c D cI cZ cS ad b 373 [] (nI i) σ := lw_int F (n := 3) (jx := 73) (jm := 128) (ic := 36) (im := 39) hi (by decide) (by decide +kernel) (by decide +kernel) (by decide +kernel) (by decide +kernel) (by decide +kernel) (by decide +kernel) (pr_73 hJ (lw_rg _) (lw_rg _) (lw_rg _)) kk
theorem lw_c_6 (F : lw_F p s m meth c D cI cZ cS ad b L xs) {i : Nat} (hi : i + 6 ≤ L) (hJ : st_J σ) (kk : ∀ σ1, st_J σ1 → lw_S p l e s m below meth c D cI cZ cS ad b 1250 [] (nI i) σ1) : lw_S p l e s m below meth c D cI cZ cS ad b 416 [] (nI i) σ := lw_close F (jx := 74) (jm := 129) hi rfl (by decide +kernel) (by decide +kernel) (by decide +kernel) (by decide +kernel) (by decide +kernel) (by decide +kernel) (pr_74 hJ (lw_rg _) (by split <;> simp)) kk
theorem lw_c_7 (F : lw_F p s m meth c D cI cZ cS ad b L xs) {i : Nat} (hi : i + 6 ≤ L) (hJ : st_J σ) (kk : ∀ σ1, st_J σ1 → lw_S p l e s m below meth c D cI cZ cS ad b 1250 [] (nI i) σ1) : lw_S p l e s m below meth c D cI cZ cS ad b 465 [] (nI i) σ := lw_int F (n := 1) (jx := 75) (jm := 131) (ic := 45) (im := 48) hi (by decide) (by decide +kernel) (by decide +kernel) (by decide +kernel) (by decide +kernel) (by decide +kernel) (by decide +kernel) (pr_75 hJ (lw_rg _)) kk
theorem lw_c_8 (F : lw_F p s m meth c D cI cZ cS ad b L xs) {i : Nat} (hi : i + 6 ≤ L) (hJ : st_J σ) (kk : ∀ σ1, st_J σ1 → lw_S p l e s m below meth c D cI cZ cS ad b 1250 [] (nI i) σ1) : lw_S p l e s m below meth c D cI cZ cS ad b 488 [] (nI i) σ := lw_int F (n := 2) (jx := 76) (jm := 132) (ic := 49) (im := 53) hi (by decide) (by decide +kernel) (by decide +kernel) (by decide +kernel) (by decide +kernel) (by decide +kernel) (by decide +kernel) (pr_76 hJ (lw_rg _) (lw_rg _)) kk
theorem lw_c_9 (F : lw_F p s m meth c D cI cZ cS ad b L xs) {i : Nat} (hi : i + 6 ≤ L) (hJ : st_J σ) (kk : ∀ σ1, st_J σ1 → lw_S p l e s m below meth c D cI cZ cS ad b 1250 [] (nI i) σ1) : lw_S p l e s m below meth c D cI cZ cS ad b 521 [] (nI i) σ := lw_int F (n := 2) (jx := 77) (jm := 134) (ic := 54) (im := 57) hi (by decide) (by decide +kernel) (by decide +kernel) (by decide +kernel) (by decide +kernel) (by decide +kernel) (by decide +kernel) (pr_77 hJ (lw_rg _) (lw_rg _)) kk
theorem lw_c_10 (F : lw_F p s m meth c D cI cZ cS ad b L xs) {i : Nat} (hi : i + 6 ≤ L) (hJ : st_J σ) (kk : ∀ σ1, st_J σ1 → lw_S p l e s m below meth c D cI cZ cS ad b 1250 [] (nI i) σ1) : lw_S p l e s m below meth c D cI cZ cS ad b 554 [] (nI i) σ := lw_int F (n := 3) (jx := 78) (jm := 136) (ic := 58) (im := 61) hi (by decide) (by decide +kernel) (by decide +kernel) (by decide +kernel) (by decide +kernel) (by decide +kernel) (by decide +kernel) (pr_78 hJ (lw_rg _) (lw_rg _) (lw_rg _)) kk
theorem lw_c_11 (F : lw_F p s m meth c D cI cZ cS ad b L xs) {i : Nat} (hi : i + 6 ≤ L) (hJ : st_J σ) (kk : ∀ σ1, st_J σ1 → lw_S p l e s m below meth c D cI cZ cS ad b 1250 [] (nI i) σ1) : lw_S p l e s m below meth c D cI cZ cS ad b 597 [] (nI i) σ := lw_int F (n := 1) (jx := 79) (jm := 137) (ic := 62) (im := 65) hi (by decide) (by decide +kernel) (by decide +kernel) (by decide +kernel) (by decide +kernel) (by decide +kernel) (by decide +kernel) (pr_79 hJ (lw_rg _)) kk
theorem lw_c_12 (F : lw_F p s m meth c D cI cZ cS ad b L xs) {i : Nat} (hi : i + 6 ≤ L) (hJ : st_J σ) (kk : ∀ σ1, st_J σ1 → lw_S p l e s m below meth c D cI cZ cS ad b 1250 [] (nI i) σ1) : lw_S p l e s m below meth c D cI cZ cS ad b 620 [] (nI i) σ := lw_int F (n := 1) (jx := 80) (jm := 139) (ic := 66) (im := 69) hi (by decide) (by decide +kernel) (by decide +kernel) (by decide +kernel) (by decide +kernel) (by decide +kernel) (by decide +kernel) (pr_80 hJ (lw_rg _)) kk
theorem lw_c_13 (F : lw_F p s m meth c D cI cZ cS ad b L xs) {i : Nat} (hi : i + 6 ≤ L) (hJ : st_J σ) (kk : ∀ σ1, st_J σ1 → lw_S p l e s m below meth c D cI cZ cS ad b 1250 [] (nI i) σ1) : lw_S p l e s m below meth c D cI cZ cS ad b 643 [] (nI i) σ := lw_int F (n := 1) (jx := 81) (jm := 141) (ic := 70) (im := 73) hi (by decide) (by decide +kernel) (by decide +kernel) (by decide +kernel) (by decide +kernel) (by decide +kernel) (by decide +kernel) (pr_81 hJ (lw_rg _)) kk
theorem lw_c_14 (F : lw_F p s m meth c D cI cZ cS ad b L xs) {i : Nat} (hi : i + 6 ≤ L) (hJ : st_J σ) (kk : ∀ σ1, st_J σ1 → lw_S p l e s m below meth c D cI cZ cS ad b 1250 [] (nI i) σ1) : lw_S p l e s m below meth c D cI cZ cS ad b 666 [] (nI i) σ := lw_int F (n := 2) (jx := 82) (jm := 148) (ic := 74) (im := 77) hi (by decide) (by decide +kernel) (by decide +kernel) (by decide +kernel) (by decide +kernel) (by decide +kernel) (by decide +kernel) (pr_82 hJ (lw_rg _) (lw_rg _)) kk
theorem lw_c_15 (F : lw_F p s m meth c D cI cZ cS ad b L xs) {i : Nat} (hi : i + 6 ≤ L) (hJ : st_J σ) (kk : ∀ σ1, st_J σ1 → lw_S p l e s m below meth c D cI cZ cS ad b 1250 [] (nI i) σ1) : lw_S p l e s m below meth c D cI cZ cS ad b 699 [] (nI i) σ := lw_int F (n := 3) (jx := 83) (jm := 149) (ic := 78) (im := 81) hi (by decide) (by decide +kernel) (by decide +kernel) (by decide +kernel) (by decide +kernel) (by decide +kernel) (by decide +kernel) (pr_83 hJ (lw_rg _) (lw_rg _) (lw_rg _)) kk
theorem lw_c_16 (F : lw_F p s m meth c D cI cZ cS ad b L xs) {i : Nat} (hi : i + 6 ≤ L) (hJ : st_J σ) (kk : ∀ σ1, st_J σ1 → lw_S p l e s m below meth c D cI cZ cS ad b 1250 [] (nI i) σ1) : lw_S p l e s m below meth c D cI cZ cS ad b 742 [] (nI i) σ := lw_int F (n := 1) (jx := 84) (jm := 150) (ic := 82) (im := 85) hi (by decide) (by decide +kernel) (by decide +kernel) (by decide +kernel) (by decide +kernel) (by decide +kernel) (by decide +kernel) (pr_84 hJ (lw_rg _)) kk
theorem lw_c_17 (F : lw_F p s m meth c D cI cZ cS ad b L xs) {i : Nat} (hi : i + 6 ≤ L) (hJ : st_J σ) (kk : ∀ σ1, st_J σ1 → lw_S p l e s m below meth c D cI cZ cS ad b 1250 [] (nI i) σ1) : lw_S p l e s m below meth c D cI cZ cS ad b 765 [] (nI i) σ := lw_int F (n := 3) (jx := 85) (jm := 152) (ic := 86) (im := 89) hi (by decide) (by decide +kernel) (by decide +kernel) (by decide +kernel) (by decide +kernel) (by decide +kernel) (by decide +kernel) (pr_85 hJ (lw_rg _) (lw_rg _) (lw_rg _)) kk
theorem lw_c_18 (F : lw_F p s m meth c D cI cZ cS ad b L xs) {i : Nat} (hi : i + 6 ≤ L) (hJ : st_J σ) (kk : ∀ σ1, st_J σ1 → lw_S p l e s m below meth c D cI cZ cS ad b 1250 [] (nI i) σ1) : lw_S p l e s m below meth c D cI cZ cS ad b 808 [] (nI i) σ := lw_int F (n := 4) (jx := 86) (jm := 154) (ic := 90) (im := 93) hi (by decide) (by decide +kernel) (by decide +kernel) (by decide +kernel) (by decide +kernel) (by decide +kernel) (by decide +kernel) (pr_86 hJ (lw_rg _) (lw_rg _) (lw_rg _) (lw_rg _)) kk
theorem lw_c_19 (F : lw_F p s m meth c D cI cZ cS ad b L xs) {i : Nat} (hi : i + 6 ≤ L) (hJ : st_J σ) (kk : ∀ σ1, st_J σ1 → lw_S p l e s m below meth c D cI cZ cS ad b 1250 [] (nI i) σ1) : lw_S p l e s m below meth c D cI cZ cS ad b 861 [] (nI i) σ := lw_int F (n := 2) (jx := 87) (jm := 155) (ic := 94) (im := 97) hi (by decide) (by decide +kernel) (by decide +kernel) (by decide +kernel) (by decide +kernel) (by decide +kernel) (by decide +kernel) (pr_87 hJ (lw_rg _) (lw_rg _)) kk
theorem lw_c_20 (F : lw_F p s m meth c D cI cZ cS ad b L xs) {i : Nat} (hi : i + 6 ≤ L) (hJ : st_J σ) (kk : ∀ σ1, st_J σ1 → lw_S p l e s m below meth c D cI cZ cS ad b 1250 [] (nI i) σ1) : lw_S p l e s m below meth c D cI cZ cS ad b 894 [] (nI i) σ := lw_int F (n := 2) (jx := 88) (jm := 156) (ic := 98) (im := 101) hi (by decide) (by decide +kernel) (by decide +kernel) (by decide +kernel) (by decide +kernel) (by decide +kernel) (by decide +kernel) (pr_88 hJ (lw_rg _) (lw_rg _)) kk
theorem lw_c_21 (F : lw_F p s m meth c D cI cZ cS ad b L xs) {i : Nat} (hi : i + 6 ≤ L) (hJ : st_J σ) (kk : ∀ σ1, st_J σ1 → lw_S p l e s m below meth c D cI cZ cS ad b 1250 [] (nI i) σ1) : lw_S p l e s m below meth c D cI cZ cS ad b 927 [] (nI i) σ := lw_int F (n := 5) (jx := 89) (jm := 157) (ic := 102) (im := 106) hi (by decide) (by decide +kernel) (by decide +kernel) (by decide +kernel) (by decide +kernel) (by decide +kernel) (by decide +kernel) (pr_89 hJ (lw_rg _) (lw_rg _) (lw_rg _) (lw_rg _) (lw_rg _)) kk
theorem lw_c_22 (F : lw_F p s m meth c D cI cZ cS ad b L xs) {i : Nat} (hi : i + 6 ≤ L) (hJ : st_J σ) (kk : ∀ σ1, st_J σ1 → lw_S p l e s m below meth c D cI cZ cS ad b 1250 [] (nI i) σ1) : lw_S p l e s m below meth c D cI cZ cS ad b 990 [] (nI i) σ := lw_int F (n := 3) (jx := 90) (jm := 158) (ic := 107) (im := 110) hi (by decide) (by decide +kernel) (by decide +kernel) (by decide +kernel) (by decide +kernel) (by decide +kernel) (by decide +kernel) (pr_90 hJ (lw_rg _) (lw_rg _) (lw_rg _)) kk
theorem lw_c_23 (F : lw_F p s m meth c D cI cZ cS ad b L xs) {i : Nat} (hi : i + 6 ≤ L) (hJ : st_J σ) (kk : ∀ σ1, st_J σ1 → lw_S p l e s m below meth c D cI cZ cS ad b 1250 [] (nI i) σ1) : lw_S p l e s m below meth c D cI cZ cS ad b 1033 [] (nI i) σ := lw_int F (n := 0) (jx := 91) (jm := 159) (ic := 111) (im := 115) hi (by decide) (by decide +kernel) (by decide +kernel) (by decide +kernel) (by decide +kernel) (by decide +kernel) (by decide +kernel) (pr_91 hJ) kk
theorem lw_c_24 (F : lw_F p s m meth c D cI cZ cS ad b L xs) {i : Nat} (hi : i + 6 ≤ L) (hJ : st_J σ) (kk : ∀ σ1, st_J σ1 → lw_S p l e s m below meth c D cI cZ cS ad b 1250 [] (nI i) σ1) : lw_S p l e s m below meth c D cI cZ cS ad b 1046 [] (nI i) σ := lw_int F (n := 2) (jx := 92) (jm := 162) (ic := 116) (im := 119) hi (by decide) (by decide +kernel) (by decide +kernel) (by decide +kernel) (by decide +kernel) (by decide +kernel) (by decide +kernel) (pr_92 hJ (lw_rg _) (lw_rg _)) kk
theorem lw_c_25 (F : lw_F p s m meth c D cI cZ cS ad b L xs) {i : Nat} (hi : i + 6 ≤ L) (hJ : st_J σ) (kk : ∀ σ1, st_J σ1 → lw_S p l e s m below meth c D cI cZ cS ad b 1250 [] (nI i) σ1) : lw_S p l e s m below meth c D cI cZ cS ad b 1079 [] (nI i) σ := lw_int F (n := 2) (jx := 93) (jm := 165) (ic := 120) (im := 123) hi (by decide) (by decide +kernel) (by decide +kernel) (by decide +kernel) (by decide +kernel) (by decide +kernel) (by decide +kernel) (pr_93 hJ (lw_rg _) (lw_rg _)) kk
theorem lw_c_26 (F : lw_F p s m meth c D cI cZ cS ad b L xs) {i : Nat} (hi : i + 6 ≤ L) (hJ : st_J σ) (kk : ∀ σ1, st_J σ1 → lw_S p l e s m below meth c D cI cZ cS ad b 1250 [] (nI i) σ1) : lw_S p l e s m below meth c D cI cZ cS ad b 1112 [] (nI i) σ := lw_int F (n := 0) (jx := 94) (jm := 166) (ic := 124) (im := 127) hi (by decide) (by decide +kernel) (by decide +kernel) (by decide +kernel) (by decide +kernel) (by decide +kernel) (by decide +kernel) (pr_94 hJ) kk
theorem lw_c_27 (F : lw_F p s m meth c D cI cZ cS ad b L xs) {i : Nat} (hi : i + 6 ≤ L) (hJ : st_J σ) (kk : ∀ σ1, st_J σ1 → lw_S p l e s m below meth c D cI cZ cS ad b 1250 [] (nI i) σ1) : lw_S p l e s m below meth c D cI cZ cS ad b 1125 [] (nI i) σ := lw_int F (n := 1) (jx := 95) (jm := 168) (ic := 128) (im := 131) hi (by decide) (by decide +kernel) (by decide +kernel) (by decide +kernel) (by decide +kernel) (by decide +kernel) (by decide +kernel) (pr_95 hJ (lw_rg _)) kk
theorem lw_c_28 (F : lw_F p s m meth c D cI cZ cS ad b L xs) {i : Nat} (hi : i + 6 ≤ L) (hJ : st_J σ) (kk : ∀ σ1, st_J σ1 → lw_S p l e s m below meth c D cI cZ cS ad b 1250 [] (nI i) σ1) : lw_S p l e s m below meth c D cI cZ cS ad b 1148 [] (nI i) σ := lw_int F (n := 0) (jx := 96) (jm := 169) (ic := 132) (im := 135) hi (by decide) (by decide +kernel) (by decide +kernel) (by decide +kernel) (by decide +kernel) (by decide +kernel) (by decide +kernel) (pr_96 hJ) kk
theorem lw_c_29 (F : lw_F p s m meth c D cI cZ cS ad b L xs) {i : Nat} (hi : i + 6 ≤ L) (hJ : st_J σ) (kk : ∀ σ1, st_J σ1 → lw_S p l e s m below meth c D cI cZ cS ad b 1250 [] (nI i) σ1) : lw_S p l e s m below meth c D cI cZ cS ad b 1161 [] (nI i) σ := lw_int F (n := 0) (jx := 97) (jm := 170) (ic := 136) (im := 139) hi (by decide) (by decide +kernel) (by decide +kernel) (by decide +kernel) (by decide +kernel) (by decide +kernel) (by decide +kernel) (pr_97 hJ) kk
theorem lw_c_30 (F : lw_F p s m meth c D cI cZ cS ad b L xs) {i : Nat} (hi : i + 6 ≤ L) (hJ : st_J σ) (kk : ∀ σ1, st_J σ1 → lw_S p l e s m below meth c D cI cZ cS ad b 1250 [] (nI i) σ1) : lw_S p l e s m below meth c D cI cZ cS ad b 1174 [] (nI i) σ := lw_int F (n := 1) (jx := 98) (jm := 171) (ic := 140) (im := 143) hi (by decide) (by decide +kernel) (by decide +kernel) (by decide +kernel) (by decide +kernel) (by decide +kernel) (by decide +kernel) (pr_98 hJ (lw_rg _)) kk
theorem lw_c_31 (F : lw_F p s m meth c D cI cZ cS ad b L xs) {i : Nat} (hi : i + 6 ≤ L) (hJ : st_J σ) (kk : ∀ σ1, st_J σ1 → lw_S p l e s m below meth c D cI cZ cS ad b 1250 [] (nI i) σ1) : lw_S p l e s m below meth c D cI cZ cS ad b 1197 [] (nI i) σ := lw_int F (n := 0) (jx := 99) (jm := 172) (ic := 144) (im := 147) hi (by decide) (by decide +kernel) (by decide +kernel) (by decide +kernel) (by decide +kernel) (by decide +kernel) (by decide +kernel) (pr_99 hJ) kk
theorem lw_c_32 (F : lw_F p s m meth c D cI cZ cS ad b L xs) {i : Nat} (hi : i + 6 ≤ L) (hJ : st_J σ) (kk : ∀ σ1, st_J σ1 → lw_S p l e s m below meth c D cI cZ cS ad b 1250 [] (nI i) σ1) : lw_S p l e s m below meth c D cI cZ cS ad b 1210 [] (nI i) σ := lw_int F (n := 0) (jx := 100) (jm := 178) (ic := 148) (im := 151) hi (by decide) (by decide +kernel) (by decide +kernel) (by decide +kernel) (by decide +kernel) (by decide +kernel) (by decide +kernel) (pr_100 hJ) kk
theorem lw_c_33 (F : lw_F p s m meth c D cI cZ cS ad b L xs) {i : Nat} (hi : i + 6 ≤ L) (hJ : st_J σ) (kk : ∀ σ1, st_J σ1 → lw_S p l e s m below meth c D cI cZ cS ad b 1250 [] (nI i) σ1) : lw_S p l e s m below meth c D cI cZ cS ad b 1223 [] (nI i) σ := lw_int F (n := 0) (jx := 101) (jm := 179) (ic := 152) (im := 155) hi (by decide) (by decide +kernel) (by decide +kernel) (by decide +kernel) (by decide +kernel) (by decide +kernel) (by decide +kernel) (pr_101 hJ) kk
theorem lw_c_34 (F : lw_F p s m meth c D cI cZ cS ad b L xs) {i : Nat} (_ : i + 6 ≤ L) (hJ : st_J σ) (kk : ∀ σ1, st_J σ1 → lw_S p l e s m below meth c D cI cZ cS ad b 1250 [] (nI i) σ1) : lw_S p l e s m below meth c D cI cZ cS ad b 1236 [] (nI i) σ := lw_digest F (jx := 102) (jm := 181) (by decide +kernel) (by decide +kernel) (by decide +kernel) (by decide +kernel) (by decide +kernel) (by decide +kernel) (pr_102 hJ) kk
end LWC
