/-! the objects: states s + k (now: ev_n, supposed: ev_sp, kept ones), single ones by number; the instructions on them -/
def ev_n : Int := 0
def ev_sp : Int := 23
def ev_S (s : Int) : Prop := 0 ≤ s ∧ s ≤ 138 ∧ s % 23 = 0
theorem ev_S_n : ev_S ev_n := by unfold ev_S ev_n; decide
theorem ev_S_sp : ev_S ev_sp := by unfold ev_S ev_sp; decide
theorem ev_S_cases {s : Int} (h : ev_S s) : s = 0 ∨ s = 23 ∨ s = 46 ∨ s = 69 ∨ s = 92 ∨ s = 115 ∨ s = 138 := by
  obtain ⟨h0, h1, h2⟩ := h
  omega
theorem cS_0 {s : Int} (h : ev_S s) : ev_cls (s) = 7 ∧ ev_len (s) = 0 := by
  rcases ev_S_cases h with rfl | rfl | rfl | rfl | rfl | rfl | rfl <;> decide
theorem cS_1 {s : Int} (h : ev_S s) : ev_cls (s + 1) = 6 ∧ ev_len (s + 1) = 0 := by
  rcases ev_S_cases h with rfl | rfl | rfl | rfl | rfl | rfl | rfl <;> decide
theorem cS_2 {s : Int} (h : ev_S s) : ev_cls (s + 2) = 12 ∧ ev_len (s + 2) = 20 := by
  rcases ev_S_cases h with rfl | rfl | rfl | rfl | rfl | rfl | rfl <;> decide
theorem cS_3 {s : Int} (h : ev_S s) : ev_cls (s + 3) = 12 ∧ ev_len (s + 3) = 20 := by
  rcases ev_S_cases h with rfl | rfl | rfl | rfl | rfl | rfl | rfl <;> decide
theorem cS_4 {s : Int} (h : ev_S s) : ev_cls (s + 4) = 12 ∧ ev_len (s + 4) = 20 := by
  rcases ev_S_cases h with rfl | rfl | rfl | rfl | rfl | rfl | rfl <;> decide
theorem cS_5 {s : Int} (h : ev_S s) : ev_cls (s + 5) = 12 ∧ ev_len (s + 5) = 20 := by
  rcases ev_S_cases h with rfl | rfl | rfl | rfl | rfl | rfl | rfl <;> decide
theorem cS_6 {s : Int} (h : ev_S s) : ev_cls (s + 6) = 1 ∧ ev_len (s + 6) = 0 := by
  rcases ev_S_cases h with rfl | rfl | rfl | rfl | rfl | rfl | rfl <;> decide
theorem cS_7 {s : Int} (h : ev_S s) : ev_cls (s + 7) = 12 ∧ ev_len (s + 7) = 6 := by
  rcases ev_S_cases h with rfl | rfl | rfl | rfl | rfl | rfl | rfl <;> decide
theorem cS_8 {s : Int} (h : ev_S s) : ev_cls (s + 8) = 12 ∧ ev_len (s + 8) = 6 := by
  rcases ev_S_cases h with rfl | rfl | rfl | rfl | rfl | rfl | rfl <;> decide
theorem cS_9 {s : Int} (h : ev_S s) : ev_cls (s + 9) = 12 ∧ ev_len (s + 9) = 6 := by
  rcases ev_S_cases h with rfl | rfl | rfl | rfl | rfl | rfl | rfl <;> decide
theorem cS_10 {s : Int} (h : ev_S s) : ev_cls (s + 10) = 13 ∧ ev_len (s + 10) = 6 := by
  rcases ev_S_cases h with rfl | rfl | rfl | rfl | rfl | rfl | rfl <;> decide
theorem cS_11 {s : Int} (h : ev_S s) : ev_cls (s + 11) = 12 ∧ ev_len (s + 11) = 6 := by
  rcases ev_S_cases h with rfl | rfl | rfl | rfl | rfl | rfl | rfl <;> decide
theorem cS_12 {s : Int} (h : ev_S s) : ev_cls (s + 12) = 12 ∧ ev_len (s + 12) = 36 := by
  rcases ev_S_cases h with rfl | rfl | rfl | rfl | rfl | rfl | rfl <;> decide
theorem cS_13 {s : Int} (h : ev_S s) : ev_cls (s + 13) = 12 ∧ ev_len (s + 13) = 36 := by
  rcases ev_S_cases h with rfl | rfl | rfl | rfl | rfl | rfl | rfl <;> decide
theorem cS_14 {s : Int} (h : ev_S s) : ev_cls (s + 14) = 12 ∧ ev_len (s + 14) = 36 := by
  rcases ev_S_cases h with rfl | rfl | rfl | rfl | rfl | rfl | rfl <;> decide
theorem cS_15 {s : Int} (h : ev_S s) : ev_cls (s + 15) = 12 ∧ ev_len (s + 15) = 36 := by
  rcases ev_S_cases h with rfl | rfl | rfl | rfl | rfl | rfl | rfl <;> decide
theorem cS_16 {s : Int} (h : ev_S s) : ev_cls (s + 16) = 12 ∧ ev_len (s + 16) = 36 := by
  rcases ev_S_cases h with rfl | rfl | rfl | rfl | rfl | rfl | rfl <;> decide
theorem cS_17 {s : Int} (h : ev_S s) : ev_cls (s + 17) = 4 ∧ ev_len (s + 17) = 0 := by
  rcases ev_S_cases h with rfl | rfl | rfl | rfl | rfl | rfl | rfl <;> decide
theorem cS_18 {s : Int} (h : ev_S s) : ev_cls (s + 18) = 12 ∧ ev_len (s + 18) = 8 := by
  rcases ev_S_cases h with rfl | rfl | rfl | rfl | rfl | rfl | rfl <;> decide
theorem cS_19 {s : Int} (h : ev_S s) : ev_cls (s + 19) = 12 ∧ ev_len (s + 19) = 8 := by
  rcases ev_S_cases h with rfl | rfl | rfl | rfl | rfl | rfl | rfl <;> decide
theorem cS_20 {s : Int} (h : ev_S s) : ev_cls (s + 20) = 12 ∧ ev_len (s + 20) = 8 := by
  rcases ev_S_cases h with rfl | rfl | rfl | rfl | rfl | rfl | rfl <;> decide
theorem cS_21 {s : Int} (h : ev_S s) : ev_cls (s + 21) = 12 ∧ ev_len (s + 21) = 3 := by
  rcases ev_S_cases h with rfl | rfl | rfl | rfl | rfl | rfl | rfl <;> decide
theorem cS_22 {s : Int} (h : ev_S s) : ev_cls (s + 22) = 12 ∧ ev_len (s + 22) = 12 := by
  rcases ev_S_cases h with rfl | rfl | rfl | rfl | rfl | rfl | rfl <;> decide
section IDS
variable {j : Nat} {ops : List ev_O} {L : ev_L} {st : List ev_V} {σ : ev_M} {k f e c t n q : Nat} {z w x y s : Int} {a b : ev_V} {h g : Int64} {i : Int} {R : Option ev_R}
theorem g0_27 : EO j ((27, e, 0, z, w) :: ops) L (.inr (.inl (179)) :: st) σ = EO j ops L (.inl (σ (179) z) :: st) σ := eo_27 (by decide)
theorem g0_30 : EO j ((30, e, 0, z, w) :: ops) L (.inl x :: .inr (.inl (179)) :: st) σ = EO j ops L st (ev_up σ (179) z x) := eo_30 (by decide)
theorem g0_28_1 : EO j ((28, e, 0, 1, 1) :: ops) L (.inr (.inl (179)) :: st) σ = EO j ops L (.inr (.inl (180)) :: st) σ := eo_28 (by decide)
theorem g0_28_2 : EO j ((28, e, 0, 2, 2) :: ops) L (.inr (.inl (179)) :: st) σ = EO j ops L (.inr (.inl (181)) :: st) σ := eo_28 (by decide)
theorem g1_27 (hs : ev_S s) : EO j ((27, e, 1, z, w) :: ops) L (.inr (.inl (s + 6)) :: st) σ = EO j ops L (.inl (σ (s + 6) z) :: st) σ := eo_27 ((cS_6 hs).1)
theorem g1_30 (hs : ev_S s) : EO j ((30, e, 1, z, w) :: ops) L (.inl x :: .inr (.inl (s + 6)) :: st) σ = EO j ops L st (ev_up σ (s + 6) z x) := eo_30 ((cS_6 hs).1)
theorem g1_28_1 (hs : ev_S s) : EO j ((28, e, 1, 1, 1) :: ops) L (.inr (.inl (s + 6)) :: st) σ = EO j ops L (.inr (.inl (s + 7)) :: st) σ := (eo_28 ((cS_6 hs).1)).trans (by rw [Int.add_assoc]; rfl)
theorem g1_28_2 (hs : ev_S s) : EO j ((28, e, 1, 2, 2) :: ops) L (.inr (.inl (s + 6)) :: st) σ = EO j ops L (.inr (.inl (s + 8)) :: st) σ := (eo_28 ((cS_6 hs).1)).trans (by rw [Int.add_assoc]; rfl)
theorem g1_28_3 (hs : ev_S s) : EO j ((28, e, 1, 3, 3) :: ops) L (.inr (.inl (s + 6)) :: st) σ = EO j ops L (.inr (.inl (s + 9)) :: st) σ := (eo_28 ((cS_6 hs).1)).trans (by rw [Int.add_assoc]; rfl)
theorem g1_28_4 (hs : ev_S s) : EO j ((28, e, 1, 4, 4) :: ops) L (.inr (.inl (s + 6)) :: st) σ = EO j ops L (.inr (.inl (s + 10)) :: st) σ := (eo_28 ((cS_6 hs).1)).trans (by rw [Int.add_assoc]; rfl)
theorem g1_28_5 (hs : ev_S s) : EO j ((28, e, 1, 5, 5) :: ops) L (.inr (.inl (s + 6)) :: st) σ = EO j ops L (.inr (.inl (s + 11)) :: st) σ := (eo_28 ((cS_6 hs).1)).trans (by rw [Int.add_assoc]; rfl)
theorem g1_28_6 (hs : ev_S s) : EO j ((28, e, 1, 6, 6) :: ops) L (.inr (.inl (s + 6)) :: st) σ = EO j ops L (.inr (.inl (s + 12)) :: st) σ := (eo_28 ((cS_6 hs).1)).trans (by rw [Int.add_assoc]; rfl)
theorem g1_28_7 (hs : ev_S s) : EO j ((28, e, 1, 7, 7) :: ops) L (.inr (.inl (s + 6)) :: st) σ = EO j ops L (.inr (.inl (s + 13)) :: st) σ := (eo_28 ((cS_6 hs).1)).trans (by rw [Int.add_assoc]; rfl)
theorem g1_28_8 (hs : ev_S s) : EO j ((28, e, 1, 8, 8) :: ops) L (.inr (.inl (s + 6)) :: st) σ = EO j ops L (.inr (.inl (s + 14)) :: st) σ := (eo_28 ((cS_6 hs).1)).trans (by rw [Int.add_assoc]; rfl)
theorem g1_28_9 (hs : ev_S s) : EO j ((28, e, 1, 9, 9) :: ops) L (.inr (.inl (s + 6)) :: st) σ = EO j ops L (.inr (.inl (s + 15)) :: st) σ := (eo_28 ((cS_6 hs).1)).trans (by rw [Int.add_assoc]; rfl)
theorem g1_28_10 (hs : ev_S s) : EO j ((28, e, 1, 10, 10) :: ops) L (.inr (.inl (s + 6)) :: st) σ = EO j ops L (.inr (.inl (s + 16)) :: st) σ := (eo_28 ((cS_6 hs).1)).trans (by rw [Int.add_assoc]; rfl)
theorem g2_28_0 : EO j ((28, e, 2, 0, 1) :: ops) L (.inr (.inl (170)) :: st) σ = EO j ops L (.inr (.inl (171)) :: st) σ := eo_28 (by decide)
theorem g2_28_1 : EO j ((28, e, 2, 1, 2) :: ops) L (.inr (.inl (170)) :: st) σ = EO j ops L (.inr (.inl (172)) :: st) σ := eo_28 (by decide)
theorem g3_27 : EO j ((27, e, 3, z, w) :: ops) L (.inr (.inl (162)) :: st) σ = EO j ops L (.inl (σ (162) z) :: st) σ := eo_27 (by decide)
theorem g3_30 : EO j ((30, e, 3, z, w) :: ops) L (.inl x :: .inr (.inl (162)) :: st) σ = EO j ops L st (ev_up σ (162) z x) := eo_30 (by decide)
theorem g3_28_1 : EO j ((28, e, 3, 1, 1) :: ops) L (.inr (.inl (162)) :: st) σ = EO j ops L (.inr (.inl (163)) :: st) σ := eo_28 (by decide)
theorem g4_27 (hs : ev_S s) : EO j ((27, e, 4, z, w) :: ops) L (.inr (.inl (s + 17)) :: st) σ = EO j ops L (.inl (σ (s + 17) z) :: st) σ := eo_27 ((cS_17 hs).1)
theorem g4_30 (hs : ev_S s) : EO j ((30, e, 4, z, w) :: ops) L (.inl x :: .inr (.inl (s + 17)) :: st) σ = EO j ops L st (ev_up σ (s + 17) z x) := eo_30 ((cS_17 hs).1)
theorem g4_28_2 (hs : ev_S s) : EO j ((28, e, 4, 2, 1) :: ops) L (.inr (.inl (s + 17)) :: st) σ = EO j ops L (.inr (.inl (s + 18)) :: st) σ := (eo_28 ((cS_17 hs).1)).trans (by rw [Int.add_assoc]; rfl)
theorem g4_28_3 (hs : ev_S s) : EO j ((28, e, 4, 3, 2) :: ops) L (.inr (.inl (s + 17)) :: st) σ = EO j ops L (.inr (.inl (s + 19)) :: st) σ := (eo_28 ((cS_17 hs).1)).trans (by rw [Int.add_assoc]; rfl)
theorem g4_28_4 (hs : ev_S s) : EO j ((28, e, 4, 4, 3) :: ops) L (.inr (.inl (s + 17)) :: st) σ = EO j ops L (.inr (.inl (s + 20)) :: st) σ := (eo_28 ((cS_17 hs).1)).trans (by rw [Int.add_assoc]; rfl)
theorem g4_28_5 (hs : ev_S s) : EO j ((28, e, 4, 5, 4) :: ops) L (.inr (.inl (s + 17)) :: st) σ = EO j ops L (.inr (.inl (s + 21)) :: st) σ := (eo_28 ((cS_17 hs).1)).trans (by rw [Int.add_assoc]; rfl)
theorem g4_28_6 (hs : ev_S s) : EO j ((28, e, 4, 6, 5) :: ops) L (.inr (.inl (s + 17)) :: st) σ = EO j ops L (.inr (.inl (s + 22)) :: st) σ := (eo_28 ((cS_17 hs).1)).trans (by rw [Int.add_assoc]; rfl)
theorem g5_27 : EO j ((27, e, 5, z, w) :: ops) L (.inr (.inl (164)) :: st) σ = EO j ops L (.inl (σ (164) z) :: st) σ := eo_27 (by decide)
theorem g5_30 : EO j ((30, e, 5, z, w) :: ops) L (.inl x :: .inr (.inl (164)) :: st) σ = EO j ops L st (ev_up σ (164) z x) := eo_30 (by decide)
theorem g5_28_0 : EO j ((28, e, 5, 0, 1) :: ops) L (.inr (.inl (164)) :: st) σ = EO j ops L (.inr (.inl (165)) :: st) σ := eo_28 (by decide)
theorem g5_28_7 : EO j ((28, e, 5, 7, 2) :: ops) L (.inr (.inl (164)) :: st) σ = EO j ops L (.inr (.inl (166)) :: st) σ := eo_28 (by decide)
theorem g5_28_8 : EO j ((28, e, 5, 8, 3) :: ops) L (.inr (.inl (164)) :: st) σ = EO j ops L (.inr (.inl (167)) :: st) σ := eo_28 (by decide)
theorem g5_28_9 : EO j ((28, e, 5, 9, 4) :: ops) L (.inr (.inl (164)) :: st) σ = EO j ops L (.inr (.inl (168)) :: st) σ := eo_28 (by decide)
theorem g5_28_10 : EO j ((28, e, 5, 10, 5) :: ops) L (.inr (.inl (164)) :: st) σ = EO j ops L (.inr (.inl (169)) :: st) σ := eo_28 (by decide)
theorem g6_27 (hs : ev_S s) : EO j ((27, e, 6, z, w) :: ops) L (.inr (.inl (s + 1)) :: st) σ = EO j ops L (.inl (σ (s + 1) z) :: st) σ := eo_27 ((cS_1 hs).1)
theorem g6_30 (hs : ev_S s) : EO j ((30, e, 6, z, w) :: ops) L (.inl x :: .inr (.inl (s + 1)) :: st) σ = EO j ops L st (ev_up σ (s + 1) z x) := eo_30 ((cS_1 hs).1)
theorem g6_28_2 (hs : ev_S s) : EO j ((28, e, 6, 2, 1) :: ops) L (.inr (.inl (s + 1)) :: st) σ = EO j ops L (.inr (.inl (s + 2)) :: st) σ := (eo_28 ((cS_1 hs).1)).trans (by rw [Int.add_assoc]; rfl)
theorem g6_28_3 (hs : ev_S s) : EO j ((28, e, 6, 3, 2) :: ops) L (.inr (.inl (s + 1)) :: st) σ = EO j ops L (.inr (.inl (s + 3)) :: st) σ := (eo_28 ((cS_1 hs).1)).trans (by rw [Int.add_assoc]; rfl)
theorem g6_28_4 (hs : ev_S s) : EO j ((28, e, 6, 4, 3) :: ops) L (.inr (.inl (s + 1)) :: st) σ = EO j ops L (.inr (.inl (s + 4)) :: st) σ := (eo_28 ((cS_1 hs).1)).trans (by rw [Int.add_assoc]; rfl)
theorem g6_28_5 (hs : ev_S s) : EO j ((28, e, 6, 5, 4) :: ops) L (.inr (.inl (s + 1)) :: st) σ = EO j ops L (.inr (.inl (s + 5)) :: st) σ := (eo_28 ((cS_1 hs).1)).trans (by rw [Int.add_assoc]; rfl)
theorem g7_27 (hs : ev_S s) : EO j ((27, e, 7, z, w) :: ops) L (.inr (.inl (s)) :: st) σ = EO j ops L (.inl (σ (s) z) :: st) σ := eo_27 ((cS_0 hs).1)
theorem g7_30 (hs : ev_S s) : EO j ((30, e, 7, z, w) :: ops) L (.inl x :: .inr (.inl (s)) :: st) σ = EO j ops L st (ev_up σ (s) z x) := eo_30 ((cS_0 hs).1)
theorem g7_28_0 (hs : ev_S s) : EO j ((28, e, 7, 0, 1) :: ops) L (.inr (.inl (s)) :: st) σ = EO j ops L (.inr (.inl (s + 1)) :: st) σ := eo_28 ((cS_0 hs).1)
theorem g7_28_1 (hs : ev_S s) : EO j ((28, e, 7, 1, 6) :: ops) L (.inr (.inl (s)) :: st) σ = EO j ops L (.inr (.inl (s + 6)) :: st) σ := eo_28 ((cS_0 hs).1)
theorem g7_28_2 (hs : ev_S s) : EO j ((28, e, 7, 2, 17) :: ops) L (.inr (.inl (s)) :: st) σ = EO j ops L (.inr (.inl (s + 17)) :: st) σ := eo_28 ((cS_0 hs).1)
theorem g8_27 : EO j ((27, e, 8, z, w) :: ops) L (.inr (.inl (177)) :: st) σ = EO j ops L (.inl (σ (177) z) :: st) σ := eo_27 (by decide)
theorem g8_30 : EO j ((30, e, 8, z, w) :: ops) L (.inl x :: .inr (.inl (177)) :: st) σ = EO j ops L st (ev_up σ (177) z x) := eo_30 (by decide)
theorem g8_28_1 : EO j ((28, e, 8, 1, 1) :: ops) L (.inr (.inl (177)) :: st) σ = EO j ops L (.inr (.inl (178)) :: st) σ := eo_28 (by decide)
theorem g9_28_0 : EO j ((28, e, 9, 0, 1) :: ops) L (.inr (.inl (173)) :: st) σ = EO j ops L (.inr (.inl (174)) :: st) σ := eo_28 (by decide)
theorem g9_28_1 : EO j ((28, e, 9, 1, 2) :: ops) L (.inr (.inl (173)) :: st) σ = EO j ops L (.inr (.inl (175)) :: st) σ := eo_28 (by decide)
theorem g9_28_2 : EO j ((28, e, 9, 2, 3) :: ops) L (.inr (.inl (173)) :: st) σ = EO j ops L (.inr (.inl (176)) :: st) σ := eo_28 (by decide)
theorem g10_28_0 : EO j ((28, e, 10, 0, (-161)) :: ops) L (.inr (.inl (161)) :: st) σ = EO j ops L (.inr (.inl (ev_n)) :: st) σ := eo_28 (by decide)
theorem g10_28_1 : EO j ((28, e, 10, 1, (-138)) :: ops) L (.inr (.inl (161)) :: st) σ = EO j ops L (.inr (.inl (ev_sp)) :: st) σ := eo_28 (by decide)
theorem g10_28_2 : EO j ((28, e, 10, 2, 1) :: ops) L (.inr (.inl (161)) :: st) σ = EO j ops L (.inr (.inl (162)) :: st) σ := eo_28 (by decide)
theorem g10_28_3 : EO j ((28, e, 10, 3, 3) :: ops) L (.inr (.inl (161)) :: st) σ = EO j ops L (.inr (.inl (164)) :: st) σ := eo_28 (by decide)
theorem g10_28_4 : EO j ((28, e, 10, 4, 9) :: ops) L (.inr (.inl (161)) :: st) σ = EO j ops L (.inr (.inl (170)) :: st) σ := eo_28 (by decide)
theorem g10_28_5 : EO j ((28, e, 10, 5, 12) :: ops) L (.inr (.inl (161)) :: st) σ = EO j ops L (.inr (.inl (173)) :: st) σ := eo_28 (by decide)
theorem g10_28_6 : EO j ((28, e, 10, 6, 16) :: ops) L (.inr (.inl (161)) :: st) σ = EO j ops L (.inr (.inl (177)) :: st) σ := eo_28 (by decide)
theorem g10_28_7 : EO j ((28, e, 10, 7, 18) :: ops) L (.inr (.inl (161)) :: st) σ = EO j ops L (.inr (.inl (179)) :: st) σ := eo_28 (by decide)
theorem a32_s2 (hs : ev_S s) (h0 : 0 ≤ x) (h1 : x < 20) : EO j ((32, k, f, z, w) :: ops) L (.inl x :: .inr (.inl (s + 2)) :: st) σ = EO j ops L (.inl (σ (s + 2) x) :: st) σ := eo_32 ((cS_2 hs).1) h0 (by rw [(cS_2 hs).2]; exact h1)
theorem a33_s2 (hs : ev_S s) (h0 : 0 ≤ x) (h1 : x < 20) : EO j ((33, k, f, z, w) :: ops) L (.inl y :: .inl x :: .inr (.inl (s + 2)) :: st) σ = EO j ops L st (ev_up σ (s + 2) x y) := eo_33 ((cS_2 hs).1) h0 (by rw [(cS_2 hs).2]; exact h1)
theorem a32_s3 (hs : ev_S s) (h0 : 0 ≤ x) (h1 : x < 20) : EO j ((32, k, f, z, w) :: ops) L (.inl x :: .inr (.inl (s + 3)) :: st) σ = EO j ops L (.inl (σ (s + 3) x) :: st) σ := eo_32 ((cS_3 hs).1) h0 (by rw [(cS_3 hs).2]; exact h1)
theorem a33_s3 (hs : ev_S s) (h0 : 0 ≤ x) (h1 : x < 20) : EO j ((33, k, f, z, w) :: ops) L (.inl y :: .inl x :: .inr (.inl (s + 3)) :: st) σ = EO j ops L st (ev_up σ (s + 3) x y) := eo_33 ((cS_3 hs).1) h0 (by rw [(cS_3 hs).2]; exact h1)
theorem a32_s4 (hs : ev_S s) (h0 : 0 ≤ x) (h1 : x < 20) : EO j ((32, k, f, z, w) :: ops) L (.inl x :: .inr (.inl (s + 4)) :: st) σ = EO j ops L (.inl (σ (s + 4) x) :: st) σ := eo_32 ((cS_4 hs).1) h0 (by rw [(cS_4 hs).2]; exact h1)
theorem a33_s4 (hs : ev_S s) (h0 : 0 ≤ x) (h1 : x < 20) : EO j ((33, k, f, z, w) :: ops) L (.inl y :: .inl x :: .inr (.inl (s + 4)) :: st) σ = EO j ops L st (ev_up σ (s + 4) x y) := eo_33 ((cS_4 hs).1) h0 (by rw [(cS_4 hs).2]; exact h1)
theorem a32_s5 (hs : ev_S s) (h0 : 0 ≤ x) (h1 : x < 20) : EO j ((32, k, f, z, w) :: ops) L (.inl x :: .inr (.inl (s + 5)) :: st) σ = EO j ops L (.inl (σ (s + 5) x) :: st) σ := eo_32 ((cS_5 hs).1) h0 (by rw [(cS_5 hs).2]; exact h1)
theorem a33_s5 (hs : ev_S s) (h0 : 0 ≤ x) (h1 : x < 20) : EO j ((33, k, f, z, w) :: ops) L (.inl y :: .inl x :: .inr (.inl (s + 5)) :: st) σ = EO j ops L st (ev_up σ (s + 5) x y) := eo_33 ((cS_5 hs).1) h0 (by rw [(cS_5 hs).2]; exact h1)
theorem a32_s7 (hs : ev_S s) (h0 : 0 ≤ x) (h1 : x < 6) : EO j ((32, k, f, z, w) :: ops) L (.inl x :: .inr (.inl (s + 7)) :: st) σ = EO j ops L (.inl (σ (s + 7) x) :: st) σ := eo_32 ((cS_7 hs).1) h0 (by rw [(cS_7 hs).2]; exact h1)
theorem a33_s7 (hs : ev_S s) (h0 : 0 ≤ x) (h1 : x < 6) : EO j ((33, k, f, z, w) :: ops) L (.inl y :: .inl x :: .inr (.inl (s + 7)) :: st) σ = EO j ops L st (ev_up σ (s + 7) x y) := eo_33 ((cS_7 hs).1) h0 (by rw [(cS_7 hs).2]; exact h1)
theorem a32_s8 (hs : ev_S s) (h0 : 0 ≤ x) (h1 : x < 6) : EO j ((32, k, f, z, w) :: ops) L (.inl x :: .inr (.inl (s + 8)) :: st) σ = EO j ops L (.inl (σ (s + 8) x) :: st) σ := eo_32 ((cS_8 hs).1) h0 (by rw [(cS_8 hs).2]; exact h1)
theorem a33_s8 (hs : ev_S s) (h0 : 0 ≤ x) (h1 : x < 6) : EO j ((33, k, f, z, w) :: ops) L (.inl y :: .inl x :: .inr (.inl (s + 8)) :: st) σ = EO j ops L st (ev_up σ (s + 8) x y) := eo_33 ((cS_8 hs).1) h0 (by rw [(cS_8 hs).2]; exact h1)
theorem a32_s9 (hs : ev_S s) (h0 : 0 ≤ x) (h1 : x < 6) : EO j ((32, k, f, z, w) :: ops) L (.inl x :: .inr (.inl (s + 9)) :: st) σ = EO j ops L (.inl (σ (s + 9) x) :: st) σ := eo_32 ((cS_9 hs).1) h0 (by rw [(cS_9 hs).2]; exact h1)
theorem a33_s9 (hs : ev_S s) (h0 : 0 ≤ x) (h1 : x < 6) : EO j ((33, k, f, z, w) :: ops) L (.inl y :: .inl x :: .inr (.inl (s + 9)) :: st) σ = EO j ops L st (ev_up σ (s + 9) x y) := eo_33 ((cS_9 hs).1) h0 (by rw [(cS_9 hs).2]; exact h1)
theorem a34_s10 (hs : ev_S s) (h0 : 0 ≤ x) (h1 : x < 6) : EO j ((34, k, f, z, w) :: ops) L (.inl x :: .inr (.inl (s + 10)) :: st) σ = EO j ops L (.inl (σ (s + 10) x) :: st) σ := eo_34 ((cS_10 hs).1) h0 (by rw [(cS_10 hs).2]; exact h1)
theorem a35_s10 (hs : ev_S s) (h0 : 0 ≤ x) (h1 : x < 6) (h2 : 0 ≤ y ∧ y ≤ 1) : EO j ((35, k, f, z, w) :: ops) L (.inl y :: .inl x :: .inr (.inl (s + 10)) :: st) σ = EO j ops L st (ev_up σ (s + 10) x y) := eo_35 ((cS_10 hs).1) h0 (by rw [(cS_10 hs).2]; exact h1) h2
theorem a32_s11 (hs : ev_S s) (h0 : 0 ≤ x) (h1 : x < 6) : EO j ((32, k, f, z, w) :: ops) L (.inl x :: .inr (.inl (s + 11)) :: st) σ = EO j ops L (.inl (σ (s + 11) x) :: st) σ := eo_32 ((cS_11 hs).1) h0 (by rw [(cS_11 hs).2]; exact h1)
theorem a33_s11 (hs : ev_S s) (h0 : 0 ≤ x) (h1 : x < 6) : EO j ((33, k, f, z, w) :: ops) L (.inl y :: .inl x :: .inr (.inl (s + 11)) :: st) σ = EO j ops L st (ev_up σ (s + 11) x y) := eo_33 ((cS_11 hs).1) h0 (by rw [(cS_11 hs).2]; exact h1)
theorem a32_s12 (hs : ev_S s) (h0 : 0 ≤ x) (h1 : x < 36) : EO j ((32, k, f, z, w) :: ops) L (.inl x :: .inr (.inl (s + 12)) :: st) σ = EO j ops L (.inl (σ (s + 12) x) :: st) σ := eo_32 ((cS_12 hs).1) h0 (by rw [(cS_12 hs).2]; exact h1)
theorem a33_s12 (hs : ev_S s) (h0 : 0 ≤ x) (h1 : x < 36) : EO j ((33, k, f, z, w) :: ops) L (.inl y :: .inl x :: .inr (.inl (s + 12)) :: st) σ = EO j ops L st (ev_up σ (s + 12) x y) := eo_33 ((cS_12 hs).1) h0 (by rw [(cS_12 hs).2]; exact h1)
theorem a32_s13 (hs : ev_S s) (h0 : 0 ≤ x) (h1 : x < 36) : EO j ((32, k, f, z, w) :: ops) L (.inl x :: .inr (.inl (s + 13)) :: st) σ = EO j ops L (.inl (σ (s + 13) x) :: st) σ := eo_32 ((cS_13 hs).1) h0 (by rw [(cS_13 hs).2]; exact h1)
theorem a33_s13 (hs : ev_S s) (h0 : 0 ≤ x) (h1 : x < 36) : EO j ((33, k, f, z, w) :: ops) L (.inl y :: .inl x :: .inr (.inl (s + 13)) :: st) σ = EO j ops L st (ev_up σ (s + 13) x y) := eo_33 ((cS_13 hs).1) h0 (by rw [(cS_13 hs).2]; exact h1)
theorem a32_s14 (hs : ev_S s) (h0 : 0 ≤ x) (h1 : x < 36) : EO j ((32, k, f, z, w) :: ops) L (.inl x :: .inr (.inl (s + 14)) :: st) σ = EO j ops L (.inl (σ (s + 14) x) :: st) σ := eo_32 ((cS_14 hs).1) h0 (by rw [(cS_14 hs).2]; exact h1)
theorem a33_s14 (hs : ev_S s) (h0 : 0 ≤ x) (h1 : x < 36) : EO j ((33, k, f, z, w) :: ops) L (.inl y :: .inl x :: .inr (.inl (s + 14)) :: st) σ = EO j ops L st (ev_up σ (s + 14) x y) := eo_33 ((cS_14 hs).1) h0 (by rw [(cS_14 hs).2]; exact h1)
theorem a32_s15 (hs : ev_S s) (h0 : 0 ≤ x) (h1 : x < 36) : EO j ((32, k, f, z, w) :: ops) L (.inl x :: .inr (.inl (s + 15)) :: st) σ = EO j ops L (.inl (σ (s + 15) x) :: st) σ := eo_32 ((cS_15 hs).1) h0 (by rw [(cS_15 hs).2]; exact h1)
theorem a33_s15 (hs : ev_S s) (h0 : 0 ≤ x) (h1 : x < 36) : EO j ((33, k, f, z, w) :: ops) L (.inl y :: .inl x :: .inr (.inl (s + 15)) :: st) σ = EO j ops L st (ev_up σ (s + 15) x y) := eo_33 ((cS_15 hs).1) h0 (by rw [(cS_15 hs).2]; exact h1)
theorem a32_s16 (hs : ev_S s) (h0 : 0 ≤ x) (h1 : x < 36) : EO j ((32, k, f, z, w) :: ops) L (.inl x :: .inr (.inl (s + 16)) :: st) σ = EO j ops L (.inl (σ (s + 16) x) :: st) σ := eo_32 ((cS_16 hs).1) h0 (by rw [(cS_16 hs).2]; exact h1)
theorem a33_s16 (hs : ev_S s) (h0 : 0 ≤ x) (h1 : x < 36) : EO j ((33, k, f, z, w) :: ops) L (.inl y :: .inl x :: .inr (.inl (s + 16)) :: st) σ = EO j ops L st (ev_up σ (s + 16) x y) := eo_33 ((cS_16 hs).1) h0 (by rw [(cS_16 hs).2]; exact h1)
theorem a32_s18 (hs : ev_S s) (h0 : 0 ≤ x) (h1 : x < 8) : EO j ((32, k, f, z, w) :: ops) L (.inl x :: .inr (.inl (s + 18)) :: st) σ = EO j ops L (.inl (σ (s + 18) x) :: st) σ := eo_32 ((cS_18 hs).1) h0 (by rw [(cS_18 hs).2]; exact h1)
theorem a33_s18 (hs : ev_S s) (h0 : 0 ≤ x) (h1 : x < 8) : EO j ((33, k, f, z, w) :: ops) L (.inl y :: .inl x :: .inr (.inl (s + 18)) :: st) σ = EO j ops L st (ev_up σ (s + 18) x y) := eo_33 ((cS_18 hs).1) h0 (by rw [(cS_18 hs).2]; exact h1)
theorem a32_s19 (hs : ev_S s) (h0 : 0 ≤ x) (h1 : x < 8) : EO j ((32, k, f, z, w) :: ops) L (.inl x :: .inr (.inl (s + 19)) :: st) σ = EO j ops L (.inl (σ (s + 19) x) :: st) σ := eo_32 ((cS_19 hs).1) h0 (by rw [(cS_19 hs).2]; exact h1)
theorem a33_s19 (hs : ev_S s) (h0 : 0 ≤ x) (h1 : x < 8) : EO j ((33, k, f, z, w) :: ops) L (.inl y :: .inl x :: .inr (.inl (s + 19)) :: st) σ = EO j ops L st (ev_up σ (s + 19) x y) := eo_33 ((cS_19 hs).1) h0 (by rw [(cS_19 hs).2]; exact h1)
theorem a32_s20 (hs : ev_S s) (h0 : 0 ≤ x) (h1 : x < 8) : EO j ((32, k, f, z, w) :: ops) L (.inl x :: .inr (.inl (s + 20)) :: st) σ = EO j ops L (.inl (σ (s + 20) x) :: st) σ := eo_32 ((cS_20 hs).1) h0 (by rw [(cS_20 hs).2]; exact h1)
theorem a33_s20 (hs : ev_S s) (h0 : 0 ≤ x) (h1 : x < 8) : EO j ((33, k, f, z, w) :: ops) L (.inl y :: .inl x :: .inr (.inl (s + 20)) :: st) σ = EO j ops L st (ev_up σ (s + 20) x y) := eo_33 ((cS_20 hs).1) h0 (by rw [(cS_20 hs).2]; exact h1)
theorem a32_s21 (hs : ev_S s) (h0 : 0 ≤ x) (h1 : x < 3) : EO j ((32, k, f, z, w) :: ops) L (.inl x :: .inr (.inl (s + 21)) :: st) σ = EO j ops L (.inl (σ (s + 21) x) :: st) σ := eo_32 ((cS_21 hs).1) h0 (by rw [(cS_21 hs).2]; exact h1)
theorem a33_s21 (hs : ev_S s) (h0 : 0 ≤ x) (h1 : x < 3) : EO j ((33, k, f, z, w) :: ops) L (.inl y :: .inl x :: .inr (.inl (s + 21)) :: st) σ = EO j ops L st (ev_up σ (s + 21) x y) := eo_33 ((cS_21 hs).1) h0 (by rw [(cS_21 hs).2]; exact h1)
theorem a32_s22 (hs : ev_S s) (h0 : 0 ≤ x) (h1 : x < 12) : EO j ((32, k, f, z, w) :: ops) L (.inl x :: .inr (.inl (s + 22)) :: st) σ = EO j ops L (.inl (σ (s + 22) x) :: st) σ := eo_32 ((cS_22 hs).1) h0 (by rw [(cS_22 hs).2]; exact h1)
theorem a33_s22 (hs : ev_S s) (h0 : 0 ≤ x) (h1 : x < 12) : EO j ((33, k, f, z, w) :: ops) L (.inl y :: .inl x :: .inr (.inl (s + 22)) :: st) σ = EO j ops L st (ev_up σ (s + 22) x y) := eo_33 ((cS_22 hs).1) h0 (by rw [(cS_22 hs).2]; exact h1)
theorem a36_163 (h0 : 0 ≤ x) (h1 : x < 5) : EO j ((36, k, f, z, w) :: ops) L (.inl x :: .inr (.inl (163)) :: st) σ = EO j ops L (.inr (.inl (σ (163) x)) :: st) σ := eo_36 (by decide) h0 (by rw [show ev_len 163 = 5 by decide]; exact h1)
theorem a37_163 (h0 : 0 ≤ x) (h1 : x < 5) (h2 : ev_S y) : EO j ((37, k, f, z, w) :: ops) L (.inr (.inl y) :: .inl x :: .inr (.inl (163)) :: st) σ = EO j ops L st (ev_up σ (163) x y) := eo_37 (by decide) h0 (by rw [show ev_len 163 = 5 by decide]; exact h1) (cS_0 h2).1
theorem a32_165 (h0 : 0 ≤ x) (h1 : x < 100) : EO j ((32, k, f, z, w) :: ops) L (.inl x :: .inr (.inl (165)) :: st) σ = EO j ops L (.inl (σ (165) x) :: st) σ := eo_32 (by decide) h0 (by rw [show ev_len 165 = 100 by decide]; exact h1)
theorem a33_165 (h0 : 0 ≤ x) (h1 : x < 100) : EO j ((33, k, f, z, w) :: ops) L (.inl y :: .inl x :: .inr (.inl (165)) :: st) σ = EO j ops L st (ev_up σ (165) x y) := eo_33 (by decide) h0 (by rw [show ev_len 165 = 100 by decide]; exact h1)
theorem a32_166 (h0 : 0 ≤ x) (h1 : x < 20) : EO j ((32, k, f, z, w) :: ops) L (.inl x :: .inr (.inl (166)) :: st) σ = EO j ops L (.inl (σ (166) x) :: st) σ := eo_32 (by decide) h0 (by rw [show ev_len 166 = 20 by decide]; exact h1)
theorem a33_166 (h0 : 0 ≤ x) (h1 : x < 20) : EO j ((33, k, f, z, w) :: ops) L (.inl y :: .inl x :: .inr (.inl (166)) :: st) σ = EO j ops L st (ev_up σ (166) x y) := eo_33 (by decide) h0 (by rw [show ev_len 166 = 20 by decide]; exact h1)
theorem a32_167 (h0 : 0 ≤ x) (h1 : x < 20) : EO j ((32, k, f, z, w) :: ops) L (.inl x :: .inr (.inl (167)) :: st) σ = EO j ops L (.inl (σ (167) x) :: st) σ := eo_32 (by decide) h0 (by rw [show ev_len 167 = 20 by decide]; exact h1)
theorem a33_167 (h0 : 0 ≤ x) (h1 : x < 20) : EO j ((33, k, f, z, w) :: ops) L (.inl y :: .inl x :: .inr (.inl (167)) :: st) σ = EO j ops L st (ev_up σ (167) x y) := eo_33 (by decide) h0 (by rw [show ev_len 167 = 20 by decide]; exact h1)
theorem a32_168 (h0 : 0 ≤ x) (h1 : x < 20) : EO j ((32, k, f, z, w) :: ops) L (.inl x :: .inr (.inl (168)) :: st) σ = EO j ops L (.inl (σ (168) x) :: st) σ := eo_32 (by decide) h0 (by rw [show ev_len 168 = 20 by decide]; exact h1)
theorem a33_168 (h0 : 0 ≤ x) (h1 : x < 20) : EO j ((33, k, f, z, w) :: ops) L (.inl y :: .inl x :: .inr (.inl (168)) :: st) σ = EO j ops L st (ev_up σ (168) x y) := eo_33 (by decide) h0 (by rw [show ev_len 168 = 20 by decide]; exact h1)
theorem a34_169 (h0 : 0 ≤ x) (h1 : x < 20) : EO j ((34, k, f, z, w) :: ops) L (.inl x :: .inr (.inl (169)) :: st) σ = EO j ops L (.inl (σ (169) x) :: st) σ := eo_34 (by decide) h0 (by rw [show ev_len 169 = 20 by decide]; exact h1)
theorem a35_169 (h0 : 0 ≤ x) (h1 : x < 20) (h2 : 0 ≤ y ∧ y ≤ 1) : EO j ((35, k, f, z, w) :: ops) L (.inl y :: .inl x :: .inr (.inl (169)) :: st) σ = EO j ops L st (ev_up σ (169) x y) := eo_35 (by decide) h0 (by rw [show ev_len 169 = 20 by decide]; exact h1) h2
theorem a32_171 (h0 : 0 ≤ x) (h1 : x < 6) : EO j ((32, k, f, z, w) :: ops) L (.inl x :: .inr (.inl (171)) :: st) σ = EO j ops L (.inl (σ (171) x) :: st) σ := eo_32 (by decide) h0 (by rw [show ev_len 171 = 6 by decide]; exact h1)
theorem a33_171 (h0 : 0 ≤ x) (h1 : x < 6) : EO j ((33, k, f, z, w) :: ops) L (.inl y :: .inl x :: .inr (.inl (171)) :: st) σ = EO j ops L st (ev_up σ (171) x y) := eo_33 (by decide) h0 (by rw [show ev_len 171 = 6 by decide]; exact h1)
theorem a32_172 (h0 : 0 ≤ x) (h1 : x < 6) : EO j ((32, k, f, z, w) :: ops) L (.inl x :: .inr (.inl (172)) :: st) σ = EO j ops L (.inl (σ (172) x) :: st) σ := eo_32 (by decide) h0 (by rw [show ev_len 172 = 6 by decide]; exact h1)
theorem a33_172 (h0 : 0 ≤ x) (h1 : x < 6) : EO j ((33, k, f, z, w) :: ops) L (.inl y :: .inl x :: .inr (.inl (172)) :: st) σ = EO j ops L st (ev_up σ (172) x y) := eo_33 (by decide) h0 (by rw [show ev_len 172 = 6 by decide]; exact h1)
theorem a32_174 (h0 : 0 ≤ x) (h1 : x < 10) : EO j ((32, k, f, z, w) :: ops) L (.inl x :: .inr (.inl (174)) :: st) σ = EO j ops L (.inl (σ (174) x) :: st) σ := eo_32 (by decide) h0 (by rw [show ev_len 174 = 10 by decide]; exact h1)
theorem a33_174 (h0 : 0 ≤ x) (h1 : x < 10) : EO j ((33, k, f, z, w) :: ops) L (.inl y :: .inl x :: .inr (.inl (174)) :: st) σ = EO j ops L st (ev_up σ (174) x y) := eo_33 (by decide) h0 (by rw [show ev_len 174 = 10 by decide]; exact h1)
theorem a32_175 (h0 : 0 ≤ x) (h1 : x < 10) : EO j ((32, k, f, z, w) :: ops) L (.inl x :: .inr (.inl (175)) :: st) σ = EO j ops L (.inl (σ (175) x) :: st) σ := eo_32 (by decide) h0 (by rw [show ev_len 175 = 10 by decide]; exact h1)
theorem a33_175 (h0 : 0 ≤ x) (h1 : x < 10) : EO j ((33, k, f, z, w) :: ops) L (.inl y :: .inl x :: .inr (.inl (175)) :: st) σ = EO j ops L st (ev_up σ (175) x y) := eo_33 (by decide) h0 (by rw [show ev_len 175 = 10 by decide]; exact h1)
theorem a32_176 (h0 : 0 ≤ x) (h1 : x < 10) : EO j ((32, k, f, z, w) :: ops) L (.inl x :: .inr (.inl (176)) :: st) σ = EO j ops L (.inl (σ (176) x) :: st) σ := eo_32 (by decide) h0 (by rw [show ev_len 176 = 10 by decide]; exact h1)
theorem a33_176 (h0 : 0 ≤ x) (h1 : x < 10) : EO j ((33, k, f, z, w) :: ops) L (.inl y :: .inl x :: .inr (.inl (176)) :: st) σ = EO j ops L st (ev_up σ (176) x y) := eo_33 (by decide) h0 (by rw [show ev_len 176 = 10 by decide]; exact h1)
theorem a32_178 (h0 : 0 ≤ x) (h1 : x < 6) : EO j ((32, k, f, z, w) :: ops) L (.inl x :: .inr (.inl (178)) :: st) σ = EO j ops L (.inl (σ (178) x) :: st) σ := eo_32 (by decide) h0 (by rw [show ev_len 178 = 6 by decide]; exact h1)
theorem a33_178 (h0 : 0 ≤ x) (h1 : x < 6) : EO j ((33, k, f, z, w) :: ops) L (.inl y :: .inl x :: .inr (.inl (178)) :: st) σ = EO j ops L st (ev_up σ (178) x y) := eo_33 (by decide) h0 (by rw [show ev_len 178 = 6 by decide]; exact h1)
theorem a32_180 (h0 : 0 ≤ x) (h1 : x < 8) : EO j ((32, k, f, z, w) :: ops) L (.inl x :: .inr (.inl (180)) :: st) σ = EO j ops L (.inl (σ (180) x) :: st) σ := eo_32 (by decide) h0 (by rw [show ev_len 180 = 8 by decide]; exact h1)
theorem a33_180 (h0 : 0 ≤ x) (h1 : x < 8) : EO j ((33, k, f, z, w) :: ops) L (.inl y :: .inl x :: .inr (.inl (180)) :: st) σ = EO j ops L st (ev_up σ (180) x y) := eo_33 (by decide) h0 (by rw [show ev_len 180 = 8 by decide]; exact h1)
theorem a32_181 (h0 : 0 ≤ x) (h1 : x < 8) : EO j ((32, k, f, z, w) :: ops) L (.inl x :: .inr (.inl (181)) :: st) σ = EO j ops L (.inl (σ (181) x) :: st) σ := eo_32 (by decide) h0 (by rw [show ev_len 181 = 8 by decide]; exact h1)
theorem a33_181 (h0 : 0 ≤ x) (h1 : x < 8) : EO j ((33, k, f, z, w) :: ops) L (.inl y :: .inl x :: .inr (.inl (181)) :: st) σ = EO j ops L st (ev_up σ (181) x y) := eo_33 (by decide) h0 (by rw [show ev_len 181 = 8 by decide]; exact h1)
theorem cp_s2 {t : Int} {k f : Nat} (hs : ev_S s) (ht : ev_S t) (h3 : ev_w st ≤ 8) : EO j ((61, k, f, z, w) :: ops) L (.inl 20 :: .inl 0 :: .inr (.inl (t + 2)) :: .inl 0 :: .inr (.inl (s + 2)) :: st) σ = EO j ops L st (ev_cp σ (s + 2) 0 (t + 2) 0 20) := eo_61 ⟨(cS_2 hs).1, (cS_2 ht).1⟩ ⟨by omega, by omega, by omega⟩ (by rw [(cS_2 hs).2]; omega) (by rw [(cS_2 ht).2]; omega) h3
theorem cp_s3 {t : Int} {k f : Nat} (hs : ev_S s) (ht : ev_S t) (h3 : ev_w st ≤ 8) : EO j ((61, k, f, z, w) :: ops) L (.inl 20 :: .inl 0 :: .inr (.inl (t + 3)) :: .inl 0 :: .inr (.inl (s + 3)) :: st) σ = EO j ops L st (ev_cp σ (s + 3) 0 (t + 3) 0 20) := eo_61 ⟨(cS_3 hs).1, (cS_3 ht).1⟩ ⟨by omega, by omega, by omega⟩ (by rw [(cS_3 hs).2]; omega) (by rw [(cS_3 ht).2]; omega) h3
theorem cp_s4 {t : Int} {k f : Nat} (hs : ev_S s) (ht : ev_S t) (h3 : ev_w st ≤ 8) : EO j ((61, k, f, z, w) :: ops) L (.inl 20 :: .inl 0 :: .inr (.inl (t + 4)) :: .inl 0 :: .inr (.inl (s + 4)) :: st) σ = EO j ops L st (ev_cp σ (s + 4) 0 (t + 4) 0 20) := eo_61 ⟨(cS_4 hs).1, (cS_4 ht).1⟩ ⟨by omega, by omega, by omega⟩ (by rw [(cS_4 hs).2]; omega) (by rw [(cS_4 ht).2]; omega) h3
theorem cp_s5 {t : Int} {k f : Nat} (hs : ev_S s) (ht : ev_S t) (h3 : ev_w st ≤ 8) : EO j ((61, k, f, z, w) :: ops) L (.inl 20 :: .inl 0 :: .inr (.inl (t + 5)) :: .inl 0 :: .inr (.inl (s + 5)) :: st) σ = EO j ops L st (ev_cp σ (s + 5) 0 (t + 5) 0 20) := eo_61 ⟨(cS_5 hs).1, (cS_5 ht).1⟩ ⟨by omega, by omega, by omega⟩ (by rw [(cS_5 hs).2]; omega) (by rw [(cS_5 ht).2]; omega) h3
theorem cp_s7 {t : Int} {k f : Nat} (hs : ev_S s) (ht : ev_S t) (h3 : ev_w st ≤ 8) : EO j ((61, k, f, z, w) :: ops) L (.inl 6 :: .inl 0 :: .inr (.inl (t + 7)) :: .inl 0 :: .inr (.inl (s + 7)) :: st) σ = EO j ops L st (ev_cp σ (s + 7) 0 (t + 7) 0 6) := eo_61 ⟨(cS_7 hs).1, (cS_7 ht).1⟩ ⟨by omega, by omega, by omega⟩ (by rw [(cS_7 hs).2]; omega) (by rw [(cS_7 ht).2]; omega) h3
theorem cp_s8 {t : Int} {k f : Nat} (hs : ev_S s) (ht : ev_S t) (h3 : ev_w st ≤ 8) : EO j ((61, k, f, z, w) :: ops) L (.inl 6 :: .inl 0 :: .inr (.inl (t + 8)) :: .inl 0 :: .inr (.inl (s + 8)) :: st) σ = EO j ops L st (ev_cp σ (s + 8) 0 (t + 8) 0 6) := eo_61 ⟨(cS_8 hs).1, (cS_8 ht).1⟩ ⟨by omega, by omega, by omega⟩ (by rw [(cS_8 hs).2]; omega) (by rw [(cS_8 ht).2]; omega) h3
theorem cp_s9 {t : Int} {k f : Nat} (hs : ev_S s) (ht : ev_S t) (h3 : ev_w st ≤ 8) : EO j ((61, k, f, z, w) :: ops) L (.inl 6 :: .inl 0 :: .inr (.inl (t + 9)) :: .inl 0 :: .inr (.inl (s + 9)) :: st) σ = EO j ops L st (ev_cp σ (s + 9) 0 (t + 9) 0 6) := eo_61 ⟨(cS_9 hs).1, (cS_9 ht).1⟩ ⟨by omega, by omega, by omega⟩ (by rw [(cS_9 hs).2]; omega) (by rw [(cS_9 ht).2]; omega) h3
theorem cp_s11 {t : Int} {k f : Nat} (hs : ev_S s) (ht : ev_S t) (h3 : ev_w st ≤ 8) : EO j ((61, k, f, z, w) :: ops) L (.inl 6 :: .inl 0 :: .inr (.inl (t + 11)) :: .inl 0 :: .inr (.inl (s + 11)) :: st) σ = EO j ops L st (ev_cp σ (s + 11) 0 (t + 11) 0 6) := eo_61 ⟨(cS_11 hs).1, (cS_11 ht).1⟩ ⟨by omega, by omega, by omega⟩ (by rw [(cS_11 hs).2]; omega) (by rw [(cS_11 ht).2]; omega) h3
theorem cp_s12 {t : Int} {k f : Nat} (hs : ev_S s) (ht : ev_S t) (h3 : ev_w st ≤ 8) : EO j ((61, k, f, z, w) :: ops) L (.inl 36 :: .inl 0 :: .inr (.inl (t + 12)) :: .inl 0 :: .inr (.inl (s + 12)) :: st) σ = EO j ops L st (ev_cp σ (s + 12) 0 (t + 12) 0 36) := eo_61 ⟨(cS_12 hs).1, (cS_12 ht).1⟩ ⟨by omega, by omega, by omega⟩ (by rw [(cS_12 hs).2]; omega) (by rw [(cS_12 ht).2]; omega) h3
theorem cp_s13 {t : Int} {k f : Nat} (hs : ev_S s) (ht : ev_S t) (h3 : ev_w st ≤ 8) : EO j ((61, k, f, z, w) :: ops) L (.inl 36 :: .inl 0 :: .inr (.inl (t + 13)) :: .inl 0 :: .inr (.inl (s + 13)) :: st) σ = EO j ops L st (ev_cp σ (s + 13) 0 (t + 13) 0 36) := eo_61 ⟨(cS_13 hs).1, (cS_13 ht).1⟩ ⟨by omega, by omega, by omega⟩ (by rw [(cS_13 hs).2]; omega) (by rw [(cS_13 ht).2]; omega) h3
theorem cp_s14 {t : Int} {k f : Nat} (hs : ev_S s) (ht : ev_S t) (h3 : ev_w st ≤ 8) : EO j ((61, k, f, z, w) :: ops) L (.inl 36 :: .inl 0 :: .inr (.inl (t + 14)) :: .inl 0 :: .inr (.inl (s + 14)) :: st) σ = EO j ops L st (ev_cp σ (s + 14) 0 (t + 14) 0 36) := eo_61 ⟨(cS_14 hs).1, (cS_14 ht).1⟩ ⟨by omega, by omega, by omega⟩ (by rw [(cS_14 hs).2]; omega) (by rw [(cS_14 ht).2]; omega) h3
theorem cp_s15 {t : Int} {k f : Nat} (hs : ev_S s) (ht : ev_S t) (h3 : ev_w st ≤ 8) : EO j ((61, k, f, z, w) :: ops) L (.inl 36 :: .inl 0 :: .inr (.inl (t + 15)) :: .inl 0 :: .inr (.inl (s + 15)) :: st) σ = EO j ops L st (ev_cp σ (s + 15) 0 (t + 15) 0 36) := eo_61 ⟨(cS_15 hs).1, (cS_15 ht).1⟩ ⟨by omega, by omega, by omega⟩ (by rw [(cS_15 hs).2]; omega) (by rw [(cS_15 ht).2]; omega) h3
theorem cp_s16 {t : Int} {k f : Nat} (hs : ev_S s) (ht : ev_S t) (h3 : ev_w st ≤ 8) : EO j ((61, k, f, z, w) :: ops) L (.inl 36 :: .inl 0 :: .inr (.inl (t + 16)) :: .inl 0 :: .inr (.inl (s + 16)) :: st) σ = EO j ops L st (ev_cp σ (s + 16) 0 (t + 16) 0 36) := eo_61 ⟨(cS_16 hs).1, (cS_16 ht).1⟩ ⟨by omega, by omega, by omega⟩ (by rw [(cS_16 hs).2]; omega) (by rw [(cS_16 ht).2]; omega) h3
theorem cp_s18 {t : Int} {k f : Nat} (hs : ev_S s) (ht : ev_S t) (h3 : ev_w st ≤ 8) : EO j ((61, k, f, z, w) :: ops) L (.inl 8 :: .inl 0 :: .inr (.inl (t + 18)) :: .inl 0 :: .inr (.inl (s + 18)) :: st) σ = EO j ops L st (ev_cp σ (s + 18) 0 (t + 18) 0 8) := eo_61 ⟨(cS_18 hs).1, (cS_18 ht).1⟩ ⟨by omega, by omega, by omega⟩ (by rw [(cS_18 hs).2]; omega) (by rw [(cS_18 ht).2]; omega) h3
theorem cp_s19 {t : Int} {k f : Nat} (hs : ev_S s) (ht : ev_S t) (h3 : ev_w st ≤ 8) : EO j ((61, k, f, z, w) :: ops) L (.inl 8 :: .inl 0 :: .inr (.inl (t + 19)) :: .inl 0 :: .inr (.inl (s + 19)) :: st) σ = EO j ops L st (ev_cp σ (s + 19) 0 (t + 19) 0 8) := eo_61 ⟨(cS_19 hs).1, (cS_19 ht).1⟩ ⟨by omega, by omega, by omega⟩ (by rw [(cS_19 hs).2]; omega) (by rw [(cS_19 ht).2]; omega) h3
theorem cp_s20 {t : Int} {k f : Nat} (hs : ev_S s) (ht : ev_S t) (h3 : ev_w st ≤ 8) : EO j ((61, k, f, z, w) :: ops) L (.inl 8 :: .inl 0 :: .inr (.inl (t + 20)) :: .inl 0 :: .inr (.inl (s + 20)) :: st) σ = EO j ops L st (ev_cp σ (s + 20) 0 (t + 20) 0 8) := eo_61 ⟨(cS_20 hs).1, (cS_20 ht).1⟩ ⟨by omega, by omega, by omega⟩ (by rw [(cS_20 hs).2]; omega) (by rw [(cS_20 ht).2]; omega) h3
theorem cp_s21 {t : Int} {k f : Nat} (hs : ev_S s) (ht : ev_S t) (h3 : ev_w st ≤ 8) : EO j ((61, k, f, z, w) :: ops) L (.inl 3 :: .inl 0 :: .inr (.inl (t + 21)) :: .inl 0 :: .inr (.inl (s + 21)) :: st) σ = EO j ops L st (ev_cp σ (s + 21) 0 (t + 21) 0 3) := eo_61 ⟨(cS_21 hs).1, (cS_21 ht).1⟩ ⟨by omega, by omega, by omega⟩ (by rw [(cS_21 hs).2]; omega) (by rw [(cS_21 ht).2]; omega) h3
theorem cp_s22 {t : Int} {k f : Nat} (hs : ev_S s) (ht : ev_S t) (h3 : ev_w st ≤ 8) : EO j ((61, k, f, z, w) :: ops) L (.inl 12 :: .inl 0 :: .inr (.inl (t + 22)) :: .inl 0 :: .inr (.inl (s + 22)) :: st) σ = EO j ops L st (ev_cp σ (s + 22) 0 (t + 22) 0 12) := eo_61 ⟨(cS_22 hs).1, (cS_22 ht).1⟩ ⟨by omega, by omega, by omega⟩ (by rw [(cS_22 hs).2]; omega) (by rw [(cS_22 ht).2]; omega) h3
theorem cp_aw {k f : Nat} (h3 : ev_w st ≤ 8) : EO j ((61, k, f, z, w) :: ops) L (.inl 8 :: .inl 0 :: .inr (.inl 180) :: .inl 0 :: .inr (.inl 181) :: st) σ = EO j ops L st (ev_cp σ 181 0 180 0 8) := eo_61 ⟨by decide, by decide⟩ ⟨by omega, by omega, by omega⟩ (by decide) (by decide) h3
variable {a0 a1 a2 a3 a4 a5 : ev_V}
theorem v0_2 (h3 : ev_w st ≤ 8) : EO j ((59, q, 2, z, 0) :: ops) L (a0 :: .inr (.inl (179)) :: st) σ = ev_k j ops L st (EM q [.inr (.inl (179)), a0] σ) := eo_59_2 ⟨h3, by rw [show ev_cls 179 = 0 by decide]; rfl⟩
theorem v0_3 (h3 : ev_w st ≤ 8) : EO j ((59, q, 3, z, 0) :: ops) L (a1 :: a0 :: .inr (.inl (179)) :: st) σ = ev_k j ops L st (EM q [.inr (.inl (179)), a0, a1] σ) := eo_59_3 ⟨h3, by rw [show ev_cls 179 = 0 by decide]; rfl⟩
theorem v1_2 (hs : ev_S s) (h3 : ev_w st ≤ 8) : EO j ((59, q, 2, z, 1) :: ops) L (a0 :: .inr (.inl (s + 6)) :: st) σ = ev_k j ops L st (EM q [.inr (.inl (s + 6)), a0] σ) := eo_59_2 ⟨h3, by rw [(cS_6 hs).1]; rfl⟩
theorem v1_3 (hs : ev_S s) (h3 : ev_w st ≤ 8) : EO j ((59, q, 3, z, 1) :: ops) L (a1 :: a0 :: .inr (.inl (s + 6)) :: st) σ = ev_k j ops L st (EM q [.inr (.inl (s + 6)), a0, a1] σ) := eo_59_3 ⟨h3, by rw [(cS_6 hs).1]; rfl⟩
theorem v1_4 (hs : ev_S s) (h3 : ev_w st ≤ 8) : EO j ((59, q, 4, z, 1) :: ops) L (a2 :: a1 :: a0 :: .inr (.inl (s + 6)) :: st) σ = ev_k j ops L st (EM q [.inr (.inl (s + 6)), a0, a1, a2] σ) := eo_59_4 ⟨h3, by rw [(cS_6 hs).1]; rfl⟩
theorem v1_5 (hs : ev_S s) (h3 : ev_w st ≤ 8) : EO j ((59, q, 5, z, 1) :: ops) L (a3 :: a2 :: a1 :: a0 :: .inr (.inl (s + 6)) :: st) σ = ev_k j ops L st (EM q [.inr (.inl (s + 6)), a0, a1, a2, a3] σ) := eo_59_5 ⟨h3, by rw [(cS_6 hs).1]; rfl⟩
theorem v2_2 (h3 : ev_w st ≤ 8) : EO j ((59, q, 2, z, 2) :: ops) L (a0 :: .inr (.inl (170)) :: st) σ = ev_k j ops L st (EM q [.inr (.inl (170)), a0] σ) := eo_59_2 ⟨h3, by rw [show ev_cls 170 = 2 by decide]; rfl⟩
theorem v2_3 (h3 : ev_w st ≤ 8) : EO j ((59, q, 3, z, 2) :: ops) L (a1 :: a0 :: .inr (.inl (170)) :: st) σ = ev_k j ops L st (EM q [.inr (.inl (170)), a0, a1] σ) := eo_59_3 ⟨h3, by rw [show ev_cls 170 = 2 by decide]; rfl⟩
theorem v2_4 (h3 : ev_w st ≤ 8) : EO j ((59, q, 4, z, 2) :: ops) L (a2 :: a1 :: a0 :: .inr (.inl (170)) :: st) σ = ev_k j ops L st (EM q [.inr (.inl (170)), a0, a1, a2] σ) := eo_59_4 ⟨h3, by rw [show ev_cls 170 = 2 by decide]; rfl⟩
theorem v3_1 (h3 : ev_w st ≤ 8) : EO j ((59, q, 1, z, 3) :: ops) L (.inr (.inl (162)) :: st) σ = ev_k j ops L st (EM q [.inr (.inl (162))] σ) := eo_59_1 ⟨h3, by rw [show ev_cls 162 = 3 by decide]; rfl⟩
theorem v3_2 (h3 : ev_w st ≤ 8) : EO j ((59, q, 2, z, 3) :: ops) L (a0 :: .inr (.inl (162)) :: st) σ = ev_k j ops L st (EM q [.inr (.inl (162)), a0] σ) := eo_59_2 ⟨h3, by rw [show ev_cls 162 = 3 by decide]; rfl⟩
theorem v4_2 (hs : ev_S s) (h3 : ev_w st ≤ 8) : EO j ((59, q, 2, z, 4) :: ops) L (a0 :: .inr (.inl (s + 17)) :: st) σ = ev_k j ops L st (EM q [.inr (.inl (s + 17)), a0] σ) := eo_59_2 ⟨h3, by rw [(cS_17 hs).1]; rfl⟩
theorem v4_4 (hs : ev_S s) (h3 : ev_w st ≤ 8) : EO j ((59, q, 4, z, 4) :: ops) L (a2 :: a1 :: a0 :: .inr (.inl (s + 17)) :: st) σ = ev_k j ops L st (EM q [.inr (.inl (s + 17)), a0, a1, a2] σ) := eo_59_4 ⟨h3, by rw [(cS_17 hs).1]; rfl⟩
theorem v4_6 (hs : ev_S s) (h3 : ev_w st ≤ 8) : EO j ((59, q, 6, z, 4) :: ops) L (a4 :: a3 :: a2 :: a1 :: a0 :: .inr (.inl (s + 17)) :: st) σ = ev_k j ops L st (EM q [.inr (.inl (s + 17)), a0, a1, a2, a3, a4] σ) := eo_59_6 ⟨h3, by rw [(cS_17 hs).1]; rfl⟩
theorem v5_1 (h3 : ev_w st ≤ 8) : EO j ((59, q, 1, z, 5) :: ops) L (.inr (.inl (164)) :: st) σ = ev_k j ops L st (EM q [.inr (.inl (164))] σ) := eo_59_1 ⟨h3, by rw [show ev_cls 164 = 5 by decide]; rfl⟩
theorem v5_2 (h3 : ev_w st ≤ 8) : EO j ((59, q, 2, z, 5) :: ops) L (a0 :: .inr (.inl (164)) :: st) σ = ev_k j ops L st (EM q [.inr (.inl (164)), a0] σ) := eo_59_2 ⟨h3, by rw [show ev_cls 164 = 5 by decide]; rfl⟩
theorem v5_4 (h3 : ev_w st ≤ 8) : EO j ((59, q, 4, z, 5) :: ops) L (a2 :: a1 :: a0 :: .inr (.inl (164)) :: st) σ = ev_k j ops L st (EM q [.inr (.inl (164)), a0, a1, a2] σ) := eo_59_4 ⟨h3, by rw [show ev_cls 164 = 5 by decide]; rfl⟩
theorem v6_2 (hs : ev_S s) (h3 : ev_w st ≤ 8) : EO j ((59, q, 2, z, 6) :: ops) L (a0 :: .inr (.inl (s + 1)) :: st) σ = ev_k j ops L st (EM q [.inr (.inl (s + 1)), a0] σ) := eo_59_2 ⟨h3, by rw [(cS_1 hs).1]; rfl⟩
theorem v6_4 (hs : ev_S s) (h3 : ev_w st ≤ 8) : EO j ((59, q, 4, z, 6) :: ops) L (a2 :: a1 :: a0 :: .inr (.inl (s + 1)) :: st) σ = ev_k j ops L st (EM q [.inr (.inl (s + 1)), a0, a1, a2] σ) := eo_59_4 ⟨h3, by rw [(cS_1 hs).1]; rfl⟩
theorem v7_1 (hs : ev_S s) (h3 : ev_w st ≤ 8) : EO j ((59, q, 1, z, 7) :: ops) L (.inr (.inl (s)) :: st) σ = ev_k j ops L st (EM q [.inr (.inl (s))] σ) := eo_59_1 ⟨h3, by rw [(cS_0 hs).1]; rfl⟩
theorem v7_2 (hs : ev_S s) (h3 : ev_w st ≤ 8) : EO j ((59, q, 2, z, 7) :: ops) L (a0 :: .inr (.inl (s)) :: st) σ = ev_k j ops L st (EM q [.inr (.inl (s)), a0] σ) := eo_59_2 ⟨h3, by rw [(cS_0 hs).1]; rfl⟩
theorem v7_3 (hs : ev_S s) (h3 : ev_w st ≤ 8) : EO j ((59, q, 3, z, 7) :: ops) L (a1 :: a0 :: .inr (.inl (s)) :: st) σ = ev_k j ops L st (EM q [.inr (.inl (s)), a0, a1] σ) := eo_59_3 ⟨h3, by rw [(cS_0 hs).1]; rfl⟩
theorem v8_6 (h3 : ev_w st ≤ 8) : EO j ((59, q, 6, z, 8) :: ops) L (a4 :: a3 :: a2 :: a1 :: a0 :: .inr (.inl (177)) :: st) σ = ev_k j ops L st (EM q [.inr (.inl (177)), a0, a1, a2, a3, a4] σ) := eo_59_6 ⟨h3, by rw [show ev_cls 177 = 8 by decide]; rfl⟩
theorem v9_2 (h3 : ev_w st ≤ 8) : EO j ((59, q, 2, z, 9) :: ops) L (a0 :: .inr (.inl (173)) :: st) σ = ev_k j ops L st (EM q [.inr (.inl (173)), a0] σ) := eo_59_2 ⟨h3, by rw [show ev_cls 173 = 9 by decide]; rfl⟩
theorem v9_3 (h3 : ev_w st ≤ 8) : EO j ((59, q, 3, z, 9) :: ops) L (a1 :: a0 :: .inr (.inl (173)) :: st) σ = ev_k j ops L st (EM q [.inr (.inl (173)), a0, a1] σ) := eo_59_3 ⟨h3, by rw [show ev_cls 173 = 9 by decide]; rfl⟩
theorem v9_4 (h3 : ev_w st ≤ 8) : EO j ((59, q, 4, z, 9) :: ops) L (a2 :: a1 :: a0 :: .inr (.inl (173)) :: st) σ = ev_k j ops L st (EM q [.inr (.inl (173)), a0, a1, a2] σ) := eo_59_4 ⟨h3, by rw [show ev_cls 173 = 9 by decide]; rfl⟩
theorem v9_5 (h3 : ev_w st ≤ 8) : EO j ((59, q, 5, z, 9) :: ops) L (a3 :: a2 :: a1 :: a0 :: .inr (.inl (173)) :: st) σ = ev_k j ops L st (EM q [.inr (.inl (173)), a0, a1, a2, a3] σ) := eo_59_5 ⟨h3, by rw [show ev_cls 173 = 9 by decide]; rfl⟩
theorem v10_1 (h3 : ev_w st ≤ 8) : EO j ((59, q, 1, z, 10) :: ops) L (.inr (.inl (161)) :: st) σ = ev_k j ops L st (EM q [.inr (.inl (161))] σ) := eo_59_1 ⟨h3, by rw [show ev_cls 161 = 10 by decide]; rfl⟩
theorem v10_2 (h3 : ev_w st ≤ 8) : EO j ((59, q, 2, z, 10) :: ops) L (a0 :: .inr (.inl (161)) :: st) σ = ev_k j ops L st (EM q [.inr (.inl (161)), a0] σ) := eo_59_2 ⟨h3, by rw [show ev_cls 161 = 10 by decide]; rfl⟩
theorem v10_3 (h3 : ev_w st ≤ 8) : EO j ((59, q, 3, z, 10) :: ops) L (a1 :: a0 :: .inr (.inl (161)) :: st) σ = ev_k j ops L st (EM q [.inr (.inl (161)), a0, a1] σ) := eo_59_3 ⟨h3, by rw [show ev_cls 161 = 10 by decide]; rfl⟩
theorem v10_4 (h3 : ev_w st ≤ 8) : EO j ((59, q, 4, z, 10) :: ops) L (a2 :: a1 :: a0 :: .inr (.inl (161)) :: st) σ = ev_k j ops L st (EM q [.inr (.inl (161)), a0, a1, a2] σ) := eo_59_4 ⟨h3, by rw [show ev_cls 161 = 10 by decide]; rfl⟩
theorem v10_5 (h3 : ev_w st ≤ 8) : EO j ((59, q, 5, z, 10) :: ops) L (a3 :: a2 :: a1 :: a0 :: .inr (.inl (161)) :: st) σ = ev_k j ops L st (EM q [.inr (.inl (161)), a0, a1, a2, a3] σ) := eo_59_5 ⟨h3, by rw [show ev_cls 161 = 10 by decide]; rfl⟩
theorem v10_6 (h3 : ev_w st ≤ 8) : EO j ((59, q, 6, z, 10) :: ops) L (a4 :: a3 :: a2 :: a1 :: a0 :: .inr (.inl (161)) :: st) σ = ev_k j ops L st (EM q [.inr (.inl (161)), a0, a1, a2, a3, a4] σ) := eo_59_6 ⟨h3, by rw [show ev_cls 161 = 10 by decide]; rfl⟩
end IDS
