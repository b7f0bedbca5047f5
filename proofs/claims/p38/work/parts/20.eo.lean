/-! the pure machine, an instruction each, as equations -/
section EOS
variable {j : Nat} {ops : List ev_O} {L : ev_L} {st : List ev_V} {σ : ev_M} {k f e c t n q : Nat} {z w x y : Int} {a b : ev_V} {h g : Int64} {i : Int} {R : Option ev_R}
theorem ev_wr_id {x : Int} (h0 : -2147483648 ≤ x) (h1 : x ≤ 2147483647) : ev_wr x = x := by
  unfold ev_wr
  omega
theorem ev_len_le (i : Int) : ev_len i ≤ 2366 := by
  unfold ev_len
  split
  · omega
  · have h : ∀ q ∈ ev_sh, q.2 ≤ 2366 := by decide +kernel
    rw [List.getD_eq_getElem?_getD]
    rcases hq : ev_sh[i.toNat]? with _ | q
    · simp
    · simp only [Option.getD_some]
      exact h q (List.mem_of_getElem? hq)
variable {p0 p1 p2 p3 p4 p5 p6 p7 p8 p9 p10 p11 p12 p13 p14 p15 p16 : Option ev_V}
theorem eo_0_0 : EO j ((0, 0, f, z, w) :: ops) (some (.inl x) :: L) st σ = EO j ops (some (.inl x) :: L) (.inl x :: st) σ := by
  rfl
theorem eo_0_1 : EO j ((0, 1, f, z, w) :: ops) (p0 :: some (.inl x) :: L) st σ = EO j ops (p0 :: some (.inl x) :: L) (.inl x :: st) σ := by
  rfl
theorem eo_0_2 : EO j ((0, 2, f, z, w) :: ops) (p0 :: p1 :: some (.inl x) :: L) st σ = EO j ops (p0 :: p1 :: some (.inl x) :: L) (.inl x :: st) σ := by
  rfl
theorem eo_0_3 : EO j ((0, 3, f, z, w) :: ops) (p0 :: p1 :: p2 :: some (.inl x) :: L) st σ = EO j ops (p0 :: p1 :: p2 :: some (.inl x) :: L) (.inl x :: st) σ := by
  rfl
theorem eo_0_4 : EO j ((0, 4, f, z, w) :: ops) (p0 :: p1 :: p2 :: p3 :: some (.inl x) :: L) st σ = EO j ops (p0 :: p1 :: p2 :: p3 :: some (.inl x) :: L) (.inl x :: st) σ := by
  rfl
theorem eo_0_5 : EO j ((0, 5, f, z, w) :: ops) (p0 :: p1 :: p2 :: p3 :: p4 :: some (.inl x) :: L) st σ = EO j ops (p0 :: p1 :: p2 :: p3 :: p4 :: some (.inl x) :: L) (.inl x :: st) σ := by
  rfl
theorem eo_0_6 : EO j ((0, 6, f, z, w) :: ops) (p0 :: p1 :: p2 :: p3 :: p4 :: p5 :: some (.inl x) :: L) st σ = EO j ops (p0 :: p1 :: p2 :: p3 :: p4 :: p5 :: some (.inl x) :: L) (.inl x :: st) σ := by
  rfl
theorem eo_0_7 : EO j ((0, 7, f, z, w) :: ops) (p0 :: p1 :: p2 :: p3 :: p4 :: p5 :: p6 :: some (.inl x) :: L) st σ = EO j ops (p0 :: p1 :: p2 :: p3 :: p4 :: p5 :: p6 :: some (.inl x) :: L) (.inl x :: st) σ := by
  rfl
theorem eo_0_8 : EO j ((0, 8, f, z, w) :: ops) (p0 :: p1 :: p2 :: p3 :: p4 :: p5 :: p6 :: p7 :: some (.inl x) :: L) st σ = EO j ops (p0 :: p1 :: p2 :: p3 :: p4 :: p5 :: p6 :: p7 :: some (.inl x) :: L) (.inl x :: st) σ := by
  rfl
theorem eo_0_9 : EO j ((0, 9, f, z, w) :: ops) (p0 :: p1 :: p2 :: p3 :: p4 :: p5 :: p6 :: p7 :: p8 :: some (.inl x) :: L) st σ = EO j ops (p0 :: p1 :: p2 :: p3 :: p4 :: p5 :: p6 :: p7 :: p8 :: some (.inl x) :: L) (.inl x :: st) σ := by
  rfl
theorem eo_0_10 : EO j ((0, 10, f, z, w) :: ops) (p0 :: p1 :: p2 :: p3 :: p4 :: p5 :: p6 :: p7 :: p8 :: p9 :: some (.inl x) :: L) st σ = EO j ops (p0 :: p1 :: p2 :: p3 :: p4 :: p5 :: p6 :: p7 :: p8 :: p9 :: some (.inl x) :: L) (.inl x :: st) σ := by
  rfl
theorem eo_0_11 : EO j ((0, 11, f, z, w) :: ops) (p0 :: p1 :: p2 :: p3 :: p4 :: p5 :: p6 :: p7 :: p8 :: p9 :: p10 :: some (.inl x) :: L) st σ = EO j ops (p0 :: p1 :: p2 :: p3 :: p4 :: p5 :: p6 :: p7 :: p8 :: p9 :: p10 :: some (.inl x) :: L) (.inl x :: st) σ := by
  rfl
theorem eo_0_12 : EO j ((0, 12, f, z, w) :: ops) (p0 :: p1 :: p2 :: p3 :: p4 :: p5 :: p6 :: p7 :: p8 :: p9 :: p10 :: p11 :: some (.inl x) :: L) st σ = EO j ops (p0 :: p1 :: p2 :: p3 :: p4 :: p5 :: p6 :: p7 :: p8 :: p9 :: p10 :: p11 :: some (.inl x) :: L) (.inl x :: st) σ := by
  rfl
theorem eo_0_13 : EO j ((0, 13, f, z, w) :: ops) (p0 :: p1 :: p2 :: p3 :: p4 :: p5 :: p6 :: p7 :: p8 :: p9 :: p10 :: p11 :: p12 :: some (.inl x) :: L) st σ = EO j ops (p0 :: p1 :: p2 :: p3 :: p4 :: p5 :: p6 :: p7 :: p8 :: p9 :: p10 :: p11 :: p12 :: some (.inl x) :: L) (.inl x :: st) σ := by
  rfl
theorem eo_0_14 : EO j ((0, 14, f, z, w) :: ops) (p0 :: p1 :: p2 :: p3 :: p4 :: p5 :: p6 :: p7 :: p8 :: p9 :: p10 :: p11 :: p12 :: p13 :: some (.inl x) :: L) st σ = EO j ops (p0 :: p1 :: p2 :: p3 :: p4 :: p5 :: p6 :: p7 :: p8 :: p9 :: p10 :: p11 :: p12 :: p13 :: some (.inl x) :: L) (.inl x :: st) σ := by
  rfl
theorem eo_0_15 : EO j ((0, 15, f, z, w) :: ops) (p0 :: p1 :: p2 :: p3 :: p4 :: p5 :: p6 :: p7 :: p8 :: p9 :: p10 :: p11 :: p12 :: p13 :: p14 :: some (.inl x) :: L) st σ = EO j ops (p0 :: p1 :: p2 :: p3 :: p4 :: p5 :: p6 :: p7 :: p8 :: p9 :: p10 :: p11 :: p12 :: p13 :: p14 :: some (.inl x) :: L) (.inl x :: st) σ := by
  rfl
theorem eo_0_16 : EO j ((0, 16, f, z, w) :: ops) (p0 :: p1 :: p2 :: p3 :: p4 :: p5 :: p6 :: p7 :: p8 :: p9 :: p10 :: p11 :: p12 :: p13 :: p14 :: p15 :: some (.inl x) :: L) st σ = EO j ops (p0 :: p1 :: p2 :: p3 :: p4 :: p5 :: p6 :: p7 :: p8 :: p9 :: p10 :: p11 :: p12 :: p13 :: p14 :: p15 :: some (.inl x) :: L) (.inl x :: st) σ := by
  rfl
theorem eo_1_0 : EO j ((1, 0, f, z, w) :: ops) (some (.inr (.inl x)) :: L) st σ = EO j ops (some (.inr (.inl x)) :: L) (.inr (.inl x) :: st) σ := by
  rfl
theorem eo_1_1 : EO j ((1, 1, f, z, w) :: ops) (p0 :: some (.inr (.inl x)) :: L) st σ = EO j ops (p0 :: some (.inr (.inl x)) :: L) (.inr (.inl x) :: st) σ := by
  rfl
theorem eo_1_2 : EO j ((1, 2, f, z, w) :: ops) (p0 :: p1 :: some (.inr (.inl x)) :: L) st σ = EO j ops (p0 :: p1 :: some (.inr (.inl x)) :: L) (.inr (.inl x) :: st) σ := by
  rfl
theorem eo_1_3 : EO j ((1, 3, f, z, w) :: ops) (p0 :: p1 :: p2 :: some (.inr (.inl x)) :: L) st σ = EO j ops (p0 :: p1 :: p2 :: some (.inr (.inl x)) :: L) (.inr (.inl x) :: st) σ := by
  rfl
theorem eo_1_4 : EO j ((1, 4, f, z, w) :: ops) (p0 :: p1 :: p2 :: p3 :: some (.inr (.inl x)) :: L) st σ = EO j ops (p0 :: p1 :: p2 :: p3 :: some (.inr (.inl x)) :: L) (.inr (.inl x) :: st) σ := by
  rfl
theorem eo_1_5 : EO j ((1, 5, f, z, w) :: ops) (p0 :: p1 :: p2 :: p3 :: p4 :: some (.inr (.inl x)) :: L) st σ = EO j ops (p0 :: p1 :: p2 :: p3 :: p4 :: some (.inr (.inl x)) :: L) (.inr (.inl x) :: st) σ := by
  rfl
theorem eo_1_6 : EO j ((1, 6, f, z, w) :: ops) (p0 :: p1 :: p2 :: p3 :: p4 :: p5 :: some (.inr (.inl x)) :: L) st σ = EO j ops (p0 :: p1 :: p2 :: p3 :: p4 :: p5 :: some (.inr (.inl x)) :: L) (.inr (.inl x) :: st) σ := by
  rfl
theorem eo_1_7 : EO j ((1, 7, f, z, w) :: ops) (p0 :: p1 :: p2 :: p3 :: p4 :: p5 :: p6 :: some (.inr (.inl x)) :: L) st σ = EO j ops (p0 :: p1 :: p2 :: p3 :: p4 :: p5 :: p6 :: some (.inr (.inl x)) :: L) (.inr (.inl x) :: st) σ := by
  rfl
theorem eo_1_8 : EO j ((1, 8, f, z, w) :: ops) (p0 :: p1 :: p2 :: p3 :: p4 :: p5 :: p6 :: p7 :: some (.inr (.inl x)) :: L) st σ = EO j ops (p0 :: p1 :: p2 :: p3 :: p4 :: p5 :: p6 :: p7 :: some (.inr (.inl x)) :: L) (.inr (.inl x) :: st) σ := by
  rfl
theorem eo_1_9 : EO j ((1, 9, f, z, w) :: ops) (p0 :: p1 :: p2 :: p3 :: p4 :: p5 :: p6 :: p7 :: p8 :: some (.inr (.inl x)) :: L) st σ = EO j ops (p0 :: p1 :: p2 :: p3 :: p4 :: p5 :: p6 :: p7 :: p8 :: some (.inr (.inl x)) :: L) (.inr (.inl x) :: st) σ := by
  rfl
theorem eo_1_10 : EO j ((1, 10, f, z, w) :: ops) (p0 :: p1 :: p2 :: p3 :: p4 :: p5 :: p6 :: p7 :: p8 :: p9 :: some (.inr (.inl x)) :: L) st σ = EO j ops (p0 :: p1 :: p2 :: p3 :: p4 :: p5 :: p6 :: p7 :: p8 :: p9 :: some (.inr (.inl x)) :: L) (.inr (.inl x) :: st) σ := by
  rfl
theorem eo_1_11 : EO j ((1, 11, f, z, w) :: ops) (p0 :: p1 :: p2 :: p3 :: p4 :: p5 :: p6 :: p7 :: p8 :: p9 :: p10 :: some (.inr (.inl x)) :: L) st σ = EO j ops (p0 :: p1 :: p2 :: p3 :: p4 :: p5 :: p6 :: p7 :: p8 :: p9 :: p10 :: some (.inr (.inl x)) :: L) (.inr (.inl x) :: st) σ := by
  rfl
theorem eo_1_12 : EO j ((1, 12, f, z, w) :: ops) (p0 :: p1 :: p2 :: p3 :: p4 :: p5 :: p6 :: p7 :: p8 :: p9 :: p10 :: p11 :: some (.inr (.inl x)) :: L) st σ = EO j ops (p0 :: p1 :: p2 :: p3 :: p4 :: p5 :: p6 :: p7 :: p8 :: p9 :: p10 :: p11 :: some (.inr (.inl x)) :: L) (.inr (.inl x) :: st) σ := by
  rfl
theorem eo_1_13 : EO j ((1, 13, f, z, w) :: ops) (p0 :: p1 :: p2 :: p3 :: p4 :: p5 :: p6 :: p7 :: p8 :: p9 :: p10 :: p11 :: p12 :: some (.inr (.inl x)) :: L) st σ = EO j ops (p0 :: p1 :: p2 :: p3 :: p4 :: p5 :: p6 :: p7 :: p8 :: p9 :: p10 :: p11 :: p12 :: some (.inr (.inl x)) :: L) (.inr (.inl x) :: st) σ := by
  rfl
theorem eo_1_14 : EO j ((1, 14, f, z, w) :: ops) (p0 :: p1 :: p2 :: p3 :: p4 :: p5 :: p6 :: p7 :: p8 :: p9 :: p10 :: p11 :: p12 :: p13 :: some (.inr (.inl x)) :: L) st σ = EO j ops (p0 :: p1 :: p2 :: p3 :: p4 :: p5 :: p6 :: p7 :: p8 :: p9 :: p10 :: p11 :: p12 :: p13 :: some (.inr (.inl x)) :: L) (.inr (.inl x) :: st) σ := by
  rfl
theorem eo_1_15 : EO j ((1, 15, f, z, w) :: ops) (p0 :: p1 :: p2 :: p3 :: p4 :: p5 :: p6 :: p7 :: p8 :: p9 :: p10 :: p11 :: p12 :: p13 :: p14 :: some (.inr (.inl x)) :: L) st σ = EO j ops (p0 :: p1 :: p2 :: p3 :: p4 :: p5 :: p6 :: p7 :: p8 :: p9 :: p10 :: p11 :: p12 :: p13 :: p14 :: some (.inr (.inl x)) :: L) (.inr (.inl x) :: st) σ := by
  rfl
theorem eo_1_16 : EO j ((1, 16, f, z, w) :: ops) (p0 :: p1 :: p2 :: p3 :: p4 :: p5 :: p6 :: p7 :: p8 :: p9 :: p10 :: p11 :: p12 :: p13 :: p14 :: p15 :: some (.inr (.inl x)) :: L) st σ = EO j ops (p0 :: p1 :: p2 :: p3 :: p4 :: p5 :: p6 :: p7 :: p8 :: p9 :: p10 :: p11 :: p12 :: p13 :: p14 :: p15 :: some (.inr (.inl x)) :: L) (.inr (.inl x) :: st) σ := by
  rfl
theorem eo_2_0 : EO j ((2, 0, f, z, w) :: ops) (some (.inr (.inr h)) :: L) st σ = EO j ops (some (.inr (.inr h)) :: L) (.inr (.inr h) :: st) σ := by
  rfl
theorem eo_2_1 : EO j ((2, 1, f, z, w) :: ops) (p0 :: some (.inr (.inr h)) :: L) st σ = EO j ops (p0 :: some (.inr (.inr h)) :: L) (.inr (.inr h) :: st) σ := by
  rfl
theorem eo_2_2 : EO j ((2, 2, f, z, w) :: ops) (p0 :: p1 :: some (.inr (.inr h)) :: L) st σ = EO j ops (p0 :: p1 :: some (.inr (.inr h)) :: L) (.inr (.inr h) :: st) σ := by
  rfl
theorem eo_2_3 : EO j ((2, 3, f, z, w) :: ops) (p0 :: p1 :: p2 :: some (.inr (.inr h)) :: L) st σ = EO j ops (p0 :: p1 :: p2 :: some (.inr (.inr h)) :: L) (.inr (.inr h) :: st) σ := by
  rfl
theorem eo_2_4 : EO j ((2, 4, f, z, w) :: ops) (p0 :: p1 :: p2 :: p3 :: some (.inr (.inr h)) :: L) st σ = EO j ops (p0 :: p1 :: p2 :: p3 :: some (.inr (.inr h)) :: L) (.inr (.inr h) :: st) σ := by
  rfl
theorem eo_2_5 : EO j ((2, 5, f, z, w) :: ops) (p0 :: p1 :: p2 :: p3 :: p4 :: some (.inr (.inr h)) :: L) st σ = EO j ops (p0 :: p1 :: p2 :: p3 :: p4 :: some (.inr (.inr h)) :: L) (.inr (.inr h) :: st) σ := by
  rfl
theorem eo_2_6 : EO j ((2, 6, f, z, w) :: ops) (p0 :: p1 :: p2 :: p3 :: p4 :: p5 :: some (.inr (.inr h)) :: L) st σ = EO j ops (p0 :: p1 :: p2 :: p3 :: p4 :: p5 :: some (.inr (.inr h)) :: L) (.inr (.inr h) :: st) σ := by
  rfl
theorem eo_2_7 : EO j ((2, 7, f, z, w) :: ops) (p0 :: p1 :: p2 :: p3 :: p4 :: p5 :: p6 :: some (.inr (.inr h)) :: L) st σ = EO j ops (p0 :: p1 :: p2 :: p3 :: p4 :: p5 :: p6 :: some (.inr (.inr h)) :: L) (.inr (.inr h) :: st) σ := by
  rfl
theorem eo_2_8 : EO j ((2, 8, f, z, w) :: ops) (p0 :: p1 :: p2 :: p3 :: p4 :: p5 :: p6 :: p7 :: some (.inr (.inr h)) :: L) st σ = EO j ops (p0 :: p1 :: p2 :: p3 :: p4 :: p5 :: p6 :: p7 :: some (.inr (.inr h)) :: L) (.inr (.inr h) :: st) σ := by
  rfl
theorem eo_2_9 : EO j ((2, 9, f, z, w) :: ops) (p0 :: p1 :: p2 :: p3 :: p4 :: p5 :: p6 :: p7 :: p8 :: some (.inr (.inr h)) :: L) st σ = EO j ops (p0 :: p1 :: p2 :: p3 :: p4 :: p5 :: p6 :: p7 :: p8 :: some (.inr (.inr h)) :: L) (.inr (.inr h) :: st) σ := by
  rfl
theorem eo_2_10 : EO j ((2, 10, f, z, w) :: ops) (p0 :: p1 :: p2 :: p3 :: p4 :: p5 :: p6 :: p7 :: p8 :: p9 :: some (.inr (.inr h)) :: L) st σ = EO j ops (p0 :: p1 :: p2 :: p3 :: p4 :: p5 :: p6 :: p7 :: p8 :: p9 :: some (.inr (.inr h)) :: L) (.inr (.inr h) :: st) σ := by
  rfl
theorem eo_2_11 : EO j ((2, 11, f, z, w) :: ops) (p0 :: p1 :: p2 :: p3 :: p4 :: p5 :: p6 :: p7 :: p8 :: p9 :: p10 :: some (.inr (.inr h)) :: L) st σ = EO j ops (p0 :: p1 :: p2 :: p3 :: p4 :: p5 :: p6 :: p7 :: p8 :: p9 :: p10 :: some (.inr (.inr h)) :: L) (.inr (.inr h) :: st) σ := by
  rfl
theorem eo_2_12 : EO j ((2, 12, f, z, w) :: ops) (p0 :: p1 :: p2 :: p3 :: p4 :: p5 :: p6 :: p7 :: p8 :: p9 :: p10 :: p11 :: some (.inr (.inr h)) :: L) st σ = EO j ops (p0 :: p1 :: p2 :: p3 :: p4 :: p5 :: p6 :: p7 :: p8 :: p9 :: p10 :: p11 :: some (.inr (.inr h)) :: L) (.inr (.inr h) :: st) σ := by
  rfl
theorem eo_2_13 : EO j ((2, 13, f, z, w) :: ops) (p0 :: p1 :: p2 :: p3 :: p4 :: p5 :: p6 :: p7 :: p8 :: p9 :: p10 :: p11 :: p12 :: some (.inr (.inr h)) :: L) st σ = EO j ops (p0 :: p1 :: p2 :: p3 :: p4 :: p5 :: p6 :: p7 :: p8 :: p9 :: p10 :: p11 :: p12 :: some (.inr (.inr h)) :: L) (.inr (.inr h) :: st) σ := by
  rfl
theorem eo_2_14 : EO j ((2, 14, f, z, w) :: ops) (p0 :: p1 :: p2 :: p3 :: p4 :: p5 :: p6 :: p7 :: p8 :: p9 :: p10 :: p11 :: p12 :: p13 :: some (.inr (.inr h)) :: L) st σ = EO j ops (p0 :: p1 :: p2 :: p3 :: p4 :: p5 :: p6 :: p7 :: p8 :: p9 :: p10 :: p11 :: p12 :: p13 :: some (.inr (.inr h)) :: L) (.inr (.inr h) :: st) σ := by
  rfl
theorem eo_2_15 : EO j ((2, 15, f, z, w) :: ops) (p0 :: p1 :: p2 :: p3 :: p4 :: p5 :: p6 :: p7 :: p8 :: p9 :: p10 :: p11 :: p12 :: p13 :: p14 :: some (.inr (.inr h)) :: L) st σ = EO j ops (p0 :: p1 :: p2 :: p3 :: p4 :: p5 :: p6 :: p7 :: p8 :: p9 :: p10 :: p11 :: p12 :: p13 :: p14 :: some (.inr (.inr h)) :: L) (.inr (.inr h) :: st) σ := by
  rfl
theorem eo_2_16 : EO j ((2, 16, f, z, w) :: ops) (p0 :: p1 :: p2 :: p3 :: p4 :: p5 :: p6 :: p7 :: p8 :: p9 :: p10 :: p11 :: p12 :: p13 :: p14 :: p15 :: some (.inr (.inr h)) :: L) st σ = EO j ops (p0 :: p1 :: p2 :: p3 :: p4 :: p5 :: p6 :: p7 :: p8 :: p9 :: p10 :: p11 :: p12 :: p13 :: p14 :: p15 :: some (.inr (.inr h)) :: L) (.inr (.inr h) :: st) σ := by
  rfl
theorem eo_3_0 : EO j ((3, 0, f, z, w) :: ops) (p16 :: L) (.inl x :: st) σ = EO j ops (some (.inl x) :: L) st σ := by
  rfl
theorem eo_3_1n : EO j ((3, 1, f, z, w) :: ops) (none :: p16 :: L) (.inl x :: st) σ = EO j ops (none :: some (.inl x) :: L) st σ := by
  unfold EO; simp only [ev_o, ev_x, ev_nl, ev_get, ev_set, List.length_cons]; rw [if_pos ⟨trivial, by omega⟩]
theorem eo_3_1i : EO j ((3, 1, f, z, w) :: ops) (some (.inl y) :: p16 :: L) (.inl x :: st) σ = EO j ops (some (.inl y) :: some (.inl x) :: L) st σ := by
  unfold EO; simp only [ev_o, ev_x, ev_nl, ev_get, ev_set, List.length_cons]; rw [if_pos ⟨trivial, by omega⟩]
theorem eo_3_1r : EO j ((3, 1, f, z, w) :: ops) (some (.inr (.inl y)) :: p16 :: L) (.inl x :: st) σ = EO j ops (some (.inr (.inl y)) :: some (.inl x) :: L) st σ := by
  unfold EO; simp only [ev_o, ev_x, ev_nl, ev_get, ev_set, List.length_cons]; rw [if_pos ⟨trivial, by omega⟩]
theorem eo_3_2n : EO j ((3, 2, f, z, w) :: ops) (p0 :: none :: p16 :: L) (.inl x :: st) σ = EO j ops (p0 :: none :: some (.inl x) :: L) st σ := by
  unfold EO; simp only [ev_o, ev_x, ev_nl, ev_get, ev_set, List.length_cons]; rw [if_pos ⟨trivial, by omega⟩]
theorem eo_3_2i : EO j ((3, 2, f, z, w) :: ops) (p0 :: some (.inl y) :: p16 :: L) (.inl x :: st) σ = EO j ops (p0 :: some (.inl y) :: some (.inl x) :: L) st σ := by
  unfold EO; simp only [ev_o, ev_x, ev_nl, ev_get, ev_set, List.length_cons]; rw [if_pos ⟨trivial, by omega⟩]
theorem eo_3_2r : EO j ((3, 2, f, z, w) :: ops) (p0 :: some (.inr (.inl y)) :: p16 :: L) (.inl x :: st) σ = EO j ops (p0 :: some (.inr (.inl y)) :: some (.inl x) :: L) st σ := by
  unfold EO; simp only [ev_o, ev_x, ev_nl, ev_get, ev_set, List.length_cons]; rw [if_pos ⟨trivial, by omega⟩]
theorem eo_3_3n : EO j ((3, 3, f, z, w) :: ops) (p0 :: p1 :: none :: p16 :: L) (.inl x :: st) σ = EO j ops (p0 :: p1 :: none :: some (.inl x) :: L) st σ := by
  unfold EO; simp only [ev_o, ev_x, ev_nl, ev_get, ev_set, List.length_cons]; rw [if_pos ⟨trivial, by omega⟩]
theorem eo_3_3i : EO j ((3, 3, f, z, w) :: ops) (p0 :: p1 :: some (.inl y) :: p16 :: L) (.inl x :: st) σ = EO j ops (p0 :: p1 :: some (.inl y) :: some (.inl x) :: L) st σ := by
  unfold EO; simp only [ev_o, ev_x, ev_nl, ev_get, ev_set, List.length_cons]; rw [if_pos ⟨trivial, by omega⟩]
theorem eo_3_3r : EO j ((3, 3, f, z, w) :: ops) (p0 :: p1 :: some (.inr (.inl y)) :: p16 :: L) (.inl x :: st) σ = EO j ops (p0 :: p1 :: some (.inr (.inl y)) :: some (.inl x) :: L) st σ := by
  unfold EO; simp only [ev_o, ev_x, ev_nl, ev_get, ev_set, List.length_cons]; rw [if_pos ⟨trivial, by omega⟩]
theorem eo_3_4n : EO j ((3, 4, f, z, w) :: ops) (p0 :: p1 :: p2 :: none :: p16 :: L) (.inl x :: st) σ = EO j ops (p0 :: p1 :: p2 :: none :: some (.inl x) :: L) st σ := by
  unfold EO; simp only [ev_o, ev_x, ev_nl, ev_get, ev_set, List.length_cons]; rw [if_pos ⟨trivial, by omega⟩]
theorem eo_3_4i : EO j ((3, 4, f, z, w) :: ops) (p0 :: p1 :: p2 :: some (.inl y) :: p16 :: L) (.inl x :: st) σ = EO j ops (p0 :: p1 :: p2 :: some (.inl y) :: some (.inl x) :: L) st σ := by
  unfold EO; simp only [ev_o, ev_x, ev_nl, ev_get, ev_set, List.length_cons]; rw [if_pos ⟨trivial, by omega⟩]
theorem eo_3_4r : EO j ((3, 4, f, z, w) :: ops) (p0 :: p1 :: p2 :: some (.inr (.inl y)) :: p16 :: L) (.inl x :: st) σ = EO j ops (p0 :: p1 :: p2 :: some (.inr (.inl y)) :: some (.inl x) :: L) st σ := by
  unfold EO; simp only [ev_o, ev_x, ev_nl, ev_get, ev_set, List.length_cons]; rw [if_pos ⟨trivial, by omega⟩]
theorem eo_3_5n : EO j ((3, 5, f, z, w) :: ops) (p0 :: p1 :: p2 :: p3 :: none :: p16 :: L) (.inl x :: st) σ = EO j ops (p0 :: p1 :: p2 :: p3 :: none :: some (.inl x) :: L) st σ := by
  unfold EO; simp only [ev_o, ev_x, ev_nl, ev_get, ev_set, List.length_cons]; rw [if_pos ⟨trivial, by omega⟩]
theorem eo_3_5i : EO j ((3, 5, f, z, w) :: ops) (p0 :: p1 :: p2 :: p3 :: some (.inl y) :: p16 :: L) (.inl x :: st) σ = EO j ops (p0 :: p1 :: p2 :: p3 :: some (.inl y) :: some (.inl x) :: L) st σ := by
  unfold EO; simp only [ev_o, ev_x, ev_nl, ev_get, ev_set, List.length_cons]; rw [if_pos ⟨trivial, by omega⟩]
theorem eo_3_5r : EO j ((3, 5, f, z, w) :: ops) (p0 :: p1 :: p2 :: p3 :: some (.inr (.inl y)) :: p16 :: L) (.inl x :: st) σ = EO j ops (p0 :: p1 :: p2 :: p3 :: some (.inr (.inl y)) :: some (.inl x) :: L) st σ := by
  unfold EO; simp only [ev_o, ev_x, ev_nl, ev_get, ev_set, List.length_cons]; rw [if_pos ⟨trivial, by omega⟩]
theorem eo_3_6n : EO j ((3, 6, f, z, w) :: ops) (p0 :: p1 :: p2 :: p3 :: p4 :: none :: p16 :: L) (.inl x :: st) σ = EO j ops (p0 :: p1 :: p2 :: p3 :: p4 :: none :: some (.inl x) :: L) st σ := by
  unfold EO; simp only [ev_o, ev_x, ev_nl, ev_get, ev_set, List.length_cons]; rw [if_pos ⟨trivial, by omega⟩]
theorem eo_3_6i : EO j ((3, 6, f, z, w) :: ops) (p0 :: p1 :: p2 :: p3 :: p4 :: some (.inl y) :: p16 :: L) (.inl x :: st) σ = EO j ops (p0 :: p1 :: p2 :: p3 :: p4 :: some (.inl y) :: some (.inl x) :: L) st σ := by
  unfold EO; simp only [ev_o, ev_x, ev_nl, ev_get, ev_set, List.length_cons]; rw [if_pos ⟨trivial, by omega⟩]
theorem eo_3_6r : EO j ((3, 6, f, z, w) :: ops) (p0 :: p1 :: p2 :: p3 :: p4 :: some (.inr (.inl y)) :: p16 :: L) (.inl x :: st) σ = EO j ops (p0 :: p1 :: p2 :: p3 :: p4 :: some (.inr (.inl y)) :: some (.inl x) :: L) st σ := by
  unfold EO; simp only [ev_o, ev_x, ev_nl, ev_get, ev_set, List.length_cons]; rw [if_pos ⟨trivial, by omega⟩]
theorem eo_3_7n : EO j ((3, 7, f, z, w) :: ops) (p0 :: p1 :: p2 :: p3 :: p4 :: p5 :: none :: p16 :: L) (.inl x :: st) σ = EO j ops (p0 :: p1 :: p2 :: p3 :: p4 :: p5 :: none :: some (.inl x) :: L) st σ := by
  unfold EO; simp only [ev_o, ev_x, ev_nl, ev_get, ev_set, List.length_cons]; rw [if_pos ⟨trivial, by omega⟩]
theorem eo_3_7i : EO j ((3, 7, f, z, w) :: ops) (p0 :: p1 :: p2 :: p3 :: p4 :: p5 :: some (.inl y) :: p16 :: L) (.inl x :: st) σ = EO j ops (p0 :: p1 :: p2 :: p3 :: p4 :: p5 :: some (.inl y) :: some (.inl x) :: L) st σ := by
  unfold EO; simp only [ev_o, ev_x, ev_nl, ev_get, ev_set, List.length_cons]; rw [if_pos ⟨trivial, by omega⟩]
theorem eo_3_7r : EO j ((3, 7, f, z, w) :: ops) (p0 :: p1 :: p2 :: p3 :: p4 :: p5 :: some (.inr (.inl y)) :: p16 :: L) (.inl x :: st) σ = EO j ops (p0 :: p1 :: p2 :: p3 :: p4 :: p5 :: some (.inr (.inl y)) :: some (.inl x) :: L) st σ := by
  unfold EO; simp only [ev_o, ev_x, ev_nl, ev_get, ev_set, List.length_cons]; rw [if_pos ⟨trivial, by omega⟩]
theorem eo_3_8n : EO j ((3, 8, f, z, w) :: ops) (p0 :: p1 :: p2 :: p3 :: p4 :: p5 :: p6 :: none :: p16 :: L) (.inl x :: st) σ = EO j ops (p0 :: p1 :: p2 :: p3 :: p4 :: p5 :: p6 :: none :: some (.inl x) :: L) st σ := by
  unfold EO; simp only [ev_o, ev_x, ev_nl, ev_get, ev_set, List.length_cons]; rw [if_pos ⟨trivial, by omega⟩]
theorem eo_3_8i : EO j ((3, 8, f, z, w) :: ops) (p0 :: p1 :: p2 :: p3 :: p4 :: p5 :: p6 :: some (.inl y) :: p16 :: L) (.inl x :: st) σ = EO j ops (p0 :: p1 :: p2 :: p3 :: p4 :: p5 :: p6 :: some (.inl y) :: some (.inl x) :: L) st σ := by
  unfold EO; simp only [ev_o, ev_x, ev_nl, ev_get, ev_set, List.length_cons]; rw [if_pos ⟨trivial, by omega⟩]
theorem eo_3_8r : EO j ((3, 8, f, z, w) :: ops) (p0 :: p1 :: p2 :: p3 :: p4 :: p5 :: p6 :: some (.inr (.inl y)) :: p16 :: L) (.inl x :: st) σ = EO j ops (p0 :: p1 :: p2 :: p3 :: p4 :: p5 :: p6 :: some (.inr (.inl y)) :: some (.inl x) :: L) st σ := by
  unfold EO; simp only [ev_o, ev_x, ev_nl, ev_get, ev_set, List.length_cons]; rw [if_pos ⟨trivial, by omega⟩]
theorem eo_3_9n : EO j ((3, 9, f, z, w) :: ops) (p0 :: p1 :: p2 :: p3 :: p4 :: p5 :: p6 :: p7 :: none :: p16 :: L) (.inl x :: st) σ = EO j ops (p0 :: p1 :: p2 :: p3 :: p4 :: p5 :: p6 :: p7 :: none :: some (.inl x) :: L) st σ := by
  unfold EO; simp only [ev_o, ev_x, ev_nl, ev_get, ev_set, List.length_cons]; rw [if_pos ⟨trivial, by omega⟩]
theorem eo_3_9i : EO j ((3, 9, f, z, w) :: ops) (p0 :: p1 :: p2 :: p3 :: p4 :: p5 :: p6 :: p7 :: some (.inl y) :: p16 :: L) (.inl x :: st) σ = EO j ops (p0 :: p1 :: p2 :: p3 :: p4 :: p5 :: p6 :: p7 :: some (.inl y) :: some (.inl x) :: L) st σ := by
  unfold EO; simp only [ev_o, ev_x, ev_nl, ev_get, ev_set, List.length_cons]; rw [if_pos ⟨trivial, by omega⟩]
theorem eo_3_9r : EO j ((3, 9, f, z, w) :: ops) (p0 :: p1 :: p2 :: p3 :: p4 :: p5 :: p6 :: p7 :: some (.inr (.inl y)) :: p16 :: L) (.inl x :: st) σ = EO j ops (p0 :: p1 :: p2 :: p3 :: p4 :: p5 :: p6 :: p7 :: some (.inr (.inl y)) :: some (.inl x) :: L) st σ := by
  unfold EO; simp only [ev_o, ev_x, ev_nl, ev_get, ev_set, List.length_cons]; rw [if_pos ⟨trivial, by omega⟩]
theorem eo_3_10n : EO j ((3, 10, f, z, w) :: ops) (p0 :: p1 :: p2 :: p3 :: p4 :: p5 :: p6 :: p7 :: p8 :: none :: p16 :: L) (.inl x :: st) σ = EO j ops (p0 :: p1 :: p2 :: p3 :: p4 :: p5 :: p6 :: p7 :: p8 :: none :: some (.inl x) :: L) st σ := by
  unfold EO; simp only [ev_o, ev_x, ev_nl, ev_get, ev_set, List.length_cons]; rw [if_pos ⟨trivial, by omega⟩]
theorem eo_3_10i : EO j ((3, 10, f, z, w) :: ops) (p0 :: p1 :: p2 :: p3 :: p4 :: p5 :: p6 :: p7 :: p8 :: some (.inl y) :: p16 :: L) (.inl x :: st) σ = EO j ops (p0 :: p1 :: p2 :: p3 :: p4 :: p5 :: p6 :: p7 :: p8 :: some (.inl y) :: some (.inl x) :: L) st σ := by
  unfold EO; simp only [ev_o, ev_x, ev_nl, ev_get, ev_set, List.length_cons]; rw [if_pos ⟨trivial, by omega⟩]
theorem eo_3_10r : EO j ((3, 10, f, z, w) :: ops) (p0 :: p1 :: p2 :: p3 :: p4 :: p5 :: p6 :: p7 :: p8 :: some (.inr (.inl y)) :: p16 :: L) (.inl x :: st) σ = EO j ops (p0 :: p1 :: p2 :: p3 :: p4 :: p5 :: p6 :: p7 :: p8 :: some (.inr (.inl y)) :: some (.inl x) :: L) st σ := by
  unfold EO; simp only [ev_o, ev_x, ev_nl, ev_get, ev_set, List.length_cons]; rw [if_pos ⟨trivial, by omega⟩]
theorem eo_3_11n : EO j ((3, 11, f, z, w) :: ops) (p0 :: p1 :: p2 :: p3 :: p4 :: p5 :: p6 :: p7 :: p8 :: p9 :: none :: p16 :: L) (.inl x :: st) σ = EO j ops (p0 :: p1 :: p2 :: p3 :: p4 :: p5 :: p6 :: p7 :: p8 :: p9 :: none :: some (.inl x) :: L) st σ := by
  unfold EO; simp only [ev_o, ev_x, ev_nl, ev_get, ev_set, List.length_cons]; rw [if_pos ⟨trivial, by omega⟩]
theorem eo_3_11i : EO j ((3, 11, f, z, w) :: ops) (p0 :: p1 :: p2 :: p3 :: p4 :: p5 :: p6 :: p7 :: p8 :: p9 :: some (.inl y) :: p16 :: L) (.inl x :: st) σ = EO j ops (p0 :: p1 :: p2 :: p3 :: p4 :: p5 :: p6 :: p7 :: p8 :: p9 :: some (.inl y) :: some (.inl x) :: L) st σ := by
  unfold EO; simp only [ev_o, ev_x, ev_nl, ev_get, ev_set, List.length_cons]; rw [if_pos ⟨trivial, by omega⟩]
theorem eo_3_11r : EO j ((3, 11, f, z, w) :: ops) (p0 :: p1 :: p2 :: p3 :: p4 :: p5 :: p6 :: p7 :: p8 :: p9 :: some (.inr (.inl y)) :: p16 :: L) (.inl x :: st) σ = EO j ops (p0 :: p1 :: p2 :: p3 :: p4 :: p5 :: p6 :: p7 :: p8 :: p9 :: some (.inr (.inl y)) :: some (.inl x) :: L) st σ := by
  unfold EO; simp only [ev_o, ev_x, ev_nl, ev_get, ev_set, List.length_cons]; rw [if_pos ⟨trivial, by omega⟩]
theorem eo_3_12n : EO j ((3, 12, f, z, w) :: ops) (p0 :: p1 :: p2 :: p3 :: p4 :: p5 :: p6 :: p7 :: p8 :: p9 :: p10 :: none :: p16 :: L) (.inl x :: st) σ = EO j ops (p0 :: p1 :: p2 :: p3 :: p4 :: p5 :: p6 :: p7 :: p8 :: p9 :: p10 :: none :: some (.inl x) :: L) st σ := by
  unfold EO; simp only [ev_o, ev_x, ev_nl, ev_get, ev_set, List.length_cons]; rw [if_pos ⟨trivial, by omega⟩]
theorem eo_3_12i : EO j ((3, 12, f, z, w) :: ops) (p0 :: p1 :: p2 :: p3 :: p4 :: p5 :: p6 :: p7 :: p8 :: p9 :: p10 :: some (.inl y) :: p16 :: L) (.inl x :: st) σ = EO j ops (p0 :: p1 :: p2 :: p3 :: p4 :: p5 :: p6 :: p7 :: p8 :: p9 :: p10 :: some (.inl y) :: some (.inl x) :: L) st σ := by
  unfold EO; simp only [ev_o, ev_x, ev_nl, ev_get, ev_set, List.length_cons]; rw [if_pos ⟨trivial, by omega⟩]
theorem eo_3_12r : EO j ((3, 12, f, z, w) :: ops) (p0 :: p1 :: p2 :: p3 :: p4 :: p5 :: p6 :: p7 :: p8 :: p9 :: p10 :: some (.inr (.inl y)) :: p16 :: L) (.inl x :: st) σ = EO j ops (p0 :: p1 :: p2 :: p3 :: p4 :: p5 :: p6 :: p7 :: p8 :: p9 :: p10 :: some (.inr (.inl y)) :: some (.inl x) :: L) st σ := by
  unfold EO; simp only [ev_o, ev_x, ev_nl, ev_get, ev_set, List.length_cons]; rw [if_pos ⟨trivial, by omega⟩]
theorem eo_3_13n : EO j ((3, 13, f, z, w) :: ops) (p0 :: p1 :: p2 :: p3 :: p4 :: p5 :: p6 :: p7 :: p8 :: p9 :: p10 :: p11 :: none :: p16 :: L) (.inl x :: st) σ = EO j ops (p0 :: p1 :: p2 :: p3 :: p4 :: p5 :: p6 :: p7 :: p8 :: p9 :: p10 :: p11 :: none :: some (.inl x) :: L) st σ := by
  unfold EO; simp only [ev_o, ev_x, ev_nl, ev_get, ev_set, List.length_cons]; rw [if_pos ⟨trivial, by omega⟩]
theorem eo_3_13i : EO j ((3, 13, f, z, w) :: ops) (p0 :: p1 :: p2 :: p3 :: p4 :: p5 :: p6 :: p7 :: p8 :: p9 :: p10 :: p11 :: some (.inl y) :: p16 :: L) (.inl x :: st) σ = EO j ops (p0 :: p1 :: p2 :: p3 :: p4 :: p5 :: p6 :: p7 :: p8 :: p9 :: p10 :: p11 :: some (.inl y) :: some (.inl x) :: L) st σ := by
  unfold EO; simp only [ev_o, ev_x, ev_nl, ev_get, ev_set, List.length_cons]; rw [if_pos ⟨trivial, by omega⟩]
theorem eo_3_13r : EO j ((3, 13, f, z, w) :: ops) (p0 :: p1 :: p2 :: p3 :: p4 :: p5 :: p6 :: p7 :: p8 :: p9 :: p10 :: p11 :: some (.inr (.inl y)) :: p16 :: L) (.inl x :: st) σ = EO j ops (p0 :: p1 :: p2 :: p3 :: p4 :: p5 :: p6 :: p7 :: p8 :: p9 :: p10 :: p11 :: some (.inr (.inl y)) :: some (.inl x) :: L) st σ := by
  unfold EO; simp only [ev_o, ev_x, ev_nl, ev_get, ev_set, List.length_cons]; rw [if_pos ⟨trivial, by omega⟩]
theorem eo_3_14n : EO j ((3, 14, f, z, w) :: ops) (p0 :: p1 :: p2 :: p3 :: p4 :: p5 :: p6 :: p7 :: p8 :: p9 :: p10 :: p11 :: p12 :: none :: p16 :: L) (.inl x :: st) σ = EO j ops (p0 :: p1 :: p2 :: p3 :: p4 :: p5 :: p6 :: p7 :: p8 :: p9 :: p10 :: p11 :: p12 :: none :: some (.inl x) :: L) st σ := by
  unfold EO; simp only [ev_o, ev_x, ev_nl, ev_get, ev_set, List.length_cons]; rw [if_pos ⟨trivial, by omega⟩]
theorem eo_3_14i : EO j ((3, 14, f, z, w) :: ops) (p0 :: p1 :: p2 :: p3 :: p4 :: p5 :: p6 :: p7 :: p8 :: p9 :: p10 :: p11 :: p12 :: some (.inl y) :: p16 :: L) (.inl x :: st) σ = EO j ops (p0 :: p1 :: p2 :: p3 :: p4 :: p5 :: p6 :: p7 :: p8 :: p9 :: p10 :: p11 :: p12 :: some (.inl y) :: some (.inl x) :: L) st σ := by
  unfold EO; simp only [ev_o, ev_x, ev_nl, ev_get, ev_set, List.length_cons]; rw [if_pos ⟨trivial, by omega⟩]
theorem eo_3_14r : EO j ((3, 14, f, z, w) :: ops) (p0 :: p1 :: p2 :: p3 :: p4 :: p5 :: p6 :: p7 :: p8 :: p9 :: p10 :: p11 :: p12 :: some (.inr (.inl y)) :: p16 :: L) (.inl x :: st) σ = EO j ops (p0 :: p1 :: p2 :: p3 :: p4 :: p5 :: p6 :: p7 :: p8 :: p9 :: p10 :: p11 :: p12 :: some (.inr (.inl y)) :: some (.inl x) :: L) st σ := by
  unfold EO; simp only [ev_o, ev_x, ev_nl, ev_get, ev_set, List.length_cons]; rw [if_pos ⟨trivial, by omega⟩]
theorem eo_3_15n : EO j ((3, 15, f, z, w) :: ops) (p0 :: p1 :: p2 :: p3 :: p4 :: p5 :: p6 :: p7 :: p8 :: p9 :: p10 :: p11 :: p12 :: p13 :: none :: p16 :: L) (.inl x :: st) σ = EO j ops (p0 :: p1 :: p2 :: p3 :: p4 :: p5 :: p6 :: p7 :: p8 :: p9 :: p10 :: p11 :: p12 :: p13 :: none :: some (.inl x) :: L) st σ := by
  unfold EO; simp only [ev_o, ev_x, ev_nl, ev_get, ev_set, List.length_cons]; rw [if_pos ⟨trivial, by omega⟩]
theorem eo_3_15i : EO j ((3, 15, f, z, w) :: ops) (p0 :: p1 :: p2 :: p3 :: p4 :: p5 :: p6 :: p7 :: p8 :: p9 :: p10 :: p11 :: p12 :: p13 :: some (.inl y) :: p16 :: L) (.inl x :: st) σ = EO j ops (p0 :: p1 :: p2 :: p3 :: p4 :: p5 :: p6 :: p7 :: p8 :: p9 :: p10 :: p11 :: p12 :: p13 :: some (.inl y) :: some (.inl x) :: L) st σ := by
  unfold EO; simp only [ev_o, ev_x, ev_nl, ev_get, ev_set, List.length_cons]; rw [if_pos ⟨trivial, by omega⟩]
theorem eo_3_15r : EO j ((3, 15, f, z, w) :: ops) (p0 :: p1 :: p2 :: p3 :: p4 :: p5 :: p6 :: p7 :: p8 :: p9 :: p10 :: p11 :: p12 :: p13 :: some (.inr (.inl y)) :: p16 :: L) (.inl x :: st) σ = EO j ops (p0 :: p1 :: p2 :: p3 :: p4 :: p5 :: p6 :: p7 :: p8 :: p9 :: p10 :: p11 :: p12 :: p13 :: some (.inr (.inl y)) :: some (.inl x) :: L) st σ := by
  unfold EO; simp only [ev_o, ev_x, ev_nl, ev_get, ev_set, List.length_cons]; rw [if_pos ⟨trivial, by omega⟩]
theorem eo_3_16n : EO j ((3, 16, f, z, w) :: ops) (p0 :: p1 :: p2 :: p3 :: p4 :: p5 :: p6 :: p7 :: p8 :: p9 :: p10 :: p11 :: p12 :: p13 :: p14 :: none :: p16 :: L) (.inl x :: st) σ = EO j ops (p0 :: p1 :: p2 :: p3 :: p4 :: p5 :: p6 :: p7 :: p8 :: p9 :: p10 :: p11 :: p12 :: p13 :: p14 :: none :: some (.inl x) :: L) st σ := by
  unfold EO; simp only [ev_o, ev_x, ev_nl, ev_get, ev_set, List.length_cons]; rw [if_pos ⟨trivial, by omega⟩]
theorem eo_3_16i : EO j ((3, 16, f, z, w) :: ops) (p0 :: p1 :: p2 :: p3 :: p4 :: p5 :: p6 :: p7 :: p8 :: p9 :: p10 :: p11 :: p12 :: p13 :: p14 :: some (.inl y) :: p16 :: L) (.inl x :: st) σ = EO j ops (p0 :: p1 :: p2 :: p3 :: p4 :: p5 :: p6 :: p7 :: p8 :: p9 :: p10 :: p11 :: p12 :: p13 :: p14 :: some (.inl y) :: some (.inl x) :: L) st σ := by
  unfold EO; simp only [ev_o, ev_x, ev_nl, ev_get, ev_set, List.length_cons]; rw [if_pos ⟨trivial, by omega⟩]
theorem eo_3_16r : EO j ((3, 16, f, z, w) :: ops) (p0 :: p1 :: p2 :: p3 :: p4 :: p5 :: p6 :: p7 :: p8 :: p9 :: p10 :: p11 :: p12 :: p13 :: p14 :: some (.inr (.inl y)) :: p16 :: L) (.inl x :: st) σ = EO j ops (p0 :: p1 :: p2 :: p3 :: p4 :: p5 :: p6 :: p7 :: p8 :: p9 :: p10 :: p11 :: p12 :: p13 :: p14 :: some (.inr (.inl y)) :: some (.inl x) :: L) st σ := by
  unfold EO; simp only [ev_o, ev_x, ev_nl, ev_get, ev_set, List.length_cons]; rw [if_pos ⟨trivial, by omega⟩]
theorem eo_4_0 : EO j ((4, 0, f, z, w) :: ops) (p16 :: L) (.inr (.inl x) :: st) σ = EO j ops (some (.inr (.inl x)) :: L) st σ := by
  rfl
theorem eo_4_1n : EO j ((4, 1, f, z, w) :: ops) (none :: p16 :: L) (.inr (.inl x) :: st) σ = EO j ops (none :: some (.inr (.inl x)) :: L) st σ := by
  unfold EO; simp only [ev_o, ev_x, ev_nl, ev_get, ev_set, List.length_cons]; rw [if_pos ⟨trivial, by omega⟩]
theorem eo_4_1i : EO j ((4, 1, f, z, w) :: ops) (some (.inl y) :: p16 :: L) (.inr (.inl x) :: st) σ = EO j ops (some (.inl y) :: some (.inr (.inl x)) :: L) st σ := by
  unfold EO; simp only [ev_o, ev_x, ev_nl, ev_get, ev_set, List.length_cons]; rw [if_pos ⟨trivial, by omega⟩]
theorem eo_4_1r : EO j ((4, 1, f, z, w) :: ops) (some (.inr (.inl y)) :: p16 :: L) (.inr (.inl x) :: st) σ = EO j ops (some (.inr (.inl y)) :: some (.inr (.inl x)) :: L) st σ := by
  unfold EO; simp only [ev_o, ev_x, ev_nl, ev_get, ev_set, List.length_cons]; rw [if_pos ⟨trivial, by omega⟩]
theorem eo_4_2n : EO j ((4, 2, f, z, w) :: ops) (p0 :: none :: p16 :: L) (.inr (.inl x) :: st) σ = EO j ops (p0 :: none :: some (.inr (.inl x)) :: L) st σ := by
  unfold EO; simp only [ev_o, ev_x, ev_nl, ev_get, ev_set, List.length_cons]; rw [if_pos ⟨trivial, by omega⟩]
theorem eo_4_2i : EO j ((4, 2, f, z, w) :: ops) (p0 :: some (.inl y) :: p16 :: L) (.inr (.inl x) :: st) σ = EO j ops (p0 :: some (.inl y) :: some (.inr (.inl x)) :: L) st σ := by
  unfold EO; simp only [ev_o, ev_x, ev_nl, ev_get, ev_set, List.length_cons]; rw [if_pos ⟨trivial, by omega⟩]
theorem eo_4_2r : EO j ((4, 2, f, z, w) :: ops) (p0 :: some (.inr (.inl y)) :: p16 :: L) (.inr (.inl x) :: st) σ = EO j ops (p0 :: some (.inr (.inl y)) :: some (.inr (.inl x)) :: L) st σ := by
  unfold EO; simp only [ev_o, ev_x, ev_nl, ev_get, ev_set, List.length_cons]; rw [if_pos ⟨trivial, by omega⟩]
theorem eo_4_3n : EO j ((4, 3, f, z, w) :: ops) (p0 :: p1 :: none :: p16 :: L) (.inr (.inl x) :: st) σ = EO j ops (p0 :: p1 :: none :: some (.inr (.inl x)) :: L) st σ := by
  unfold EO; simp only [ev_o, ev_x, ev_nl, ev_get, ev_set, List.length_cons]; rw [if_pos ⟨trivial, by omega⟩]
theorem eo_4_3i : EO j ((4, 3, f, z, w) :: ops) (p0 :: p1 :: some (.inl y) :: p16 :: L) (.inr (.inl x) :: st) σ = EO j ops (p0 :: p1 :: some (.inl y) :: some (.inr (.inl x)) :: L) st σ := by
  unfold EO; simp only [ev_o, ev_x, ev_nl, ev_get, ev_set, List.length_cons]; rw [if_pos ⟨trivial, by omega⟩]
theorem eo_4_3r : EO j ((4, 3, f, z, w) :: ops) (p0 :: p1 :: some (.inr (.inl y)) :: p16 :: L) (.inr (.inl x) :: st) σ = EO j ops (p0 :: p1 :: some (.inr (.inl y)) :: some (.inr (.inl x)) :: L) st σ := by
  unfold EO; simp only [ev_o, ev_x, ev_nl, ev_get, ev_set, List.length_cons]; rw [if_pos ⟨trivial, by omega⟩]
theorem eo_4_4n : EO j ((4, 4, f, z, w) :: ops) (p0 :: p1 :: p2 :: none :: p16 :: L) (.inr (.inl x) :: st) σ = EO j ops (p0 :: p1 :: p2 :: none :: some (.inr (.inl x)) :: L) st σ := by
  unfold EO; simp only [ev_o, ev_x, ev_nl, ev_get, ev_set, List.length_cons]; rw [if_pos ⟨trivial, by omega⟩]
theorem eo_4_4i : EO j ((4, 4, f, z, w) :: ops) (p0 :: p1 :: p2 :: some (.inl y) :: p16 :: L) (.inr (.inl x) :: st) σ = EO j ops (p0 :: p1 :: p2 :: some (.inl y) :: some (.inr (.inl x)) :: L) st σ := by
  unfold EO; simp only [ev_o, ev_x, ev_nl, ev_get, ev_set, List.length_cons]; rw [if_pos ⟨trivial, by omega⟩]
theorem eo_4_4r : EO j ((4, 4, f, z, w) :: ops) (p0 :: p1 :: p2 :: some (.inr (.inl y)) :: p16 :: L) (.inr (.inl x) :: st) σ = EO j ops (p0 :: p1 :: p2 :: some (.inr (.inl y)) :: some (.inr (.inl x)) :: L) st σ := by
  unfold EO; simp only [ev_o, ev_x, ev_nl, ev_get, ev_set, List.length_cons]; rw [if_pos ⟨trivial, by omega⟩]
theorem eo_4_5n : EO j ((4, 5, f, z, w) :: ops) (p0 :: p1 :: p2 :: p3 :: none :: p16 :: L) (.inr (.inl x) :: st) σ = EO j ops (p0 :: p1 :: p2 :: p3 :: none :: some (.inr (.inl x)) :: L) st σ := by
  unfold EO; simp only [ev_o, ev_x, ev_nl, ev_get, ev_set, List.length_cons]; rw [if_pos ⟨trivial, by omega⟩]
theorem eo_4_5i : EO j ((4, 5, f, z, w) :: ops) (p0 :: p1 :: p2 :: p3 :: some (.inl y) :: p16 :: L) (.inr (.inl x) :: st) σ = EO j ops (p0 :: p1 :: p2 :: p3 :: some (.inl y) :: some (.inr (.inl x)) :: L) st σ := by
  unfold EO; simp only [ev_o, ev_x, ev_nl, ev_get, ev_set, List.length_cons]; rw [if_pos ⟨trivial, by omega⟩]
theorem eo_4_5r : EO j ((4, 5, f, z, w) :: ops) (p0 :: p1 :: p2 :: p3 :: some (.inr (.inl y)) :: p16 :: L) (.inr (.inl x) :: st) σ = EO j ops (p0 :: p1 :: p2 :: p3 :: some (.inr (.inl y)) :: some (.inr (.inl x)) :: L) st σ := by
  unfold EO; simp only [ev_o, ev_x, ev_nl, ev_get, ev_set, List.length_cons]; rw [if_pos ⟨trivial, by omega⟩]
theorem eo_4_6n : EO j ((4, 6, f, z, w) :: ops) (p0 :: p1 :: p2 :: p3 :: p4 :: none :: p16 :: L) (.inr (.inl x) :: st) σ = EO j ops (p0 :: p1 :: p2 :: p3 :: p4 :: none :: some (.inr (.inl x)) :: L) st σ := by
  unfold EO; simp only [ev_o, ev_x, ev_nl, ev_get, ev_set, List.length_cons]; rw [if_pos ⟨trivial, by omega⟩]
theorem eo_4_6i : EO j ((4, 6, f, z, w) :: ops) (p0 :: p1 :: p2 :: p3 :: p4 :: some (.inl y) :: p16 :: L) (.inr (.inl x) :: st) σ = EO j ops (p0 :: p1 :: p2 :: p3 :: p4 :: some (.inl y) :: some (.inr (.inl x)) :: L) st σ := by
  unfold EO; simp only [ev_o, ev_x, ev_nl, ev_get, ev_set, List.length_cons]; rw [if_pos ⟨trivial, by omega⟩]
theorem eo_4_6r : EO j ((4, 6, f, z, w) :: ops) (p0 :: p1 :: p2 :: p3 :: p4 :: some (.inr (.inl y)) :: p16 :: L) (.inr (.inl x) :: st) σ = EO j ops (p0 :: p1 :: p2 :: p3 :: p4 :: some (.inr (.inl y)) :: some (.inr (.inl x)) :: L) st σ := by
  unfold EO; simp only [ev_o, ev_x, ev_nl, ev_get, ev_set, List.length_cons]; rw [if_pos ⟨trivial, by omega⟩]
theorem eo_4_7n : EO j ((4, 7, f, z, w) :: ops) (p0 :: p1 :: p2 :: p3 :: p4 :: p5 :: none :: p16 :: L) (.inr (.inl x) :: st) σ = EO j ops (p0 :: p1 :: p2 :: p3 :: p4 :: p5 :: none :: some (.inr (.inl x)) :: L) st σ := by
  unfold EO; simp only [ev_o, ev_x, ev_nl, ev_get, ev_set, List.length_cons]; rw [if_pos ⟨trivial, by omega⟩]
theorem eo_4_7i : EO j ((4, 7, f, z, w) :: ops) (p0 :: p1 :: p2 :: p3 :: p4 :: p5 :: some (.inl y) :: p16 :: L) (.inr (.inl x) :: st) σ = EO j ops (p0 :: p1 :: p2 :: p3 :: p4 :: p5 :: some (.inl y) :: some (.inr (.inl x)) :: L) st σ := by
  unfold EO; simp only [ev_o, ev_x, ev_nl, ev_get, ev_set, List.length_cons]; rw [if_pos ⟨trivial, by omega⟩]
theorem eo_4_7r : EO j ((4, 7, f, z, w) :: ops) (p0 :: p1 :: p2 :: p3 :: p4 :: p5 :: some (.inr (.inl y)) :: p16 :: L) (.inr (.inl x) :: st) σ = EO j ops (p0 :: p1 :: p2 :: p3 :: p4 :: p5 :: some (.inr (.inl y)) :: some (.inr (.inl x)) :: L) st σ := by
  unfold EO; simp only [ev_o, ev_x, ev_nl, ev_get, ev_set, List.length_cons]; rw [if_pos ⟨trivial, by omega⟩]
theorem eo_4_8n : EO j ((4, 8, f, z, w) :: ops) (p0 :: p1 :: p2 :: p3 :: p4 :: p5 :: p6 :: none :: p16 :: L) (.inr (.inl x) :: st) σ = EO j ops (p0 :: p1 :: p2 :: p3 :: p4 :: p5 :: p6 :: none :: some (.inr (.inl x)) :: L) st σ := by
  unfold EO; simp only [ev_o, ev_x, ev_nl, ev_get, ev_set, List.length_cons]; rw [if_pos ⟨trivial, by omega⟩]
theorem eo_4_8i : EO j ((4, 8, f, z, w) :: ops) (p0 :: p1 :: p2 :: p3 :: p4 :: p5 :: p6 :: some (.inl y) :: p16 :: L) (.inr (.inl x) :: st) σ = EO j ops (p0 :: p1 :: p2 :: p3 :: p4 :: p5 :: p6 :: some (.inl y) :: some (.inr (.inl x)) :: L) st σ := by
  unfold EO; simp only [ev_o, ev_x, ev_nl, ev_get, ev_set, List.length_cons]; rw [if_pos ⟨trivial, by omega⟩]
theorem eo_4_8r : EO j ((4, 8, f, z, w) :: ops) (p0 :: p1 :: p2 :: p3 :: p4 :: p5 :: p6 :: some (.inr (.inl y)) :: p16 :: L) (.inr (.inl x) :: st) σ = EO j ops (p0 :: p1 :: p2 :: p3 :: p4 :: p5 :: p6 :: some (.inr (.inl y)) :: some (.inr (.inl x)) :: L) st σ := by
  unfold EO; simp only [ev_o, ev_x, ev_nl, ev_get, ev_set, List.length_cons]; rw [if_pos ⟨trivial, by omega⟩]
theorem eo_4_9n : EO j ((4, 9, f, z, w) :: ops) (p0 :: p1 :: p2 :: p3 :: p4 :: p5 :: p6 :: p7 :: none :: p16 :: L) (.inr (.inl x) :: st) σ = EO j ops (p0 :: p1 :: p2 :: p3 :: p4 :: p5 :: p6 :: p7 :: none :: some (.inr (.inl x)) :: L) st σ := by
  unfold EO; simp only [ev_o, ev_x, ev_nl, ev_get, ev_set, List.length_cons]; rw [if_pos ⟨trivial, by omega⟩]
theorem eo_4_9i : EO j ((4, 9, f, z, w) :: ops) (p0 :: p1 :: p2 :: p3 :: p4 :: p5 :: p6 :: p7 :: some (.inl y) :: p16 :: L) (.inr (.inl x) :: st) σ = EO j ops (p0 :: p1 :: p2 :: p3 :: p4 :: p5 :: p6 :: p7 :: some (.inl y) :: some (.inr (.inl x)) :: L) st σ := by
  unfold EO; simp only [ev_o, ev_x, ev_nl, ev_get, ev_set, List.length_cons]; rw [if_pos ⟨trivial, by omega⟩]
theorem eo_4_9r : EO j ((4, 9, f, z, w) :: ops) (p0 :: p1 :: p2 :: p3 :: p4 :: p5 :: p6 :: p7 :: some (.inr (.inl y)) :: p16 :: L) (.inr (.inl x) :: st) σ = EO j ops (p0 :: p1 :: p2 :: p3 :: p4 :: p5 :: p6 :: p7 :: some (.inr (.inl y)) :: some (.inr (.inl x)) :: L) st σ := by
  unfold EO; simp only [ev_o, ev_x, ev_nl, ev_get, ev_set, List.length_cons]; rw [if_pos ⟨trivial, by omega⟩]
theorem eo_4_10n : EO j ((4, 10, f, z, w) :: ops) (p0 :: p1 :: p2 :: p3 :: p4 :: p5 :: p6 :: p7 :: p8 :: none :: p16 :: L) (.inr (.inl x) :: st) σ = EO j ops (p0 :: p1 :: p2 :: p3 :: p4 :: p5 :: p6 :: p7 :: p8 :: none :: some (.inr (.inl x)) :: L) st σ := by
  unfold EO; simp only [ev_o, ev_x, ev_nl, ev_get, ev_set, List.length_cons]; rw [if_pos ⟨trivial, by omega⟩]
theorem eo_4_10i : EO j ((4, 10, f, z, w) :: ops) (p0 :: p1 :: p2 :: p3 :: p4 :: p5 :: p6 :: p7 :: p8 :: some (.inl y) :: p16 :: L) (.inr (.inl x) :: st) σ = EO j ops (p0 :: p1 :: p2 :: p3 :: p4 :: p5 :: p6 :: p7 :: p8 :: some (.inl y) :: some (.inr (.inl x)) :: L) st σ := by
  unfold EO; simp only [ev_o, ev_x, ev_nl, ev_get, ev_set, List.length_cons]; rw [if_pos ⟨trivial, by omega⟩]
theorem eo_4_10r : EO j ((4, 10, f, z, w) :: ops) (p0 :: p1 :: p2 :: p3 :: p4 :: p5 :: p6 :: p7 :: p8 :: some (.inr (.inl y)) :: p16 :: L) (.inr (.inl x) :: st) σ = EO j ops (p0 :: p1 :: p2 :: p3 :: p4 :: p5 :: p6 :: p7 :: p8 :: some (.inr (.inl y)) :: some (.inr (.inl x)) :: L) st σ := by
  unfold EO; simp only [ev_o, ev_x, ev_nl, ev_get, ev_set, List.length_cons]; rw [if_pos ⟨trivial, by omega⟩]
theorem eo_4_11n : EO j ((4, 11, f, z, w) :: ops) (p0 :: p1 :: p2 :: p3 :: p4 :: p5 :: p6 :: p7 :: p8 :: p9 :: none :: p16 :: L) (.inr (.inl x) :: st) σ = EO j ops (p0 :: p1 :: p2 :: p3 :: p4 :: p5 :: p6 :: p7 :: p8 :: p9 :: none :: some (.inr (.inl x)) :: L) st σ := by
  unfold EO; simp only [ev_o, ev_x, ev_nl, ev_get, ev_set, List.length_cons]; rw [if_pos ⟨trivial, by omega⟩]
theorem eo_4_11i : EO j ((4, 11, f, z, w) :: ops) (p0 :: p1 :: p2 :: p3 :: p4 :: p5 :: p6 :: p7 :: p8 :: p9 :: some (.inl y) :: p16 :: L) (.inr (.inl x) :: st) σ = EO j ops (p0 :: p1 :: p2 :: p3 :: p4 :: p5 :: p6 :: p7 :: p8 :: p9 :: some (.inl y) :: some (.inr (.inl x)) :: L) st σ := by
  unfold EO; simp only [ev_o, ev_x, ev_nl, ev_get, ev_set, List.length_cons]; rw [if_pos ⟨trivial, by omega⟩]
theorem eo_4_11r : EO j ((4, 11, f, z, w) :: ops) (p0 :: p1 :: p2 :: p3 :: p4 :: p5 :: p6 :: p7 :: p8 :: p9 :: some (.inr (.inl y)) :: p16 :: L) (.inr (.inl x) :: st) σ = EO j ops (p0 :: p1 :: p2 :: p3 :: p4 :: p5 :: p6 :: p7 :: p8 :: p9 :: some (.inr (.inl y)) :: some (.inr (.inl x)) :: L) st σ := by
  unfold EO; simp only [ev_o, ev_x, ev_nl, ev_get, ev_set, List.length_cons]; rw [if_pos ⟨trivial, by omega⟩]
theorem eo_4_12n : EO j ((4, 12, f, z, w) :: ops) (p0 :: p1 :: p2 :: p3 :: p4 :: p5 :: p6 :: p7 :: p8 :: p9 :: p10 :: none :: p16 :: L) (.inr (.inl x) :: st) σ = EO j ops (p0 :: p1 :: p2 :: p3 :: p4 :: p5 :: p6 :: p7 :: p8 :: p9 :: p10 :: none :: some (.inr (.inl x)) :: L) st σ := by
  unfold EO; simp only [ev_o, ev_x, ev_nl, ev_get, ev_set, List.length_cons]; rw [if_pos ⟨trivial, by omega⟩]
theorem eo_4_12i : EO j ((4, 12, f, z, w) :: ops) (p0 :: p1 :: p2 :: p3 :: p4 :: p5 :: p6 :: p7 :: p8 :: p9 :: p10 :: some (.inl y) :: p16 :: L) (.inr (.inl x) :: st) σ = EO j ops (p0 :: p1 :: p2 :: p3 :: p4 :: p5 :: p6 :: p7 :: p8 :: p9 :: p10 :: some (.inl y) :: some (.inr (.inl x)) :: L) st σ := by
  unfold EO; simp only [ev_o, ev_x, ev_nl, ev_get, ev_set, List.length_cons]; rw [if_pos ⟨trivial, by omega⟩]
theorem eo_4_12r : EO j ((4, 12, f, z, w) :: ops) (p0 :: p1 :: p2 :: p3 :: p4 :: p5 :: p6 :: p7 :: p8 :: p9 :: p10 :: some (.inr (.inl y)) :: p16 :: L) (.inr (.inl x) :: st) σ = EO j ops (p0 :: p1 :: p2 :: p3 :: p4 :: p5 :: p6 :: p7 :: p8 :: p9 :: p10 :: some (.inr (.inl y)) :: some (.inr (.inl x)) :: L) st σ := by
  unfold EO; simp only [ev_o, ev_x, ev_nl, ev_get, ev_set, List.length_cons]; rw [if_pos ⟨trivial, by omega⟩]
theorem eo_4_13n : EO j ((4, 13, f, z, w) :: ops) (p0 :: p1 :: p2 :: p3 :: p4 :: p5 :: p6 :: p7 :: p8 :: p9 :: p10 :: p11 :: none :: p16 :: L) (.inr (.inl x) :: st) σ = EO j ops (p0 :: p1 :: p2 :: p3 :: p4 :: p5 :: p6 :: p7 :: p8 :: p9 :: p10 :: p11 :: none :: some (.inr (.inl x)) :: L) st σ := by
  unfold EO; simp only [ev_o, ev_x, ev_nl, ev_get, ev_set, List.length_cons]; rw [if_pos ⟨trivial, by omega⟩]
theorem eo_4_13i : EO j ((4, 13, f, z, w) :: ops) (p0 :: p1 :: p2 :: p3 :: p4 :: p5 :: p6 :: p7 :: p8 :: p9 :: p10 :: p11 :: some (.inl y) :: p16 :: L) (.inr (.inl x) :: st) σ = EO j ops (p0 :: p1 :: p2 :: p3 :: p4 :: p5 :: p6 :: p7 :: p8 :: p9 :: p10 :: p11 :: some (.inl y) :: some (.inr (.inl x)) :: L) st σ := by
  unfold EO; simp only [ev_o, ev_x, ev_nl, ev_get, ev_set, List.length_cons]; rw [if_pos ⟨trivial, by omega⟩]
theorem eo_4_13r : EO j ((4, 13, f, z, w) :: ops) (p0 :: p1 :: p2 :: p3 :: p4 :: p5 :: p6 :: p7 :: p8 :: p9 :: p10 :: p11 :: some (.inr (.inl y)) :: p16 :: L) (.inr (.inl x) :: st) σ = EO j ops (p0 :: p1 :: p2 :: p3 :: p4 :: p5 :: p6 :: p7 :: p8 :: p9 :: p10 :: p11 :: some (.inr (.inl y)) :: some (.inr (.inl x)) :: L) st σ := by
  unfold EO; simp only [ev_o, ev_x, ev_nl, ev_get, ev_set, List.length_cons]; rw [if_pos ⟨trivial, by omega⟩]
theorem eo_4_14n : EO j ((4, 14, f, z, w) :: ops) (p0 :: p1 :: p2 :: p3 :: p4 :: p5 :: p6 :: p7 :: p8 :: p9 :: p10 :: p11 :: p12 :: none :: p16 :: L) (.inr (.inl x) :: st) σ = EO j ops (p0 :: p1 :: p2 :: p3 :: p4 :: p5 :: p6 :: p7 :: p8 :: p9 :: p10 :: p11 :: p12 :: none :: some (.inr (.inl x)) :: L) st σ := by
  unfold EO; simp only [ev_o, ev_x, ev_nl, ev_get, ev_set, List.length_cons]; rw [if_pos ⟨trivial, by omega⟩]
theorem eo_4_14i : EO j ((4, 14, f, z, w) :: ops) (p0 :: p1 :: p2 :: p3 :: p4 :: p5 :: p6 :: p7 :: p8 :: p9 :: p10 :: p11 :: p12 :: some (.inl y) :: p16 :: L) (.inr (.inl x) :: st) σ = EO j ops (p0 :: p1 :: p2 :: p3 :: p4 :: p5 :: p6 :: p7 :: p8 :: p9 :: p10 :: p11 :: p12 :: some (.inl y) :: some (.inr (.inl x)) :: L) st σ := by
  unfold EO; simp only [ev_o, ev_x, ev_nl, ev_get, ev_set, List.length_cons]; rw [if_pos ⟨trivial, by omega⟩]
theorem eo_4_14r : EO j ((4, 14, f, z, w) :: ops) (p0 :: p1 :: p2 :: p3 :: p4 :: p5 :: p6 :: p7 :: p8 :: p9 :: p10 :: p11 :: p12 :: some (.inr (.inl y)) :: p16 :: L) (.inr (.inl x) :: st) σ = EO j ops (p0 :: p1 :: p2 :: p3 :: p4 :: p5 :: p6 :: p7 :: p8 :: p9 :: p10 :: p11 :: p12 :: some (.inr (.inl y)) :: some (.inr (.inl x)) :: L) st σ := by
  unfold EO; simp only [ev_o, ev_x, ev_nl, ev_get, ev_set, List.length_cons]; rw [if_pos ⟨trivial, by omega⟩]
theorem eo_4_15n : EO j ((4, 15, f, z, w) :: ops) (p0 :: p1 :: p2 :: p3 :: p4 :: p5 :: p6 :: p7 :: p8 :: p9 :: p10 :: p11 :: p12 :: p13 :: none :: p16 :: L) (.inr (.inl x) :: st) σ = EO j ops (p0 :: p1 :: p2 :: p3 :: p4 :: p5 :: p6 :: p7 :: p8 :: p9 :: p10 :: p11 :: p12 :: p13 :: none :: some (.inr (.inl x)) :: L) st σ := by
  unfold EO; simp only [ev_o, ev_x, ev_nl, ev_get, ev_set, List.length_cons]; rw [if_pos ⟨trivial, by omega⟩]
theorem eo_4_15i : EO j ((4, 15, f, z, w) :: ops) (p0 :: p1 :: p2 :: p3 :: p4 :: p5 :: p6 :: p7 :: p8 :: p9 :: p10 :: p11 :: p12 :: p13 :: some (.inl y) :: p16 :: L) (.inr (.inl x) :: st) σ = EO j ops (p0 :: p1 :: p2 :: p3 :: p4 :: p5 :: p6 :: p7 :: p8 :: p9 :: p10 :: p11 :: p12 :: p13 :: some (.inl y) :: some (.inr (.inl x)) :: L) st σ := by
  unfold EO; simp only [ev_o, ev_x, ev_nl, ev_get, ev_set, List.length_cons]; rw [if_pos ⟨trivial, by omega⟩]
theorem eo_4_15r : EO j ((4, 15, f, z, w) :: ops) (p0 :: p1 :: p2 :: p3 :: p4 :: p5 :: p6 :: p7 :: p8 :: p9 :: p10 :: p11 :: p12 :: p13 :: some (.inr (.inl y)) :: p16 :: L) (.inr (.inl x) :: st) σ = EO j ops (p0 :: p1 :: p2 :: p3 :: p4 :: p5 :: p6 :: p7 :: p8 :: p9 :: p10 :: p11 :: p12 :: p13 :: some (.inr (.inl y)) :: some (.inr (.inl x)) :: L) st σ := by
  unfold EO; simp only [ev_o, ev_x, ev_nl, ev_get, ev_set, List.length_cons]; rw [if_pos ⟨trivial, by omega⟩]
theorem eo_4_16n : EO j ((4, 16, f, z, w) :: ops) (p0 :: p1 :: p2 :: p3 :: p4 :: p5 :: p6 :: p7 :: p8 :: p9 :: p10 :: p11 :: p12 :: p13 :: p14 :: none :: p16 :: L) (.inr (.inl x) :: st) σ = EO j ops (p0 :: p1 :: p2 :: p3 :: p4 :: p5 :: p6 :: p7 :: p8 :: p9 :: p10 :: p11 :: p12 :: p13 :: p14 :: none :: some (.inr (.inl x)) :: L) st σ := by
  unfold EO; simp only [ev_o, ev_x, ev_nl, ev_get, ev_set, List.length_cons]; rw [if_pos ⟨trivial, by omega⟩]
theorem eo_4_16i : EO j ((4, 16, f, z, w) :: ops) (p0 :: p1 :: p2 :: p3 :: p4 :: p5 :: p6 :: p7 :: p8 :: p9 :: p10 :: p11 :: p12 :: p13 :: p14 :: some (.inl y) :: p16 :: L) (.inr (.inl x) :: st) σ = EO j ops (p0 :: p1 :: p2 :: p3 :: p4 :: p5 :: p6 :: p7 :: p8 :: p9 :: p10 :: p11 :: p12 :: p13 :: p14 :: some (.inl y) :: some (.inr (.inl x)) :: L) st σ := by
  unfold EO; simp only [ev_o, ev_x, ev_nl, ev_get, ev_set, List.length_cons]; rw [if_pos ⟨trivial, by omega⟩]
theorem eo_4_16r : EO j ((4, 16, f, z, w) :: ops) (p0 :: p1 :: p2 :: p3 :: p4 :: p5 :: p6 :: p7 :: p8 :: p9 :: p10 :: p11 :: p12 :: p13 :: p14 :: some (.inr (.inl y)) :: p16 :: L) (.inr (.inl x) :: st) σ = EO j ops (p0 :: p1 :: p2 :: p3 :: p4 :: p5 :: p6 :: p7 :: p8 :: p9 :: p10 :: p11 :: p12 :: p13 :: p14 :: some (.inr (.inl y)) :: some (.inr (.inl x)) :: L) st σ := by
  unfold EO; simp only [ev_o, ev_x, ev_nl, ev_get, ev_set, List.length_cons]; rw [if_pos ⟨trivial, by omega⟩]
theorem eo_23_1n : EO j ((23, 1, f, z, w) :: ops) (none :: some (.inl x) :: L) st σ = EO j ops (none :: some (.inl (x + z)) :: L) st σ := by
  unfold EO; simp only [ev_o, ev_x, ev_nl, ev_get, ev_set, List.length_cons]; rw [if_pos ⟨trivial, by omega⟩]
theorem eo_23_1i : EO j ((23, 1, f, z, w) :: ops) (some (.inl y) :: some (.inl x) :: L) st σ = EO j ops (some (.inl y) :: some (.inl (x + z)) :: L) st σ := by
  unfold EO; simp only [ev_o, ev_x, ev_nl, ev_get, ev_set, List.length_cons]; rw [if_pos ⟨trivial, by omega⟩]
theorem eo_23_1r : EO j ((23, 1, f, z, w) :: ops) (some (.inr (.inl y)) :: some (.inl x) :: L) st σ = EO j ops (some (.inr (.inl y)) :: some (.inl (x + z)) :: L) st σ := by
  unfold EO; simp only [ev_o, ev_x, ev_nl, ev_get, ev_set, List.length_cons]; rw [if_pos ⟨trivial, by omega⟩]
theorem eo_23_2n : EO j ((23, 2, f, z, w) :: ops) (p0 :: none :: some (.inl x) :: L) st σ = EO j ops (p0 :: none :: some (.inl (x + z)) :: L) st σ := by
  unfold EO; simp only [ev_o, ev_x, ev_nl, ev_get, ev_set, List.length_cons]; rw [if_pos ⟨trivial, by omega⟩]
theorem eo_23_2i : EO j ((23, 2, f, z, w) :: ops) (p0 :: some (.inl y) :: some (.inl x) :: L) st σ = EO j ops (p0 :: some (.inl y) :: some (.inl (x + z)) :: L) st σ := by
  unfold EO; simp only [ev_o, ev_x, ev_nl, ev_get, ev_set, List.length_cons]; rw [if_pos ⟨trivial, by omega⟩]
theorem eo_23_2r : EO j ((23, 2, f, z, w) :: ops) (p0 :: some (.inr (.inl y)) :: some (.inl x) :: L) st σ = EO j ops (p0 :: some (.inr (.inl y)) :: some (.inl (x + z)) :: L) st σ := by
  unfold EO; simp only [ev_o, ev_x, ev_nl, ev_get, ev_set, List.length_cons]; rw [if_pos ⟨trivial, by omega⟩]
theorem eo_23_3n : EO j ((23, 3, f, z, w) :: ops) (p0 :: p1 :: none :: some (.inl x) :: L) st σ = EO j ops (p0 :: p1 :: none :: some (.inl (x + z)) :: L) st σ := by
  unfold EO; simp only [ev_o, ev_x, ev_nl, ev_get, ev_set, List.length_cons]; rw [if_pos ⟨trivial, by omega⟩]
theorem eo_23_3i : EO j ((23, 3, f, z, w) :: ops) (p0 :: p1 :: some (.inl y) :: some (.inl x) :: L) st σ = EO j ops (p0 :: p1 :: some (.inl y) :: some (.inl (x + z)) :: L) st σ := by
  unfold EO; simp only [ev_o, ev_x, ev_nl, ev_get, ev_set, List.length_cons]; rw [if_pos ⟨trivial, by omega⟩]
theorem eo_23_3r : EO j ((23, 3, f, z, w) :: ops) (p0 :: p1 :: some (.inr (.inl y)) :: some (.inl x) :: L) st σ = EO j ops (p0 :: p1 :: some (.inr (.inl y)) :: some (.inl (x + z)) :: L) st σ := by
  unfold EO; simp only [ev_o, ev_x, ev_nl, ev_get, ev_set, List.length_cons]; rw [if_pos ⟨trivial, by omega⟩]
theorem eo_23_4n : EO j ((23, 4, f, z, w) :: ops) (p0 :: p1 :: p2 :: none :: some (.inl x) :: L) st σ = EO j ops (p0 :: p1 :: p2 :: none :: some (.inl (x + z)) :: L) st σ := by
  unfold EO; simp only [ev_o, ev_x, ev_nl, ev_get, ev_set, List.length_cons]; rw [if_pos ⟨trivial, by omega⟩]
theorem eo_23_4i : EO j ((23, 4, f, z, w) :: ops) (p0 :: p1 :: p2 :: some (.inl y) :: some (.inl x) :: L) st σ = EO j ops (p0 :: p1 :: p2 :: some (.inl y) :: some (.inl (x + z)) :: L) st σ := by
  unfold EO; simp only [ev_o, ev_x, ev_nl, ev_get, ev_set, List.length_cons]; rw [if_pos ⟨trivial, by omega⟩]
theorem eo_23_4r : EO j ((23, 4, f, z, w) :: ops) (p0 :: p1 :: p2 :: some (.inr (.inl y)) :: some (.inl x) :: L) st σ = EO j ops (p0 :: p1 :: p2 :: some (.inr (.inl y)) :: some (.inl (x + z)) :: L) st σ := by
  unfold EO; simp only [ev_o, ev_x, ev_nl, ev_get, ev_set, List.length_cons]; rw [if_pos ⟨trivial, by omega⟩]
theorem eo_23_5n : EO j ((23, 5, f, z, w) :: ops) (p0 :: p1 :: p2 :: p3 :: none :: some (.inl x) :: L) st σ = EO j ops (p0 :: p1 :: p2 :: p3 :: none :: some (.inl (x + z)) :: L) st σ := by
  unfold EO; simp only [ev_o, ev_x, ev_nl, ev_get, ev_set, List.length_cons]; rw [if_pos ⟨trivial, by omega⟩]
theorem eo_23_5i : EO j ((23, 5, f, z, w) :: ops) (p0 :: p1 :: p2 :: p3 :: some (.inl y) :: some (.inl x) :: L) st σ = EO j ops (p0 :: p1 :: p2 :: p3 :: some (.inl y) :: some (.inl (x + z)) :: L) st σ := by
  unfold EO; simp only [ev_o, ev_x, ev_nl, ev_get, ev_set, List.length_cons]; rw [if_pos ⟨trivial, by omega⟩]
theorem eo_23_5r : EO j ((23, 5, f, z, w) :: ops) (p0 :: p1 :: p2 :: p3 :: some (.inr (.inl y)) :: some (.inl x) :: L) st σ = EO j ops (p0 :: p1 :: p2 :: p3 :: some (.inr (.inl y)) :: some (.inl (x + z)) :: L) st σ := by
  unfold EO; simp only [ev_o, ev_x, ev_nl, ev_get, ev_set, List.length_cons]; rw [if_pos ⟨trivial, by omega⟩]
theorem eo_23_6n : EO j ((23, 6, f, z, w) :: ops) (p0 :: p1 :: p2 :: p3 :: p4 :: none :: some (.inl x) :: L) st σ = EO j ops (p0 :: p1 :: p2 :: p3 :: p4 :: none :: some (.inl (x + z)) :: L) st σ := by
  unfold EO; simp only [ev_o, ev_x, ev_nl, ev_get, ev_set, List.length_cons]; rw [if_pos ⟨trivial, by omega⟩]
theorem eo_23_6i : EO j ((23, 6, f, z, w) :: ops) (p0 :: p1 :: p2 :: p3 :: p4 :: some (.inl y) :: some (.inl x) :: L) st σ = EO j ops (p0 :: p1 :: p2 :: p3 :: p4 :: some (.inl y) :: some (.inl (x + z)) :: L) st σ := by
  unfold EO; simp only [ev_o, ev_x, ev_nl, ev_get, ev_set, List.length_cons]; rw [if_pos ⟨trivial, by omega⟩]
theorem eo_23_6r : EO j ((23, 6, f, z, w) :: ops) (p0 :: p1 :: p2 :: p3 :: p4 :: some (.inr (.inl y)) :: some (.inl x) :: L) st σ = EO j ops (p0 :: p1 :: p2 :: p3 :: p4 :: some (.inr (.inl y)) :: some (.inl (x + z)) :: L) st σ := by
  unfold EO; simp only [ev_o, ev_x, ev_nl, ev_get, ev_set, List.length_cons]; rw [if_pos ⟨trivial, by omega⟩]
theorem eo_23_7n : EO j ((23, 7, f, z, w) :: ops) (p0 :: p1 :: p2 :: p3 :: p4 :: p5 :: none :: some (.inl x) :: L) st σ = EO j ops (p0 :: p1 :: p2 :: p3 :: p4 :: p5 :: none :: some (.inl (x + z)) :: L) st σ := by
  unfold EO; simp only [ev_o, ev_x, ev_nl, ev_get, ev_set, List.length_cons]; rw [if_pos ⟨trivial, by omega⟩]
theorem eo_23_7i : EO j ((23, 7, f, z, w) :: ops) (p0 :: p1 :: p2 :: p3 :: p4 :: p5 :: some (.inl y) :: some (.inl x) :: L) st σ = EO j ops (p0 :: p1 :: p2 :: p3 :: p4 :: p5 :: some (.inl y) :: some (.inl (x + z)) :: L) st σ := by
  unfold EO; simp only [ev_o, ev_x, ev_nl, ev_get, ev_set, List.length_cons]; rw [if_pos ⟨trivial, by omega⟩]
theorem eo_23_7r : EO j ((23, 7, f, z, w) :: ops) (p0 :: p1 :: p2 :: p3 :: p4 :: p5 :: some (.inr (.inl y)) :: some (.inl x) :: L) st σ = EO j ops (p0 :: p1 :: p2 :: p3 :: p4 :: p5 :: some (.inr (.inl y)) :: some (.inl (x + z)) :: L) st σ := by
  unfold EO; simp only [ev_o, ev_x, ev_nl, ev_get, ev_set, List.length_cons]; rw [if_pos ⟨trivial, by omega⟩]
theorem eo_23_8n : EO j ((23, 8, f, z, w) :: ops) (p0 :: p1 :: p2 :: p3 :: p4 :: p5 :: p6 :: none :: some (.inl x) :: L) st σ = EO j ops (p0 :: p1 :: p2 :: p3 :: p4 :: p5 :: p6 :: none :: some (.inl (x + z)) :: L) st σ := by
  unfold EO; simp only [ev_o, ev_x, ev_nl, ev_get, ev_set, List.length_cons]; rw [if_pos ⟨trivial, by omega⟩]
theorem eo_23_8i : EO j ((23, 8, f, z, w) :: ops) (p0 :: p1 :: p2 :: p3 :: p4 :: p5 :: p6 :: some (.inl y) :: some (.inl x) :: L) st σ = EO j ops (p0 :: p1 :: p2 :: p3 :: p4 :: p5 :: p6 :: some (.inl y) :: some (.inl (x + z)) :: L) st σ := by
  unfold EO; simp only [ev_o, ev_x, ev_nl, ev_get, ev_set, List.length_cons]; rw [if_pos ⟨trivial, by omega⟩]
theorem eo_23_8r : EO j ((23, 8, f, z, w) :: ops) (p0 :: p1 :: p2 :: p3 :: p4 :: p5 :: p6 :: some (.inr (.inl y)) :: some (.inl x) :: L) st σ = EO j ops (p0 :: p1 :: p2 :: p3 :: p4 :: p5 :: p6 :: some (.inr (.inl y)) :: some (.inl (x + z)) :: L) st σ := by
  unfold EO; simp only [ev_o, ev_x, ev_nl, ev_get, ev_set, List.length_cons]; rw [if_pos ⟨trivial, by omega⟩]
theorem eo_23_9n : EO j ((23, 9, f, z, w) :: ops) (p0 :: p1 :: p2 :: p3 :: p4 :: p5 :: p6 :: p7 :: none :: some (.inl x) :: L) st σ = EO j ops (p0 :: p1 :: p2 :: p3 :: p4 :: p5 :: p6 :: p7 :: none :: some (.inl (x + z)) :: L) st σ := by
  unfold EO; simp only [ev_o, ev_x, ev_nl, ev_get, ev_set, List.length_cons]; rw [if_pos ⟨trivial, by omega⟩]
theorem eo_23_9i : EO j ((23, 9, f, z, w) :: ops) (p0 :: p1 :: p2 :: p3 :: p4 :: p5 :: p6 :: p7 :: some (.inl y) :: some (.inl x) :: L) st σ = EO j ops (p0 :: p1 :: p2 :: p3 :: p4 :: p5 :: p6 :: p7 :: some (.inl y) :: some (.inl (x + z)) :: L) st σ := by
  unfold EO; simp only [ev_o, ev_x, ev_nl, ev_get, ev_set, List.length_cons]; rw [if_pos ⟨trivial, by omega⟩]
theorem eo_23_9r : EO j ((23, 9, f, z, w) :: ops) (p0 :: p1 :: p2 :: p3 :: p4 :: p5 :: p6 :: p7 :: some (.inr (.inl y)) :: some (.inl x) :: L) st σ = EO j ops (p0 :: p1 :: p2 :: p3 :: p4 :: p5 :: p6 :: p7 :: some (.inr (.inl y)) :: some (.inl (x + z)) :: L) st σ := by
  unfold EO; simp only [ev_o, ev_x, ev_nl, ev_get, ev_set, List.length_cons]; rw [if_pos ⟨trivial, by omega⟩]
theorem eo_23_10n : EO j ((23, 10, f, z, w) :: ops) (p0 :: p1 :: p2 :: p3 :: p4 :: p5 :: p6 :: p7 :: p8 :: none :: some (.inl x) :: L) st σ = EO j ops (p0 :: p1 :: p2 :: p3 :: p4 :: p5 :: p6 :: p7 :: p8 :: none :: some (.inl (x + z)) :: L) st σ := by
  unfold EO; simp only [ev_o, ev_x, ev_nl, ev_get, ev_set, List.length_cons]; rw [if_pos ⟨trivial, by omega⟩]
theorem eo_23_10i : EO j ((23, 10, f, z, w) :: ops) (p0 :: p1 :: p2 :: p3 :: p4 :: p5 :: p6 :: p7 :: p8 :: some (.inl y) :: some (.inl x) :: L) st σ = EO j ops (p0 :: p1 :: p2 :: p3 :: p4 :: p5 :: p6 :: p7 :: p8 :: some (.inl y) :: some (.inl (x + z)) :: L) st σ := by
  unfold EO; simp only [ev_o, ev_x, ev_nl, ev_get, ev_set, List.length_cons]; rw [if_pos ⟨trivial, by omega⟩]
theorem eo_23_10r : EO j ((23, 10, f, z, w) :: ops) (p0 :: p1 :: p2 :: p3 :: p4 :: p5 :: p6 :: p7 :: p8 :: some (.inr (.inl y)) :: some (.inl x) :: L) st σ = EO j ops (p0 :: p1 :: p2 :: p3 :: p4 :: p5 :: p6 :: p7 :: p8 :: some (.inr (.inl y)) :: some (.inl (x + z)) :: L) st σ := by
  unfold EO; simp only [ev_o, ev_x, ev_nl, ev_get, ev_set, List.length_cons]; rw [if_pos ⟨trivial, by omega⟩]
theorem eo_23_11n : EO j ((23, 11, f, z, w) :: ops) (p0 :: p1 :: p2 :: p3 :: p4 :: p5 :: p6 :: p7 :: p8 :: p9 :: none :: some (.inl x) :: L) st σ = EO j ops (p0 :: p1 :: p2 :: p3 :: p4 :: p5 :: p6 :: p7 :: p8 :: p9 :: none :: some (.inl (x + z)) :: L) st σ := by
  unfold EO; simp only [ev_o, ev_x, ev_nl, ev_get, ev_set, List.length_cons]; rw [if_pos ⟨trivial, by omega⟩]
theorem eo_23_11i : EO j ((23, 11, f, z, w) :: ops) (p0 :: p1 :: p2 :: p3 :: p4 :: p5 :: p6 :: p7 :: p8 :: p9 :: some (.inl y) :: some (.inl x) :: L) st σ = EO j ops (p0 :: p1 :: p2 :: p3 :: p4 :: p5 :: p6 :: p7 :: p8 :: p9 :: some (.inl y) :: some (.inl (x + z)) :: L) st σ := by
  unfold EO; simp only [ev_o, ev_x, ev_nl, ev_get, ev_set, List.length_cons]; rw [if_pos ⟨trivial, by omega⟩]
theorem eo_23_11r : EO j ((23, 11, f, z, w) :: ops) (p0 :: p1 :: p2 :: p3 :: p4 :: p5 :: p6 :: p7 :: p8 :: p9 :: some (.inr (.inl y)) :: some (.inl x) :: L) st σ = EO j ops (p0 :: p1 :: p2 :: p3 :: p4 :: p5 :: p6 :: p7 :: p8 :: p9 :: some (.inr (.inl y)) :: some (.inl (x + z)) :: L) st σ := by
  unfold EO; simp only [ev_o, ev_x, ev_nl, ev_get, ev_set, List.length_cons]; rw [if_pos ⟨trivial, by omega⟩]
theorem eo_23_12n : EO j ((23, 12, f, z, w) :: ops) (p0 :: p1 :: p2 :: p3 :: p4 :: p5 :: p6 :: p7 :: p8 :: p9 :: p10 :: none :: some (.inl x) :: L) st σ = EO j ops (p0 :: p1 :: p2 :: p3 :: p4 :: p5 :: p6 :: p7 :: p8 :: p9 :: p10 :: none :: some (.inl (x + z)) :: L) st σ := by
  unfold EO; simp only [ev_o, ev_x, ev_nl, ev_get, ev_set, List.length_cons]; rw [if_pos ⟨trivial, by omega⟩]
theorem eo_23_12i : EO j ((23, 12, f, z, w) :: ops) (p0 :: p1 :: p2 :: p3 :: p4 :: p5 :: p6 :: p7 :: p8 :: p9 :: p10 :: some (.inl y) :: some (.inl x) :: L) st σ = EO j ops (p0 :: p1 :: p2 :: p3 :: p4 :: p5 :: p6 :: p7 :: p8 :: p9 :: p10 :: some (.inl y) :: some (.inl (x + z)) :: L) st σ := by
  unfold EO; simp only [ev_o, ev_x, ev_nl, ev_get, ev_set, List.length_cons]; rw [if_pos ⟨trivial, by omega⟩]
theorem eo_23_12r : EO j ((23, 12, f, z, w) :: ops) (p0 :: p1 :: p2 :: p3 :: p4 :: p5 :: p6 :: p7 :: p8 :: p9 :: p10 :: some (.inr (.inl y)) :: some (.inl x) :: L) st σ = EO j ops (p0 :: p1 :: p2 :: p3 :: p4 :: p5 :: p6 :: p7 :: p8 :: p9 :: p10 :: some (.inr (.inl y)) :: some (.inl (x + z)) :: L) st σ := by
  unfold EO; simp only [ev_o, ev_x, ev_nl, ev_get, ev_set, List.length_cons]; rw [if_pos ⟨trivial, by omega⟩]
theorem eo_23_13n : EO j ((23, 13, f, z, w) :: ops) (p0 :: p1 :: p2 :: p3 :: p4 :: p5 :: p6 :: p7 :: p8 :: p9 :: p10 :: p11 :: none :: some (.inl x) :: L) st σ = EO j ops (p0 :: p1 :: p2 :: p3 :: p4 :: p5 :: p6 :: p7 :: p8 :: p9 :: p10 :: p11 :: none :: some (.inl (x + z)) :: L) st σ := by
  unfold EO; simp only [ev_o, ev_x, ev_nl, ev_get, ev_set, List.length_cons]; rw [if_pos ⟨trivial, by omega⟩]
theorem eo_23_13i : EO j ((23, 13, f, z, w) :: ops) (p0 :: p1 :: p2 :: p3 :: p4 :: p5 :: p6 :: p7 :: p8 :: p9 :: p10 :: p11 :: some (.inl y) :: some (.inl x) :: L) st σ = EO j ops (p0 :: p1 :: p2 :: p3 :: p4 :: p5 :: p6 :: p7 :: p8 :: p9 :: p10 :: p11 :: some (.inl y) :: some (.inl (x + z)) :: L) st σ := by
  unfold EO; simp only [ev_o, ev_x, ev_nl, ev_get, ev_set, List.length_cons]; rw [if_pos ⟨trivial, by omega⟩]
theorem eo_23_13r : EO j ((23, 13, f, z, w) :: ops) (p0 :: p1 :: p2 :: p3 :: p4 :: p5 :: p6 :: p7 :: p8 :: p9 :: p10 :: p11 :: some (.inr (.inl y)) :: some (.inl x) :: L) st σ = EO j ops (p0 :: p1 :: p2 :: p3 :: p4 :: p5 :: p6 :: p7 :: p8 :: p9 :: p10 :: p11 :: some (.inr (.inl y)) :: some (.inl (x + z)) :: L) st σ := by
  unfold EO; simp only [ev_o, ev_x, ev_nl, ev_get, ev_set, List.length_cons]; rw [if_pos ⟨trivial, by omega⟩]
theorem eo_23_14n : EO j ((23, 14, f, z, w) :: ops) (p0 :: p1 :: p2 :: p3 :: p4 :: p5 :: p6 :: p7 :: p8 :: p9 :: p10 :: p11 :: p12 :: none :: some (.inl x) :: L) st σ = EO j ops (p0 :: p1 :: p2 :: p3 :: p4 :: p5 :: p6 :: p7 :: p8 :: p9 :: p10 :: p11 :: p12 :: none :: some (.inl (x + z)) :: L) st σ := by
  unfold EO; simp only [ev_o, ev_x, ev_nl, ev_get, ev_set, List.length_cons]; rw [if_pos ⟨trivial, by omega⟩]
theorem eo_23_14i : EO j ((23, 14, f, z, w) :: ops) (p0 :: p1 :: p2 :: p3 :: p4 :: p5 :: p6 :: p7 :: p8 :: p9 :: p10 :: p11 :: p12 :: some (.inl y) :: some (.inl x) :: L) st σ = EO j ops (p0 :: p1 :: p2 :: p3 :: p4 :: p5 :: p6 :: p7 :: p8 :: p9 :: p10 :: p11 :: p12 :: some (.inl y) :: some (.inl (x + z)) :: L) st σ := by
  unfold EO; simp only [ev_o, ev_x, ev_nl, ev_get, ev_set, List.length_cons]; rw [if_pos ⟨trivial, by omega⟩]
theorem eo_23_14r : EO j ((23, 14, f, z, w) :: ops) (p0 :: p1 :: p2 :: p3 :: p4 :: p5 :: p6 :: p7 :: p8 :: p9 :: p10 :: p11 :: p12 :: some (.inr (.inl y)) :: some (.inl x) :: L) st σ = EO j ops (p0 :: p1 :: p2 :: p3 :: p4 :: p5 :: p6 :: p7 :: p8 :: p9 :: p10 :: p11 :: p12 :: some (.inr (.inl y)) :: some (.inl (x + z)) :: L) st σ := by
  unfold EO; simp only [ev_o, ev_x, ev_nl, ev_get, ev_set, List.length_cons]; rw [if_pos ⟨trivial, by omega⟩]
theorem eo_23_15n : EO j ((23, 15, f, z, w) :: ops) (p0 :: p1 :: p2 :: p3 :: p4 :: p5 :: p6 :: p7 :: p8 :: p9 :: p10 :: p11 :: p12 :: p13 :: none :: some (.inl x) :: L) st σ = EO j ops (p0 :: p1 :: p2 :: p3 :: p4 :: p5 :: p6 :: p7 :: p8 :: p9 :: p10 :: p11 :: p12 :: p13 :: none :: some (.inl (x + z)) :: L) st σ := by
  unfold EO; simp only [ev_o, ev_x, ev_nl, ev_get, ev_set, List.length_cons]; rw [if_pos ⟨trivial, by omega⟩]
theorem eo_23_15i : EO j ((23, 15, f, z, w) :: ops) (p0 :: p1 :: p2 :: p3 :: p4 :: p5 :: p6 :: p7 :: p8 :: p9 :: p10 :: p11 :: p12 :: p13 :: some (.inl y) :: some (.inl x) :: L) st σ = EO j ops (p0 :: p1 :: p2 :: p3 :: p4 :: p5 :: p6 :: p7 :: p8 :: p9 :: p10 :: p11 :: p12 :: p13 :: some (.inl y) :: some (.inl (x + z)) :: L) st σ := by
  unfold EO; simp only [ev_o, ev_x, ev_nl, ev_get, ev_set, List.length_cons]; rw [if_pos ⟨trivial, by omega⟩]
theorem eo_23_15r : EO j ((23, 15, f, z, w) :: ops) (p0 :: p1 :: p2 :: p3 :: p4 :: p5 :: p6 :: p7 :: p8 :: p9 :: p10 :: p11 :: p12 :: p13 :: some (.inr (.inl y)) :: some (.inl x) :: L) st σ = EO j ops (p0 :: p1 :: p2 :: p3 :: p4 :: p5 :: p6 :: p7 :: p8 :: p9 :: p10 :: p11 :: p12 :: p13 :: some (.inr (.inl y)) :: some (.inl (x + z)) :: L) st σ := by
  unfold EO; simp only [ev_o, ev_x, ev_nl, ev_get, ev_set, List.length_cons]; rw [if_pos ⟨trivial, by omega⟩]
theorem eo_23_16n : EO j ((23, 16, f, z, w) :: ops) (p0 :: p1 :: p2 :: p3 :: p4 :: p5 :: p6 :: p7 :: p8 :: p9 :: p10 :: p11 :: p12 :: p13 :: p14 :: none :: some (.inl x) :: L) st σ = EO j ops (p0 :: p1 :: p2 :: p3 :: p4 :: p5 :: p6 :: p7 :: p8 :: p9 :: p10 :: p11 :: p12 :: p13 :: p14 :: none :: some (.inl (x + z)) :: L) st σ := by
  unfold EO; simp only [ev_o, ev_x, ev_nl, ev_get, ev_set, List.length_cons]; rw [if_pos ⟨trivial, by omega⟩]
theorem eo_23_16i : EO j ((23, 16, f, z, w) :: ops) (p0 :: p1 :: p2 :: p3 :: p4 :: p5 :: p6 :: p7 :: p8 :: p9 :: p10 :: p11 :: p12 :: p13 :: p14 :: some (.inl y) :: some (.inl x) :: L) st σ = EO j ops (p0 :: p1 :: p2 :: p3 :: p4 :: p5 :: p6 :: p7 :: p8 :: p9 :: p10 :: p11 :: p12 :: p13 :: p14 :: some (.inl y) :: some (.inl (x + z)) :: L) st σ := by
  unfold EO; simp only [ev_o, ev_x, ev_nl, ev_get, ev_set, List.length_cons]; rw [if_pos ⟨trivial, by omega⟩]
theorem eo_23_16r : EO j ((23, 16, f, z, w) :: ops) (p0 :: p1 :: p2 :: p3 :: p4 :: p5 :: p6 :: p7 :: p8 :: p9 :: p10 :: p11 :: p12 :: p13 :: p14 :: some (.inr (.inl y)) :: some (.inl x) :: L) st σ = EO j ops (p0 :: p1 :: p2 :: p3 :: p4 :: p5 :: p6 :: p7 :: p8 :: p9 :: p10 :: p11 :: p12 :: p13 :: p14 :: some (.inr (.inl y)) :: some (.inl (x + z)) :: L) st σ := by
  unfold EO; simp only [ev_o, ev_x, ev_nl, ev_get, ev_set, List.length_cons]; rw [if_pos ⟨trivial, by omega⟩]
theorem eo_23_0 : EO j ((23, 0, f, z, w) :: ops) (some (.inl x) :: L) st σ = EO j ops (some (.inl (x + z)) :: L) st σ := by
  rfl
theorem eo_6 : EO j ((6, k, f, z, w) :: ops) L st σ = EO j ops L (.inl z :: st) σ := by
  rfl
theorem eo_7 : EO j ((7, k, f, z, w) :: ops) L st σ = EO j ops L (.inl z :: st) σ := by
  rfl
theorem eo_8 : EO j ((8, k, f, z, w) :: ops) L st σ = EO j ops L (.inr (.inr (Int64.ofInt z)) :: st) σ := by
  rfl
theorem eo_10 : EO j ((10, k, f, z, w) :: ops) L (.inl y :: .inl x :: st) σ = EO j ops L (.inl (x + y) :: st) σ := by
  rfl
theorem eo_11 : EO j ((11, k, f, z, w) :: ops) L (.inl y :: .inl x :: st) σ = EO j ops L (.inl (x - y) :: st) σ := by
  rfl
theorem eo_12 : EO j ((12, k, f, z, w) :: ops) L (.inl y :: .inl x :: st) σ = EO j ops L (.inl (x * y) :: st) σ := by
  rfl
theorem eo_15 : EO j ((15, k, f, z, w) :: ops) L (.inl y :: .inl x :: st) σ = EO j ops L (.inl (ev_and x y) :: st) σ := by
  rfl
theorem eo_16 : EO j ((16, k, f, z, w) :: ops) L (.inl y :: .inl x :: st) σ = EO j ops L (.inl (ev_or x y) :: st) σ := by
  rfl
theorem eo_17 : EO j ((17, k, f, z, w) :: ops) L (.inl y :: .inl x :: st) σ = EO j ops L (.inl (ev_xor x y) :: st) σ := by
  rfl
theorem eo_18 : EO j ((18, k, f, z, w) :: ops) L (.inl y :: .inl x :: st) σ = EO j ops L (.inl (ev_shl x y) :: st) σ := by
  rfl
theorem eo_19 : EO j ((19, k, f, z, w) :: ops) L (.inl y :: .inl x :: st) σ = EO j ops L (.inl (ev_shr x y) :: st) σ := by
  rfl
theorem eo_13 (hy : ¬ ev_wr y = 0) : EO j ((13, k, f, z, w) :: ops) L (.inl y :: .inl x :: st) σ = EO j ops L (.inl (ev_div x y) :: st) σ := by
  unfold EO; simp only [ev_o, ev_x]; rw [if_neg hy]
theorem eo_14 (hy : ¬ ev_wr y = 0) : EO j ((14, k, f, z, w) :: ops) L (.inl y :: .inl x :: st) σ = EO j ops L (.inl (ev_rem x y) :: st) σ := by
  unfold EO; simp only [ev_o, ev_x]; rw [if_neg hy]
theorem eo_20 : EO j ((20, k, f, z, w) :: ops) L (.inr (.inr g) :: .inr (.inr h) :: st) σ = EO j ops L (.inr (.inr (h + g)) :: st) σ := by
  rfl
theorem eo_21 : EO j ((21, k, f, z, w) :: ops) L (.inr (.inr g) :: .inr (.inr h) :: st) σ = EO j ops L (.inr (.inr (h * g)) :: st) σ := by
  rfl
theorem eo_9 : EO j ((9, k, f, z, w) :: ops) L (.inr (.inr g) :: .inr (.inr h) :: st) σ = EO j ops L (.inl (ev_lc h g) :: st) σ := by
  rfl
theorem eo_38 (hc : ev_w st ≤ 8) (h0 : 0 ≤ x) (h1 : x ≤ 2147483647) : EO j ((38, k, f, z, w) :: ops) L (.inl x :: .inr (.inl 200) :: st) σ = EO j ops L (.inl (σ 200 x) :: st) σ := by
  have e : ev_wr x = x := by unfold ev_wr; omega
  unfold EO; simp only [ev_o, ev_x]; rw [if_pos ⟨trivial, hc, by rw [e]; exact h0⟩, e]
theorem eo_22 : EO j ((22, k, f, z, w) :: ops) L (.inl x :: st) σ = EO j ops L (.inr (.inr (Int64.ofInt (ev_wr x))) :: st) σ := by
  rfl
theorem eo_24i : EO j ((24, k, f, z, w) :: ops) L (.inl x :: st) σ = EO j ops L (.inl x :: .inl x :: st) σ := by
  rfl
theorem eo_24r : EO j ((24, k, f, z, w) :: ops) L (.inr (.inl x) :: st) σ = EO j ops L (.inr (.inl x) :: .inr (.inl x) :: st) σ := by
  rfl
theorem eo_25 : EO j ((25, k, f, z, w) :: ops) L (.inl y :: .inr (.inl x) :: st) σ = EO j ops L (.inl y :: .inr (.inl x) :: .inl y :: .inr (.inl x) :: st) σ := by
  rfl
theorem eo_26 : EO j ((26, k, f, z, w) :: ops) L (.inl x :: st) σ = EO j ops L st σ := by
  rfl
theorem eo_27 (hc : ev_cls i = c) : EO j ((27, e, c, z, w) :: ops) L (.inr (.inl i) :: st) σ = EO j ops L (.inl (σ i z) :: st) σ := by
  unfold EO; simp only [ev_o, ev_x]; rw [if_pos hc]
theorem eo_28 (hc : ev_cls i = c) : EO j ((28, e, c, z, w) :: ops) L (.inr (.inl i) :: st) σ = EO j ops L (.inr (.inl (i + w)) :: st) σ := by
  unfold EO; simp only [ev_o, ev_x]; rw [if_pos hc]
theorem eo_29 (hc : ev_cls i = c) : EO j ((29, e, c, z, w) :: ops) L (.inr (.inl i) :: st) σ = EO j ops L (.inr (.inr (Int64.ofInt (σ i z))) :: st) σ := by
  unfold EO; simp only [ev_o, ev_x]; rw [if_pos hc]
theorem eo_30 (hc : ev_cls i = c) : EO j ((30, e, c, z, w) :: ops) L (.inl x :: .inr (.inl i) :: st) σ = EO j ops L st (ev_up σ i z x) := by
  unfold EO; simp only [ev_o, ev_x]; rw [if_pos hc]
theorem eo_31 (hc : ev_cls i = c) : EO j ((31, e, c, z, w) :: ops) L (.inr (.inr h) :: .inr (.inl i) :: st) σ = EO j ops L st (ev_up σ i z h.toInt) := by
  unfold EO; simp only [ev_o, ev_x]; rw [if_pos hc]
theorem eo_32 (hc : ev_cls i = 12) (h0 : 0 ≤ x) (h1 : x < ev_len i) : EO j ((32, k, f, z, w) :: ops) L (.inl x :: .inr (.inl i) :: st) σ = EO j ops L (.inl (σ i x) :: st) σ := by
  have h9 := ev_len_le i
  have hw : ev_wr x = x := ev_wr_id (by omega) (by omega)
  unfold EO; simp only [ev_o, ev_x, hw]; rw [if_pos ⟨hc, h0, h1⟩]
theorem eo_34 (hc : ev_cls i = 13) (h0 : 0 ≤ x) (h1 : x < ev_len i) : EO j ((34, k, f, z, w) :: ops) L (.inl x :: .inr (.inl i) :: st) σ = EO j ops L (.inl (σ i x) :: st) σ := by
  have h9 := ev_len_le i
  have hw : ev_wr x = x := ev_wr_id (by omega) (by omega)
  unfold EO; simp only [ev_o, ev_x, hw]; rw [if_pos ⟨hc, h0, h1⟩]
theorem eo_36 (hc : ev_cls i = 14) (h0 : 0 ≤ x) (h1 : x < ev_len i) : EO j ((36, k, f, z, w) :: ops) L (.inl x :: .inr (.inl i) :: st) σ = EO j ops L (.inr (.inl (σ i x)) :: st) σ := by
  have h9 := ev_len_le i
  have hw : ev_wr x = x := ev_wr_id (by omega) (by omega)
  unfold EO; simp only [ev_o, ev_x, hw]; rw [if_pos ⟨hc, h0, h1⟩]
theorem eo_33 (hc : ev_cls i = 12) (h0 : 0 ≤ x) (h1 : x < ev_len i) : EO j ((33, k, f, z, w) :: ops) L (.inl y :: .inl x :: .inr (.inl i) :: st) σ = EO j ops L st (ev_up σ i x y) := by
  have h9 := ev_len_le i
  have hw : ev_wr x = x := ev_wr_id (by omega) (by omega)
  unfold EO; simp only [ev_o, ev_x, hw]; rw [if_pos ⟨hc, h0, h1⟩]
theorem eo_35 (hc : ev_cls i = 13) (h0 : 0 ≤ x) (h1 : x < ev_len i) (h2 : 0 ≤ y ∧ y ≤ 1) : EO j ((35, k, f, z, w) :: ops) L (.inl y :: .inl x :: .inr (.inl i) :: st) σ = EO j ops L st (ev_up σ i x y) := by
  have h9 := ev_len_le i
  have hw : ev_wr x = x := ev_wr_id (by omega) (by omega)
  unfold EO; simp only [ev_o, ev_x, hw]; rw [if_pos ⟨hc, h0, h1, h2.1, h2.2⟩]
theorem eo_37 (hc : ev_cls i = 14) (h0 : 0 ≤ x) (h1 : x < ev_len i) (h2 : ev_cls y = 7) : EO j ((37, k, f, z, w) :: ops) L (.inr (.inl y) :: .inl x :: .inr (.inl i) :: st) σ = EO j ops L st (ev_up σ i x y) := by
  have h9 := ev_len_le i
  have hw : ev_wr x = x := ev_wr_id (by omega) (by omega)
  unfold EO; simp only [ev_o, ev_x, hw]; rw [if_pos ⟨hc, h0, h1, h2⟩]
theorem eo_40 : EO j ((40, t, f, z, w) :: ops) L (.inl y :: .inl x :: st) σ = if ev_wr x = ev_wr y then EB j t L st σ else EO j ops L st σ := by
  by_cases hq : ev_wr x = ev_wr y
  · rw [if_pos hq]; unfold EO; simp only [ev_o, ev_x, if_pos hq]
  · rw [if_neg hq]; unfold EO; simp only [ev_o, ev_x, if_neg hq]
theorem br_40 (h1 : ev_wr x = ev_wr y → EB j t L st σ = R) (h2 : ¬ (ev_wr x = ev_wr y) → EO j ops L st σ = R) : EO j ((40, t, f, z, w) :: ops) L (.inl y :: .inl x :: st) σ = R := by
  rw [eo_40]
  split
  · next h => exact h1 h
  · next h => exact h2 h
theorem eo_46 : EO j ((46, t, f, z, w) :: ops) L (.inl x :: st) σ = if ev_wr x = 0 then EB j t L st σ else EO j ops L st σ := by
  by_cases hq : ev_wr x = 0
  · rw [if_pos hq]; unfold EO; simp only [ev_o, ev_x, if_pos hq]
  · rw [if_neg hq]; unfold EO; simp only [ev_o, ev_x, if_neg hq]
theorem br_46 (h1 : ev_wr x = 0 → EB j t L st σ = R) (h2 : ¬ (ev_wr x = 0) → EO j ops L st σ = R) : EO j ((46, t, f, z, w) :: ops) L (.inl x :: st) σ = R := by
  rw [eo_46]
  split
  · next h => exact h1 h
  · next h => exact h2 h
theorem eo_41 : EO j ((41, t, f, z, w) :: ops) L (.inl y :: .inl x :: st) σ = if ev_wr x = ev_wr y then EO j ops L st σ else EB j t L st σ := by
  by_cases hq : ev_wr x = ev_wr y
  · rw [if_pos hq]; unfold EO; simp only [ev_o, ev_x, if_pos hq]
  · rw [if_neg hq]; unfold EO; simp only [ev_o, ev_x, if_neg hq]
theorem br_41 (h1 : ev_wr x = ev_wr y → EO j ops L st σ = R) (h2 : ¬ (ev_wr x = ev_wr y) → EB j t L st σ = R) : EO j ((41, t, f, z, w) :: ops) L (.inl y :: .inl x :: st) σ = R := by
  rw [eo_41]
  split
  · next h => exact h1 h
  · next h => exact h2 h
theorem eo_47 : EO j ((47, t, f, z, w) :: ops) L (.inl x :: st) σ = if ev_wr x = 0 then EO j ops L st σ else EB j t L st σ := by
  by_cases hq : ev_wr x = 0
  · rw [if_pos hq]; unfold EO; simp only [ev_o, ev_x, if_pos hq]
  · rw [if_neg hq]; unfold EO; simp only [ev_o, ev_x, if_neg hq]
theorem br_47 (h1 : ev_wr x = 0 → EO j ops L st σ = R) (h2 : ¬ (ev_wr x = 0) → EB j t L st σ = R) : EO j ((47, t, f, z, w) :: ops) L (.inl x :: st) σ = R := by
  rw [eo_47]
  split
  · next h => exact h1 h
  · next h => exact h2 h
theorem eo_42 : EO j ((42, t, f, z, w) :: ops) L (.inl y :: .inl x :: st) σ = if ev_wr x < ev_wr y then EB j t L st σ else EO j ops L st σ := by
  by_cases hq : ev_wr x < ev_wr y
  · rw [if_pos hq]; unfold EO; simp only [ev_o, ev_x, if_pos hq]
  · rw [if_neg hq]; unfold EO; simp only [ev_o, ev_x, if_neg hq]
theorem br_42 (h1 : ev_wr x < ev_wr y → EB j t L st σ = R) (h2 : ¬ (ev_wr x < ev_wr y) → EO j ops L st σ = R) : EO j ((42, t, f, z, w) :: ops) L (.inl y :: .inl x :: st) σ = R := by
  rw [eo_42]
  split
  · next h => exact h1 h
  · next h => exact h2 h
theorem eo_48 : EO j ((48, t, f, z, w) :: ops) L (.inl x :: st) σ = if ev_wr x < 0 then EB j t L st σ else EO j ops L st σ := by
  by_cases hq : ev_wr x < 0
  · rw [if_pos hq]; unfold EO; simp only [ev_o, ev_x, if_pos hq]
  · rw [if_neg hq]; unfold EO; simp only [ev_o, ev_x, if_neg hq]
theorem br_48 (h1 : ev_wr x < 0 → EB j t L st σ = R) (h2 : ¬ (ev_wr x < 0) → EO j ops L st σ = R) : EO j ((48, t, f, z, w) :: ops) L (.inl x :: st) σ = R := by
  rw [eo_48]
  split
  · next h => exact h1 h
  · next h => exact h2 h
theorem eo_43 : EO j ((43, t, f, z, w) :: ops) L (.inl y :: .inl x :: st) σ = if ev_wr x < ev_wr y then EO j ops L st σ else EB j t L st σ := by
  by_cases hq : ev_wr x < ev_wr y
  · rw [if_pos hq]; unfold EO; simp only [ev_o, ev_x, if_pos hq]
  · rw [if_neg hq]; unfold EO; simp only [ev_o, ev_x, if_neg hq]
theorem br_43 (h1 : ev_wr x < ev_wr y → EO j ops L st σ = R) (h2 : ¬ (ev_wr x < ev_wr y) → EB j t L st σ = R) : EO j ((43, t, f, z, w) :: ops) L (.inl y :: .inl x :: st) σ = R := by
  rw [eo_43]
  split
  · next h => exact h1 h
  · next h => exact h2 h
theorem eo_49 : EO j ((49, t, f, z, w) :: ops) L (.inl x :: st) σ = if ev_wr x < 0 then EO j ops L st σ else EB j t L st σ := by
  by_cases hq : ev_wr x < 0
  · rw [if_pos hq]; unfold EO; simp only [ev_o, ev_x, if_pos hq]
  · rw [if_neg hq]; unfold EO; simp only [ev_o, ev_x, if_neg hq]
theorem br_49 (h1 : ev_wr x < 0 → EO j ops L st σ = R) (h2 : ¬ (ev_wr x < 0) → EB j t L st σ = R) : EO j ((49, t, f, z, w) :: ops) L (.inl x :: st) σ = R := by
  rw [eo_49]
  split
  · next h => exact h1 h
  · next h => exact h2 h
theorem eo_44 : EO j ((44, t, f, z, w) :: ops) L (.inl y :: .inl x :: st) σ = if ev_wr y < ev_wr x then EB j t L st σ else EO j ops L st σ := by
  by_cases hq : ev_wr y < ev_wr x
  · rw [if_pos hq]; unfold EO; simp only [ev_o, ev_x, if_pos hq]
  · rw [if_neg hq]; unfold EO; simp only [ev_o, ev_x, if_neg hq]
theorem br_44 (h1 : ev_wr y < ev_wr x → EB j t L st σ = R) (h2 : ¬ (ev_wr y < ev_wr x) → EO j ops L st σ = R) : EO j ((44, t, f, z, w) :: ops) L (.inl y :: .inl x :: st) σ = R := by
  rw [eo_44]
  split
  · next h => exact h1 h
  · next h => exact h2 h
theorem eo_50 : EO j ((50, t, f, z, w) :: ops) L (.inl x :: st) σ = if 0 < ev_wr x then EB j t L st σ else EO j ops L st σ := by
  by_cases hq : 0 < ev_wr x
  · rw [if_pos hq]; unfold EO; simp only [ev_o, ev_x, if_pos hq]
  · rw [if_neg hq]; unfold EO; simp only [ev_o, ev_x, if_neg hq]
theorem br_50 (h1 : 0 < ev_wr x → EB j t L st σ = R) (h2 : ¬ (0 < ev_wr x) → EO j ops L st σ = R) : EO j ((50, t, f, z, w) :: ops) L (.inl x :: st) σ = R := by
  rw [eo_50]
  split
  · next h => exact h1 h
  · next h => exact h2 h
theorem eo_45 : EO j ((45, t, f, z, w) :: ops) L (.inl y :: .inl x :: st) σ = if ev_wr y < ev_wr x then EO j ops L st σ else EB j t L st σ := by
  by_cases hq : ev_wr y < ev_wr x
  · rw [if_pos hq]; unfold EO; simp only [ev_o, ev_x, if_pos hq]
  · rw [if_neg hq]; unfold EO; simp only [ev_o, ev_x, if_neg hq]
theorem br_45 (h1 : ev_wr y < ev_wr x → EO j ops L st σ = R) (h2 : ¬ (ev_wr y < ev_wr x) → EB j t L st σ = R) : EO j ((45, t, f, z, w) :: ops) L (.inl y :: .inl x :: st) σ = R := by
  rw [eo_45]
  split
  · next h => exact h1 h
  · next h => exact h2 h
theorem eo_51 : EO j ((51, t, f, z, w) :: ops) L (.inl x :: st) σ = if 0 < ev_wr x then EO j ops L st σ else EB j t L st σ := by
  by_cases hq : 0 < ev_wr x
  · rw [if_pos hq]; unfold EO; simp only [ev_o, ev_x, if_pos hq]
  · rw [if_neg hq]; unfold EO; simp only [ev_o, ev_x, if_neg hq]
theorem br_51 (h1 : 0 < ev_wr x → EO j ops L st σ = R) (h2 : ¬ (0 < ev_wr x) → EB j t L st σ = R) : EO j ((51, t, f, z, w) :: ops) L (.inl x :: st) σ = R := by
  rw [eo_51]
  split
  · next h => exact h1 h
  · next h => exact h2 h
theorem eo_52 : EO j ((52, t, f, z, w) :: ops) L st σ = EB j t L st σ := by
  rfl
theorem eo_53 : EO j ((53, t, f, z, w) :: ops) L st σ = EB j t L st σ := by
  rfl
theorem eo_54 : EO j ((54, k, f, z, w) :: ops) L (.inl x :: st) σ = EB j (ev_sel (ev_wr x) (ev_sw k).1 (ev_sw k).2) L st σ := by
  rfl
theorem eo_55 : EO j ((55, k, f, z, w) :: ops) L (.inl x :: st) σ = EB j (ev_sel (ev_wr x) (ev_sw k).1 (ev_sw k).2) L st σ := by
  rfl
theorem eo_56i : EO j ((56, 0, f, z, w) :: ops) L [.inl x] σ = some (some (.inl x), σ) := by
  rfl
theorem eo_56z (hc : x = 0 ∨ x = 1) : EO j ((56, 1, f, z, w) :: ops) L [.inl x] σ = some (some (.inl x), σ) := by
  unfold EO; simp only [ev_o, ev_x]; rw [if_pos (Or.inr hc)]
theorem eo_57 : EO j ((57, k, f, z, w) :: ops) L [.inr (.inr h)] σ = some (some (.inr (.inr h)), σ) := by
  rfl
theorem eo_58 : EO j ((58, k, f, z, w) :: ops) L ([] : List ev_V) σ = some (none, σ) := by
  rfl
noncomputable def ev_k (j : Nat) (ops : List ev_O) (L : ev_L) (st : List ev_V) (r : Option ev_R) : Option ev_R := match r with
  | none => none
  | some (v, σ) => EO j ops L (v.toList ++ st) σ
theorem ev_ki {j : Nat} {ops : List ev_O} {L : ev_L} {st : List ev_V} {v : ev_V} {σ : ev_M} : ev_k j ops L st (some (some v, σ)) = EO j ops L (v :: st) σ := rfl
theorem ev_kv {j : Nat} {ops : List ev_O} {L : ev_L} {st : List ev_V} {σ : ev_M} : ev_k j ops L st (some (none, σ)) = EO j ops L st σ := rfl
variable {a0 a1 a2 a3 a4 a5 : ev_V}
theorem eo_60_0 (hc : ev_w st ≤ 8) : EO j ((60, q, 0, z, w) :: ops) L (st) σ = ev_k j ops L st (EM q [] σ) := by
  unfold EO; simp only [ev_o, ev_x, ev_pop]; rw [if_pos hc]; dsimp only; unfold ev_k; rcases EM q [] σ with _ | ⟨v, σ1⟩ <;> rfl
theorem eo_59_1 (hc : ev_w st ≤ 8 ∧ (ev_cls i : Int) = w) : EO j ((59, q, 1, z, w) :: ops) L (.inr (.inl i) :: st) σ = ev_k j ops L st (EM q [.inr (.inl i)] σ) := by
  unfold EO; simp only [ev_o, ev_x, ev_pop]; rw [if_pos hc]; dsimp only; unfold ev_k; rcases EM q [.inr (.inl i)] σ with _ | ⟨v, σ1⟩ <;> rfl
theorem eo_60_1 (hc : ev_w st ≤ 8) : EO j ((60, q, 1, z, w) :: ops) L (a0 :: st) σ = ev_k j ops L st (EM q [a0] σ) := by
  unfold EO; simp only [ev_o, ev_x, ev_pop]; rw [if_pos hc]; dsimp only; unfold ev_k; rcases EM q [a0] σ with _ | ⟨v, σ1⟩ <;> rfl
theorem eo_59_2 (hc : ev_w st ≤ 8 ∧ (ev_cls i : Int) = w) : EO j ((59, q, 2, z, w) :: ops) L (a0 :: .inr (.inl i) :: st) σ = ev_k j ops L st (EM q [.inr (.inl i), a0] σ) := by
  unfold EO; simp only [ev_o, ev_x, ev_pop]; rw [if_pos hc]; dsimp only; unfold ev_k; rcases EM q [.inr (.inl i), a0] σ with _ | ⟨v, σ1⟩ <;> rfl
theorem eo_60_2 (hc : ev_w st ≤ 8) : EO j ((60, q, 2, z, w) :: ops) L (a1 :: a0 :: st) σ = ev_k j ops L st (EM q [a0, a1] σ) := by
  unfold EO; simp only [ev_o, ev_x, ev_pop]; rw [if_pos hc]; dsimp only; unfold ev_k; rcases EM q [a0, a1] σ with _ | ⟨v, σ1⟩ <;> rfl
theorem eo_59_3 (hc : ev_w st ≤ 8 ∧ (ev_cls i : Int) = w) : EO j ((59, q, 3, z, w) :: ops) L (a1 :: a0 :: .inr (.inl i) :: st) σ = ev_k j ops L st (EM q [.inr (.inl i), a0, a1] σ) := by
  unfold EO; simp only [ev_o, ev_x, ev_pop]; rw [if_pos hc]; dsimp only; unfold ev_k; rcases EM q [.inr (.inl i), a0, a1] σ with _ | ⟨v, σ1⟩ <;> rfl
theorem eo_60_3 (hc : ev_w st ≤ 8) : EO j ((60, q, 3, z, w) :: ops) L (a2 :: a1 :: a0 :: st) σ = ev_k j ops L st (EM q [a0, a1, a2] σ) := by
  unfold EO; simp only [ev_o, ev_x, ev_pop]; rw [if_pos hc]; dsimp only; unfold ev_k; rcases EM q [a0, a1, a2] σ with _ | ⟨v, σ1⟩ <;> rfl
theorem eo_59_4 (hc : ev_w st ≤ 8 ∧ (ev_cls i : Int) = w) : EO j ((59, q, 4, z, w) :: ops) L (a2 :: a1 :: a0 :: .inr (.inl i) :: st) σ = ev_k j ops L st (EM q [.inr (.inl i), a0, a1, a2] σ) := by
  unfold EO; simp only [ev_o, ev_x, ev_pop]; rw [if_pos hc]; dsimp only; unfold ev_k; rcases EM q [.inr (.inl i), a0, a1, a2] σ with _ | ⟨v, σ1⟩ <;> rfl
theorem eo_60_4 (hc : ev_w st ≤ 8) : EO j ((60, q, 4, z, w) :: ops) L (a3 :: a2 :: a1 :: a0 :: st) σ = ev_k j ops L st (EM q [a0, a1, a2, a3] σ) := by
  unfold EO; simp only [ev_o, ev_x, ev_pop]; rw [if_pos hc]; dsimp only; unfold ev_k; rcases EM q [a0, a1, a2, a3] σ with _ | ⟨v, σ1⟩ <;> rfl
theorem eo_59_5 (hc : ev_w st ≤ 8 ∧ (ev_cls i : Int) = w) : EO j ((59, q, 5, z, w) :: ops) L (a3 :: a2 :: a1 :: a0 :: .inr (.inl i) :: st) σ = ev_k j ops L st (EM q [.inr (.inl i), a0, a1, a2, a3] σ) := by
  unfold EO; simp only [ev_o, ev_x, ev_pop]; rw [if_pos hc]; dsimp only; unfold ev_k; rcases EM q [.inr (.inl i), a0, a1, a2, a3] σ with _ | ⟨v, σ1⟩ <;> rfl
theorem eo_60_5 (hc : ev_w st ≤ 8) : EO j ((60, q, 5, z, w) :: ops) L (a4 :: a3 :: a2 :: a1 :: a0 :: st) σ = ev_k j ops L st (EM q [a0, a1, a2, a3, a4] σ) := by
  unfold EO; simp only [ev_o, ev_x, ev_pop]; rw [if_pos hc]; dsimp only; unfold ev_k; rcases EM q [a0, a1, a2, a3, a4] σ with _ | ⟨v, σ1⟩ <;> rfl
theorem eo_59_6 (hc : ev_w st ≤ 8 ∧ (ev_cls i : Int) = w) : EO j ((59, q, 6, z, w) :: ops) L (a4 :: a3 :: a2 :: a1 :: a0 :: .inr (.inl i) :: st) σ = ev_k j ops L st (EM q [.inr (.inl i), a0, a1, a2, a3, a4] σ) := by
  unfold EO; simp only [ev_o, ev_x, ev_pop]; rw [if_pos hc]; dsimp only; unfold ev_k; rcases EM q [.inr (.inl i), a0, a1, a2, a3, a4] σ with _ | ⟨v, σ1⟩ <;> rfl
theorem eo_60_6 (hc : ev_w st ≤ 8) : EO j ((60, q, 6, z, w) :: ops) L (a5 :: a4 :: a3 :: a2 :: a1 :: a0 :: st) σ = ev_k j ops L st (EM q [a0, a1, a2, a3, a4, a5] σ) := by
  unfold EO; simp only [ev_o, ev_x, ev_pop]; rw [if_pos hc]; dsimp only; unfold ev_k; rcases EM q [a0, a1, a2, a3, a4, a5] σ with _ | ⟨v, σ1⟩ <;> rfl
theorem eo_61 {k' f' : Nat} {z' w' : Int} (hc : ev_cls x = 12 ∧ ev_cls y = 12) (h0 : 0 ≤ i ∧ 0 ≤ z ∧ 0 ≤ w) (h1 : i + w ≤ ev_len x) (h2 : z + w ≤ ev_len y) (h3 : ev_w st ≤ 8) : EO j ((61, k', f', z', w') :: ops) L (.inl w :: .inl z :: .inr (.inl y) :: .inl i :: .inr (.inl x) :: st) σ = EO j ops L st (ev_cp σ x i y z w) := by
  have h8 := ev_len_le x
  have h9 := ev_len_le y
  have e1 : ev_wr i = i := ev_wr_id (by omega) (by omega)
  have e2 : ev_wr z = z := ev_wr_id (by omega) (by omega)
  have e3 : ev_wr w = w := ev_wr_id (by omega) (by omega)
  unfold EO
  simp only [ev_o, ev_x, e1, e2, e3]
  rw [if_pos ⟨hc.1, hc.2, h0.1, h0.2.1, h0.2.2, h1, h2, h3⟩]
theorem eo_62 (hc : ev_w st ≤ 8) : EO j ((62, k, f, z, w) :: ops) L (.inl y :: .inl x :: st) σ = EO j ops L (.inl (if ev_wr x < ev_wr y then y else x) :: st) σ := by
  unfold EO; simp only [ev_o, ev_x]; rw [if_pos hc]
theorem eo_63 (hc : ev_w st ≤ 8) : EO j ((63, k, f, z, w) :: ops) L (.inl y :: .inl x :: st) σ = EO j ops L (.inl (if ev_wr y < ev_wr x then y else x) :: st) σ := by
  unfold EO; simp only [ev_o, ev_x]; rw [if_pos hc]
end EOS
theorem ev_up_eq {σ : ev_M} {i k v i' k' : Int} (h : i' = i ∧ k' = k) : ev_up σ i k v i' k' = v := by
  unfold ev_up
  rw [if_pos h]
theorem ev_up_ne {σ : ev_M} {i k v i' k' : Int} (h : i' ≠ i ∨ k' ≠ k) : ev_up σ i k v i' k' = σ i' k' := by
  unfold ev_up
  rw [if_neg (fun q => h.elim (fun z => z q.1) (fun z => z q.2))]
