/-! the blocks as equations; a call from its first block on -/
theorem mm_0 {i0 : Int} {i1 : Int} {σ : ev_M} : EM 0 [.inr (.inl i0), .inr (.inl i1)] σ = EB 0 0 [some (.inr (.inl i0)), some (.inr (.inl i1)), none, none, none, none] [] σ := by
  unfold EM ev_go
  exact if_pos (Nat.le_of_ble_eq_true rfl)
theorem bk_0_0 {L : ev_L} {st : List ev_V} {σ : ev_M} : EB 0 0 L st σ = EO 0 [(1, 1, 0, 0, 0), (28, 18, 7, 2, 17), (27, 24, 4, 0, 0), (3, 2, 0, 0, 0), (1, 0, 0, 0, 0), (0, 2, 0, 0, 0), (47, 1, 0, 7, 0), (6, 0, 0, 0, 0), (52, 2, 0, 4, 0)] L st σ := EB_eq 0 0 L st σ
theorem bk_0_1 {L : ev_L} {st : List ev_V} {σ : ev_M} : EB 0 1 L st σ = EO 0 [(6, 0, 0, (-1), 0), (53, 2, 0, 0, 0)] L st σ := EB_eq 0 1 L st σ
theorem bk_0_2 {L : ev_L} {st : List ev_V} {σ : ev_M} : EB 0 2 L st σ = EO 0 [(30, 30, 0, 0, 0), (6, 0, 0, 0, 0), (3, 3, 0, 0, 0), (53, 3, 0, 0, 0)] L st σ := EB_eq 0 2 L st σ
theorem bk_0_3 {L : ev_L} {st : List ev_V} {σ : ev_M} : EB 0 3 L st σ = EO 0 [(0, 3, 0, 0, 0), (0, 2, 0, 0, 0), (43, 4, 0, 16, 0), (1, 0, 0, 0, 0), (28, 9, 0, 1, 1), (0, 3, 0, 0, 0), (6, 0, 0, (-1), 0), (33, 0, 0, 0, 0), (23, 3, 0, 1, 0), (52, 3, 0, (-15), 0)] L st σ := EB_eq 0 3 L st σ
theorem bk_0_4 {L : ev_L} {st : List ev_V} {σ : ev_M} : EB 0 4 L st σ = EO 0 [(0, 2, 0, 0, 0), (47, 5, 0, 7, 0), (6, 0, 0, 0, 0), (52, 6, 0, 12, 0)] L st σ := EB_eq 0 4 L st σ
theorem bk_0_5 {L : ev_L} {st : List ev_V} {σ : ev_M} : EB 0 5 L st σ = EO 0 [(6, 0, 0, 1, 0), (1, 1, 0, 0, 0), (28, 18, 7, 2, 17), (27, 33, 4, 1, 0), (18, 0, 0, 0, 0), (53, 6, 0, 0, 0)] L st σ := EB_eq 0 5 L st σ
theorem bk_0_6 {L : ev_L} {st : List ev_V} {σ : ev_M} : EB 0 6 L st σ = EO 0 [(3, 3, 0, 0, 0), (6, 0, 0, 1, 0), (3, 4, 1, 0, 0), (53, 7, 0, 0, 0)] L st σ := EB_eq 0 6 L st σ
theorem bk_0_7 {L : ev_L} {st : List ev_V} {σ : ev_M} : EB 0 7 L st σ = EO 0 [(0, 4, 1, 0, 0), (0, 3, 0, 0, 0), (43, 10, 0, 73, 0), (1, 0, 0, 0, 0), (1, 1, 0, 0, 0), (0, 4, 1, 0, 0), (59, 1, 3, 36, 0), (3, 5, 1, 0, 0), (1, 0, 0, 0, 0), (27, 30, 0, 0, 0), (6, 0, 0, (-1), 0), (40, 8, 0, 29, 0), (0, 5, 1, 0, 0), (1, 0, 0, 0, 0), (27, 30, 0, 0, 0), (42, 8, 0, 20, 0), (0, 5, 1, 0, 0), (1, 0, 0, 0, 0), (27, 30, 0, 0, 0), (41, 9, 0, 32, 0), (1, 0, 0, 0, 0), (0, 2, 0, 0, 0), (59, 3, 2, 40, 0), (46, 9, 0, 24, 0), (53, 8, 0, 0, 0)] L st σ := EB_eq 0 7 L st σ
theorem bk_0_8 {L : ev_L} {st : List ev_V} {σ : ev_M} : EB 0 8 L st σ = EO 0 [(1, 0, 0, 0, 0), (0, 5, 1, 0, 0), (30, 30, 0, 0, 0), (1, 0, 0, 0, 0), (28, 15, 0, 2, 2), (6, 0, 0, 0, 0), (1, 0, 0, 0, 0), (28, 9, 0, 1, 1), (6, 0, 0, 0, 0), (6, 1, 0, 8, 0), (61, 44, 0, 0, 0), (53, 9, 0, 0, 0)] L st σ := EB_eq 0 8 L st σ
theorem bk_0_9 {L : ev_L} {st : List ev_V} {σ : ev_M} : EB 0 9 L st σ = EO 0 [(23, 4, 0, 1, 0), (52, 7, 0, (-73), 0)] L st σ := EB_eq 0 9 L st σ
theorem bk_0_10 {L : ev_L} {st : List ev_V} {σ : ev_M} : EB 0 10 L st σ = EO 0 [(58, 0, 0, 0, 0)] L st σ := EB_eq 0 10 L st σ
theorem mm_1 {i0 : Int} {i1 : Int} {x2 : Int} {σ : ev_M} : EM 1 [.inr (.inl i0), .inr (.inl i1), .inl x2] σ = EB 1 0 [some (.inr (.inl i0)), some (.inr (.inl i1)), some (.inl x2), none, none, none] [] σ := by
  unfold EM ev_go
  exact if_pos (Nat.le_of_ble_eq_true rfl)
theorem bk_1_0 {L : ev_L} {st : List ev_V} {σ : ev_M} : EB 1 0 L st σ = EO 1 [(6, 0, 0, 0, 0), (3, 3, 0, 0, 0), (6, 0, 0, 0, 0), (3, 4, 1, 0, 0), (53, 1, 0, 0, 0)] L st σ := EB_eq 1 0 L st σ
theorem bk_1_1 {L : ev_L} {st : List ev_V} {σ : ev_M} : EB 1 1 L st σ = EO 1 [(0, 4, 1, 0, 0), (1, 1, 0, 0, 0), (28, 18, 7, 2, 17), (27, 33, 4, 1, 0), (43, 3, 0, 31, 0), (0, 2, 0, 0, 0), (6, 0, 0, 1, 0), (0, 4, 1, 0, 0), (18, 0, 0, 0, 0), (15, 0, 0, 0, 0), (46, 2, 0, 16, 0), (0, 3, 0, 0, 0), (1, 1, 0, 0, 0), (28, 18, 7, 2, 17), (28, 50, 4, 5, 4), (0, 4, 1, 0, 0), (32, 0, 0, 0, 0), (10, 0, 0, 0, 0), (3, 3, 0, 0, 0), (53, 2, 0, 0, 0)] L st σ := EB_eq 1 1 L st σ
theorem bk_1_2 {L : ev_L} {st : List ev_V} {σ : ev_M} : EB 1 2 L st σ = EO 1 [(23, 4, 0, 1, 0), (52, 1, 0, (-37), 0)] L st σ := EB_eq 1 2 L st σ
theorem bk_1_3 {L : ev_L} {st : List ev_V} {σ : ev_M} : EB 1 3 L st σ = EO 1 [(6, 0, 0, 0, 0), (3, 4, 1, 0, 0), (53, 4, 0, 0, 0)] L st σ := EB_eq 1 3 L st σ
theorem bk_1_4 {L : ev_L} {st : List ev_V} {σ : ev_M} : EB 1 4 L st σ = EO 1 [(0, 4, 1, 0, 0), (1, 1, 0, 0, 0), (28, 18, 7, 2, 17), (27, 24, 4, 0, 0), (43, 7, 0, 48, 0), (1, 1, 0, 0, 0), (0, 2, 0, 0, 0), (0, 4, 1, 0, 0), (60, 2, 3, 53, 0), (3, 5, 1, 0, 0), (1, 0, 0, 0, 0), (28, 15, 0, 2, 2), (0, 4, 1, 0, 0), (0, 5, 1, 0, 0), (33, 0, 0, 0, 0), (0, 3, 0, 0, 0), (0, 5, 1, 0, 0), (6, 0, 0, (-1), 0), (41, 5, 0, 7, 0), (6, 0, 0, 0, 0), (52, 6, 0, 11, 0)] L st σ := EB_eq 1 4 L st σ
theorem bk_1_5 {L : ev_L} {st : List ev_V} {σ : ev_M} : EB 1 5 L st σ = EO 1 [(1, 1, 0, 0, 0), (0, 4, 1, 0, 0), (0, 5, 1, 0, 0), (59, 53, 3, 57, 7), (53, 6, 0, 0, 0)] L st σ := EB_eq 1 5 L st σ
theorem bk_1_6 {L : ev_L} {st : List ev_V} {σ : ev_M} : EB 1 6 L st σ = EO 1 [(10, 0, 0, 0, 0), (3, 3, 0, 0, 0), (23, 4, 0, 1, 0), (52, 4, 0, (-54), 0)] L st σ := EB_eq 1 6 L st σ
theorem bk_1_7 {L : ev_L} {st : List ev_V} {σ : ev_M} : EB 1 7 L st σ = EO 1 [(0, 3, 0, 0, 0), (56, 0, 0, 0, 0)] L st σ := EB_eq 1 7 L st σ
theorem mm_2 {i0 : Int} {x1 : Int} {x2 : Int} {σ : ev_M} : EM 2 [.inr (.inl i0), .inl x1, .inl x2] σ = EB 2 0 [some (.inr (.inl i0)), some (.inl x1), some (.inl x2), none, none] [] σ := by
  unfold EM ev_go
  exact if_pos (Nat.le_of_ble_eq_true rfl)
theorem bk_2_0 {L : ev_L} {st : List ev_V} {σ : ev_M} : EB 2 0 L st σ = EO 2 [(6, 0, 0, (-1), 0), (3, 3, 0, 0, 0), (6, 0, 0, 0, 0), (3, 4, 1, 0, 0), (53, 1, 0, 0, 0)] L st σ := EB_eq 2 0 L st σ
theorem bk_2_1 {L : ev_L} {st : List ev_V} {σ : ev_M} : EB 2 1 L st σ = EO 2 [(0, 4, 1, 0, 0), (1, 0, 0, 0, 0), (28, 18, 7, 2, 17), (27, 33, 4, 1, 0), (43, 4, 0, 42, 0), (0, 1, 0, 0, 0), (6, 0, 0, 1, 0), (0, 4, 1, 0, 0), (18, 0, 0, 0, 0), (15, 0, 0, 0, 0), (46, 3, 0, 27, 0), (0, 3, 0, 0, 0), (6, 0, 0, (-1), 0), (40, 2, 0, 19, 0), (1, 0, 0, 0, 0), (0, 2, 0, 0, 0), (0, 4, 1, 0, 0), (59, 53, 3, 57, 7), (1, 0, 0, 0, 0), (0, 2, 0, 0, 0), (0, 3, 0, 0, 0), (59, 53, 3, 57, 7), (43, 3, 0, 6, 0), (53, 2, 0, 0, 0)] L st σ := EB_eq 2 1 L st σ
theorem bk_2_2 {L : ev_L} {st : List ev_V} {σ : ev_M} : EB 2 2 L st σ = EO 2 [(0, 4, 1, 0, 0), (3, 3, 0, 0, 0), (53, 3, 0, 0, 0)] L st σ := EB_eq 2 2 L st σ
theorem bk_2_3 {L : ev_L} {st : List ev_V} {σ : ev_M} : EB 2 3 L st σ = EO 2 [(23, 4, 0, 1, 0), (52, 1, 0, (-48), 0)] L st σ := EB_eq 2 3 L st σ
theorem bk_2_4 {L : ev_L} {st : List ev_V} {σ : ev_M} : EB 2 4 L st σ = EO 2 [(0, 3, 0, 0, 0), (56, 0, 0, 0, 0)] L st σ := EB_eq 2 4 L st σ
theorem mm_3 {i0 : Int} {x1 : Int} {σ : ev_M} : EM 3 [.inr (.inl i0), .inl x1] σ = EB 3 0 [some (.inr (.inl i0)), some (.inl x1), none] [] σ := by
  unfold EM ev_go
  exact if_pos (Nat.le_of_ble_eq_true rfl)
theorem bk_3_0 {L : ev_L} {st : List ev_V} {σ : ev_M} : EB 3 0 L st σ = EO 3 [(6, 0, 0, 0, 0), (3, 2, 0, 0, 0), (53, 1, 0, 0, 0)] L st σ := EB_eq 3 0 L st σ
theorem bk_3_1 {L : ev_L} {st : List ev_V} {σ : ev_M} : EB 3 1 L st σ = EO 3 [(0, 2, 0, 0, 0), (0, 1, 0, 0, 0), (43, 5, 0, 45, 0), (1, 0, 0, 0, 0), (28, 15, 0, 2, 2), (0, 2, 0, 0, 0), (32, 0, 0, 0, 0), (1, 0, 0, 0, 0), (28, 9, 0, 1, 1), (0, 2, 0, 0, 0), (32, 0, 0, 0, 0), (40, 4, 0, 24, 0), (1, 0, 0, 0, 0), (28, 15, 0, 2, 2), (0, 2, 0, 0, 0), (32, 0, 0, 0, 0), (1, 0, 0, 0, 0), (28, 9, 0, 1, 1), (0, 2, 0, 0, 0), (32, 0, 0, 0, 0), (43, 2, 0, 7, 0), (6, 0, 0, 1, 0), (52, 3, 0, 4, 0)] L st σ := EB_eq 3 1 L st σ
theorem bk_3_2 {L : ev_L} {st : List ev_V} {σ : ev_M} : EB 3 2 L st σ = EO 3 [(6, 0, 0, 0, 0), (53, 3, 0, 0, 0)] L st σ := EB_eq 3 2 L st σ
theorem bk_3_3 {L : ev_L} {st : List ev_V} {σ : ev_M} : EB 3 3 L st σ = EO 3 [(56, 1, 0, 0, 0)] L st σ := EB_eq 3 3 L st σ
theorem bk_3_4 {L : ev_L} {st : List ev_V} {σ : ev_M} : EB 3 4 L st σ = EO 3 [(23, 2, 0, 1, 0), (52, 1, 0, (-44), 0)] L st σ := EB_eq 3 4 L st σ
theorem bk_3_5 {L : ev_L} {st : List ev_V} {σ : ev_M} : EB 3 5 L st σ = EO 3 [(6, 0, 0, 0, 0), (56, 1, 0, 0, 0)] L st σ := EB_eq 3 5 L st σ
theorem mm_4 {i0 : Int} {i1 : Int} {x2 : Int} {σ : ev_M} : EM 4 [.inr (.inl i0), .inr (.inl i1), .inl x2] σ = EB 4 0 [some (.inr (.inl i0)), some (.inr (.inl i1)), some (.inl x2), none, none, none] [] σ := by
  unfold EM ev_go
  exact if_pos (Nat.le_of_ble_eq_true rfl)
theorem bk_4_0 {L : ev_L} {st : List ev_V} {σ : ev_M} : EB 4 0 L st σ = EO 4 [(6, 0, 0, 0, 0), (3, 3, 0, 0, 0), (6, 0, 0, 0, 0), (3, 4, 1, 0, 0), (6, 0, 0, 0, 0), (3, 5, 1, 0, 0), (53, 1, 0, 0, 0)] L st σ := EB_eq 4 0 L st σ
theorem bk_4_1 {L : ev_L} {st : List ev_V} {σ : ev_M} : EB 4 1 L st σ = EO 4 [(0, 5, 1, 0, 0), (1, 1, 0, 0, 0), (28, 18, 7, 2, 17), (27, 24, 4, 0, 0), (43, 3, 0, 33, 0), (1, 0, 0, 0, 0), (28, 9, 0, 1, 1), (0, 5, 1, 0, 0), (32, 0, 0, 0, 0), (0, 2, 0, 0, 0), (41, 2, 0, 16, 0), (0, 3, 0, 0, 0), (1, 1, 0, 0, 0), (0, 5, 1, 0, 0), (0, 2, 0, 0, 0), (59, 53, 3, 57, 7), (10, 0, 0, 0, 0), (3, 3, 0, 0, 0), (6, 0, 0, 1, 0), (3, 4, 1, 0, 0), (53, 2, 0, 0, 0)] L st σ := EB_eq 4 1 L st σ
theorem bk_4_2 {L : ev_L} {st : List ev_V} {σ : ev_M} : EB 4 2 L st σ = EO 4 [(23, 5, 0, 1, 0), (52, 1, 0, (-39), 0)] L st σ := EB_eq 4 2 L st σ
theorem bk_4_3 {L : ev_L} {st : List ev_V} {σ : ev_M} : EB 4 3 L st σ = EO 4 [(0, 4, 1, 0, 0), (46, 4, 0, 17, 0), (0, 3, 0, 0, 0), (1, 1, 0, 0, 0), (28, 18, 7, 2, 17), (28, 50, 4, 5, 4), (0, 2, 0, 0, 0), (32, 0, 0, 0, 0), (10, 0, 0, 0, 0), (52, 5, 0, 4, 0)] L st σ := EB_eq 4 3 L st σ
theorem bk_4_4 {L : ev_L} {st : List ev_V} {σ : ev_M} : EB 4 4 L st σ = EO 4 [(6, 0, 0, 0, 0), (53, 5, 0, 0, 0)] L st σ := EB_eq 4 4 L st σ
theorem bk_4_5 {L : ev_L} {st : List ev_V} {σ : ev_M} : EB 4 5 L st σ = EO 4 [(56, 0, 0, 0, 0)] L st σ := EB_eq 4 5 L st σ
theorem mm_5 {x0 : Int} {x1 : Int} {σ : ev_M} : EM 5 [.inl x0, .inl x1] σ = EB 5 0 [some (.inl x0), some (.inl x1)] [] σ := by
  unfold EM ev_go
  exact if_pos (Nat.le_of_ble_eq_true rfl)
theorem bk_5_0 {L : ev_L} {st : List ev_V} {σ : ev_M} : EB 5 0 L st σ = EO 5 [(0, 0, 0, 0, 0), (6, 1, 0, 6, 0), (12, 0, 0, 0, 0), (0, 1, 0, 0, 0), (10, 0, 0, 0, 0), (56, 0, 0, 0, 0)] L st σ := EB_eq 5 0 L st σ
theorem mm_6 {i0 : Int} {x1 : Int} {σ : ev_M} : EM 6 [.inr (.inl i0), .inl x1] σ = EB 6 0 [some (.inr (.inl i0)), some (.inl x1)] [] σ := by
  unfold EM ev_go
  exact if_pos (Nat.le_of_ble_eq_true rfl)
theorem bk_6_0 {L : ev_L} {st : List ev_V} {σ : ev_M} : EB 6 0 L st σ = EO 6 [(6, 0, 0, 0, 0), (0, 1, 0, 0, 0), (44, 1, 0, 15, 0), (0, 1, 0, 0, 0), (1, 0, 0, 0, 0), (27, 43, 1, 0, 0), (43, 1, 0, 7, 0), (6, 0, 0, 1, 0), (52, 2, 0, 4, 0)] L st σ := EB_eq 6 0 L st σ
theorem bk_6_1 {L : ev_L} {st : List ev_V} {σ : ev_M} : EB 6 1 L st σ = EO 6 [(6, 0, 0, 0, 0), (53, 2, 0, 0, 0)] L st σ := EB_eq 6 1 L st σ
theorem bk_6_2 {L : ev_L} {st : List ev_V} {σ : ev_M} : EB 6 2 L st σ = EO 6 [(56, 1, 0, 0, 0)] L st σ := EB_eq 6 2 L st σ
theorem mm_7 {i0 : Int} {x1 : Int} {x2 : Int} {σ : ev_M} : EM 7 [.inr (.inl i0), .inl x1, .inl x2] σ = EB 7 0 [some (.inr (.inl i0)), some (.inl x1), some (.inl x2)] [] σ := by
  unfold EM ev_go
  exact if_pos (Nat.le_of_ble_eq_true rfl)
theorem bk_7_0 {L : ev_L} {st : List ev_V} {σ : ev_M} : EB 7 0 L st σ = EO 7 [(1, 0, 0, 0, 0), (0, 1, 0, 0, 0), (59, 6, 2, 47, 1), (46, 1, 0, 22, 0), (6, 0, 0, 0, 0), (0, 2, 0, 0, 0), (44, 1, 0, 17, 0), (0, 2, 0, 0, 0), (1, 0, 0, 0, 0), (28, 25, 1, 5, 5), (0, 1, 0, 0, 0), (32, 0, 0, 0, 0), (43, 1, 0, 7, 0), (6, 0, 0, 1, 0), (52, 2, 0, 4, 0)] L st σ := EB_eq 7 0 L st σ
theorem bk_7_1 {L : ev_L} {st : List ev_V} {σ : ev_M} : EB 7 1 L st σ = EO 7 [(6, 0, 0, 0, 0), (53, 2, 0, 0, 0)] L st σ := EB_eq 7 1 L st σ
theorem bk_7_2 {L : ev_L} {st : List ev_V} {σ : ev_M} : EB 7 2 L st σ = EO 7 [(56, 1, 0, 0, 0)] L st σ := EB_eq 7 2 L st σ
theorem mm_8 {i0 : Int} {x1 : Int} {x2 : Int} {σ : ev_M} : EM 8 [.inr (.inl i0), .inl x1, .inl x2] σ = EB 8 0 [some (.inr (.inl i0)), some (.inl x1), some (.inl x2), none] [] σ := by
  unfold EM ev_go
  exact if_pos (Nat.le_of_ble_eq_true rfl)
theorem bk_8_0 {L : ev_L} {st : List ev_V} {σ : ev_M} : EB 8 0 L st σ = EO 8 [(1, 0, 0, 0, 0), (27, 43, 1, 0, 0), (3, 3, 0, 0, 0), (1, 0, 0, 0, 0), (28, 9, 1, 1, 1), (0, 3, 0, 0, 0), (0, 1, 0, 0, 0), (33, 0, 0, 0, 0), (1, 0, 0, 0, 0), (28, 15, 1, 2, 2), (0, 3, 0, 0, 0), (6, 0, 0, 0, 0), (33, 0, 0, 0, 0), (1, 0, 0, 0, 0), (28, 18, 1, 3, 3), (0, 3, 0, 0, 0), (0, 2, 0, 0, 0), (33, 0, 0, 0, 0), (1, 0, 0, 0, 0), (28, 21, 1, 4, 4), (0, 3, 0, 0, 0), (6, 0, 0, 0, 0), (35, 0, 0, 0, 0), (1, 0, 0, 0, 0), (28, 25, 1, 5, 5), (0, 3, 0, 0, 0), (6, 0, 0, 0, 0), (33, 0, 0, 0, 0), (1, 0, 0, 0, 0), (24, 0, 0, 0, 0), (27, 43, 1, 0, 0), (6, 0, 0, 1, 0), (10, 0, 0, 0, 0), (30, 43, 1, 0, 0), (0, 3, 0, 0, 0), (56, 0, 0, 0, 0)] L st σ := EB_eq 8 0 L st σ
theorem mm_9 {i0 : Int} {x1 : Int} {x2 : Int} {x3 : Int} {x4 : Int} {σ : ev_M} : EM 9 [.inr (.inl i0), .inl x1, .inl x2, .inl x3, .inl x4] σ = EB 9 0 [some (.inr (.inl i0)), some (.inl x1), some (.inl x2), some (.inl x3), some (.inl x4), none, none] [] σ := by
  unfold EM ev_go
  exact if_pos (Nat.le_of_ble_eq_true rfl)
theorem bk_9_0 {L : ev_L} {st : List ev_V} {σ : ev_M} : EB 9 0 L st σ = EO 9 [(1, 0, 0, 0, 0), (28, 25, 1, 5, 5), (0, 1, 0, 0, 0), (32, 0, 0, 0, 0), (3, 5, 1, 0, 0), (0, 1, 0, 0, 0), (0, 5, 1, 0, 0), (60, 5, 2, 51, 0), (3, 6, 1, 0, 0), (1, 0, 0, 0, 0), (28, 28, 1, 6, 6), (0, 6, 1, 0, 0), (0, 2, 0, 0, 0), (33, 0, 0, 0, 0), (1, 0, 0, 0, 0), (28, 31, 1, 7, 7), (0, 6, 1, 0, 0), (0, 3, 0, 0, 0), (33, 0, 0, 0, 0), (1, 0, 0, 0, 0), (28, 34, 1, 8, 8), (0, 6, 1, 0, 0), (6, 0, 0, 0, 0), (33, 0, 0, 0, 0), (1, 0, 0, 0, 0), (28, 37, 1, 9, 9), (0, 6, 1, 0, 0), (0, 4, 1, 0, 0), (33, 0, 0, 0, 0), (1, 0, 0, 0, 0), (28, 40, 1, 10, 10), (0, 6, 1, 0, 0), (6, 0, 0, 0, 0), (33, 0, 0, 0, 0), (1, 0, 0, 0, 0), (28, 25, 1, 5, 5), (0, 1, 0, 0, 0), (25, 0, 0, 0, 0), (32, 0, 0, 0, 0), (6, 0, 0, 1, 0), (10, 0, 0, 0, 0), (33, 0, 0, 0, 0), (0, 5, 1, 0, 0), (56, 0, 0, 0, 0)] L st σ := EB_eq 9 0 L st σ
theorem mm_10 {i0 : Int} {x1 : Int} {x2 : Int} {x3 : Int} {σ : ev_M} : EM 10 [.inr (.inl i0), .inl x1, .inl x2, .inl x3] σ = EB 10 0 [some (.inr (.inl i0)), some (.inl x1), some (.inl x2), some (.inl x3), none] [] σ := by
  unfold EM ev_go
  exact if_pos (Nat.le_of_ble_eq_true rfl)
theorem bk_10_0 {L : ev_L} {st : List ev_V} {σ : ev_M} : EB 10 0 L st σ = EO 10 [(0, 1, 0, 0, 0), (0, 2, 0, 0, 0), (60, 5, 2, 51, 0), (3, 4, 1, 0, 0), (1, 0, 0, 0, 0), (28, 40, 1, 10, 10), (0, 4, 1, 0, 0), (25, 0, 0, 0, 0), (32, 0, 0, 0, 0), (0, 3, 0, 0, 0), (17, 0, 0, 0, 0), (33, 0, 0, 0, 0), (1, 0, 0, 0, 0), (28, 40, 1, 10, 10), (0, 4, 1, 0, 0), (32, 0, 0, 0, 0), (0, 3, 0, 0, 0), (15, 0, 0, 0, 0), (46, 1, 0, 7, 0), (6, 0, 0, 1, 0), (52, 2, 0, 4, 0)] L st σ := EB_eq 10 0 L st σ
theorem bk_10_1 {L : ev_L} {st : List ev_V} {σ : ev_M} : EB 10 1 L st σ = EO 10 [(6, 0, 0, 0, 0), (53, 2, 0, 0, 0)] L st σ := EB_eq 10 1 L st σ
theorem bk_10_2 {L : ev_L} {st : List ev_V} {σ : ev_M} : EB 10 2 L st σ = EO 10 [(56, 1, 0, 0, 0)] L st σ := EB_eq 10 2 L st σ
theorem mm_11 {i0 : Int} {x1 : Int} {x2 : Int} {σ : ev_M} : EM 11 [.inr (.inl i0), .inl x1, .inl x2] σ = EB 11 0 [some (.inr (.inl i0)), some (.inl x1), some (.inl x2)] [] σ := by
  unfold EM ev_go
  exact if_pos (Nat.le_of_ble_eq_true rfl)
theorem bk_11_0 {L : ev_L} {st : List ev_V} {σ : ev_M} : EB 11 0 L st σ = EO 11 [(1, 0, 0, 0, 0), (28, 31, 1, 7, 7), (0, 1, 0, 0, 0), (0, 2, 0, 0, 0), (33, 0, 0, 0, 0), (1, 0, 0, 0, 0), (28, 34, 1, 8, 8), (0, 1, 0, 0, 0), (6, 0, 0, 0, 0), (33, 0, 0, 0, 0), (58, 0, 0, 0, 0)] L st σ := EB_eq 11 0 L st σ
theorem mm_12 {i0 : Int} {x1 : Int} {x2 : Int} {σ : ev_M} : EM 12 [.inr (.inl i0), .inl x1, .inl x2] σ = EB 12 0 [some (.inr (.inl i0)), some (.inl x1), some (.inl x2)] [] σ := by
  unfold EM ev_go
  exact if_pos (Nat.le_of_ble_eq_true rfl)
theorem bk_12_0 {L : ev_L} {st : List ev_V} {σ : ev_M} : EB 12 0 L st σ = EO 12 [(6, 0, 0, 0, 0), (1, 0, 0, 0, 0), (28, 31, 1, 7, 7), (0, 1, 0, 0, 0), (32, 0, 0, 0, 0), (1, 0, 0, 0, 0), (28, 34, 1, 8, 8), (0, 1, 0, 0, 0), (32, 0, 0, 0, 0), (0, 2, 0, 0, 0), (1, 0, 0, 0, 0), (28, 37, 1, 9, 9), (0, 1, 0, 0, 0), (32, 0, 0, 0, 0), (12, 0, 0, 0, 0), (10, 0, 0, 0, 0), (6, 1, 0, 100, 0), (13, 0, 0, 0, 0), (11, 0, 0, 0, 0), (62, 55, 0, 0, 0), (56, 0, 0, 0, 0)] L st σ := EB_eq 12 0 L st σ
theorem mm_13 {i0 : Int} {x1 : Int} {σ : ev_M} : EM 13 [.inr (.inl i0), .inl x1] σ = EB 13 0 [some (.inr (.inl i0)), some (.inl x1), none, none, none] [] σ := by
  unfold EM ev_go
  exact if_pos (Nat.le_of_ble_eq_true rfl)
theorem bk_13_0 {L : ev_L} {st : List ev_V} {σ : ev_M} : EB 13 0 L st σ = EO 13 [(6, 0, 0, 0, 0), (3, 2, 0, 0, 0), (53, 1, 0, 0, 0)] L st σ := EB_eq 13 0 L st σ
theorem bk_13_1 {L : ev_L} {st : List ev_V} {σ : ev_M} : EB 13 1 L st σ = EO 13 [(0, 2, 0, 0, 0), (1, 0, 0, 0, 0), (27, 43, 1, 0, 0), (43, 4, 0, 75, 0), (6, 0, 0, 0, 0), (3, 3, 0, 0, 0), (53, 2, 0, 0, 0)] L st σ := EB_eq 13 1 L st σ
theorem bk_13_2 {L : ev_L} {st : List ev_V} {σ : ev_M} : EB 13 2 L st σ = EO 13 [(0, 3, 0, 0, 0), (1, 0, 0, 0, 0), (28, 25, 1, 5, 5), (0, 2, 0, 0, 0), (32, 0, 0, 0, 0), (43, 3, 0, 57, 0), (0, 2, 0, 0, 0), (0, 3, 0, 0, 0), (60, 5, 2, 51, 0), (3, 4, 1, 0, 0), (1, 0, 0, 0, 0), (28, 31, 1, 7, 7), (0, 4, 1, 0, 0), (1, 0, 0, 0, 0), (0, 4, 1, 0, 0), (0, 1, 0, 0, 0), (59, 12, 3, 60, 1), (33, 0, 0, 0, 0), (1, 0, 0, 0, 0), (28, 34, 1, 8, 8), (0, 4, 1, 0, 0), (1, 0, 0, 0, 0), (28, 34, 1, 8, 8), (0, 4, 1, 0, 0), (32, 0, 0, 0, 0), (0, 1, 0, 0, 0), (1, 0, 0, 0, 0), (28, 37, 1, 9, 9), (0, 4, 1, 0, 0), (32, 0, 0, 0, 0), (12, 0, 0, 0, 0), (10, 0, 0, 0, 0), (6, 1, 0, 100, 0), (14, 0, 0, 0, 0), (33, 0, 0, 0, 0), (23, 3, 0, 1, 0), (52, 2, 0, (-61), 0)] L st σ := EB_eq 13 2 L st σ
theorem bk_13_3 {L : ev_L} {st : List ev_V} {σ : ev_M} : EB 13 3 L st σ = EO 13 [(23, 2, 0, 1, 0), (52, 1, 0, (-77), 0)] L st σ := EB_eq 13 3 L st σ
theorem bk_13_4 {L : ev_L} {st : List ev_V} {σ : ev_M} : EB 13 4 L st σ = EO 13 [(58, 0, 0, 0, 0)] L st σ := EB_eq 13 4 L st σ
theorem mm_14 {i0 : Int} {x1 : Int} {σ : ev_M} : EM 14 [.inr (.inl i0), .inl x1] σ = EB 14 0 [some (.inr (.inl i0)), some (.inl x1), none, none] [] σ := by
  unfold EM ev_go
  exact if_pos (Nat.le_of_ble_eq_true rfl)
theorem bk_14_0 {L : ev_L} {st : List ev_V} {σ : ev_M} : EB 14 0 L st σ = EO 14 [(1, 0, 0, 0, 0), (28, 15, 1, 2, 2), (0, 1, 0, 0, 0), (32, 0, 0, 0, 0), (3, 2, 0, 0, 0), (0, 2, 0, 0, 0), (6, 1, 0, 7, 0), (42, 1, 0, 7, 0), (6, 0, 0, 4, 0), (52, 3, 0, 13, 0)] L st σ := EB_eq 14 0 L st σ
theorem bk_14_1 {L : ev_L} {st : List ev_V} {σ : ev_M} : EB 14 1 L st σ = EO 14 [(0, 2, 0, 0, 0), (6, 0, 0, 5, 0), (42, 2, 0, 7, 0), (6, 0, 0, 2, 0), (52, 3, 0, 4, 0)] L st σ := EB_eq 14 1 L st σ
theorem bk_14_2 {L : ev_L} {st : List ev_V} {σ : ev_M} : EB 14 2 L st σ = EO 14 [(6, 0, 0, 1, 0), (53, 3, 0, 0, 0)] L st σ := EB_eq 14 2 L st σ
theorem bk_14_3 {L : ev_L} {st : List ev_V} {σ : ev_M} : EB 14 3 L st σ = EO 14 [(3, 3, 0, 0, 0), (1, 0, 0, 0, 0), (28, 18, 1, 3, 3), (0, 1, 0, 0, 0), (32, 0, 0, 0, 0), (0, 3, 0, 0, 0), (10, 0, 0, 0, 0), (56, 0, 0, 0, 0)] L st σ := EB_eq 14 3 L st σ
theorem mm_15 {i0 : Int} {x1 : Int} {σ : ev_M} : EM 15 [.inr (.inl i0), .inl x1] σ = EB 15 0 [some (.inr (.inl i0)), some (.inl x1)] [] σ := by
  unfold EM ev_go
  exact if_pos (Nat.le_of_ble_eq_true rfl)
theorem bk_15_0 {L : ev_L} {st : List ev_V} {σ : ev_M} : EB 15 0 L st σ = EO 15 [(1, 0, 0, 0, 0), (28, 21, 1, 4, 4), (0, 1, 0, 0, 0), (34, 0, 0, 0, 0), (46, 1, 0, 7, 0), (6, 0, 0, 0, 0), (52, 2, 0, 12, 0)] L st σ := EB_eq 15 0 L st σ
theorem bk_15_1 {L : ev_L} {st : List ev_V} {σ : ev_M} : EB 15 1 L st σ = EO 15 [(1, 0, 0, 0, 0), (28, 15, 1, 2, 2), (0, 1, 0, 0, 0), (32, 0, 0, 0, 0), (60, 16, 1, 63, 0), (53, 2, 0, 0, 0)] L st σ := EB_eq 15 1 L st σ
theorem bk_15_2 {L : ev_L} {st : List ev_V} {σ : ev_M} : EB 15 2 L st σ = EO 15 [(56, 0, 0, 0, 0)] L st σ := EB_eq 15 2 L st σ
theorem mm_16 {x0 : Int} {σ : ev_M} : EM 16 [.inl x0] σ = EB 16 0 [some (.inl x0)] [] σ := by
  unfold EM ev_go
  exact if_pos (Nat.le_of_ble_eq_true rfl)
theorem bk_16_0 {L : ev_L} {st : List ev_V} {σ : ev_M} : EB 16 0 L st σ = EO 16 [(0, 0, 0, 0, 0), (54, 0, 0, 0, 0)] L st σ := EB_eq 16 0 L st σ
theorem bk_16_1 {L : ev_L} {st : List ev_V} {σ : ev_M} : EB 16 1 L st σ = EO 16 [(6, 0, 0, 0, 0), (56, 0, 0, 0, 0)] L st σ := EB_eq 16 1 L st σ
theorem bk_16_2 {L : ev_L} {st : List ev_V} {σ : ev_M} : EB 16 2 L st σ = EO 16 [(6, 0, 0, 3, 0), (56, 0, 0, 0, 0)] L st σ := EB_eq 16 2 L st σ
theorem bk_16_3 {L : ev_L} {st : List ev_V} {σ : ev_M} : EB 16 3 L st σ = EO 16 [(6, 1, 0, 7, 0), (56, 0, 0, 0, 0)] L st σ := EB_eq 16 3 L st σ
theorem bk_16_4 {L : ev_L} {st : List ev_V} {σ : ev_M} : EB 16 4 L st σ = EO 16 [(6, 1, 0, 12, 0), (56, 0, 0, 0, 0)] L st σ := EB_eq 16 4 L st σ
theorem bk_16_5 {L : ev_L} {st : List ev_V} {σ : ev_M} : EB 16 5 L st σ = EO 16 [(6, 1, 0, 20, 0), (56, 0, 0, 0, 0)] L st σ := EB_eq 16 5 L st σ
theorem bk_16_6 {L : ev_L} {st : List ev_V} {σ : ev_M} : EB 16 6 L st σ = EO 16 [(6, 1, 0, 28, 0), (56, 0, 0, 0, 0)] L st σ := EB_eq 16 6 L st σ
theorem bk_16_7 {L : ev_L} {st : List ev_V} {σ : ev_M} : EB 16 7 L st σ = EO 16 [(6, 1, 0, 40, 0), (56, 0, 0, 0, 0)] L st σ := EB_eq 16 7 L st σ
theorem bk_16_8 {L : ev_L} {st : List ev_V} {σ : ev_M} : EB 16 8 L st σ = EO 16 [(6, 1, 0, 60, 0), (56, 0, 0, 0, 0)] L st σ := EB_eq 16 8 L st σ
theorem mm_17 {i0 : Int} {i1 : Int} {σ : ev_M} : EM 17 [.inr (.inl i0), .inr (.inl i1)] σ = EB 17 0 [some (.inr (.inl i0)), some (.inr (.inl i1)), none] [] σ := by
  unfold EM ev_go
  exact if_pos (Nat.le_of_ble_eq_true rfl)
theorem bk_17_0 {L : ev_L} {st : List ev_V} {σ : ev_M} : EB 17 0 L st σ = EO 17 [(1, 0, 0, 0, 0), (1, 1, 0, 0, 0), (27, 43, 1, 0, 0), (30, 43, 1, 0, 0), (1, 1, 0, 0, 0), (28, 9, 1, 1, 1), (6, 0, 0, 0, 0), (1, 0, 0, 0, 0), (28, 9, 1, 1, 1), (6, 0, 0, 0, 0), (6, 1, 0, 6, 0), (61, 67, 0, 0, 0), (1, 1, 0, 0, 0), (28, 15, 1, 2, 2), (6, 0, 0, 0, 0), (1, 0, 0, 0, 0), (28, 15, 1, 2, 2), (6, 0, 0, 0, 0), (6, 1, 0, 6, 0), (61, 67, 0, 0, 0), (1, 1, 0, 0, 0), (28, 18, 1, 3, 3), (6, 0, 0, 0, 0), (1, 0, 0, 0, 0), (28, 18, 1, 3, 3), (6, 0, 0, 0, 0), (6, 1, 0, 6, 0), (61, 67, 0, 0, 0), (1, 1, 0, 0, 0), (28, 25, 1, 5, 5), (6, 0, 0, 0, 0), (1, 0, 0, 0, 0), (28, 25, 1, 5, 5), (6, 0, 0, 0, 0), (6, 1, 0, 6, 0), (61, 67, 0, 0, 0), (1, 1, 0, 0, 0), (28, 28, 1, 6, 6), (6, 0, 0, 0, 0), (1, 0, 0, 0, 0), (28, 28, 1, 6, 6), (6, 0, 0, 0, 0), (6, 1, 0, 36, 0), (61, 67, 0, 0, 0), (1, 1, 0, 0, 0), (28, 31, 1, 7, 7), (6, 0, 0, 0, 0), (1, 0, 0, 0, 0), (28, 31, 1, 7, 7), (6, 0, 0, 0, 0), (6, 1, 0, 36, 0), (61, 67, 0, 0, 0), (1, 1, 0, 0, 0), (28, 34, 1, 8, 8), (6, 0, 0, 0, 0), (1, 0, 0, 0, 0), (28, 34, 1, 8, 8), (6, 0, 0, 0, 0), (6, 1, 0, 36, 0), (61, 67, 0, 0, 0), (1, 1, 0, 0, 0), (28, 37, 1, 9, 9), (6, 0, 0, 0, 0), (1, 0, 0, 0, 0), (28, 37, 1, 9, 9), (6, 0, 0, 0, 0), (6, 1, 0, 36, 0), (61, 67, 0, 0, 0), (1, 1, 0, 0, 0), (28, 40, 1, 10, 10), (6, 0, 0, 0, 0), (1, 0, 0, 0, 0), (28, 40, 1, 10, 10), (6, 0, 0, 0, 0), (6, 1, 0, 36, 0), (61, 67, 0, 0, 0), (6, 0, 0, 0, 0), (3, 2, 0, 0, 0), (53, 1, 0, 0, 0)] L st σ := EB_eq 17 0 L st σ
theorem bk_17_1 {L : ev_L} {st : List ev_V} {σ : ev_M} : EB 17 1 L st σ = EO 17 [(0, 2, 0, 0, 0), (6, 1, 0, 6, 0), (43, 2, 0, 21, 0), (1, 0, 0, 0, 0), (28, 21, 1, 4, 4), (0, 2, 0, 0, 0), (1, 1, 0, 0, 0), (28, 21, 1, 4, 4), (0, 2, 0, 0, 0), (34, 0, 0, 0, 0), (35, 0, 0, 0, 0), (23, 2, 0, 1, 0), (52, 1, 0, (-21), 0)] L st σ := EB_eq 17 1 L st σ
theorem bk_17_2 {L : ev_L} {st : List ev_V} {σ : ev_M} : EB 17 2 L st σ = EO 17 [(58, 0, 0, 0, 0)] L st σ := EB_eq 17 2 L st σ
theorem mm_18 {i0 : Int} {i1 : Int} {x2 : Int} {σ : ev_M} : EM 18 [.inr (.inl i0), .inr (.inl i1), .inl x2] σ = EB 18 0 [some (.inr (.inl i0)), some (.inr (.inl i1)), some (.inl x2)] [] σ := by
  unfold EM ev_go
  exact if_pos (Nat.le_of_ble_eq_true rfl)
theorem bk_18_0 {L : ev_L} {st : List ev_V} {σ : ev_M} : EB 18 0 L st σ = EO 18 [(1, 0, 0, 0, 0), (1, 1, 0, 0, 0), (0, 2, 0, 0, 0), (6, 0, 0, 0, 0), (59, 20, 4, 18, 2), (1, 0, 0, 0, 0), (1, 1, 0, 0, 0), (0, 2, 0, 0, 0), (59, 21, 3, 22, 2), (56, 0, 0, 0, 0)] L st σ := EB_eq 18 0 L st σ
theorem mm_19 {i0 : Int} {i1 : Int} {x2 : Int} {x3 : Int} {σ : ev_M} : EM 19 [.inr (.inl i0), .inr (.inl i1), .inl x2, .inl x3] σ = EB 19 0 [some (.inr (.inl i0)), some (.inr (.inl i1)), some (.inl x2), some (.inl x3)] [] σ := by
  unfold EM ev_go
  exact if_pos (Nat.le_of_ble_eq_true rfl)
theorem bk_19_0 {L : ev_L} {st : List ev_V} {σ : ev_M} : EB 19 0 L st σ = EO 19 [(1, 0, 0, 0, 0), (1, 1, 0, 0, 0), (0, 2, 0, 0, 0), (0, 3, 0, 0, 0), (59, 20, 4, 18, 2), (1, 0, 0, 0, 0), (1, 1, 0, 0, 0), (0, 2, 0, 0, 0), (59, 21, 3, 22, 2), (56, 0, 0, 0, 0)] L st σ := EB_eq 19 0 L st σ
theorem mm_20 {i0 : Int} {i1 : Int} {x2 : Int} {x3 : Int} {σ : ev_M} : EM 20 [.inr (.inl i0), .inr (.inl i1), .inl x2, .inl x3] σ = EB 20 0 [some (.inr (.inl i0)), some (.inr (.inl i1)), some (.inl x2), some (.inl x3), none] [] σ := by
  unfold EM ev_go
  exact if_pos (Nat.le_of_ble_eq_true rfl)
theorem bk_20_0 {L : ev_L} {st : List ev_V} {σ : ev_M} : EB 20 0 L st σ = EO 20 [(6, 0, 0, 0, 0), (3, 4, 1, 0, 0), (53, 1, 0, 0, 0)] L st σ := EB_eq 20 0 L st σ
theorem bk_20_1 {L : ev_L} {st : List ev_V} {σ : ev_M} : EB 20 1 L st σ = EO 20 [(0, 4, 1, 0, 0), (1, 1, 0, 0, 0), (28, 26, 1, 5, 5), (0, 2, 0, 0, 0), (32, 0, 0, 0, 0), (43, 2, 0, 27, 0), (1, 0, 0, 0, 0), (28, 9, 2, 0, 1), (0, 4, 1, 0, 0), (1, 1, 0, 0, 0), (0, 2, 0, 0, 0), (0, 4, 1, 0, 0), (60, 5, 2, 31, 0), (0, 3, 0, 0, 0), (59, 12, 3, 35, 1), (33, 0, 0, 0, 0), (23, 4, 0, 1, 0), (52, 1, 0, (-32), 0)] L st σ := EB_eq 20 1 L st σ
theorem bk_20_2 {L : ev_L} {st : List ev_V} {σ : ev_M} : EB 20 2 L st σ = EO 20 [(58, 0, 0, 0, 0)] L st σ := EB_eq 20 2 L st σ
theorem mm_21 {i0 : Int} {i1 : Int} {x2 : Int} {σ : ev_M} : EM 21 [.inr (.inl i0), .inr (.inl i1), .inl x2] σ = EB 21 0 [some (.inr (.inl i0)), some (.inr (.inl i1)), some (.inl x2), none, none, none, none, none] [] σ := by
  unfold EM ev_go
  exact if_pos (Nat.le_of_ble_eq_true rfl)
theorem bk_21_0 {L : ev_L} {st : List ev_V} {σ : ev_M} : EB 21 0 L st σ = EO 21 [(1, 1, 0, 0, 0), (28, 26, 1, 5, 5), (0, 2, 0, 0, 0), (32, 0, 0, 0, 0), (3, 3, 0, 0, 0), (0, 3, 0, 0, 0), (6, 0, 0, 1, 0), (11, 0, 0, 0, 0), (3, 4, 1, 0, 0), (53, 1, 0, 0, 0)] L st σ := EB_eq 21 0 L st σ
theorem bk_21_1 {L : ev_L} {st : List ev_V} {σ : ev_M} : EB 21 1 L st σ = EO 21 [(0, 4, 1, 0, 0), (48, 7, 0, 99, 0), (1, 1, 0, 0, 0), (28, 38, 1, 10, 10), (0, 2, 0, 0, 0), (0, 4, 1, 0, 0), (60, 5, 2, 31, 0), (32, 0, 0, 0, 0), (3, 5, 1, 0, 0), (0, 5, 1, 0, 0), (6, 1, 0, 64, 0), (15, 0, 0, 0, 0), (46, 2, 0, 8, 0), (6, 1, 0, 9, 0), (52, 3, 0, 4, 0)] L st σ := EB_eq 21 1 L st σ
theorem bk_21_2 {L : ev_L} {st : List ev_V} {σ : ev_M} : EB 21 2 L st σ = EO 21 [(6, 0, 0, 0, 0), (53, 3, 0, 0, 0)] L st σ := EB_eq 21 2 L st σ
theorem bk_21_3 {L : ev_L} {st : List ev_V} {σ : ev_M} : EB 21 3 L st σ = EO 21 [(3, 6, 1, 0, 0), (0, 4, 1, 0, 0), (6, 0, 0, 1, 0), (10, 0, 0, 0, 0), (3, 7, 1, 0, 0), (53, 4, 0, 0, 0)] L st σ := EB_eq 21 3 L st σ
theorem bk_21_4 {L : ev_L} {st : List ev_V} {σ : ev_M} : EB 21 4 L st σ = EO 21 [(0, 7, 1, 0, 0), (0, 3, 0, 0, 0), (43, 6, 0, 33, 0), (0, 5, 1, 0, 0), (6, 0, 0, 1, 0), (0, 7, 1, 0, 0), (18, 0, 0, 0, 0), (15, 0, 0, 0, 0), (46, 5, 0, 17, 0), (0, 6, 1, 0, 0), (1, 0, 0, 0, 0), (28, 15, 2, 1, 2), (0, 7, 1, 0, 0), (32, 0, 0, 0, 0), (62, 41, 0, 0, 0), (3, 6, 1, 0, 0), (53, 5, 0, 0, 0)] L st σ := EB_eq 21 4 L st σ
theorem bk_21_5 {L : ev_L} {st : List ev_V} {σ : ev_M} : EB 21 5 L st σ = EO 21 [(23, 7, 0, 1, 0), (52, 4, 0, (-33), 0)] L st σ := EB_eq 21 5 L st σ
theorem bk_21_6 {L : ev_L} {st : List ev_V} {σ : ev_M} : EB 21 6 L st σ = EO 21 [(1, 0, 0, 0, 0), (28, 15, 2, 1, 2), (0, 4, 1, 0, 0), (1, 0, 0, 0, 0), (28, 9, 2, 0, 1), (0, 4, 1, 0, 0), (32, 0, 0, 0, 0), (0, 6, 1, 0, 0), (63, 46, 0, 0, 0), (33, 0, 0, 0, 0), (23, 4, 0, (-1), 0), (52, 1, 0, (-98), 0)] L st σ := EB_eq 21 6 L st σ
theorem bk_21_7 {L : ev_L} {st : List ev_V} {σ : ev_M} : EB 21 7 L st σ = EO 21 [(0, 3, 0, 0, 0), (47, 8, 0, 7, 0), (6, 0, 0, 0, 0), (52, 9, 0, 9, 0)] L st σ := EB_eq 21 7 L st σ
theorem bk_21_8 {L : ev_L} {st : List ev_V} {σ : ev_M} : EB 21 8 L st σ = EO 21 [(1, 0, 0, 0, 0), (28, 15, 2, 1, 2), (6, 0, 0, 0, 0), (32, 0, 0, 0, 0), (53, 9, 0, 0, 0)] L st σ := EB_eq 21 8 L st σ
theorem bk_21_9 {L : ev_L} {st : List ev_V} {σ : ev_M} : EB 21 9 L st σ = EO 21 [(56, 0, 0, 0, 0)] L st σ := EB_eq 21 9 L st σ
theorem mm_22 {i0 : Int} {i1 : Int} {σ : ev_M} : EM 22 [.inr (.inl i0), .inr (.inl i1)] σ = EB 22 0 [some (.inr (.inl i0)), some (.inr (.inl i1)), none, none] [] σ := by
  unfold EM ev_go
  exact if_pos (Nat.le_of_ble_eq_true rfl)
theorem bk_22_0 {L : ev_L} {st : List ev_V} {σ : ev_M} : EB 22 0 L st σ = EO 22 [(6, 0, 0, 0, 0), (3, 2, 0, 0, 0), (6, 0, 0, 0, 0), (3, 3, 0, 0, 0), (53, 1, 0, 0, 0)] L st σ := EB_eq 22 0 L st σ
theorem bk_22_1 {L : ev_L} {st : List ev_V} {σ : ev_M} : EB 22 1 L st σ = EO 22 [(0, 3, 0, 0, 0), (1, 1, 0, 0, 0), (27, 49, 1, 0, 0), (43, 3, 0, 27, 0), (1, 0, 0, 0, 0), (1, 1, 0, 0, 0), (0, 3, 0, 0, 0), (59, 18, 3, 53, 2), (1, 1, 0, 0, 0), (28, 56, 1, 2, 2), (0, 3, 0, 0, 0), (32, 0, 0, 0, 0), (43, 2, 0, 6, 0), (23, 2, 0, 1, 0), (53, 2, 0, 0, 0)] L st σ := EB_eq 22 1 L st σ
theorem bk_22_2 {L : ev_L} {st : List ev_V} {σ : ev_M} : EB 22 2 L st σ = EO 22 [(23, 3, 0, 1, 0), (52, 1, 0, (-29), 0)] L st σ := EB_eq 22 2 L st σ
theorem bk_22_3 {L : ev_L} {st : List ev_V} {σ : ev_M} : EB 22 3 L st σ = EO 22 [(0, 2, 0, 0, 0), (56, 0, 0, 0, 0)] L st σ := EB_eq 22 3 L st σ
theorem mm_23 {i0 : Int} {i1 : Int} {x2 : Int} {σ : ev_M} : EM 23 [.inr (.inl i0), .inr (.inl i1), .inl x2] σ = EB 23 0 [some (.inr (.inl i0)), some (.inr (.inl i1)), some (.inl x2), none, none, none] [] σ := by
  unfold EM ev_go
  exact if_pos (Nat.le_of_ble_eq_true rfl)
theorem bk_23_0 {L : ev_L} {st : List ev_V} {σ : ev_M} : EB 23 0 L st σ = EO 23 [(1, 0, 0, 0, 0), (1, 1, 0, 0, 0), (0, 2, 0, 0, 0), (59, 18, 3, 53, 2), (3, 3, 0, 0, 0), (6, 0, 0, 0, 0), (3, 4, 1, 0, 0), (6, 0, 0, 0, 0), (3, 5, 1, 0, 0), (53, 1, 0, 0, 0)] L st σ := EB_eq 23 0 L st σ
theorem bk_23_1 {L : ev_L} {st : List ev_V} {σ : ev_M} : EB 23 1 L st σ = EO 23 [(0, 5, 1, 0, 0), (1, 1, 0, 0, 0), (28, 26, 1, 5, 5), (0, 2, 0, 0, 0), (32, 0, 0, 0, 0), (43, 4, 0, 60, 0), (1, 0, 0, 0, 0), (28, 9, 2, 0, 1), (0, 5, 1, 0, 0), (32, 0, 0, 0, 0), (51, 3, 0, 44, 0), (1, 0, 0, 0, 0), (28, 9, 2, 0, 1), (0, 5, 1, 0, 0), (25, 0, 0, 0, 0), (32, 0, 0, 0, 0), (6, 0, 0, 1, 0), (11, 0, 0, 0, 0), (33, 0, 0, 0, 0), (1, 0, 0, 0, 0), (1, 1, 0, 0, 0), (0, 2, 0, 0, 0), (59, 21, 3, 22, 2), (0, 3, 0, 0, 0), (43, 2, 0, 12, 0), (0, 4, 1, 0, 0), (6, 0, 0, 1, 0), (0, 5, 1, 0, 0), (18, 0, 0, 0, 0), (16, 0, 0, 0, 0), (3, 4, 1, 0, 0), (53, 2, 0, 0, 0)] L st σ := EB_eq 23 1 L st σ
theorem bk_23_2 {L : ev_L} {st : List ev_V} {σ : ev_M} : EB 23 2 L st σ = EO 23 [(1, 0, 0, 0, 0), (28, 9, 2, 0, 1), (0, 5, 1, 0, 0), (25, 0, 0, 0, 0), (32, 0, 0, 0, 0), (6, 0, 0, 1, 0), (10, 0, 0, 0, 0), (33, 0, 0, 0, 0), (53, 3, 0, 0, 0)] L st σ := EB_eq 23 2 L st σ
theorem bk_23_3 {L : ev_L} {st : List ev_V} {σ : ev_M} : EB 23 3 L st σ = EO 23 [(23, 5, 0, 1, 0), (52, 1, 0, (-65), 0)] L st σ := EB_eq 23 3 L st σ
theorem bk_23_4 {L : ev_L} {st : List ev_V} {σ : ev_M} : EB 23 4 L st σ = EO 23 [(0, 4, 1, 0, 0), (56, 0, 0, 0, 0)] L st σ := EB_eq 23 4 L st σ
theorem mm_24 {i0 : Int} {i1 : Int} {x2 : Int} {σ : ev_M} : EM 24 [.inr (.inl i0), .inr (.inl i1), .inl x2] σ = EB 24 0 [some (.inr (.inl i0)), some (.inr (.inl i1)), some (.inl x2), none, none, none, none] [] σ := by
  unfold EM ev_go
  exact if_pos (Nat.le_of_ble_eq_true rfl)
theorem bk_24_0 {L : ev_L} {st : List ev_V} {σ : ev_M} : EB 24 0 L st σ = EO 24 [(1, 0, 0, 0, 0), (1, 1, 0, 0, 0), (0, 2, 0, 0, 0), (59, 18, 3, 53, 2), (3, 3, 0, 0, 0), (6, 0, 0, 0, 0), (3, 4, 1, 0, 0), (6, 2, 0, 512, 0), (3, 5, 1, 0, 0), (53, 1, 0, 0, 0)] L st σ := EB_eq 24 0 L st σ
theorem bk_24_1 {L : ev_L} {st : List ev_V} {σ : ev_M} : EB 24 1 L st σ = EO 24 [(0, 5, 1, 0, 0), (51, 3, 0, 43, 0), (0, 4, 1, 0, 0), (0, 5, 1, 0, 0), (10, 0, 0, 0, 0), (3, 6, 1, 0, 0), (0, 6, 1, 0, 0), (6, 2, 0, 1000, 0), (44, 2, 0, 19, 0), (1, 0, 0, 0, 0), (1, 1, 0, 0, 0), (0, 2, 0, 0, 0), (0, 6, 1, 0, 0), (59, 19, 4, 59, 2), (0, 3, 0, 0, 0), (42, 2, 0, 7, 0), (0, 6, 1, 0, 0), (3, 4, 1, 0, 0), (53, 2, 0, 0, 0)] L st σ := EB_eq 24 1 L st σ
theorem bk_24_2 {L : ev_L} {st : List ev_V} {σ : ev_M} : EB 24 2 L st σ = EO 24 [(0, 5, 1, 0, 0), (6, 0, 0, 2, 0), (13, 0, 0, 0, 0), (3, 5, 1, 0, 0), (52, 1, 0, (-42), 0)] L st σ := EB_eq 24 2 L st σ
theorem bk_24_3 {L : ev_L} {st : List ev_V} {σ : ev_M} : EB 24 3 L st σ = EO 24 [(0, 4, 1, 0, 0), (6, 2, 0, 1000, 0), (43, 4, 0, 10, 0), (0, 4, 1, 0, 0), (6, 0, 0, 1, 0), (10, 0, 0, 0, 0), (52, 5, 0, 4, 0)] L st σ := EB_eq 24 3 L st σ
theorem bk_24_4 {L : ev_L} {st : List ev_V} {σ : ev_M} : EB 24 4 L st σ = EO 24 [(6, 0, 0, (-1), 0), (53, 5, 0, 0, 0)] L st σ := EB_eq 24 4 L st σ
theorem bk_24_5 {L : ev_L} {st : List ev_V} {σ : ev_M} : EB 24 5 L st σ = EO 24 [(56, 0, 0, 0, 0)] L st σ := EB_eq 24 5 L st σ
theorem mm_25 {i0 : Int} {i1 : Int} {x2 : Int} {σ : ev_M} : EM 25 [.inr (.inl i0), .inr (.inl i1), .inl x2] σ = EB 25 0 [some (.inr (.inl i0)), some (.inr (.inl i1)), some (.inl x2), none, none] [] σ := by
  unfold EM ev_go
  exact if_pos (Nat.le_of_ble_eq_true rfl)
theorem bk_25_0 {L : ev_L} {st : List ev_V} {σ : ev_M} : EB 25 0 L st σ = EO 25 [(1, 0, 0, 0, 0), (1, 1, 0, 0, 0), (28, 63, 7, 1, 6), (0, 2, 0, 0, 0), (6, 0, 0, 0, 0), (59, 20, 4, 18, 2), (6, 0, 0, 0, 0), (3, 3, 0, 0, 0), (53, 1, 0, 0, 0)] L st σ := EB_eq 25 0 L st σ
theorem bk_25_1 {L : ev_L} {st : List ev_V} {σ : ev_M} : EB 25 1 L st σ = EO 25 [(0, 3, 0, 0, 0), (1, 1, 0, 0, 0), (28, 69, 7, 2, 17), (27, 73, 4, 0, 0), (43, 3, 0, 62, 0), (1, 1, 0, 0, 0), (28, 69, 7, 2, 17), (28, 78, 4, 2, 1), (0, 3, 0, 0, 0), (32, 0, 0, 0, 0), (0, 2, 0, 0, 0), (41, 2, 0, 43, 0), (1, 1, 0, 0, 0), (28, 69, 7, 2, 17), (28, 81, 4, 3, 2), (0, 3, 0, 0, 0), (32, 0, 0, 0, 0), (3, 4, 1, 0, 0), (1, 0, 0, 0, 0), (28, 9, 2, 0, 1), (0, 4, 1, 0, 0), (6, 1, 0, 9, 0), (1, 0, 0, 0, 0), (28, 9, 2, 0, 1), (0, 4, 1, 0, 0), (32, 0, 0, 0, 0), (1, 1, 0, 0, 0), (28, 69, 7, 2, 17), (28, 84, 4, 4, 3), (0, 3, 0, 0, 0), (32, 0, 0, 0, 0), (10, 0, 0, 0, 0), (63, 46, 0, 0, 0), (33, 0, 0, 0, 0), (53, 2, 0, 0, 0)] L st σ := EB_eq 25 1 L st σ
theorem bk_25_2 {L : ev_L} {st : List ev_V} {σ : ev_M} : EB 25 2 L st σ = EO 25 [(23, 3, 0, 1, 0), (52, 1, 0, (-67), 0)] L st σ := EB_eq 25 2 L st σ
theorem bk_25_3 {L : ev_L} {st : List ev_V} {σ : ev_M} : EB 25 3 L st σ = EO 25 [(1, 0, 0, 0, 0), (1, 1, 0, 0, 0), (28, 63, 7, 1, 6), (0, 2, 0, 0, 0), (59, 21, 3, 22, 2), (56, 0, 0, 0, 0)] L st σ := EB_eq 25 3 L st σ
theorem mm_26 {i0 : Int} {i1 : Int} {σ : ev_M} : EM 26 [.inr (.inl i0), .inr (.inl i1)] σ = EB 26 0 [some (.inr (.inl i0)), some (.inr (.inl i1))] [] σ := by
  unfold EM ev_go
  exact if_pos (Nat.le_of_ble_eq_true rfl)
theorem bk_26_0 {L : ev_L} {st : List ev_V} {σ : ev_M} : EB 26 0 L st σ = EO 26 [(1, 0, 0, 0, 0), (27, 18, 3, 0, 0), (6, 0, 0, 5, 0), (42, 1, 0, 7, 0), (1, 0, 0, 0, 0), (59, 27, 1, 22, 3), (53, 1, 0, 0, 0)] L st σ := EB_eq 26 0 L st σ
theorem bk_26_1 {L : ev_L} {st : List ev_V} {σ : ev_M} : EB 26 1 L st σ = EO 26 [(1, 0, 0, 0, 0), (28, 11, 3, 1, 1), (1, 0, 0, 0, 0), (27, 18, 3, 0, 0), (36, 0, 0, 0, 0), (1, 1, 0, 0, 0), (59, 56, 2, 25, 7), (1, 0, 0, 0, 0), (24, 0, 0, 0, 0), (27, 18, 3, 0, 0), (6, 0, 0, 1, 0), (10, 0, 0, 0, 0), (30, 18, 3, 0, 0), (58, 0, 0, 0, 0)] L st σ := EB_eq 26 1 L st σ
theorem mm_27 {i0 : Int} {σ : ev_M} : EM 27 [.inr (.inl i0)] σ = EB 27 0 [some (.inr (.inl i0)), none, none] [] σ := by
  unfold EM ev_go
  exact if_pos (Nat.le_of_ble_eq_true rfl)
theorem bk_27_0 {L : ev_L} {st : List ev_V} {σ : ev_M} : EB 27 0 L st σ = EO 27 [(1, 0, 0, 0, 0), (28, 11, 3, 1, 1), (6, 0, 0, 0, 0), (36, 0, 0, 0, 0), (4, 1, 0, 0, 0), (6, 0, 0, 1, 0), (3, 2, 0, 0, 0), (53, 1, 0, 0, 0)] L st σ := EB_eq 27 0 L st σ
theorem bk_27_1 {L : ev_L} {st : List ev_V} {σ : ev_M} : EB 27 1 L st σ = EO 27 [(0, 2, 0, 0, 0), (6, 0, 0, 5, 0), (43, 2, 0, 23, 0), (1, 0, 0, 0, 0), (28, 11, 3, 1, 1), (0, 2, 0, 0, 0), (6, 0, 0, 1, 0), (11, 0, 0, 0, 0), (1, 0, 0, 0, 0), (28, 11, 3, 1, 1), (0, 2, 0, 0, 0), (36, 0, 0, 0, 0), (37, 0, 0, 0, 0), (23, 2, 0, 1, 0), (52, 1, 0, (-22), 0)] L st σ := EB_eq 27 1 L st σ
theorem bk_27_2 {L : ev_L} {st : List ev_V} {σ : ev_M} : EB 27 2 L st σ = EO 27 [(1, 0, 0, 0, 0), (28, 11, 3, 1, 1), (6, 0, 0, 4, 0), (1, 1, 0, 0, 0), (37, 0, 0, 0, 0), (1, 0, 0, 0, 0), (6, 0, 0, 4, 0), (30, 18, 3, 0, 0), (58, 0, 0, 0, 0)] L st σ := EB_eq 27 2 L st σ
theorem mm_28 {i0 : Int} {i1 : Int} {σ : ev_M} : EM 28 [.inr (.inl i0), .inr (.inl i1)] σ = EB 28 0 [some (.inr (.inl i0)), some (.inr (.inl i1))] [] σ := by
  unfold EM ev_go
  exact if_pos (Nat.le_of_ble_eq_true rfl)
theorem bk_28_0 {L : ev_L} {st : List ev_V} {σ : ev_M} : EB 28 0 L st σ = EO 28 [(1, 0, 0, 0, 0), (27, 18, 3, 0, 0), (50, 1, 0, 5, 0), (6, 0, 0, 0, 0), (56, 1, 0, 0, 0)] L st σ := EB_eq 28 0 L st σ
theorem bk_28_1 {L : ev_L} {st : List ev_V} {σ : ev_M} : EB 28 1 L st σ = EO 28 [(1, 0, 0, 0, 0), (24, 0, 0, 0, 0), (27, 18, 3, 0, 0), (6, 0, 0, 1, 0), (11, 0, 0, 0, 0), (30, 18, 3, 0, 0), (1, 1, 0, 0, 0), (1, 0, 0, 0, 0), (28, 11, 3, 1, 1), (1, 0, 0, 0, 0), (27, 18, 3, 0, 0), (36, 0, 0, 0, 0), (59, 56, 2, 25, 7), (6, 0, 0, 1, 0), (56, 1, 0, 0, 0)] L st σ := EB_eq 28 1 L st σ
theorem mm_29 {i0 : Int} {x1 : Int} {σ : ev_M} : EM 29 [.inr (.inl i0), .inl x1] σ = EB 29 0 [some (.inr (.inl i0)), some (.inl x1)] [] σ := by
  unfold EM ev_go
  exact if_pos (Nat.le_of_ble_eq_true rfl)
theorem bk_29_0 {L : ev_L} {st : List ev_V} {σ : ev_M} : EB 29 0 L st σ = EO 29 [(6, 0, 0, 0, 0), (0, 1, 0, 0, 0), (44, 1, 0, 15, 0), (0, 1, 0, 0, 0), (1, 0, 0, 0, 0), (27, 27, 4, 0, 0), (43, 1, 0, 7, 0), (6, 0, 0, 1, 0), (52, 2, 0, 4, 0)] L st σ := EB_eq 29 0 L st σ
theorem bk_29_1 {L : ev_L} {st : List ev_V} {σ : ev_M} : EB 29 1 L st σ = EO 29 [(6, 0, 0, 0, 0), (53, 2, 0, 0, 0)] L st σ := EB_eq 29 1 L st σ
theorem bk_29_2 {L : ev_L} {st : List ev_V} {σ : ev_M} : EB 29 2 L st σ = EO 29 [(56, 1, 0, 0, 0)] L st σ := EB_eq 29 2 L st σ
theorem mm_30 {i0 : Int} {x1 : Int} {σ : ev_M} : EM 30 [.inr (.inl i0), .inl x1] σ = EB 30 0 [some (.inr (.inl i0)), some (.inl x1)] [] σ := by
  unfold EM ev_go
  exact if_pos (Nat.le_of_ble_eq_true rfl)
theorem bk_30_0 {L : ev_L} {st : List ev_V} {σ : ev_M} : EB 30 0 L st σ = EO 30 [(6, 0, 0, 0, 0), (0, 1, 0, 0, 0), (44, 1, 0, 15, 0), (0, 1, 0, 0, 0), (1, 0, 0, 0, 0), (27, 31, 4, 1, 0), (43, 1, 0, 7, 0), (6, 0, 0, 1, 0), (52, 2, 0, 4, 0)] L st σ := EB_eq 30 0 L st σ
theorem bk_30_1 {L : ev_L} {st : List ev_V} {σ : ev_M} : EB 30 1 L st σ = EO 30 [(6, 0, 0, 0, 0), (53, 2, 0, 0, 0)] L st σ := EB_eq 30 1 L st σ
theorem bk_30_2 {L : ev_L} {st : List ev_V} {σ : ev_M} : EB 30 2 L st σ = EO 30 [(56, 1, 0, 0, 0)] L st σ := EB_eq 30 2 L st σ
theorem mm_31 {i0 : Int} {x1 : Int} {x2 : Int} {x3 : Int} {x4 : Int} {x5 : Int} {σ : ev_M} : EM 31 [.inr (.inl i0), .inl x1, .inl x2, .inl x3, .inl x4, .inl x5] σ = EB 31 0 [some (.inr (.inl i0)), some (.inl x1), some (.inl x2), some (.inl x3), some (.inl x4), some (.inl x5), none, none] [] σ := by
  unfold EM ev_go
  exact if_pos (Nat.le_of_ble_eq_true rfl)
theorem bk_31_0 {L : ev_L} {st : List ev_V} {σ : ev_M} : EB 31 0 L st σ = EO 31 [(1, 0, 0, 0, 0), (27, 31, 4, 1, 0), (3, 6, 1, 0, 0), (0, 6, 1, 0, 0), (6, 0, 0, 4, 0), (12, 0, 0, 0, 0), (3, 7, 1, 0, 0), (1, 0, 0, 0, 0), (28, 21, 4, 5, 4), (0, 6, 1, 0, 0), (0, 1, 0, 0, 0), (33, 0, 0, 0, 0), (1, 0, 0, 0, 0), (28, 24, 4, 6, 5), (0, 7, 1, 0, 0), (0, 2, 0, 0, 0), (33, 0, 0, 0, 0), (1, 0, 0, 0, 0), (28, 24, 4, 6, 5), (0, 7, 1, 0, 0), (6, 0, 0, 1, 0), (10, 0, 0, 0, 0), (0, 3, 0, 0, 0), (33, 0, 0, 0, 0), (1, 0, 0, 0, 0), (28, 24, 4, 6, 5), (0, 7, 1, 0, 0), (6, 0, 0, 2, 0), (10, 0, 0, 0, 0), (0, 4, 1, 0, 0), (33, 0, 0, 0, 0), (1, 0, 0, 0, 0), (28, 24, 4, 6, 5), (0, 7, 1, 0, 0), (6, 0, 0, 3, 0), (10, 0, 0, 0, 0), (0, 5, 1, 0, 0), (33, 0, 0, 0, 0), (1, 0, 0, 0, 0), (24, 0, 0, 0, 0), (27, 31, 4, 1, 0), (6, 0, 0, 1, 0), (10, 0, 0, 0, 0), (30, 31, 4, 1, 0), (0, 6, 1, 0, 0), (56, 0, 0, 0, 0)] L st σ := EB_eq 31 0 L st σ
theorem mm_32 {i0 : Int} {x1 : Int} {x2 : Int} {x3 : Int} {σ : ev_M} : EM 32 [.inr (.inl i0), .inl x1, .inl x2, .inl x3] σ = EB 32 0 [some (.inr (.inl i0)), some (.inl x1), some (.inl x2), some (.inl x3), none] [] σ := by
  unfold EM ev_go
  exact if_pos (Nat.le_of_ble_eq_true rfl)
theorem bk_32_0 {L : ev_L} {st : List ev_V} {σ : ev_M} : EB 32 0 L st σ = EO 32 [(1, 0, 0, 0, 0), (27, 27, 4, 0, 0), (3, 4, 1, 0, 0), (1, 0, 0, 0, 0), (28, 9, 4, 2, 1), (0, 4, 1, 0, 0), (0, 1, 0, 0, 0), (33, 0, 0, 0, 0), (1, 0, 0, 0, 0), (28, 15, 4, 3, 2), (0, 4, 1, 0, 0), (0, 2, 0, 0, 0), (33, 0, 0, 0, 0), (1, 0, 0, 0, 0), (28, 18, 4, 4, 3), (0, 4, 1, 0, 0), (0, 3, 0, 0, 0), (33, 0, 0, 0, 0), (1, 0, 0, 0, 0), (24, 0, 0, 0, 0), (27, 27, 4, 0, 0), (6, 0, 0, 1, 0), (10, 0, 0, 0, 0), (30, 27, 4, 0, 0), (0, 4, 1, 0, 0), (56, 0, 0, 0, 0)] L st σ := EB_eq 32 0 L st σ
theorem mm_33 {i0 : Int} {i1 : Int} {σ : ev_M} : EM 33 [.inr (.inl i0), .inr (.inl i1)] σ = EB 33 0 [some (.inr (.inl i0)), some (.inr (.inl i1))] [] σ := by
  unfold EM ev_go
  exact if_pos (Nat.le_of_ble_eq_true rfl)
theorem bk_33_0 {L : ev_L} {st : List ev_V} {σ : ev_M} : EB 33 0 L st σ = EO 33 [(1, 0, 0, 0, 0), (1, 1, 0, 0, 0), (27, 27, 4, 0, 0), (30, 27, 4, 0, 0), (1, 0, 0, 0, 0), (1, 1, 0, 0, 0), (27, 31, 4, 1, 0), (30, 31, 4, 1, 0), (1, 1, 0, 0, 0), (28, 9, 4, 2, 1), (6, 0, 0, 0, 0), (1, 0, 0, 0, 0), (28, 9, 4, 2, 1), (6, 0, 0, 0, 0), (6, 1, 0, 8, 0), (61, 34, 0, 0, 0), (1, 1, 0, 0, 0), (28, 15, 4, 3, 2), (6, 0, 0, 0, 0), (1, 0, 0, 0, 0), (28, 15, 4, 3, 2), (6, 0, 0, 0, 0), (6, 1, 0, 8, 0), (61, 34, 0, 0, 0), (1, 1, 0, 0, 0), (28, 18, 4, 4, 3), (6, 0, 0, 0, 0), (1, 0, 0, 0, 0), (28, 18, 4, 4, 3), (6, 0, 0, 0, 0), (6, 1, 0, 8, 0), (61, 34, 0, 0, 0), (1, 1, 0, 0, 0), (28, 21, 4, 5, 4), (6, 0, 0, 0, 0), (1, 0, 0, 0, 0), (28, 21, 4, 5, 4), (6, 0, 0, 0, 0), (6, 0, 0, 3, 0), (61, 34, 0, 0, 0), (1, 1, 0, 0, 0), (28, 24, 4, 6, 5), (6, 0, 0, 0, 0), (1, 0, 0, 0, 0), (28, 24, 4, 6, 5), (6, 0, 0, 0, 0), (6, 1, 0, 12, 0), (61, 34, 0, 0, 0), (58, 0, 0, 0, 0)] L st σ := EB_eq 33 0 L st σ
theorem mm_34 {i0 : Int} {i1 : Int} {σ : ev_M} : EM 34 [.inr (.inl i0), .inr (.inl i1)] σ = EB 34 0 [some (.inr (.inl i0)), some (.inr (.inl i1)), none, none] [] σ := by
  unfold EM ev_go
  exact if_pos (Nat.le_of_ble_eq_true rfl)
theorem bk_34_0 {L : ev_L} {st : List ev_V} {σ : ev_M} : EB 34 0 L st σ = EO 34 [(1, 0, 0, 0, 0), (6, 0, 0, 0, 0), (30, 28, 5, 2, 0), (1, 0, 0, 0, 0), (6, 0, 0, (-1), 0), (30, 32, 5, 3, 0), (1, 0, 0, 0, 0), (6, 0, 0, 0, 0), (30, 35, 5, 5, 0), (1, 0, 0, 0, 0), (6, 0, 0, 0, 0), (30, 38, 5, 6, 0), (6, 0, 0, 1, 0), (3, 2, 0, 0, 0), (6, 0, 0, 0, 0), (3, 3, 0, 0, 0), (53, 1, 0, 0, 0)] L st σ := EB_eq 34 0 L st σ
theorem bk_34_1 {L : ev_L} {st : List ev_V} {σ : ev_M} : EB 34 1 L st σ = EO 34 [(0, 2, 0, 0, 0), (46, 4, 0, 36, 0), (0, 3, 0, 0, 0), (6, 1, 0, 100, 0), (43, 4, 0, 30, 0), (1, 0, 0, 0, 0), (1, 1, 0, 0, 0), (59, 35, 2, 41, 5), (46, 2, 0, 14, 0), (1, 0, 0, 0, 0), (59, 38, 1, 45, 5), (46, 2, 0, 7, 0), (6, 0, 0, 1, 0), (52, 3, 0, 4, 0)] L st σ := EB_eq 34 1 L st σ
theorem bk_34_2 {L : ev_L} {st : List ev_V} {σ : ev_M} : EB 34 2 L st σ = EO 34 [(6, 0, 0, 0, 0), (53, 3, 0, 0, 0)] L st σ := EB_eq 34 2 L st σ
theorem bk_34_3 {L : ev_L} {st : List ev_V} {σ : ev_M} : EB 34 3 L st σ = EO 34 [(3, 2, 0, 0, 0), (23, 3, 0, 1, 0), (52, 1, 0, (-34), 0)] L st σ := EB_eq 34 3 L st σ
theorem bk_34_4 {L : ev_L} {st : List ev_V} {σ : ev_M} : EB 34 4 L st σ = EO 34 [(1, 0, 0, 0, 0), (27, 32, 5, 3, 0), (56, 0, 0, 0, 0)] L st σ := EB_eq 34 4 L st σ
theorem mm_35 {i0 : Int} {i1 : Int} {σ : ev_M} : EM 35 [.inr (.inl i0), .inr (.inl i1)] σ = EB 35 0 [some (.inr (.inl i0)), some (.inr (.inl i1)), none, none, none] [] σ := by
  unfold EM ev_go
  exact if_pos (Nat.le_of_ble_eq_true rfl)
theorem bk_35_0 {L : ev_L} {st : List ev_V} {σ : ev_M} : EB 35 0 L st σ = EO 35 [(1, 0, 0, 0, 0), (59, 41, 1, 49, 5), (1, 1, 0, 0, 0), (28, 52, 7, 0, 1), (27, 57, 6, 1, 0), (1, 0, 0, 0, 0), (27, 35, 5, 5, 0), (10, 0, 0, 0, 0), (6, 1, 0, 20, 0), (42, 1, 0, 12, 0), (1, 0, 0, 0, 0), (1, 0, 0, 0, 0), (27, 28, 5, 2, 0), (59, 43, 2, 62, 5), (56, 1, 0, 0, 0)] L st σ := EB_eq 35 0 L st σ
theorem bk_35_1 {L : ev_L} {st : List ev_V} {σ : ev_M} : EB 35 1 L st σ = EO 35 [(1, 1, 0, 0, 0), (28, 52, 7, 0, 1), (27, 66, 6, 0, 0), (3, 2, 0, 0, 0), (1, 0, 0, 0, 0), (6, 0, 0, 0, 0), (0, 2, 0, 0, 0), (6, 0, 0, 1, 0), (11, 0, 0, 0, 0), (6, 0, 0, (-1), 0), (59, 40, 4, 69, 5), (47, 2, 0, 5, 0), (6, 0, 0, 0, 0), (56, 1, 0, 0, 0)] L st σ := EB_eq 35 1 L st σ
theorem bk_35_2 {L : ev_L} {st : List ev_V} {σ : ev_M} : EB 35 2 L st σ = EO 35 [(1, 0, 0, 0, 0), (27, 73, 5, 4, 0), (3, 3, 0, 0, 0), (1, 0, 0, 0, 0), (6, 1, 0, 45, 0), (59, 39, 2, 76, 5), (46, 3, 0, 15, 0), (1, 0, 0, 0, 0), (6, 0, 0, 0, 0), (0, 2, 0, 0, 0), (6, 0, 0, 1, 0), (11, 0, 0, 0, 0), (0, 3, 0, 0, 0), (59, 40, 4, 69, 5), (47, 4, 0, 5, 0), (53, 3, 0, 0, 0)] L st σ := EB_eq 35 2 L st σ
theorem bk_35_3 {L : ev_L} {st : List ev_V} {σ : ev_M} : EB 35 3 L st σ = EO 35 [(6, 0, 0, 0, 0), (56, 1, 0, 0, 0)] L st σ := EB_eq 35 3 L st σ
theorem bk_35_4 {L : ev_L} {st : List ev_V} {σ : ev_M} : EB 35 4 L st σ = EO 35 [(1, 0, 0, 0, 0), (27, 73, 5, 4, 0), (3, 4, 1, 0, 0), (1, 0, 0, 0, 0), (6, 1, 0, 58, 0), (59, 39, 2, 76, 5), (46, 5, 0, 14, 0), (1, 0, 0, 0, 0), (6, 0, 0, 1, 0), (6, 1, 0, 99, 0), (6, 0, 0, (-1), 0), (59, 40, 4, 69, 5), (47, 6, 0, 5, 0), (53, 5, 0, 0, 0)] L st σ := EB_eq 35 4 L st σ
theorem bk_35_5 {L : ev_L} {st : List ev_V} {σ : ev_M} : EB 35 5 L st σ = EO 35 [(6, 0, 0, 0, 0), (56, 1, 0, 0, 0)] L st σ := EB_eq 35 5 L st σ
theorem bk_35_6 {L : ev_L} {st : List ev_V} {σ : ev_M} : EB 35 6 L st σ = EO 35 [(1, 0, 0, 0, 0), (0, 3, 0, 0, 0), (0, 4, 1, 0, 0), (1, 0, 0, 0, 0), (27, 73, 5, 4, 0), (59, 36, 4, 80, 5), (46, 7, 0, 15, 0), (1, 0, 0, 0, 0), (1, 1, 0, 0, 0), (59, 37, 2, 83, 5), (46, 7, 0, 7, 0), (6, 0, 0, 1, 0), (52, 8, 0, 4, 0)] L st σ := EB_eq 35 6 L st σ
theorem bk_35_7 {L : ev_L} {st : List ev_V} {σ : ev_M} : EB 35 7 L st σ = EO 35 [(6, 0, 0, 0, 0), (53, 8, 0, 0, 0)] L st σ := EB_eq 35 7 L st σ
theorem bk_35_8 {L : ev_L} {st : List ev_V} {σ : ev_M} : EB 35 8 L st σ = EO 35 [(56, 1, 0, 0, 0)] L st σ := EB_eq 35 8 L st σ
theorem mm_36 {i0 : Int} {x1 : Int} {x2 : Int} {x3 : Int} {σ : ev_M} : EM 36 [.inr (.inl i0), .inl x1, .inl x2, .inl x3] σ = EB 36 0 [some (.inr (.inl i0)), some (.inl x1), some (.inl x2), some (.inl x3)] [] σ := by
  unfold EM ev_go
  exact if_pos (Nat.le_of_ble_eq_true rfl)
theorem bk_36_0 {L : ev_L} {st : List ev_V} {σ : ev_M} : EB 36 0 L st σ = EO 36 [(1, 0, 0, 0, 0), (27, 35, 5, 5, 0), (6, 1, 0, 20, 0), (42, 1, 0, 12, 0), (1, 0, 0, 0, 0), (1, 0, 0, 0, 0), (27, 28, 5, 2, 0), (59, 43, 2, 62, 5), (56, 1, 0, 0, 0)] L st σ := EB_eq 36 0 L st σ
theorem bk_36_1 {L : ev_L} {st : List ev_V} {σ : ev_M} : EB 36 1 L st σ = EO 36 [(1, 0, 0, 0, 0), (28, 15, 5, 7, 2), (1, 0, 0, 0, 0), (27, 35, 5, 5, 0), (0, 1, 0, 0, 0), (33, 0, 0, 0, 0), (1, 0, 0, 0, 0), (28, 18, 5, 8, 3), (1, 0, 0, 0, 0), (27, 35, 5, 5, 0), (0, 2, 0, 0, 0), (33, 0, 0, 0, 0), (1, 0, 0, 0, 0), (28, 21, 5, 9, 4), (1, 0, 0, 0, 0), (27, 35, 5, 5, 0), (0, 3, 0, 0, 0), (33, 0, 0, 0, 0), (1, 0, 0, 0, 0), (28, 24, 5, 10, 5), (1, 0, 0, 0, 0), (27, 35, 5, 5, 0), (6, 0, 0, 0, 0), (35, 0, 0, 0, 0), (1, 0, 0, 0, 0), (24, 0, 0, 0, 0), (27, 35, 5, 5, 0), (6, 0, 0, 1, 0), (10, 0, 0, 0, 0), (30, 35, 5, 5, 0), (6, 0, 0, 1, 0), (56, 1, 0, 0, 0)] L st σ := EB_eq 36 1 L st σ
theorem mm_37 {i0 : Int} {i1 : Int} {σ : ev_M} : EM 37 [.inr (.inl i0), .inr (.inl i1)] σ = EB 37 0 [some (.inr (.inl i0)), some (.inr (.inl i1))] [] σ := by
  unfold EM ev_go
  exact if_pos (Nat.le_of_ble_eq_true rfl)
theorem bk_37_0 {L : ev_L} {st : List ev_V} {σ : ev_M} : EB 37 0 L st σ = EO 37 [(1, 0, 0, 0, 0), (59, 41, 1, 49, 5), (1, 0, 0, 0, 0), (27, 28, 5, 2, 0), (1, 0, 0, 0, 0), (27, 86, 5, 1, 0), (43, 1, 0, 17, 0), (1, 0, 0, 0, 0), (28, 9, 5, 0, 1), (1, 0, 0, 0, 0), (27, 28, 5, 2, 0), (32, 0, 0, 0, 0), (6, 1, 0, 98, 0), (40, 2, 0, 5, 0), (53, 1, 0, 0, 0)] L st σ := EB_eq 37 0 L st σ
theorem bk_37_1 {L : ev_L} {st : List ev_V} {σ : ev_M} : EB 37 1 L st σ = EO 37 [(6, 0, 0, 1, 0), (56, 1, 0, 0, 0)] L st σ := EB_eq 37 1 L st σ
theorem bk_37_2 {L : ev_L} {st : List ev_V} {σ : ev_M} : EB 37 2 L st σ = EO 37 [(1, 1, 0, 0, 0), (28, 89, 7, 1, 6), (27, 92, 1, 0, 0), (1, 0, 0, 0, 0), (27, 38, 5, 6, 0), (10, 0, 0, 0, 0), (6, 1, 0, 6, 0), (43, 3, 0, 11, 0), (1, 0, 0, 0, 0), (27, 35, 5, 5, 0), (6, 0, 0, 1, 0), (43, 4, 0, 12, 0), (53, 3, 0, 0, 0)] L st σ := EB_eq 37 2 L st σ
theorem bk_37_3 {L : ev_L} {st : List ev_V} {σ : ev_M} : EB 37 3 L st σ = EO 37 [(1, 0, 0, 0, 0), (1, 0, 0, 0, 0), (27, 28, 5, 2, 0), (59, 43, 2, 62, 5), (56, 1, 0, 0, 0)] L st σ := EB_eq 37 3 L st σ
theorem bk_37_4 {L : ev_L} {st : List ev_V} {σ : ev_M} : EB 37 4 L st σ = EO 37 [(1, 0, 0, 0, 0), (28, 24, 5, 10, 5), (1, 0, 0, 0, 0), (27, 35, 5, 5, 0), (6, 0, 0, 1, 0), (11, 0, 0, 0, 0), (6, 0, 0, 1, 0), (35, 0, 0, 0, 0), (1, 0, 0, 0, 0), (24, 0, 0, 0, 0), (27, 38, 5, 6, 0), (6, 0, 0, 1, 0), (10, 0, 0, 0, 0), (30, 38, 5, 6, 0), (1, 0, 0, 0, 0), (24, 0, 0, 0, 0), (27, 28, 5, 2, 0), (6, 0, 0, 1, 0), (10, 0, 0, 0, 0), (30, 28, 5, 2, 0), (6, 0, 0, 1, 0), (56, 1, 0, 0, 0)] L st σ := EB_eq 37 4 L st σ
theorem mm_38 {i0 : Int} {σ : ev_M} : EM 38 [.inr (.inl i0)] σ = EB 38 0 [some (.inr (.inl i0))] [] σ := by
  unfold EM ev_go
  exact if_pos (Nat.le_of_ble_eq_true rfl)
theorem bk_38_0 {L : ev_L} {st : List ev_V} {σ : ev_M} : EB 38 0 L st σ = EO 38 [(1, 0, 0, 0, 0), (59, 41, 1, 49, 5), (1, 0, 0, 0, 0), (27, 28, 5, 2, 0), (1, 0, 0, 0, 0), (27, 86, 5, 1, 0), (43, 1, 0, 16, 0), (1, 0, 0, 0, 0), (6, 1, 0, 59, 0), (59, 39, 2, 76, 5), (46, 1, 0, 7, 0), (6, 0, 0, 1, 0), (52, 2, 0, 4, 0)] L st σ := EB_eq 38 0 L st σ
theorem bk_38_1 {L : ev_L} {st : List ev_V} {σ : ev_M} : EB 38 1 L st σ = EO 38 [(6, 0, 0, 0, 0), (53, 2, 0, 0, 0)] L st σ := EB_eq 38 1 L st σ
theorem bk_38_2 {L : ev_L} {st : List ev_V} {σ : ev_M} : EB 38 2 L st σ = EO 38 [(56, 1, 0, 0, 0)] L st σ := EB_eq 38 2 L st σ
theorem mm_39 {i0 : Int} {x1 : Int} {σ : ev_M} : EM 39 [.inr (.inl i0), .inl x1] σ = EB 39 0 [some (.inr (.inl i0)), some (.inl x1)] [] σ := by
  unfold EM ev_go
  exact if_pos (Nat.le_of_ble_eq_true rfl)
theorem bk_39_0 {L : ev_L} {st : List ev_V} {σ : ev_M} : EB 39 0 L st σ = EO 39 [(1, 0, 0, 0, 0), (59, 41, 1, 49, 5), (1, 0, 0, 0, 0), (27, 28, 5, 2, 0), (1, 0, 0, 0, 0), (27, 86, 5, 1, 0), (43, 1, 0, 16, 0), (1, 0, 0, 0, 0), (28, 9, 5, 0, 1), (1, 0, 0, 0, 0), (27, 28, 5, 2, 0), (32, 0, 0, 0, 0), (0, 1, 0, 0, 0), (40, 2, 0, 12, 0), (53, 1, 0, 0, 0)] L st σ := EB_eq 39 0 L st σ
theorem bk_39_1 {L : ev_L} {st : List ev_V} {σ : ev_M} : EB 39 1 L st σ = EO 39 [(1, 0, 0, 0, 0), (1, 0, 0, 0, 0), (27, 28, 5, 2, 0), (59, 43, 2, 62, 5), (56, 1, 0, 0, 0)] L st σ := EB_eq 39 1 L st σ
theorem bk_39_2 {L : ev_L} {st : List ev_V} {σ : ev_M} : EB 39 2 L st σ = EO 39 [(1, 0, 0, 0, 0), (24, 0, 0, 0, 0), (27, 28, 5, 2, 0), (6, 0, 0, 1, 0), (10, 0, 0, 0, 0), (30, 28, 5, 2, 0), (6, 0, 0, 1, 0), (56, 1, 0, 0, 0)] L st σ := EB_eq 39 2 L st σ
theorem mm_40 {i0 : Int} {x1 : Int} {x2 : Int} {x3 : Int} {σ : ev_M} : EM 40 [.inr (.inl i0), .inl x1, .inl x2, .inl x3] σ = EB 40 0 [some (.inr (.inl i0)), some (.inl x1), some (.inl x2), some (.inl x3), none, none] [] σ := by
  unfold EM ev_go
  exact if_pos (Nat.le_of_ble_eq_true rfl)
theorem bk_40_0 {L : ev_L} {st : List ev_V} {σ : ev_M} : EB 40 0 L st σ = EO 40 [(1, 0, 0, 0, 0), (59, 41, 1, 49, 5), (1, 0, 0, 0, 0), (27, 28, 5, 2, 0), (3, 4, 1, 0, 0), (1, 0, 0, 0, 0), (6, 0, 0, 0, 0), (30, 73, 5, 4, 0), (53, 1, 0, 0, 0)] L st σ := EB_eq 40 0 L st σ
theorem bk_40_1 {L : ev_L} {st : List ev_V} {σ : ev_M} : EB 40 1 L st σ = EO 40 [(1, 0, 0, 0, 0), (27, 28, 5, 2, 0), (1, 0, 0, 0, 0), (27, 86, 5, 1, 0), (43, 3, 0, 66, 0), (1, 0, 0, 0, 0), (28, 9, 5, 0, 1), (1, 0, 0, 0, 0), (27, 28, 5, 2, 0), (32, 0, 0, 0, 0), (60, 42, 1, 95, 0), (46, 3, 0, 51, 0), (1, 0, 0, 0, 0), (27, 28, 5, 2, 0), (0, 4, 1, 0, 0), (6, 0, 0, 2, 0), (10, 0, 0, 0, 0), (43, 2, 0, 27, 0), (1, 0, 0, 0, 0), (1, 0, 0, 0, 0), (27, 73, 5, 4, 0), (6, 1, 0, 10, 0), (12, 0, 0, 0, 0), (1, 0, 0, 0, 0), (28, 9, 5, 0, 1), (1, 0, 0, 0, 0), (27, 28, 5, 2, 0), (32, 0, 0, 0, 0), (10, 0, 0, 0, 0), (6, 1, 0, 48, 0), (11, 0, 0, 0, 0), (30, 73, 5, 4, 0), (53, 2, 0, 0, 0)] L st σ := EB_eq 40 1 L st σ
theorem bk_40_2 {L : ev_L} {st : List ev_V} {σ : ev_M} : EB 40 2 L st σ = EO 40 [(1, 0, 0, 0, 0), (24, 0, 0, 0, 0), (27, 28, 5, 2, 0), (6, 0, 0, 1, 0), (10, 0, 0, 0, 0), (30, 28, 5, 2, 0), (52, 1, 0, (-71), 0)] L st σ := EB_eq 40 2 L st σ
theorem bk_40_3 {L : ev_L} {st : List ev_V} {σ : ev_M} : EB 40 3 L st σ = EO 40 [(1, 0, 0, 0, 0), (27, 28, 5, 2, 0), (0, 4, 1, 0, 0), (41, 4, 0, 12, 0), (1, 0, 0, 0, 0), (1, 0, 0, 0, 0), (27, 28, 5, 2, 0), (59, 43, 2, 62, 5), (56, 1, 0, 0, 0)] L st σ := EB_eq 40 3 L st σ
theorem bk_40_4 {L : ev_L} {st : List ev_V} {σ : ev_M} : EB 40 4 L st σ = EO 40 [(1, 0, 0, 0, 0), (27, 28, 5, 2, 0), (0, 4, 1, 0, 0), (6, 0, 0, 2, 0), (10, 0, 0, 0, 0), (44, 5, 0, 27, 0), (1, 0, 0, 0, 0), (27, 73, 5, 4, 0), (0, 1, 0, 0, 0), (0, 2, 0, 0, 0), (60, 104, 3, 98, 0), (46, 5, 0, 15, 0), (1, 0, 0, 0, 0), (27, 73, 5, 4, 0), (0, 3, 0, 0, 0), (40, 5, 0, 7, 0), (6, 0, 0, 1, 0), (52, 6, 0, 4, 0)] L st σ := EB_eq 40 4 L st σ
theorem bk_40_5 {L : ev_L} {st : List ev_V} {σ : ev_M} : EB 40 5 L st σ = EO 40 [(6, 0, 0, 0, 0), (53, 6, 0, 0, 0)] L st σ := EB_eq 40 5 L st σ
theorem bk_40_6 {L : ev_L} {st : List ev_V} {σ : ev_M} : EB 40 6 L st σ = EO 40 [(3, 5, 1, 0, 0), (0, 5, 1, 0, 0), (47, 7, 0, 12, 0), (1, 0, 0, 0, 0), (0, 4, 1, 0, 0), (59, 43, 2, 62, 5), (46, 8, 0, 7, 0), (53, 7, 0, 0, 0)] L st σ := EB_eq 40 6 L st σ
theorem bk_40_7 {L : ev_L} {st : List ev_V} {σ : ev_M} : EB 40 7 L st σ = EO 40 [(6, 0, 0, 1, 0), (52, 9, 0, 4, 0)] L st σ := EB_eq 40 7 L st σ
theorem bk_40_8 {L : ev_L} {st : List ev_V} {σ : ev_M} : EB 40 8 L st σ = EO 40 [(6, 0, 0, 0, 0), (53, 9, 0, 0, 0)] L st σ := EB_eq 40 8 L st σ
theorem bk_40_9 {L : ev_L} {st : List ev_V} {σ : ev_M} : EB 40 9 L st σ = EO 40 [(56, 1, 0, 0, 0)] L st σ := EB_eq 40 9 L st σ
theorem mm_41 {i0 : Int} {σ : ev_M} : EM 41 [.inr (.inl i0)] σ = EB 41 0 [some (.inr (.inl i0))] [] σ := by
  unfold EM ev_go
  exact if_pos (Nat.le_of_ble_eq_true rfl)
theorem bk_41_0 {L : ev_L} {st : List ev_V} {σ : ev_M} : EB 41 0 L st σ = EO 41 [(1, 0, 0, 0, 0), (27, 28, 5, 2, 0), (1, 0, 0, 0, 0), (27, 86, 5, 1, 0), (43, 1, 0, 30, 0), (1, 0, 0, 0, 0), (28, 9, 5, 0, 1), (1, 0, 0, 0, 0), (27, 28, 5, 2, 0), (32, 0, 0, 0, 0), (6, 1, 0, 32, 0), (41, 1, 0, 16, 0), (1, 0, 0, 0, 0), (24, 0, 0, 0, 0), (27, 28, 5, 2, 0), (6, 0, 0, 1, 0), (10, 0, 0, 0, 0), (30, 28, 5, 2, 0), (52, 0, 0, (-35), 0)] L st σ := EB_eq 41 0 L st σ
theorem bk_41_1 {L : ev_L} {st : List ev_V} {σ : ev_M} : EB 41 1 L st σ = EO 41 [(58, 0, 0, 0, 0)] L st σ := EB_eq 41 1 L st σ
theorem mm_42 {x0 : Int} {σ : ev_M} : EM 42 [.inl x0] σ = EB 42 0 [some (.inl x0)] [] σ := by
  unfold EM ev_go
  exact if_pos (Nat.le_of_ble_eq_true rfl)
theorem bk_42_0 {L : ev_L} {st : List ev_V} {σ : ev_M} : EB 42 0 L st σ = EO 42 [(6, 1, 0, 48, 0), (0, 0, 0, 0, 0), (44, 1, 0, 13, 0), (0, 0, 0, 0, 0), (6, 1, 0, 57, 0), (44, 1, 0, 7, 0), (6, 0, 0, 1, 0), (52, 2, 0, 4, 0)] L st σ := EB_eq 42 0 L st σ
theorem bk_42_1 {L : ev_L} {st : List ev_V} {σ : ev_M} : EB 42 1 L st σ = EO 42 [(6, 0, 0, 0, 0), (53, 2, 0, 0, 0)] L st σ := EB_eq 42 1 L st σ
theorem bk_42_2 {L : ev_L} {st : List ev_V} {σ : ev_M} : EB 42 2 L st σ = EO 42 [(56, 1, 0, 0, 0)] L st σ := EB_eq 42 2 L st σ
theorem mm_43 {i0 : Int} {x1 : Int} {σ : ev_M} : EM 43 [.inr (.inl i0), .inl x1] σ = EB 43 0 [some (.inr (.inl i0)), some (.inl x1)] [] σ := by
  unfold EM ev_go
  exact if_pos (Nat.le_of_ble_eq_true rfl)
theorem bk_43_0 {L : ev_L} {st : List ev_V} {σ : ev_M} : EB 43 0 L st σ = EO 43 [(1, 0, 0, 0, 0), (0, 1, 0, 0, 0), (30, 32, 5, 3, 0), (6, 0, 0, 0, 0), (56, 1, 0, 0, 0)] L st σ := EB_eq 43 0 L st σ
theorem mm_44 {i0 : Int} {x1 : Int} {σ : ev_M} : EM 44 [.inr (.inl i0), .inl x1] σ = EB 44 0 [some (.inr (.inl i0)), some (.inl x1)] [] σ := by
  unfold EM ev_go
  exact if_pos (Nat.le_of_ble_eq_true rfl)
theorem bk_44_0 {L : ev_L} {st : List ev_V} {σ : ev_M} : EB 44 0 L st σ = EO 44 [(6, 0, 0, 0, 0), (0, 1, 0, 0, 0), (44, 1, 0, 15, 0), (0, 1, 0, 0, 0), (1, 0, 0, 0, 0), (27, 24, 6, 0, 0), (43, 1, 0, 7, 0), (6, 0, 0, 1, 0), (52, 2, 0, 4, 0)] L st σ := EB_eq 44 0 L st σ
theorem bk_44_1 {L : ev_L} {st : List ev_V} {σ : ev_M} : EB 44 1 L st σ = EO 44 [(6, 0, 0, 0, 0), (53, 2, 0, 0, 0)] L st σ := EB_eq 44 1 L st σ
theorem bk_44_2 {L : ev_L} {st : List ev_V} {σ : ev_M} : EB 44 2 L st σ = EO 44 [(56, 1, 0, 0, 0)] L st σ := EB_eq 44 2 L st σ
theorem mm_45 {i0 : Int} {x1 : Int} {σ : ev_M} : EM 45 [.inr (.inl i0), .inl x1] σ = EB 45 0 [some (.inr (.inl i0)), some (.inl x1)] [] σ := by
  unfold EM ev_go
  exact if_pos (Nat.le_of_ble_eq_true rfl)
theorem bk_45_0 {L : ev_L} {st : List ev_V} {σ : ev_M} : EB 45 0 L st σ = EO 45 [(6, 0, 0, 0, 0), (0, 1, 0, 0, 0), (44, 1, 0, 15, 0), (0, 1, 0, 0, 0), (1, 0, 0, 0, 0), (27, 28, 6, 1, 0), (43, 1, 0, 7, 0), (6, 0, 0, 1, 0), (52, 2, 0, 4, 0)] L st σ := EB_eq 45 0 L st σ
theorem bk_45_1 {L : ev_L} {st : List ev_V} {σ : ev_M} : EB 45 1 L st σ = EO 45 [(6, 0, 0, 0, 0), (53, 2, 0, 0, 0)] L st σ := EB_eq 45 1 L st σ
theorem bk_45_2 {L : ev_L} {st : List ev_V} {σ : ev_M} : EB 45 2 L st σ = EO 45 [(56, 1, 0, 0, 0)] L st σ := EB_eq 45 2 L st σ
theorem mm_46 {i0 : Int} {x1 : Int} {x2 : Int} {x3 : Int} {σ : ev_M} : EM 46 [.inr (.inl i0), .inl x1, .inl x2, .inl x3] σ = EB 46 0 [some (.inr (.inl i0)), some (.inl x1), some (.inl x2), some (.inl x3), none] [] σ := by
  unfold EM ev_go
  exact if_pos (Nat.le_of_ble_eq_true rfl)
theorem bk_46_0 {L : ev_L} {st : List ev_V} {σ : ev_M} : EB 46 0 L st σ = EO 46 [(1, 0, 0, 0, 0), (27, 28, 6, 1, 0), (3, 4, 1, 0, 0), (1, 0, 0, 0, 0), (28, 9, 6, 2, 1), (0, 4, 1, 0, 0), (0, 1, 0, 0, 0), (33, 0, 0, 0, 0), (1, 0, 0, 0, 0), (28, 15, 6, 3, 2), (0, 4, 1, 0, 0), (0, 2, 0, 0, 0), (33, 0, 0, 0, 0), (1, 0, 0, 0, 0), (28, 18, 6, 4, 3), (0, 4, 1, 0, 0), (0, 3, 0, 0, 0), (33, 0, 0, 0, 0), (1, 0, 0, 0, 0), (28, 21, 6, 5, 4), (0, 4, 1, 0, 0), (6, 0, 0, (-1), 0), (33, 0, 0, 0, 0), (1, 0, 0, 0, 0), (24, 0, 0, 0, 0), (27, 28, 6, 1, 0), (6, 0, 0, 1, 0), (10, 0, 0, 0, 0), (30, 28, 6, 1, 0), (0, 4, 1, 0, 0), (56, 0, 0, 0, 0)] L st σ := EB_eq 46 0 L st σ
theorem mm_47 {i0 : Int} {i1 : Int} {σ : ev_M} : EM 47 [.inr (.inl i0), .inr (.inl i1)] σ = EB 47 0 [some (.inr (.inl i0)), some (.inr (.inl i1))] [] σ := by
  unfold EM ev_go
  exact if_pos (Nat.le_of_ble_eq_true rfl)
theorem bk_47_0 {L : ev_L} {st : List ev_V} {σ : ev_M} : EB 47 0 L st σ = EO 47 [(1, 0, 0, 0, 0), (1, 1, 0, 0, 0), (27, 24, 6, 0, 0), (30, 24, 6, 0, 0), (1, 0, 0, 0, 0), (1, 1, 0, 0, 0), (27, 28, 6, 1, 0), (30, 28, 6, 1, 0), (1, 1, 0, 0, 0), (28, 9, 6, 2, 1), (6, 0, 0, 0, 0), (1, 0, 0, 0, 0), (28, 9, 6, 2, 1), (6, 0, 0, 0, 0), (6, 1, 0, 20, 0), (61, 31, 0, 0, 0), (1, 1, 0, 0, 0), (28, 15, 6, 3, 2), (6, 0, 0, 0, 0), (1, 0, 0, 0, 0), (28, 15, 6, 3, 2), (6, 0, 0, 0, 0), (6, 1, 0, 20, 0), (61, 31, 0, 0, 0), (1, 1, 0, 0, 0), (28, 18, 6, 4, 3), (6, 0, 0, 0, 0), (1, 0, 0, 0, 0), (28, 18, 6, 4, 3), (6, 0, 0, 0, 0), (6, 1, 0, 20, 0), (61, 31, 0, 0, 0), (1, 1, 0, 0, 0), (28, 21, 6, 5, 4), (6, 0, 0, 0, 0), (1, 0, 0, 0, 0), (28, 21, 6, 5, 4), (6, 0, 0, 0, 0), (6, 1, 0, 20, 0), (61, 31, 0, 0, 0), (58, 0, 0, 0, 0)] L st σ := EB_eq 47 0 L st σ
theorem mm_48 {i0 : Int} {x1 : Int} {σ : ev_M} : EM 48 [.inr (.inl i0), .inl x1] σ = EB 48 0 [some (.inr (.inl i0)), some (.inl x1), none] [] σ := by
  unfold EM ev_go
  exact if_pos (Nat.le_of_ble_eq_true rfl)
theorem bk_48_0 {L : ev_L} {st : List ev_V} {σ : ev_M} : EB 48 0 L st σ = EO 48 [(1, 0, 0, 0, 0), (28, 21, 7, 1, 6), (0, 1, 0, 0, 0), (1, 0, 0, 0, 0), (27, 32, 7, 3, 0), (59, 8, 3, 36, 1), (3, 2, 0, 0, 0), (1, 0, 0, 0, 0), (28, 12, 7, 0, 1), (28, 40, 6, 5, 4), (0, 1, 0, 0, 0), (0, 2, 0, 0, 0), (33, 0, 0, 0, 0), (0, 2, 0, 0, 0), (56, 0, 0, 0, 0)] L st σ := EB_eq 48 0 L st σ
theorem mm_49 {i0 : Int} {x1 : Int} {σ : ev_M} : EM 49 [.inr (.inl i0), .inl x1] σ = EB 49 0 [some (.inr (.inl i0)), some (.inl x1)] [] σ := by
  unfold EM ev_go
  exact if_pos (Nat.le_of_ble_eq_true rfl)
theorem bk_49_0 {L : ev_L} {st : List ev_V} {σ : ev_M} : EB 49 0 L st σ = EO 49 [(1, 0, 0, 0, 0), (27, 32, 7, 3, 0), (1, 0, 0, 0, 0), (28, 21, 7, 1, 6), (0, 1, 0, 0, 0), (59, 14, 2, 44, 1), (42, 1, 0, 7, 0), (6, 0, 0, 1, 0), (52, 2, 0, 4, 0)] L st σ := EB_eq 49 0 L st σ
theorem bk_49_1 {L : ev_L} {st : List ev_V} {σ : ev_M} : EB 49 1 L st σ = EO 49 [(6, 0, 0, 0, 0), (53, 2, 0, 0, 0)] L st σ := EB_eq 49 1 L st σ
theorem bk_49_2 {L : ev_L} {st : List ev_V} {σ : ev_M} : EB 49 2 L st σ = EO 49 [(56, 1, 0, 0, 0)] L st σ := EB_eq 49 2 L st σ
theorem mm_50 {i0 : Int} {σ : ev_M} : EM 50 [.inr (.inl i0)] σ = EB 50 0 [some (.inr (.inl i0)), none, none] [] σ := by
  unfold EM ev_go
  exact if_pos (Nat.le_of_ble_eq_true rfl)
theorem bk_50_0 {L : ev_L} {st : List ev_V} {σ : ev_M} : EB 50 0 L st σ = EO 50 [(6, 0, 0, 0, 0), (3, 1, 0, 0, 0), (6, 0, 0, 0, 0), (3, 2, 0, 0, 0), (53, 1, 0, 0, 0)] L st σ := EB_eq 50 0 L st σ
theorem bk_50_1 {L : ev_L} {st : List ev_V} {σ : ev_M} : EB 50 1 L st σ = EO 50 [(0, 2, 0, 0, 0), (1, 0, 0, 0, 0), (28, 21, 7, 1, 6), (27, 48, 1, 0, 0), (43, 3, 0, 20, 0), (1, 0, 0, 0, 0), (0, 2, 0, 0, 0), (59, 49, 2, 51, 7), (46, 2, 0, 6, 0), (23, 1, 0, 1, 0), (53, 2, 0, 0, 0)] L st σ := EB_eq 50 1 L st σ
theorem bk_50_2 {L : ev_L} {st : List ev_V} {σ : ev_M} : EB 50 2 L st σ = EO 50 [(23, 2, 0, 1, 0), (52, 1, 0, (-25), 0)] L st σ := EB_eq 50 2 L st σ
theorem bk_50_3 {L : ev_L} {st : List ev_V} {σ : ev_M} : EB 50 3 L st σ = EO 50 [(0, 1, 0, 0, 0), (56, 0, 0, 0, 0)] L st σ := EB_eq 50 3 L st σ
theorem mm_51 {i0 : Int} {x1 : Int} {x2 : Int} {σ : ev_M} : EM 51 [.inr (.inl i0), .inl x1, .inl x2] σ = EB 51 0 [some (.inr (.inl i0)), some (.inl x1), some (.inl x2)] [] σ := by
  unfold EM ev_go
  exact if_pos (Nat.le_of_ble_eq_true rfl)
theorem bk_51_0 {L : ev_L} {st : List ev_V} {σ : ev_M} : EB 51 0 L st σ = EO 51 [(1, 0, 0, 0, 0), (28, 21, 7, 1, 6), (28, 55, 1, 2, 2), (0, 1, 0, 0, 0), (0, 2, 0, 0, 0), (33, 0, 0, 0, 0), (1, 0, 0, 0, 0), (28, 21, 7, 1, 6), (28, 58, 1, 3, 3), (0, 1, 0, 0, 0), (1, 0, 0, 0, 0), (27, 32, 7, 3, 0), (33, 0, 0, 0, 0), (1, 0, 0, 0, 0), (24, 0, 0, 0, 0), (27, 61, 7, 4, 0), (6, 0, 0, 1, 0), (10, 0, 0, 0, 0), (30, 61, 7, 4, 0), (1, 0, 0, 0, 0), (24, 0, 0, 0, 0), (27, 64, 7, 5, 0), (6, 0, 0, 5, 0), (1, 0, 0, 0, 0), (28, 21, 7, 1, 6), (28, 67, 1, 5, 5), (0, 1, 0, 0, 0), (32, 0, 0, 0, 0), (10, 0, 0, 0, 0), (10, 0, 0, 0, 0), (30, 64, 7, 5, 0), (58, 0, 0, 0, 0)] L st σ := EB_eq 51 0 L st σ
theorem mm_52 {i0 : Int} {x1 : Int} {σ : ev_M} : EM 52 [.inr (.inl i0), .inl x1] σ = EB 52 0 [some (.inr (.inl i0)), some (.inl x1), none] [] σ := by
  unfold EM ev_go
  exact if_pos (Nat.le_of_ble_eq_true rfl)
theorem bk_52_0 {L : ev_L} {st : List ev_V} {σ : ev_M} : EB 52 0 L st σ = EO 52 [(1, 0, 0, 0, 0), (28, 12, 7, 0, 1), (28, 40, 6, 5, 4), (0, 1, 0, 0, 0), (32, 0, 0, 0, 0), (3, 2, 0, 0, 0), (1, 0, 0, 0, 0), (28, 21, 7, 1, 6), (0, 2, 0, 0, 0), (59, 6, 2, 70, 1), (46, 1, 0, 14, 0), (1, 0, 0, 0, 0), (28, 21, 7, 1, 6), (0, 2, 0, 0, 0), (59, 15, 2, 73, 1), (52, 2, 0, 5, 0)] L st σ := EB_eq 52 0 L st σ
theorem bk_52_1 {L : ev_L} {st : List ev_V} {σ : ev_M} : EB 52 1 L st σ = EO 52 [(6, 1, 0, 60, 0), (53, 2, 0, 0, 0)] L st σ := EB_eq 52 1 L st σ
theorem bk_52_2 {L : ev_L} {st : List ev_V} {σ : ev_M} : EB 52 2 L st σ = EO 52 [(56, 0, 0, 0, 0)] L st σ := EB_eq 52 2 L st σ
theorem mm_53 {i0 : Int} {x1 : Int} {x2 : Int} {σ : ev_M} : EM 53 [.inr (.inl i0), .inl x1, .inl x2] σ = EB 53 0 [some (.inr (.inl i0)), some (.inl x1), some (.inl x2), none] [] σ := by
  unfold EM ev_go
  exact if_pos (Nat.le_of_ble_eq_true rfl)
theorem bk_53_0 {L : ev_L} {st : List ev_V} {σ : ev_M} : EB 53 0 L st σ = EO 53 [(1, 0, 0, 0, 0), (28, 28, 7, 2, 17), (28, 76, 4, 2, 1), (0, 1, 0, 0, 0), (32, 0, 0, 0, 0), (1, 0, 0, 0, 0), (28, 28, 7, 2, 17), (28, 77, 4, 3, 2), (0, 1, 0, 0, 0), (32, 0, 0, 0, 0), (60, 5, 2, 80, 0), (3, 3, 0, 0, 0), (1, 0, 0, 0, 0), (28, 28, 7, 2, 17), (28, 83, 4, 4, 3), (0, 1, 0, 0, 0), (32, 0, 0, 0, 0), (1, 0, 0, 0, 0), (28, 28, 7, 2, 17), (28, 86, 4, 6, 5), (0, 2, 0, 0, 0), (6, 0, 0, 4, 0), (12, 0, 0, 0, 0), (1, 0, 0, 0, 0), (28, 21, 7, 1, 6), (28, 89, 1, 6, 6), (0, 3, 0, 0, 0), (32, 0, 0, 0, 0), (10, 0, 0, 0, 0), (32, 0, 0, 0, 0), (12, 0, 0, 0, 0), (56, 0, 0, 0, 0)] L st σ := EB_eq 53 0 L st σ
theorem mm_54 {i0 : Int} {x1 : Int} {σ : ev_M} : EM 54 [.inr (.inl i0), .inl x1] σ = EB 54 0 [some (.inr (.inl i0)), some (.inl x1), none, none] [] σ := by
  unfold EM ev_go
  exact if_pos (Nat.le_of_ble_eq_true rfl)
theorem bk_54_0 {L : ev_L} {st : List ev_V} {σ : ev_M} : EB 54 0 L st σ = EO 54 [(1, 0, 0, 0, 0), (28, 28, 7, 2, 17), (27, 92, 4, 0, 0), (47, 1, 0, 7, 0), (6, 0, 0, 0, 0), (52, 2, 0, 12, 0)] L st σ := EB_eq 54 0 L st σ
theorem bk_54_1 {L : ev_L} {st : List ev_V} {σ : ev_M} : EB 54 1 L st σ = EO 54 [(1, 0, 0, 0, 0), (28, 28, 7, 2, 17), (28, 95, 4, 5, 4), (0, 1, 0, 0, 0), (32, 0, 0, 0, 0), (53, 2, 0, 0, 0)] L st σ := EB_eq 54 1 L st σ
theorem bk_54_2 {L : ev_L} {st : List ev_V} {σ : ev_M} : EB 54 2 L st σ = EO 54 [(3, 2, 0, 0, 0), (6, 0, 0, 0, 0), (3, 3, 0, 0, 0), (53, 3, 0, 0, 0)] L st σ := EB_eq 54 2 L st σ
theorem bk_54_3 {L : ev_L} {st : List ev_V} {σ : ev_M} : EB 54 3 L st σ = EO 54 [(0, 3, 0, 0, 0), (1, 0, 0, 0, 0), (28, 28, 7, 2, 17), (27, 92, 4, 0, 0), (43, 4, 0, 18, 0), (0, 2, 0, 0, 0), (1, 0, 0, 0, 0), (0, 3, 0, 0, 0), (0, 1, 0, 0, 0), (59, 53, 3, 98, 7), (10, 0, 0, 0, 0), (3, 2, 0, 0, 0), (23, 3, 0, 1, 0), (52, 3, 0, (-23), 0)] L st σ := EB_eq 54 3 L st σ
theorem bk_54_4 {L : ev_L} {st : List ev_V} {σ : ev_M} : EB 54 4 L st σ = EO 54 [(0, 2, 0, 0, 0), (56, 0, 0, 0, 0)] L st σ := EB_eq 54 4 L st σ
theorem mm_55 {i0 : Int} {σ : ev_M} : EM 55 [.inr (.inl i0)] σ = EB 55 0 [some (.inr (.inl i0)), none, none] [] σ := by
  unfold EM ev_go
  exact if_pos (Nat.le_of_ble_eq_true rfl)
theorem bk_55_0 {L : ev_L} {st : List ev_V} {σ : ev_M} : EB 55 0 L st σ = EO 55 [(6, 0, 0, 0, 0), (3, 1, 0, 0, 0), (53, 1, 0, 0, 0)] L st σ := EB_eq 55 0 L st σ
theorem bk_55_1 {L : ev_L} {st : List ev_V} {σ : ev_M} : EB 55 1 L st σ = EO 55 [(0, 1, 0, 0, 0), (1, 0, 0, 0, 0), (28, 28, 7, 2, 17), (27, 92, 4, 0, 0), (43, 2, 0, 63, 0), (1, 0, 0, 0, 0), (28, 28, 7, 2, 17), (28, 76, 4, 2, 1), (0, 1, 0, 0, 0), (32, 0, 0, 0, 0), (1, 0, 0, 0, 0), (28, 28, 7, 2, 17), (28, 77, 4, 3, 2), (0, 1, 0, 0, 0), (32, 0, 0, 0, 0), (60, 5, 2, 80, 0), (3, 2, 0, 0, 0), (1, 0, 0, 0, 0), (28, 21, 7, 1, 6), (0, 2, 0, 0, 0), (6, 1, 0, 9, 0), (1, 0, 0, 0, 0), (28, 21, 7, 1, 6), (28, 101, 1, 7, 7), (0, 2, 0, 0, 0), (32, 0, 0, 0, 0), (1, 0, 0, 0, 0), (28, 28, 7, 2, 17), (28, 83, 4, 4, 3), (0, 1, 0, 0, 0), (32, 0, 0, 0, 0), (10, 0, 0, 0, 0), (63, 104, 0, 0, 0), (59, 11, 3, 109, 1), (23, 1, 0, 1, 0), (52, 1, 0, (-68), 0)] L st σ := EB_eq 55 1 L st σ
theorem bk_55_2 {L : ev_L} {st : List ev_V} {σ : ev_M} : EB 55 2 L st σ = EO 55 [(1, 0, 0, 0, 0), (28, 28, 7, 2, 17), (6, 0, 0, 0, 0), (30, 92, 4, 0, 0), (58, 0, 0, 0, 0)] L st σ := EB_eq 55 2 L st σ
theorem mm_56 {i0 : Int} {i1 : Int} {σ : ev_M} : EM 56 [.inr (.inl i0), .inr (.inl i1)] σ = EB 56 0 [some (.inr (.inl i0)), some (.inr (.inl i1))] [] σ := by
  unfold EM ev_go
  exact if_pos (Nat.le_of_ble_eq_true rfl)
theorem bk_56_0 {L : ev_L} {st : List ev_V} {σ : ev_M} : EB 56 0 L st σ = EO 56 [(1, 0, 0, 0, 0), (28, 12, 7, 0, 1), (1, 1, 0, 0, 0), (28, 12, 7, 0, 1), (59, 47, 2, 113, 6), (1, 0, 0, 0, 0), (28, 21, 7, 1, 6), (1, 1, 0, 0, 0), (28, 21, 7, 1, 6), (59, 17, 2, 117, 1), (1, 0, 0, 0, 0), (28, 28, 7, 2, 17), (1, 1, 0, 0, 0), (28, 28, 7, 2, 17), (59, 33, 2, 120, 4), (1, 0, 0, 0, 0), (1, 1, 0, 0, 0), (27, 32, 7, 3, 0), (30, 32, 7, 3, 0), (1, 0, 0, 0, 0), (1, 1, 0, 0, 0), (27, 61, 7, 4, 0), (30, 61, 7, 4, 0), (1, 0, 0, 0, 0), (1, 1, 0, 0, 0), (27, 64, 7, 5, 0), (30, 64, 7, 5, 0), (1, 0, 0, 0, 0), (1, 1, 0, 0, 0), (27, 123, 7, 6, 0), (30, 123, 7, 6, 0), (58, 0, 0, 0, 0)] L st σ := EB_eq 56 0 L st σ
theorem mm_57 {i0 : Int} {i1 : Int} {i2 : Int} {i3 : Int} {x4 : Int} {x5 : Int} {σ : ev_M} : EM 57 [.inr (.inl i0), .inr (.inl i1), .inr (.inl i2), .inr (.inl i3), .inl x4, .inl x5] σ = EB 57 0 [some (.inr (.inl i0)), some (.inr (.inl i1)), some (.inr (.inl i2)), some (.inr (.inl i3)), some (.inl x4), some (.inl x5), none, none, none, none, none] [] σ := by
  unfold EM ev_go
  exact if_pos (Nat.le_of_ble_eq_true rfl)
theorem bk_57_0 {L : ev_L} {st : List ev_V} {σ : ev_M} : EB 57 0 L st σ = EO 57 [(0, 4, 1, 0, 0), (3, 6, 1, 0, 0), (0, 5, 1, 0, 0), (3, 7, 1, 0, 0), (1, 0, 0, 0, 0), (6, 0, 0, 0, 0), (30, 15, 8, 0, 0), (53, 1, 0, 0, 0)] L st σ := EB_eq 57 0 L st σ
theorem bk_57_1 {L : ev_L} {st : List ev_V} {σ : ev_M} : EB 57 1 L st σ = EO 57 [(1, 0, 0, 0, 0), (27, 15, 8, 0, 0), (6, 1, 0, 6, 0), (43, 4, 0, 109, 0), (1, 2, 0, 0, 0), (1, 1, 0, 0, 0), (0, 6, 1, 0, 0), (6, 1, 0, 12, 0), (6, 0, 0, (-1), 0), (59, 62, 5, 19, 9), (1, 1, 0, 0, 0), (1, 2, 0, 0, 0), (60, 58, 2, 25, 0), (3, 8, 1, 0, 0), (0, 8, 1, 0, 0), (6, 0, 0, (-1), 0), (41, 2, 0, 4, 0), (58, 0, 0, 0, 0)] L st σ := EB_eq 57 1 L st σ
theorem bk_57_2 {L : ev_L} {st : List ev_V} {σ : ev_M} : EB 57 2 L st σ = EO 57 [(1, 1, 0, 0, 0), (1, 2, 0, 0, 0), (0, 8, 1, 0, 0), (60, 59, 3, 29, 0), (3, 9, 1, 0, 0), (1, 2, 0, 0, 0), (28, 33, 9, 0, 1), (0, 9, 1, 0, 0), (32, 0, 0, 0, 0), (60, 60, 1, 36, 0), (6, 0, 0, 4, 0), (10, 0, 0, 0, 0), (3, 10, 1, 0, 0), (0, 10, 1, 0, 0), (0, 7, 1, 0, 0), (45, 3, 0, 4, 0), (58, 0, 0, 0, 0)] L st σ := EB_eq 57 2 L st σ
theorem bk_57_3 {L : ev_L} {st : List ev_V} {σ : ev_M} : EB 57 3 L st σ = EO 57 [(0, 7, 1, 0, 0), (0, 10, 1, 0, 0), (11, 0, 0, 0, 0), (3, 7, 1, 0, 0), (0, 9, 1, 0, 0), (3, 6, 1, 0, 0), (1, 1, 0, 0, 0), (0, 8, 1, 0, 0), (1, 3, 0, 0, 0), (1, 1, 0, 0, 0), (28, 40, 7, 1, 6), (0, 8, 1, 0, 0), (59, 18, 3, 46, 2), (59, 51, 3, 52, 7), (1, 0, 0, 0, 0), (28, 9, 8, 1, 1), (1, 0, 0, 0, 0), (27, 15, 8, 0, 0), (0, 8, 1, 0, 0), (33, 0, 0, 0, 0), (1, 0, 0, 0, 0), (24, 0, 0, 0, 0), (27, 15, 8, 0, 0), (6, 0, 0, 1, 0), (10, 0, 0, 0, 0), (30, 15, 8, 0, 0), (52, 1, 0, (-112), 0)] L st σ := EB_eq 57 3 L st σ
theorem bk_57_4 {L : ev_L} {st : List ev_V} {σ : ev_M} : EB 57 4 L st σ = EO 57 [(58, 0, 0, 0, 0)] L st σ := EB_eq 57 4 L st σ
theorem mm_58 {i0 : Int} {i1 : Int} {σ : ev_M} : EM 58 [.inr (.inl i0), .inr (.inl i1)] σ = EB 58 0 [some (.inr (.inl i0)), some (.inr (.inl i1)), none, none, none, none] [] σ := by
  unfold EM ev_go
  exact if_pos (Nat.le_of_ble_eq_true rfl)
theorem bk_58_0 {L : ev_L} {st : List ev_V} {σ : ev_M} : EB 58 0 L st σ = EO 58 [(6, 0, 0, (-1), 0), (3, 2, 0, 0, 0), (7, 56, 0, 1000000, 0), (3, 3, 0, 0, 0), (6, 0, 0, 0, 0), (3, 4, 1, 0, 0), (53, 1, 0, 0, 0)] L st σ := EB_eq 58 0 L st σ
theorem bk_58_1 {L : ev_L} {st : List ev_V} {σ : ev_M} : EB 58 1 L st σ = EO 58 [(0, 4, 1, 0, 0), (1, 0, 0, 0, 0), (28, 40, 7, 1, 6), (27, 57, 1, 0, 0), (43, 3, 0, 44, 0), (1, 1, 0, 0, 0), (28, 33, 9, 0, 1), (1, 0, 0, 0, 0), (1, 1, 0, 0, 0), (0, 4, 1, 0, 0), (60, 59, 3, 29, 0), (32, 0, 0, 0, 0), (3, 5, 1, 0, 0), (1, 0, 0, 0, 0), (0, 4, 1, 0, 0), (59, 49, 2, 60, 7), (46, 2, 0, 15, 0), (0, 5, 1, 0, 0), (0, 3, 0, 0, 0), (43, 2, 0, 9, 0), (0, 4, 1, 0, 0), (3, 2, 0, 0, 0), (0, 5, 1, 0, 0), (3, 3, 0, 0, 0), (53, 2, 0, 0, 0)] L st σ := EB_eq 58 1 L st σ
theorem bk_58_2 {L : ev_L} {st : List ev_V} {σ : ev_M} : EB 58 2 L st σ = EO 58 [(23, 4, 0, 1, 0), (52, 1, 0, (-50), 0)] L st σ := EB_eq 58 2 L st σ
theorem bk_58_3 {L : ev_L} {st : List ev_V} {σ : ev_M} : EB 58 3 L st σ = EO 58 [(0, 2, 0, 0, 0), (56, 0, 0, 0, 0)] L st σ := EB_eq 58 3 L st σ
theorem mm_59 {i0 : Int} {i1 : Int} {x2 : Int} {σ : ev_M} : EM 59 [.inr (.inl i0), .inr (.inl i1), .inl x2] σ = EB 59 0 [some (.inr (.inl i0)), some (.inr (.inl i1)), some (.inl x2), none, none, none] [] σ := by
  unfold EM ev_go
  exact if_pos (Nat.le_of_ble_eq_true rfl)
theorem bk_59_0 {L : ev_L} {st : List ev_V} {σ : ev_M} : EB 59 0 L st σ = EO 59 [(1, 0, 0, 0, 0), (28, 40, 7, 1, 6), (28, 64, 1, 1, 1), (0, 2, 0, 0, 0), (32, 0, 0, 0, 0), (3, 3, 0, 0, 0), (1, 0, 0, 0, 0), (28, 67, 7, 0, 1), (28, 71, 6, 2, 1), (0, 3, 0, 0, 0), (32, 0, 0, 0, 0), (1, 0, 0, 0, 0), (28, 67, 7, 0, 1), (28, 76, 6, 3, 2), (0, 3, 0, 0, 0), (32, 0, 0, 0, 0), (63, 79, 0, 0, 0), (3, 4, 1, 0, 0), (1, 0, 0, 0, 0), (28, 67, 7, 0, 1), (28, 71, 6, 2, 1), (0, 3, 0, 0, 0), (32, 0, 0, 0, 0), (1, 0, 0, 0, 0), (28, 67, 7, 0, 1), (28, 76, 6, 3, 2), (0, 3, 0, 0, 0), (32, 0, 0, 0, 0), (62, 85, 0, 0, 0), (3, 5, 1, 0, 0), (1, 1, 0, 0, 0), (28, 33, 9, 0, 1), (0, 5, 1, 0, 0), (32, 0, 0, 0, 0), (1, 1, 0, 0, 0), (28, 33, 9, 0, 1), (0, 4, 1, 0, 0), (32, 0, 0, 0, 0), (43, 1, 0, 8, 0), (0, 5, 1, 0, 0), (52, 2, 0, 5, 0)] L st σ := EB_eq 59 0 L st σ
theorem bk_59_1 {L : ev_L} {st : List ev_V} {σ : ev_M} : EB 59 1 L st σ = EO 59 [(0, 4, 1, 0, 0), (53, 2, 0, 0, 0)] L st σ := EB_eq 59 1 L st σ
theorem bk_59_2 {L : ev_L} {st : List ev_V} {σ : ev_M} : EB 59 2 L st σ = EO 59 [(56, 0, 0, 0, 0)] L st σ := EB_eq 59 2 L st σ
theorem mm_60 {x0 : Int} {σ : ev_M} : EM 60 [.inl x0] σ = EB 60 0 [some (.inl x0)] [] σ := by
  unfold EM ev_go
  exact if_pos (Nat.le_of_ble_eq_true rfl)
theorem bk_60_0 {L : ev_L} {st : List ev_V} {σ : ev_M} : EB 60 0 L st σ = EO 60 [(0, 0, 0, 0, 0), (6, 1, 0, 10, 0), (10, 0, 0, 0, 0), (6, 0, 0, 1, 0), (11, 0, 0, 0, 0), (6, 1, 0, 10, 0), (13, 0, 0, 0, 0), (56, 0, 0, 0, 0)] L st σ := EB_eq 60 0 L st σ
theorem mm_61 {i0 : Int} {x1 : Int} {σ : ev_M} : EM 61 [.inr (.inl i0), .inl x1] σ = EB 61 0 [some (.inr (.inl i0)), some (.inl x1)] [] σ := by
  unfold EM ev_go
  exact if_pos (Nat.le_of_ble_eq_true rfl)
theorem bk_61_0 {L : ev_L} {st : List ev_V} {σ : ev_M} : EB 61 0 L st σ = EO 61 [(1, 0, 0, 0, 0), (28, 9, 9, 0, 1), (0, 1, 0, 0, 0), (32, 0, 0, 0, 0), (7, 21, 0, 1000000, 0), (43, 1, 0, 7, 0), (6, 0, 0, 1, 0), (52, 2, 0, 4, 0)] L st σ := EB_eq 61 0 L st σ
theorem bk_61_1 {L : ev_L} {st : List ev_V} {σ : ev_M} : EB 61 1 L st σ = EO 61 [(6, 0, 0, 0, 0), (53, 2, 0, 0, 0)] L st σ := EB_eq 61 1 L st σ
theorem bk_61_2 {L : ev_L} {st : List ev_V} {σ : ev_M} : EB 61 2 L st σ = EO 61 [(56, 1, 0, 0, 0)] L st σ := EB_eq 61 2 L st σ
theorem mm_62 {i0 : Int} {i1 : Int} {x2 : Int} {x3 : Int} {x4 : Int} {σ : ev_M} : EM 62 [.inr (.inl i0), .inr (.inl i1), .inl x2, .inl x3, .inl x4] σ = EB 62 0 [some (.inr (.inl i0)), some (.inr (.inl i1)), some (.inl x2), some (.inl x3), some (.inl x4), none, none, none] [] σ := by
  unfold EM ev_go
  exact if_pos (Nat.le_of_ble_eq_true rfl)
theorem bk_62_0 {L : ev_L} {st : List ev_V} {σ : ev_M} : EB 62 0 L st σ = EO 62 [(6, 0, 0, 0, 0), (3, 5, 1, 0, 0), (53, 1, 0, 0, 0)] L st σ := EB_eq 62 0 L st σ
theorem bk_62_1 {L : ev_L} {st : List ev_V} {σ : ev_M} : EB 62 1 L st σ = EO 62 [(0, 5, 1, 0, 0), (6, 1, 0, 10, 0), (43, 2, 0, 18, 0), (1, 0, 0, 0, 0), (28, 9, 9, 0, 1), (0, 5, 1, 0, 0), (7, 21, 0, 1000000, 0), (33, 0, 0, 0, 0), (23, 5, 0, 1, 0), (52, 1, 0, (-19), 0)] L st σ := EB_eq 62 1 L st σ
theorem bk_62_2 {L : ev_L} {st : List ev_V} {σ : ev_M} : EB 62 2 L st σ = EO 62 [(1, 0, 0, 0, 0), (28, 9, 9, 0, 1), (0, 2, 0, 0, 0), (6, 0, 0, 0, 0), (33, 0, 0, 0, 0), (6, 0, 0, 1, 0), (3, 5, 1, 0, 0), (6, 0, 0, 0, 0), (3, 6, 1, 0, 0), (53, 3, 0, 0, 0)] L st σ := EB_eq 62 2 L st σ
theorem bk_62_3 {L : ev_L} {st : List ev_V} {σ : ev_M} : EB 62 3 L st σ = EO 62 [(0, 5, 1, 0, 0), (46, 10, 0, 82, 0), (0, 6, 1, 0, 0), (6, 1, 0, 10, 0), (43, 10, 0, 75, 0), (6, 0, 0, 0, 0), (3, 5, 1, 0, 0), (6, 0, 0, 0, 0), (3, 7, 1, 0, 0), (53, 4, 0, 0, 0)] L st σ := EB_eq 62 3 L st σ
theorem bk_62_4 {L : ev_L} {st : List ev_V} {σ : ev_M} : EB 62 4 L st σ = EO 62 [(0, 7, 1, 0, 0), (1, 1, 0, 0, 0), (28, 22, 7, 0, 1), (27, 28, 6, 1, 0), (43, 9, 0, 51, 0), (0, 7, 1, 0, 0), (0, 4, 1, 0, 0), (40, 8, 0, 38, 0), (1, 1, 0, 0, 0), (0, 7, 1, 0, 0), (59, 52, 2, 34, 7), (0, 3, 0, 0, 0), (42, 8, 0, 28, 0), (1, 0, 0, 0, 0), (1, 1, 0, 0, 0), (28, 22, 7, 0, 1), (0, 7, 1, 0, 0), (59, 63, 3, 38, 9), (47, 5, 0, 8, 0), (0, 5, 1, 0, 0), (46, 6, 0, 7, 0), (53, 5, 0, 0, 0)] L st σ := EB_eq 62 4 L st σ
theorem bk_62_5 {L : ev_L} {st : List ev_V} {σ : ev_M} : EB 62 5 L st σ = EO 62 [(6, 0, 0, 1, 0), (52, 7, 0, 4, 0)] L st σ := EB_eq 62 5 L st σ
theorem bk_62_6 {L : ev_L} {st : List ev_V} {σ : ev_M} : EB 62 6 L st σ = EO 62 [(6, 0, 0, 0, 0), (53, 7, 0, 0, 0)] L st σ := EB_eq 62 6 L st σ
theorem bk_62_7 {L : ev_L} {st : List ev_V} {σ : ev_M} : EB 62 7 L st σ = EO 62 [(3, 5, 1, 0, 0), (53, 8, 0, 0, 0)] L st σ := EB_eq 62 7 L st σ
theorem bk_62_8 {L : ev_L} {st : List ev_V} {σ : ev_M} : EB 62 8 L st σ = EO 62 [(23, 7, 0, 1, 0), (52, 4, 0, (-57), 0)] L st σ := EB_eq 62 8 L st σ
theorem bk_62_9 {L : ev_L} {st : List ev_V} {σ : ev_M} : EB 62 9 L st σ = EO 62 [(23, 6, 0, 1, 0), (52, 3, 0, (-81), 0)] L st σ := EB_eq 62 9 L st σ
theorem bk_62_10 {L : ev_L} {st : List ev_V} {σ : ev_M} : EB 62 10 L st σ = EO 62 [(58, 0, 0, 0, 0)] L st σ := EB_eq 62 10 L st σ
theorem mm_63 {i0 : Int} {i1 : Int} {x2 : Int} {σ : ev_M} : EM 63 [.inr (.inl i0), .inr (.inl i1), .inl x2] σ = EB 63 0 [some (.inr (.inl i0)), some (.inr (.inl i1)), some (.inl x2), none, none, none, none] [] σ := by
  unfold EM ev_go
  exact if_pos (Nat.le_of_ble_eq_true rfl)
theorem bk_63_0 {L : ev_L} {st : List ev_V} {σ : ev_M} : EB 63 0 L st σ = EO 63 [(1, 1, 0, 0, 0), (28, 42, 6, 2, 1), (0, 2, 0, 0, 0), (32, 0, 0, 0, 0), (3, 3, 0, 0, 0), (1, 1, 0, 0, 0), (28, 45, 6, 3, 2), (0, 2, 0, 0, 0), (32, 0, 0, 0, 0), (3, 4, 1, 0, 0), (1, 1, 0, 0, 0), (28, 48, 6, 4, 3), (0, 2, 0, 0, 0), (32, 0, 0, 0, 0), (3, 5, 1, 0, 0), (6, 0, 0, 0, 0), (3, 6, 1, 0, 0), (1, 0, 0, 0, 0), (28, 9, 9, 0, 1), (0, 3, 0, 0, 0), (32, 0, 0, 0, 0), (0, 5, 1, 0, 0), (10, 0, 0, 0, 0), (1, 0, 0, 0, 0), (28, 9, 9, 0, 1), (0, 4, 1, 0, 0), (32, 0, 0, 0, 0), (43, 1, 0, 22, 0), (1, 0, 0, 0, 0), (28, 9, 9, 0, 1), (0, 4, 1, 0, 0), (1, 0, 0, 0, 0), (28, 9, 9, 0, 1), (0, 3, 0, 0, 0), (32, 0, 0, 0, 0), (0, 5, 1, 0, 0), (10, 0, 0, 0, 0), (33, 0, 0, 0, 0), (6, 0, 0, 1, 0), (3, 6, 1, 0, 0), (53, 1, 0, 0, 0)] L st σ := EB_eq 63 0 L st σ
theorem bk_63_1 {L : ev_L} {st : List ev_V} {σ : ev_M} : EB 63 1 L st σ = EO 63 [(1, 0, 0, 0, 0), (28, 9, 9, 0, 1), (0, 4, 1, 0, 0), (32, 0, 0, 0, 0), (0, 5, 1, 0, 0), (10, 0, 0, 0, 0), (1, 0, 0, 0, 0), (28, 9, 9, 0, 1), (0, 3, 0, 0, 0), (32, 0, 0, 0, 0), (43, 2, 0, 22, 0), (1, 0, 0, 0, 0), (28, 9, 9, 0, 1), (0, 3, 0, 0, 0), (1, 0, 0, 0, 0), (28, 9, 9, 0, 1), (0, 4, 1, 0, 0), (32, 0, 0, 0, 0), (0, 5, 1, 0, 0), (10, 0, 0, 0, 0), (33, 0, 0, 0, 0), (6, 0, 0, 1, 0), (3, 6, 1, 0, 0), (53, 2, 0, 0, 0)] L st σ := EB_eq 63 1 L st σ
theorem bk_63_2 {L : ev_L} {st : List ev_V} {σ : ev_M} : EB 63 2 L st σ = EO 63 [(0, 6, 1, 0, 0), (56, 1, 0, 0, 0)] L st σ := EB_eq 63 2 L st σ
theorem mm_64 {i0 : Int} {i1 : Int} {x2 : Int} {x3 : Int} {x4 : Int} {σ : ev_M} : EM 64 [.inr (.inl i0), .inr (.inl i1), .inl x2, .inl x3, .inl x4] σ = EB 64 0 [some (.inr (.inl i0)), some (.inr (.inl i1)), some (.inl x2), some (.inl x3), some (.inl x4), none, none] [] σ := by
  unfold EM ev_go
  exact if_pos (Nat.le_of_ble_eq_true rfl)
theorem bk_64_0 {L : ev_L} {st : List ev_V} {σ : ev_M} : EB 64 0 L st σ = EO 64 [(1, 0, 0, 0, 0), (0, 3, 0, 0, 0), (59, 61, 2, 51, 9), (47, 1, 0, 5, 0), (6, 0, 0, 0, 0), (56, 0, 0, 0, 0)] L st σ := EB_eq 64 0 L st σ
theorem bk_64_1 {L : ev_L} {st : List ev_V} {σ : ev_M} : EB 64 1 L st σ = EO 64 [(6, 0, 0, 0, 0), (3, 5, 1, 0, 0), (0, 3, 0, 0, 0), (3, 6, 1, 0, 0), (53, 2, 0, 0, 0)] L st σ := EB_eq 64 1 L st σ
theorem bk_64_2 {L : ev_L} {st : List ev_V} {σ : ev_M} : EB 64 2 L st σ = EO 64 [(0, 5, 1, 0, 0), (6, 1, 0, 10, 0), (43, 5, 0, 45, 0), (0, 6, 1, 0, 0), (6, 0, 0, (-1), 0), (40, 5, 0, 39, 0), (1, 0, 0, 0, 0), (28, 18, 9, 2, 3), (0, 5, 1, 0, 0), (0, 6, 1, 0, 0), (33, 0, 0, 0, 0), (23, 5, 0, 1, 0), (0, 6, 1, 0, 0), (0, 2, 0, 0, 0), (41, 3, 0, 7, 0), (6, 0, 0, (-1), 0), (52, 4, 0, 12, 0)] L st σ := EB_eq 64 2 L st σ
theorem bk_64_3 {L : ev_L} {st : List ev_V} {σ : ev_M} : EB 64 3 L st σ = EO 64 [(1, 0, 0, 0, 0), (1, 1, 0, 0, 0), (0, 6, 1, 0, 0), (0, 4, 1, 0, 0), (59, 65, 4, 55, 9), (53, 4, 0, 0, 0)] L st σ := EB_eq 64 3 L st σ
theorem bk_64_4 {L : ev_L} {st : List ev_V} {σ : ev_M} : EB 64 4 L st σ = EO 64 [(3, 6, 1, 0, 0), (52, 2, 0, (-46), 0)] L st σ := EB_eq 64 4 L st σ
theorem bk_64_5 {L : ev_L} {st : List ev_V} {σ : ev_M} : EB 64 5 L st σ = EO 64 [(0, 5, 1, 0, 0), (56, 0, 0, 0, 0)] L st σ := EB_eq 64 5 L st σ
theorem mm_65 {i0 : Int} {i1 : Int} {x2 : Int} {x3 : Int} {σ : ev_M} : EM 65 [.inr (.inl i0), .inr (.inl i1), .inl x2, .inl x3] σ = EB 65 0 [some (.inr (.inl i0)), some (.inr (.inl i1)), some (.inl x2), some (.inl x3), none, none, none, none, none, none] [] σ := by
  unfold EM ev_go
  exact if_pos (Nat.le_of_ble_eq_true rfl)
theorem bk_65_0 {L : ev_L} {st : List ev_V} {σ : ev_M} : EB 65 0 L st σ = EO 65 [(6, 0, 0, (-1), 0), (3, 4, 1, 0, 0), (6, 0, 0, 0, 0), (3, 5, 1, 0, 0), (53, 1, 0, 0, 0)] L st σ := EB_eq 65 0 L st σ
theorem bk_65_1 {L : ev_L} {st : List ev_V} {σ : ev_M} : EB 65 1 L st σ = EO 65 [(0, 5, 1, 0, 0), (1, 1, 0, 0, 0), (28, 22, 7, 0, 1), (27, 28, 6, 1, 0), (43, 9, 0, 126, 0), (1, 1, 0, 0, 0), (28, 22, 7, 0, 1), (28, 42, 6, 2, 1), (0, 5, 1, 0, 0), (32, 0, 0, 0, 0), (3, 6, 1, 0, 0), (1, 1, 0, 0, 0), (28, 22, 7, 0, 1), (28, 45, 6, 3, 2), (0, 5, 1, 0, 0), (32, 0, 0, 0, 0), (3, 7, 1, 0, 0), (1, 1, 0, 0, 0), (0, 5, 1, 0, 0), (59, 52, 2, 34, 7), (0, 3, 0, 0, 0), (42, 8, 0, 86, 0), (0, 6, 1, 0, 0), (0, 2, 0, 0, 0), (40, 2, 0, 9, 0), (0, 7, 1, 0, 0), (0, 2, 0, 0, 0), (41, 8, 0, 74, 0), (53, 2, 0, 0, 0)] L st σ := EB_eq 65 1 L st σ
theorem bk_65_2 {L : ev_L} {st : List ev_V} {σ : ev_M} : EB 65 2 L st σ = EO 65 [(0, 6, 1, 0, 0), (0, 2, 0, 0, 0), (41, 3, 0, 8, 0), (0, 7, 1, 0, 0), (52, 4, 0, 5, 0)] L st σ := EB_eq 65 2 L st σ
theorem bk_65_3 {L : ev_L} {st : List ev_V} {σ : ev_M} : EB 65 3 L st σ = EO 65 [(0, 6, 1, 0, 0), (53, 4, 0, 0, 0)] L st σ := EB_eq 65 3 L st σ
theorem bk_65_4 {L : ev_L} {st : List ev_V} {σ : ev_M} : EB 65 4 L st σ = EO 65 [(3, 8, 1, 0, 0), (1, 0, 0, 0, 0), (28, 9, 9, 0, 1), (0, 8, 1, 0, 0), (32, 0, 0, 0, 0), (1, 1, 0, 0, 0), (28, 22, 7, 0, 1), (28, 48, 6, 4, 3), (0, 5, 1, 0, 0), (32, 0, 0, 0, 0), (10, 0, 0, 0, 0), (1, 0, 0, 0, 0), (28, 9, 9, 0, 1), (0, 2, 0, 0, 0), (32, 0, 0, 0, 0), (41, 5, 0, 7, 0), (6, 0, 0, 1, 0), (52, 6, 0, 4, 0)] L st σ := EB_eq 65 4 L st σ
theorem bk_65_5 {L : ev_L} {st : List ev_V} {σ : ev_M} : EB 65 5 L st σ = EO 65 [(6, 0, 0, 0, 0), (53, 6, 0, 0, 0)] L st σ := EB_eq 65 5 L st σ
theorem bk_65_6 {L : ev_L} {st : List ev_V} {σ : ev_M} : EB 65 6 L st σ = EO 65 [(3, 9, 1, 0, 0), (0, 9, 1, 0, 0), (46, 8, 0, 20, 0), (0, 4, 1, 0, 0), (6, 0, 0, (-1), 0), (40, 7, 0, 10, 0), (0, 8, 1, 0, 0), (0, 4, 1, 0, 0), (43, 8, 0, 7, 0), (53, 7, 0, 0, 0)] L st σ := EB_eq 65 6 L st σ
theorem bk_65_7 {L : ev_L} {st : List ev_V} {σ : ev_M} : EB 65 7 L st σ = EO 65 [(0, 8, 1, 0, 0), (3, 4, 1, 0, 0), (53, 8, 0, 0, 0)] L st σ := EB_eq 65 7 L st σ
theorem bk_65_8 {L : ev_L} {st : List ev_V} {σ : ev_M} : EB 65 8 L st σ = EO 65 [(23, 5, 0, 1, 0), (52, 1, 0, (-132), 0)] L st σ := EB_eq 65 8 L st σ
theorem bk_65_9 {L : ev_L} {st : List ev_V} {σ : ev_M} : EB 65 9 L st σ = EO 65 [(0, 4, 1, 0, 0), (56, 0, 0, 0, 0)] L st σ := EB_eq 65 9 L st σ
theorem mm_66 {i0 : Int} {i1 : Int} {x2 : Int} {x3 : Int} {σ : ev_M} : EM 66 [.inr (.inl i0), .inr (.inl i1), .inl x2, .inl x3] σ = EB 66 0 [some (.inr (.inl i0)), some (.inr (.inl i1)), some (.inl x2), some (.inl x3), none, none, none] [] σ := by
  unfold EM ev_go
  exact if_pos (Nat.le_of_ble_eq_true rfl)
theorem bk_66_0 {L : ev_L} {st : List ev_V} {σ : ev_M} : EB 66 0 L st σ = EO 66 [(6, 0, 0, 0, 0), (3, 4, 1, 0, 0), (53, 1, 0, 0, 0)] L st σ := EB_eq 66 0 L st σ
theorem bk_66_1 {L : ev_L} {st : List ev_V} {σ : ev_M} : EB 66 1 L st σ = EO 66 [(0, 4, 1, 0, 0), (6, 1, 0, 10, 0), (43, 2, 0, 17, 0), (1, 0, 0, 0, 0), (28, 15, 9, 1, 2), (0, 4, 1, 0, 0), (6, 0, 0, 0, 0), (33, 0, 0, 0, 0), (23, 4, 0, 1, 0), (52, 1, 0, (-18), 0)] L st σ := EB_eq 66 1 L st σ
theorem bk_66_2 {L : ev_L} {st : List ev_V} {σ : ev_M} : EB 66 2 L st σ = EO 66 [(1, 0, 0, 0, 0), (28, 15, 9, 1, 2), (0, 2, 0, 0, 0), (6, 1, 0, 60, 0), (33, 0, 0, 0, 0), (6, 0, 0, 1, 0), (3, 4, 1, 0, 0), (6, 0, 0, 0, 0), (3, 5, 1, 0, 0), (53, 3, 0, 0, 0)] L st σ := EB_eq 66 2 L st σ
theorem bk_66_3 {L : ev_L} {st : List ev_V} {σ : ev_M} : EB 66 3 L st σ = EO 66 [(0, 4, 1, 0, 0), (46, 9, 0, 62, 0), (0, 5, 1, 0, 0), (6, 1, 0, 10, 0), (43, 9, 0, 55, 0), (6, 0, 0, 0, 0), (3, 4, 1, 0, 0), (6, 0, 0, 0, 0), (3, 6, 1, 0, 0), (53, 4, 0, 0, 0)] L st σ := EB_eq 66 3 L st σ
theorem bk_66_4 {L : ev_L} {st : List ev_V} {σ : ev_M} : EB 66 4 L st σ = EO 66 [(0, 6, 1, 0, 0), (1, 1, 0, 0, 0), (28, 22, 7, 0, 1), (27, 28, 6, 1, 0), (43, 8, 0, 31, 0), (1, 0, 0, 0, 0), (1, 1, 0, 0, 0), (0, 6, 1, 0, 0), (59, 67, 3, 59, 9), (47, 5, 0, 8, 0), (0, 4, 1, 0, 0), (46, 6, 0, 7, 0), (53, 5, 0, 0, 0)] L st σ := EB_eq 66 4 L st σ
theorem bk_66_5 {L : ev_L} {st : List ev_V} {σ : ev_M} : EB 66 5 L st σ = EO 66 [(6, 0, 0, 1, 0), (52, 7, 0, 4, 0)] L st σ := EB_eq 66 5 L st σ
theorem bk_66_6 {L : ev_L} {st : List ev_V} {σ : ev_M} : EB 66 6 L st σ = EO 66 [(6, 0, 0, 0, 0), (53, 7, 0, 0, 0)] L st σ := EB_eq 66 6 L st σ
theorem bk_66_7 {L : ev_L} {st : List ev_V} {σ : ev_M} : EB 66 7 L st σ = EO 66 [(3, 4, 1, 0, 0), (23, 6, 0, 1, 0), (52, 4, 0, (-37), 0)] L st σ := EB_eq 66 7 L st σ
theorem bk_66_8 {L : ev_L} {st : List ev_V} {σ : ev_M} : EB 66 8 L st σ = EO 66 [(23, 5, 0, 1, 0), (52, 3, 0, (-61), 0)] L st σ := EB_eq 66 8 L st σ
theorem bk_66_9 {L : ev_L} {st : List ev_V} {σ : ev_M} : EB 66 9 L st σ = EO 66 [(1, 0, 0, 0, 0), (28, 15, 9, 1, 2), (0, 3, 0, 0, 0), (32, 0, 0, 0, 0), (56, 0, 0, 0, 0)] L st σ := EB_eq 66 9 L st σ
theorem mm_67 {i0 : Int} {i1 : Int} {x2 : Int} {σ : ev_M} : EM 67 [.inr (.inl i0), .inr (.inl i1), .inl x2] σ = EB 67 0 [some (.inr (.inl i0)), some (.inr (.inl i1)), some (.inl x2), none, none, none, none] [] σ := by
  unfold EM ev_go
  exact if_pos (Nat.le_of_ble_eq_true rfl)
theorem bk_67_0 {L : ev_L} {st : List ev_V} {σ : ev_M} : EB 67 0 L st σ = EO 67 [(1, 1, 0, 0, 0), (28, 22, 7, 0, 1), (28, 42, 6, 2, 1), (0, 2, 0, 0, 0), (32, 0, 0, 0, 0), (3, 3, 0, 0, 0), (1, 1, 0, 0, 0), (28, 22, 7, 0, 1), (28, 45, 6, 3, 2), (0, 2, 0, 0, 0), (32, 0, 0, 0, 0), (3, 4, 1, 0, 0), (1, 1, 0, 0, 0), (0, 2, 0, 0, 0), (59, 52, 2, 34, 7), (3, 5, 1, 0, 0), (6, 0, 0, 0, 0), (3, 6, 1, 0, 0), (1, 0, 0, 0, 0), (28, 15, 9, 1, 2), (0, 3, 0, 0, 0), (32, 0, 0, 0, 0), (0, 5, 1, 0, 0), (63, 63, 0, 0, 0), (1, 0, 0, 0, 0), (28, 15, 9, 1, 2), (0, 4, 1, 0, 0), (32, 0, 0, 0, 0), (45, 1, 0, 24, 0), (1, 0, 0, 0, 0), (28, 15, 9, 1, 2), (0, 4, 1, 0, 0), (1, 0, 0, 0, 0), (28, 15, 9, 1, 2), (0, 3, 0, 0, 0), (32, 0, 0, 0, 0), (0, 5, 1, 0, 0), (63, 63, 0, 0, 0), (33, 0, 0, 0, 0), (6, 0, 0, 1, 0), (3, 6, 1, 0, 0), (53, 1, 0, 0, 0)] L st σ := EB_eq 67 0 L st σ
theorem bk_67_1 {L : ev_L} {st : List ev_V} {σ : ev_M} : EB 67 1 L st σ = EO 67 [(1, 0, 0, 0, 0), (28, 15, 9, 1, 2), (0, 4, 1, 0, 0), (32, 0, 0, 0, 0), (0, 5, 1, 0, 0), (63, 63, 0, 0, 0), (1, 0, 0, 0, 0), (28, 15, 9, 1, 2), (0, 3, 0, 0, 0), (32, 0, 0, 0, 0), (45, 2, 0, 24, 0), (1, 0, 0, 0, 0), (28, 15, 9, 1, 2), (0, 3, 0, 0, 0), (1, 0, 0, 0, 0), (28, 15, 9, 1, 2), (0, 4, 1, 0, 0), (32, 0, 0, 0, 0), (0, 5, 1, 0, 0), (63, 63, 0, 0, 0), (33, 0, 0, 0, 0), (6, 0, 0, 1, 0), (3, 6, 1, 0, 0), (53, 2, 0, 0, 0)] L st σ := EB_eq 67 1 L st σ
theorem bk_67_2 {L : ev_L} {st : List ev_V} {σ : ev_M} : EB 67 2 L st σ = EO 67 [(0, 6, 1, 0, 0), (56, 1, 0, 0, 0)] L st σ := EB_eq 67 2 L st σ
theorem mm_68 {i0 : Int} {x1 : Int} {σ : ev_M} : EM 68 [.inr (.inl i0), .inl x1] σ = EB 68 0 [some (.inr (.inl i0)), some (.inl x1)] [] σ := by
  unfold EM ev_go
  exact if_pos (Nat.le_of_ble_eq_true rfl)
theorem bk_68_0 {L : ev_L} {st : List ev_V} {σ : ev_M} : EB 68 0 L st σ = EO 68 [(0, 1, 0, 0, 0), (6, 0, 0, 1, 0), (6, 1, 0, 10, 0), (60, 104, 3, 61, 0), (47, 1, 0, 6, 0), (6, 1, 0, (-3), 0), (56, 0, 0, 0, 0)] L st σ := EB_eq 68 0 L st σ
theorem bk_68_1 {L : ev_L} {st : List ev_V} {σ : ev_M} : EB 68 1 L st σ = EO 68 [(1, 0, 0, 0, 0), (28, 10, 10, 0, (-161)), (28, 65, 7, 0, 1), (27, 69, 6, 0, 0), (0, 1, 0, 0, 0), (10, 0, 0, 0, 0), (6, 1, 0, 10, 0), (45, 2, 0, 6, 0), (6, 1, 0, (-5), 0), (56, 0, 0, 0, 0)] L st σ := EB_eq 68 1 L st σ
theorem bk_68_2 {L : ev_L} {st : List ev_V} {σ : ev_M} : EB 68 2 L st σ = EO 68 [(1, 0, 0, 0, 0), (28, 22, 10, 2, 1), (1, 0, 0, 0, 0), (28, 10, 10, 0, (-161)), (59, 26, 2, 75, 3), (1, 0, 0, 0, 0), (28, 10, 10, 0, (-161)), (28, 65, 7, 0, 1), (24, 0, 0, 0, 0), (27, 69, 6, 0, 0), (0, 1, 0, 0, 0), (10, 0, 0, 0, 0), (30, 69, 6, 0, 0), (1, 0, 0, 0, 0), (28, 10, 10, 0, (-161)), (28, 65, 7, 0, 1), (27, 69, 6, 0, 0), (56, 0, 0, 0, 0)] L st σ := EB_eq 68 2 L st σ
theorem mm_69 {i0 : Int} {x1 : Int} {x2 : Int} {x3 : Int} {σ : ev_M} : EM 69 [.inr (.inl i0), .inl x1, .inl x2, .inl x3] σ = EB 69 0 [some (.inr (.inl i0)), some (.inl x1), some (.inl x2), some (.inl x3)] [] σ := by
  unfold EM ev_go
  exact if_pos (Nat.le_of_ble_eq_true rfl)
theorem bk_69_0 {L : ev_L} {st : List ev_V} {σ : ev_M} : EB 69 0 L st σ = EO 69 [(1, 0, 0, 0, 0), (28, 10, 10, 0, (-161)), (28, 65, 7, 0, 1), (0, 1, 0, 0, 0), (59, 44, 2, 79, 6), (46, 1, 0, 17, 0), (1, 0, 0, 0, 0), (28, 10, 10, 0, (-161)), (28, 65, 7, 0, 1), (0, 2, 0, 0, 0), (59, 44, 2, 79, 6), (47, 2, 0, 6, 0), (53, 1, 0, 0, 0)] L st σ := EB_eq 69 0 L st σ
theorem bk_69_1 {L : ev_L} {st : List ev_V} {σ : ev_M} : EB 69 1 L st σ = EO 69 [(6, 1, 0, (-2), 0), (56, 0, 0, 0, 0)] L st σ := EB_eq 69 1 L st σ
theorem bk_69_2 {L : ev_L} {st : List ev_V} {σ : ev_M} : EB 69 2 L st σ = EO 69 [(0, 1, 0, 0, 0), (0, 2, 0, 0, 0), (40, 3, 0, 13, 0), (0, 3, 0, 0, 0), (6, 0, 0, 1, 0), (6, 1, 0, 99, 0), (60, 104, 3, 61, 0), (47, 4, 0, 6, 0), (53, 3, 0, 0, 0)] L st σ := EB_eq 69 2 L st σ
theorem bk_69_3 {L : ev_L} {st : List ev_V} {σ : ev_M} : EB 69 3 L st σ = EO 69 [(6, 1, 0, (-3), 0), (56, 0, 0, 0, 0)] L st σ := EB_eq 69 3 L st σ
theorem bk_69_4 {L : ev_L} {st : List ev_V} {σ : ev_M} : EB 69 4 L st σ = EO 69 [(1, 0, 0, 0, 0), (28, 10, 10, 0, (-161)), (28, 65, 7, 0, 1), (27, 83, 6, 1, 0), (6, 1, 0, 20, 0), (42, 5, 0, 6, 0), (6, 1, 0, (-5), 0), (56, 0, 0, 0, 0)] L st σ := EB_eq 69 4 L st σ
theorem bk_69_5 {L : ev_L} {st : List ev_V} {σ : ev_M} : EB 69 5 L st σ = EO 69 [(1, 0, 0, 0, 0), (28, 22, 10, 2, 1), (1, 0, 0, 0, 0), (28, 10, 10, 0, (-161)), (59, 26, 2, 75, 3), (1, 0, 0, 0, 0), (28, 10, 10, 0, (-161)), (28, 65, 7, 0, 1), (0, 1, 0, 0, 0), (0, 2, 0, 0, 0), (0, 3, 0, 0, 0), (59, 46, 4, 86, 6), (56, 0, 0, 0, 0)] L st σ := EB_eq 69 5 L st σ
theorem mm_70 {i0 : Int} {x1 : Int} {σ : ev_M} : EM 70 [.inr (.inl i0), .inl x1] σ = EB 70 0 [some (.inr (.inl i0)), some (.inl x1)] [] σ := by
  unfold EM ev_go
  exact if_pos (Nat.le_of_ble_eq_true rfl)
theorem bk_70_0 {L : ev_L} {st : List ev_V} {σ : ev_M} : EB 70 0 L st σ = EO 70 [(1, 0, 0, 0, 0), (28, 10, 10, 0, (-161)), (28, 65, 7, 0, 1), (0, 1, 0, 0, 0), (59, 45, 2, 90, 6), (47, 1, 0, 6, 0), (6, 1, 0, (-2), 0), (56, 0, 0, 0, 0)] L st σ := EB_eq 70 0 L st σ
theorem bk_70_1 {L : ev_L} {st : List ev_V} {σ : ev_M} : EB 70 1 L st σ = EO 70 [(1, 0, 0, 0, 0), (28, 10, 10, 0, (-161)), (28, 65, 7, 0, 1), (28, 93, 6, 5, 4), (0, 1, 0, 0, 0), (32, 0, 0, 0, 0), (6, 0, 0, (-1), 0), (40, 2, 0, 6, 0), (6, 1, 0, (-4), 0), (56, 0, 0, 0, 0)] L st σ := EB_eq 70 1 L st σ
theorem bk_70_2 {L : ev_L} {st : List ev_V} {σ : ev_M} : EB 70 2 L st σ = EO 70 [(1, 0, 0, 0, 0), (28, 10, 10, 0, (-161)), (28, 97, 7, 1, 6), (27, 101, 1, 0, 0), (6, 1, 0, 6, 0), (42, 3, 0, 6, 0), (6, 1, 0, (-5), 0), (56, 0, 0, 0, 0)] L st σ := EB_eq 70 2 L st σ
theorem bk_70_3 {L : ev_L} {st : List ev_V} {σ : ev_M} : EB 70 3 L st σ = EO 70 [(1, 0, 0, 0, 0), (28, 22, 10, 2, 1), (1, 0, 0, 0, 0), (28, 10, 10, 0, (-161)), (59, 26, 2, 75, 3), (1, 0, 0, 0, 0), (28, 10, 10, 0, (-161)), (0, 1, 0, 0, 0), (59, 48, 2, 104, 7), (56, 0, 0, 0, 0)] L st σ := EB_eq 70 3 L st σ
theorem mm_71 {i0 : Int} {x1 : Int} {x2 : Int} {x3 : Int} {x4 : Int} {σ : ev_M} : EM 71 [.inr (.inl i0), .inl x1, .inl x2, .inl x3, .inl x4] σ = EB 71 0 [some (.inr (.inl i0)), some (.inl x1), some (.inl x2), some (.inl x3), some (.inl x4)] [] σ := by
  unfold EM ev_go
  exact if_pos (Nat.le_of_ble_eq_true rfl)
theorem bk_71_0 {L : ev_L} {st : List ev_V} {σ : ev_M} : EB 71 0 L st σ = EO 71 [(1, 0, 0, 0, 0), (28, 10, 10, 0, (-161)), (28, 97, 7, 1, 6), (0, 1, 0, 0, 0), (59, 6, 2, 108, 1), (47, 1, 0, 6, 0), (6, 1, 0, (-2), 0), (56, 0, 0, 0, 0)] L st σ := EB_eq 71 0 L st σ
theorem bk_71_1 {L : ev_L} {st : List ev_V} {σ : ev_M} : EB 71 1 L st σ = EO 71 [(0, 2, 0, 0, 0), (6, 0, 0, 0, 0), (6, 0, 0, 3, 0), (60, 104, 3, 61, 0), (46, 2, 0, 24, 0), (0, 3, 0, 0, 0), (6, 0, 0, 0, 0), (6, 1, 0, 9, 0), (60, 104, 3, 61, 0), (46, 2, 0, 14, 0), (0, 4, 1, 0, 0), (6, 0, 0, 0, 0), (6, 1, 0, 60, 0), (60, 104, 3, 61, 0), (47, 3, 0, 6, 0), (53, 2, 0, 0, 0)] L st σ := EB_eq 71 1 L st σ
theorem bk_71_2 {L : ev_L} {st : List ev_V} {σ : ev_M} : EB 71 2 L st σ = EO 71 [(6, 1, 0, (-3), 0), (56, 0, 0, 0, 0)] L st σ := EB_eq 71 2 L st σ
theorem bk_71_3 {L : ev_L} {st : List ev_V} {σ : ev_M} : EB 71 3 L st σ = EO 71 [(1, 0, 0, 0, 0), (28, 10, 10, 0, (-161)), (28, 97, 7, 1, 6), (28, 111, 1, 5, 5), (0, 1, 0, 0, 0), (32, 0, 0, 0, 0), (6, 1, 0, 6, 0), (42, 4, 0, 6, 0), (6, 1, 0, (-5), 0), (56, 0, 0, 0, 0)] L st σ := EB_eq 71 3 L st σ
theorem bk_71_4 {L : ev_L} {st : List ev_V} {σ : ev_M} : EB 71 4 L st σ = EO 71 [(1, 0, 0, 0, 0), (28, 22, 10, 2, 1), (1, 0, 0, 0, 0), (28, 10, 10, 0, (-161)), (59, 26, 2, 75, 3), (1, 0, 0, 0, 0), (28, 10, 10, 0, (-161)), (28, 97, 7, 1, 6), (0, 1, 0, 0, 0), (0, 2, 0, 0, 0), (0, 3, 0, 0, 0), (0, 4, 1, 0, 0), (59, 9, 5, 114, 1), (56, 0, 0, 0, 0)] L st σ := EB_eq 71 4 L st σ
theorem mm_72 {i0 : Int} {x1 : Int} {x2 : Int} {x3 : Int} {σ : ev_M} : EM 72 [.inr (.inl i0), .inl x1, .inl x2, .inl x3] σ = EB 72 0 [some (.inr (.inl i0)), some (.inl x1), some (.inl x2), some (.inl x3), none] [] σ := by
  unfold EM ev_go
  exact if_pos (Nat.le_of_ble_eq_true rfl)
theorem bk_72_0 {L : ev_L} {st : List ev_V} {σ : ev_M} : EB 72 0 L st σ = EO 72 [(1, 0, 0, 0, 0), (28, 10, 10, 0, (-161)), (28, 97, 7, 1, 6), (0, 1, 0, 0, 0), (0, 2, 0, 0, 0), (59, 7, 3, 118, 1), (47, 1, 0, 6, 0), (6, 1, 0, (-2), 0), (56, 0, 0, 0, 0)] L st σ := EB_eq 72 0 L st σ
theorem bk_72_1 {L : ev_L} {st : List ev_V} {σ : ev_M} : EB 72 1 L st σ = EO 72 [(0, 3, 0, 0, 0), (6, 0, 0, (-1), 0), (40, 2, 0, 21, 0), (1, 0, 0, 0, 0), (28, 10, 10, 0, (-161)), (28, 97, 7, 1, 6), (0, 1, 0, 0, 0), (0, 3, 0, 0, 0), (59, 7, 3, 118, 1), (47, 2, 0, 6, 0), (6, 1, 0, (-2), 0), (56, 0, 0, 0, 0)] L st σ := EB_eq 72 1 L st σ
theorem bk_72_2 {L : ev_L} {st : List ev_V} {σ : ev_M} : EB 72 2 L st σ = EO 72 [(0, 3, 0, 0, 0), (6, 0, 0, (-1), 0), (40, 3, 0, 11, 0), (0, 3, 0, 0, 0), (0, 2, 0, 0, 0), (44, 3, 0, 6, 0), (6, 1, 0, (-3), 0), (56, 0, 0, 0, 0)] L st σ := EB_eq 72 2 L st σ
theorem bk_72_3 {L : ev_L} {st : List ev_V} {σ : ev_M} : EB 72 3 L st σ = EO 72 [(1, 0, 0, 0, 0), (28, 22, 10, 2, 1), (1, 0, 0, 0, 0), (28, 10, 10, 0, (-161)), (59, 26, 2, 75, 3), (0, 3, 0, 0, 0), (6, 0, 0, (-1), 0), (41, 4, 0, 8, 0), (6, 1, 0, 64, 0), (52, 5, 0, 6, 0)] L st σ := EB_eq 72 3 L st σ
theorem bk_72_4 {L : ev_L} {st : List ev_V} {σ : ev_M} : EB 72 4 L st σ = EO 72 [(6, 0, 0, 1, 0), (0, 3, 0, 0, 0), (18, 0, 0, 0, 0), (53, 5, 0, 0, 0)] L st σ := EB_eq 72 4 L st σ
theorem bk_72_5 {L : ev_L} {st : List ev_V} {σ : ev_M} : EB 72 5 L st σ = EO 72 [(3, 4, 1, 0, 0), (1, 0, 0, 0, 0), (28, 10, 10, 0, (-161)), (28, 97, 7, 1, 6), (0, 1, 0, 0, 0), (0, 2, 0, 0, 0), (0, 4, 1, 0, 0), (59, 10, 4, 122, 1), (46, 6, 0, 7, 0), (6, 0, 0, 1, 0), (52, 7, 0, 4, 0)] L st σ := EB_eq 72 5 L st σ
theorem bk_72_6 {L : ev_L} {st : List ev_V} {σ : ev_M} : EB 72 6 L st σ = EO 72 [(6, 0, 0, 0, 0), (53, 7, 0, 0, 0)] L st σ := EB_eq 72 6 L st σ
theorem bk_72_7 {L : ev_L} {st : List ev_V} {σ : ev_M} : EB 72 7 L st σ = EO 72 [(56, 0, 0, 0, 0)] L st σ := EB_eq 72 7 L st σ
theorem mm_73 {i0 : Int} {x1 : Int} {x2 : Int} {x3 : Int} {σ : ev_M} : EM 73 [.inr (.inl i0), .inl x1, .inl x2, .inl x3] σ = EB 73 0 [some (.inr (.inl i0)), some (.inl x1), some (.inl x2), some (.inl x3), none, none] [] σ := by
  unfold EM ev_go
  exact if_pos (Nat.le_of_ble_eq_true rfl)
theorem bk_73_0 {L : ev_L} {st : List ev_V} {σ : ev_M} : EB 73 0 L st σ = EO 73 [(1, 0, 0, 0, 0), (28, 10, 10, 0, (-161)), (28, 97, 7, 1, 6), (0, 1, 0, 0, 0), (0, 2, 0, 0, 0), (59, 7, 3, 118, 1), (47, 1, 0, 6, 0), (6, 1, 0, (-2), 0), (56, 0, 0, 0, 0)] L st σ := EB_eq 73 0 L st σ
theorem bk_73_1 {L : ev_L} {st : List ev_V} {σ : ev_M} : EB 73 1 L st σ = EO 73 [(0, 3, 0, 0, 0), (6, 0, 0, 0, 0), (6, 1, 0, 9, 0), (60, 104, 3, 61, 0), (47, 2, 0, 6, 0), (6, 1, 0, (-3), 0), (56, 0, 0, 0, 0)] L st σ := EB_eq 73 1 L st σ
theorem bk_73_2 {L : ev_L} {st : List ev_V} {σ : ev_M} : EB 73 2 L st σ = EO 73 [(1, 0, 0, 0, 0), (28, 22, 10, 2, 1), (1, 0, 0, 0, 0), (28, 10, 10, 0, (-161)), (59, 26, 2, 75, 3), (0, 1, 0, 0, 0), (0, 2, 0, 0, 0), (60, 5, 2, 125, 0), (3, 4, 1, 0, 0), (1, 0, 0, 0, 0), (28, 10, 10, 0, (-161)), (28, 97, 7, 1, 6), (28, 129, 1, 7, 7), (0, 4, 1, 0, 0), (32, 0, 0, 0, 0), (3, 5, 1, 0, 0), (1, 0, 0, 0, 0), (28, 10, 10, 0, (-161)), (28, 97, 7, 1, 6), (0, 4, 1, 0, 0), (0, 3, 0, 0, 0), (59, 11, 3, 132, 1), (0, 5, 1, 0, 0), (56, 0, 0, 0, 0)] L st σ := EB_eq 73 2 L st σ
theorem mm_74 {i0 : Int} {x1 : Int} {x2 : Int} {σ : ev_M} : EM 74 [.inr (.inl i0), .inl x1, .inl x2] σ = EB 74 0 [some (.inr (.inl i0)), some (.inl x1), some (.inl x2), none] [] σ := by
  unfold EM ev_go
  exact if_pos (Nat.le_of_ble_eq_true rfl)
theorem bk_74_0 {L : ev_L} {st : List ev_V} {σ : ev_M} : EB 74 0 L st σ = EO 74 [(1, 0, 0, 0, 0), (28, 10, 10, 0, (-161)), (28, 97, 7, 1, 6), (0, 1, 0, 0, 0), (59, 6, 2, 108, 1), (47, 1, 0, 6, 0), (6, 1, 0, (-2), 0), (56, 0, 0, 0, 0)] L st σ := EB_eq 74 0 L st σ
theorem bk_74_1 {L : ev_L} {st : List ev_V} {σ : ev_M} : EB 74 1 L st σ = EO 74 [(1, 0, 0, 0, 0), (28, 22, 10, 2, 1), (1, 0, 0, 0, 0), (28, 10, 10, 0, (-161)), (59, 26, 2, 75, 3), (1, 0, 0, 0, 0), (28, 10, 10, 0, (-161)), (28, 97, 7, 1, 6), (28, 136, 1, 4, 4), (0, 1, 0, 0, 0), (34, 0, 0, 0, 0), (3, 3, 0, 0, 0), (1, 0, 0, 0, 0), (28, 10, 10, 0, (-161)), (28, 97, 7, 1, 6), (28, 136, 1, 4, 4), (0, 1, 0, 0, 0), (0, 2, 0, 0, 0), (35, 0, 0, 0, 0), (0, 3, 0, 0, 0), (46, 2, 0, 7, 0), (6, 0, 0, 1, 0), (52, 3, 0, 4, 0)] L st σ := EB_eq 74 1 L st σ
theorem bk_74_2 {L : ev_L} {st : List ev_V} {σ : ev_M} : EB 74 2 L st σ = EO 74 [(6, 0, 0, 0, 0), (53, 3, 0, 0, 0)] L st σ := EB_eq 74 2 L st σ
theorem bk_74_3 {L : ev_L} {st : List ev_V} {σ : ev_M} : EB 74 3 L st σ = EO 74 [(56, 0, 0, 0, 0)] L st σ := EB_eq 74 3 L st σ
theorem mm_75 {i0 : Int} {x1 : Int} {σ : ev_M} : EM 75 [.inr (.inl i0), .inl x1] σ = EB 75 0 [some (.inr (.inl i0)), some (.inl x1)] [] σ := by
  unfold EM ev_go
  exact if_pos (Nat.le_of_ble_eq_true rfl)
theorem bk_75_0 {L : ev_L} {st : List ev_V} {σ : ev_M} : EB 75 0 L st σ = EO 75 [(0, 1, 0, 0, 0), (54, 1, 0, 0, 0)] L st σ := EB_eq 75 0 L st σ
theorem bk_75_1 {L : ev_L} {st : List ev_V} {σ : ev_M} : EB 75 1 L st σ = EO 75 [(1, 0, 0, 0, 0), (28, 10, 10, 0, (-161)), (28, 65, 7, 0, 1), (27, 69, 6, 0, 0), (56, 0, 0, 0, 0)] L st σ := EB_eq 75 1 L st σ
theorem bk_75_2 {L : ev_L} {st : List ev_V} {σ : ev_M} : EB 75 2 L st σ = EO 75 [(1, 0, 0, 0, 0), (28, 10, 10, 0, (-161)), (28, 65, 7, 0, 1), (27, 83, 6, 1, 0), (56, 0, 0, 0, 0)] L st σ := EB_eq 75 2 L st σ
theorem bk_75_3 {L : ev_L} {st : List ev_V} {σ : ev_M} : EB 75 3 L st σ = EO 75 [(1, 0, 0, 0, 0), (28, 10, 10, 0, (-161)), (28, 97, 7, 1, 6), (27, 101, 1, 0, 0), (56, 0, 0, 0, 0)] L st σ := EB_eq 75 3 L st σ
theorem bk_75_4 {L : ev_L} {st : List ev_V} {σ : ev_M} : EB 75 4 L st σ = EO 75 [(1, 0, 0, 0, 0), (28, 10, 10, 0, (-161)), (28, 140, 7, 2, 17), (27, 144, 4, 0, 0), (56, 0, 0, 0, 0)] L st σ := EB_eq 75 4 L st σ
theorem bk_75_5 {L : ev_L} {st : List ev_V} {σ : ev_M} : EB 75 5 L st σ = EO 75 [(1, 0, 0, 0, 0), (28, 10, 10, 0, (-161)), (28, 140, 7, 2, 17), (27, 149, 4, 1, 0), (56, 0, 0, 0, 0)] L st σ := EB_eq 75 5 L st σ
theorem bk_75_6 {L : ev_L} {st : List ev_V} {σ : ev_M} : EB 75 6 L st σ = EO 75 [(1, 0, 0, 0, 0), (28, 10, 10, 0, (-161)), (27, 152, 7, 3, 0), (56, 0, 0, 0, 0)] L st σ := EB_eq 75 6 L st σ
theorem bk_75_7 {L : ev_L} {st : List ev_V} {σ : ev_M} : EB 75 7 L st σ = EO 75 [(1, 0, 0, 0, 0), (28, 10, 10, 0, (-161)), (27, 155, 7, 4, 0), (56, 0, 0, 0, 0)] L st σ := EB_eq 75 7 L st σ
theorem bk_75_8 {L : ev_L} {st : List ev_V} {σ : ev_M} : EB 75 8 L st σ = EO 75 [(1, 0, 0, 0, 0), (28, 10, 10, 0, (-161)), (27, 158, 7, 5, 0), (56, 0, 0, 0, 0)] L st σ := EB_eq 75 8 L st σ
theorem bk_75_9 {L : ev_L} {st : List ev_V} {σ : ev_M} : EB 75 9 L st σ = EO 75 [(1, 0, 0, 0, 0), (28, 10, 10, 0, (-161)), (27, 161, 7, 6, 0), (56, 0, 0, 0, 0)] L st σ := EB_eq 75 9 L st σ
theorem bk_75_10 {L : ev_L} {st : List ev_V} {σ : ev_M} : EB 75 10 L st σ = EO 75 [(1, 0, 0, 0, 0), (28, 10, 10, 0, (-161)), (59, 50, 1, 164, 7), (56, 0, 0, 0, 0)] L st σ := EB_eq 75 10 L st σ
theorem bk_75_11 {L : ev_L} {st : List ev_V} {σ : ev_M} : EB 75 11 L st σ = EO 75 [(1, 0, 0, 0, 0), (28, 36, 10, 4, 9), (1, 0, 0, 0, 0), (28, 10, 10, 0, (-161)), (28, 97, 7, 1, 6), (59, 22, 2, 168, 2), (56, 0, 0, 0, 0)] L st σ := EB_eq 75 11 L st σ
theorem bk_75_12 {L : ev_L} {st : List ev_V} {σ : ev_M} : EB 75 12 L st σ = EO 75 [(6, 1, 0, (-3), 0), (56, 0, 0, 0, 0)] L st σ := EB_eq 75 12 L st σ
theorem mm_76 {i0 : Int} {x1 : Int} {x2 : Int} {σ : ev_M} : EM 76 [.inr (.inl i0), .inl x1, .inl x2] σ = EB 76 0 [some (.inr (.inl i0)), some (.inl x1), some (.inl x2)] [] σ := by
  unfold EM ev_go
  exact if_pos (Nat.le_of_ble_eq_true rfl)
theorem bk_76_0 {L : ev_L} {st : List ev_V} {σ : ev_M} : EB 76 0 L st σ = EO 76 [(1, 0, 0, 0, 0), (28, 10, 10, 0, (-161)), (28, 65, 7, 0, 1), (0, 1, 0, 0, 0), (59, 45, 2, 90, 6), (47, 1, 0, 6, 0), (6, 1, 0, (-2), 0), (56, 0, 0, 0, 0)] L st σ := EB_eq 76 0 L st σ
theorem bk_76_1 {L : ev_L} {st : List ev_V} {σ : ev_M} : EB 76 1 L st σ = EO 76 [(0, 2, 0, 0, 0), (54, 2, 0, 0, 0)] L st σ := EB_eq 76 1 L st σ
theorem bk_76_2 {L : ev_L} {st : List ev_V} {σ : ev_M} : EB 76 2 L st σ = EO 76 [(1, 0, 0, 0, 0), (28, 10, 10, 0, (-161)), (28, 65, 7, 0, 1), (28, 172, 6, 2, 1), (0, 1, 0, 0, 0), (32, 0, 0, 0, 0), (56, 0, 0, 0, 0)] L st σ := EB_eq 76 2 L st σ
theorem bk_76_3 {L : ev_L} {st : List ev_V} {σ : ev_M} : EB 76 3 L st σ = EO 76 [(1, 0, 0, 0, 0), (28, 10, 10, 0, (-161)), (28, 65, 7, 0, 1), (28, 175, 6, 3, 2), (0, 1, 0, 0, 0), (32, 0, 0, 0, 0), (56, 0, 0, 0, 0)] L st σ := EB_eq 76 3 L st σ
theorem bk_76_4 {L : ev_L} {st : List ev_V} {σ : ev_M} : EB 76 4 L st σ = EO 76 [(1, 0, 0, 0, 0), (28, 10, 10, 0, (-161)), (28, 65, 7, 0, 1), (28, 178, 6, 4, 3), (0, 1, 0, 0, 0), (32, 0, 0, 0, 0), (56, 0, 0, 0, 0)] L st σ := EB_eq 76 4 L st σ
theorem bk_76_5 {L : ev_L} {st : List ev_V} {σ : ev_M} : EB 76 5 L st σ = EO 76 [(1, 0, 0, 0, 0), (28, 10, 10, 0, (-161)), (28, 65, 7, 0, 1), (28, 93, 6, 5, 4), (0, 1, 0, 0, 0), (32, 0, 0, 0, 0), (56, 0, 0, 0, 0)] L st σ := EB_eq 76 5 L st σ
theorem bk_76_6 {L : ev_L} {st : List ev_V} {σ : ev_M} : EB 76 6 L st σ = EO 76 [(6, 1, 0, (-3), 0), (56, 0, 0, 0, 0)] L st σ := EB_eq 76 6 L st σ
theorem mm_77 {i0 : Int} {x1 : Int} {x2 : Int} {σ : ev_M} : EM 77 [.inr (.inl i0), .inl x1, .inl x2] σ = EB 77 0 [some (.inr (.inl i0)), some (.inl x1), some (.inl x2)] [] σ := by
  unfold EM ev_go
  exact if_pos (Nat.le_of_ble_eq_true rfl)
theorem bk_77_0 {L : ev_L} {st : List ev_V} {σ : ev_M} : EB 77 0 L st σ = EO 77 [(1, 0, 0, 0, 0), (28, 10, 10, 0, (-161)), (28, 97, 7, 1, 6), (0, 1, 0, 0, 0), (59, 6, 2, 108, 1), (47, 1, 0, 6, 0), (6, 1, 0, (-2), 0), (56, 0, 0, 0, 0)] L st σ := EB_eq 77 0 L st σ
theorem bk_77_1 {L : ev_L} {st : List ev_V} {σ : ev_M} : EB 77 1 L st σ = EO 77 [(0, 2, 0, 0, 0), (54, 3, 0, 0, 0)] L st σ := EB_eq 77 1 L st σ
theorem bk_77_2 {L : ev_L} {st : List ev_V} {σ : ev_M} : EB 77 2 L st σ = EO 77 [(1, 0, 0, 0, 0), (28, 10, 10, 0, (-161)), (28, 97, 7, 1, 6), (28, 181, 1, 1, 1), (0, 1, 0, 0, 0), (32, 0, 0, 0, 0), (56, 0, 0, 0, 0)] L st σ := EB_eq 77 2 L st σ
theorem bk_77_3 {L : ev_L} {st : List ev_V} {σ : ev_M} : EB 77 3 L st σ = EO 77 [(1, 0, 0, 0, 0), (28, 10, 10, 0, (-161)), (28, 97, 7, 1, 6), (28, 111, 1, 5, 5), (0, 1, 0, 0, 0), (32, 0, 0, 0, 0), (56, 0, 0, 0, 0)] L st σ := EB_eq 77 3 L st σ
theorem bk_77_4 {L : ev_L} {st : List ev_V} {σ : ev_M} : EB 77 4 L st σ = EO 77 [(1, 0, 0, 0, 0), (28, 36, 10, 4, 9), (1, 0, 0, 0, 0), (28, 10, 10, 0, (-161)), (28, 97, 7, 1, 6), (0, 1, 0, 0, 0), (59, 18, 3, 184, 2), (56, 0, 0, 0, 0)] L st σ := EB_eq 77 4 L st σ
theorem bk_77_5 {L : ev_L} {st : List ev_V} {σ : ev_M} : EB 77 5 L st σ = EO 77 [(1, 0, 0, 0, 0), (28, 10, 10, 0, (-161)), (28, 97, 7, 1, 6), (28, 188, 1, 2, 2), (0, 1, 0, 0, 0), (32, 0, 0, 0, 0), (56, 0, 0, 0, 0)] L st σ := EB_eq 77 5 L st σ
theorem bk_77_6 {L : ev_L} {st : List ev_V} {σ : ev_M} : EB 77 6 L st σ = EO 77 [(1, 0, 0, 0, 0), (28, 10, 10, 0, (-161)), (28, 97, 7, 1, 6), (28, 191, 1, 3, 3), (0, 1, 0, 0, 0), (32, 0, 0, 0, 0), (56, 0, 0, 0, 0)] L st σ := EB_eq 77 6 L st σ
theorem bk_77_7 {L : ev_L} {st : List ev_V} {σ : ev_M} : EB 77 7 L st σ = EO 77 [(1, 0, 0, 0, 0), (28, 10, 10, 0, (-161)), (28, 97, 7, 1, 6), (0, 1, 0, 0, 0), (59, 14, 2, 194, 1), (56, 0, 0, 0, 0)] L st σ := EB_eq 77 7 L st σ
theorem bk_77_8 {L : ev_L} {st : List ev_V} {σ : ev_M} : EB 77 8 L st σ = EO 77 [(1, 0, 0, 0, 0), (28, 10, 10, 0, (-161)), (0, 1, 0, 0, 0), (59, 49, 2, 197, 7), (46, 9, 0, 7, 0), (6, 0, 0, 1, 0), (52, 10, 0, 4, 0)] L st σ := EB_eq 77 8 L st σ
theorem bk_77_9 {L : ev_L} {st : List ev_V} {σ : ev_M} : EB 77 9 L st σ = EO 77 [(6, 0, 0, 0, 0), (53, 10, 0, 0, 0)] L st σ := EB_eq 77 9 L st σ
theorem bk_77_10 {L : ev_L} {st : List ev_V} {σ : ev_M} : EB 77 10 L st σ = EO 77 [(56, 0, 0, 0, 0)] L st σ := EB_eq 77 10 L st σ
theorem bk_77_11 {L : ev_L} {st : List ev_V} {σ : ev_M} : EB 77 11 L st σ = EO 77 [(1, 0, 0, 0, 0), (28, 10, 10, 0, (-161)), (28, 97, 7, 1, 6), (28, 136, 1, 4, 4), (0, 1, 0, 0, 0), (34, 0, 0, 0, 0), (46, 12, 0, 7, 0), (6, 0, 0, 1, 0), (52, 13, 0, 4, 0)] L st σ := EB_eq 77 11 L st σ
theorem bk_77_12 {L : ev_L} {st : List ev_V} {σ : ev_M} : EB 77 12 L st σ = EO 77 [(6, 0, 0, 0, 0), (53, 13, 0, 0, 0)] L st σ := EB_eq 77 12 L st σ
theorem bk_77_13 {L : ev_L} {st : List ev_V} {σ : ev_M} : EB 77 13 L st σ = EO 77 [(56, 0, 0, 0, 0)] L st σ := EB_eq 77 13 L st σ
theorem bk_77_14 {L : ev_L} {st : List ev_V} {σ : ev_M} : EB 77 14 L st σ = EO 77 [(1, 0, 0, 0, 0), (28, 10, 10, 0, (-161)), (28, 97, 7, 1, 6), (0, 1, 0, 0, 0), (59, 15, 2, 200, 1), (56, 0, 0, 0, 0)] L st σ := EB_eq 77 14 L st σ
theorem bk_77_15 {L : ev_L} {st : List ev_V} {σ : ev_M} : EB 77 15 L st σ = EO 77 [(6, 1, 0, (-3), 0), (56, 0, 0, 0, 0)] L st σ := EB_eq 77 15 L st σ
theorem mm_78 {i0 : Int} {x1 : Int} {x2 : Int} {x3 : Int} {σ : ev_M} : EM 78 [.inr (.inl i0), .inl x1, .inl x2, .inl x3] σ = EB 78 0 [some (.inr (.inl i0)), some (.inl x1), some (.inl x2), some (.inl x3), none] [] σ := by
  unfold EM ev_go
  exact if_pos (Nat.le_of_ble_eq_true rfl)
theorem bk_78_0 {L : ev_L} {st : List ev_V} {σ : ev_M} : EB 78 0 L st σ = EO 78 [(1, 0, 0, 0, 0), (28, 10, 10, 0, (-161)), (28, 97, 7, 1, 6), (0, 1, 0, 0, 0), (0, 2, 0, 0, 0), (59, 7, 3, 118, 1), (47, 1, 0, 6, 0), (6, 1, 0, (-2), 0), (56, 0, 0, 0, 0)] L st σ := EB_eq 78 0 L st σ
theorem bk_78_1 {L : ev_L} {st : List ev_V} {σ : ev_M} : EB 78 1 L st σ = EO 78 [(0, 1, 0, 0, 0), (0, 2, 0, 0, 0), (60, 5, 2, 125, 0), (3, 4, 1, 0, 0), (0, 3, 0, 0, 0), (54, 4, 0, 0, 0)] L st σ := EB_eq 78 1 L st σ
theorem bk_78_2 {L : ev_L} {st : List ev_V} {σ : ev_M} : EB 78 2 L st σ = EO 78 [(1, 0, 0, 0, 0), (28, 10, 10, 0, (-161)), (28, 97, 7, 1, 6), (28, 203, 1, 6, 6), (0, 4, 1, 0, 0), (32, 0, 0, 0, 0), (56, 0, 0, 0, 0)] L st σ := EB_eq 78 2 L st σ
theorem bk_78_3 {L : ev_L} {st : List ev_V} {σ : ev_M} : EB 78 3 L st σ = EO 78 [(1, 0, 0, 0, 0), (28, 10, 10, 0, (-161)), (28, 97, 7, 1, 6), (28, 129, 1, 7, 7), (0, 4, 1, 0, 0), (32, 0, 0, 0, 0), (56, 0, 0, 0, 0)] L st σ := EB_eq 78 3 L st σ
theorem bk_78_4 {L : ev_L} {st : List ev_V} {σ : ev_M} : EB 78 4 L st σ = EO 78 [(1, 0, 0, 0, 0), (28, 10, 10, 0, (-161)), (28, 97, 7, 1, 6), (28, 206, 1, 8, 8), (0, 4, 1, 0, 0), (32, 0, 0, 0, 0), (56, 0, 0, 0, 0)] L st σ := EB_eq 78 4 L st σ
theorem bk_78_5 {L : ev_L} {st : List ev_V} {σ : ev_M} : EB 78 5 L st σ = EO 78 [(1, 0, 0, 0, 0), (28, 10, 10, 0, (-161)), (28, 97, 7, 1, 6), (28, 209, 1, 9, 9), (0, 4, 1, 0, 0), (32, 0, 0, 0, 0), (56, 0, 0, 0, 0)] L st σ := EB_eq 78 5 L st σ
theorem bk_78_6 {L : ev_L} {st : List ev_V} {σ : ev_M} : EB 78 6 L st σ = EO 78 [(1, 0, 0, 0, 0), (28, 36, 10, 4, 9), (1, 0, 0, 0, 0), (28, 10, 10, 0, (-161)), (28, 97, 7, 1, 6), (0, 1, 0, 0, 0), (59, 18, 3, 184, 2), (26, 0, 0, 0, 0), (1, 0, 0, 0, 0), (28, 36, 10, 4, 9), (28, 212, 2, 1, 2), (0, 2, 0, 0, 0), (32, 0, 0, 0, 0), (56, 0, 0, 0, 0)] L st σ := EB_eq 78 6 L st σ
theorem bk_78_7 {L : ev_L} {st : List ev_V} {σ : ev_M} : EB 78 7 L st σ = EO 78 [(1, 0, 0, 0, 0), (28, 10, 10, 0, (-161)), (28, 97, 7, 1, 6), (28, 215, 1, 10, 10), (0, 4, 1, 0, 0), (32, 0, 0, 0, 0), (56, 0, 0, 0, 0)] L st σ := EB_eq 78 7 L st σ
theorem bk_78_8 {L : ev_L} {st : List ev_V} {σ : ev_M} : EB 78 8 L st σ = EO 78 [(6, 1, 0, (-3), 0), (56, 0, 0, 0, 0)] L st σ := EB_eq 78 8 L st σ
theorem mm_79 {i0 : Int} {x1 : Int} {σ : ev_M} : EM 79 [.inr (.inl i0), .inl x1] σ = EB 79 0 [some (.inr (.inl i0)), some (.inl x1)] [] σ := by
  unfold EM ev_go
  exact if_pos (Nat.le_of_ble_eq_true rfl)
theorem bk_79_0 {L : ev_L} {st : List ev_V} {σ : ev_M} : EB 79 0 L st σ = EO 79 [(1, 0, 0, 0, 0), (28, 10, 10, 0, (-161)), (28, 97, 7, 1, 6), (0, 1, 0, 0, 0), (59, 6, 2, 108, 1), (47, 1, 0, 6, 0), (6, 1, 0, (-2), 0), (56, 0, 0, 0, 0)] L st σ := EB_eq 79 0 L st σ
theorem bk_79_1 {L : ev_L} {st : List ev_V} {σ : ev_M} : EB 79 1 L st σ = EO 79 [(1, 0, 0, 0, 0), (28, 36, 10, 4, 9), (1, 0, 0, 0, 0), (28, 10, 10, 0, (-161)), (28, 97, 7, 1, 6), (0, 1, 0, 0, 0), (59, 23, 3, 218, 2), (56, 0, 0, 0, 0)] L st σ := EB_eq 79 1 L st σ
theorem mm_80 {i0 : Int} {x1 : Int} {σ : ev_M} : EM 80 [.inr (.inl i0), .inl x1] σ = EB 80 0 [some (.inr (.inl i0)), some (.inl x1)] [] σ := by
  unfold EM ev_go
  exact if_pos (Nat.le_of_ble_eq_true rfl)
theorem bk_80_0 {L : ev_L} {st : List ev_V} {σ : ev_M} : EB 80 0 L st σ = EO 80 [(0, 1, 0, 0, 0), (6, 0, 0, 1, 0), (6, 1, 0, 50, 0), (60, 104, 3, 61, 0), (47, 1, 0, 6, 0), (6, 1, 0, (-3), 0), (56, 0, 0, 0, 0)] L st σ := EB_eq 80 0 L st σ
theorem bk_80_1 {L : ev_L} {st : List ev_V} {σ : ev_M} : EB 80 1 L st σ = EO 80 [(1, 0, 0, 0, 0), (28, 10, 10, 0, (-161)), (27, 152, 7, 3, 0), (0, 1, 0, 0, 0), (10, 0, 0, 0, 0), (6, 2, 0, 1000, 0), (45, 2, 0, 6, 0), (6, 1, 0, (-5), 0), (56, 0, 0, 0, 0)] L st σ := EB_eq 80 1 L st σ
theorem bk_80_2 {L : ev_L} {st : List ev_V} {σ : ev_M} : EB 80 2 L st σ = EO 80 [(1, 0, 0, 0, 0), (28, 22, 10, 2, 1), (1, 0, 0, 0, 0), (28, 10, 10, 0, (-161)), (59, 26, 2, 75, 3), (1, 0, 0, 0, 0), (28, 10, 10, 0, (-161)), (24, 0, 0, 0, 0), (27, 152, 7, 3, 0), (0, 1, 0, 0, 0), (10, 0, 0, 0, 0), (30, 152, 7, 3, 0), (1, 0, 0, 0, 0), (28, 10, 10, 0, (-161)), (28, 97, 7, 1, 6), (0, 1, 0, 0, 0), (59, 13, 2, 221, 1), (1, 0, 0, 0, 0), (28, 10, 10, 0, (-161)), (27, 152, 7, 3, 0), (56, 0, 0, 0, 0)] L st σ := EB_eq 80 2 L st σ
theorem mm_81 {i0 : Int} {x1 : Int} {σ : ev_M} : EM 81 [.inr (.inl i0), .inl x1] σ = EB 81 0 [some (.inr (.inl i0)), some (.inl x1)] [] σ := by
  unfold EM ev_go
  exact if_pos (Nat.le_of_ble_eq_true rfl)
theorem bk_81_0 {L : ev_L} {st : List ev_V} {σ : ev_M} : EB 81 0 L st σ = EO 81 [(1, 0, 0, 0, 0), (28, 10, 10, 0, (-161)), (28, 97, 7, 1, 6), (0, 1, 0, 0, 0), (59, 6, 2, 108, 1), (47, 1, 0, 6, 0), (6, 1, 0, (-2), 0), (56, 0, 0, 0, 0)] L st σ := EB_eq 81 0 L st σ
theorem bk_81_1 {L : ev_L} {st : List ev_V} {σ : ev_M} : EB 81 1 L st σ = EO 81 [(1, 0, 0, 0, 0), (28, 22, 10, 2, 1), (1, 0, 0, 0, 0), (28, 10, 10, 0, (-161)), (59, 26, 2, 75, 3), (1, 0, 0, 0, 0), (28, 10, 10, 0, (-161)), (0, 1, 0, 0, 0), (1, 0, 0, 0, 0), (28, 36, 10, 4, 9), (1, 0, 0, 0, 0), (28, 10, 10, 0, (-161)), (28, 97, 7, 1, 6), (0, 1, 0, 0, 0), (59, 18, 3, 184, 2), (59, 51, 3, 225, 7), (1, 0, 0, 0, 0), (28, 10, 10, 0, (-161)), (28, 97, 7, 1, 6), (28, 188, 1, 2, 2), (0, 1, 0, 0, 0), (32, 0, 0, 0, 0), (56, 0, 0, 0, 0)] L st σ := EB_eq 81 1 L st σ
theorem mm_82 {i0 : Int} {x1 : Int} {x2 : Int} {σ : ev_M} : EM 82 [.inr (.inl i0), .inl x1, .inl x2] σ = EB 82 0 [some (.inr (.inl i0)), some (.inl x1), some (.inl x2)] [] σ := by
  unfold EM ev_go
  exact if_pos (Nat.le_of_ble_eq_true rfl)
theorem bk_82_0 {L : ev_L} {st : List ev_V} {σ : ev_M} : EB 82 0 L st σ = EO 82 [(1, 0, 0, 0, 0), (28, 10, 10, 0, (-161)), (28, 65, 7, 0, 1), (0, 1, 0, 0, 0), (59, 44, 2, 79, 6), (47, 1, 0, 6, 0), (6, 1, 0, (-2), 0), (56, 0, 0, 0, 0)] L st σ := EB_eq 82 0 L st σ
theorem bk_82_1 {L : ev_L} {st : List ev_V} {σ : ev_M} : EB 82 1 L st σ = EO 82 [(0, 2, 0, 0, 0), (6, 0, 0, 1, 0), (6, 2, 0, 200, 0), (60, 104, 3, 61, 0), (47, 2, 0, 6, 0), (6, 1, 0, (-3), 0), (56, 0, 0, 0, 0)] L st σ := EB_eq 82 1 L st σ
theorem bk_82_2 {L : ev_L} {st : List ev_V} {σ : ev_M} : EB 82 2 L st σ = EO 82 [(1, 0, 0, 0, 0), (28, 22, 10, 2, 1), (1, 0, 0, 0, 0), (28, 10, 10, 0, (-161)), (59, 26, 2, 75, 3), (1, 0, 0, 0, 0), (28, 50, 10, 6, 16), (1, 0, 0, 0, 0), (28, 10, 10, 0, (-161)), (1, 0, 0, 0, 0), (28, 43, 10, 5, 12), (1, 0, 0, 0, 0), (28, 36, 10, 4, 9), (0, 1, 0, 0, 0), (0, 2, 0, 0, 0), (59, 57, 6, 228, 8), (1, 0, 0, 0, 0), (28, 50, 10, 6, 16), (27, 232, 8, 0, 0), (56, 0, 0, 0, 0)] L st σ := EB_eq 82 2 L st σ
theorem mm_83 {i0 : Int} {x1 : Int} {x2 : Int} {x3 : Int} {σ : ev_M} : EM 83 [.inr (.inl i0), .inl x1, .inl x2, .inl x3] σ = EB 83 0 [some (.inr (.inl i0)), some (.inl x1), some (.inl x2), some (.inl x3)] [] σ := by
  unfold EM ev_go
  exact if_pos (Nat.le_of_ble_eq_true rfl)
theorem bk_83_0 {L : ev_L} {st : List ev_V} {σ : ev_M} : EB 83 0 L st σ = EO 83 [(1, 0, 0, 0, 0), (28, 10, 10, 0, (-161)), (28, 65, 7, 0, 1), (0, 1, 0, 0, 0), (59, 44, 2, 79, 6), (47, 1, 0, 6, 0), (6, 1, 0, (-2), 0), (56, 0, 0, 0, 0)] L st σ := EB_eq 83 0 L st σ
theorem bk_83_1 {L : ev_L} {st : List ev_V} {σ : ev_M} : EB 83 1 L st σ = EO 83 [(0, 2, 0, 0, 0), (6, 0, 0, 1, 0), (6, 2, 0, 200, 0), (60, 104, 3, 61, 0), (46, 2, 0, 7, 0), (0, 3, 0, 0, 0), (49, 3, 0, 6, 0), (53, 2, 0, 0, 0)] L st σ := EB_eq 83 1 L st σ
theorem bk_83_2 {L : ev_L} {st : List ev_V} {σ : ev_M} : EB 83 2 L st σ = EO 83 [(6, 1, 0, (-3), 0), (56, 0, 0, 0, 0)] L st σ := EB_eq 83 2 L st σ
theorem bk_83_3 {L : ev_L} {st : List ev_V} {σ : ev_M} : EB 83 3 L st σ = EO 83 [(1, 0, 0, 0, 0), (28, 16, 10, 1, (-138)), (1, 0, 0, 0, 0), (28, 10, 10, 0, (-161)), (59, 56, 2, 233, 7), (1, 0, 0, 0, 0), (28, 50, 10, 6, 16), (1, 0, 0, 0, 0), (28, 16, 10, 1, (-138)), (1, 0, 0, 0, 0), (28, 43, 10, 5, 12), (1, 0, 0, 0, 0), (28, 36, 10, 4, 9), (0, 1, 0, 0, 0), (0, 2, 0, 0, 0), (59, 57, 6, 228, 8), (0, 3, 0, 0, 0), (1, 0, 0, 0, 0), (28, 50, 10, 6, 16), (27, 232, 8, 0, 0), (43, 4, 0, 15, 0), (1, 0, 0, 0, 0), (28, 50, 10, 6, 16), (28, 236, 8, 1, 1), (0, 3, 0, 0, 0), (32, 0, 0, 0, 0), (52, 5, 0, 4, 0)] L st σ := EB_eq 83 3 L st σ
theorem bk_83_4 {L : ev_L} {st : List ev_V} {σ : ev_M} : EB 83 4 L st σ = EO 83 [(6, 0, 0, (-1), 0), (53, 5, 0, 0, 0)] L st σ := EB_eq 83 4 L st σ
theorem bk_83_5 {L : ev_L} {st : List ev_V} {σ : ev_M} : EB 83 5 L st σ = EO 83 [(56, 0, 0, 0, 0)] L st σ := EB_eq 83 5 L st σ
theorem mm_84 {i0 : Int} {x1 : Int} {σ : ev_M} : EM 84 [.inr (.inl i0), .inl x1] σ = EB 84 0 [some (.inr (.inl i0)), some (.inl x1)] [] σ := by
  unfold EM ev_go
  exact if_pos (Nat.le_of_ble_eq_true rfl)
theorem bk_84_0 {L : ev_L} {st : List ev_V} {σ : ev_M} : EB 84 0 L st σ = EO 84 [(1, 0, 0, 0, 0), (28, 10, 10, 0, (-161)), (28, 97, 7, 1, 6), (0, 1, 0, 0, 0), (59, 6, 2, 108, 1), (47, 1, 0, 6, 0), (6, 1, 0, (-2), 0), (56, 0, 0, 0, 0)] L st σ := EB_eq 84 0 L st σ
theorem bk_84_1 {L : ev_L} {st : List ev_V} {σ : ev_M} : EB 84 1 L st σ = EO 84 [(1, 0, 0, 0, 0), (28, 36, 10, 4, 9), (1, 0, 0, 0, 0), (28, 10, 10, 0, (-161)), (28, 97, 7, 1, 6), (0, 1, 0, 0, 0), (59, 24, 3, 239, 2), (56, 0, 0, 0, 0)] L st σ := EB_eq 84 1 L st σ
theorem mm_85 {i0 : Int} {x1 : Int} {x2 : Int} {x3 : Int} {σ : ev_M} : EM 85 [.inr (.inl i0), .inl x1, .inl x2, .inl x3] σ = EB 85 0 [some (.inr (.inl i0)), some (.inl x1), some (.inl x2), some (.inl x3)] [] σ := by
  unfold EM ev_go
  exact if_pos (Nat.le_of_ble_eq_true rfl)
theorem bk_85_0 {L : ev_L} {st : List ev_V} {σ : ev_M} : EB 85 0 L st σ = EO 85 [(1, 0, 0, 0, 0), (28, 10, 10, 0, (-161)), (28, 65, 7, 0, 1), (0, 1, 0, 0, 0), (59, 44, 2, 79, 6), (46, 1, 0, 17, 0), (1, 0, 0, 0, 0), (28, 10, 10, 0, (-161)), (28, 65, 7, 0, 1), (0, 2, 0, 0, 0), (59, 44, 2, 79, 6), (47, 2, 0, 6, 0), (53, 1, 0, 0, 0)] L st σ := EB_eq 85 0 L st σ
theorem bk_85_1 {L : ev_L} {st : List ev_V} {σ : ev_M} : EB 85 1 L st σ = EO 85 [(6, 1, 0, (-2), 0), (56, 0, 0, 0, 0)] L st σ := EB_eq 85 1 L st σ
theorem bk_85_2 {L : ev_L} {st : List ev_V} {σ : ev_M} : EB 85 2 L st σ = EO 85 [(0, 3, 0, 0, 0), (6, 0, 0, 1, 0), (6, 1, 0, 60, 0), (60, 104, 3, 61, 0), (47, 3, 0, 6, 0), (6, 1, 0, (-3), 0), (56, 0, 0, 0, 0)] L st σ := EB_eq 85 2 L st σ
theorem bk_85_3 {L : ev_L} {st : List ev_V} {σ : ev_M} : EB 85 3 L st σ = EO 85 [(1, 0, 0, 0, 0), (28, 43, 10, 5, 12), (1, 0, 0, 0, 0), (28, 10, 10, 0, (-161)), (0, 1, 0, 0, 0), (0, 3, 0, 0, 0), (6, 0, 0, (-1), 0), (59, 62, 5, 242, 9), (1, 0, 0, 0, 0), (28, 43, 10, 5, 12), (0, 2, 0, 0, 0), (59, 61, 2, 246, 9), (46, 4, 0, 15, 0), (1, 0, 0, 0, 0), (28, 43, 10, 5, 12), (28, 249, 9, 0, 1), (0, 2, 0, 0, 0), (32, 0, 0, 0, 0), (52, 5, 0, 4, 0)] L st σ := EB_eq 85 3 L st σ
theorem bk_85_4 {L : ev_L} {st : List ev_V} {σ : ev_M} : EB 85 4 L st σ = EO 85 [(6, 0, 0, (-1), 0), (53, 5, 0, 0, 0)] L st σ := EB_eq 85 4 L st σ
theorem bk_85_5 {L : ev_L} {st : List ev_V} {σ : ev_M} : EB 85 5 L st σ = EO 85 [(56, 0, 0, 0, 0)] L st σ := EB_eq 85 5 L st σ
theorem mm_86 {i0 : Int} {x1 : Int} {x2 : Int} {x3 : Int} {x4 : Int} {σ : ev_M} : EM 86 [.inr (.inl i0), .inl x1, .inl x2, .inl x3, .inl x4] σ = EB 86 0 [some (.inr (.inl i0)), some (.inl x1), some (.inl x2), some (.inl x3), some (.inl x4), none] [] σ := by
  unfold EM ev_go
  exact if_pos (Nat.le_of_ble_eq_true rfl)
theorem bk_86_0 {L : ev_L} {st : List ev_V} {σ : ev_M} : EB 86 0 L st σ = EO 86 [(1, 0, 0, 0, 0), (28, 10, 10, 0, (-161)), (28, 65, 7, 0, 1), (0, 1, 0, 0, 0), (59, 44, 2, 79, 6), (46, 1, 0, 17, 0), (1, 0, 0, 0, 0), (28, 10, 10, 0, (-161)), (28, 65, 7, 0, 1), (0, 2, 0, 0, 0), (59, 44, 2, 79, 6), (47, 2, 0, 6, 0), (53, 1, 0, 0, 0)] L st σ := EB_eq 86 0 L st σ
theorem bk_86_1 {L : ev_L} {st : List ev_V} {σ : ev_M} : EB 86 1 L st σ = EO 86 [(6, 1, 0, (-2), 0), (56, 0, 0, 0, 0)] L st σ := EB_eq 86 1 L st σ
theorem bk_86_2 {L : ev_L} {st : List ev_V} {σ : ev_M} : EB 86 2 L st σ = EO 86 [(0, 3, 0, 0, 0), (6, 0, 0, 1, 0), (6, 1, 0, 60, 0), (60, 104, 3, 61, 0), (46, 3, 0, 8, 0), (0, 4, 1, 0, 0), (49, 4, 0, 6, 0), (53, 3, 0, 0, 0)] L st σ := EB_eq 86 2 L st σ
theorem bk_86_3 {L : ev_L} {st : List ev_V} {σ : ev_M} : EB 86 3 L st σ = EO 86 [(6, 1, 0, (-3), 0), (56, 0, 0, 0, 0)] L st σ := EB_eq 86 3 L st σ
theorem bk_86_4 {L : ev_L} {st : List ev_V} {σ : ev_M} : EB 86 4 L st σ = EO 86 [(1, 0, 0, 0, 0), (28, 43, 10, 5, 12), (1, 0, 0, 0, 0), (28, 10, 10, 0, (-161)), (0, 1, 0, 0, 0), (0, 3, 0, 0, 0), (6, 0, 0, (-1), 0), (59, 62, 5, 242, 9), (1, 0, 0, 0, 0), (28, 43, 10, 5, 12), (1, 0, 0, 0, 0), (28, 10, 10, 0, (-161)), (0, 1, 0, 0, 0), (0, 2, 0, 0, 0), (0, 3, 0, 0, 0), (59, 64, 5, 252, 9), (3, 5, 1, 0, 0), (0, 4, 1, 0, 0), (0, 5, 1, 0, 0), (43, 5, 0, 21, 0), (1, 0, 0, 0, 0), (28, 43, 10, 5, 12), (28, 256, 9, 2, 3), (0, 5, 1, 0, 0), (6, 0, 0, 1, 0), (11, 0, 0, 0, 0), (0, 4, 1, 0, 0), (11, 0, 0, 0, 0), (32, 0, 0, 0, 0), (52, 6, 0, 4, 0)] L st σ := EB_eq 86 4 L st σ
theorem bk_86_5 {L : ev_L} {st : List ev_V} {σ : ev_M} : EB 86 5 L st σ = EO 86 [(6, 0, 0, (-1), 0), (53, 6, 0, 0, 0)] L st σ := EB_eq 86 5 L st σ
theorem bk_86_6 {L : ev_L} {st : List ev_V} {σ : ev_M} : EB 86 6 L st σ = EO 86 [(56, 0, 0, 0, 0)] L st σ := EB_eq 86 6 L st σ
theorem mm_87 {i0 : Int} {x1 : Int} {x2 : Int} {σ : ev_M} : EM 87 [.inr (.inl i0), .inl x1, .inl x2] σ = EB 87 0 [some (.inr (.inl i0)), some (.inl x1), some (.inl x2), none, none] [] σ := by
  unfold EM ev_go
  exact if_pos (Nat.le_of_ble_eq_true rfl)
theorem bk_87_0 {L : ev_L} {st : List ev_V} {σ : ev_M} : EB 87 0 L st σ = EO 87 [(1, 0, 0, 0, 0), (28, 10, 10, 0, (-161)), (28, 97, 7, 1, 6), (0, 1, 0, 0, 0), (59, 6, 2, 108, 1), (47, 1, 0, 6, 0), (6, 1, 0, (-2), 0), (56, 0, 0, 0, 0)] L st σ := EB_eq 87 0 L st σ
theorem bk_87_1 {L : ev_L} {st : List ev_V} {σ : ev_M} : EB 87 1 L st σ = EO 87 [(0, 2, 0, 0, 0), (6, 0, 0, 1, 0), (6, 1, 0, 60, 0), (60, 104, 3, 61, 0), (47, 2, 0, 6, 0), (6, 1, 0, (-3), 0), (56, 0, 0, 0, 0)] L st σ := EB_eq 87 1 L st σ
theorem bk_87_2 {L : ev_L} {st : List ev_V} {σ : ev_M} : EB 87 2 L st σ = EO 87 [(1, 0, 0, 0, 0), (28, 10, 10, 0, (-161)), (28, 97, 7, 1, 6), (28, 181, 1, 1, 1), (0, 1, 0, 0, 0), (32, 0, 0, 0, 0), (3, 3, 0, 0, 0), (1, 0, 0, 0, 0), (28, 10, 10, 0, (-161)), (28, 65, 7, 0, 1), (28, 175, 6, 3, 2), (0, 3, 0, 0, 0), (32, 0, 0, 0, 0), (3, 4, 1, 0, 0), (1, 0, 0, 0, 0), (28, 43, 10, 5, 12), (1, 0, 0, 0, 0), (28, 10, 10, 0, (-161)), (1, 0, 0, 0, 0), (28, 10, 10, 0, (-161)), (28, 65, 7, 0, 1), (28, 172, 6, 2, 1), (0, 3, 0, 0, 0), (32, 0, 0, 0, 0), (0, 2, 0, 0, 0), (0, 3, 0, 0, 0), (59, 62, 5, 242, 9), (1, 0, 0, 0, 0), (28, 43, 10, 5, 12), (0, 4, 1, 0, 0), (59, 61, 2, 246, 9), (46, 3, 0, 33, 0), (6, 2, 0, 1000, 0), (1, 0, 0, 0, 0), (28, 43, 10, 5, 12), (28, 249, 9, 0, 1), (0, 4, 1, 0, 0), (32, 0, 0, 0, 0), (10, 0, 0, 0, 0), (1, 0, 0, 0, 0), (28, 10, 10, 0, (-161)), (28, 65, 7, 0, 1), (28, 178, 6, 4, 3), (0, 3, 0, 0, 0), (32, 0, 0, 0, 0), (11, 0, 0, 0, 0), (52, 4, 0, 4, 0)] L st σ := EB_eq 87 2 L st σ
theorem bk_87_3 {L : ev_L} {st : List ev_V} {σ : ev_M} : EB 87 3 L st σ = EO 87 [(6, 0, 0, (-1), 0), (53, 4, 0, 0, 0)] L st σ := EB_eq 87 3 L st σ
theorem bk_87_4 {L : ev_L} {st : List ev_V} {σ : ev_M} : EB 87 4 L st σ = EO 87 [(56, 0, 0, 0, 0)] L st σ := EB_eq 87 4 L st σ
theorem mm_88 {i0 : Int} {x1 : Int} {x2 : Int} {σ : ev_M} : EM 88 [.inr (.inl i0), .inl x1, .inl x2] σ = EB 88 0 [some (.inr (.inl i0)), some (.inl x1), some (.inl x2), none] [] σ := by
  unfold EM ev_go
  exact if_pos (Nat.le_of_ble_eq_true rfl)
theorem bk_88_0 {L : ev_L} {st : List ev_V} {σ : ev_M} : EB 88 0 L st σ = EO 88 [(1, 0, 0, 0, 0), (28, 10, 10, 0, (-161)), (28, 65, 7, 0, 1), (0, 1, 0, 0, 0), (59, 44, 2, 79, 6), (46, 1, 0, 17, 0), (1, 0, 0, 0, 0), (28, 10, 10, 0, (-161)), (28, 65, 7, 0, 1), (0, 2, 0, 0, 0), (59, 44, 2, 79, 6), (47, 2, 0, 6, 0), (53, 1, 0, 0, 0)] L st σ := EB_eq 88 0 L st σ
theorem bk_88_1 {L : ev_L} {st : List ev_V} {σ : ev_M} : EB 88 1 L st σ = EO 88 [(6, 1, 0, (-2), 0), (56, 0, 0, 0, 0)] L st σ := EB_eq 88 1 L st σ
theorem bk_88_2 {L : ev_L} {st : List ev_V} {σ : ev_M} : EB 88 2 L st σ = EO 88 [(0, 1, 0, 0, 0), (0, 2, 0, 0, 0), (41, 3, 0, 6, 0), (6, 1, 0, (-4), 0), (56, 0, 0, 0, 0)] L st σ := EB_eq 88 2 L st σ
theorem bk_88_3 {L : ev_L} {st : List ev_V} {σ : ev_M} : EB 88 3 L st σ = EO 88 [(1, 0, 0, 0, 0), (28, 43, 10, 5, 12), (1, 0, 0, 0, 0), (28, 10, 10, 0, (-161)), (0, 1, 0, 0, 0), (0, 2, 0, 0, 0), (59, 66, 4, 259, 9), (3, 3, 0, 0, 0), (0, 3, 0, 0, 0), (51, 4, 0, 7, 0), (0, 3, 0, 0, 0), (52, 5, 0, 4, 0)] L st σ := EB_eq 88 3 L st σ
theorem bk_88_4 {L : ev_L} {st : List ev_V} {σ : ev_M} : EB 88 4 L st σ = EO 88 [(6, 0, 0, (-1), 0), (53, 5, 0, 0, 0)] L st σ := EB_eq 88 4 L st σ
theorem bk_88_5 {L : ev_L} {st : List ev_V} {σ : ev_M} : EB 88 5 L st σ = EO 88 [(56, 0, 0, 0, 0)] L st σ := EB_eq 88 5 L st σ
theorem mm_89 {i0 : Int} {x1 : Int} {x2 : Int} {x3 : Int} {x4 : Int} {x5 : Int} {σ : ev_M} : EM 89 [.inr (.inl i0), .inl x1, .inl x2, .inl x3, .inl x4, .inl x5] σ = EB 89 0 [some (.inr (.inl i0)), some (.inl x1), some (.inl x2), some (.inl x3), some (.inl x4), some (.inl x5)] [] σ := by
  unfold EM ev_go
  exact if_pos (Nat.le_of_ble_eq_true rfl)
theorem bk_89_0 {L : ev_L} {st : List ev_V} {σ : ev_M} : EB 89 0 L st σ = EO 89 [(0, 1, 0, 0, 0), (6, 0, 0, 0, 0), (6, 2, 0, 999, 0), (60, 104, 3, 61, 0), (46, 1, 0, 33, 0), (0, 2, 0, 0, 0), (60, 105, 1, 263, 0), (46, 1, 0, 26, 0), (0, 3, 0, 0, 0), (60, 105, 1, 263, 0), (46, 1, 0, 19, 0), (0, 4, 1, 0, 0), (60, 105, 1, 263, 0), (46, 1, 0, 11, 0), (0, 5, 1, 0, 0), (60, 105, 1, 263, 0), (47, 2, 0, 6, 0), (53, 1, 0, 0, 0)] L st σ := EB_eq 89 0 L st σ
theorem bk_89_1 {L : ev_L} {st : List ev_V} {σ : ev_M} : EB 89 1 L st σ = EO 89 [(6, 1, 0, (-3), 0), (56, 0, 0, 0, 0)] L st σ := EB_eq 89 1 L st σ
theorem bk_89_2 {L : ev_L} {st : List ev_V} {σ : ev_M} : EB 89 2 L st σ = EO 89 [(1, 0, 0, 0, 0), (28, 10, 10, 0, (-161)), (28, 140, 7, 2, 17), (27, 149, 4, 1, 0), (6, 0, 0, 3, 0), (42, 3, 0, 6, 0), (6, 1, 0, (-5), 0), (56, 0, 0, 0, 0)] L st σ := EB_eq 89 2 L st σ
theorem bk_89_3 {L : ev_L} {st : List ev_V} {σ : ev_M} : EB 89 3 L st σ = EO 89 [(1, 0, 0, 0, 0), (28, 22, 10, 2, 1), (1, 0, 0, 0, 0), (28, 10, 10, 0, (-161)), (59, 26, 2, 75, 3), (1, 0, 0, 0, 0), (28, 10, 10, 0, (-161)), (28, 140, 7, 2, 17), (0, 1, 0, 0, 0), (0, 2, 0, 0, 0), (0, 3, 0, 0, 0), (0, 4, 1, 0, 0), (0, 5, 1, 0, 0), (59, 31, 6, 266, 4), (56, 0, 0, 0, 0)] L st σ := EB_eq 89 3 L st σ
theorem mm_90 {i0 : Int} {x1 : Int} {x2 : Int} {x3 : Int} {σ : ev_M} : EM 90 [.inr (.inl i0), .inl x1, .inl x2, .inl x3] σ = EB 90 0 [some (.inr (.inl i0)), some (.inl x1), some (.inl x2), some (.inl x3)] [] σ := by
  unfold EM ev_go
  exact if_pos (Nat.le_of_ble_eq_true rfl)
theorem bk_90_0 {L : ev_L} {st : List ev_V} {σ : ev_M} : EB 90 0 L st σ = EO 90 [(1, 0, 0, 0, 0), (28, 10, 10, 0, (-161)), (28, 97, 7, 1, 6), (0, 1, 0, 0, 0), (0, 2, 0, 0, 0), (59, 7, 3, 118, 1), (47, 1, 0, 6, 0), (6, 1, 0, (-2), 0), (56, 0, 0, 0, 0)] L st σ := EB_eq 90 0 L st σ
theorem bk_90_1 {L : ev_L} {st : List ev_V} {σ : ev_M} : EB 90 1 L st σ = EO 90 [(0, 3, 0, 0, 0), (6, 0, 0, 1, 0), (6, 1, 0, 9, 0), (60, 104, 3, 61, 0), (47, 2, 0, 6, 0), (6, 1, 0, (-3), 0), (56, 0, 0, 0, 0)] L st σ := EB_eq 90 1 L st σ
theorem bk_90_2 {L : ev_L} {st : List ev_V} {σ : ev_M} : EB 90 2 L st σ = EO 90 [(1, 0, 0, 0, 0), (28, 10, 10, 0, (-161)), (28, 140, 7, 2, 17), (27, 144, 4, 0, 0), (6, 1, 0, 8, 0), (42, 3, 0, 6, 0), (6, 1, 0, (-5), 0), (56, 0, 0, 0, 0)] L st σ := EB_eq 90 2 L st σ
theorem bk_90_3 {L : ev_L} {st : List ev_V} {σ : ev_M} : EB 90 3 L st σ = EO 90 [(1, 0, 0, 0, 0), (28, 22, 10, 2, 1), (1, 0, 0, 0, 0), (28, 10, 10, 0, (-161)), (59, 26, 2, 75, 3), (1, 0, 0, 0, 0), (28, 10, 10, 0, (-161)), (28, 140, 7, 2, 17), (0, 1, 0, 0, 0), (0, 2, 0, 0, 0), (0, 3, 0, 0, 0), (59, 32, 4, 270, 4), (56, 0, 0, 0, 0)] L st σ := EB_eq 90 3 L st σ
theorem mm_91 {i0 : Int} {σ : ev_M} : EM 91 [.inr (.inl i0)] σ = EB 91 0 [some (.inr (.inl i0)), none] [] σ := by
  unfold EM ev_go
  exact if_pos (Nat.le_of_ble_eq_true rfl)
theorem bk_91_0 {L : ev_L} {st : List ev_V} {σ : ev_M} : EB 91 0 L st σ = EO 91 [(1, 0, 0, 0, 0), (28, 22, 10, 2, 1), (1, 0, 0, 0, 0), (28, 10, 10, 0, (-161)), (59, 26, 2, 75, 3), (1, 0, 0, 0, 0), (28, 10, 10, 0, (-161)), (28, 140, 7, 2, 17), (27, 144, 4, 0, 0), (3, 1, 0, 0, 0), (1, 0, 0, 0, 0), (28, 10, 10, 0, (-161)), (28, 140, 7, 2, 17), (6, 0, 0, 0, 0), (30, 144, 4, 0, 0), (0, 1, 0, 0, 0), (56, 0, 0, 0, 0)] L st σ := EB_eq 91 0 L st σ
theorem mm_92 {i0 : Int} {x1 : Int} {x2 : Int} {σ : ev_M} : EM 92 [.inr (.inl i0), .inl x1, .inl x2] σ = EB 92 0 [some (.inr (.inl i0)), some (.inl x1), some (.inl x2)] [] σ := by
  unfold EM ev_go
  exact if_pos (Nat.le_of_ble_eq_true rfl)
theorem bk_92_0 {L : ev_L} {st : List ev_V} {σ : ev_M} : EB 92 0 L st σ = EO 92 [(1, 0, 0, 0, 0), (28, 10, 10, 0, (-161)), (28, 140, 7, 2, 17), (0, 1, 0, 0, 0), (59, 29, 2, 273, 4), (47, 1, 0, 6, 0), (6, 1, 0, (-2), 0), (56, 0, 0, 0, 0)] L st σ := EB_eq 92 0 L st σ
theorem bk_92_1 {L : ev_L} {st : List ev_V} {σ : ev_M} : EB 92 1 L st σ = EO 92 [(0, 2, 0, 0, 0), (54, 5, 0, 0, 0)] L st σ := EB_eq 92 1 L st σ
theorem bk_92_2 {L : ev_L} {st : List ev_V} {σ : ev_M} : EB 92 2 L st σ = EO 92 [(1, 0, 0, 0, 0), (28, 10, 10, 0, (-161)), (28, 140, 7, 2, 17), (28, 276, 4, 2, 1), (0, 1, 0, 0, 0), (32, 0, 0, 0, 0), (56, 0, 0, 0, 0)] L st σ := EB_eq 92 2 L st σ
theorem bk_92_3 {L : ev_L} {st : List ev_V} {σ : ev_M} : EB 92 3 L st σ = EO 92 [(1, 0, 0, 0, 0), (28, 10, 10, 0, (-161)), (28, 140, 7, 2, 17), (28, 277, 4, 3, 2), (0, 1, 0, 0, 0), (32, 0, 0, 0, 0), (56, 0, 0, 0, 0)] L st σ := EB_eq 92 3 L st σ
theorem bk_92_4 {L : ev_L} {st : List ev_V} {σ : ev_M} : EB 92 4 L st σ = EO 92 [(1, 0, 0, 0, 0), (28, 10, 10, 0, (-161)), (28, 140, 7, 2, 17), (28, 280, 4, 4, 3), (0, 1, 0, 0, 0), (32, 0, 0, 0, 0), (56, 0, 0, 0, 0)] L st σ := EB_eq 92 4 L st σ
theorem bk_92_5 {L : ev_L} {st : List ev_V} {σ : ev_M} : EB 92 5 L st σ = EO 92 [(1, 0, 0, 0, 0), (28, 57, 10, 7, 18), (1, 0, 0, 0, 0), (28, 10, 10, 0, (-161)), (59, 0, 2, 283, 0), (1, 0, 0, 0, 0), (28, 57, 10, 7, 18), (28, 286, 0, 1, 1), (0, 1, 0, 0, 0), (32, 0, 0, 0, 0), (56, 0, 0, 0, 0)] L st σ := EB_eq 92 5 L st σ
theorem bk_92_6 {L : ev_L} {st : List ev_V} {σ : ev_M} : EB 92 6 L st σ = EO 92 [(6, 1, 0, (-3), 0), (56, 0, 0, 0, 0)] L st σ := EB_eq 92 6 L st σ
theorem mm_93 {i0 : Int} {x1 : Int} {x2 : Int} {σ : ev_M} : EM 93 [.inr (.inl i0), .inl x1, .inl x2] σ = EB 93 0 [some (.inr (.inl i0)), some (.inl x1), some (.inl x2)] [] σ := by
  unfold EM ev_go
  exact if_pos (Nat.le_of_ble_eq_true rfl)
theorem bk_93_0 {L : ev_L} {st : List ev_V} {σ : ev_M} : EB 93 0 L st σ = EO 93 [(1, 0, 0, 0, 0), (28, 10, 10, 0, (-161)), (28, 140, 7, 2, 17), (0, 1, 0, 0, 0), (59, 30, 2, 289, 4), (47, 1, 0, 6, 0), (6, 1, 0, (-2), 0), (56, 0, 0, 0, 0)] L st σ := EB_eq 93 0 L st σ
theorem bk_93_1 {L : ev_L} {st : List ev_V} {σ : ev_M} : EB 93 1 L st σ = EO 93 [(0, 2, 0, 0, 0), (6, 0, 0, 1, 0), (6, 0, 0, 4, 0), (60, 104, 3, 61, 0), (46, 2, 0, 22, 0), (1, 0, 0, 0, 0), (28, 10, 10, 0, (-161)), (28, 140, 7, 2, 17), (28, 292, 4, 6, 5), (0, 1, 0, 0, 0), (6, 0, 0, 4, 0), (12, 0, 0, 0, 0), (0, 2, 0, 0, 0), (10, 0, 0, 0, 0), (6, 0, 0, 1, 0), (11, 0, 0, 0, 0), (32, 0, 0, 0, 0), (56, 0, 0, 0, 0)] L st σ := EB_eq 93 1 L st σ
theorem bk_93_2 {L : ev_L} {st : List ev_V} {σ : ev_M} : EB 93 2 L st σ = EO 93 [(0, 2, 0, 0, 0), (55, 6, 0, 0, 0)] L st σ := EB_eq 93 2 L st σ
theorem bk_93_3 {L : ev_L} {st : List ev_V} {σ : ev_M} : EB 93 3 L st σ = EO 93 [(1, 0, 0, 0, 0), (28, 10, 10, 0, (-161)), (28, 140, 7, 2, 17), (28, 295, 4, 5, 4), (0, 1, 0, 0, 0), (32, 0, 0, 0, 0), (56, 0, 0, 0, 0)] L st σ := EB_eq 93 3 L st σ
theorem bk_93_4 {L : ev_L} {st : List ev_V} {σ : ev_M} : EB 93 4 L st σ = EO 93 [(1, 0, 0, 0, 0), (28, 57, 10, 7, 18), (1, 0, 0, 0, 0), (28, 10, 10, 0, (-161)), (59, 0, 2, 283, 0), (1, 0, 0, 0, 0), (28, 57, 10, 7, 18), (1, 0, 0, 0, 0), (28, 10, 10, 0, (-161)), (0, 1, 0, 0, 0), (59, 4, 3, 298, 0), (56, 0, 0, 0, 0)] L st σ := EB_eq 93 4 L st σ
theorem bk_93_5 {L : ev_L} {st : List ev_V} {σ : ev_M} : EB 93 5 L st σ = EO 93 [(1, 0, 0, 0, 0), (28, 10, 10, 0, (-161)), (0, 1, 0, 0, 0), (59, 54, 2, 302, 7), (56, 0, 0, 0, 0)] L st σ := EB_eq 93 5 L st σ
theorem bk_93_6 {L : ev_L} {st : List ev_V} {σ : ev_M} : EB 93 6 L st σ = EO 93 [(6, 1, 0, (-3), 0), (56, 0, 0, 0, 0)] L st σ := EB_eq 93 6 L st σ
theorem mm_94 {i0 : Int} {σ : ev_M} : EM 94 [.inr (.inl i0)] σ = EB 94 0 [some (.inr (.inl i0))] [] σ := by
  unfold EM ev_go
  exact if_pos (Nat.le_of_ble_eq_true rfl)
theorem bk_94_0 {L : ev_L} {st : List ev_V} {σ : ev_M} : EB 94 0 L st σ = EO 94 [(1, 0, 0, 0, 0), (28, 57, 10, 7, 18), (1, 0, 0, 0, 0), (28, 10, 10, 0, (-161)), (59, 0, 2, 283, 0), (1, 0, 0, 0, 0), (28, 57, 10, 7, 18), (27, 305, 0, 0, 0), (56, 0, 0, 0, 0)] L st σ := EB_eq 94 0 L st σ
theorem mm_95 {i0 : Int} {x1 : Int} {σ : ev_M} : EM 95 [.inr (.inl i0), .inl x1] σ = EB 95 0 [some (.inr (.inl i0)), some (.inl x1)] [] σ := by
  unfold EM ev_go
  exact if_pos (Nat.le_of_ble_eq_true rfl)
theorem bk_95_0 {L : ev_L} {st : List ev_V} {σ : ev_M} : EB 95 0 L st σ = EO 95 [(1, 0, 0, 0, 0), (28, 10, 10, 0, (-161)), (28, 97, 7, 1, 6), (0, 1, 0, 0, 0), (59, 6, 2, 108, 1), (47, 1, 0, 6, 0), (6, 1, 0, (-2), 0), (56, 0, 0, 0, 0)] L st σ := EB_eq 95 0 L st σ
theorem bk_95_1 {L : ev_L} {st : List ev_V} {σ : ev_M} : EB 95 1 L st σ = EO 95 [(1, 0, 0, 0, 0), (28, 36, 10, 4, 9), (1, 0, 0, 0, 0), (28, 10, 10, 0, (-161)), (0, 1, 0, 0, 0), (59, 25, 3, 308, 2), (56, 0, 0, 0, 0)] L st σ := EB_eq 95 1 L st σ
theorem mm_96 {i0 : Int} {σ : ev_M} : EM 96 [.inr (.inl i0)] σ = EB 96 0 [some (.inr (.inl i0))] [] σ := by
  unfold EM ev_go
  exact if_pos (Nat.le_of_ble_eq_true rfl)
theorem bk_96_0 {L : ev_L} {st : List ev_V} {σ : ev_M} : EB 96 0 L st σ = EO 96 [(1, 0, 0, 0, 0), (28, 57, 10, 7, 18), (1, 0, 0, 0, 0), (28, 10, 10, 0, (-161)), (59, 0, 2, 283, 0), (1, 0, 0, 0, 0), (28, 57, 10, 7, 18), (27, 305, 0, 0, 0), (6, 0, 0, (-1), 0), (41, 1, 0, 6, 0), (6, 1, 0, (-4), 0), (56, 0, 0, 0, 0)] L st σ := EB_eq 96 0 L st σ
theorem bk_96_1 {L : ev_L} {st : List ev_V} {σ : ev_M} : EB 96 1 L st σ = EO 96 [(1, 0, 0, 0, 0), (28, 22, 10, 2, 1), (1, 0, 0, 0, 0), (28, 10, 10, 0, (-161)), (59, 26, 2, 75, 3), (1, 0, 0, 0, 0), (28, 10, 10, 0, (-161)), (24, 0, 0, 0, 0), (27, 161, 7, 6, 0), (1, 0, 0, 0, 0), (28, 57, 10, 7, 18), (27, 305, 0, 0, 0), (10, 0, 0, 0, 0), (30, 161, 7, 6, 0), (1, 0, 0, 0, 0), (28, 10, 10, 0, (-161)), (59, 55, 1, 311, 7), (1, 0, 0, 0, 0), (28, 57, 10, 7, 18), (27, 305, 0, 0, 0), (56, 0, 0, 0, 0)] L st σ := EB_eq 96 1 L st σ
theorem mm_97 {i0 : Int} {σ : ev_M} : EM 97 [.inr (.inl i0)] σ = EB 97 0 [some (.inr (.inl i0))] [] σ := by
  unfold EM ev_go
  exact if_pos (Nat.le_of_ble_eq_true rfl)
theorem bk_97_0 {L : ev_L} {st : List ev_V} {σ : ev_M} : EB 97 0 L st σ = EO 97 [(1, 0, 0, 0, 0), (28, 22, 10, 2, 1), (1, 0, 0, 0, 0), (28, 10, 10, 0, (-161)), (59, 28, 2, 314, 3), (47, 1, 0, 6, 0), (6, 1, 0, (-4), 0), (56, 0, 0, 0, 0)] L st σ := EB_eq 97 0 L st σ
theorem bk_97_1 {L : ev_L} {st : List ev_V} {σ : ev_M} : EB 97 1 L st σ = EO 97 [(1, 0, 0, 0, 0), (28, 22, 10, 2, 1), (27, 318, 3, 0, 0), (56, 0, 0, 0, 0)] L st σ := EB_eq 97 1 L st σ
theorem mm_98 {i0 : Int} {x1 : Int} {σ : ev_M} : EM 98 [.inr (.inl i0), .inl x1] σ = EB 98 0 [some (.inr (.inl i0)), some (.inl x1)] [] σ := by
  unfold EM ev_go
  exact if_pos (Nat.le_of_ble_eq_true rfl)
theorem bk_98_0 {L : ev_L} {st : List ev_V} {σ : ev_M} : EB 98 0 L st σ = EO 98 [(0, 1, 0, 0, 0), (6, 0, 0, 0, 0), (6, 2, 0, 255, 0), (60, 104, 3, 61, 0), (47, 1, 0, 6, 0), (6, 1, 0, (-3), 0), (56, 0, 0, 0, 0)] L st σ := EB_eq 98 0 L st σ
theorem bk_98_1 {L : ev_L} {st : List ev_V} {σ : ev_M} : EB 98 1 L st σ = EO 98 [(1, 0, 0, 0, 0), (28, 29, 10, 3, 3), (27, 319, 5, 1, 0), (6, 1, 0, 100, 0), (42, 2, 0, 6, 0), (6, 1, 0, (-5), 0), (56, 0, 0, 0, 0)] L st σ := EB_eq 98 1 L st σ
theorem bk_98_2 {L : ev_L} {st : List ev_V} {σ : ev_M} : EB 98 2 L st σ = EO 98 [(1, 0, 0, 0, 0), (28, 29, 10, 3, 3), (28, 321, 5, 0, 1), (1, 0, 0, 0, 0), (28, 29, 10, 3, 3), (27, 319, 5, 1, 0), (0, 1, 0, 0, 0), (33, 0, 0, 0, 0), (1, 0, 0, 0, 0), (28, 29, 10, 3, 3), (24, 0, 0, 0, 0), (27, 319, 5, 1, 0), (6, 0, 0, 1, 0), (10, 0, 0, 0, 0), (30, 319, 5, 1, 0), (1, 0, 0, 0, 0), (28, 29, 10, 3, 3), (27, 319, 5, 1, 0), (56, 0, 0, 0, 0)] L st σ := EB_eq 98 2 L st σ
theorem mm_99 {i0 : Int} {σ : ev_M} : EM 99 [.inr (.inl i0)] σ = EB 99 0 [some (.inr (.inl i0)), none] [] σ := by
  unfold EM ev_go
  exact if_pos (Nat.le_of_ble_eq_true rfl)
theorem bk_99_0 {L : ev_L} {st : List ev_V} {σ : ev_M} : EB 99 0 L st σ = EO 99 [(1, 0, 0, 0, 0), (28, 29, 10, 3, 3), (27, 319, 5, 1, 0), (3, 1, 0, 0, 0), (1, 0, 0, 0, 0), (28, 29, 10, 3, 3), (6, 0, 0, 0, 0), (30, 319, 5, 1, 0), (0, 1, 0, 0, 0), (56, 0, 0, 0, 0)] L st σ := EB_eq 99 0 L st σ
theorem mm_100 {i0 : Int} {σ : ev_M} : EM 100 [.inr (.inl i0)] σ = EB 100 0 [some (.inr (.inl i0))] [] σ := by
  unfold EM ev_go
  exact if_pos (Nat.le_of_ble_eq_true rfl)
theorem bk_100_0 {L : ev_L} {st : List ev_V} {σ : ev_M} : EB 100 0 L st σ = EO 100 [(1, 0, 0, 0, 0), (28, 29, 10, 3, 3), (1, 0, 0, 0, 0), (28, 10, 10, 0, (-161)), (59, 34, 2, 324, 5), (56, 0, 0, 0, 0)] L st σ := EB_eq 100 0 L st σ
theorem mm_101 {i0 : Int} {σ : ev_M} : EM 101 [.inr (.inl i0)] σ = EB 101 0 [some (.inr (.inl i0)), none, none] [] σ := by
  unfold EM ev_go
  exact if_pos (Nat.le_of_ble_eq_true rfl)
theorem bk_101_0 {L : ev_L} {st : List ev_V} {σ : ev_M} : EB 101 0 L st σ = EO 101 [(1, 0, 0, 0, 0), (28, 29, 10, 3, 3), (1, 0, 0, 0, 0), (28, 10, 10, 0, (-161)), (59, 34, 2, 324, 5), (6, 0, 0, (-1), 0), (40, 1, 0, 6, 0), (6, 1, 0, (-4), 0), (56, 0, 0, 0, 0)] L st σ := EB_eq 101 0 L st σ
theorem bk_101_1 {L : ev_L} {st : List ev_V} {σ : ev_M} : EB 101 1 L st σ = EO 101 [(1, 0, 0, 0, 0), (28, 22, 10, 2, 1), (1, 0, 0, 0, 0), (28, 10, 10, 0, (-161)), (59, 26, 2, 75, 3), (6, 0, 0, 0, 0), (3, 1, 0, 0, 0), (53, 2, 0, 0, 0)] L st σ := EB_eq 101 1 L st σ
theorem bk_101_2 {L : ev_L} {st : List ev_V} {σ : ev_M} : EB 101 2 L st σ = EO 101 [(0, 1, 0, 0, 0), (1, 0, 0, 0, 0), (28, 29, 10, 3, 3), (27, 328, 5, 5, 0), (43, 4, 0, 68, 0), (1, 0, 0, 0, 0), (28, 10, 10, 0, (-161)), (28, 65, 7, 0, 1), (1, 0, 0, 0, 0), (28, 29, 10, 3, 3), (28, 330, 5, 7, 2), (0, 1, 0, 0, 0), (32, 0, 0, 0, 0), (1, 0, 0, 0, 0), (28, 29, 10, 3, 3), (28, 331, 5, 8, 3), (0, 1, 0, 0, 0), (32, 0, 0, 0, 0), (1, 0, 0, 0, 0), (28, 29, 10, 3, 3), (28, 332, 5, 9, 4), (0, 1, 0, 0, 0), (32, 0, 0, 0, 0), (59, 46, 4, 86, 6), (3, 2, 0, 0, 0), (1, 0, 0, 0, 0), (28, 29, 10, 3, 3), (28, 333, 5, 10, 5), (0, 1, 0, 0, 0), (34, 0, 0, 0, 0), (46, 3, 0, 12, 0), (1, 0, 0, 0, 0), (28, 10, 10, 0, (-161)), (0, 2, 0, 0, 0), (59, 48, 2, 104, 7), (26, 0, 0, 0, 0), (53, 3, 0, 0, 0)] L st σ := EB_eq 101 2 L st σ
theorem bk_101_3 {L : ev_L} {st : List ev_V} {σ : ev_M} : EB 101 3 L st σ = EO 101 [(23, 1, 0, 1, 0), (52, 2, 0, (-73), 0)] L st σ := EB_eq 101 3 L st σ
theorem bk_101_4 {L : ev_L} {st : List ev_V} {σ : ev_M} : EB 101 4 L st σ = EO 101 [(1, 0, 0, 0, 0), (28, 10, 10, 0, (-161)), (28, 65, 7, 0, 1), (27, 83, 6, 1, 0), (56, 0, 0, 0, 0)] L st σ := EB_eq 101 4 L st σ
theorem mm_102 {i0 : Int} {σ : ev_M} : EM 102 [.inr (.inl i0)] σ = EB 102 0 [some (.inr (.inl i0)), none, none, none, none] [] σ := by
  unfold EM ev_go
  exact if_pos (Nat.le_of_ble_eq_true rfl)
theorem bk_102_0 {L : ev_L} {st : List ev_V} {σ : ev_M} : EB 102 0 L st σ = EO 102 [(8, 336, 0, 17, 0), (5, 1, 0, 0, 0), (6, 0, 0, 0, 0), (3, 3, 0, 0, 0), (53, 1, 0, 0, 0)] L st σ := EB_eq 102 0 L st σ
theorem bk_102_1 {L : ev_L} {st : List ev_V} {σ : ev_M} : EB 102 1 L st σ = EO 102 [(0, 3, 0, 0, 0), (6, 1, 0, 10, 0), (44, 2, 0, 22, 0), (8, 338, 0, 31, 0), (2, 1, 0, 0, 0), (21, 0, 0, 0, 0), (1, 0, 0, 0, 0), (0, 3, 0, 0, 0), (59, 75, 2, 340, 10), (22, 0, 0, 0, 0), (20, 0, 0, 0, 0), (5, 1, 0, 0, 0), (23, 3, 0, 1, 0), (52, 1, 0, (-22), 0)] L st σ := EB_eq 102 1 L st σ
theorem bk_102_2 {L : ev_L} {st : List ev_V} {σ : ev_M} : EB 102 2 L st σ = EO 102 [(6, 0, 0, 0, 0), (3, 3, 0, 0, 0), (53, 3, 0, 0, 0)] L st σ := EB_eq 102 2 L st σ
theorem bk_102_3 {L : ev_L} {st : List ev_V} {σ : ev_M} : EB 102 3 L st σ = EO 102 [(0, 3, 0, 0, 0), (1, 0, 0, 0, 0), (28, 10, 10, 0, (-161)), (28, 65, 7, 0, 1), (27, 83, 6, 1, 0), (43, 6, 0, 39, 0), (6, 0, 0, 0, 0), (3, 4, 1, 0, 0), (53, 4, 0, 0, 0)] L st σ := EB_eq 102 3 L st σ
theorem bk_102_4 {L : ev_L} {st : List ev_V} {σ : ev_M} : EB 102 4 L st σ = EO 102 [(0, 4, 1, 0, 0), (6, 0, 0, 3, 0), (44, 5, 0, 24, 0), (8, 338, 0, 31, 0), (2, 1, 0, 0, 0), (21, 0, 0, 0, 0), (1, 0, 0, 0, 0), (0, 3, 0, 0, 0), (0, 4, 1, 0, 0), (59, 76, 3, 343, 10), (22, 0, 0, 0, 0), (20, 0, 0, 0, 0), (5, 1, 0, 0, 0), (23, 4, 0, 1, 0), (52, 4, 0, (-24), 0)] L st σ := EB_eq 102 4 L st σ
theorem bk_102_5 {L : ev_L} {st : List ev_V} {σ : ev_M} : EB 102 5 L st σ = EO 102 [(23, 3, 0, 1, 0), (52, 3, 0, (-47), 0)] L st σ := EB_eq 102 5 L st σ
theorem bk_102_6 {L : ev_L} {st : List ev_V} {σ : ev_M} : EB 102 6 L st σ = EO 102 [(6, 0, 0, 0, 0), (3, 3, 0, 0, 0), (53, 7, 0, 0, 0)] L st σ := EB_eq 102 6 L st σ
theorem bk_102_7 {L : ev_L} {st : List ev_V} {σ : ev_M} : EB 102 7 L st σ = EO 102 [(0, 3, 0, 0, 0), (1, 0, 0, 0, 0), (28, 10, 10, 0, (-161)), (28, 97, 7, 1, 6), (27, 101, 1, 0, 0), (43, 8, 0, 16, 0), (1, 0, 0, 0, 0), (2, 1, 0, 0, 0), (0, 3, 0, 0, 0), (59, 103, 3, 345, 10), (5, 1, 0, 0, 0), (23, 3, 0, 1, 0), (52, 7, 0, (-24), 0)] L st σ := EB_eq 102 7 L st σ
theorem bk_102_8 {L : ev_L} {st : List ev_V} {σ : ev_M} : EB 102 8 L st σ = EO 102 [(6, 0, 0, 0, 0), (3, 3, 0, 0, 0), (53, 9, 0, 0, 0)] L st σ := EB_eq 102 8 L st σ
theorem bk_102_9 {L : ev_L} {st : List ev_V} {σ : ev_M} : EB 102 9 L st σ = EO 102 [(0, 3, 0, 0, 0), (1, 0, 0, 0, 0), (28, 10, 10, 0, (-161)), (28, 140, 7, 2, 17), (27, 144, 4, 0, 0), (43, 12, 0, 39, 0), (6, 0, 0, 0, 0), (3, 4, 1, 0, 0), (53, 10, 0, 0, 0)] L st σ := EB_eq 102 9 L st σ
theorem bk_102_10 {L : ev_L} {st : List ev_V} {σ : ev_M} : EB 102 10 L st σ = EO 102 [(0, 4, 1, 0, 0), (6, 0, 0, 3, 0), (44, 11, 0, 24, 0), (8, 338, 0, 31, 0), (2, 1, 0, 0, 0), (21, 0, 0, 0, 0), (1, 0, 0, 0, 0), (0, 3, 0, 0, 0), (0, 4, 1, 0, 0), (59, 92, 3, 349, 10), (22, 0, 0, 0, 0), (20, 0, 0, 0, 0), (5, 1, 0, 0, 0), (23, 4, 0, 1, 0), (52, 10, 0, (-24), 0)] L st σ := EB_eq 102 10 L st σ
theorem bk_102_11 {L : ev_L} {st : List ev_V} {σ : ev_M} : EB 102 11 L st σ = EO 102 [(23, 3, 0, 1, 0), (52, 9, 0, (-47), 0)] L st σ := EB_eq 102 11 L st σ
theorem bk_102_12 {L : ev_L} {st : List ev_V} {σ : ev_M} : EB 102 12 L st σ = EO 102 [(6, 0, 0, 0, 0), (3, 3, 0, 0, 0), (53, 13, 0, 0, 0)] L st σ := EB_eq 102 12 L st σ
theorem bk_102_13 {L : ev_L} {st : List ev_V} {σ : ev_M} : EB 102 13 L st σ = EO 102 [(0, 3, 0, 0, 0), (1, 0, 0, 0, 0), (28, 10, 10, 0, (-161)), (28, 140, 7, 2, 17), (27, 149, 4, 1, 0), (43, 16, 0, 40, 0), (6, 0, 0, 0, 0), (3, 4, 1, 0, 0), (53, 14, 0, 0, 0)] L st σ := EB_eq 102 13 L st σ
theorem bk_102_14 {L : ev_L} {st : List ev_V} {σ : ev_M} : EB 102 14 L st σ = EO 102 [(0, 4, 1, 0, 0), (6, 1, 0, 6, 0), (44, 15, 0, 24, 0), (8, 338, 0, 31, 0), (2, 1, 0, 0, 0), (21, 0, 0, 0, 0), (1, 0, 0, 0, 0), (0, 3, 0, 0, 0), (0, 4, 1, 0, 0), (59, 93, 3, 352, 10), (22, 0, 0, 0, 0), (20, 0, 0, 0, 0), (5, 1, 0, 0, 0), (23, 4, 0, 1, 0), (52, 14, 0, (-25), 0)] L st σ := EB_eq 102 14 L st σ
theorem bk_102_15 {L : ev_L} {st : List ev_V} {σ : ev_M} : EB 102 15 L st σ = EO 102 [(23, 3, 0, 1, 0), (52, 13, 0, (-48), 0)] L st σ := EB_eq 102 15 L st σ
theorem bk_102_16 {L : ev_L} {st : List ev_V} {σ : ev_M} : EB 102 16 L st σ = EO 102 [(2, 1, 0, 0, 0), (57, 0, 0, 0, 0)] L st σ := EB_eq 102 16 L st σ
theorem mm_103 {i0 : Int} {h1 : Int64} {x2 : Int} {σ : ev_M} : EM 103 [.inr (.inl i0), .inr (.inr h1), .inl x2] σ = EB 103 0 [some (.inr (.inl i0)), some (.inr (.inr h1)), none, some (.inl x2), none, none, none, none] [] σ := by
  unfold EM ev_go
  exact if_pos (Nat.le_of_ble_eq_true rfl)
theorem bk_103_0 {L : ev_L} {st : List ev_V} {σ : ev_M} : EB 103 0 L st σ = EO 103 [(2, 1, 0, 0, 0), (5, 4, 1, 0, 0), (6, 0, 0, 0, 0), (3, 6, 1, 0, 0), (53, 1, 0, 0, 0)] L st σ := EB_eq 103 0 L st σ
theorem bk_103_1 {L : ev_L} {st : List ev_V} {σ : ev_M} : EB 103 1 L st σ = EO 103 [(0, 6, 1, 0, 0), (6, 1, 0, 8, 0), (44, 2, 0, 26, 0), (8, 338, 0, 31, 0), (2, 4, 1, 0, 0), (21, 0, 0, 0, 0), (1, 0, 0, 0, 0), (0, 3, 0, 0, 0), (0, 6, 1, 0, 0), (59, 77, 3, 355, 10), (22, 0, 0, 0, 0), (20, 0, 0, 0, 0), (5, 4, 1, 0, 0), (23, 6, 0, 1, 0), (52, 1, 0, (-27), 0)] L st σ := EB_eq 103 1 L st σ
theorem bk_103_2 {L : ev_L} {st : List ev_V} {σ : ev_M} : EB 103 2 L st σ = EO 103 [(6, 0, 0, 0, 0), (3, 6, 1, 0, 0), (53, 3, 0, 0, 0)] L st σ := EB_eq 103 2 L st σ
theorem bk_103_3 {L : ev_L} {st : List ev_V} {σ : ev_M} : EB 103 3 L st σ = EO 103 [(0, 6, 1, 0, 0), (1, 0, 0, 0, 0), (28, 10, 10, 0, (-161)), (28, 97, 7, 1, 6), (28, 111, 1, 5, 5), (0, 3, 0, 0, 0), (32, 0, 0, 0, 0), (43, 6, 0, 43, 0), (6, 0, 0, 0, 0), (3, 7, 1, 0, 0), (53, 4, 0, 0, 0)] L st σ := EB_eq 103 3 L st σ
theorem bk_103_4 {L : ev_L} {st : List ev_V} {σ : ev_M} : EB 103 4 L st σ = EO 103 [(0, 7, 1, 0, 0), (6, 0, 0, 5, 0), (44, 5, 0, 28, 0), (8, 338, 0, 31, 0), (2, 4, 1, 0, 0), (21, 0, 0, 0, 0), (1, 0, 0, 0, 0), (0, 3, 0, 0, 0), (0, 6, 1, 0, 0), (0, 7, 1, 0, 0), (59, 78, 4, 357, 10), (22, 0, 0, 0, 0), (20, 0, 0, 0, 0), (5, 4, 1, 0, 0), (23, 7, 0, 1, 0), (52, 4, 0, (-28), 0)] L st σ := EB_eq 103 4 L st σ
theorem bk_103_5 {L : ev_L} {st : List ev_V} {σ : ev_M} : EB 103 5 L st σ = EO 103 [(23, 6, 0, 1, 0), (52, 3, 0, (-54), 0)] L st σ := EB_eq 103 5 L st σ
theorem bk_103_6 {L : ev_L} {st : List ev_V} {σ : ev_M} : EB 103 6 L st σ = EO 103 [(2, 4, 1, 0, 0), (57, 0, 0, 0, 0)] L st σ := EB_eq 103 6 L st σ
theorem mm_104 {x0 : Int} {x1 : Int} {x2 : Int} {σ : ev_M} : EM 104 [.inl x0, .inl x1, .inl x2] σ = EB 104 0 [some (.inl x0), some (.inl x1), some (.inl x2)] [] σ := by
  unfold EM ev_go
  exact if_pos (Nat.le_of_ble_eq_true rfl)
theorem bk_104_0 {L : ev_L} {st : List ev_V} {σ : ev_M} : EB 104 0 L st σ = EO 104 [(0, 1, 0, 0, 0), (0, 0, 0, 0, 0), (44, 1, 0, 12, 0), (0, 0, 0, 0, 0), (0, 2, 0, 0, 0), (44, 1, 0, 7, 0), (6, 0, 0, 1, 0), (52, 2, 0, 4, 0)] L st σ := EB_eq 104 0 L st σ
theorem bk_104_1 {L : ev_L} {st : List ev_V} {σ : ev_M} : EB 104 1 L st σ = EO 104 [(6, 0, 0, 0, 0), (53, 2, 0, 0, 0)] L st σ := EB_eq 104 1 L st σ
theorem bk_104_2 {L : ev_L} {st : List ev_V} {σ : ev_M} : EB 104 2 L st σ = EO 104 [(56, 1, 0, 0, 0)] L st σ := EB_eq 104 2 L st σ
theorem mm_105 {x0 : Int} {σ : ev_M} : EM 105 [.inl x0] σ = EB 105 0 [some (.inl x0)] [] σ := by
  unfold EM ev_go
  exact if_pos (Nat.le_of_ble_eq_true rfl)
theorem bk_105_0 {L : ev_L} {st : List ev_V} {σ : ev_M} : EB 105 0 L st σ = EO 105 [(0, 0, 0, 0, 0), (6, 0, 0, 1, 0), (6, 1, 0, 99, 0), (60, 104, 3, 61, 0), (56, 1, 0, 0, 0)] L st σ := EB_eq 105 0 L st σ
theorem mm_106 {x0 : Int} {x1 : Int} {x2 : Int} {σ : ev_M} : EM 106 [.inl x0, .inl x1, .inl x2] σ = EB 106 0 [some (.inl x0), some (.inl x1), some (.inl x2)] [] σ := by
  unfold EM ev_go
  exact if_pos (Nat.le_of_ble_eq_true rfl)
theorem bk_106_0 {L : ev_L} {st : List ev_V} {σ : ev_M} : EB 106 0 L st σ = EO 106 [(0, 0, 0, 0, 0), (0, 1, 0, 0, 0), (42, 1, 0, 12, 0), (0, 0, 0, 0, 0), (0, 2, 0, 0, 0), (44, 1, 0, 7, 0), (6, 0, 0, 1, 0), (52, 2, 0, 4, 0)] L st σ := EB_eq 106 0 L st σ
theorem bk_106_1 {L : ev_L} {st : List ev_V} {σ : ev_M} : EB 106 1 L st σ = EO 106 [(6, 0, 0, 0, 0), (53, 2, 0, 0, 0)] L st σ := EB_eq 106 1 L st σ
theorem bk_106_2 {L : ev_L} {st : List ev_V} {σ : ev_M} : EB 106 2 L st σ = EO 106 [(56, 1, 0, 0, 0)] L st σ := EB_eq 106 2 L st σ
theorem mm_107 {i0 : Int} {x1 : Int} {x2 : Int} {σ : ev_M} : EM 107 [.inr (.inl i0), .inl x1, .inl x2] σ = EB 107 0 [some (.inr (.inl i0)), some (.inl x1), some (.inl x2), none] [] σ := by
  unfold EM ev_go
  exact if_pos (Nat.le_of_ble_eq_true rfl)
theorem bk_107_0 {L : ev_L} {st : List ev_V} {σ : ev_M} : EB 107 0 L st σ = EO 107 [(6, 0, 0, 0, 0), (3, 3, 0, 0, 0), (53, 1, 0, 0, 0)] L st σ := EB_eq 107 0 L st σ
theorem bk_107_1 {L : ev_L} {st : List ev_V} {σ : ev_M} : EB 107 1 L st σ = EO 107 [(0, 3, 0, 0, 0), (6, 2, 0, 338, 0), (43, 2, 0, 33, 0), (1, 0, 0, 0, 0), (28, 7, 11, 0, 1), (6, 2, 0, 338, 0), (0, 2, 0, 0, 0), (12, 0, 0, 0, 0), (0, 3, 0, 0, 0), (10, 0, 0, 0, 0), (1, 0, 0, 0, 0), (28, 7, 11, 0, 1), (6, 2, 0, 338, 0), (0, 1, 0, 0, 0), (12, 0, 0, 0, 0), (0, 3, 0, 0, 0), (10, 0, 0, 0, 0), (32, 0, 0, 0, 0), (33, 0, 0, 0, 0), (23, 3, 0, 1, 0), (52, 1, 0, (-34), 0)] L st σ := EB_eq 107 1 L st σ
theorem bk_107_2 {L : ev_L} {st : List ev_V} {σ : ev_M} : EB 107 2 L st σ = EO 107 [(58, 0, 0, 0, 0)] L st σ := EB_eq 107 2 L st σ
theorem mm_108 {i0 : Int} {σ : ev_M} : EM 108 [.inr (.inl i0)] σ = EB 108 0 [some (.inr (.inl i0)), none] [] σ := by
  unfold EM ev_go
  exact if_pos (Nat.le_of_ble_eq_true rfl)
theorem bk_108_0 {L : ev_L} {st : List ev_V} {σ : ev_M} : EB 108 0 L st σ = EO 108 [(6, 0, 0, 1, 0), (3, 1, 0, 0, 0), (53, 1, 0, 0, 0)] L st σ := EB_eq 108 0 L st σ
theorem bk_108_1 {L : ev_L} {st : List ev_V} {σ : ev_M} : EB 108 1 L st σ = EO 108 [(0, 1, 0, 0, 0), (6, 0, 0, 5, 0), (43, 2, 0, 25, 0), (1, 0, 0, 0, 0), (27, 35, 11, 1, 0), (6, 0, 0, 5, 0), (41, 2, 0, 17, 0), (1, 0, 0, 0, 0), (0, 1, 0, 0, 0), (6, 0, 0, 1, 0), (10, 0, 0, 0, 0), (0, 1, 0, 0, 0), (59, 107, 3, 39, 11), (23, 1, 0, 1, 0), (52, 1, 0, (-24), 0)] L st σ := EB_eq 108 1 L st σ
theorem bk_108_2 {L : ev_L} {st : List ev_V} {σ : ev_M} : EB 108 2 L st σ = EO 108 [(1, 0, 0, 0, 0), (24, 0, 0, 0, 0), (27, 35, 11, 1, 0), (1, 0, 0, 0, 0), (27, 35, 11, 1, 0), (6, 0, 0, 5, 0), (41, 3, 0, 7, 0), (6, 0, 0, 1, 0), (52, 4, 0, 4, 0)] L st σ := EB_eq 108 2 L st σ
theorem bk_108_3 {L : ev_L} {st : List ev_V} {σ : ev_M} : EB 108 3 L st σ = EO 108 [(6, 0, 0, 0, 0), (53, 4, 0, 0, 0)] L st σ := EB_eq 108 3 L st σ
theorem bk_108_4 {L : ev_L} {st : List ev_V} {σ : ev_M} : EB 108 4 L st σ = EO 108 [(11, 0, 0, 0, 0), (30, 35, 11, 1, 0), (1, 0, 0, 0, 0), (24, 0, 0, 0, 0), (27, 35, 11, 1, 0), (6, 0, 0, 1, 0), (10, 0, 0, 0, 0), (30, 35, 11, 1, 0), (1, 0, 0, 0, 0), (6, 0, 0, 0, 0), (1, 0, 0, 0, 0), (27, 35, 11, 1, 0), (59, 107, 3, 39, 11), (58, 0, 0, 0, 0)] L st σ := EB_eq 108 4 L st σ
theorem mm_109 {i0 : Int} {x1 : Int} {σ : ev_M} : EM 109 [.inr (.inl i0), .inl x1] σ = EB 109 0 [some (.inr (.inl i0)), some (.inl x1)] [] σ := by
  unfold EM ev_go
  exact if_pos (Nat.le_of_ble_eq_true rfl)
theorem bk_109_0 {L : ev_L} {st : List ev_V} {σ : ev_M} : EB 109 0 L st σ = EO 109 [(0, 1, 0, 0, 0), (6, 0, 0, 0, 0), (1, 0, 0, 0, 0), (28, 7, 11, 0, 1), (6, 0, 0, 0, 0), (32, 0, 0, 0, 0), (6, 0, 0, 1, 0), (11, 0, 0, 0, 0), (60, 106, 3, 43, 0), (56, 1, 0, 0, 0)] L st σ := EB_eq 109 0 L st σ
theorem mm_110 {i0 : Int} {x1 : Int} {σ : ev_M} : EM 110 [.inr (.inl i0), .inl x1] σ = EB 110 0 [some (.inr (.inl i0)), some (.inl x1)] [] σ := by
  unfold EM ev_go
  exact if_pos (Nat.le_of_ble_eq_true rfl)
theorem bk_110_0 {L : ev_L} {st : List ev_V} {σ : ev_M} : EB 110 0 L st σ = EO 110 [(0, 1, 0, 0, 0), (6, 0, 0, 0, 0), (1, 0, 0, 0, 0), (28, 7, 11, 0, 1), (6, 0, 0, 1, 0), (32, 0, 0, 0, 0), (6, 0, 0, 1, 0), (11, 0, 0, 0, 0), (60, 106, 3, 43, 0), (56, 1, 0, 0, 0)] L st σ := EB_eq 110 0 L st σ
theorem mm_111 {i0 : Int} {x1 : Int} {σ : ev_M} : EM 111 [.inr (.inl i0), .inl x1] σ = EB 111 0 [some (.inr (.inl i0)), some (.inl x1)] [] σ := by
  unfold EM ev_go
  exact if_pos (Nat.le_of_ble_eq_true rfl)
theorem bk_111_0 {L : ev_L} {st : List ev_V} {σ : ev_M} : EB 111 0 L st σ = EO 111 [(0, 1, 0, 0, 0), (6, 0, 0, 0, 0), (1, 0, 0, 0, 0), (28, 7, 11, 0, 1), (6, 0, 0, 2, 0), (32, 0, 0, 0, 0), (6, 0, 0, 1, 0), (11, 0, 0, 0, 0), (60, 106, 3, 43, 0), (56, 1, 0, 0, 0)] L st σ := EB_eq 111 0 L st σ
theorem mm_112 {i0 : Int} {x1 : Int} {x2 : Int} {σ : ev_M} : EM 112 [.inr (.inl i0), .inl x1, .inl x2] σ = EB 112 0 [some (.inr (.inl i0)), some (.inl x1), some (.inl x2)] [] σ := by
  unfold EM ev_go
  exact if_pos (Nat.le_of_ble_eq_true rfl)
theorem bk_112_0 {L : ev_L} {st : List ev_V} {σ : ev_M} : EB 112 0 L st σ = EO 112 [(1, 0, 0, 0, 0), (0, 1, 0, 0, 0), (59, 111, 2, 47, 11), (46, 1, 0, 23, 0), (0, 2, 0, 0, 0), (6, 0, 0, 0, 0), (1, 0, 0, 0, 0), (0, 1, 0, 0, 0), (6, 0, 0, 1, 0), (59, 114, 3, 51, 11), (6, 0, 0, 1, 0), (11, 0, 0, 0, 0), (60, 106, 3, 43, 0), (46, 1, 0, 7, 0), (6, 0, 0, 1, 0), (52, 2, 0, 4, 0)] L st σ := EB_eq 112 0 L st σ
theorem bk_112_1 {L : ev_L} {st : List ev_V} {σ : ev_M} : EB 112 1 L st σ = EO 112 [(6, 0, 0, 0, 0), (53, 2, 0, 0, 0)] L st σ := EB_eq 112 1 L st σ
theorem bk_112_2 {L : ev_L} {st : List ev_V} {σ : ev_M} : EB 112 2 L st σ = EO 112 [(56, 1, 0, 0, 0)] L st σ := EB_eq 112 2 L st σ
theorem mm_113 {i0 : Int} {x1 : Int} {x2 : Int} {σ : ev_M} : EM 113 [.inr (.inl i0), .inl x1, .inl x2] σ = EB 113 0 [some (.inr (.inl i0)), some (.inl x1), some (.inl x2)] [] σ := by
  unfold EM ev_go
  exact if_pos (Nat.le_of_ble_eq_true rfl)
theorem bk_113_0 {L : ev_L} {st : List ev_V} {σ : ev_M} : EB 113 0 L st σ = EO 113 [(1, 0, 0, 0, 0), (28, 7, 11, 0, 1), (6, 1, 0, 9, 0), (6, 0, 0, 4, 0), (0, 1, 0, 0, 0), (12, 0, 0, 0, 0), (10, 0, 0, 0, 0), (0, 2, 0, 0, 0), (10, 0, 0, 0, 0), (32, 0, 0, 0, 0), (56, 0, 0, 0, 0)] L st σ := EB_eq 113 0 L st σ
theorem mm_114 {i0 : Int} {x1 : Int} {x2 : Int} {σ : ev_M} : EM 114 [.inr (.inl i0), .inl x1, .inl x2] σ = EB 114 0 [some (.inr (.inl i0)), some (.inl x1), some (.inl x2)] [] σ := by
  unfold EM ev_go
  exact if_pos (Nat.le_of_ble_eq_true rfl)
theorem bk_114_0 {L : ev_L} {st : List ev_V} {σ : ev_M} : EB 114 0 L st σ = EO 114 [(1, 0, 0, 0, 0), (28, 7, 11, 0, 1), (6, 1, 0, 89, 0), (6, 0, 0, 5, 0), (0, 1, 0, 0, 0), (12, 0, 0, 0, 0), (10, 0, 0, 0, 0), (0, 2, 0, 0, 0), (10, 0, 0, 0, 0), (32, 0, 0, 0, 0), (56, 0, 0, 0, 0)] L st σ := EB_eq 114 0 L st σ
theorem mm_115 {i0 : Int} {x1 : Int} {x2 : Int} {x3 : Int} {σ : ev_M} : EM 115 [.inr (.inl i0), .inl x1, .inl x2, .inl x3] σ = EB 115 0 [some (.inr (.inl i0)), some (.inl x1), some (.inl x2), some (.inl x3)] [] σ := by
  unfold EM ev_go
  exact if_pos (Nat.le_of_ble_eq_true rfl)
theorem bk_115_0 {L : ev_L} {st : List ev_V} {σ : ev_M} : EB 115 0 L st σ = EO 115 [(1, 0, 0, 0, 0), (28, 7, 11, 0, 1), (6, 1, 0, 119, 0), (6, 1, 0, 30, 0), (0, 1, 0, 0, 0), (12, 0, 0, 0, 0), (10, 0, 0, 0, 0), (6, 0, 0, 5, 0), (0, 2, 0, 0, 0), (12, 0, 0, 0, 0), (10, 0, 0, 0, 0), (0, 3, 0, 0, 0), (10, 0, 0, 0, 0), (32, 0, 0, 0, 0), (56, 0, 0, 0, 0)] L st σ := EB_eq 115 0 L st σ
theorem mm_116 {i0 : Int} {x1 : Int} {x2 : Int} {x3 : Int} {x4 : Int} {σ : ev_M} : EM 116 [.inr (.inl i0), .inl x1, .inl x2, .inl x3, .inl x4] σ = EB 116 0 [some (.inr (.inl i0)), some (.inl x1), some (.inl x2), some (.inl x3), some (.inl x4)] [] σ := by
  unfold EM ev_go
  exact if_pos (Nat.le_of_ble_eq_true rfl)
theorem bk_116_0 {L : ev_L} {st : List ev_V} {σ : ev_M} : EB 116 0 L st σ = EO 116 [(1, 0, 0, 0, 0), (28, 7, 11, 0, 1), (6, 1, 0, 119, 0), (6, 1, 0, 30, 0), (0, 1, 0, 0, 0), (12, 0, 0, 0, 0), (10, 0, 0, 0, 0), (6, 0, 0, 5, 0), (0, 2, 0, 0, 0), (12, 0, 0, 0, 0), (10, 0, 0, 0, 0), (0, 3, 0, 0, 0), (10, 0, 0, 0, 0), (0, 4, 1, 0, 0), (33, 0, 0, 0, 0), (58, 0, 0, 0, 0)] L st σ := EB_eq 116 0 L st σ
theorem mm_117 {i0 : Int} {x1 : Int} {σ : ev_M} : EM 117 [.inr (.inl i0), .inl x1] σ = EB 117 0 [some (.inr (.inl i0)), some (.inl x1), none, none, none, none] [] σ := by
  unfold EM ev_go
  exact if_pos (Nat.le_of_ble_eq_true rfl)
theorem bk_117_0 {L : ev_L} {st : List ev_V} {σ : ev_M} : EB 117 0 L st σ = EO 117 [(1, 0, 0, 0, 0), (0, 1, 0, 0, 0), (6, 0, 0, 1, 0), (59, 114, 3, 51, 11), (6, 0, 0, 1, 0), (11, 0, 0, 0, 0), (3, 2, 0, 0, 0), (53, 1, 0, 0, 0)] L st σ := EB_eq 117 0 L st σ
theorem bk_117_1 {L : ev_L} {st : List ev_V} {σ : ev_M} : EB 117 1 L st σ = EO 117 [(0, 2, 0, 0, 0), (48, 12, 0, 130, 0), (1, 0, 0, 0, 0), (0, 1, 0, 0, 0), (0, 2, 0, 0, 0), (6, 0, 0, 4, 0), (59, 115, 4, 55, 11), (6, 1, 0, 64, 0), (15, 0, 0, 0, 0), (46, 2, 0, 8, 0), (6, 1, 0, 9, 0), (52, 3, 0, 4, 0)] L st σ := EB_eq 117 1 L st σ
theorem bk_117_2 {L : ev_L} {st : List ev_V} {σ : ev_M} : EB 117 2 L st σ = EO 117 [(6, 0, 0, 0, 0), (53, 3, 0, 0, 0)] L st σ := EB_eq 117 2 L st σ
theorem bk_117_3 {L : ev_L} {st : List ev_V} {σ : ev_M} : EB 117 3 L st σ = EO 117 [(3, 3, 0, 0, 0), (0, 2, 0, 0, 0), (6, 0, 0, 1, 0), (10, 0, 0, 0, 0), (3, 4, 1, 0, 0), (53, 4, 0, 0, 0)] L st σ := EB_eq 117 3 L st σ
theorem bk_117_4 {L : ev_L} {st : List ev_V} {σ : ev_M} : EB 117 4 L st σ = EO 117 [(0, 4, 1, 0, 0), (1, 0, 0, 0, 0), (0, 1, 0, 0, 0), (6, 0, 0, 1, 0), (59, 114, 3, 51, 11), (43, 9, 0, 60, 0), (1, 0, 0, 0, 0), (0, 1, 0, 0, 0), (0, 2, 0, 0, 0), (6, 0, 0, 4, 0), (59, 115, 4, 55, 11), (0, 4, 1, 0, 0), (19, 0, 0, 0, 0), (6, 0, 0, 1, 0), (15, 0, 0, 0, 0), (6, 0, 0, 1, 0), (41, 5, 0, 7, 0), (6, 0, 0, 1, 0), (52, 6, 0, 4, 0)] L st σ := EB_eq 117 4 L st σ
theorem bk_117_5 {L : ev_L} {st : List ev_V} {σ : ev_M} : EB 117 5 L st σ = EO 117 [(6, 0, 0, 0, 0), (53, 6, 0, 0, 0)] L st σ := EB_eq 117 5 L st σ
theorem bk_117_6 {L : ev_L} {st : List ev_V} {σ : ev_M} : EB 117 6 L st σ = EO 117 [(3, 5, 1, 0, 0), (0, 5, 1, 0, 0), (46, 7, 0, 24, 0), (1, 0, 0, 0, 0), (28, 16, 11, 3, 3), (0, 4, 1, 0, 0), (32, 0, 0, 0, 0), (0, 3, 0, 0, 0), (45, 7, 0, 13, 0), (1, 0, 0, 0, 0), (28, 16, 11, 3, 3), (0, 4, 1, 0, 0), (32, 0, 0, 0, 0), (52, 8, 0, 4, 0)] L st σ := EB_eq 117 6 L st σ
theorem bk_117_7 {L : ev_L} {st : List ev_V} {σ : ev_M} : EB 117 7 L st σ = EO 117 [(0, 3, 0, 0, 0), (53, 8, 0, 0, 0)] L st σ := EB_eq 117 7 L st σ
theorem bk_117_8 {L : ev_L} {st : List ev_V} {σ : ev_M} : EB 117 8 L st σ = EO 117 [(3, 3, 0, 0, 0), (23, 4, 0, 1, 0), (52, 4, 0, (-65), 0)] L st σ := EB_eq 117 8 L st σ
theorem bk_117_9 {L : ev_L} {st : List ev_V} {σ : ev_M} : EB 117 9 L st σ = EO 117 [(1, 0, 0, 0, 0), (28, 16, 11, 3, 3), (0, 2, 0, 0, 0), (0, 3, 0, 0, 0), (1, 0, 0, 0, 0), (0, 1, 0, 0, 0), (0, 2, 0, 0, 0), (6, 0, 0, 1, 0), (59, 115, 4, 55, 11), (43, 10, 0, 7, 0), (0, 3, 0, 0, 0), (52, 11, 0, 10, 0)] L st σ := EB_eq 117 9 L st σ
theorem bk_117_10 {L : ev_L} {st : List ev_V} {σ : ev_M} : EB 117 10 L st σ = EO 117 [(1, 0, 0, 0, 0), (0, 1, 0, 0, 0), (0, 2, 0, 0, 0), (6, 0, 0, 1, 0), (59, 115, 4, 55, 11), (53, 11, 0, 0, 0)] L st σ := EB_eq 117 10 L st σ
theorem bk_117_11 {L : ev_L} {st : List ev_V} {σ : ev_M} : EB 117 11 L st σ = EO 117 [(33, 0, 0, 0, 0), (23, 2, 0, (-1), 0), (52, 1, 0, (-128), 0)] L st σ := EB_eq 117 11 L st σ
theorem bk_117_12 {L : ev_L} {st : List ev_V} {σ : ev_M} : EB 117 12 L st σ = EO 117 [(1, 0, 0, 0, 0), (0, 1, 0, 0, 0), (6, 0, 0, 1, 0), (59, 114, 3, 51, 11), (47, 13, 0, 7, 0), (6, 0, 0, 0, 0), (52, 14, 0, 9, 0)] L st σ := EB_eq 117 12 L st σ
theorem bk_117_13 {L : ev_L} {st : List ev_V} {σ : ev_M} : EB 117 13 L st σ = EO 117 [(1, 0, 0, 0, 0), (28, 16, 11, 3, 3), (6, 0, 0, 0, 0), (32, 0, 0, 0, 0), (53, 14, 0, 0, 0)] L st σ := EB_eq 117 13 L st σ
theorem bk_117_14 {L : ev_L} {st : List ev_V} {σ : ev_M} : EB 117 14 L st σ = EO 117 [(56, 0, 0, 0, 0)] L st σ := EB_eq 117 14 L st σ
theorem mm_118 {i0 : Int} {x1 : Int} {σ : ev_M} : EM 118 [.inr (.inl i0), .inl x1] σ = EB 118 0 [some (.inr (.inl i0)), some (.inl x1), none] [] σ := by
  unfold EM ev_go
  exact if_pos (Nat.le_of_ble_eq_true rfl)
theorem bk_118_0 {L : ev_L} {st : List ev_V} {σ : ev_M} : EB 118 0 L st σ = EO 118 [(1, 0, 0, 0, 0), (0, 1, 0, 0, 0), (6, 0, 0, 2, 0), (59, 114, 3, 51, 11), (3, 2, 0, 0, 0), (1, 0, 0, 0, 0), (0, 1, 0, 0, 0), (6, 0, 0, 3, 0), (59, 114, 3, 51, 11), (0, 2, 0, 0, 0), (6, 1, 0, 6, 0), (45, 1, 0, 7, 0), (6, 0, 0, 4, 0), (52, 3, 0, 13, 0)] L st σ := EB_eq 118 0 L st σ
theorem bk_118_1 {L : ev_L} {st : List ev_V} {σ : ev_M} : EB 118 1 L st σ = EO 118 [(0, 2, 0, 0, 0), (6, 0, 0, 4, 0), (45, 2, 0, 7, 0), (6, 0, 0, 2, 0), (52, 3, 0, 4, 0)] L st σ := EB_eq 118 1 L st σ
theorem bk_118_2 {L : ev_L} {st : List ev_V} {σ : ev_M} : EB 118 2 L st σ = EO 118 [(6, 0, 0, 1, 0), (53, 3, 0, 0, 0)] L st σ := EB_eq 118 2 L st σ
theorem bk_118_3 {L : ev_L} {st : List ev_V} {σ : ev_M} : EB 118 3 L st σ = EO 118 [(10, 0, 0, 0, 0), (56, 0, 0, 0, 0)] L st σ := EB_eq 118 3 L st σ
theorem mm_119 {i0 : Int} {x1 : Int} {σ : ev_M} : EM 119 [.inr (.inl i0), .inl x1] σ = EB 119 0 [some (.inr (.inl i0)), some (.inl x1)] [] σ := by
  unfold EM ev_go
  exact if_pos (Nat.le_of_ble_eq_true rfl)
theorem bk_119_0 {L : ev_L} {st : List ev_V} {σ : ev_M} : EB 119 0 L st σ = EO 119 [(1, 0, 0, 0, 0), (28, 7, 11, 0, 1), (6, 0, 0, 5, 0), (32, 0, 0, 0, 0), (1, 0, 0, 0, 0), (0, 1, 0, 0, 0), (59, 118, 2, 59, 11), (42, 1, 0, 7, 0), (6, 0, 0, 1, 0), (52, 2, 0, 4, 0)] L st σ := EB_eq 119 0 L st σ
theorem bk_119_1 {L : ev_L} {st : List ev_V} {σ : ev_M} : EB 119 1 L st σ = EO 119 [(6, 0, 0, 0, 0), (53, 2, 0, 0, 0)] L st σ := EB_eq 119 1 L st σ
theorem bk_119_2 {L : ev_L} {st : List ev_V} {σ : ev_M} : EB 119 2 L st σ = EO 119 [(56, 1, 0, 0, 0)] L st σ := EB_eq 119 2 L st σ
theorem mm_120 {i0 : Int} {x1 : Int} {σ : ev_M} : EM 120 [.inr (.inl i0), .inl x1] σ = EB 120 0 [some (.inr (.inl i0)), some (.inl x1)] [] σ := by
  unfold EM ev_go
  exact if_pos (Nat.le_of_ble_eq_true rfl)
theorem bk_120_0 {L : ev_L} {st : List ev_V} {σ : ev_M} : EB 120 0 L st σ = EO 120 [(1, 0, 0, 0, 0), (0, 1, 0, 0, 0), (6, 0, 0, 4, 0), (59, 114, 3, 51, 11), (6, 0, 0, 1, 0), (41, 1, 0, 7, 0), (6, 0, 0, 0, 0), (52, 2, 0, 14, 0)] L st σ := EB_eq 120 0 L st σ
theorem bk_120_1 {L : ev_L} {st : List ev_V} {σ : ev_M} : EB 120 1 L st σ = EO 120 [(1, 0, 0, 0, 0), (28, 13, 11, 2, 2), (1, 0, 0, 0, 0), (0, 1, 0, 0, 0), (6, 0, 0, 2, 0), (59, 114, 3, 51, 11), (32, 0, 0, 0, 0), (53, 2, 0, 0, 0)] L st σ := EB_eq 120 1 L st σ
theorem bk_120_2 {L : ev_L} {st : List ev_V} {σ : ev_M} : EB 120 2 L st σ = EO 120 [(56, 0, 0, 0, 0)] L st σ := EB_eq 120 2 L st σ
theorem mm_121 {i0 : Int} {x1 : Int} {σ : ev_M} : EM 121 [.inr (.inl i0), .inl x1] σ = EB 121 0 [some (.inr (.inl i0)), some (.inl x1)] [] σ := by
  unfold EM ev_go
  exact if_pos (Nat.le_of_ble_eq_true rfl)
theorem bk_121_0 {L : ev_L} {st : List ev_V} {σ : ev_M} : EB 121 0 L st σ = EO 121 [(0, 1, 0, 0, 0), (6, 0, 0, 1, 0), (6, 1, 0, 10, 0), (60, 106, 3, 43, 0), (47, 1, 0, 6, 0), (6, 1, 0, (-3), 0), (56, 0, 0, 0, 0)] L st σ := EB_eq 121 0 L st σ
theorem bk_121_1 {L : ev_L} {st : List ev_V} {σ : ev_M} : EB 121 1 L st σ = EO 121 [(1, 0, 0, 0, 0), (28, 7, 11, 0, 1), (6, 0, 0, 0, 0), (32, 0, 0, 0, 0), (0, 1, 0, 0, 0), (10, 0, 0, 0, 0), (6, 1, 0, 10, 0), (45, 2, 0, 6, 0), (6, 1, 0, (-5), 0), (56, 0, 0, 0, 0)] L st σ := EB_eq 121 1 L st σ
theorem bk_121_2 {L : ev_L} {st : List ev_V} {σ : ev_M} : EB 121 2 L st σ = EO 121 [(1, 0, 0, 0, 0), (59, 108, 1, 63, 11), (1, 0, 0, 0, 0), (28, 7, 11, 0, 1), (6, 0, 0, 0, 0), (25, 0, 0, 0, 0), (32, 0, 0, 0, 0), (0, 1, 0, 0, 0), (10, 0, 0, 0, 0), (33, 0, 0, 0, 0), (1, 0, 0, 0, 0), (28, 7, 11, 0, 1), (6, 0, 0, 0, 0), (32, 0, 0, 0, 0), (56, 0, 0, 0, 0)] L st σ := EB_eq 121 2 L st σ
theorem mm_122 {i0 : Int} {x1 : Int} {x2 : Int} {x3 : Int} {σ : ev_M} : EM 122 [.inr (.inl i0), .inl x1, .inl x2, .inl x3] σ = EB 122 0 [some (.inr (.inl i0)), some (.inl x1), some (.inl x2), some (.inl x3), none] [] σ := by
  unfold EM ev_go
  exact if_pos (Nat.le_of_ble_eq_true rfl)
theorem bk_122_0 {L : ev_L} {st : List ev_V} {σ : ev_M} : EB 122 0 L st σ = EO 122 [(6, 1, 0, 9, 0), (6, 0, 0, 4, 0), (1, 0, 0, 0, 0), (28, 7, 11, 0, 1), (6, 0, 0, 1, 0), (32, 0, 0, 0, 0), (12, 0, 0, 0, 0), (10, 0, 0, 0, 0), (3, 4, 1, 0, 0), (1, 0, 0, 0, 0), (28, 7, 11, 0, 1), (0, 4, 1, 0, 0), (0, 1, 0, 0, 0), (33, 0, 0, 0, 0), (1, 0, 0, 0, 0), (28, 7, 11, 0, 1), (0, 4, 1, 0, 0), (6, 0, 0, 1, 0), (10, 0, 0, 0, 0), (0, 2, 0, 0, 0), (33, 0, 0, 0, 0), (1, 0, 0, 0, 0), (28, 7, 11, 0, 1), (0, 4, 1, 0, 0), (6, 0, 0, 2, 0), (10, 0, 0, 0, 0), (0, 3, 0, 0, 0), (33, 0, 0, 0, 0), (1, 0, 0, 0, 0), (28, 7, 11, 0, 1), (0, 4, 1, 0, 0), (6, 0, 0, 3, 0), (10, 0, 0, 0, 0), (6, 0, 0, (-1), 0), (33, 0, 0, 0, 0), (1, 0, 0, 0, 0), (28, 7, 11, 0, 1), (6, 0, 0, 1, 0), (25, 0, 0, 0, 0), (32, 0, 0, 0, 0), (6, 0, 0, 1, 0), (10, 0, 0, 0, 0), (33, 0, 0, 0, 0), (58, 0, 0, 0, 0)] L st σ := EB_eq 122 0 L st σ
theorem mm_123 {i0 : Int} {x1 : Int} {σ : ev_M} : EM 123 [.inr (.inl i0), .inl x1] σ = EB 123 0 [some (.inr (.inl i0)), some (.inl x1), none] [] σ := by
  unfold EM ev_go
  exact if_pos (Nat.le_of_ble_eq_true rfl)
theorem bk_123_0 {L : ev_L} {st : List ev_V} {σ : ev_M} : EB 123 0 L st σ = EO 123 [(6, 1, 0, 89, 0), (6, 0, 0, 5, 0), (1, 0, 0, 0, 0), (28, 7, 11, 0, 1), (6, 0, 0, 2, 0), (32, 0, 0, 0, 0), (12, 0, 0, 0, 0), (10, 0, 0, 0, 0), (3, 2, 0, 0, 0), (1, 0, 0, 0, 0), (28, 7, 11, 0, 1), (0, 2, 0, 0, 0), (6, 0, 0, 0, 0), (10, 0, 0, 0, 0), (0, 1, 0, 0, 0), (33, 0, 0, 0, 0), (1, 0, 0, 0, 0), (28, 7, 11, 0, 1), (0, 2, 0, 0, 0), (6, 0, 0, 1, 0), (10, 0, 0, 0, 0), (6, 0, 0, 0, 0), (33, 0, 0, 0, 0), (1, 0, 0, 0, 0), (28, 7, 11, 0, 1), (0, 2, 0, 0, 0), (6, 0, 0, 2, 0), (10, 0, 0, 0, 0), (6, 0, 0, 0, 0), (33, 0, 0, 0, 0), (1, 0, 0, 0, 0), (28, 7, 11, 0, 1), (0, 2, 0, 0, 0), (6, 0, 0, 3, 0), (10, 0, 0, 0, 0), (1, 0, 0, 0, 0), (28, 7, 11, 0, 1), (6, 0, 0, 5, 0), (32, 0, 0, 0, 0), (33, 0, 0, 0, 0), (1, 0, 0, 0, 0), (28, 7, 11, 0, 1), (0, 2, 0, 0, 0), (6, 0, 0, 4, 0), (10, 0, 0, 0, 0), (6, 0, 0, 0, 0), (33, 0, 0, 0, 0), (1, 0, 0, 0, 0), (28, 7, 11, 0, 1), (6, 1, 0, 9, 0), (6, 0, 0, 4, 0), (0, 1, 0, 0, 0), (12, 0, 0, 0, 0), (10, 0, 0, 0, 0), (6, 0, 0, 3, 0), (10, 0, 0, 0, 0), (1, 0, 0, 0, 0), (28, 7, 11, 0, 1), (6, 0, 0, 2, 0), (32, 0, 0, 0, 0), (33, 0, 0, 0, 0), (1, 0, 0, 0, 0), (28, 7, 11, 0, 1), (6, 0, 0, 2, 0), (25, 0, 0, 0, 0), (32, 0, 0, 0, 0), (6, 0, 0, 1, 0), (10, 0, 0, 0, 0), (33, 0, 0, 0, 0), (58, 0, 0, 0, 0)] L st σ := EB_eq 123 0 L st σ
theorem mm_124 {i0 : Int} {x1 : Int} {x2 : Int} {x3 : Int} {σ : ev_M} : EM 124 [.inr (.inl i0), .inl x1, .inl x2, .inl x3] σ = EB 124 0 [some (.inr (.inl i0)), some (.inl x1), some (.inl x2), some (.inl x3)] [] σ := by
  unfold EM ev_go
  exact if_pos (Nat.le_of_ble_eq_true rfl)
theorem bk_124_0 {L : ev_L} {st : List ev_V} {σ : ev_M} : EB 124 0 L st σ = EO 124 [(1, 0, 0, 0, 0), (0, 1, 0, 0, 0), (59, 109, 2, 66, 11), (46, 1, 0, 11, 0), (1, 0, 0, 0, 0), (0, 2, 0, 0, 0), (59, 109, 2, 66, 11), (47, 2, 0, 6, 0), (53, 1, 0, 0, 0)] L st σ := EB_eq 124 0 L st σ
theorem bk_124_1 {L : ev_L} {st : List ev_V} {σ : ev_M} : EB 124 1 L st σ = EO 124 [(6, 1, 0, (-2), 0), (56, 0, 0, 0, 0)] L st σ := EB_eq 124 1 L st σ
theorem bk_124_2 {L : ev_L} {st : List ev_V} {σ : ev_M} : EB 124 2 L st σ = EO 124 [(0, 1, 0, 0, 0), (0, 2, 0, 0, 0), (40, 3, 0, 13, 0), (0, 3, 0, 0, 0), (6, 0, 0, 1, 0), (6, 1, 0, 99, 0), (60, 106, 3, 43, 0), (47, 4, 0, 6, 0), (53, 3, 0, 0, 0)] L st σ := EB_eq 124 2 L st σ
theorem bk_124_3 {L : ev_L} {st : List ev_V} {σ : ev_M} : EB 124 3 L st σ = EO 124 [(6, 1, 0, (-3), 0), (56, 0, 0, 0, 0)] L st σ := EB_eq 124 3 L st σ
theorem bk_124_4 {L : ev_L} {st : List ev_V} {σ : ev_M} : EB 124 4 L st σ = EO 124 [(1, 0, 0, 0, 0), (28, 7, 11, 0, 1), (6, 0, 0, 1, 0), (32, 0, 0, 0, 0), (6, 1, 0, 20, 0), (41, 5, 0, 6, 0), (6, 1, 0, (-5), 0), (56, 0, 0, 0, 0)] L st σ := EB_eq 124 4 L st σ
theorem bk_124_5 {L : ev_L} {st : List ev_V} {σ : ev_M} : EB 124 5 L st σ = EO 124 [(1, 0, 0, 0, 0), (59, 108, 1, 63, 11), (1, 0, 0, 0, 0), (0, 1, 0, 0, 0), (0, 2, 0, 0, 0), (0, 3, 0, 0, 0), (59, 122, 4, 69, 11), (1, 0, 0, 0, 0), (28, 7, 11, 0, 1), (6, 0, 0, 1, 0), (32, 0, 0, 0, 0), (6, 0, 0, 1, 0), (11, 0, 0, 0, 0), (56, 0, 0, 0, 0)] L st σ := EB_eq 124 5 L st σ
theorem mm_125 {i0 : Int} {x1 : Int} {σ : ev_M} : EM 125 [.inr (.inl i0), .inl x1] σ = EB 125 0 [some (.inr (.inl i0)), some (.inl x1)] [] σ := by
  unfold EM ev_go
  exact if_pos (Nat.le_of_ble_eq_true rfl)
theorem bk_125_0 {L : ev_L} {st : List ev_V} {σ : ev_M} : EB 125 0 L st σ = EO 125 [(1, 0, 0, 0, 0), (0, 1, 0, 0, 0), (59, 110, 2, 73, 11), (47, 1, 0, 6, 0), (6, 1, 0, (-2), 0), (56, 0, 0, 0, 0)] L st σ := EB_eq 125 0 L st σ
theorem bk_125_1 {L : ev_L} {st : List ev_V} {σ : ev_M} : EB 125 1 L st σ = EO 125 [(1, 0, 0, 0, 0), (0, 1, 0, 0, 0), (6, 0, 0, 3, 0), (59, 113, 3, 76, 11), (6, 0, 0, (-1), 0), (40, 2, 0, 6, 0), (6, 1, 0, (-4), 0), (56, 0, 0, 0, 0)] L st σ := EB_eq 125 1 L st σ
theorem bk_125_2 {L : ev_L} {st : List ev_V} {σ : ev_M} : EB 125 2 L st σ = EO 125 [(1, 0, 0, 0, 0), (28, 7, 11, 0, 1), (6, 0, 0, 2, 0), (32, 0, 0, 0, 0), (6, 1, 0, 6, 0), (41, 3, 0, 6, 0), (6, 1, 0, (-5), 0), (56, 0, 0, 0, 0)] L st σ := EB_eq 125 2 L st σ
theorem bk_125_3 {L : ev_L} {st : List ev_V} {σ : ev_M} : EB 125 3 L st σ = EO 125 [(1, 0, 0, 0, 0), (59, 108, 1, 63, 11), (1, 0, 0, 0, 0), (0, 1, 0, 0, 0), (59, 123, 2, 79, 11), (1, 0, 0, 0, 0), (28, 7, 11, 0, 1), (6, 0, 0, 2, 0), (32, 0, 0, 0, 0), (6, 0, 0, 1, 0), (11, 0, 0, 0, 0), (56, 0, 0, 0, 0)] L st σ := EB_eq 125 3 L st σ
theorem mm_126 {i0 : Int} {x1 : Int} {x2 : Int} {x3 : Int} {x4 : Int} {σ : ev_M} : EM 126 [.inr (.inl i0), .inl x1, .inl x2, .inl x3, .inl x4] σ = EB 126 0 [some (.inr (.inl i0)), some (.inl x1), some (.inl x2), some (.inl x3), some (.inl x4), none] [] σ := by
  unfold EM ev_go
  exact if_pos (Nat.le_of_ble_eq_true rfl)
theorem bk_126_0 {L : ev_L} {st : List ev_V} {σ : ev_M} : EB 126 0 L st σ = EO 126 [(1, 0, 0, 0, 0), (0, 1, 0, 0, 0), (59, 111, 2, 47, 11), (47, 1, 0, 6, 0), (6, 1, 0, (-2), 0), (56, 0, 0, 0, 0)] L st σ := EB_eq 126 0 L st σ
theorem bk_126_1 {L : ev_L} {st : List ev_V} {σ : ev_M} : EB 126 1 L st σ = EO 126 [(0, 2, 0, 0, 0), (6, 0, 0, 0, 0), (6, 0, 0, 3, 0), (60, 106, 3, 43, 0), (46, 2, 0, 24, 0), (0, 3, 0, 0, 0), (6, 0, 0, 0, 0), (6, 1, 0, 9, 0), (60, 106, 3, 43, 0), (46, 2, 0, 14, 0), (0, 4, 1, 0, 0), (6, 0, 0, 0, 0), (6, 1, 0, 60, 0), (60, 106, 3, 43, 0), (47, 3, 0, 6, 0), (53, 2, 0, 0, 0)] L st σ := EB_eq 126 1 L st σ
theorem bk_126_2 {L : ev_L} {st : List ev_V} {σ : ev_M} : EB 126 2 L st σ = EO 126 [(6, 1, 0, (-3), 0), (56, 0, 0, 0, 0)] L st σ := EB_eq 126 2 L st σ
theorem bk_126_3 {L : ev_L} {st : List ev_V} {σ : ev_M} : EB 126 3 L st σ = EO 126 [(1, 0, 0, 0, 0), (0, 1, 0, 0, 0), (6, 0, 0, 1, 0), (59, 114, 3, 51, 11), (6, 1, 0, 6, 0), (41, 4, 0, 6, 0), (6, 1, 0, (-5), 0), (56, 0, 0, 0, 0)] L st σ := EB_eq 126 3 L st σ
theorem bk_126_4 {L : ev_L} {st : List ev_V} {σ : ev_M} : EB 126 4 L st σ = EO 126 [(1, 0, 0, 0, 0), (59, 108, 1, 63, 11), (1, 0, 0, 0, 0), (0, 1, 0, 0, 0), (6, 0, 0, 1, 0), (59, 114, 3, 51, 11), (3, 5, 1, 0, 0), (1, 0, 0, 0, 0), (0, 1, 0, 0, 0), (0, 5, 1, 0, 0), (6, 0, 0, 0, 0), (0, 2, 0, 0, 0), (59, 116, 5, 83, 11), (1, 0, 0, 0, 0), (0, 1, 0, 0, 0), (0, 5, 1, 0, 0), (6, 0, 0, 1, 0), (0, 3, 0, 0, 0), (59, 116, 5, 83, 11), (1, 0, 0, 0, 0), (0, 1, 0, 0, 0), (0, 5, 1, 0, 0), (6, 0, 0, 2, 0), (6, 0, 0, 0, 0), (59, 116, 5, 83, 11), (1, 0, 0, 0, 0), (0, 1, 0, 0, 0), (0, 5, 1, 0, 0), (6, 0, 0, 3, 0), (0, 4, 1, 0, 0), (59, 116, 5, 83, 11), (1, 0, 0, 0, 0), (0, 1, 0, 0, 0), (0, 5, 1, 0, 0), (6, 0, 0, 4, 0), (6, 0, 0, 0, 0), (59, 116, 5, 83, 11), (1, 0, 0, 0, 0), (28, 7, 11, 0, 1), (6, 1, 0, 89, 0), (6, 0, 0, 5, 0), (0, 1, 0, 0, 0), (12, 0, 0, 0, 0), (10, 0, 0, 0, 0), (6, 0, 0, 1, 0), (10, 0, 0, 0, 0), (25, 0, 0, 0, 0), (32, 0, 0, 0, 0), (6, 0, 0, 1, 0), (10, 0, 0, 0, 0), (33, 0, 0, 0, 0), (0, 5, 1, 0, 0), (56, 0, 0, 0, 0)] L st σ := EB_eq 126 4 L st σ
theorem mm_127 {i0 : Int} {x1 : Int} {x2 : Int} {x3 : Int} {σ : ev_M} : EM 127 [.inr (.inl i0), .inl x1, .inl x2, .inl x3] σ = EB 127 0 [some (.inr (.inl i0)), some (.inl x1), some (.inl x2), some (.inl x3), none] [] σ := by
  unfold EM ev_go
  exact if_pos (Nat.le_of_ble_eq_true rfl)
theorem bk_127_0 {L : ev_L} {st : List ev_V} {σ : ev_M} : EB 127 0 L st σ = EO 127 [(1, 0, 0, 0, 0), (0, 1, 0, 0, 0), (0, 2, 0, 0, 0), (59, 112, 3, 87, 11), (46, 1, 0, 17, 0), (0, 3, 0, 0, 0), (6, 0, 0, (-1), 0), (40, 2, 0, 15, 0), (1, 0, 0, 0, 0), (0, 1, 0, 0, 0), (0, 3, 0, 0, 0), (59, 112, 3, 87, 11), (47, 2, 0, 6, 0), (53, 1, 0, 0, 0)] L st σ := EB_eq 127 0 L st σ
theorem bk_127_1 {L : ev_L} {st : List ev_V} {σ : ev_M} : EB 127 1 L st σ = EO 127 [(6, 1, 0, (-2), 0), (56, 0, 0, 0, 0)] L st σ := EB_eq 127 1 L st σ
theorem bk_127_2 {L : ev_L} {st : List ev_V} {σ : ev_M} : EB 127 2 L st σ = EO 127 [(0, 3, 0, 0, 0), (6, 0, 0, (-1), 0), (40, 3, 0, 11, 0), (0, 3, 0, 0, 0), (0, 2, 0, 0, 0), (44, 3, 0, 6, 0), (6, 1, 0, (-3), 0), (56, 0, 0, 0, 0)] L st σ := EB_eq 127 2 L st σ
theorem bk_127_3 {L : ev_L} {st : List ev_V} {σ : ev_M} : EB 127 3 L st σ = EO 127 [(1, 0, 0, 0, 0), (59, 108, 1, 63, 11), (0, 3, 0, 0, 0), (6, 0, 0, (-1), 0), (41, 4, 0, 8, 0), (6, 1, 0, 64, 0), (52, 5, 0, 6, 0)] L st σ := EB_eq 127 3 L st σ
theorem bk_127_4 {L : ev_L} {st : List ev_V} {σ : ev_M} : EB 127 4 L st σ = EO 127 [(6, 0, 0, 1, 0), (0, 3, 0, 0, 0), (18, 0, 0, 0, 0), (53, 5, 0, 0, 0)] L st σ := EB_eq 127 4 L st σ
theorem bk_127_5 {L : ev_L} {st : List ev_V} {σ : ev_M} : EB 127 5 L st σ = EO 127 [(3, 4, 1, 0, 0), (1, 0, 0, 0, 0), (0, 1, 0, 0, 0), (0, 2, 0, 0, 0), (6, 0, 0, 4, 0), (1, 0, 0, 0, 0), (0, 1, 0, 0, 0), (0, 2, 0, 0, 0), (6, 0, 0, 4, 0), (59, 115, 4, 55, 11), (0, 4, 1, 0, 0), (17, 0, 0, 0, 0), (59, 116, 5, 83, 11), (1, 0, 0, 0, 0), (0, 1, 0, 0, 0), (0, 2, 0, 0, 0), (6, 0, 0, 4, 0), (59, 115, 4, 55, 11), (0, 4, 1, 0, 0), (15, 0, 0, 0, 0), (46, 6, 0, 7, 0), (6, 0, 0, 1, 0), (52, 7, 0, 4, 0)] L st σ := EB_eq 127 5 L st σ
theorem bk_127_6 {L : ev_L} {st : List ev_V} {σ : ev_M} : EB 127 6 L st σ = EO 127 [(6, 0, 0, 0, 0), (53, 7, 0, 0, 0)] L st σ := EB_eq 127 6 L st σ
theorem bk_127_7 {L : ev_L} {st : List ev_V} {σ : ev_M} : EB 127 7 L st σ = EO 127 [(56, 0, 0, 0, 0)] L st σ := EB_eq 127 7 L st σ
theorem mm_128 {i0 : Int} {x1 : Int} {x2 : Int} {x3 : Int} {σ : ev_M} : EM 128 [.inr (.inl i0), .inl x1, .inl x2, .inl x3] σ = EB 128 0 [some (.inr (.inl i0)), some (.inl x1), some (.inl x2), some (.inl x3), none] [] σ := by
  unfold EM ev_go
  exact if_pos (Nat.le_of_ble_eq_true rfl)
theorem bk_128_0 {L : ev_L} {st : List ev_V} {σ : ev_M} : EB 128 0 L st σ = EO 128 [(1, 0, 0, 0, 0), (0, 1, 0, 0, 0), (0, 2, 0, 0, 0), (59, 112, 3, 87, 11), (47, 1, 0, 6, 0), (6, 1, 0, (-2), 0), (56, 0, 0, 0, 0)] L st σ := EB_eq 128 0 L st σ
theorem bk_128_1 {L : ev_L} {st : List ev_V} {σ : ev_M} : EB 128 1 L st σ = EO 128 [(0, 3, 0, 0, 0), (6, 0, 0, 0, 0), (6, 1, 0, 9, 0), (60, 106, 3, 43, 0), (47, 2, 0, 6, 0), (6, 1, 0, (-3), 0), (56, 0, 0, 0, 0)] L st σ := EB_eq 128 1 L st σ
theorem bk_128_2 {L : ev_L} {st : List ev_V} {σ : ev_M} : EB 128 2 L st σ = EO 128 [(1, 0, 0, 0, 0), (59, 108, 1, 63, 11), (1, 0, 0, 0, 0), (0, 1, 0, 0, 0), (0, 2, 0, 0, 0), (6, 0, 0, 1, 0), (59, 115, 4, 55, 11), (3, 4, 1, 0, 0), (1, 0, 0, 0, 0), (0, 1, 0, 0, 0), (0, 2, 0, 0, 0), (6, 0, 0, 1, 0), (0, 3, 0, 0, 0), (59, 116, 5, 83, 11), (1, 0, 0, 0, 0), (0, 1, 0, 0, 0), (0, 2, 0, 0, 0), (6, 0, 0, 2, 0), (6, 0, 0, 0, 0), (59, 116, 5, 83, 11), (0, 4, 1, 0, 0), (56, 0, 0, 0, 0)] L st σ := EB_eq 128 2 L st σ
theorem mm_129 {i0 : Int} {x1 : Int} {x2 : Int} {σ : ev_M} : EM 129 [.inr (.inl i0), .inl x1, .inl x2] σ = EB 129 0 [some (.inr (.inl i0)), some (.inl x1), some (.inl x2), none] [] σ := by
  unfold EM ev_go
  exact if_pos (Nat.le_of_ble_eq_true rfl)
theorem bk_129_0 {L : ev_L} {st : List ev_V} {σ : ev_M} : EB 129 0 L st σ = EO 129 [(1, 0, 0, 0, 0), (0, 1, 0, 0, 0), (59, 111, 2, 47, 11), (47, 1, 0, 6, 0), (6, 1, 0, (-2), 0), (56, 0, 0, 0, 0)] L st σ := EB_eq 129 0 L st σ
theorem bk_129_1 {L : ev_L} {st : List ev_V} {σ : ev_M} : EB 129 1 L st σ = EO 129 [(1, 0, 0, 0, 0), (59, 108, 1, 63, 11), (1, 0, 0, 0, 0), (0, 1, 0, 0, 0), (6, 0, 0, 4, 0), (59, 114, 3, 51, 11), (3, 3, 0, 0, 0), (1, 0, 0, 0, 0), (28, 7, 11, 0, 1), (6, 1, 0, 89, 0), (6, 0, 0, 5, 0), (0, 1, 0, 0, 0), (12, 0, 0, 0, 0), (10, 0, 0, 0, 0), (6, 0, 0, 4, 0), (10, 0, 0, 0, 0), (0, 2, 0, 0, 0), (46, 2, 0, 7, 0), (6, 0, 0, 1, 0), (52, 3, 0, 4, 0)] L st σ := EB_eq 129 1 L st σ
theorem bk_129_2 {L : ev_L} {st : List ev_V} {σ : ev_M} : EB 129 2 L st σ = EO 129 [(6, 0, 0, 0, 0), (53, 3, 0, 0, 0)] L st σ := EB_eq 129 2 L st σ
theorem bk_129_3 {L : ev_L} {st : List ev_V} {σ : ev_M} : EB 129 3 L st σ = EO 129 [(33, 0, 0, 0, 0), (0, 3, 0, 0, 0), (56, 0, 0, 0, 0)] L st σ := EB_eq 129 3 L st σ
theorem mm_130 {i0 : Int} {x1 : Int} {σ : ev_M} : EM 130 [.inr (.inl i0), .inl x1] σ = EB 130 0 [some (.inr (.inl i0)), some (.inl x1), none, none] [] σ := by
  unfold EM ev_go
  exact if_pos (Nat.le_of_ble_eq_true rfl)
theorem bk_130_0 {L : ev_L} {st : List ev_V} {σ : ev_M} : EB 130 0 L st σ = EO 130 [(0, 1, 0, 0, 0), (6, 1, 0, 9, 0), (43, 1, 0, 10, 0), (1, 0, 0, 0, 0), (28, 7, 11, 0, 1), (0, 1, 0, 0, 0), (32, 0, 0, 0, 0), (56, 0, 0, 0, 0)] L st σ := EB_eq 130 0 L st σ
theorem bk_130_1 {L : ev_L} {st : List ev_V} {σ : ev_M} : EB 130 1 L st σ = EO 130 [(6, 0, 0, 0, 0), (3, 2, 0, 0, 0), (6, 0, 0, 0, 0), (3, 3, 0, 0, 0), (53, 2, 0, 0, 0)] L st σ := EB_eq 130 1 L st σ
theorem bk_130_2 {L : ev_L} {st : List ev_V} {σ : ev_M} : EB 130 2 L st σ = EO 130 [(0, 3, 0, 0, 0), (1, 0, 0, 0, 0), (28, 7, 11, 0, 1), (6, 0, 0, 2, 0), (32, 0, 0, 0, 0), (43, 7, 0, 51, 0), (0, 2, 0, 0, 0), (0, 1, 0, 0, 0), (6, 1, 0, 9, 0), (41, 3, 0, 11, 0), (1, 0, 0, 0, 0), (0, 3, 0, 0, 0), (59, 119, 2, 91, 11), (47, 4, 0, 23, 0), (53, 3, 0, 0, 0)] L st σ := EB_eq 130 2 L st σ
theorem bk_130_3 {L : ev_L} {st : List ev_V} {σ : ev_M} : EB 130 3 L st σ = EO 130 [(0, 1, 0, 0, 0), (6, 1, 0, 10, 0), (41, 5, 0, 21, 0), (1, 0, 0, 0, 0), (0, 3, 0, 0, 0), (59, 117, 2, 94, 11), (1, 0, 0, 0, 0), (0, 3, 0, 0, 0), (6, 0, 0, 2, 0), (59, 114, 3, 51, 11), (43, 5, 0, 7, 0), (53, 4, 0, 0, 0)] L st σ := EB_eq 130 3 L st σ
theorem bk_130_4 {L : ev_L} {st : List ev_V} {σ : ev_M} : EB 130 4 L st σ = EO 130 [(6, 0, 0, 1, 0), (52, 6, 0, 4, 0)] L st σ := EB_eq 130 4 L st σ
theorem bk_130_5 {L : ev_L} {st : List ev_V} {σ : ev_M} : EB 130 5 L st σ = EO 130 [(6, 0, 0, 0, 0), (53, 6, 0, 0, 0)] L st σ := EB_eq 130 5 L st σ
theorem bk_130_6 {L : ev_L} {st : List ev_V} {σ : ev_M} : EB 130 6 L st σ = EO 130 [(10, 0, 0, 0, 0), (3, 2, 0, 0, 0), (23, 3, 0, 1, 0), (52, 2, 0, (-55), 0)] L st σ := EB_eq 130 6 L st σ
theorem bk_130_7 {L : ev_L} {st : List ev_V} {σ : ev_M} : EB 130 7 L st σ = EO 130 [(0, 2, 0, 0, 0), (56, 0, 0, 0, 0)] L st σ := EB_eq 130 7 L st σ
theorem mm_131 {i0 : Int} {x1 : Int} {σ : ev_M} : EM 131 [.inr (.inl i0), .inl x1] σ = EB 131 0 [some (.inr (.inl i0)), some (.inl x1)] [] σ := by
  unfold EM ev_go
  exact if_pos (Nat.le_of_ble_eq_true rfl)
theorem bk_131_0 {L : ev_L} {st : List ev_V} {σ : ev_M} : EB 131 0 L st σ = EO 131 [(0, 1, 0, 0, 0), (6, 0, 0, 0, 0), (6, 1, 0, 10, 0), (60, 106, 3, 43, 0), (46, 1, 0, 11, 0), (1, 0, 0, 0, 0), (0, 1, 0, 0, 0), (59, 130, 2, 97, 11), (52, 2, 0, 5, 0)] L st σ := EB_eq 131 0 L st σ
theorem bk_131_1 {L : ev_L} {st : List ev_V} {σ : ev_M} : EB 131 1 L st σ = EO 131 [(6, 1, 0, (-3), 0), (53, 2, 0, 0, 0)] L st σ := EB_eq 131 1 L st σ
theorem bk_131_2 {L : ev_L} {st : List ev_V} {σ : ev_M} : EB 131 2 L st σ = EO 131 [(56, 0, 0, 0, 0)] L st σ := EB_eq 131 2 L st σ
theorem mm_132 {i0 : Int} {x1 : Int} {x2 : Int} {σ : ev_M} : EM 132 [.inr (.inl i0), .inl x1, .inl x2] σ = EB 132 0 [some (.inr (.inl i0)), some (.inl x1), some (.inl x2)] [] σ := by
  unfold EM ev_go
  exact if_pos (Nat.le_of_ble_eq_true rfl)
theorem bk_132_0 {L : ev_L} {st : List ev_V} {σ : ev_M} : EB 132 0 L st σ = EO 132 [(1, 0, 0, 0, 0), (0, 1, 0, 0, 0), (59, 110, 2, 73, 11), (47, 1, 0, 6, 0), (6, 1, 0, (-2), 0), (56, 0, 0, 0, 0)] L st σ := EB_eq 132 0 L st σ
theorem bk_132_1 {L : ev_L} {st : List ev_V} {σ : ev_M} : EB 132 1 L st σ = EO 132 [(0, 2, 0, 0, 0), (6, 0, 0, 0, 0), (6, 0, 0, 3, 0), (60, 106, 3, 43, 0), (46, 2, 0, 12, 0), (1, 0, 0, 0, 0), (0, 1, 0, 0, 0), (0, 2, 0, 0, 0), (59, 113, 3, 76, 11), (52, 3, 0, 5, 0)] L st σ := EB_eq 132 1 L st σ
theorem bk_132_2 {L : ev_L} {st : List ev_V} {σ : ev_M} : EB 132 2 L st σ = EO 132 [(6, 1, 0, (-3), 0), (53, 3, 0, 0, 0)] L st σ := EB_eq 132 2 L st σ
theorem bk_132_3 {L : ev_L} {st : List ev_V} {σ : ev_M} : EB 132 3 L st σ = EO 132 [(56, 0, 0, 0, 0)] L st σ := EB_eq 132 3 L st σ
theorem mm_133 {i0 : Int} {x1 : Int} {x2 : Int} {σ : ev_M} : EM 133 [.inr (.inl i0), .inl x1, .inl x2] σ = EB 133 0 [some (.inr (.inl i0)), some (.inl x1), some (.inl x2)] [] σ := by
  unfold EM ev_go
  exact if_pos (Nat.le_of_ble_eq_true rfl)
theorem bk_133_0 {L : ev_L} {st : List ev_V} {σ : ev_M} : EB 133 0 L st σ = EO 133 [(0, 2, 0, 0, 0), (54, 7, 0, 0, 0)] L st σ := EB_eq 133 0 L st σ
theorem bk_133_1 {L : ev_L} {st : List ev_V} {σ : ev_M} : EB 133 1 L st σ = EO 133 [(1, 0, 0, 0, 0), (0, 1, 0, 0, 0), (6, 0, 0, 0, 0), (59, 114, 3, 51, 11), (56, 0, 0, 0, 0)] L st σ := EB_eq 133 1 L st σ
theorem bk_133_2 {L : ev_L} {st : List ev_V} {σ : ev_M} : EB 133 2 L st σ = EO 133 [(1, 0, 0, 0, 0), (0, 1, 0, 0, 0), (6, 0, 0, 1, 0), (59, 114, 3, 51, 11), (56, 0, 0, 0, 0)] L st σ := EB_eq 133 2 L st σ
theorem bk_133_3 {L : ev_L} {st : List ev_V} {σ : ev_M} : EB 133 3 L st σ = EO 133 [(1, 0, 0, 0, 0), (0, 1, 0, 0, 0), (59, 117, 2, 94, 11), (56, 0, 0, 0, 0)] L st σ := EB_eq 133 3 L st σ
theorem bk_133_4 {L : ev_L} {st : List ev_V} {σ : ev_M} : EB 133 4 L st σ = EO 133 [(1, 0, 0, 0, 0), (0, 1, 0, 0, 0), (6, 0, 0, 2, 0), (59, 114, 3, 51, 11), (56, 0, 0, 0, 0)] L st σ := EB_eq 133 4 L st σ
theorem bk_133_5 {L : ev_L} {st : List ev_V} {σ : ev_M} : EB 133 5 L st σ = EO 133 [(1, 0, 0, 0, 0), (0, 1, 0, 0, 0), (6, 0, 0, 3, 0), (59, 114, 3, 51, 11), (56, 0, 0, 0, 0)] L st σ := EB_eq 133 5 L st σ
theorem bk_133_6 {L : ev_L} {st : List ev_V} {σ : ev_M} : EB 133 6 L st σ = EO 133 [(1, 0, 0, 0, 0), (0, 1, 0, 0, 0), (59, 118, 2, 59, 11), (56, 0, 0, 0, 0)] L st σ := EB_eq 133 6 L st σ
theorem bk_133_7 {L : ev_L} {st : List ev_V} {σ : ev_M} : EB 133 7 L st σ = EO 133 [(1, 0, 0, 0, 0), (0, 1, 0, 0, 0), (59, 119, 2, 91, 11), (46, 8, 0, 7, 0), (6, 0, 0, 1, 0), (52, 9, 0, 4, 0)] L st σ := EB_eq 133 7 L st σ
theorem bk_133_8 {L : ev_L} {st : List ev_V} {σ : ev_M} : EB 133 8 L st σ = EO 133 [(6, 0, 0, 0, 0), (53, 9, 0, 0, 0)] L st σ := EB_eq 133 8 L st σ
theorem bk_133_9 {L : ev_L} {st : List ev_V} {σ : ev_M} : EB 133 9 L st σ = EO 133 [(56, 0, 0, 0, 0)] L st σ := EB_eq 133 9 L st σ
theorem bk_133_10 {L : ev_L} {st : List ev_V} {σ : ev_M} : EB 133 10 L st σ = EO 133 [(1, 0, 0, 0, 0), (0, 1, 0, 0, 0), (6, 0, 0, 4, 0), (59, 114, 3, 51, 11), (56, 0, 0, 0, 0)] L st σ := EB_eq 133 10 L st σ
theorem bk_133_11 {L : ev_L} {st : List ev_V} {σ : ev_M} : EB 133 11 L st σ = EO 133 [(1, 0, 0, 0, 0), (0, 1, 0, 0, 0), (59, 120, 2, 100, 11), (56, 0, 0, 0, 0)] L st σ := EB_eq 133 11 L st σ
theorem mm_134 {i0 : Int} {x1 : Int} {x2 : Int} {σ : ev_M} : EM 134 [.inr (.inl i0), .inl x1, .inl x2] σ = EB 134 0 [some (.inr (.inl i0)), some (.inl x1), some (.inl x2)] [] σ := by
  unfold EM ev_go
  exact if_pos (Nat.le_of_ble_eq_true rfl)
theorem bk_134_0 {L : ev_L} {st : List ev_V} {σ : ev_M} : EB 134 0 L st σ = EO 134 [(1, 0, 0, 0, 0), (0, 1, 0, 0, 0), (59, 111, 2, 47, 11), (47, 1, 0, 6, 0), (6, 1, 0, (-2), 0), (56, 0, 0, 0, 0)] L st σ := EB_eq 134 0 L st σ
theorem bk_134_1 {L : ev_L} {st : List ev_V} {σ : ev_M} : EB 134 1 L st σ = EO 134 [(0, 2, 0, 0, 0), (6, 0, 0, 0, 0), (6, 1, 0, 8, 0), (60, 106, 3, 43, 0), (46, 2, 0, 12, 0), (1, 0, 0, 0, 0), (0, 1, 0, 0, 0), (0, 2, 0, 0, 0), (59, 133, 3, 103, 11), (52, 3, 0, 5, 0)] L st σ := EB_eq 134 1 L st σ
theorem bk_134_2 {L : ev_L} {st : List ev_V} {σ : ev_M} : EB 134 2 L st σ = EO 134 [(6, 1, 0, (-3), 0), (53, 3, 0, 0, 0)] L st σ := EB_eq 134 2 L st σ
theorem bk_134_3 {L : ev_L} {st : List ev_V} {σ : ev_M} : EB 134 3 L st σ = EO 134 [(56, 0, 0, 0, 0)] L st σ := EB_eq 134 3 L st σ
theorem mm_135 {i0 : Int} {x1 : Int} {x2 : Int} {x3 : Int} {σ : ev_M} : EM 135 [.inr (.inl i0), .inl x1, .inl x2, .inl x3] σ = EB 135 0 [some (.inr (.inl i0)), some (.inl x1), some (.inl x2), some (.inl x3), none] [] σ := by
  unfold EM ev_go
  exact if_pos (Nat.le_of_ble_eq_true rfl)
theorem bk_135_0 {L : ev_L} {st : List ev_V} {σ : ev_M} : EB 135 0 L st σ = EO 135 [(1, 0, 0, 0, 0), (0, 1, 0, 0, 0), (59, 117, 2, 94, 11), (3, 4, 1, 0, 0), (0, 3, 0, 0, 0), (6, 0, 0, 4, 0), (43, 1, 0, 13, 0), (1, 0, 0, 0, 0), (0, 1, 0, 0, 0), (0, 2, 0, 0, 0), (0, 3, 0, 0, 0), (59, 115, 4, 55, 11), (52, 3, 0, 24, 0)] L st σ := EB_eq 135 0 L st σ
theorem bk_135_1 {L : ev_L} {st : List ev_V} {σ : ev_M} : EB 135 1 L st σ = EO 135 [(0, 3, 0, 0, 0), (6, 0, 0, 4, 0), (41, 2, 0, 12, 0), (1, 0, 0, 0, 0), (28, 16, 11, 3, 3), (0, 2, 0, 0, 0), (32, 0, 0, 0, 0), (52, 3, 0, 10, 0)] L st σ := EB_eq 135 1 L st σ
theorem bk_135_2 {L : ev_L} {st : List ev_V} {σ : ev_M} : EB 135 2 L st σ = EO 135 [(1, 0, 0, 0, 0), (0, 1, 0, 0, 0), (0, 2, 0, 0, 0), (6, 0, 0, 4, 0), (59, 115, 4, 55, 11), (53, 3, 0, 0, 0)] L st σ := EB_eq 135 2 L st σ
theorem bk_135_3 {L : ev_L} {st : List ev_V} {σ : ev_M} : EB 135 3 L st σ = EO 135 [(56, 0, 0, 0, 0)] L st σ := EB_eq 135 3 L st σ
theorem mm_136 {i0 : Int} {x1 : Int} {x2 : Int} {x3 : Int} {σ : ev_M} : EM 136 [.inr (.inl i0), .inl x1, .inl x2, .inl x3] σ = EB 136 0 [some (.inr (.inl i0)), some (.inl x1), some (.inl x2), some (.inl x3)] [] σ := by
  unfold EM ev_go
  exact if_pos (Nat.le_of_ble_eq_true rfl)
theorem bk_136_0 {L : ev_L} {st : List ev_V} {σ : ev_M} : EB 136 0 L st σ = EO 136 [(1, 0, 0, 0, 0), (0, 1, 0, 0, 0), (0, 2, 0, 0, 0), (59, 112, 3, 87, 11), (47, 1, 0, 6, 0), (6, 1, 0, (-2), 0), (56, 0, 0, 0, 0)] L st σ := EB_eq 136 0 L st σ
theorem bk_136_1 {L : ev_L} {st : List ev_V} {σ : ev_M} : EB 136 1 L st σ = EO 136 [(0, 3, 0, 0, 0), (6, 0, 0, 0, 0), (6, 0, 0, 5, 0), (60, 106, 3, 43, 0), (46, 2, 0, 13, 0), (1, 0, 0, 0, 0), (0, 1, 0, 0, 0), (0, 2, 0, 0, 0), (0, 3, 0, 0, 0), (59, 135, 4, 106, 11), (52, 3, 0, 5, 0)] L st σ := EB_eq 136 1 L st σ
theorem bk_136_2 {L : ev_L} {st : List ev_V} {σ : ev_M} : EB 136 2 L st σ = EO 136 [(6, 1, 0, (-3), 0), (53, 3, 0, 0, 0)] L st σ := EB_eq 136 2 L st σ
theorem bk_136_3 {L : ev_L} {st : List ev_V} {σ : ev_M} : EB 136 3 L st σ = EO 136 [(56, 0, 0, 0, 0)] L st σ := EB_eq 136 3 L st σ
theorem mm_137 {i0 : Int} {x1 : Int} {σ : ev_M} : EM 137 [.inr (.inl i0), .inl x1] σ = EB 137 0 [some (.inr (.inl i0)), some (.inl x1), none, none, none, none] [] σ := by
  unfold EM ev_go
  exact if_pos (Nat.le_of_ble_eq_true rfl)
theorem bk_137_0 {L : ev_L} {st : List ev_V} {σ : ev_M} : EB 137 0 L st σ = EO 137 [(1, 0, 0, 0, 0), (0, 1, 0, 0, 0), (59, 111, 2, 47, 11), (47, 1, 0, 6, 0), (6, 1, 0, (-2), 0), (56, 0, 0, 0, 0)] L st σ := EB_eq 137 0 L st σ
theorem bk_137_1 {L : ev_L} {st : List ev_V} {σ : ev_M} : EB 137 1 L st σ = EO 137 [(1, 0, 0, 0, 0), (0, 1, 0, 0, 0), (59, 117, 2, 94, 11), (3, 2, 0, 0, 0), (6, 0, 0, 0, 0), (3, 3, 0, 0, 0), (6, 0, 0, 0, 0), (3, 4, 1, 0, 0), (53, 2, 0, 0, 0)] L st σ := EB_eq 137 1 L st σ
theorem bk_137_2 {L : ev_L} {st : List ev_V} {σ : ev_M} : EB 137 2 L st σ = EO 137 [(0, 4, 1, 0, 0), (1, 0, 0, 0, 0), (0, 1, 0, 0, 0), (6, 0, 0, 1, 0), (59, 114, 3, 51, 11), (43, 7, 0, 70, 0), (1, 0, 0, 0, 0), (0, 1, 0, 0, 0), (0, 4, 1, 0, 0), (6, 0, 0, 1, 0), (59, 115, 4, 55, 11), (3, 5, 1, 0, 0), (1, 0, 0, 0, 0), (0, 1, 0, 0, 0), (0, 4, 1, 0, 0), (6, 0, 0, 1, 0), (0, 5, 1, 0, 0), (51, 3, 0, 10, 0), (0, 5, 1, 0, 0), (6, 0, 0, 1, 0), (11, 0, 0, 0, 0), (52, 4, 0, 4, 0)] L st σ := EB_eq 137 2 L st σ
theorem bk_137_3 {L : ev_L} {st : List ev_V} {σ : ev_M} : EB 137 3 L st σ = EO 137 [(6, 0, 0, 0, 0), (53, 4, 0, 0, 0)] L st σ := EB_eq 137 3 L st σ
theorem bk_137_4 {L : ev_L} {st : List ev_V} {σ : ev_M} : EB 137 4 L st σ = EO 137 [(59, 116, 5, 83, 11), (0, 3, 0, 0, 0), (1, 0, 0, 0, 0), (0, 1, 0, 0, 0), (59, 117, 2, 94, 11), (0, 2, 0, 0, 0), (43, 5, 0, 10, 0), (6, 0, 0, 1, 0), (0, 4, 1, 0, 0), (18, 0, 0, 0, 0), (52, 6, 0, 4, 0)] L st σ := EB_eq 137 4 L st σ
theorem bk_137_5 {L : ev_L} {st : List ev_V} {σ : ev_M} : EB 137 5 L st σ = EO 137 [(6, 0, 0, 0, 0), (53, 6, 0, 0, 0)] L st σ := EB_eq 137 5 L st σ
theorem bk_137_6 {L : ev_L} {st : List ev_V} {σ : ev_M} : EB 137 6 L st σ = EO 137 [(16, 0, 0, 0, 0), (3, 3, 0, 0, 0), (1, 0, 0, 0, 0), (0, 1, 0, 0, 0), (0, 4, 1, 0, 0), (6, 0, 0, 1, 0), (0, 5, 1, 0, 0), (59, 116, 5, 83, 11), (23, 4, 0, 1, 0), (52, 2, 0, (-75), 0)] L st σ := EB_eq 137 6 L st σ
theorem bk_137_7 {L : ev_L} {st : List ev_V} {σ : ev_M} : EB 137 7 L st σ = EO 137 [(0, 3, 0, 0, 0), (56, 0, 0, 0, 0)] L st σ := EB_eq 137 7 L st σ
theorem mm_138 {i0 : Int} {x1 : Int} {σ : ev_M} : EM 138 [.inr (.inl i0), .inl x1] σ = EB 138 0 [some (.inr (.inl i0)), some (.inl x1), none, none, none] [] σ := by
  unfold EM ev_go
  exact if_pos (Nat.le_of_ble_eq_true rfl)
theorem bk_138_0 {L : ev_L} {st : List ev_V} {σ : ev_M} : EB 138 0 L st σ = EO 138 [(6, 0, 0, 0, 0), (3, 2, 0, 0, 0), (53, 1, 0, 0, 0)] L st σ := EB_eq 138 0 L st σ
theorem bk_138_1 {L : ev_L} {st : List ev_V} {σ : ev_M} : EB 138 1 L st σ = EO 138 [(0, 2, 0, 0, 0), (1, 0, 0, 0, 0), (0, 1, 0, 0, 0), (6, 0, 0, 1, 0), (59, 114, 3, 51, 11), (43, 6, 0, 82, 0), (1, 0, 0, 0, 0), (0, 1, 0, 0, 0), (0, 2, 0, 0, 0), (6, 0, 0, 2, 0), (59, 115, 4, 55, 11), (1, 0, 0, 0, 0), (0, 1, 0, 0, 0), (0, 2, 0, 0, 0), (6, 0, 0, 3, 0), (59, 115, 4, 55, 11), (10, 0, 0, 0, 0), (3, 3, 0, 0, 0), (1, 0, 0, 0, 0), (0, 1, 0, 0, 0), (0, 2, 0, 0, 0), (6, 0, 0, 1, 0), (59, 115, 4, 55, 11), (3, 4, 1, 0, 0), (1, 0, 0, 0, 0), (0, 1, 0, 0, 0), (0, 2, 0, 0, 0), (6, 0, 0, 2, 0), (0, 3, 0, 0, 0), (6, 1, 0, 99, 0), (45, 2, 0, 10, 0), (0, 3, 0, 0, 0), (6, 1, 0, 100, 0), (11, 0, 0, 0, 0), (52, 3, 0, 4, 0)] L st σ := EB_eq 138 1 L st σ
theorem bk_138_2 {L : ev_L} {st : List ev_V} {σ : ev_M} : EB 138 2 L st σ = EO 138 [(0, 3, 0, 0, 0), (53, 3, 0, 0, 0)] L st σ := EB_eq 138 2 L st σ
theorem bk_138_3 {L : ev_L} {st : List ev_V} {σ : ev_M} : EB 138 3 L st σ = EO 138 [(59, 116, 5, 83, 11), (1, 0, 0, 0, 0), (0, 1, 0, 0, 0), (0, 2, 0, 0, 0), (6, 0, 0, 1, 0), (0, 3, 0, 0, 0), (6, 1, 0, 99, 0), (45, 4, 0, 15, 0), (0, 4, 1, 0, 0), (51, 4, 0, 10, 0), (0, 4, 1, 0, 0), (6, 0, 0, 1, 0), (11, 0, 0, 0, 0), (52, 5, 0, 5, 0)] L st σ := EB_eq 138 3 L st σ
theorem bk_138_4 {L : ev_L} {st : List ev_V} {σ : ev_M} : EB 138 4 L st σ = EO 138 [(0, 4, 1, 0, 0), (53, 5, 0, 0, 0)] L st σ := EB_eq 138 4 L st σ
theorem bk_138_5 {L : ev_L} {st : List ev_V} {σ : ev_M} : EB 138 5 L st σ = EO 138 [(59, 116, 5, 83, 11), (23, 2, 0, 1, 0), (52, 1, 0, (-86), 0)] L st σ := EB_eq 138 5 L st σ
theorem bk_138_6 {L : ev_L} {st : List ev_V} {σ : ev_M} : EB 138 6 L st σ = EO 138 [(58, 0, 0, 0, 0)] L st σ := EB_eq 138 6 L st σ
theorem mm_139 {i0 : Int} {x1 : Int} {σ : ev_M} : EM 139 [.inr (.inl i0), .inl x1] σ = EB 139 0 [some (.inr (.inl i0)), some (.inl x1), none, none] [] σ := by
  unfold EM ev_go
  exact if_pos (Nat.le_of_ble_eq_true rfl)
theorem bk_139_0 {L : ev_L} {st : List ev_V} {σ : ev_M} : EB 139 0 L st σ = EO 139 [(0, 1, 0, 0, 0), (6, 0, 0, 1, 0), (6, 1, 0, 50, 0), (60, 106, 3, 43, 0), (47, 1, 0, 6, 0), (6, 1, 0, (-3), 0), (56, 0, 0, 0, 0)] L st σ := EB_eq 139 0 L st σ
theorem bk_139_1 {L : ev_L} {st : List ev_V} {σ : ev_M} : EB 139 1 L st σ = EO 139 [(1, 0, 0, 0, 0), (28, 7, 11, 0, 1), (6, 0, 0, 5, 0), (32, 0, 0, 0, 0), (0, 1, 0, 0, 0), (10, 0, 0, 0, 0), (6, 2, 0, 1000, 0), (45, 2, 0, 6, 0), (6, 1, 0, (-5), 0), (56, 0, 0, 0, 0)] L st σ := EB_eq 139 1 L st σ
theorem bk_139_2 {L : ev_L} {st : List ev_V} {σ : ev_M} : EB 139 2 L st σ = EO 139 [(1, 0, 0, 0, 0), (59, 108, 1, 63, 11), (6, 0, 0, 0, 0), (3, 2, 0, 0, 0), (53, 3, 0, 0, 0)] L st σ := EB_eq 139 2 L st σ
theorem bk_139_3 {L : ev_L} {st : List ev_V} {σ : ev_M} : EB 139 3 L st σ = EO 139 [(0, 2, 0, 0, 0), (0, 1, 0, 0, 0), (43, 6, 0, 42, 0), (6, 0, 0, 0, 0), (3, 3, 0, 0, 0), (53, 4, 0, 0, 0)] L st σ := EB_eq 139 3 L st σ
theorem bk_139_4 {L : ev_L} {st : List ev_V} {σ : ev_M} : EB 139 4 L st σ = EO 139 [(0, 3, 0, 0, 0), (1, 0, 0, 0, 0), (28, 7, 11, 0, 1), (6, 0, 0, 2, 0), (32, 0, 0, 0, 0), (43, 5, 0, 14, 0), (1, 0, 0, 0, 0), (0, 3, 0, 0, 0), (59, 138, 2, 109, 11), (23, 3, 0, 1, 0), (52, 4, 0, (-18), 0)] L st σ := EB_eq 139 4 L st σ
theorem bk_139_5 {L : ev_L} {st : List ev_V} {σ : ev_M} : EB 139 5 L st σ = EO 139 [(1, 0, 0, 0, 0), (28, 7, 11, 0, 1), (6, 0, 0, 5, 0), (25, 0, 0, 0, 0), (32, 0, 0, 0, 0), (6, 0, 0, 1, 0), (10, 0, 0, 0, 0), (33, 0, 0, 0, 0), (23, 2, 0, 1, 0), (52, 3, 0, (-41), 0)] L st σ := EB_eq 139 5 L st σ
theorem bk_139_6 {L : ev_L} {st : List ev_V} {σ : ev_M} : EB 139 6 L st σ = EO 139 [(1, 0, 0, 0, 0), (28, 7, 11, 0, 1), (6, 0, 0, 5, 0), (32, 0, 0, 0, 0), (56, 0, 0, 0, 0)] L st σ := EB_eq 139 6 L st σ
theorem mm_140 {i0 : Int} {x1 : Int} {σ : ev_M} : EM 140 [.inr (.inl i0), .inl x1] σ = EB 140 0 [some (.inr (.inl i0)), some (.inl x1)] [] σ := by
  unfold EM ev_go
  exact if_pos (Nat.le_of_ble_eq_true rfl)
theorem bk_140_0 {L : ev_L} {st : List ev_V} {σ : ev_M} : EB 140 0 L st σ = EO 140 [(1, 0, 0, 0, 0), (28, 7, 11, 0, 1), (6, 1, 0, 89, 0), (6, 0, 0, 5, 0), (0, 1, 0, 0, 0), (12, 0, 0, 0, 0), (10, 0, 0, 0, 0), (6, 0, 0, 2, 0), (10, 0, 0, 0, 0), (1, 0, 0, 0, 0), (0, 1, 0, 0, 0), (59, 117, 2, 94, 11), (33, 0, 0, 0, 0), (1, 0, 0, 0, 0), (28, 7, 11, 0, 1), (6, 1, 0, 89, 0), (6, 0, 0, 5, 0), (0, 1, 0, 0, 0), (12, 0, 0, 0, 0), (10, 0, 0, 0, 0), (6, 0, 0, 3, 0), (10, 0, 0, 0, 0), (1, 0, 0, 0, 0), (28, 7, 11, 0, 1), (6, 0, 0, 5, 0), (32, 0, 0, 0, 0), (33, 0, 0, 0, 0), (1, 0, 0, 0, 0), (28, 7, 11, 0, 1), (6, 1, 0, 6, 0), (25, 0, 0, 0, 0), (32, 0, 0, 0, 0), (6, 0, 0, 1, 0), (10, 0, 0, 0, 0), (33, 0, 0, 0, 0), (1, 0, 0, 0, 0), (28, 7, 11, 0, 1), (6, 1, 0, 7, 0), (25, 0, 0, 0, 0), (32, 0, 0, 0, 0), (6, 0, 0, 5, 0), (1, 0, 0, 0, 0), (0, 1, 0, 0, 0), (6, 0, 0, 1, 0), (59, 114, 3, 51, 11), (10, 0, 0, 0, 0), (10, 0, 0, 0, 0), (33, 0, 0, 0, 0), (58, 0, 0, 0, 0)] L st σ := EB_eq 140 0 L st σ
theorem mm_141 {i0 : Int} {x1 : Int} {σ : ev_M} : EM 141 [.inr (.inl i0), .inl x1] σ = EB 141 0 [some (.inr (.inl i0)), some (.inl x1)] [] σ := by
  unfold EM ev_go
  exact if_pos (Nat.le_of_ble_eq_true rfl)
theorem bk_141_0 {L : ev_L} {st : List ev_V} {σ : ev_M} : EB 141 0 L st σ = EO 141 [(1, 0, 0, 0, 0), (0, 1, 0, 0, 0), (59, 111, 2, 47, 11), (47, 1, 0, 6, 0), (6, 1, 0, (-2), 0), (56, 0, 0, 0, 0)] L st σ := EB_eq 141 0 L st σ
theorem bk_141_1 {L : ev_L} {st : List ev_V} {σ : ev_M} : EB 141 1 L st σ = EO 141 [(1, 0, 0, 0, 0), (59, 108, 1, 63, 11), (1, 0, 0, 0, 0), (0, 1, 0, 0, 0), (59, 140, 2, 112, 11), (1, 0, 0, 0, 0), (0, 1, 0, 0, 0), (6, 0, 0, 2, 0), (59, 114, 3, 51, 11), (56, 0, 0, 0, 0)] L st σ := EB_eq 141 1 L st σ
theorem mm_142 {i0 : Int} {x1 : Int} {x2 : Int} {x3 : Int} {σ : ev_M} : EM 142 [.inr (.inl i0), .inl x1, .inl x2, .inl x3] σ = EB 142 0 [some (.inr (.inl i0)), some (.inl x1), some (.inl x2), some (.inl x3), none] [] σ := by
  unfold EM ev_go
  exact if_pos (Nat.le_of_ble_eq_true rfl)
theorem bk_142_0 {L : ev_L} {st : List ev_V} {σ : ev_M} : EB 142 0 L st σ = EO 142 [(1, 0, 0, 0, 0), (0, 1, 0, 0, 0), (6, 0, 0, 3, 0), (59, 113, 3, 76, 11), (3, 4, 1, 0, 0), (0, 1, 0, 0, 0), (0, 3, 0, 0, 0), (40, 2, 0, 23, 0), (0, 4, 1, 0, 0), (6, 0, 0, (-1), 0), (40, 1, 0, 13, 0), (1, 0, 0, 0, 0), (0, 4, 1, 0, 0), (59, 120, 2, 100, 11), (0, 2, 0, 0, 0), (42, 2, 0, 7, 0), (53, 1, 0, 0, 0)] L st σ := EB_eq 142 0 L st σ
theorem bk_142_1 {L : ev_L} {st : List ev_V} {σ : ev_M} : EB 142 1 L st σ = EO 142 [(6, 0, 0, 1, 0), (52, 3, 0, 4, 0)] L st σ := EB_eq 142 1 L st σ
theorem bk_142_2 {L : ev_L} {st : List ev_V} {σ : ev_M} : EB 142 2 L st σ = EO 142 [(6, 0, 0, 0, 0), (53, 3, 0, 0, 0)] L st σ := EB_eq 142 2 L st σ
theorem bk_142_3 {L : ev_L} {st : List ev_V} {σ : ev_M} : EB 142 3 L st σ = EO 142 [(56, 1, 0, 0, 0)] L st σ := EB_eq 142 3 L st σ
theorem mm_143 {i0 : Int} {x1 : Int} {x2 : Int} {σ : ev_M} : EM 143 [.inr (.inl i0), .inl x1, .inl x2] σ = EB 143 0 [some (.inr (.inl i0)), some (.inl x1), some (.inl x2)] [] σ := by
  unfold EM ev_go
  exact if_pos (Nat.le_of_ble_eq_true rfl)
theorem bk_143_0 {L : ev_L} {st : List ev_V} {σ : ev_M} : EB 143 0 L st σ = EO 143 [(1, 0, 0, 0, 0), (0, 1, 0, 0, 0), (6, 0, 0, 0, 0), (59, 113, 3, 76, 11), (0, 2, 0, 0, 0), (41, 1, 0, 12, 0), (1, 0, 0, 0, 0), (0, 1, 0, 0, 0), (6, 0, 0, 1, 0), (59, 113, 3, 76, 11), (52, 3, 0, 23, 0)] L st σ := EB_eq 143 0 L st σ
theorem bk_143_1 {L : ev_L} {st : List ev_V} {σ : ev_M} : EB 143 1 L st σ = EO 143 [(1, 0, 0, 0, 0), (0, 1, 0, 0, 0), (6, 0, 0, 1, 0), (59, 113, 3, 76, 11), (0, 2, 0, 0, 0), (41, 2, 0, 12, 0), (1, 0, 0, 0, 0), (0, 1, 0, 0, 0), (6, 0, 0, 0, 0), (59, 113, 3, 76, 11), (52, 3, 0, 4, 0)] L st σ := EB_eq 143 1 L st σ
theorem bk_143_2 {L : ev_L} {st : List ev_V} {σ : ev_M} : EB 143 2 L st σ = EO 143 [(6, 0, 0, (-1), 0), (53, 3, 0, 0, 0)] L st σ := EB_eq 143 2 L st σ
theorem bk_143_3 {L : ev_L} {st : List ev_V} {σ : ev_M} : EB 143 3 L st σ = EO 143 [(56, 0, 0, 0, 0)] L st σ := EB_eq 143 3 L st σ
theorem mm_144 {i0 : Int} {x1 : Int} {x2 : Int} {x3 : Int} {σ : ev_M} : EM 144 [.inr (.inl i0), .inl x1, .inl x2, .inl x3] σ = EB 144 0 [some (.inr (.inl i0)), some (.inl x1), some (.inl x2), some (.inl x3), none, none, none, none] [] σ := by
  unfold EM ev_go
  exact if_pos (Nat.le_of_ble_eq_true rfl)
theorem bk_144_0 {L : ev_L} {st : List ev_V} {σ : ev_M} : EB 144 0 L st σ = EO 144 [(6, 0, 0, 0, 0), (3, 4, 1, 0, 0), (53, 1, 0, 0, 0)] L st σ := EB_eq 144 0 L st σ
theorem bk_144_1 {L : ev_L} {st : List ev_V} {σ : ev_M} : EB 144 1 L st σ = EO 144 [(0, 4, 1, 0, 0), (6, 1, 0, 10, 0), (43, 4, 0, 35, 0), (1, 0, 0, 0, 0), (28, 19, 11, 4, 4), (0, 4, 1, 0, 0), (0, 4, 1, 0, 0), (0, 1, 0, 0, 0), (41, 2, 0, 7, 0), (6, 0, 0, 0, 0), (52, 3, 0, 4, 0)] L st σ := EB_eq 144 1 L st σ
theorem bk_144_2 {L : ev_L} {st : List ev_V} {σ : ev_M} : EB 144 2 L st σ = EO 144 [(6, 0, 0, (-1), 0), (53, 3, 0, 0, 0)] L st σ := EB_eq 144 2 L st σ
theorem bk_144_3 {L : ev_L} {st : List ev_V} {σ : ev_M} : EB 144 3 L st σ = EO 144 [(33, 0, 0, 0, 0), (1, 0, 0, 0, 0), (28, 22, 11, 5, 5), (0, 4, 1, 0, 0), (6, 0, 0, 0, 0), (35, 0, 0, 0, 0), (23, 4, 0, 1, 0), (52, 1, 0, (-36), 0)] L st σ := EB_eq 144 3 L st σ
theorem bk_144_4 {L : ev_L} {st : List ev_V} {σ : ev_M} : EB 144 4 L st σ = EO 144 [(0, 1, 0, 0, 0), (3, 4, 1, 0, 0), (53, 5, 0, 0, 0)] L st σ := EB_eq 144 4 L st σ
theorem bk_144_5 {L : ev_L} {st : List ev_V} {σ : ev_M} : EB 144 5 L st σ = EO 144 [(0, 4, 1, 0, 0), (6, 0, 0, (-1), 0), (40, 15, 0, 186, 0), (1, 0, 0, 0, 0), (28, 22, 11, 5, 5), (0, 4, 1, 0, 0), (6, 0, 0, 1, 0), (35, 0, 0, 0, 0), (6, 0, 0, 0, 0), (3, 5, 1, 0, 0), (53, 6, 0, 0, 0)] L st σ := EB_eq 144 5 L st σ
theorem bk_144_6 {L : ev_L} {st : List ev_V} {σ : ev_M} : EB 144 6 L st σ = EO 144 [(0, 5, 1, 0, 0), (1, 0, 0, 0, 0), (28, 7, 11, 0, 1), (6, 0, 0, 1, 0), (32, 0, 0, 0, 0), (43, 9, 0, 85, 0), (1, 0, 0, 0, 0), (0, 5, 1, 0, 0), (0, 4, 1, 0, 0), (59, 143, 3, 115, 11), (3, 6, 1, 0, 0), (1, 0, 0, 0, 0), (28, 19, 11, 4, 4), (0, 4, 1, 0, 0), (32, 0, 0, 0, 0), (1, 0, 0, 0, 0), (0, 5, 1, 0, 0), (6, 0, 0, 2, 0), (59, 113, 3, 76, 11), (10, 0, 0, 0, 0), (3, 7, 1, 0, 0), (0, 6, 1, 0, 0), (6, 0, 0, (-1), 0), (40, 8, 0, 46, 0), (1, 0, 0, 0, 0), (0, 5, 1, 0, 0), (0, 2, 0, 0, 0), (0, 3, 0, 0, 0), (59, 142, 4, 118, 11), (46, 8, 0, 35, 0), (1, 0, 0, 0, 0), (28, 19, 11, 4, 4), (0, 6, 1, 0, 0), (32, 0, 0, 0, 0), (6, 0, 0, (-1), 0), (40, 7, 0, 15, 0), (0, 7, 1, 0, 0), (1, 0, 0, 0, 0), (28, 19, 11, 4, 4), (0, 6, 1, 0, 0), (32, 0, 0, 0, 0), (43, 8, 0, 12, 0), (53, 7, 0, 0, 0)] L st σ := EB_eq 144 6 L st σ
theorem bk_144_7 {L : ev_L} {st : List ev_V} {σ : ev_M} : EB 144 7 L st σ = EO 144 [(1, 0, 0, 0, 0), (28, 19, 11, 4, 4), (0, 6, 1, 0, 0), (0, 7, 1, 0, 0), (33, 0, 0, 0, 0), (53, 8, 0, 0, 0)] L st σ := EB_eq 144 7 L st σ
theorem bk_144_8 {L : ev_L} {st : List ev_V} {σ : ev_M} : EB 144 8 L st σ = EO 144 [(23, 5, 0, 1, 0), (52, 6, 0, (-90), 0)] L st σ := EB_eq 144 8 L st σ
theorem bk_144_9 {L : ev_L} {st : List ev_V} {σ : ev_M} : EB 144 9 L st σ = EO 144 [(6, 0, 0, (-1), 0), (3, 4, 1, 0, 0), (6, 0, 0, 0, 0), (3, 5, 1, 0, 0), (53, 10, 0, 0, 0)] L st σ := EB_eq 144 9 L st σ
theorem bk_144_10 {L : ev_L} {st : List ev_V} {σ : ev_M} : EB 144 10 L st σ = EO 144 [(0, 5, 1, 0, 0), (1, 0, 0, 0, 0), (28, 7, 11, 0, 1), (6, 0, 0, 0, 0), (32, 0, 0, 0, 0), (43, 14, 0, 62, 0), (1, 0, 0, 0, 0), (28, 22, 11, 5, 5), (0, 5, 1, 0, 0), (34, 0, 0, 0, 0), (47, 12, 0, 42, 0), (1, 0, 0, 0, 0), (28, 19, 11, 4, 4), (0, 5, 1, 0, 0), (32, 0, 0, 0, 0), (6, 0, 0, (-1), 0), (40, 12, 0, 31, 0), (0, 4, 1, 0, 0), (6, 0, 0, (-1), 0), (40, 11, 0, 20, 0), (1, 0, 0, 0, 0), (28, 19, 11, 4, 4), (0, 5, 1, 0, 0), (32, 0, 0, 0, 0), (1, 0, 0, 0, 0), (28, 19, 11, 4, 4), (0, 4, 1, 0, 0), (32, 0, 0, 0, 0), (43, 12, 0, 8, 0), (53, 11, 0, 0, 0)] L st σ := EB_eq 144 10 L st σ
theorem bk_144_11 {L : ev_L} {st : List ev_V} {σ : ev_M} : EB 144 11 L st σ = EO 144 [(0, 5, 1, 0, 0), (52, 13, 0, 5, 0)] L st σ := EB_eq 144 11 L st σ
theorem bk_144_12 {L : ev_L} {st : List ev_V} {σ : ev_M} : EB 144 12 L st σ = EO 144 [(0, 4, 1, 0, 0), (53, 13, 0, 0, 0)] L st σ := EB_eq 144 12 L st σ
theorem bk_144_13 {L : ev_L} {st : List ev_V} {σ : ev_M} : EB 144 13 L st σ = EO 144 [(3, 4, 1, 0, 0), (23, 5, 0, 1, 0), (52, 10, 0, (-67), 0)] L st σ := EB_eq 144 13 L st σ
theorem bk_144_14 {L : ev_L} {st : List ev_V} {σ : ev_M} : EB 144 14 L st σ = EO 144 [(52, 5, 0, (-186), 0)] L st σ := EB_eq 144 14 L st σ
theorem bk_144_15 {L : ev_L} {st : List ev_V} {σ : ev_M} : EB 144 15 L st σ = EO 144 [(58, 0, 0, 0, 0)] L st σ := EB_eq 144 15 L st σ
theorem mm_145 {i0 : Int} {x1 : Int} {σ : ev_M} : EM 145 [.inr (.inl i0), .inl x1] σ = EB 145 0 [some (.inr (.inl i0)), some (.inl x1), none, none] [] σ := by
  unfold EM ev_go
  exact if_pos (Nat.le_of_ble_eq_true rfl)
theorem bk_145_0 {L : ev_L} {st : List ev_V} {σ : ev_M} : EB 145 0 L st σ = EO 145 [(1, 0, 0, 0, 0), (1, 0, 0, 0, 0), (0, 1, 0, 0, 0), (6, 0, 0, 0, 0), (59, 114, 3, 51, 11), (6, 0, 0, 0, 0), (59, 113, 3, 76, 11), (3, 2, 0, 0, 0), (1, 0, 0, 0, 0), (1, 0, 0, 0, 0), (0, 1, 0, 0, 0), (6, 0, 0, 0, 0), (59, 114, 3, 51, 11), (6, 0, 0, 1, 0), (59, 113, 3, 76, 11), (3, 3, 0, 0, 0), (1, 0, 0, 0, 0), (28, 19, 11, 4, 4), (0, 2, 0, 0, 0), (32, 0, 0, 0, 0), (6, 0, 0, (-1), 0), (40, 1, 0, 13, 0), (1, 0, 0, 0, 0), (28, 19, 11, 4, 4), (0, 3, 0, 0, 0), (32, 0, 0, 0, 0), (6, 0, 0, (-1), 0), (41, 4, 0, 19, 0), (53, 1, 0, 0, 0)] L st σ := EB_eq 145 0 L st σ
theorem bk_145_1 {L : ev_L} {st : List ev_V} {σ : ev_M} : EB 145 1 L st σ = EO 145 [(1, 0, 0, 0, 0), (28, 19, 11, 4, 4), (0, 2, 0, 0, 0), (32, 0, 0, 0, 0), (6, 0, 0, (-1), 0), (41, 2, 0, 7, 0), (0, 3, 0, 0, 0), (52, 3, 0, 4, 0)] L st σ := EB_eq 145 1 L st σ
theorem bk_145_2 {L : ev_L} {st : List ev_V} {σ : ev_M} : EB 145 2 L st σ = EO 145 [(0, 2, 0, 0, 0), (53, 3, 0, 0, 0)] L st σ := EB_eq 145 2 L st σ
theorem bk_145_3 {L : ev_L} {st : List ev_V} {σ : ev_M} : EB 145 3 L st σ = EO 145 [(56, 0, 0, 0, 0)] L st σ := EB_eq 145 3 L st σ
theorem bk_145_4 {L : ev_L} {st : List ev_V} {σ : ev_M} : EB 145 4 L st σ = EO 145 [(1, 0, 0, 0, 0), (28, 19, 11, 4, 4), (0, 2, 0, 0, 0), (32, 0, 0, 0, 0), (1, 0, 0, 0, 0), (28, 19, 11, 4, 4), (0, 3, 0, 0, 0), (32, 0, 0, 0, 0), (40, 6, 0, 26, 0), (1, 0, 0, 0, 0), (28, 19, 11, 4, 4), (0, 2, 0, 0, 0), (32, 0, 0, 0, 0), (1, 0, 0, 0, 0), (28, 19, 11, 4, 4), (0, 3, 0, 0, 0), (32, 0, 0, 0, 0), (43, 5, 0, 7, 0), (0, 2, 0, 0, 0), (52, 8, 0, 17, 0)] L st σ := EB_eq 145 4 L st σ
theorem bk_145_5 {L : ev_L} {st : List ev_V} {σ : ev_M} : EB 145 5 L st σ = EO 145 [(0, 3, 0, 0, 0), (52, 8, 0, 13, 0)] L st σ := EB_eq 145 5 L st σ
theorem bk_145_6 {L : ev_L} {st : List ev_V} {σ : ev_M} : EB 145 6 L st σ = EO 145 [(0, 2, 0, 0, 0), (0, 3, 0, 0, 0), (43, 7, 0, 7, 0), (0, 2, 0, 0, 0), (52, 8, 0, 4, 0)] L st σ := EB_eq 145 6 L st σ
theorem bk_145_7 {L : ev_L} {st : List ev_V} {σ : ev_M} : EB 145 7 L st σ = EO 145 [(0, 3, 0, 0, 0), (53, 8, 0, 0, 0)] L st σ := EB_eq 145 7 L st σ
theorem bk_145_8 {L : ev_L} {st : List ev_V} {σ : ev_M} : EB 145 8 L st σ = EO 145 [(56, 0, 0, 0, 0)] L st σ := EB_eq 145 8 L st σ
theorem mm_146 {i0 : Int} {x1 : Int} {σ : ev_M} : EM 146 [.inr (.inl i0), .inl x1] σ = EB 146 0 [some (.inr (.inl i0)), some (.inl x1), none, none] [] σ := by
  unfold EM ev_go
  exact if_pos (Nat.le_of_ble_eq_true rfl)
theorem bk_146_0 {L : ev_L} {st : List ev_V} {σ : ev_M} : EB 146 0 L st σ = EO 146 [(6, 0, 0, 0, 0), (3, 2, 0, 0, 0), (6, 0, 0, 0, 0), (3, 3, 0, 0, 0), (53, 1, 0, 0, 0)] L st σ := EB_eq 146 0 L st σ
theorem bk_146_1 {L : ev_L} {st : List ev_V} {σ : ev_M} : EB 146 1 L st σ = EO 146 [(0, 3, 0, 0, 0), (1, 0, 0, 0, 0), (27, 121, 11, 6, 0), (43, 5, 0, 29, 0), (0, 2, 0, 0, 0), (47, 2, 0, 13, 0), (1, 0, 0, 0, 0), (28, 26, 11, 7, 6), (0, 3, 0, 0, 0), (32, 0, 0, 0, 0), (0, 1, 0, 0, 0), (41, 3, 0, 7, 0), (53, 2, 0, 0, 0)] L st σ := EB_eq 146 1 L st σ
theorem bk_146_2 {L : ev_L} {st : List ev_V} {σ : ev_M} : EB 146 2 L st σ = EO 146 [(6, 0, 0, 1, 0), (52, 4, 0, 4, 0)] L st σ := EB_eq 146 2 L st σ
theorem bk_146_3 {L : ev_L} {st : List ev_V} {σ : ev_M} : EB 146 3 L st σ = EO 146 [(6, 0, 0, 0, 0), (53, 4, 0, 0, 0)] L st σ := EB_eq 146 3 L st σ
theorem bk_146_4 {L : ev_L} {st : List ev_V} {σ : ev_M} : EB 146 4 L st σ = EO 146 [(3, 2, 0, 0, 0), (23, 3, 0, 1, 0), (52, 1, 0, (-31), 0)] L st σ := EB_eq 146 4 L st σ
theorem bk_146_5 {L : ev_L} {st : List ev_V} {σ : ev_M} : EB 146 5 L st σ = EO 146 [(0, 2, 0, 0, 0), (56, 1, 0, 0, 0)] L st σ := EB_eq 146 5 L st σ
theorem mm_147 {i0 : Int} {x1 : Int} {x2 : Int} {σ : ev_M} : EM 147 [.inr (.inl i0), .inl x1, .inl x2] σ = EB 147 0 [some (.inr (.inl i0)), some (.inl x1), some (.inl x2), none, none, none, none, none, none] [] σ := by
  unfold EM ev_go
  exact if_pos (Nat.le_of_ble_eq_true rfl)
theorem bk_147_0 {L : ev_L} {st : List ev_V} {σ : ev_M} : EB 147 0 L st σ = EO 147 [(1, 0, 0, 0, 0), (6, 0, 0, 0, 0), (30, 121, 11, 6, 0), (0, 1, 0, 0, 0), (3, 3, 0, 0, 0), (0, 2, 0, 0, 0), (3, 4, 1, 0, 0), (6, 0, 0, 1, 0), (3, 5, 1, 0, 0), (53, 1, 0, 0, 0)] L st σ := EB_eq 147 0 L st σ
theorem bk_147_1 {L : ev_L} {st : List ev_V} {σ : ev_M} : EB 147 1 L st σ = EO 147 [(0, 5, 1, 0, 0), (46, 14, 0, 220, 0), (1, 0, 0, 0, 0), (0, 3, 0, 0, 0), (6, 1, 0, 12, 0), (6, 0, 0, (-1), 0), (59, 144, 4, 124, 11), (6, 0, 0, (-1), 0), (3, 6, 1, 0, 0), (1, 0, 0, 0, 0), (28, 7, 11, 0, 1), (6, 0, 0, 2, 0), (32, 0, 0, 0, 0), (6, 0, 0, 1, 0), (11, 0, 0, 0, 0), (3, 7, 1, 0, 0), (53, 2, 0, 0, 0)] L st σ := EB_eq 147 1 L st σ
theorem bk_147_2 {L : ev_L} {st : List ev_V} {σ : ev_M} : EB 147 2 L st σ = EO 147 [(0, 7, 1, 0, 0), (48, 8, 0, 94, 0), (1, 0, 0, 0, 0), (0, 7, 1, 0, 0), (59, 119, 2, 91, 11), (46, 3, 0, 31, 0), (1, 0, 0, 0, 0), (0, 7, 1, 0, 0), (59, 146, 2, 127, 11), (47, 3, 0, 22, 0), (1, 0, 0, 0, 0), (28, 19, 11, 4, 4), (1, 0, 0, 0, 0), (0, 7, 1, 0, 0), (59, 145, 2, 130, 11), (32, 0, 0, 0, 0), (6, 0, 0, (-1), 0), (40, 3, 0, 7, 0), (6, 0, 0, 1, 0), (52, 4, 0, 4, 0)] L st σ := EB_eq 147 2 L st σ
theorem bk_147_3 {L : ev_L} {st : List ev_V} {σ : ev_M} : EB 147 3 L st σ = EO 147 [(6, 0, 0, 0, 0), (53, 4, 0, 0, 0)] L st σ := EB_eq 147 3 L st σ
theorem bk_147_4 {L : ev_L} {st : List ev_V} {σ : ev_M} : EB 147 4 L st σ = EO 147 [(3, 8, 1, 0, 0), (0, 8, 1, 0, 0), (46, 6, 0, 39, 0), (0, 6, 1, 0, 0), (6, 0, 0, (-1), 0), (40, 5, 0, 28, 0), (1, 0, 0, 0, 0), (28, 19, 11, 4, 4), (1, 0, 0, 0, 0), (0, 7, 1, 0, 0), (59, 145, 2, 130, 11), (32, 0, 0, 0, 0), (1, 0, 0, 0, 0), (28, 19, 11, 4, 4), (1, 0, 0, 0, 0), (0, 6, 1, 0, 0), (59, 145, 2, 130, 11), (32, 0, 0, 0, 0), (44, 6, 0, 8, 0), (53, 5, 0, 0, 0)] L st σ := EB_eq 147 4 L st σ
theorem bk_147_5 {L : ev_L} {st : List ev_V} {σ : ev_M} : EB 147 5 L st σ = EO 147 [(0, 7, 1, 0, 0), (52, 7, 0, 5, 0)] L st σ := EB_eq 147 5 L st σ
theorem bk_147_6 {L : ev_L} {st : List ev_V} {σ : ev_M} : EB 147 6 L st σ = EO 147 [(0, 6, 1, 0, 0), (53, 7, 0, 0, 0)] L st σ := EB_eq 147 6 L st σ
theorem bk_147_7 {L : ev_L} {st : List ev_V} {σ : ev_M} : EB 147 7 L st σ = EO 147 [(3, 6, 1, 0, 0), (23, 7, 0, (-1), 0), (52, 2, 0, (-93), 0)] L st σ := EB_eq 147 7 L st σ
theorem bk_147_8 {L : ev_L} {st : List ev_V} {σ : ev_M} : EB 147 8 L st σ = EO 147 [(0, 6, 1, 0, 0), (6, 0, 0, (-1), 0), (41, 9, 0, 7, 0), (6, 0, 0, 0, 0), (52, 10, 0, 22, 0)] L st σ := EB_eq 147 8 L st σ
theorem bk_147_9 {L : ev_L} {st : List ev_V} {σ : ev_M} : EB 147 9 L st σ = EO 147 [(1, 0, 0, 0, 0), (28, 19, 11, 4, 4), (1, 0, 0, 0, 0), (0, 6, 1, 0, 0), (59, 145, 2, 130, 11), (32, 0, 0, 0, 0), (6, 1, 0, 9, 0), (10, 0, 0, 0, 0), (6, 1, 0, 10, 0), (13, 0, 0, 0, 0), (6, 0, 0, 4, 0), (10, 0, 0, 0, 0), (53, 10, 0, 0, 0)] L st σ := EB_eq 147 9 L st σ
theorem bk_147_10 {L : ev_L} {st : List ev_V} {σ : ev_M} : EB 147 10 L st σ = EO 147 [(3, 7, 1, 0, 0), (0, 6, 1, 0, 0), (6, 0, 0, (-1), 0), (40, 11, 0, 14, 0), (0, 7, 1, 0, 0), (0, 4, 1, 0, 0), (44, 11, 0, 7, 0), (6, 0, 0, 1, 0), (52, 12, 0, 4, 0)] L st σ := EB_eq 147 10 L st σ
theorem bk_147_11 {L : ev_L} {st : List ev_V} {σ : ev_M} : EB 147 11 L st σ = EO 147 [(6, 0, 0, 0, 0), (53, 12, 0, 0, 0)] L st σ := EB_eq 147 11 L st σ
theorem bk_147_12 {L : ev_L} {st : List ev_V} {σ : ev_M} : EB 147 12 L st σ = EO 147 [(3, 5, 1, 0, 0), (0, 5, 1, 0, 0), (46, 13, 0, 44, 0), (1, 0, 0, 0, 0), (0, 6, 1, 0, 0), (59, 145, 2, 130, 11), (3, 3, 0, 0, 0), (0, 4, 1, 0, 0), (0, 7, 1, 0, 0), (11, 0, 0, 0, 0), (3, 4, 1, 0, 0), (1, 0, 0, 0, 0), (0, 6, 1, 0, 0), (59, 140, 2, 112, 11), (1, 0, 0, 0, 0), (28, 26, 11, 7, 6), (1, 0, 0, 0, 0), (27, 121, 11, 6, 0), (0, 6, 1, 0, 0), (33, 0, 0, 0, 0), (1, 0, 0, 0, 0), (24, 0, 0, 0, 0), (27, 121, 11, 6, 0), (6, 0, 0, 1, 0), (10, 0, 0, 0, 0), (30, 121, 11, 6, 0), (53, 13, 0, 0, 0)] L st σ := EB_eq 147 12 L st σ
theorem bk_147_13 {L : ev_L} {st : List ev_V} {σ : ev_M} : EB 147 13 L st σ = EO 147 [(52, 1, 0, (-219), 0)] L st σ := EB_eq 147 13 L st σ
theorem bk_147_14 {L : ev_L} {st : List ev_V} {σ : ev_M} : EB 147 14 L st σ = EO 147 [(58, 0, 0, 0, 0)] L st σ := EB_eq 147 14 L st σ
theorem mm_148 {i0 : Int} {x1 : Int} {x2 : Int} {σ : ev_M} : EM 148 [.inr (.inl i0), .inl x1, .inl x2] σ = EB 148 0 [some (.inr (.inl i0)), some (.inl x1), some (.inl x2)] [] σ := by
  unfold EM ev_go
  exact if_pos (Nat.le_of_ble_eq_true rfl)
theorem bk_148_0 {L : ev_L} {st : List ev_V} {σ : ev_M} : EB 148 0 L st σ = EO 148 [(1, 0, 0, 0, 0), (0, 1, 0, 0, 0), (59, 109, 2, 66, 11), (47, 1, 0, 6, 0), (6, 1, 0, (-2), 0), (56, 0, 0, 0, 0)] L st σ := EB_eq 148 0 L st σ
theorem bk_148_1 {L : ev_L} {st : List ev_V} {σ : ev_M} : EB 148 1 L st σ = EO 148 [(0, 2, 0, 0, 0), (6, 0, 0, 1, 0), (6, 2, 0, 200, 0), (60, 106, 3, 43, 0), (47, 2, 0, 6, 0), (6, 1, 0, (-3), 0), (56, 0, 0, 0, 0)] L st σ := EB_eq 148 1 L st σ
theorem bk_148_2 {L : ev_L} {st : List ev_V} {σ : ev_M} : EB 148 2 L st σ = EO 148 [(1, 0, 0, 0, 0), (59, 108, 1, 63, 11), (1, 0, 0, 0, 0), (0, 1, 0, 0, 0), (0, 2, 0, 0, 0), (59, 147, 3, 133, 11), (1, 0, 0, 0, 0), (27, 121, 11, 6, 0), (56, 0, 0, 0, 0)] L st σ := EB_eq 148 2 L st σ
theorem mm_149 {i0 : Int} {x1 : Int} {x2 : Int} {x3 : Int} {σ : ev_M} : EM 149 [.inr (.inl i0), .inl x1, .inl x2, .inl x3] σ = EB 149 0 [some (.inr (.inl i0)), some (.inl x1), some (.inl x2), some (.inl x3)] [] σ := by
  unfold EM ev_go
  exact if_pos (Nat.le_of_ble_eq_true rfl)
theorem bk_149_0 {L : ev_L} {st : List ev_V} {σ : ev_M} : EB 149 0 L st σ = EO 149 [(1, 0, 0, 0, 0), (0, 1, 0, 0, 0), (59, 109, 2, 66, 11), (47, 1, 0, 6, 0), (6, 1, 0, (-2), 0), (56, 0, 0, 0, 0)] L st σ := EB_eq 149 0 L st σ
theorem bk_149_1 {L : ev_L} {st : List ev_V} {σ : ev_M} : EB 149 1 L st σ = EO 149 [(0, 2, 0, 0, 0), (6, 0, 0, 1, 0), (6, 2, 0, 200, 0), (60, 106, 3, 43, 0), (46, 2, 0, 7, 0), (0, 3, 0, 0, 0), (49, 3, 0, 6, 0), (53, 2, 0, 0, 0)] L st σ := EB_eq 149 1 L st σ
theorem bk_149_2 {L : ev_L} {st : List ev_V} {σ : ev_M} : EB 149 2 L st σ = EO 149 [(6, 1, 0, (-3), 0), (56, 0, 0, 0, 0)] L st σ := EB_eq 149 2 L st σ
theorem bk_149_3 {L : ev_L} {st : List ev_V} {σ : ev_M} : EB 149 3 L st σ = EO 149 [(1, 0, 0, 0, 0), (6, 0, 0, 0, 0), (6, 1, 0, 6, 0), (59, 107, 3, 39, 11), (1, 0, 0, 0, 0), (0, 1, 0, 0, 0), (0, 2, 0, 0, 0), (59, 147, 3, 133, 11), (1, 0, 0, 0, 0), (6, 1, 0, 6, 0), (6, 0, 0, 0, 0), (59, 107, 3, 39, 11), (0, 3, 0, 0, 0), (1, 0, 0, 0, 0), (27, 121, 11, 6, 0), (43, 4, 0, 12, 0), (1, 0, 0, 0, 0), (28, 26, 11, 7, 6), (0, 3, 0, 0, 0), (32, 0, 0, 0, 0), (52, 5, 0, 4, 0)] L st σ := EB_eq 149 3 L st σ
theorem bk_149_4 {L : ev_L} {st : List ev_V} {σ : ev_M} : EB 149 4 L st σ = EO 149 [(6, 0, 0, (-1), 0), (53, 5, 0, 0, 0)] L st σ := EB_eq 149 4 L st σ
theorem bk_149_5 {L : ev_L} {st : List ev_V} {σ : ev_M} : EB 149 5 L st σ = EO 149 [(56, 0, 0, 0, 0)] L st σ := EB_eq 149 5 L st σ
theorem mm_150 {i0 : Int} {x1 : Int} {σ : ev_M} : EM 150 [.inr (.inl i0), .inl x1] σ = EB 150 0 [some (.inr (.inl i0)), some (.inl x1), none, none] [] σ := by
  unfold EM ev_go
  exact if_pos (Nat.le_of_ble_eq_true rfl)
theorem bk_150_0 {L : ev_L} {st : List ev_V} {σ : ev_M} : EB 150 0 L st σ = EO 150 [(1, 0, 0, 0, 0), (0, 1, 0, 0, 0), (59, 111, 2, 47, 11), (47, 1, 0, 6, 0), (6, 1, 0, (-2), 0), (56, 0, 0, 0, 0)] L st σ := EB_eq 150 0 L st σ
theorem bk_150_1 {L : ev_L} {st : List ev_V} {σ : ev_M} : EB 150 1 L st σ = EO 150 [(1, 0, 0, 0, 0), (6, 0, 0, 0, 0), (6, 1, 0, 6, 0), (59, 107, 3, 39, 11), (1, 0, 0, 0, 0), (0, 1, 0, 0, 0), (59, 117, 2, 94, 11), (3, 2, 0, 0, 0), (6, 0, 0, 0, 0), (3, 3, 0, 0, 0), (53, 2, 0, 0, 0)] L st σ := EB_eq 150 1 L st σ
theorem bk_150_2 {L : ev_L} {st : List ev_V} {σ : ev_M} : EB 150 2 L st σ = EO 150 [(0, 3, 0, 0, 0), (6, 2, 0, 1000, 0), (44, 3, 0, 23, 0), (1, 0, 0, 0, 0), (0, 1, 0, 0, 0), (59, 117, 2, 94, 11), (0, 2, 0, 0, 0), (42, 3, 0, 14, 0), (1, 0, 0, 0, 0), (0, 1, 0, 0, 0), (59, 138, 2, 109, 11), (23, 3, 0, 1, 0), (52, 2, 0, (-24), 0)] L st σ := EB_eq 150 2 L st σ
theorem bk_150_3 {L : ev_L} {st : List ev_V} {σ : ev_M} : EB 150 3 L st σ = EO 150 [(1, 0, 0, 0, 0), (6, 1, 0, 6, 0), (6, 0, 0, 0, 0), (59, 107, 3, 39, 11), (0, 3, 0, 0, 0), (6, 2, 0, 1000, 0), (44, 4, 0, 7, 0), (0, 3, 0, 0, 0), (52, 5, 0, 4, 0)] L st σ := EB_eq 150 3 L st σ
theorem bk_150_4 {L : ev_L} {st : List ev_V} {σ : ev_M} : EB 150 4 L st σ = EO 150 [(6, 0, 0, (-1), 0), (53, 5, 0, 0, 0)] L st σ := EB_eq 150 4 L st σ
theorem bk_150_5 {L : ev_L} {st : List ev_V} {σ : ev_M} : EB 150 5 L st σ = EO 150 [(56, 0, 0, 0, 0)] L st σ := EB_eq 150 5 L st σ
theorem mm_151 {x0 : Int} {σ : ev_M} : EM 151 [.inl x0] σ = EB 151 0 [some (.inl x0)] [] σ := by
  unfold EM ev_go
  exact if_pos (Nat.le_of_ble_eq_true rfl)
theorem bk_151_0 {L : ev_L} {st : List ev_V} {σ : ev_M} : EB 151 0 L st σ = EO 151 [(0, 0, 0, 0, 0), (6, 0, 0, 1, 0), (6, 1, 0, 60, 0), (60, 106, 3, 43, 0), (56, 1, 0, 0, 0)] L st σ := EB_eq 151 0 L st σ
theorem mm_152 {i0 : Int} {x1 : Int} {x2 : Int} {x3 : Int} {σ : ev_M} : EM 152 [.inr (.inl i0), .inl x1, .inl x2, .inl x3] σ = EB 152 0 [some (.inr (.inl i0)), some (.inl x1), some (.inl x2), some (.inl x3)] [] σ := by
  unfold EM ev_go
  exact if_pos (Nat.le_of_ble_eq_true rfl)
theorem bk_152_0 {L : ev_L} {st : List ev_V} {σ : ev_M} : EB 152 0 L st σ = EO 152 [(1, 0, 0, 0, 0), (0, 1, 0, 0, 0), (59, 109, 2, 66, 11), (46, 1, 0, 11, 0), (1, 0, 0, 0, 0), (0, 2, 0, 0, 0), (59, 109, 2, 66, 11), (47, 2, 0, 6, 0), (53, 1, 0, 0, 0)] L st σ := EB_eq 152 0 L st σ
theorem bk_152_1 {L : ev_L} {st : List ev_V} {σ : ev_M} : EB 152 1 L st σ = EO 152 [(6, 1, 0, (-2), 0), (56, 0, 0, 0, 0)] L st σ := EB_eq 152 1 L st σ
theorem bk_152_2 {L : ev_L} {st : List ev_V} {σ : ev_M} : EB 152 2 L st σ = EO 152 [(0, 3, 0, 0, 0), (60, 151, 1, 136, 0), (47, 3, 0, 6, 0), (6, 1, 0, (-3), 0), (56, 0, 0, 0, 0)] L st σ := EB_eq 152 2 L st σ
theorem bk_152_3 {L : ev_L} {st : List ev_V} {σ : ev_M} : EB 152 3 L st σ = EO 152 [(1, 0, 0, 0, 0), (0, 1, 0, 0, 0), (0, 3, 0, 0, 0), (6, 0, 0, (-1), 0), (59, 144, 4, 124, 11), (1, 0, 0, 0, 0), (28, 19, 11, 4, 4), (0, 2, 0, 0, 0), (32, 0, 0, 0, 0), (56, 0, 0, 0, 0)] L st σ := EB_eq 152 3 L st σ
theorem mm_153 {i0 : Int} {x1 : Int} {x2 : Int} {σ : ev_M} : EM 153 [.inr (.inl i0), .inl x1, .inl x2] σ = EB 153 0 [some (.inr (.inl i0)), some (.inl x1), some (.inl x2), none, none, none, none] [] σ := by
  unfold EM ev_go
  exact if_pos (Nat.le_of_ble_eq_true rfl)
theorem bk_153_0 {L : ev_L} {st : List ev_V} {σ : ev_M} : EB 153 0 L st σ = EO 153 [(6, 0, 0, (-1), 0), (3, 3, 0, 0, 0), (6, 0, 0, 0, 0), (3, 4, 1, 0, 0), (53, 1, 0, 0, 0)] L st σ := EB_eq 153 0 L st σ
theorem bk_153_1 {L : ev_L} {st : List ev_V} {σ : ev_M} : EB 153 1 L st σ = EO 153 [(0, 4, 1, 0, 0), (1, 0, 0, 0, 0), (28, 7, 11, 0, 1), (6, 0, 0, 1, 0), (32, 0, 0, 0, 0), (43, 7, 0, 100, 0), (1, 0, 0, 0, 0), (0, 4, 1, 0, 0), (0, 1, 0, 0, 0), (59, 143, 3, 115, 11), (3, 5, 1, 0, 0), (0, 5, 1, 0, 0), (6, 0, 0, (-1), 0), (40, 2, 0, 53, 0), (1, 0, 0, 0, 0), (0, 4, 1, 0, 0), (0, 2, 0, 0, 0), (6, 0, 0, (-1), 0), (59, 142, 4, 118, 11), (46, 2, 0, 42, 0), (1, 0, 0, 0, 0), (28, 19, 11, 4, 4), (0, 5, 1, 0, 0), (32, 0, 0, 0, 0), (6, 0, 0, (-1), 0), (40, 2, 0, 31, 0), (1, 0, 0, 0, 0), (28, 19, 11, 4, 4), (0, 5, 1, 0, 0), (32, 0, 0, 0, 0), (1, 0, 0, 0, 0), (0, 4, 1, 0, 0), (6, 0, 0, 2, 0), (59, 113, 3, 76, 11), (10, 0, 0, 0, 0), (1, 0, 0, 0, 0), (28, 19, 11, 4, 4), (0, 1, 0, 0, 0), (32, 0, 0, 0, 0), (41, 2, 0, 7, 0), (6, 0, 0, 1, 0), (52, 3, 0, 4, 0)] L st σ := EB_eq 153 1 L st σ
theorem bk_153_2 {L : ev_L} {st : List ev_V} {σ : ev_M} : EB 153 2 L st σ = EO 153 [(6, 0, 0, 0, 0), (53, 3, 0, 0, 0)] L st σ := EB_eq 153 2 L st σ
theorem bk_153_3 {L : ev_L} {st : List ev_V} {σ : ev_M} : EB 153 3 L st σ = EO 153 [(3, 6, 1, 0, 0), (0, 6, 1, 0, 0), (46, 5, 0, 19, 0), (0, 3, 0, 0, 0), (6, 0, 0, (-1), 0), (40, 4, 0, 9, 0), (0, 5, 1, 0, 0), (0, 3, 0, 0, 0), (43, 5, 0, 8, 0), (53, 4, 0, 0, 0)] L st σ := EB_eq 153 3 L st σ
theorem bk_153_4 {L : ev_L} {st : List ev_V} {σ : ev_M} : EB 153 4 L st σ = EO 153 [(0, 5, 1, 0, 0), (52, 6, 0, 4, 0)] L st σ := EB_eq 153 4 L st σ
theorem bk_153_5 {L : ev_L} {st : List ev_V} {σ : ev_M} : EB 153 5 L st σ = EO 153 [(0, 3, 0, 0, 0), (53, 6, 0, 0, 0)] L st σ := EB_eq 153 5 L st σ
theorem bk_153_6 {L : ev_L} {st : List ev_V} {σ : ev_M} : EB 153 6 L st σ = EO 153 [(3, 3, 0, 0, 0), (23, 4, 0, 1, 0), (52, 1, 0, (-105), 0)] L st σ := EB_eq 153 6 L st σ
theorem bk_153_7 {L : ev_L} {st : List ev_V} {σ : ev_M} : EB 153 7 L st σ = EO 153 [(0, 3, 0, 0, 0), (56, 0, 0, 0, 0)] L st σ := EB_eq 153 7 L st σ
theorem mm_154 {i0 : Int} {x1 : Int} {x2 : Int} {x3 : Int} {x4 : Int} {σ : ev_M} : EM 154 [.inr (.inl i0), .inl x1, .inl x2, .inl x3, .inl x4] σ = EB 154 0 [some (.inr (.inl i0)), some (.inl x1), some (.inl x2), some (.inl x3), some (.inl x4), none, none, none] [] σ := by
  unfold EM ev_go
  exact if_pos (Nat.le_of_ble_eq_true rfl)
theorem bk_154_0 {L : ev_L} {st : List ev_V} {σ : ev_M} : EB 154 0 L st σ = EO 154 [(1, 0, 0, 0, 0), (0, 1, 0, 0, 0), (59, 109, 2, 66, 11), (46, 1, 0, 11, 0), (1, 0, 0, 0, 0), (0, 2, 0, 0, 0), (59, 109, 2, 66, 11), (47, 2, 0, 6, 0), (53, 1, 0, 0, 0)] L st σ := EB_eq 154 0 L st σ
theorem bk_154_1 {L : ev_L} {st : List ev_V} {σ : ev_M} : EB 154 1 L st σ = EO 154 [(6, 1, 0, (-2), 0), (56, 0, 0, 0, 0)] L st σ := EB_eq 154 1 L st σ
theorem bk_154_2 {L : ev_L} {st : List ev_V} {σ : ev_M} : EB 154 2 L st σ = EO 154 [(0, 3, 0, 0, 0), (60, 151, 1, 136, 0), (46, 3, 0, 8, 0), (0, 4, 1, 0, 0), (49, 4, 0, 6, 0), (53, 3, 0, 0, 0)] L st σ := EB_eq 154 2 L st σ
theorem bk_154_3 {L : ev_L} {st : List ev_V} {σ : ev_M} : EB 154 3 L st σ = EO 154 [(6, 1, 0, (-3), 0), (56, 0, 0, 0, 0)] L st σ := EB_eq 154 3 L st σ
theorem bk_154_4 {L : ev_L} {st : List ev_V} {σ : ev_M} : EB 154 4 L st σ = EO 154 [(1, 0, 0, 0, 0), (0, 1, 0, 0, 0), (0, 3, 0, 0, 0), (6, 0, 0, (-1), 0), (59, 144, 4, 124, 11), (1, 0, 0, 0, 0), (28, 19, 11, 4, 4), (0, 2, 0, 0, 0), (32, 0, 0, 0, 0), (6, 0, 0, (-1), 0), (41, 5, 0, 5, 0), (6, 0, 0, (-1), 0), (56, 0, 0, 0, 0)] L st σ := EB_eq 154 4 L st σ
theorem bk_154_5 {L : ev_L} {st : List ev_V} {σ : ev_M} : EB 154 5 L st σ = EO 154 [(6, 0, 0, 0, 0), (3, 5, 1, 0, 0), (0, 2, 0, 0, 0), (3, 6, 1, 0, 0), (53, 6, 0, 0, 0)] L st σ := EB_eq 154 5 L st σ
theorem bk_154_6 {L : ev_L} {st : List ev_V} {σ : ev_M} : EB 154 6 L st σ = EO 154 [(0, 6, 1, 0, 0), (0, 1, 0, 0, 0), (40, 7, 0, 18, 0), (1, 0, 0, 0, 0), (0, 6, 1, 0, 0), (0, 3, 0, 0, 0), (59, 153, 3, 139, 11), (3, 6, 1, 0, 0), (23, 5, 0, 1, 0), (52, 6, 0, (-18), 0)] L st σ := EB_eq 154 6 L st σ
theorem bk_154_7 {L : ev_L} {st : List ev_V} {σ : ev_M} : EB 154 7 L st σ = EO 154 [(0, 4, 1, 0, 0), (0, 5, 1, 0, 0), (45, 8, 0, 5, 0), (6, 0, 0, (-1), 0), (56, 0, 0, 0, 0)] L st σ := EB_eq 154 7 L st σ
theorem bk_154_8 {L : ev_L} {st : List ev_V} {σ : ev_M} : EB 154 8 L st σ = EO 154 [(0, 2, 0, 0, 0), (3, 6, 1, 0, 0), (0, 5, 1, 0, 0), (3, 7, 1, 0, 0), (53, 9, 0, 0, 0)] L st σ := EB_eq 154 8 L st σ
theorem bk_154_9 {L : ev_L} {st : List ev_V} {σ : ev_M} : EB 154 9 L st σ = EO 154 [(0, 7, 1, 0, 0), (0, 4, 1, 0, 0), (45, 10, 0, 18, 0), (1, 0, 0, 0, 0), (0, 6, 1, 0, 0), (0, 3, 0, 0, 0), (59, 153, 3, 139, 11), (3, 6, 1, 0, 0), (23, 7, 0, (-1), 0), (52, 9, 0, (-19), 0)] L st σ := EB_eq 154 9 L st σ
theorem bk_154_10 {L : ev_L} {st : List ev_V} {σ : ev_M} : EB 154 10 L st σ = EO 154 [(0, 6, 1, 0, 0), (56, 0, 0, 0, 0)] L st σ := EB_eq 154 10 L st σ
theorem mm_155 {i0 : Int} {x1 : Int} {x2 : Int} {σ : ev_M} : EM 155 [.inr (.inl i0), .inl x1, .inl x2] σ = EB 155 0 [some (.inr (.inl i0)), some (.inl x1), some (.inl x2), none, none] [] σ := by
  unfold EM ev_go
  exact if_pos (Nat.le_of_ble_eq_true rfl)
theorem bk_155_0 {L : ev_L} {st : List ev_V} {σ : ev_M} : EB 155 0 L st σ = EO 155 [(1, 0, 0, 0, 0), (0, 1, 0, 0, 0), (59, 111, 2, 47, 11), (47, 1, 0, 6, 0), (6, 1, 0, (-2), 0), (56, 0, 0, 0, 0)] L st σ := EB_eq 155 0 L st σ
theorem bk_155_1 {L : ev_L} {st : List ev_V} {σ : ev_M} : EB 155 1 L st σ = EO 155 [(0, 2, 0, 0, 0), (60, 151, 1, 136, 0), (47, 2, 0, 6, 0), (6, 1, 0, (-3), 0), (56, 0, 0, 0, 0)] L st σ := EB_eq 155 1 L st σ
theorem bk_155_2 {L : ev_L} {st : List ev_V} {σ : ev_M} : EB 155 2 L st σ = EO 155 [(1, 0, 0, 0, 0), (0, 1, 0, 0, 0), (6, 0, 0, 0, 0), (59, 114, 3, 51, 11), (3, 3, 0, 0, 0), (1, 0, 0, 0, 0), (1, 0, 0, 0, 0), (0, 3, 0, 0, 0), (6, 0, 0, 0, 0), (59, 113, 3, 76, 11), (0, 2, 0, 0, 0), (0, 3, 0, 0, 0), (59, 144, 4, 124, 11), (1, 0, 0, 0, 0), (28, 19, 11, 4, 4), (1, 0, 0, 0, 0), (0, 3, 0, 0, 0), (6, 0, 0, 1, 0), (59, 113, 3, 76, 11), (32, 0, 0, 0, 0), (3, 4, 1, 0, 0), (0, 4, 1, 0, 0), (6, 0, 0, (-1), 0), (41, 3, 0, 7, 0), (6, 0, 0, (-1), 0), (52, 4, 0, 16, 0)] L st σ := EB_eq 155 2 L st σ
theorem bk_155_3 {L : ev_L} {st : List ev_V} {σ : ev_M} : EB 155 3 L st σ = EO 155 [(6, 2, 0, 1000, 0), (0, 4, 1, 0, 0), (10, 0, 0, 0, 0), (1, 0, 0, 0, 0), (0, 3, 0, 0, 0), (6, 0, 0, 2, 0), (59, 113, 3, 76, 11), (11, 0, 0, 0, 0), (53, 4, 0, 0, 0)] L st σ := EB_eq 155 3 L st σ
theorem bk_155_4 {L : ev_L} {st : List ev_V} {σ : ev_M} : EB 155 4 L st σ = EO 155 [(56, 0, 0, 0, 0)] L st σ := EB_eq 155 4 L st σ
theorem mm_156 {i0 : Int} {x1 : Int} {x2 : Int} {σ : ev_M} : EM 156 [.inr (.inl i0), .inl x1, .inl x2] σ = EB 156 0 [some (.inr (.inl i0)), some (.inl x1), some (.inl x2), none] [] σ := by
  unfold EM ev_go
  exact if_pos (Nat.le_of_ble_eq_true rfl)
theorem bk_156_0 {L : ev_L} {st : List ev_V} {σ : ev_M} : EB 156 0 L st σ = EO 156 [(1, 0, 0, 0, 0), (0, 1, 0, 0, 0), (59, 109, 2, 66, 11), (46, 1, 0, 11, 0), (1, 0, 0, 0, 0), (0, 2, 0, 0, 0), (59, 109, 2, 66, 11), (47, 2, 0, 6, 0), (53, 1, 0, 0, 0)] L st σ := EB_eq 156 0 L st σ
theorem bk_156_1 {L : ev_L} {st : List ev_V} {σ : ev_M} : EB 156 1 L st σ = EO 156 [(6, 1, 0, (-2), 0), (56, 0, 0, 0, 0)] L st σ := EB_eq 156 1 L st σ
theorem bk_156_2 {L : ev_L} {st : List ev_V} {σ : ev_M} : EB 156 2 L st σ = EO 156 [(0, 1, 0, 0, 0), (0, 2, 0, 0, 0), (41, 3, 0, 6, 0), (6, 1, 0, (-4), 0), (56, 0, 0, 0, 0)] L st σ := EB_eq 156 2 L st σ
theorem bk_156_3 {L : ev_L} {st : List ev_V} {σ : ev_M} : EB 156 3 L st σ = EO 156 [(6, 1, 0, 60, 0), (3, 3, 0, 0, 0), (1, 0, 0, 0, 0), (0, 1, 0, 0, 0), (0, 3, 0, 0, 0), (6, 0, 0, (-1), 0), (59, 144, 4, 124, 11), (53, 4, 0, 0, 0)] L st σ := EB_eq 156 3 L st σ
theorem bk_156_4 {L : ev_L} {st : List ev_V} {σ : ev_M} : EB 156 4 L st σ = EO 156 [(0, 3, 0, 0, 0), (51, 5, 0, 26, 0), (1, 0, 0, 0, 0), (28, 19, 11, 4, 4), (0, 2, 0, 0, 0), (32, 0, 0, 0, 0), (6, 0, 0, (-1), 0), (41, 5, 0, 16, 0), (23, 3, 0, (-1), 0), (1, 0, 0, 0, 0), (0, 1, 0, 0, 0), (0, 3, 0, 0, 0), (6, 0, 0, (-1), 0), (59, 144, 4, 124, 11), (52, 4, 0, (-24), 0)] L st σ := EB_eq 156 4 L st σ
theorem bk_156_5 {L : ev_L} {st : List ev_V} {σ : ev_M} : EB 156 5 L st σ = EO 156 [(0, 3, 0, 0, 0), (51, 6, 0, 7, 0), (0, 3, 0, 0, 0), (52, 7, 0, 4, 0)] L st σ := EB_eq 156 5 L st σ
theorem bk_156_6 {L : ev_L} {st : List ev_V} {σ : ev_M} : EB 156 6 L st σ = EO 156 [(6, 0, 0, (-1), 0), (53, 7, 0, 0, 0)] L st σ := EB_eq 156 6 L st σ
theorem bk_156_7 {L : ev_L} {st : List ev_V} {σ : ev_M} : EB 156 7 L st σ = EO 156 [(56, 0, 0, 0, 0)] L st σ := EB_eq 156 7 L st σ
theorem mm_157 {i0 : Int} {x1 : Int} {x2 : Int} {x3 : Int} {x4 : Int} {x5 : Int} {σ : ev_M} : EM 157 [.inr (.inl i0), .inl x1, .inl x2, .inl x3, .inl x4, .inl x5] σ = EB 157 0 [some (.inr (.inl i0)), some (.inl x1), some (.inl x2), some (.inl x3), some (.inl x4), some (.inl x5), none] [] σ := by
  unfold EM ev_go
  exact if_pos (Nat.le_of_ble_eq_true rfl)
theorem bk_157_0 {L : ev_L} {st : List ev_V} {σ : ev_M} : EB 157 0 L st σ = EO 157 [(0, 1, 0, 0, 0), (6, 0, 0, 0, 0), (6, 2, 0, 999, 0), (60, 106, 3, 43, 0), (46, 1, 0, 45, 0), (0, 2, 0, 0, 0), (6, 0, 0, 1, 0), (6, 1, 0, 99, 0), (60, 106, 3, 43, 0), (46, 1, 0, 35, 0), (0, 3, 0, 0, 0), (6, 0, 0, 1, 0), (6, 1, 0, 99, 0), (60, 106, 3, 43, 0), (46, 1, 0, 25, 0), (0, 4, 1, 0, 0), (6, 0, 0, 1, 0), (6, 1, 0, 99, 0), (60, 106, 3, 43, 0), (46, 1, 0, 14, 0), (0, 5, 1, 0, 0), (6, 0, 0, 1, 0), (6, 1, 0, 99, 0), (60, 106, 3, 43, 0), (47, 2, 0, 6, 0), (53, 1, 0, 0, 0)] L st σ := EB_eq 157 0 L st σ
theorem bk_157_1 {L : ev_L} {st : List ev_V} {σ : ev_M} : EB 157 1 L st σ = EO 157 [(6, 1, 0, (-3), 0), (56, 0, 0, 0, 0)] L st σ := EB_eq 157 1 L st σ
theorem bk_157_2 {L : ev_L} {st : List ev_V} {σ : ev_M} : EB 157 2 L st σ = EO 157 [(1, 0, 0, 0, 0), (28, 7, 11, 0, 1), (6, 0, 0, 4, 0), (32, 0, 0, 0, 0), (6, 0, 0, 3, 0), (41, 3, 0, 6, 0), (6, 1, 0, (-5), 0), (56, 0, 0, 0, 0)] L st σ := EB_eq 157 2 L st σ
theorem bk_157_3 {L : ev_L} {st : List ev_V} {σ : ev_M} : EB 157 3 L st σ = EO 157 [(1, 0, 0, 0, 0), (59, 108, 1, 63, 11), (6, 2, 0, 323, 0), (6, 0, 0, 5, 0), (1, 0, 0, 0, 0), (28, 7, 11, 0, 1), (6, 0, 0, 4, 0), (32, 0, 0, 0, 0), (12, 0, 0, 0, 0), (10, 0, 0, 0, 0), (3, 6, 1, 0, 0), (1, 0, 0, 0, 0), (28, 7, 11, 0, 1), (0, 6, 1, 0, 0), (0, 1, 0, 0, 0), (33, 0, 0, 0, 0), (1, 0, 0, 0, 0), (28, 7, 11, 0, 1), (0, 6, 1, 0, 0), (6, 0, 0, 1, 0), (10, 0, 0, 0, 0), (0, 2, 0, 0, 0), (33, 0, 0, 0, 0), (1, 0, 0, 0, 0), (28, 7, 11, 0, 1), (0, 6, 1, 0, 0), (6, 0, 0, 2, 0), (10, 0, 0, 0, 0), (0, 3, 0, 0, 0), (33, 0, 0, 0, 0), (1, 0, 0, 0, 0), (28, 7, 11, 0, 1), (0, 6, 1, 0, 0), (6, 0, 0, 3, 0), (10, 0, 0, 0, 0), (0, 4, 1, 0, 0), (33, 0, 0, 0, 0), (1, 0, 0, 0, 0), (28, 7, 11, 0, 1), (0, 6, 1, 0, 0), (6, 0, 0, 4, 0), (10, 0, 0, 0, 0), (0, 5, 1, 0, 0), (33, 0, 0, 0, 0), (1, 0, 0, 0, 0), (28, 7, 11, 0, 1), (6, 0, 0, 4, 0), (25, 0, 0, 0, 0), (32, 0, 0, 0, 0), (6, 0, 0, 1, 0), (10, 0, 0, 0, 0), (33, 0, 0, 0, 0), (1, 0, 0, 0, 0), (28, 7, 11, 0, 1), (6, 0, 0, 4, 0), (32, 0, 0, 0, 0), (6, 0, 0, 1, 0), (11, 0, 0, 0, 0), (56, 0, 0, 0, 0)] L st σ := EB_eq 157 3 L st σ
theorem mm_158 {i0 : Int} {x1 : Int} {x2 : Int} {x3 : Int} {σ : ev_M} : EM 158 [.inr (.inl i0), .inl x1, .inl x2, .inl x3] σ = EB 158 0 [some (.inr (.inl i0)), some (.inl x1), some (.inl x2), some (.inl x3), none] [] σ := by
  unfold EM ev_go
  exact if_pos (Nat.le_of_ble_eq_true rfl)
theorem bk_158_0 {L : ev_L} {st : List ev_V} {σ : ev_M} : EB 158 0 L st σ = EO 158 [(1, 0, 0, 0, 0), (0, 1, 0, 0, 0), (0, 2, 0, 0, 0), (59, 112, 3, 87, 11), (47, 1, 0, 6, 0), (6, 1, 0, (-2), 0), (56, 0, 0, 0, 0)] L st σ := EB_eq 158 0 L st σ
theorem bk_158_1 {L : ev_L} {st : List ev_V} {σ : ev_M} : EB 158 1 L st σ = EO 158 [(0, 3, 0, 0, 0), (6, 0, 0, 1, 0), (6, 1, 0, 9, 0), (60, 106, 3, 43, 0), (47, 2, 0, 6, 0), (6, 1, 0, (-3), 0), (56, 0, 0, 0, 0)] L st σ := EB_eq 158 1 L st σ
theorem bk_158_2 {L : ev_L} {st : List ev_V} {σ : ev_M} : EB 158 2 L st σ = EO 158 [(1, 0, 0, 0, 0), (28, 7, 11, 0, 1), (6, 0, 0, 3, 0), (32, 0, 0, 0, 0), (6, 1, 0, 8, 0), (41, 3, 0, 6, 0), (6, 1, 0, (-5), 0), (56, 0, 0, 0, 0)] L st σ := EB_eq 158 2 L st σ
theorem bk_158_3 {L : ev_L} {st : List ev_V} {σ : ev_M} : EB 158 3 L st σ = EO 158 [(1, 0, 0, 0, 0), (59, 108, 1, 63, 11), (6, 2, 0, 299, 0), (6, 0, 0, 3, 0), (1, 0, 0, 0, 0), (28, 7, 11, 0, 1), (6, 0, 0, 3, 0), (32, 0, 0, 0, 0), (12, 0, 0, 0, 0), (10, 0, 0, 0, 0), (3, 4, 1, 0, 0), (1, 0, 0, 0, 0), (28, 7, 11, 0, 1), (0, 4, 1, 0, 0), (0, 1, 0, 0, 0), (33, 0, 0, 0, 0), (1, 0, 0, 0, 0), (28, 7, 11, 0, 1), (0, 4, 1, 0, 0), (6, 0, 0, 1, 0), (10, 0, 0, 0, 0), (0, 2, 0, 0, 0), (33, 0, 0, 0, 0), (1, 0, 0, 0, 0), (28, 7, 11, 0, 1), (0, 4, 1, 0, 0), (6, 0, 0, 2, 0), (10, 0, 0, 0, 0), (0, 3, 0, 0, 0), (33, 0, 0, 0, 0), (1, 0, 0, 0, 0), (28, 7, 11, 0, 1), (6, 0, 0, 3, 0), (25, 0, 0, 0, 0), (32, 0, 0, 0, 0), (6, 0, 0, 1, 0), (10, 0, 0, 0, 0), (33, 0, 0, 0, 0), (1, 0, 0, 0, 0), (28, 7, 11, 0, 1), (6, 0, 0, 3, 0), (32, 0, 0, 0, 0), (6, 0, 0, 1, 0), (11, 0, 0, 0, 0), (56, 0, 0, 0, 0)] L st σ := EB_eq 158 3 L st σ
theorem mm_159 {i0 : Int} {σ : ev_M} : EM 159 [.inr (.inl i0)] σ = EB 159 0 [some (.inr (.inl i0)), none] [] σ := by
  unfold EM ev_go
  exact if_pos (Nat.le_of_ble_eq_true rfl)
theorem bk_159_0 {L : ev_L} {st : List ev_V} {σ : ev_M} : EB 159 0 L st σ = EO 159 [(1, 0, 0, 0, 0), (59, 108, 1, 63, 11), (1, 0, 0, 0, 0), (28, 7, 11, 0, 1), (6, 0, 0, 3, 0), (32, 0, 0, 0, 0), (3, 1, 0, 0, 0), (1, 0, 0, 0, 0), (28, 7, 11, 0, 1), (6, 0, 0, 3, 0), (6, 0, 0, 0, 0), (33, 0, 0, 0, 0), (0, 1, 0, 0, 0), (56, 0, 0, 0, 0)] L st σ := EB_eq 159 0 L st σ
theorem mm_160 {i0 : Int} {x1 : Int} {x2 : Int} {σ : ev_M} : EM 160 [.inr (.inl i0), .inl x1, .inl x2] σ = EB 160 0 [some (.inr (.inl i0)), some (.inl x1), some (.inl x2), none, none] [] σ := by
  unfold EM ev_go
  exact if_pos (Nat.le_of_ble_eq_true rfl)
theorem bk_160_0 {L : ev_L} {st : List ev_V} {σ : ev_M} : EB 160 0 L st σ = EO 160 [(6, 2, 0, 299, 0), (6, 0, 0, 3, 0), (0, 1, 0, 0, 0), (12, 0, 0, 0, 0), (10, 0, 0, 0, 0), (3, 3, 0, 0, 0), (1, 0, 0, 0, 0), (1, 0, 0, 0, 0), (28, 7, 11, 0, 1), (0, 3, 0, 0, 0), (32, 0, 0, 0, 0), (1, 0, 0, 0, 0), (28, 7, 11, 0, 1), (0, 3, 0, 0, 0), (6, 0, 0, 1, 0), (10, 0, 0, 0, 0), (32, 0, 0, 0, 0), (6, 0, 0, 0, 0), (59, 115, 4, 55, 11), (3, 4, 1, 0, 0), (1, 0, 0, 0, 0), (28, 7, 11, 0, 1), (0, 3, 0, 0, 0), (6, 0, 0, 2, 0), (10, 0, 0, 0, 0), (32, 0, 0, 0, 0), (1, 0, 0, 0, 0), (28, 7, 11, 0, 1), (6, 2, 0, 323, 0), (6, 0, 0, 5, 0), (0, 2, 0, 0, 0), (12, 0, 0, 0, 0), (10, 0, 0, 0, 0), (6, 0, 0, 1, 0), (10, 0, 0, 0, 0), (0, 4, 1, 0, 0), (10, 0, 0, 0, 0), (32, 0, 0, 0, 0), (12, 0, 0, 0, 0), (56, 0, 0, 0, 0)] L st σ := EB_eq 160 0 L st σ
theorem mm_161 {i0 : Int} {σ : ev_M} : EM 161 [.inr (.inl i0)] σ = EB 161 0 [some (.inr (.inl i0)), none, none, none, none, none, none, none] [] σ := by
  unfold EM ev_go
  exact if_pos (Nat.le_of_ble_eq_true rfl)
theorem bk_161_0 {L : ev_L} {st : List ev_V} {σ : ev_M} : EB 161 0 L st σ = EO 161 [(6, 0, 0, 1, 0), (3, 1, 0, 0, 0), (6, 0, 0, 0, 0), (3, 2, 0, 0, 0), (53, 1, 0, 0, 0)] L st σ := EB_eq 161 0 L st σ
theorem bk_161_1 {L : ev_L} {st : List ev_V} {σ : ev_M} : EB 161 1 L st σ = EO 161 [(0, 2, 0, 0, 0), (1, 0, 0, 0, 0), (28, 7, 11, 0, 1), (6, 0, 0, 3, 0), (32, 0, 0, 0, 0), (43, 2, 0, 25, 0), (0, 1, 0, 0, 0), (1, 0, 0, 0, 0), (28, 7, 11, 0, 1), (6, 0, 0, 4, 0), (32, 0, 0, 0, 0), (12, 0, 0, 0, 0), (3, 1, 0, 0, 0), (1, 0, 0, 0, 0), (28, 29, 11, 8, 7), (0, 2, 0, 0, 0), (6, 0, 0, (-1), 0), (33, 0, 0, 0, 0), (23, 2, 0, 1, 0), (52, 1, 0, (-29), 0)] L st σ := EB_eq 161 1 L st σ
theorem bk_161_2 {L : ev_L} {st : List ev_V} {σ : ev_M} : EB 161 2 L st σ = EO 161 [(1, 0, 0, 0, 0), (1, 0, 0, 0, 0), (28, 7, 11, 0, 1), (6, 0, 0, 3, 0), (32, 0, 0, 0, 0), (47, 3, 0, 7, 0), (6, 0, 0, 0, 0), (52, 4, 0, 4, 0)] L st σ := EB_eq 161 2 L st σ
theorem bk_161_3 {L : ev_L} {st : List ev_V} {σ : ev_M} : EB 161 3 L st σ = EO 161 [(6, 0, 0, (-1), 0), (53, 4, 0, 0, 0)] L st σ := EB_eq 161 3 L st σ
theorem bk_161_4 {L : ev_L} {st : List ev_V} {σ : ev_M} : EB 161 4 L st σ = EO 161 [(30, 142, 11, 9, 0), (6, 0, 0, (-1), 0), (3, 2, 0, 0, 0), (6, 0, 0, 0, 0), (3, 3, 0, 0, 0), (53, 5, 0, 0, 0)] L st σ := EB_eq 161 4 L st σ
theorem bk_161_5 {L : ev_L} {st : List ev_V} {σ : ev_M} : EB 161 5 L st σ = EO 161 [(0, 3, 0, 0, 0), (0, 1, 0, 0, 0), (43, 15, 0, 179, 0), (1, 0, 0, 0, 0), (28, 7, 11, 0, 1), (6, 0, 0, 3, 0), (32, 0, 0, 0, 0), (51, 15, 0, 170, 0), (6, 0, 0, 0, 0), (3, 4, 1, 0, 0), (6, 0, 0, 0, 0), (3, 5, 1, 0, 0), (0, 3, 0, 0, 0), (3, 6, 1, 0, 0), (1, 0, 0, 0, 0), (28, 7, 11, 0, 1), (6, 0, 0, 3, 0), (32, 0, 0, 0, 0), (6, 0, 0, 1, 0), (11, 0, 0, 0, 0), (3, 7, 1, 0, 0), (53, 6, 0, 0, 0)] L st σ := EB_eq 161 5 L st σ
theorem bk_161_6 {L : ev_L} {st : List ev_V} {σ : ev_M} : EB 161 6 L st σ = EO 161 [(0, 7, 1, 0, 0), (48, 7, 0, 56, 0), (0, 4, 1, 0, 0), (1, 0, 0, 0, 0), (0, 7, 1, 0, 0), (0, 6, 1, 0, 0), (1, 0, 0, 0, 0), (28, 7, 11, 0, 1), (6, 0, 0, 4, 0), (32, 0, 0, 0, 0), (14, 0, 0, 0, 0), (59, 160, 3, 145, 11), (10, 0, 0, 0, 0), (3, 4, 1, 0, 0), (0, 5, 1, 0, 0), (6, 0, 0, 1, 0), (0, 6, 1, 0, 0), (1, 0, 0, 0, 0), (28, 7, 11, 0, 1), (6, 0, 0, 4, 0), (32, 0, 0, 0, 0), (14, 0, 0, 0, 0), (18, 0, 0, 0, 0), (16, 0, 0, 0, 0), (3, 5, 1, 0, 0), (0, 6, 1, 0, 0), (1, 0, 0, 0, 0), (28, 7, 11, 0, 1), (6, 0, 0, 4, 0), (32, 0, 0, 0, 0), (13, 0, 0, 0, 0), (3, 6, 1, 0, 0), (23, 7, 0, (-1), 0), (52, 6, 0, (-55), 0)] L st σ := EB_eq 161 6 L st σ
theorem bk_161_7 {L : ev_L} {st : List ev_V} {σ : ev_M} : EB 161 7 L st σ = EO 161 [(6, 0, 0, 0, 0), (3, 7, 1, 0, 0), (53, 8, 0, 0, 0)] L st σ := EB_eq 161 7 L st σ
theorem bk_161_8 {L : ev_L} {st : List ev_V} {σ : ev_M} : EB 161 8 L st σ = EO 161 [(0, 7, 1, 0, 0), (1, 0, 0, 0, 0), (28, 7, 11, 0, 1), (6, 0, 0, 4, 0), (32, 0, 0, 0, 0), (43, 9, 0, 35, 0), (0, 4, 1, 0, 0), (0, 5, 1, 0, 0), (0, 7, 1, 0, 0), (19, 0, 0, 0, 0), (6, 0, 0, 1, 0), (15, 0, 0, 0, 0), (1, 0, 0, 0, 0), (28, 7, 11, 0, 1), (6, 2, 0, 323, 0), (6, 0, 0, 5, 0), (0, 7, 1, 0, 0), (12, 0, 0, 0, 0), (10, 0, 0, 0, 0), (32, 0, 0, 0, 0), (12, 0, 0, 0, 0), (10, 0, 0, 0, 0), (3, 4, 1, 0, 0), (23, 7, 0, 1, 0), (52, 8, 0, (-40), 0)] L st σ := EB_eq 161 8 L st σ
theorem bk_161_9 {L : ev_L} {st : List ev_V} {σ : ev_M} : EB 161 9 L st σ = EO 161 [(0, 2, 0, 0, 0), (6, 0, 0, (-1), 0), (40, 10, 0, 12, 0), (0, 4, 1, 0, 0), (1, 0, 0, 0, 0), (27, 142, 11, 9, 0), (43, 11, 0, 7, 0), (53, 10, 0, 0, 0)] L st σ := EB_eq 161 9 L st σ
theorem bk_161_10 {L : ev_L} {st : List ev_V} {σ : ev_M} : EB 161 10 L st σ = EO 161 [(0, 3, 0, 0, 0), (52, 12, 0, 4, 0)] L st σ := EB_eq 161 10 L st σ
theorem bk_161_11 {L : ev_L} {st : List ev_V} {σ : ev_M} : EB 161 11 L st σ = EO 161 [(0, 2, 0, 0, 0), (53, 12, 0, 0, 0)] L st σ := EB_eq 161 11 L st σ
theorem bk_161_12 {L : ev_L} {st : List ev_V} {σ : ev_M} : EB 161 12 L st σ = EO 161 [(3, 2, 0, 0, 0), (1, 0, 0, 0, 0), (0, 2, 0, 0, 0), (0, 3, 0, 0, 0), (41, 13, 0, 8, 0), (0, 4, 1, 0, 0), (52, 14, 0, 7, 0)] L st σ := EB_eq 161 12 L st σ
theorem bk_161_13 {L : ev_L} {st : List ev_V} {σ : ev_M} : EB 161 13 L st σ = EO 161 [(1, 0, 0, 0, 0), (27, 142, 11, 9, 0), (53, 14, 0, 0, 0)] L st σ := EB_eq 161 13 L st σ
theorem bk_161_14 {L : ev_L} {st : List ev_V} {σ : ev_M} : EB 161 14 L st σ = EO 161 [(30, 142, 11, 9, 0), (23, 3, 0, 1, 0), (52, 5, 0, (-178), 0)] L st σ := EB_eq 161 14 L st σ
theorem bk_161_15 {L : ev_L} {st : List ev_V} {σ : ev_M} : EB 161 15 L st σ = EO 161 [(1, 0, 0, 0, 0), (28, 7, 11, 0, 1), (6, 0, 0, 3, 0), (32, 0, 0, 0, 0), (6, 0, 0, 1, 0), (11, 0, 0, 0, 0), (3, 3, 0, 0, 0), (53, 16, 0, 0, 0)] L st σ := EB_eq 161 15 L st σ
theorem bk_161_16 {L : ev_L} {st : List ev_V} {σ : ev_M} : EB 161 16 L st σ = EO 161 [(0, 3, 0, 0, 0), (48, 17, 0, 37, 0), (0, 2, 0, 0, 0), (6, 0, 0, (-1), 0), (40, 17, 0, 32, 0), (1, 0, 0, 0, 0), (28, 29, 11, 8, 7), (0, 3, 0, 0, 0), (0, 2, 0, 0, 0), (1, 0, 0, 0, 0), (28, 7, 11, 0, 1), (6, 0, 0, 4, 0), (32, 0, 0, 0, 0), (14, 0, 0, 0, 0), (33, 0, 0, 0, 0), (0, 2, 0, 0, 0), (1, 0, 0, 0, 0), (28, 7, 11, 0, 1), (6, 0, 0, 4, 0), (32, 0, 0, 0, 0), (13, 0, 0, 0, 0), (3, 2, 0, 0, 0), (23, 3, 0, (-1), 0), (52, 16, 0, (-35), 0)] L st σ := EB_eq 161 16 L st σ
theorem bk_161_17 {L : ev_L} {st : List ev_V} {σ : ev_M} : EB 161 17 L st σ = EO 161 [(58, 0, 0, 0, 0)] L st σ := EB_eq 161 17 L st σ
theorem mm_162 {i0 : Int} {x1 : Int} {x2 : Int} {σ : ev_M} : EM 162 [.inr (.inl i0), .inl x1, .inl x2] σ = EB 162 0 [some (.inr (.inl i0)), some (.inl x1), some (.inl x2)] [] σ := by
  unfold EM ev_go
  exact if_pos (Nat.le_of_ble_eq_true rfl)
theorem bk_162_0 {L : ev_L} {st : List ev_V} {σ : ev_M} : EB 162 0 L st σ = EO 162 [(0, 1, 0, 0, 0), (6, 0, 0, 0, 0), (1, 0, 0, 0, 0), (28, 7, 11, 0, 1), (6, 0, 0, 3, 0), (32, 0, 0, 0, 0), (6, 0, 0, 1, 0), (11, 0, 0, 0, 0), (60, 106, 3, 43, 0), (47, 1, 0, 6, 0), (6, 1, 0, (-2), 0), (56, 0, 0, 0, 0)] L st σ := EB_eq 162 0 L st σ
theorem bk_162_1 {L : ev_L} {st : List ev_V} {σ : ev_M} : EB 162 1 L st σ = EO 162 [(0, 2, 0, 0, 0), (6, 0, 0, 0, 0), (6, 0, 0, 3, 0), (60, 106, 3, 43, 0), (47, 2, 0, 6, 0), (6, 1, 0, (-3), 0), (56, 0, 0, 0, 0)] L st σ := EB_eq 162 1 L st σ
theorem bk_162_2 {L : ev_L} {st : List ev_V} {σ : ev_M} : EB 162 2 L st σ = EO 162 [(1, 0, 0, 0, 0), (59, 161, 1, 148, 11), (0, 2, 0, 0, 0), (6, 0, 0, 3, 0), (41, 3, 0, 12, 0), (1, 0, 0, 0, 0), (28, 29, 11, 8, 7), (0, 1, 0, 0, 0), (32, 0, 0, 0, 0), (52, 4, 0, 17, 0)] L st σ := EB_eq 162 2 L st σ
theorem bk_162_3 {L : ev_L} {st : List ev_V} {σ : ev_M} : EB 162 3 L st σ = EO 162 [(1, 0, 0, 0, 0), (28, 7, 11, 0, 1), (6, 2, 0, 299, 0), (6, 0, 0, 3, 0), (0, 1, 0, 0, 0), (12, 0, 0, 0, 0), (10, 0, 0, 0, 0), (0, 2, 0, 0, 0), (10, 0, 0, 0, 0), (32, 0, 0, 0, 0), (53, 4, 0, 0, 0)] L st σ := EB_eq 162 3 L st σ
theorem bk_162_4 {L : ev_L} {st : List ev_V} {σ : ev_M} : EB 162 4 L st σ = EO 162 [(56, 0, 0, 0, 0)] L st σ := EB_eq 162 4 L st σ
theorem mm_163 {i0 : Int} {x1 : Int} {x2 : Int} {σ : ev_M} : EM 163 [.inr (.inl i0), .inl x1, .inl x2] σ = EB 163 0 [some (.inr (.inl i0)), some (.inl x1), some (.inl x2), none, none, none, none] [] σ := by
  unfold EM ev_go
  exact if_pos (Nat.le_of_ble_eq_true rfl)
theorem bk_163_0 {L : ev_L} {st : List ev_V} {σ : ev_M} : EB 163 0 L st σ = EO 163 [(6, 0, 0, 0, 0), (3, 3, 0, 0, 0), (6, 0, 0, 0, 0), (3, 4, 1, 0, 0), (6, 0, 0, 0, 0), (3, 5, 1, 0, 0), (53, 1, 0, 0, 0)] L st σ := EB_eq 163 0 L st σ
theorem bk_163_1 {L : ev_L} {st : List ev_V} {σ : ev_M} : EB 163 1 L st σ = EO 163 [(0, 5, 1, 0, 0), (1, 0, 0, 0, 0), (28, 7, 11, 0, 1), (6, 0, 0, 3, 0), (32, 0, 0, 0, 0), (43, 10, 0, 67, 0), (0, 2, 0, 0, 0), (47, 2, 0, 14, 0), (1, 0, 0, 0, 0), (28, 29, 11, 8, 7), (0, 5, 1, 0, 0), (32, 0, 0, 0, 0), (0, 1, 0, 0, 0), (41, 3, 0, 7, 0), (53, 2, 0, 0, 0)] L st σ := EB_eq 163 1 L st σ
theorem bk_163_2 {L : ev_L} {st : List ev_V} {σ : ev_M} : EB 163 2 L st σ = EO 163 [(6, 0, 0, 1, 0), (52, 4, 0, 4, 0)] L st σ := EB_eq 163 2 L st σ
theorem bk_163_3 {L : ev_L} {st : List ev_V} {σ : ev_M} : EB 163 3 L st σ = EO 163 [(6, 0, 0, 0, 0), (53, 4, 0, 0, 0)] L st σ := EB_eq 163 3 L st σ
theorem bk_163_4 {L : ev_L} {st : List ev_V} {σ : ev_M} : EB 163 4 L st σ = EO 163 [(3, 6, 1, 0, 0), (0, 3, 0, 0, 0), (0, 6, 1, 0, 0), (46, 5, 0, 13, 0), (1, 0, 0, 0, 0), (0, 5, 1, 0, 0), (0, 1, 0, 0, 0), (59, 160, 3, 145, 11), (52, 6, 0, 4, 0)] L st σ := EB_eq 163 4 L st σ
theorem bk_163_5 {L : ev_L} {st : List ev_V} {σ : ev_M} : EB 163 5 L st σ = EO 163 [(6, 0, 0, 0, 0), (53, 6, 0, 0, 0)] L st σ := EB_eq 163 5 L st σ
theorem bk_163_6 {L : ev_L} {st : List ev_V} {σ : ev_M} : EB 163 6 L st σ = EO 163 [(10, 0, 0, 0, 0), (3, 3, 0, 0, 0), (0, 4, 1, 0, 0), (47, 7, 0, 8, 0), (0, 6, 1, 0, 0), (46, 8, 0, 7, 0), (53, 7, 0, 0, 0)] L st σ := EB_eq 163 6 L st σ
theorem bk_163_7 {L : ev_L} {st : List ev_V} {σ : ev_M} : EB 163 7 L st σ = EO 163 [(6, 0, 0, 1, 0), (52, 9, 0, 4, 0)] L st σ := EB_eq 163 7 L st σ
theorem bk_163_8 {L : ev_L} {st : List ev_V} {σ : ev_M} : EB 163 8 L st σ = EO 163 [(6, 0, 0, 0, 0), (53, 9, 0, 0, 0)] L st σ := EB_eq 163 8 L st σ
theorem bk_163_9 {L : ev_L} {st : List ev_V} {σ : ev_M} : EB 163 9 L st σ = EO 163 [(3, 4, 1, 0, 0), (23, 5, 0, 1, 0), (52, 1, 0, (-72), 0)] L st σ := EB_eq 163 9 L st σ
theorem bk_163_10 {L : ev_L} {st : List ev_V} {σ : ev_M} : EB 163 10 L st σ = EO 163 [(0, 4, 1, 0, 0), (46, 11, 0, 20, 0), (0, 3, 0, 0, 0), (1, 0, 0, 0, 0), (28, 7, 11, 0, 1), (6, 2, 0, 323, 0), (6, 0, 0, 5, 0), (0, 1, 0, 0, 0), (12, 0, 0, 0, 0), (10, 0, 0, 0, 0), (32, 0, 0, 0, 0), (10, 0, 0, 0, 0), (52, 12, 0, 4, 0)] L st σ := EB_eq 163 10 L st σ
theorem bk_163_11 {L : ev_L} {st : List ev_V} {σ : ev_M} : EB 163 11 L st σ = EO 163 [(6, 0, 0, 0, 0), (53, 12, 0, 0, 0)] L st σ := EB_eq 163 11 L st σ
theorem bk_163_12 {L : ev_L} {st : List ev_V} {σ : ev_M} : EB 163 12 L st σ = EO 163 [(56, 0, 0, 0, 0)] L st σ := EB_eq 163 12 L st σ
theorem mm_164 {i0 : Int} {x1 : Int} {x2 : Int} {σ : ev_M} : EM 164 [.inr (.inl i0), .inl x1, .inl x2] σ = EB 164 0 [some (.inr (.inl i0)), some (.inl x1), some (.inl x2)] [] σ := by
  unfold EM ev_go
  exact if_pos (Nat.le_of_ble_eq_true rfl)
theorem bk_164_0 {L : ev_L} {st : List ev_V} {σ : ev_M} : EB 164 0 L st σ = EO 164 [(0, 2, 0, 0, 0), (6, 0, 0, 5, 0), (43, 1, 0, 20, 0), (1, 0, 0, 0, 0), (28, 7, 11, 0, 1), (6, 2, 0, 323, 0), (6, 0, 0, 5, 0), (0, 1, 0, 0, 0), (12, 0, 0, 0, 0), (10, 0, 0, 0, 0), (0, 2, 0, 0, 0), (10, 0, 0, 0, 0), (32, 0, 0, 0, 0), (52, 4, 0, 19, 0)] L st σ := EB_eq 164 0 L st σ
theorem bk_164_1 {L : ev_L} {st : List ev_V} {σ : ev_M} : EB 164 1 L st σ = EO 164 [(1, 0, 0, 0, 0), (0, 1, 0, 0, 0), (0, 2, 0, 0, 0), (6, 1, 0, 6, 0), (41, 2, 0, 7, 0), (6, 0, 0, 1, 0), (52, 3, 0, 4, 0)] L st σ := EB_eq 164 1 L st σ
theorem bk_164_2 {L : ev_L} {st : List ev_V} {σ : ev_M} : EB 164 2 L st σ = EO 164 [(6, 0, 0, 0, 0), (53, 3, 0, 0, 0)] L st σ := EB_eq 164 2 L st σ
theorem bk_164_3 {L : ev_L} {st : List ev_V} {σ : ev_M} : EB 164 3 L st σ = EO 164 [(59, 163, 3, 151, 11), (53, 4, 0, 0, 0)] L st σ := EB_eq 164 3 L st σ
theorem bk_164_4 {L : ev_L} {st : List ev_V} {σ : ev_M} : EB 164 4 L st σ = EO 164 [(56, 0, 0, 0, 0)] L st σ := EB_eq 164 4 L st σ
theorem mm_165 {i0 : Int} {x1 : Int} {x2 : Int} {σ : ev_M} : EM 165 [.inr (.inl i0), .inl x1, .inl x2] σ = EB 165 0 [some (.inr (.inl i0)), some (.inl x1), some (.inl x2)] [] σ := by
  unfold EM ev_go
  exact if_pos (Nat.le_of_ble_eq_true rfl)
theorem bk_165_0 {L : ev_L} {st : List ev_V} {σ : ev_M} : EB 165 0 L st σ = EO 165 [(0, 1, 0, 0, 0), (6, 0, 0, 0, 0), (1, 0, 0, 0, 0), (28, 7, 11, 0, 1), (6, 0, 0, 4, 0), (32, 0, 0, 0, 0), (6, 0, 0, 1, 0), (11, 0, 0, 0, 0), (60, 106, 3, 43, 0), (47, 1, 0, 6, 0), (6, 1, 0, (-2), 0), (56, 0, 0, 0, 0)] L st σ := EB_eq 165 0 L st σ
theorem bk_165_1 {L : ev_L} {st : List ev_V} {σ : ev_M} : EB 165 1 L st σ = EO 165 [(0, 2, 0, 0, 0), (6, 0, 0, 0, 0), (6, 1, 0, 6, 0), (60, 106, 3, 43, 0), (47, 2, 0, 6, 0), (6, 1, 0, (-3), 0), (56, 0, 0, 0, 0)] L st σ := EB_eq 165 1 L st σ
theorem bk_165_2 {L : ev_L} {st : List ev_V} {σ : ev_M} : EB 165 2 L st σ = EO 165 [(1, 0, 0, 0, 0), (59, 161, 1, 148, 11), (1, 0, 0, 0, 0), (0, 1, 0, 0, 0), (0, 2, 0, 0, 0), (59, 164, 3, 155, 11), (56, 0, 0, 0, 0)] L st σ := EB_eq 165 2 L st σ
theorem mm_166 {i0 : Int} {σ : ev_M} : EM 166 [.inr (.inl i0)] σ = EB 166 0 [some (.inr (.inl i0))] [] σ := by
  unfold EM ev_go
  exact if_pos (Nat.le_of_ble_eq_true rfl)
theorem bk_166_0 {L : ev_L} {st : List ev_V} {σ : ev_M} : EB 166 0 L st σ = EO 166 [(1, 0, 0, 0, 0), (59, 161, 1, 148, 11), (1, 0, 0, 0, 0), (27, 142, 11, 9, 0), (56, 0, 0, 0, 0)] L st σ := EB_eq 166 0 L st σ
theorem mm_167 {i0 : Int} {σ : ev_M} : EM 167 [.inr (.inl i0)] σ = EB 167 0 [some (.inr (.inl i0)), none, none, none, none] [] σ := by
  unfold EM ev_go
  exact if_pos (Nat.le_of_ble_eq_true rfl)
theorem bk_167_0 {L : ev_L} {st : List ev_V} {σ : ev_M} : EB 167 0 L st σ = EO 167 [(6, 0, 0, 0, 0), (3, 1, 0, 0, 0), (53, 1, 0, 0, 0)] L st σ := EB_eq 167 0 L st σ
theorem bk_167_1 {L : ev_L} {st : List ev_V} {σ : ev_M} : EB 167 1 L st σ = EO 167 [(0, 1, 0, 0, 0), (1, 0, 0, 0, 0), (28, 7, 11, 0, 1), (6, 0, 0, 3, 0), (32, 0, 0, 0, 0), (43, 4, 0, 90, 0), (1, 0, 0, 0, 0), (28, 7, 11, 0, 1), (6, 2, 0, 299, 0), (6, 0, 0, 3, 0), (0, 1, 0, 0, 0), (12, 0, 0, 0, 0), (10, 0, 0, 0, 0), (32, 0, 0, 0, 0), (3, 2, 0, 0, 0), (1, 0, 0, 0, 0), (28, 7, 11, 0, 1), (6, 2, 0, 299, 0), (6, 0, 0, 3, 0), (0, 1, 0, 0, 0), (12, 0, 0, 0, 0), (10, 0, 0, 0, 0), (6, 0, 0, 1, 0), (10, 0, 0, 0, 0), (32, 0, 0, 0, 0), (3, 3, 0, 0, 0), (1, 0, 0, 0, 0), (0, 2, 0, 0, 0), (0, 3, 0, 0, 0), (6, 0, 0, 1, 0), (59, 115, 4, 55, 11), (1, 0, 0, 0, 0), (28, 7, 11, 0, 1), (6, 2, 0, 299, 0), (6, 0, 0, 3, 0), (0, 1, 0, 0, 0), (12, 0, 0, 0, 0), (10, 0, 0, 0, 0), (6, 0, 0, 2, 0), (10, 0, 0, 0, 0), (32, 0, 0, 0, 0), (10, 0, 0, 0, 0), (3, 4, 1, 0, 0), (1, 0, 0, 0, 0), (0, 2, 0, 0, 0), (0, 3, 0, 0, 0), (6, 0, 0, 1, 0), (0, 4, 1, 0, 0), (6, 1, 0, 9, 0), (45, 2, 0, 8, 0), (6, 1, 0, 9, 0), (52, 3, 0, 5, 0)] L st σ := EB_eq 167 1 L st σ
theorem bk_167_2 {L : ev_L} {st : List ev_V} {σ : ev_M} : EB 167 2 L st σ = EO 167 [(0, 4, 1, 0, 0), (53, 3, 0, 0, 0)] L st σ := EB_eq 167 2 L st σ
theorem bk_167_3 {L : ev_L} {st : List ev_V} {σ : ev_M} : EB 167 3 L st σ = EO 167 [(59, 116, 5, 83, 11), (1, 0, 0, 0, 0), (0, 2, 0, 0, 0), (0, 3, 0, 0, 0), (6, 0, 0, 2, 0), (6, 0, 0, 0, 0), (59, 116, 5, 83, 11), (23, 1, 0, 1, 0), (52, 1, 0, (-94), 0)] L st σ := EB_eq 167 3 L st σ
theorem bk_167_4 {L : ev_L} {st : List ev_V} {σ : ev_M} : EB 167 4 L st σ = EO 167 [(1, 0, 0, 0, 0), (28, 7, 11, 0, 1), (6, 0, 0, 3, 0), (6, 0, 0, 0, 0), (33, 0, 0, 0, 0), (58, 0, 0, 0, 0)] L st σ := EB_eq 167 4 L st σ
theorem mm_168 {i0 : Int} {x1 : Int} {σ : ev_M} : EM 168 [.inr (.inl i0), .inl x1] σ = EB 168 0 [some (.inr (.inl i0)), some (.inl x1), none] [] σ := by
  unfold EM ev_go
  exact if_pos (Nat.le_of_ble_eq_true rfl)
theorem bk_168_0 {L : ev_L} {st : List ev_V} {σ : ev_M} : EB 168 0 L st σ = EO 168 [(1, 0, 0, 0, 0), (0, 1, 0, 0, 0), (59, 111, 2, 47, 11), (47, 1, 0, 6, 0), (6, 1, 0, (-2), 0), (56, 0, 0, 0, 0)] L st σ := EB_eq 168 0 L st σ
theorem bk_168_1 {L : ev_L} {st : List ev_V} {σ : ev_M} : EB 168 1 L st σ = EO 168 [(1, 0, 0, 0, 0), (6, 0, 0, 0, 0), (6, 1, 0, 6, 0), (59, 107, 3, 39, 11), (1, 0, 0, 0, 0), (59, 167, 1, 158, 11), (1, 0, 0, 0, 0), (0, 1, 0, 0, 0), (59, 117, 2, 94, 11), (3, 2, 0, 0, 0), (1, 0, 0, 0, 0), (6, 1, 0, 6, 0), (6, 0, 0, 0, 0), (59, 107, 3, 39, 11), (0, 2, 0, 0, 0), (56, 0, 0, 0, 0)] L st σ := EB_eq 168 1 L st σ
theorem mm_169 {i0 : Int} {σ : ev_M} : EM 169 [.inr (.inl i0)] σ = EB 169 0 [some (.inr (.inl i0))] [] σ := by
  unfold EM ev_go
  exact if_pos (Nat.le_of_ble_eq_true rfl)
theorem bk_169_0 {L : ev_L} {st : List ev_V} {σ : ev_M} : EB 169 0 L st σ = EO 169 [(1, 0, 0, 0, 0), (59, 161, 1, 148, 11), (1, 0, 0, 0, 0), (27, 142, 11, 9, 0), (6, 0, 0, (-1), 0), (41, 1, 0, 6, 0), (6, 1, 0, (-4), 0), (56, 0, 0, 0, 0)] L st σ := EB_eq 169 0 L st σ
theorem bk_169_1 {L : ev_L} {st : List ev_V} {σ : ev_M} : EB 169 1 L st σ = EO 169 [(1, 0, 0, 0, 0), (59, 108, 1, 63, 11), (1, 0, 0, 0, 0), (59, 167, 1, 158, 11), (1, 0, 0, 0, 0), (28, 7, 11, 0, 1), (6, 1, 0, 8, 0), (25, 0, 0, 0, 0), (32, 0, 0, 0, 0), (1, 0, 0, 0, 0), (27, 142, 11, 9, 0), (10, 0, 0, 0, 0), (33, 0, 0, 0, 0), (1, 0, 0, 0, 0), (27, 142, 11, 9, 0), (56, 0, 0, 0, 0)] L st σ := EB_eq 169 1 L st σ
theorem mm_170 {i0 : Int} {σ : ev_M} : EM 170 [.inr (.inl i0)] σ = EB 170 0 [some (.inr (.inl i0))] [] σ := by
  unfold EM ev_go
  exact if_pos (Nat.le_of_ble_eq_true rfl)
theorem bk_170_0 {L : ev_L} {st : List ev_V} {σ : ev_M} : EB 170 0 L st σ = EO 170 [(1, 0, 0, 0, 0), (27, 35, 11, 1, 0), (47, 1, 0, 6, 0), (6, 1, 0, (-4), 0), (56, 0, 0, 0, 0)] L st σ := EB_eq 170 0 L st σ
theorem bk_170_1 {L : ev_L} {st : List ev_V} {σ : ev_M} : EB 170 1 L st σ = EO 170 [(1, 0, 0, 0, 0), (1, 0, 0, 0, 0), (27, 35, 11, 1, 0), (6, 0, 0, 0, 0), (59, 107, 3, 39, 11), (1, 0, 0, 0, 0), (24, 0, 0, 0, 0), (27, 35, 11, 1, 0), (6, 0, 0, 1, 0), (11, 0, 0, 0, 0), (30, 35, 11, 1, 0), (1, 0, 0, 0, 0), (27, 35, 11, 1, 0), (56, 0, 0, 0, 0)] L st σ := EB_eq 170 1 L st σ
theorem mm_171 {i0 : Int} {x1 : Int} {σ : ev_M} : EM 171 [.inr (.inl i0), .inl x1] σ = EB 171 0 [some (.inr (.inl i0)), some (.inl x1)] [] σ := by
  unfold EM ev_go
  exact if_pos (Nat.le_of_ble_eq_true rfl)
theorem bk_171_0 {L : ev_L} {st : List ev_V} {σ : ev_M} : EB 171 0 L st σ = EO 171 [(0, 1, 0, 0, 0), (6, 0, 0, 0, 0), (6, 2, 0, 255, 0), (60, 106, 3, 43, 0), (47, 1, 0, 6, 0), (6, 1, 0, (-3), 0), (56, 0, 0, 0, 0)] L st σ := EB_eq 171 0 L st σ
theorem bk_171_1 {L : ev_L} {st : List ev_V} {σ : ev_M} : EB 171 1 L st σ = EO 171 [(1, 0, 0, 0, 0), (27, 161, 11, 11, 0), (6, 1, 0, 100, 0), (41, 2, 0, 6, 0), (6, 1, 0, (-5), 0), (56, 0, 0, 0, 0)] L st σ := EB_eq 171 1 L st σ
theorem bk_171_2 {L : ev_L} {st : List ev_V} {σ : ev_M} : EB 171 2 L st σ = EO 171 [(1, 0, 0, 0, 0), (28, 32, 11, 10, 8), (1, 0, 0, 0, 0), (27, 161, 11, 11, 0), (0, 1, 0, 0, 0), (33, 0, 0, 0, 0), (1, 0, 0, 0, 0), (24, 0, 0, 0, 0), (27, 161, 11, 11, 0), (6, 0, 0, 1, 0), (10, 0, 0, 0, 0), (30, 161, 11, 11, 0), (1, 0, 0, 0, 0), (27, 161, 11, 11, 0), (56, 0, 0, 0, 0)] L st σ := EB_eq 171 2 L st σ
theorem mm_172 {i0 : Int} {σ : ev_M} : EM 172 [.inr (.inl i0)] σ = EB 172 0 [some (.inr (.inl i0)), none] [] σ := by
  unfold EM ev_go
  exact if_pos (Nat.le_of_ble_eq_true rfl)
theorem bk_172_0 {L : ev_L} {st : List ev_V} {σ : ev_M} : EB 172 0 L st σ = EO 172 [(1, 0, 0, 0, 0), (27, 161, 11, 11, 0), (3, 1, 0, 0, 0), (1, 0, 0, 0, 0), (6, 0, 0, 0, 0), (30, 161, 11, 11, 0), (0, 1, 0, 0, 0), (56, 0, 0, 0, 0)] L st σ := EB_eq 172 0 L st σ
theorem mm_173 {i0 : Int} {σ : ev_M} : EM 173 [.inr (.inl i0)] σ = EB 173 0 [some (.inr (.inl i0))] [] σ := by
  unfold EM ev_go
  exact if_pos (Nat.le_of_ble_eq_true rfl)
theorem bk_173_0 {L : ev_L} {st : List ev_V} {σ : ev_M} : EB 173 0 L st σ = EO 173 [(1, 0, 0, 0, 0), (27, 164, 11, 12, 0), (1, 0, 0, 0, 0), (27, 161, 11, 11, 0), (43, 1, 0, 30, 0), (1, 0, 0, 0, 0), (28, 32, 11, 10, 8), (1, 0, 0, 0, 0), (27, 164, 11, 12, 0), (32, 0, 0, 0, 0), (6, 1, 0, 32, 0), (41, 1, 0, 16, 0), (1, 0, 0, 0, 0), (24, 0, 0, 0, 0), (27, 164, 11, 12, 0), (6, 0, 0, 1, 0), (10, 0, 0, 0, 0), (30, 164, 11, 12, 0), (52, 0, 0, (-35), 0)] L st σ := EB_eq 173 0 L st σ
theorem bk_173_1 {L : ev_L} {st : List ev_V} {σ : ev_M} : EB 173 1 L st σ = EO 173 [(1, 0, 0, 0, 0), (27, 164, 11, 12, 0), (1, 0, 0, 0, 0), (27, 161, 11, 11, 0), (43, 2, 0, 15, 0), (1, 0, 0, 0, 0), (28, 32, 11, 10, 8), (1, 0, 0, 0, 0), (27, 164, 11, 12, 0), (32, 0, 0, 0, 0), (52, 3, 0, 4, 0)] L st σ := EB_eq 173 1 L st σ
theorem bk_173_2 {L : ev_L} {st : List ev_V} {σ : ev_M} : EB 173 2 L st σ = EO 173 [(6, 0, 0, (-1), 0), (53, 3, 0, 0, 0)] L st σ := EB_eq 173 2 L st σ
theorem bk_173_3 {L : ev_L} {st : List ev_V} {σ : ev_M} : EB 173 3 L st σ = EO 173 [(56, 0, 0, 0, 0)] L st σ := EB_eq 173 3 L st σ
theorem mm_174 {i0 : Int} {x1 : Int} {σ : ev_M} : EM 174 [.inr (.inl i0), .inl x1] σ = EB 174 0 [some (.inr (.inl i0)), some (.inl x1), none] [] σ := by
  unfold EM ev_go
  exact if_pos (Nat.le_of_ble_eq_true rfl)
theorem bk_174_0 {L : ev_L} {st : List ev_V} {σ : ev_M} : EB 174 0 L st σ = EO 174 [(1, 0, 0, 0, 0), (59, 173, 1, 167, 11), (0, 1, 0, 0, 0), (41, 1, 0, 7, 0), (6, 0, 0, 1, 0), (52, 2, 0, 4, 0)] L st σ := EB_eq 174 0 L st σ
theorem bk_174_1 {L : ev_L} {st : List ev_V} {σ : ev_M} : EB 174 1 L st σ = EO 174 [(6, 0, 0, 0, 0), (53, 2, 0, 0, 0)] L st σ := EB_eq 174 1 L st σ
theorem bk_174_2 {L : ev_L} {st : List ev_V} {σ : ev_M} : EB 174 2 L st σ = EO 174 [(3, 2, 0, 0, 0), (1, 0, 0, 0, 0), (24, 0, 0, 0, 0), (27, 164, 11, 12, 0), (0, 2, 0, 0, 0), (46, 3, 0, 7, 0), (6, 0, 0, 1, 0), (52, 4, 0, 4, 0)] L st σ := EB_eq 174 2 L st σ
theorem bk_174_3 {L : ev_L} {st : List ev_V} {σ : ev_M} : EB 174 3 L st σ = EO 174 [(6, 0, 0, 0, 0), (53, 4, 0, 0, 0)] L st σ := EB_eq 174 3 L st σ
theorem bk_174_4 {L : ev_L} {st : List ev_V} {σ : ev_M} : EB 174 4 L st σ = EO 174 [(10, 0, 0, 0, 0), (30, 164, 11, 12, 0), (0, 2, 0, 0, 0), (56, 1, 0, 0, 0)] L st σ := EB_eq 174 4 L st σ
theorem mm_175 {i0 : Int} {x1 : Int} {x2 : Int} {x3 : Int} {σ : ev_M} : EM 175 [.inr (.inl i0), .inl x1, .inl x2, .inl x3] σ = EB 175 0 [some (.inr (.inl i0)), some (.inl x1), some (.inl x2), some (.inl x3), none, none, none, none] [] σ := by
  unfold EM ev_go
  exact if_pos (Nat.le_of_ble_eq_true rfl)
theorem bk_175_0 {L : ev_L} {st : List ev_V} {σ : ev_M} : EB 175 0 L st σ = EO 175 [(1, 0, 0, 0, 0), (59, 173, 1, 167, 11), (3, 4, 1, 0, 0), (1, 0, 0, 0, 0), (27, 164, 11, 12, 0), (3, 5, 1, 0, 0), (6, 0, 0, 0, 0), (3, 6, 1, 0, 0), (53, 1, 0, 0, 0)] L st σ := EB_eq 175 0 L st σ
theorem bk_175_1 {L : ev_L} {st : List ev_V} {σ : ev_M} : EB 175 1 L st σ = EO 175 [(0, 4, 1, 0, 0), (48, 4, 0, 69, 0), (0, 5, 1, 0, 0), (1, 0, 0, 0, 0), (27, 161, 11, 11, 0), (43, 4, 0, 60, 0), (1, 0, 0, 0, 0), (28, 32, 11, 10, 8), (0, 5, 1, 0, 0), (32, 0, 0, 0, 0), (6, 1, 0, 48, 0), (6, 1, 0, 57, 0), (60, 106, 3, 43, 0), (46, 4, 0, 43, 0), (0, 5, 1, 0, 0), (1, 0, 0, 0, 0), (27, 164, 11, 12, 0), (11, 0, 0, 0, 0), (6, 0, 0, 3, 0), (43, 2, 0, 22, 0), (6, 1, 0, 10, 0), (0, 6, 1, 0, 0), (12, 0, 0, 0, 0), (1, 0, 0, 0, 0), (28, 32, 11, 10, 8), (0, 5, 1, 0, 0), (32, 0, 0, 0, 0), (10, 0, 0, 0, 0), (6, 1, 0, 48, 0), (11, 0, 0, 0, 0), (52, 3, 0, 5, 0)] L st σ := EB_eq 175 1 L st σ
theorem bk_175_2 {L : ev_L} {st : List ev_V} {σ : ev_M} : EB 175 2 L st σ = EO 175 [(0, 6, 1, 0, 0), (53, 3, 0, 0, 0)] L st σ := EB_eq 175 2 L st σ
theorem bk_175_3 {L : ev_L} {st : List ev_V} {σ : ev_M} : EB 175 3 L st σ = EO 175 [(3, 6, 1, 0, 0), (23, 5, 0, 1, 0), (52, 1, 0, (-68), 0)] L st σ := EB_eq 175 3 L st σ
theorem bk_175_4 {L : ev_L} {st : List ev_V} {σ : ev_M} : EB 175 4 L st σ = EO 175 [(0, 5, 1, 0, 0), (1, 0, 0, 0, 0), (27, 164, 11, 12, 0), (45, 5, 0, 34, 0), (0, 5, 1, 0, 0), (1, 0, 0, 0, 0), (27, 164, 11, 12, 0), (11, 0, 0, 0, 0), (6, 0, 0, 3, 0), (43, 5, 0, 23, 0), (0, 6, 1, 0, 0), (0, 1, 0, 0, 0), (0, 2, 0, 0, 0), (60, 106, 3, 43, 0), (46, 5, 0, 13, 0), (0, 6, 1, 0, 0), (0, 3, 0, 0, 0), (40, 5, 0, 7, 0), (6, 0, 0, 1, 0), (52, 6, 0, 4, 0)] L st σ := EB_eq 175 4 L st σ
theorem bk_175_5 {L : ev_L} {st : List ev_V} {σ : ev_M} : EB 175 5 L st σ = EO 175 [(6, 0, 0, 0, 0), (53, 6, 0, 0, 0)] L st σ := EB_eq 175 5 L st σ
theorem bk_175_6 {L : ev_L} {st : List ev_V} {σ : ev_M} : EB 175 6 L st σ = EO 175 [(3, 7, 1, 0, 0), (1, 0, 0, 0, 0), (0, 7, 1, 0, 0), (46, 7, 0, 8, 0), (0, 5, 1, 0, 0), (52, 8, 0, 7, 0)] L st σ := EB_eq 175 6 L st σ
theorem bk_175_7 {L : ev_L} {st : List ev_V} {σ : ev_M} : EB 175 7 L st σ = EO 175 [(1, 0, 0, 0, 0), (27, 164, 11, 12, 0), (53, 8, 0, 0, 0)] L st σ := EB_eq 175 7 L st σ
theorem bk_175_8 {L : ev_L} {st : List ev_V} {σ : ev_M} : EB 175 8 L st σ = EO 175 [(30, 164, 11, 12, 0), (1, 0, 0, 0, 0), (0, 6, 1, 0, 0), (30, 171, 11, 13, 0), (0, 7, 1, 0, 0), (56, 1, 0, 0, 0)] L st σ := EB_eq 175 8 L st σ
theorem mm_176 {i0 : Int} {σ : ev_M} : EM 176 [.inr (.inl i0)] σ = EB 176 0 [some (.inr (.inl i0)), none, none, none] [] σ := by
  unfold EM ev_go
  exact if_pos (Nat.le_of_ble_eq_true rfl)
theorem bk_176_0 {L : ev_L} {st : List ev_V} {σ : ev_M} : EB 176 0 L st σ = EO 176 [(1, 0, 0, 0, 0), (59, 173, 1, 167, 11), (3, 1, 0, 0, 0), (1, 0, 0, 0, 0), (28, 7, 11, 0, 1), (6, 0, 0, 1, 0), (32, 0, 0, 0, 0), (6, 1, 0, 20, 0), (40, 1, 0, 20, 0), (1, 0, 0, 0, 0), (6, 0, 0, 0, 0), (1, 0, 0, 0, 0), (28, 7, 11, 0, 1), (6, 0, 0, 0, 0), (32, 0, 0, 0, 0), (6, 0, 0, 1, 0), (11, 0, 0, 0, 0), (6, 0, 0, (-1), 0), (59, 175, 4, 174, 11), (47, 2, 0, 5, 0), (53, 1, 0, 0, 0)] L st σ := EB_eq 176 0 L st σ
theorem bk_176_1 {L : ev_L} {st : List ev_V} {σ : ev_M} : EB 176 1 L st σ = EO 176 [(6, 0, 0, 0, 0), (56, 1, 0, 0, 0)] L st σ := EB_eq 176 1 L st σ
theorem bk_176_2 {L : ev_L} {st : List ev_V} {σ : ev_M} : EB 176 2 L st σ = EO 176 [(1, 0, 0, 0, 0), (27, 171, 11, 13, 0), (3, 2, 0, 0, 0), (1, 0, 0, 0, 0), (6, 1, 0, 45, 0), (59, 174, 2, 177, 11), (46, 3, 0, 20, 0), (1, 0, 0, 0, 0), (6, 0, 0, 0, 0), (1, 0, 0, 0, 0), (28, 7, 11, 0, 1), (6, 0, 0, 0, 0), (32, 0, 0, 0, 0), (6, 0, 0, 1, 0), (11, 0, 0, 0, 0), (0, 2, 0, 0, 0), (59, 175, 4, 174, 11), (47, 4, 0, 5, 0), (53, 3, 0, 0, 0)] L st σ := EB_eq 176 2 L st σ
theorem bk_176_3 {L : ev_L} {st : List ev_V} {σ : ev_M} : EB 176 3 L st σ = EO 176 [(6, 0, 0, 0, 0), (56, 1, 0, 0, 0)] L st σ := EB_eq 176 3 L st σ
theorem bk_176_4 {L : ev_L} {st : List ev_V} {σ : ev_M} : EB 176 4 L st σ = EO 176 [(1, 0, 0, 0, 0), (27, 171, 11, 13, 0), (3, 3, 0, 0, 0), (1, 0, 0, 0, 0), (6, 1, 0, 58, 0), (59, 174, 2, 177, 11), (46, 5, 0, 14, 0), (1, 0, 0, 0, 0), (6, 0, 0, 1, 0), (6, 1, 0, 99, 0), (6, 0, 0, (-1), 0), (59, 175, 4, 174, 11), (47, 6, 0, 5, 0), (53, 5, 0, 0, 0)] L st σ := EB_eq 176 4 L st σ
theorem bk_176_5 {L : ev_L} {st : List ev_V} {σ : ev_M} : EB 176 5 L st σ = EO 176 [(6, 0, 0, 0, 0), (56, 1, 0, 0, 0)] L st σ := EB_eq 176 5 L st σ
theorem bk_176_6 {L : ev_L} {st : List ev_V} {σ : ev_M} : EB 176 6 L st σ = EO 176 [(1, 0, 0, 0, 0), (0, 2, 0, 0, 0), (0, 3, 0, 0, 0), (1, 0, 0, 0, 0), (27, 171, 11, 13, 0), (59, 122, 4, 69, 11), (1, 0, 0, 0, 0), (59, 173, 1, 167, 11), (6, 1, 0, 98, 0), (40, 7, 0, 5, 0), (6, 0, 0, 1, 0), (56, 1, 0, 0, 0)] L st σ := EB_eq 176 6 L st σ
theorem bk_176_7 {L : ev_L} {st : List ev_V} {σ : ev_M} : EB 176 7 L st σ = EO 176 [(1, 0, 0, 0, 0), (28, 7, 11, 0, 1), (6, 0, 0, 2, 0), (32, 0, 0, 0, 0), (6, 1, 0, 6, 0), (41, 8, 0, 5, 0), (6, 0, 0, 0, 0), (56, 1, 0, 0, 0)] L st σ := EB_eq 176 7 L st σ
theorem bk_176_8 {L : ev_L} {st : List ev_V} {σ : ev_M} : EB 176 8 L st σ = EO 176 [(1, 0, 0, 0, 0), (24, 0, 0, 0, 0), (27, 164, 11, 12, 0), (6, 0, 0, 1, 0), (10, 0, 0, 0, 0), (30, 164, 11, 12, 0), (1, 0, 0, 0, 0), (1, 0, 0, 0, 0), (28, 7, 11, 0, 1), (6, 0, 0, 1, 0), (32, 0, 0, 0, 0), (6, 0, 0, 1, 0), (11, 0, 0, 0, 0), (59, 123, 2, 79, 11), (6, 0, 0, 1, 0), (56, 1, 0, 0, 0)] L st σ := EB_eq 176 8 L st σ
theorem mm_177 {i0 : Int} {σ : ev_M} : EM 177 [.inr (.inl i0)] σ = EB 177 0 [some (.inr (.inl i0)), none, none] [] σ := by
  unfold EM ev_go
  exact if_pos (Nat.le_of_ble_eq_true rfl)
theorem bk_177_0 {L : ev_L} {st : List ev_V} {σ : ev_M} : EB 177 0 L st σ = EO 177 [(1, 0, 0, 0, 0), (6, 0, 0, 0, 0), (30, 164, 11, 12, 0), (1, 0, 0, 0, 0), (59, 176, 1, 180, 11), (3, 1, 0, 0, 0), (1, 0, 0, 0, 0), (59, 173, 1, 167, 11), (3, 2, 0, 0, 0), (53, 1, 0, 0, 0)] L st σ := EB_eq 177 0 L st σ
theorem bk_177_1 {L : ev_L} {st : List ev_V} {σ : ev_M} : EB 177 1 L st σ = EO 177 [(0, 1, 0, 0, 0), (46, 4, 0, 38, 0), (0, 2, 0, 0, 0), (6, 0, 0, (-1), 0), (40, 4, 0, 33, 0), (1, 0, 0, 0, 0), (6, 1, 0, 59, 0), (59, 174, 2, 177, 11), (46, 2, 0, 14, 0), (1, 0, 0, 0, 0), (59, 176, 1, 180, 11), (46, 2, 0, 7, 0), (6, 0, 0, 1, 0), (52, 3, 0, 4, 0)] L st σ := EB_eq 177 1 L st σ
theorem bk_177_2 {L : ev_L} {st : List ev_V} {σ : ev_M} : EB 177 2 L st σ = EO 177 [(6, 0, 0, 0, 0), (53, 3, 0, 0, 0)] L st σ := EB_eq 177 2 L st σ
theorem bk_177_3 {L : ev_L} {st : List ev_V} {σ : ev_M} : EB 177 3 L st σ = EO 177 [(3, 1, 0, 0, 0), (1, 0, 0, 0, 0), (59, 173, 1, 167, 11), (3, 2, 0, 0, 0), (52, 1, 0, (-36), 0)] L st σ := EB_eq 177 3 L st σ
theorem bk_177_4 {L : ev_L} {st : List ev_V} {σ : ev_M} : EB 177 4 L st σ = EO 177 [(0, 1, 0, 0, 0), (56, 1, 0, 0, 0)] L st σ := EB_eq 177 4 L st σ
theorem mm_178 {i0 : Int} {σ : ev_M} : EM 178 [.inr (.inl i0)] σ = EB 178 0 [some (.inr (.inl i0)), none] [] σ := by
  unfold EM ev_go
  exact if_pos (Nat.le_of_ble_eq_true rfl)
theorem bk_178_0 {L : ev_L} {st : List ev_V} {σ : ev_M} : EB 178 0 L st σ = EO 178 [(1, 0, 0, 0, 0), (6, 0, 0, 0, 0), (6, 1, 0, 6, 0), (59, 107, 3, 39, 11), (1, 0, 0, 0, 0), (59, 177, 1, 184, 11), (3, 1, 0, 0, 0), (1, 0, 0, 0, 0), (6, 1, 0, 6, 0), (6, 0, 0, 0, 0), (59, 107, 3, 39, 11), (0, 1, 0, 0, 0), (46, 1, 0, 7, 0), (6, 0, 0, (-1), 0), (52, 2, 0, 7, 0)] L st σ := EB_eq 178 0 L st σ
theorem bk_178_1 {L : ev_L} {st : List ev_V} {σ : ev_M} : EB 178 1 L st σ = EO 178 [(1, 0, 0, 0, 0), (27, 164, 11, 12, 0), (53, 2, 0, 0, 0)] L st σ := EB_eq 178 1 L st σ
theorem bk_178_2 {L : ev_L} {st : List ev_V} {σ : ev_M} : EB 178 2 L st σ = EO 178 [(56, 0, 0, 0, 0)] L st σ := EB_eq 178 2 L st σ
theorem mm_179 {i0 : Int} {σ : ev_M} : EM 179 [.inr (.inl i0)] σ = EB 179 0 [some (.inr (.inl i0)), none] [] σ := by
  unfold EM ev_go
  exact if_pos (Nat.le_of_ble_eq_true rfl)
theorem bk_179_0 {L : ev_L} {st : List ev_V} {σ : ev_M} : EB 179 0 L st σ = EO 179 [(1, 0, 0, 0, 0), (59, 178, 1, 187, 11), (6, 0, 0, (-1), 0), (40, 1, 0, 6, 0), (6, 1, 0, (-4), 0), (56, 0, 0, 0, 0)] L st σ := EB_eq 179 0 L st σ
theorem bk_179_1 {L : ev_L} {st : List ev_V} {σ : ev_M} : EB 179 1 L st σ = EO 179 [(1, 0, 0, 0, 0), (59, 108, 1, 63, 11), (1, 0, 0, 0, 0), (59, 177, 1, 184, 11), (3, 1, 0, 0, 0), (1, 0, 0, 0, 0), (28, 7, 11, 0, 1), (6, 0, 0, 1, 0), (32, 0, 0, 0, 0), (56, 0, 0, 0, 0)] L st σ := EB_eq 179 1 L st σ
theorem mm_180 {i0 : Int} {x1 : Int} {σ : ev_M} : EM 180 [.inr (.inl i0), .inl x1] σ = EB 180 0 [some (.inr (.inl i0)), some (.inl x1)] [] σ := by
  unfold EM ev_go
  exact if_pos (Nat.le_of_ble_eq_true rfl)
theorem bk_180_0 {L : ev_L} {st : List ev_V} {σ : ev_M} : EB 180 0 L st σ = EO 180 [(1, 0, 0, 0, 0), (8, 190, 0, 31, 0), (1, 0, 0, 0, 0), (29, 192, 11, 14, 0), (21, 0, 0, 0, 0), (0, 1, 0, 0, 0), (22, 0, 0, 0, 0), (20, 0, 0, 0, 0), (31, 192, 11, 14, 0), (58, 0, 0, 0, 0)] L st σ := EB_eq 180 0 L st σ
theorem mm_181 {i0 : Int} {σ : ev_M} : EM 181 [.inr (.inl i0)] σ = EB 181 0 [some (.inr (.inl i0)), none, none, none] [] σ := by
  unfold EM ev_go
  exact if_pos (Nat.le_of_ble_eq_true rfl)
theorem bk_181_0 {L : ev_L} {st : List ev_V} {σ : ev_M} : EB 181 0 L st σ = EO 181 [(1, 0, 0, 0, 0), (8, 196, 0, 17, 0), (31, 192, 11, 14, 0), (6, 0, 0, 0, 0), (3, 1, 0, 0, 0), (53, 1, 0, 0, 0)] L st σ := EB_eq 181 0 L st σ
theorem bk_181_1 {L : ev_L} {st : List ev_V} {σ : ev_M} : EB 181 1 L st σ = EO 181 [(0, 1, 0, 0, 0), (6, 1, 0, 11, 0), (43, 2, 0, 18, 0), (1, 0, 0, 0, 0), (1, 0, 0, 0, 0), (0, 1, 0, 0, 0), (59, 130, 2, 97, 11), (59, 180, 2, 198, 11), (23, 1, 0, 1, 0), (52, 1, 0, (-18), 0)] L st σ := EB_eq 181 1 L st σ
theorem bk_181_2 {L : ev_L} {st : List ev_V} {σ : ev_M} : EB 181 2 L st σ = EO 181 [(6, 0, 0, 0, 0), (3, 1, 0, 0, 0), (53, 3, 0, 0, 0)] L st σ := EB_eq 181 2 L st σ
theorem bk_181_3 {L : ev_L} {st : List ev_V} {σ : ev_M} : EB 181 3 L st σ = EO 181 [(0, 1, 0, 0, 0), (6, 0, 0, 4, 0), (1, 0, 0, 0, 0), (28, 7, 11, 0, 1), (6, 0, 0, 1, 0), (32, 0, 0, 0, 0), (12, 0, 0, 0, 0), (43, 4, 0, 22, 0), (1, 0, 0, 0, 0), (1, 0, 0, 0, 0), (28, 7, 11, 0, 1), (6, 1, 0, 9, 0), (0, 1, 0, 0, 0), (10, 0, 0, 0, 0), (32, 0, 0, 0, 0), (59, 180, 2, 198, 11), (23, 1, 0, 1, 0), (52, 3, 0, (-28), 0)] L st σ := EB_eq 181 3 L st σ
theorem bk_181_4 {L : ev_L} {st : List ev_V} {σ : ev_M} : EB 181 4 L st σ = EO 181 [(6, 0, 0, 0, 0), (3, 1, 0, 0, 0), (53, 5, 0, 0, 0)] L st σ := EB_eq 181 4 L st σ
theorem bk_181_5 {L : ev_L} {st : List ev_V} {σ : ev_M} : EB 181 5 L st σ = EO 181 [(0, 1, 0, 0, 0), (1, 0, 0, 0, 0), (28, 7, 11, 0, 1), (6, 0, 0, 2, 0), (32, 0, 0, 0, 0), (43, 12, 0, 76, 0), (6, 0, 0, 0, 0), (3, 2, 0, 0, 0), (53, 6, 0, 0, 0)] L st σ := EB_eq 181 5 L st σ
theorem bk_181_6 {L : ev_L} {st : List ev_V} {σ : ev_M} : EB 181 6 L st σ = EO 181 [(0, 2, 0, 0, 0), (6, 1, 0, 9, 0), (43, 7, 0, 19, 0), (1, 0, 0, 0, 0), (1, 0, 0, 0, 0), (0, 1, 0, 0, 0), (0, 2, 0, 0, 0), (59, 133, 3, 103, 11), (59, 180, 2, 198, 11), (23, 2, 0, 1, 0), (52, 6, 0, (-19), 0)] L st σ := EB_eq 181 6 L st σ
theorem bk_181_7 {L : ev_L} {st : List ev_V} {σ : ev_M} : EB 181 7 L st σ = EO 181 [(6, 0, 0, 0, 0), (3, 2, 0, 0, 0), (53, 8, 0, 0, 0)] L st σ := EB_eq 181 7 L st σ
theorem bk_181_8 {L : ev_L} {st : List ev_V} {σ : ev_M} : EB 181 8 L st σ = EO 181 [(0, 2, 0, 0, 0), (1, 0, 0, 0, 0), (0, 1, 0, 0, 0), (6, 0, 0, 1, 0), (59, 114, 3, 51, 11), (43, 11, 0, 34, 0), (6, 0, 0, 0, 0), (3, 3, 0, 0, 0), (53, 9, 0, 0, 0)] L st σ := EB_eq 181 8 L st σ
theorem bk_181_9 {L : ev_L} {st : List ev_V} {σ : ev_M} : EB 181 9 L st σ = EO 181 [(0, 3, 0, 0, 0), (6, 1, 0, 6, 0), (43, 10, 0, 20, 0), (1, 0, 0, 0, 0), (1, 0, 0, 0, 0), (0, 1, 0, 0, 0), (0, 2, 0, 0, 0), (0, 3, 0, 0, 0), (59, 135, 4, 106, 11), (59, 180, 2, 198, 11), (23, 3, 0, 1, 0), (52, 9, 0, (-20), 0)] L st σ := EB_eq 181 9 L st σ
theorem bk_181_10 {L : ev_L} {st : List ev_V} {σ : ev_M} : EB 181 10 L st σ = EO 181 [(23, 2, 0, 1, 0), (52, 8, 0, (-38), 0)] L st σ := EB_eq 181 10 L st σ
theorem bk_181_11 {L : ev_L} {st : List ev_V} {σ : ev_M} : EB 181 11 L st σ = EO 181 [(23, 1, 0, 1, 0), (52, 5, 0, (-80), 0)] L st σ := EB_eq 181 11 L st σ
theorem bk_181_12 {L : ev_L} {st : List ev_V} {σ : ev_M} : EB 181 12 L st σ = EO 181 [(1, 0, 0, 0, 0), (59, 161, 1, 148, 11), (6, 0, 0, 0, 0), (3, 1, 0, 0, 0), (53, 13, 0, 0, 0)] L st σ := EB_eq 181 12 L st σ
theorem bk_181_13 {L : ev_L} {st : List ev_V} {σ : ev_M} : EB 181 13 L st σ = EO 181 [(0, 1, 0, 0, 0), (1, 0, 0, 0, 0), (28, 7, 11, 0, 1), (6, 0, 0, 3, 0), (32, 0, 0, 0, 0), (43, 16, 0, 50, 0), (6, 0, 0, 0, 0), (3, 2, 0, 0, 0), (53, 14, 0, 0, 0)] L st σ := EB_eq 181 13 L st σ
theorem bk_181_14 {L : ev_L} {st : List ev_V} {σ : ev_M} : EB 181 14 L st σ = EO 181 [(0, 2, 0, 0, 0), (6, 0, 0, 3, 0), (43, 15, 0, 27, 0), (1, 0, 0, 0, 0), (1, 0, 0, 0, 0), (28, 7, 11, 0, 1), (6, 2, 0, 299, 0), (6, 0, 0, 3, 0), (0, 1, 0, 0, 0), (12, 0, 0, 0, 0), (10, 0, 0, 0, 0), (0, 2, 0, 0, 0), (10, 0, 0, 0, 0), (32, 0, 0, 0, 0), (59, 180, 2, 198, 11), (23, 2, 0, 1, 0), (52, 14, 0, (-26), 0)] L st σ := EB_eq 181 14 L st σ
theorem bk_181_15 {L : ev_L} {st : List ev_V} {σ : ev_M} : EB 181 15 L st σ = EO 181 [(1, 0, 0, 0, 0), (1, 0, 0, 0, 0), (28, 29, 11, 8, 7), (0, 1, 0, 0, 0), (32, 0, 0, 0, 0), (59, 180, 2, 198, 11), (23, 1, 0, 1, 0), (52, 13, 0, (-54), 0)] L st σ := EB_eq 181 15 L st σ
theorem bk_181_16 {L : ev_L} {st : List ev_V} {σ : ev_M} : EB 181 16 L st σ = EO 181 [(6, 0, 0, 0, 0), (3, 1, 0, 0, 0), (53, 17, 0, 0, 0)] L st σ := EB_eq 181 16 L st σ
theorem bk_181_17 {L : ev_L} {st : List ev_V} {σ : ev_M} : EB 181 17 L st σ = EO 181 [(0, 1, 0, 0, 0), (1, 0, 0, 0, 0), (28, 7, 11, 0, 1), (6, 0, 0, 4, 0), (32, 0, 0, 0, 0), (43, 20, 0, 33, 0), (6, 0, 0, 0, 0), (3, 2, 0, 0, 0), (53, 18, 0, 0, 0)] L st σ := EB_eq 181 17 L st σ
theorem bk_181_18 {L : ev_L} {st : List ev_V} {σ : ev_M} : EB 181 18 L st σ = EO 181 [(0, 2, 0, 0, 0), (6, 1, 0, 7, 0), (43, 19, 0, 19, 0), (1, 0, 0, 0, 0), (1, 0, 0, 0, 0), (0, 1, 0, 0, 0), (0, 2, 0, 0, 0), (59, 164, 3, 155, 11), (59, 180, 2, 198, 11), (23, 2, 0, 1, 0), (52, 18, 0, (-19), 0)] L st σ := EB_eq 181 18 L st σ
theorem bk_181_19 {L : ev_L} {st : List ev_V} {σ : ev_M} : EB 181 19 L st σ = EO 181 [(23, 1, 0, 1, 0), (52, 17, 0, (-37), 0)] L st σ := EB_eq 181 19 L st σ
theorem bk_181_20 {L : ev_L} {st : List ev_V} {σ : ev_M} : EB 181 20 L st σ = EO 181 [(1, 0, 0, 0, 0), (29, 192, 11, 14, 0), (57, 0, 0, 0, 0)] L st σ := EB_eq 181 20 L st σ
