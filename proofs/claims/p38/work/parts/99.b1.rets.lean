/-! THE LAW is what the pure machine says of it -/
section RX
variable {L : ev_L} {st : List ev_V} {σ : ev_M} {r : ev_R}
theorem rx_0 {a b : Nat} {z w : Int} (h : ev_x ((0, a, b, z, w) : ev_O) L st σ = some (.inr (.inr (.inl r)))) (hr : r.1 = some (.inl 1)) : False := by
  simp only [ev_x] at h
  repeat' (split at h)
  all_goals cases h
theorem rx_1 {a b : Nat} {z w : Int} (h : ev_x ((1, a, b, z, w) : ev_O) L st σ = some (.inr (.inr (.inl r)))) (hr : r.1 = some (.inl 1)) : False := by
  simp only [ev_x] at h
  repeat' (split at h)
  all_goals cases h
theorem rx_2 {a b : Nat} {z w : Int} (h : ev_x ((2, a, b, z, w) : ev_O) L st σ = some (.inr (.inr (.inl r)))) (hr : r.1 = some (.inl 1)) : False := by
  simp only [ev_x] at h
  repeat' (split at h)
  all_goals cases h
theorem rx_3 {a b : Nat} {z w : Int} (h : ev_x ((3, a, b, z, w) : ev_O) L st σ = some (.inr (.inr (.inl r)))) (hr : r.1 = some (.inl 1)) : False := by
  simp only [ev_x] at h
  repeat' (split at h)
  all_goals cases h
theorem rx_4 {a b : Nat} {z w : Int} (h : ev_x ((4, a, b, z, w) : ev_O) L st σ = some (.inr (.inr (.inl r)))) (hr : r.1 = some (.inl 1)) : False := by
  simp only [ev_x] at h
  repeat' (split at h)
  all_goals cases h
theorem rx_5 {a b : Nat} {z w : Int} (h : ev_x ((5, a, b, z, w) : ev_O) L st σ = some (.inr (.inr (.inl r)))) (hr : r.1 = some (.inl 1)) : False := by
  simp only [ev_x] at h
  repeat' (split at h)
  all_goals cases h
theorem rx_6 {a b : Nat} {z w : Int} (h : ev_x ((6, a, b, z, w) : ev_O) L st σ = some (.inr (.inr (.inl r)))) (hr : r.1 = some (.inl 1)) : False := by
  simp only [ev_x] at h
  repeat' (split at h)
  all_goals cases h
theorem rx_7 {a b : Nat} {z w : Int} (h : ev_x ((7, a, b, z, w) : ev_O) L st σ = some (.inr (.inr (.inl r)))) (hr : r.1 = some (.inl 1)) : False := by
  simp only [ev_x] at h
  repeat' (split at h)
  all_goals cases h
theorem rx_8 {a b : Nat} {z w : Int} (h : ev_x ((8, a, b, z, w) : ev_O) L st σ = some (.inr (.inr (.inl r)))) (hr : r.1 = some (.inl 1)) : False := by
  simp only [ev_x] at h
  repeat' (split at h)
  all_goals cases h
theorem rx_9 {a b : Nat} {z w : Int} (h : ev_x ((9, a, b, z, w) : ev_O) L st σ = some (.inr (.inr (.inl r)))) (hr : r.1 = some (.inl 1)) : False := by
  simp only [ev_x] at h
  repeat' (split at h)
  all_goals cases h
theorem rx_10 {a b : Nat} {z w : Int} (h : ev_x ((10, a, b, z, w) : ev_O) L st σ = some (.inr (.inr (.inl r)))) (hr : r.1 = some (.inl 1)) : False := by
  simp only [ev_x] at h
  repeat' (split at h)
  all_goals cases h
theorem rx_11 {a b : Nat} {z w : Int} (h : ev_x ((11, a, b, z, w) : ev_O) L st σ = some (.inr (.inr (.inl r)))) (hr : r.1 = some (.inl 1)) : False := by
  simp only [ev_x] at h
  repeat' (split at h)
  all_goals cases h
theorem rx_12 {a b : Nat} {z w : Int} (h : ev_x ((12, a, b, z, w) : ev_O) L st σ = some (.inr (.inr (.inl r)))) (hr : r.1 = some (.inl 1)) : False := by
  simp only [ev_x] at h
  repeat' (split at h)
  all_goals cases h
theorem rx_13 {a b : Nat} {z w : Int} (h : ev_x ((13, a, b, z, w) : ev_O) L st σ = some (.inr (.inr (.inl r)))) (hr : r.1 = some (.inl 1)) : False := by
  simp only [ev_x] at h
  repeat' (split at h)
  all_goals cases h
theorem rx_14 {a b : Nat} {z w : Int} (h : ev_x ((14, a, b, z, w) : ev_O) L st σ = some (.inr (.inr (.inl r)))) (hr : r.1 = some (.inl 1)) : False := by
  simp only [ev_x] at h
  repeat' (split at h)
  all_goals cases h
theorem rx_15 {a b : Nat} {z w : Int} (h : ev_x ((15, a, b, z, w) : ev_O) L st σ = some (.inr (.inr (.inl r)))) (hr : r.1 = some (.inl 1)) : False := by
  simp only [ev_x] at h
  repeat' (split at h)
  all_goals cases h
theorem rx_16 {a b : Nat} {z w : Int} (h : ev_x ((16, a, b, z, w) : ev_O) L st σ = some (.inr (.inr (.inl r)))) (hr : r.1 = some (.inl 1)) : False := by
  simp only [ev_x] at h
  repeat' (split at h)
  all_goals cases h
theorem rx_17 {a b : Nat} {z w : Int} (h : ev_x ((17, a, b, z, w) : ev_O) L st σ = some (.inr (.inr (.inl r)))) (hr : r.1 = some (.inl 1)) : False := by
  simp only [ev_x] at h
  repeat' (split at h)
  all_goals cases h
theorem rx_18 {a b : Nat} {z w : Int} (h : ev_x ((18, a, b, z, w) : ev_O) L st σ = some (.inr (.inr (.inl r)))) (hr : r.1 = some (.inl 1)) : False := by
  simp only [ev_x] at h
  repeat' (split at h)
  all_goals cases h
theorem rx_19 {a b : Nat} {z w : Int} (h : ev_x ((19, a, b, z, w) : ev_O) L st σ = some (.inr (.inr (.inl r)))) (hr : r.1 = some (.inl 1)) : False := by
  simp only [ev_x] at h
  repeat' (split at h)
  all_goals cases h
theorem rx_20 {a b : Nat} {z w : Int} (h : ev_x ((20, a, b, z, w) : ev_O) L st σ = some (.inr (.inr (.inl r)))) (hr : r.1 = some (.inl 1)) : False := by
  simp only [ev_x] at h
  repeat' (split at h)
  all_goals cases h
theorem rx_21 {a b : Nat} {z w : Int} (h : ev_x ((21, a, b, z, w) : ev_O) L st σ = some (.inr (.inr (.inl r)))) (hr : r.1 = some (.inl 1)) : False := by
  simp only [ev_x] at h
  repeat' (split at h)
  all_goals cases h
theorem rx_22 {a b : Nat} {z w : Int} (h : ev_x ((22, a, b, z, w) : ev_O) L st σ = some (.inr (.inr (.inl r)))) (hr : r.1 = some (.inl 1)) : False := by
  simp only [ev_x] at h
  repeat' (split at h)
  all_goals cases h
theorem rx_23 {a b : Nat} {z w : Int} (h : ev_x ((23, a, b, z, w) : ev_O) L st σ = some (.inr (.inr (.inl r)))) (hr : r.1 = some (.inl 1)) : False := by
  simp only [ev_x] at h
  repeat' (split at h)
  all_goals cases h
theorem rx_24 {a b : Nat} {z w : Int} (h : ev_x ((24, a, b, z, w) : ev_O) L st σ = some (.inr (.inr (.inl r)))) (hr : r.1 = some (.inl 1)) : False := by
  simp only [ev_x] at h
  repeat' (split at h)
  all_goals cases h
theorem rx_25 {a b : Nat} {z w : Int} (h : ev_x ((25, a, b, z, w) : ev_O) L st σ = some (.inr (.inr (.inl r)))) (hr : r.1 = some (.inl 1)) : False := by
  simp only [ev_x] at h
  repeat' (split at h)
  all_goals cases h
theorem rx_26 {a b : Nat} {z w : Int} (h : ev_x ((26, a, b, z, w) : ev_O) L st σ = some (.inr (.inr (.inl r)))) (hr : r.1 = some (.inl 1)) : False := by
  simp only [ev_x] at h
  repeat' (split at h)
  all_goals cases h
theorem rx_27 {a b : Nat} {z w : Int} (h : ev_x ((27, a, b, z, w) : ev_O) L st σ = some (.inr (.inr (.inl r)))) (hr : r.1 = some (.inl 1)) : False := by
  simp only [ev_x] at h
  repeat' (split at h)
  all_goals cases h
theorem rx_28 {a b : Nat} {z w : Int} (h : ev_x ((28, a, b, z, w) : ev_O) L st σ = some (.inr (.inr (.inl r)))) (hr : r.1 = some (.inl 1)) : False := by
  simp only [ev_x] at h
  repeat' (split at h)
  all_goals cases h
theorem rx_29 {a b : Nat} {z w : Int} (h : ev_x ((29, a, b, z, w) : ev_O) L st σ = some (.inr (.inr (.inl r)))) (hr : r.1 = some (.inl 1)) : False := by
  simp only [ev_x] at h
  repeat' (split at h)
  all_goals cases h
theorem rx_30 {a b : Nat} {z w : Int} (h : ev_x ((30, a, b, z, w) : ev_O) L st σ = some (.inr (.inr (.inl r)))) (hr : r.1 = some (.inl 1)) : False := by
  simp only [ev_x] at h
  repeat' (split at h)
  all_goals cases h
theorem rx_31 {a b : Nat} {z w : Int} (h : ev_x ((31, a, b, z, w) : ev_O) L st σ = some (.inr (.inr (.inl r)))) (hr : r.1 = some (.inl 1)) : False := by
  simp only [ev_x] at h
  repeat' (split at h)
  all_goals cases h
theorem rx_32 {a b : Nat} {z w : Int} (h : ev_x ((32, a, b, z, w) : ev_O) L st σ = some (.inr (.inr (.inl r)))) (hr : r.1 = some (.inl 1)) : False := by
  simp only [ev_x] at h
  repeat' (split at h)
  all_goals cases h
theorem rx_33 {a b : Nat} {z w : Int} (h : ev_x ((33, a, b, z, w) : ev_O) L st σ = some (.inr (.inr (.inl r)))) (hr : r.1 = some (.inl 1)) : False := by
  simp only [ev_x] at h
  repeat' (split at h)
  all_goals cases h
theorem rx_34 {a b : Nat} {z w : Int} (h : ev_x ((34, a, b, z, w) : ev_O) L st σ = some (.inr (.inr (.inl r)))) (hr : r.1 = some (.inl 1)) : False := by
  simp only [ev_x] at h
  repeat' (split at h)
  all_goals cases h
theorem rx_35 {a b : Nat} {z w : Int} (h : ev_x ((35, a, b, z, w) : ev_O) L st σ = some (.inr (.inr (.inl r)))) (hr : r.1 = some (.inl 1)) : False := by
  simp only [ev_x] at h
  repeat' (split at h)
  all_goals cases h
theorem rx_36 {a b : Nat} {z w : Int} (h : ev_x ((36, a, b, z, w) : ev_O) L st σ = some (.inr (.inr (.inl r)))) (hr : r.1 = some (.inl 1)) : False := by
  simp only [ev_x] at h
  repeat' (split at h)
  all_goals cases h
theorem rx_37 {a b : Nat} {z w : Int} (h : ev_x ((37, a, b, z, w) : ev_O) L st σ = some (.inr (.inr (.inl r)))) (hr : r.1 = some (.inl 1)) : False := by
  simp only [ev_x] at h
  repeat' (split at h)
  all_goals cases h
theorem rx_38 {a b : Nat} {z w : Int} (h : ev_x ((38, a, b, z, w) : ev_O) L st σ = some (.inr (.inr (.inl r)))) (hr : r.1 = some (.inl 1)) : False := by
  simp only [ev_x] at h
  repeat' (split at h)
  all_goals cases h
theorem rx_39 {a b : Nat} {z w : Int} (h : ev_x ((39, a, b, z, w) : ev_O) L st σ = some (.inr (.inr (.inl r)))) (hr : r.1 = some (.inl 1)) : False := by
  simp only [ev_x] at h
  repeat' (split at h)
  all_goals cases h
theorem rx_40 {a b : Nat} {z w : Int} (h : ev_x ((40, a, b, z, w) : ev_O) L st σ = some (.inr (.inr (.inl r)))) (hr : r.1 = some (.inl 1)) : False := by
  simp only [ev_x] at h
  repeat' (split at h)
  all_goals cases h
theorem rx_41 {a b : Nat} {z w : Int} (h : ev_x ((41, a, b, z, w) : ev_O) L st σ = some (.inr (.inr (.inl r)))) (hr : r.1 = some (.inl 1)) : False := by
  simp only [ev_x] at h
  repeat' (split at h)
  all_goals cases h
theorem rx_42 {a b : Nat} {z w : Int} (h : ev_x ((42, a, b, z, w) : ev_O) L st σ = some (.inr (.inr (.inl r)))) (hr : r.1 = some (.inl 1)) : False := by
  simp only [ev_x] at h
  repeat' (split at h)
  all_goals cases h
theorem rx_43 {a b : Nat} {z w : Int} (h : ev_x ((43, a, b, z, w) : ev_O) L st σ = some (.inr (.inr (.inl r)))) (hr : r.1 = some (.inl 1)) : False := by
  simp only [ev_x] at h
  repeat' (split at h)
  all_goals cases h
theorem rx_44 {a b : Nat} {z w : Int} (h : ev_x ((44, a, b, z, w) : ev_O) L st σ = some (.inr (.inr (.inl r)))) (hr : r.1 = some (.inl 1)) : False := by
  simp only [ev_x] at h
  repeat' (split at h)
  all_goals cases h
theorem rx_45 {a b : Nat} {z w : Int} (h : ev_x ((45, a, b, z, w) : ev_O) L st σ = some (.inr (.inr (.inl r)))) (hr : r.1 = some (.inl 1)) : False := by
  simp only [ev_x] at h
  repeat' (split at h)
  all_goals cases h
theorem rx_46 {a b : Nat} {z w : Int} (h : ev_x ((46, a, b, z, w) : ev_O) L st σ = some (.inr (.inr (.inl r)))) (hr : r.1 = some (.inl 1)) : False := by
  simp only [ev_x] at h
  repeat' (split at h)
  all_goals cases h
theorem rx_47 {a b : Nat} {z w : Int} (h : ev_x ((47, a, b, z, w) : ev_O) L st σ = some (.inr (.inr (.inl r)))) (hr : r.1 = some (.inl 1)) : False := by
  simp only [ev_x] at h
  repeat' (split at h)
  all_goals cases h
theorem rx_48 {a b : Nat} {z w : Int} (h : ev_x ((48, a, b, z, w) : ev_O) L st σ = some (.inr (.inr (.inl r)))) (hr : r.1 = some (.inl 1)) : False := by
  simp only [ev_x] at h
  repeat' (split at h)
  all_goals cases h
theorem rx_49 {a b : Nat} {z w : Int} (h : ev_x ((49, a, b, z, w) : ev_O) L st σ = some (.inr (.inr (.inl r)))) (hr : r.1 = some (.inl 1)) : False := by
  simp only [ev_x] at h
  repeat' (split at h)
  all_goals cases h
theorem rx_50 {a b : Nat} {z w : Int} (h : ev_x ((50, a, b, z, w) : ev_O) L st σ = some (.inr (.inr (.inl r)))) (hr : r.1 = some (.inl 1)) : False := by
  simp only [ev_x] at h
  repeat' (split at h)
  all_goals cases h
theorem rx_51 {a b : Nat} {z w : Int} (h : ev_x ((51, a, b, z, w) : ev_O) L st σ = some (.inr (.inr (.inl r)))) (hr : r.1 = some (.inl 1)) : False := by
  simp only [ev_x] at h
  repeat' (split at h)
  all_goals cases h
theorem rx_52 {a b : Nat} {z w : Int} (h : ev_x ((52, a, b, z, w) : ev_O) L st σ = some (.inr (.inr (.inl r)))) (hr : r.1 = some (.inl 1)) : False := by
  simp only [ev_x] at h
  repeat' (split at h)
  all_goals cases h
theorem rx_53 {a b : Nat} {z w : Int} (h : ev_x ((53, a, b, z, w) : ev_O) L st σ = some (.inr (.inr (.inl r)))) (hr : r.1 = some (.inl 1)) : False := by
  simp only [ev_x] at h
  repeat' (split at h)
  all_goals cases h
theorem rx_54 {a b : Nat} {z w : Int} (h : ev_x ((54, a, b, z, w) : ev_O) L st σ = some (.inr (.inr (.inl r)))) (hr : r.1 = some (.inl 1)) : False := by
  simp only [ev_x] at h
  repeat' (split at h)
  all_goals cases h
theorem rx_55 {a b : Nat} {z w : Int} (h : ev_x ((55, a, b, z, w) : ev_O) L st σ = some (.inr (.inr (.inl r)))) (hr : r.1 = some (.inl 1)) : False := by
  simp only [ev_x] at h
  repeat' (split at h)
  all_goals cases h
theorem rx_57 {a b : Nat} {z w : Int} (h : ev_x ((57, a, b, z, w) : ev_O) L st σ = some (.inr (.inr (.inl r)))) (hr : r.1 = some (.inl 1)) : False := by
  simp only [ev_x] at h
  split at h
  · cases h
    cases hr
  · cases h
theorem rx_58 {a b : Nat} {z w : Int} (h : ev_x ((58, a, b, z, w) : ev_O) L st σ = some (.inr (.inr (.inl r)))) (hr : r.1 = some (.inl 1)) : False := by
  simp only [ev_x] at h
  split at h
  · cases h
    cases hr
  · cases h
theorem rx_59 {a b : Nat} {z w : Int} (h : ev_x ((59, a, b, z, w) : ev_O) L st σ = some (.inr (.inr (.inl r)))) (hr : r.1 = some (.inl 1)) : False := by
  simp only [ev_x] at h
  repeat' (split at h)
  all_goals cases h
theorem rx_60 {a b : Nat} {z w : Int} (h : ev_x ((60, a, b, z, w) : ev_O) L st σ = some (.inr (.inr (.inl r)))) (hr : r.1 = some (.inl 1)) : False := by
  simp only [ev_x] at h
  repeat' (split at h)
  all_goals cases h
theorem rx_61 {a b : Nat} {z w : Int} (h : ev_x ((61, a, b, z, w) : ev_O) L st σ = some (.inr (.inr (.inl r)))) (hr : r.1 = some (.inl 1)) : False := by
  simp only [ev_x] at h
  repeat' (split at h)
  all_goals cases h
theorem rx_62 {a b : Nat} {z w : Int} (h : ev_x ((62, a, b, z, w) : ev_O) L st σ = some (.inr (.inr (.inl r)))) (hr : r.1 = some (.inl 1)) : False := by
  simp only [ev_x] at h
  repeat' (split at h)
  all_goals cases h
theorem rx_63 {a b : Nat} {z w : Int} (h : ev_x ((63, a, b, z, w) : ev_O) L st σ = some (.inr (.inr (.inl r)))) (hr : r.1 = some (.inl 1)) : False := by
  simp only [ev_x] at h
  repeat' (split at h)
  all_goals cases h
theorem rx_56 {a b : Nat} {z w : Int} (h : ev_x ((56, a, b, z, w) : ev_O) L st σ = some (.inr (.inr (.inl r)))) (hr : r.1 = some (.inl 1)) : st = [.inl 1] := by
  simp only [ev_x] at h
  split at h
  · split at h
    · cases h
      cases hr
      rfl
    · cases h
  · cases h
theorem rx {op : ev_O} (h : ev_x op L st σ = some (.inr (.inr (.inl r)))) (hr : r.1 = some (.inl 1)) : op.1 = 56 ∧ st = [.inl 1] := by
  obtain ⟨k, a, b, z, w⟩ := op
  by_cases hk : k < 64
  · match k, hk with
    | 0, _ => exact absurd (rx_0 h hr) id
    | 1, _ => exact absurd (rx_1 h hr) id
    | 2, _ => exact absurd (rx_2 h hr) id
    | 3, _ => exact absurd (rx_3 h hr) id
    | 4, _ => exact absurd (rx_4 h hr) id
    | 5, _ => exact absurd (rx_5 h hr) id
    | 6, _ => exact absurd (rx_6 h hr) id
    | 7, _ => exact absurd (rx_7 h hr) id
    | 8, _ => exact absurd (rx_8 h hr) id
    | 9, _ => exact absurd (rx_9 h hr) id
    | 10, _ => exact absurd (rx_10 h hr) id
    | 11, _ => exact absurd (rx_11 h hr) id
    | 12, _ => exact absurd (rx_12 h hr) id
    | 13, _ => exact absurd (rx_13 h hr) id
    | 14, _ => exact absurd (rx_14 h hr) id
    | 15, _ => exact absurd (rx_15 h hr) id
    | 16, _ => exact absurd (rx_16 h hr) id
    | 17, _ => exact absurd (rx_17 h hr) id
    | 18, _ => exact absurd (rx_18 h hr) id
    | 19, _ => exact absurd (rx_19 h hr) id
    | 20, _ => exact absurd (rx_20 h hr) id
    | 21, _ => exact absurd (rx_21 h hr) id
    | 22, _ => exact absurd (rx_22 h hr) id
    | 23, _ => exact absurd (rx_23 h hr) id
    | 24, _ => exact absurd (rx_24 h hr) id
    | 25, _ => exact absurd (rx_25 h hr) id
    | 26, _ => exact absurd (rx_26 h hr) id
    | 27, _ => exact absurd (rx_27 h hr) id
    | 28, _ => exact absurd (rx_28 h hr) id
    | 29, _ => exact absurd (rx_29 h hr) id
    | 30, _ => exact absurd (rx_30 h hr) id
    | 31, _ => exact absurd (rx_31 h hr) id
    | 32, _ => exact absurd (rx_32 h hr) id
    | 33, _ => exact absurd (rx_33 h hr) id
    | 34, _ => exact absurd (rx_34 h hr) id
    | 35, _ => exact absurd (rx_35 h hr) id
    | 36, _ => exact absurd (rx_36 h hr) id
    | 37, _ => exact absurd (rx_37 h hr) id
    | 38, _ => exact absurd (rx_38 h hr) id
    | 39, _ => exact absurd (rx_39 h hr) id
    | 40, _ => exact absurd (rx_40 h hr) id
    | 41, _ => exact absurd (rx_41 h hr) id
    | 42, _ => exact absurd (rx_42 h hr) id
    | 43, _ => exact absurd (rx_43 h hr) id
    | 44, _ => exact absurd (rx_44 h hr) id
    | 45, _ => exact absurd (rx_45 h hr) id
    | 46, _ => exact absurd (rx_46 h hr) id
    | 47, _ => exact absurd (rx_47 h hr) id
    | 48, _ => exact absurd (rx_48 h hr) id
    | 49, _ => exact absurd (rx_49 h hr) id
    | 50, _ => exact absurd (rx_50 h hr) id
    | 51, _ => exact absurd (rx_51 h hr) id
    | 52, _ => exact absurd (rx_52 h hr) id
    | 53, _ => exact absurd (rx_53 h hr) id
    | 54, _ => exact absurd (rx_54 h hr) id
    | 55, _ => exact absurd (rx_55 h hr) id
    | 56, _ => exact ⟨rfl, rx_56 h hr⟩
    | 57, _ => exact absurd (rx_57 h hr) id
    | 58, _ => exact absurd (rx_58 h hr) id
    | 59, _ => exact absurd (rx_59 h hr) id
    | 60, _ => exact absurd (rx_60 h hr) id
    | 61, _ => exact absurd (rx_61 h hr) id
    | 62, _ => exact absurd (rx_62 h hr) id
    | 63, _ => exact absurd (rx_63 h hr) id
    | k + 64, hk => omega
  · exfalso
    obtain ⟨q, rfl⟩ : ∃ q, k = q + 64 := ⟨k - 64, by omega⟩
    simp [ev_x] at h
end RX
