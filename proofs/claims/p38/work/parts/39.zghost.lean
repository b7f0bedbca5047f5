/-! rows beyond the objects: a run doesn't touch them, and goes the same way whatever they hold -/
def gh_ok (op : ev_O) : Bool := match op with
  | (27, _, c, _, _) => decide (c < 99)
  | (28, _, c, _, _) => decide (c < 99)
  | (29, _, c, _, _) => decide (c < 99)
  | (30, _, c, _, _) => decide (c < 99)
  | (31, _, c, _, _) => decide (c < 99)
  | _ => true
theorem gh_oks : ev_ms.all (fun m => m.all (fun b => b.all gh_ok)) = true := by decide +kernel
theorem gh_blk (j t : Nat) : ∀ op ∈ ev_blk j t, gh_ok op = true := by
  intro op hop
  unfold ev_blk at hop
  rw [List.getD_eq_getElem?_getD, List.getD_eq_getElem?_getD] at hop
  rcases hm : ev_ms[j]? with _ | m
  · rw [hm] at hop
    simp at hop
  · rw [hm] at hop
    simp only [Option.getD_some] at hop
    rcases hb : m[t]? with _ | b
    · rw [hb] at hop
      simp at hop
    · rw [hb] at hop
      simp only [Option.getD_some] at hop
      have h1 := List.all_eq_true.mp gh_oks m (List.mem_of_getElem? hm)
      have h2 := List.all_eq_true.mp h1 b (List.mem_of_getElem? hb)
      exact List.all_eq_true.mp h2 op hop
/-- the memory of what an instruction comes to -/
def gh_s : ev_X → ev_M
  | .inl (_, _, σ) => σ
  | .inr (.inl (_, _, _, σ)) => σ
  | .inr (.inr (.inl (_, σ))) => σ
  | .inr (.inr (.inr (_, _, _, _, σ))) => σ
def gh_m (f : ev_M → ev_M) : ev_X → ev_X
  | .inl (L, st, σ) => .inl (L, st, f σ)
  | .inr (.inl (t, L, st, σ)) => .inr (.inl (t, L, st, f σ))
  | .inr (.inr (.inl (v, σ))) => .inr (.inr (.inl (v, f σ)))
  | .inr (.inr (.inr (j, as, rest, L, σ))) => .inr (.inr (.inr (j, as, rest, L, f σ)))
theorem gh_up {σ : ev_M} {g i k v : Int} {F : Int → Int} (h : i ≠ g) : ev_up (ev_ua σ g F) i k v = ev_ua (ev_up σ i k v) g F := by
  funext a b
  unfold ev_up ev_ua
  by_cases c1 : a = g
  · subst c1
    rw [if_pos rfl, if_neg (fun q => h q.1.symm), if_pos rfl]
  · rw [if_neg c1, if_neg c1]
theorem gh_cp {σ : ev_M} {g a i b j n : Int} {F : Int → Int} (ha : a ≠ g) (hb : b ≠ g) : ev_cp (ev_ua σ g F) a i b j n = ev_ua (ev_cp σ a i b j n) g F := by
  funext x y
  unfold ev_cp ev_ua
  by_cases c1 : x = g
  · subst c1
    rw [if_pos rfl, if_neg (fun q => hb q.1.symm), if_pos rfl]
  · rw [if_neg c1, if_neg c1, if_neg ha]
theorem gh_ne {i g : Int} {c : Nat} (hg : ev_cls g = 99) (hc : ev_cls i = c) (h : c < 99) : i ≠ g := fun q => by
  subst q
  omega
section GHX
variable {op : ev_O} {L : ev_L} {st : List ev_V} {σ : ev_M} {X : ev_X} {g : Int} {F : Int → Int}
theorem gx_0 {a b : Nat} {z w : Int} (hg : ev_cls g = 99) (h200 : g ≠ 200) (h : ev_x ((0, a, b, z, w) : ev_O) L st σ = some X) : ev_x ((0, a, b, z, w) : ev_O) L st (ev_ua σ g F) = some (gh_m (fun σ => ev_ua σ g F) X) := by
  simp only [ev_x] at h ⊢
  repeat' (split at h)
  all_goals first | (cases h; done) | (cases h; simp_all only [gh_m]; done) | (cases h; simp_all [gh_m]; done)
theorem gx_1 {a b : Nat} {z w : Int} (hg : ev_cls g = 99) (h200 : g ≠ 200) (h : ev_x ((1, a, b, z, w) : ev_O) L st σ = some X) : ev_x ((1, a, b, z, w) : ev_O) L st (ev_ua σ g F) = some (gh_m (fun σ => ev_ua σ g F) X) := by
  simp only [ev_x] at h ⊢
  repeat' (split at h)
  all_goals first | (cases h; done) | (cases h; simp_all only [gh_m]; done) | (cases h; simp_all [gh_m]; done)
theorem gx_2 {a b : Nat} {z w : Int} (hg : ev_cls g = 99) (h200 : g ≠ 200) (h : ev_x ((2, a, b, z, w) : ev_O) L st σ = some X) : ev_x ((2, a, b, z, w) : ev_O) L st (ev_ua σ g F) = some (gh_m (fun σ => ev_ua σ g F) X) := by
  simp only [ev_x] at h ⊢
  repeat' (split at h)
  all_goals first | (cases h; done) | (cases h; simp_all only [gh_m]; done) | (cases h; simp_all [gh_m]; done)
theorem gx_3 {a b : Nat} {z w : Int} (hg : ev_cls g = 99) (h200 : g ≠ 200) (h : ev_x ((3, a, b, z, w) : ev_O) L st σ = some X) : ev_x ((3, a, b, z, w) : ev_O) L st (ev_ua σ g F) = some (gh_m (fun σ => ev_ua σ g F) X) := by
  simp only [ev_x] at h ⊢
  repeat' (split at h)
  all_goals first | (cases h; done) | (cases h; simp_all only [gh_m]; done) | (cases h; simp_all [gh_m]; done)
theorem gx_4 {a b : Nat} {z w : Int} (hg : ev_cls g = 99) (h200 : g ≠ 200) (h : ev_x ((4, a, b, z, w) : ev_O) L st σ = some X) : ev_x ((4, a, b, z, w) : ev_O) L st (ev_ua σ g F) = some (gh_m (fun σ => ev_ua σ g F) X) := by
  simp only [ev_x] at h ⊢
  repeat' (split at h)
  all_goals first | (cases h; done) | (cases h; simp_all only [gh_m]; done) | (cases h; simp_all [gh_m]; done)
theorem gx_5 {a b : Nat} {z w : Int} (hg : ev_cls g = 99) (h200 : g ≠ 200) (h : ev_x ((5, a, b, z, w) : ev_O) L st σ = some X) : ev_x ((5, a, b, z, w) : ev_O) L st (ev_ua σ g F) = some (gh_m (fun σ => ev_ua σ g F) X) := by
  simp only [ev_x] at h ⊢
  repeat' (split at h)
  all_goals first | (cases h; done) | (cases h; simp_all only [gh_m]; done) | (cases h; simp_all [gh_m]; done)
theorem gx_6 {a b : Nat} {z w : Int} (hg : ev_cls g = 99) (h200 : g ≠ 200) (h : ev_x ((6, a, b, z, w) : ev_O) L st σ = some X) : ev_x ((6, a, b, z, w) : ev_O) L st (ev_ua σ g F) = some (gh_m (fun σ => ev_ua σ g F) X) := by
  simp only [ev_x] at h ⊢
  repeat' (split at h)
  all_goals first | (cases h; done) | (cases h; simp_all only [gh_m]; done) | (cases h; simp_all [gh_m]; done)
theorem gx_7 {a b : Nat} {z w : Int} (hg : ev_cls g = 99) (h200 : g ≠ 200) (h : ev_x ((7, a, b, z, w) : ev_O) L st σ = some X) : ev_x ((7, a, b, z, w) : ev_O) L st (ev_ua σ g F) = some (gh_m (fun σ => ev_ua σ g F) X) := by
  simp only [ev_x] at h ⊢
  repeat' (split at h)
  all_goals first | (cases h; done) | (cases h; simp_all only [gh_m]; done) | (cases h; simp_all [gh_m]; done)
theorem gx_8 {a b : Nat} {z w : Int} (hg : ev_cls g = 99) (h200 : g ≠ 200) (h : ev_x ((8, a, b, z, w) : ev_O) L st σ = some X) : ev_x ((8, a, b, z, w) : ev_O) L st (ev_ua σ g F) = some (gh_m (fun σ => ev_ua σ g F) X) := by
  simp only [ev_x] at h ⊢
  repeat' (split at h)
  all_goals first | (cases h; done) | (cases h; simp_all only [gh_m]; done) | (cases h; simp_all [gh_m]; done)
theorem gx_9 {a b : Nat} {z w : Int} (hg : ev_cls g = 99) (h200 : g ≠ 200) (h : ev_x ((9, a, b, z, w) : ev_O) L st σ = some X) : ev_x ((9, a, b, z, w) : ev_O) L st (ev_ua σ g F) = some (gh_m (fun σ => ev_ua σ g F) X) := by
  simp only [ev_x] at h ⊢
  repeat' (split at h)
  all_goals first | (cases h; done) | (cases h; simp_all only [gh_m]; done) | (cases h; simp_all [gh_m]; done)
theorem gx_10 {a b : Nat} {z w : Int} (hg : ev_cls g = 99) (h200 : g ≠ 200) (h : ev_x ((10, a, b, z, w) : ev_O) L st σ = some X) : ev_x ((10, a, b, z, w) : ev_O) L st (ev_ua σ g F) = some (gh_m (fun σ => ev_ua σ g F) X) := by
  simp only [ev_x] at h ⊢
  repeat' (split at h)
  all_goals first | (cases h; done) | (cases h; simp_all only [gh_m]; done) | (cases h; simp_all [gh_m]; done)
theorem gx_11 {a b : Nat} {z w : Int} (hg : ev_cls g = 99) (h200 : g ≠ 200) (h : ev_x ((11, a, b, z, w) : ev_O) L st σ = some X) : ev_x ((11, a, b, z, w) : ev_O) L st (ev_ua σ g F) = some (gh_m (fun σ => ev_ua σ g F) X) := by
  simp only [ev_x] at h ⊢
  repeat' (split at h)
  all_goals first | (cases h; done) | (cases h; simp_all only [gh_m]; done) | (cases h; simp_all [gh_m]; done)
theorem gx_12 {a b : Nat} {z w : Int} (hg : ev_cls g = 99) (h200 : g ≠ 200) (h : ev_x ((12, a, b, z, w) : ev_O) L st σ = some X) : ev_x ((12, a, b, z, w) : ev_O) L st (ev_ua σ g F) = some (gh_m (fun σ => ev_ua σ g F) X) := by
  simp only [ev_x] at h ⊢
  repeat' (split at h)
  all_goals first | (cases h; done) | (cases h; simp_all only [gh_m]; done) | (cases h; simp_all [gh_m]; done)
theorem gx_13 {a b : Nat} {z w : Int} (hg : ev_cls g = 99) (h200 : g ≠ 200) (h : ev_x ((13, a, b, z, w) : ev_O) L st σ = some X) : ev_x ((13, a, b, z, w) : ev_O) L st (ev_ua σ g F) = some (gh_m (fun σ => ev_ua σ g F) X) := by
  simp only [ev_x] at h ⊢
  repeat' (split at h)
  all_goals first | (cases h; done) | (cases h; simp_all only [gh_m]; done) | (cases h; simp_all [gh_m]; done)
theorem gx_14 {a b : Nat} {z w : Int} (hg : ev_cls g = 99) (h200 : g ≠ 200) (h : ev_x ((14, a, b, z, w) : ev_O) L st σ = some X) : ev_x ((14, a, b, z, w) : ev_O) L st (ev_ua σ g F) = some (gh_m (fun σ => ev_ua σ g F) X) := by
  simp only [ev_x] at h ⊢
  repeat' (split at h)
  all_goals first | (cases h; done) | (cases h; simp_all only [gh_m]; done) | (cases h; simp_all [gh_m]; done)
theorem gx_15 {a b : Nat} {z w : Int} (hg : ev_cls g = 99) (h200 : g ≠ 200) (h : ev_x ((15, a, b, z, w) : ev_O) L st σ = some X) : ev_x ((15, a, b, z, w) : ev_O) L st (ev_ua σ g F) = some (gh_m (fun σ => ev_ua σ g F) X) := by
  simp only [ev_x] at h ⊢
  repeat' (split at h)
  all_goals first | (cases h; done) | (cases h; simp_all only [gh_m]; done) | (cases h; simp_all [gh_m]; done)
theorem gx_16 {a b : Nat} {z w : Int} (hg : ev_cls g = 99) (h200 : g ≠ 200) (h : ev_x ((16, a, b, z, w) : ev_O) L st σ = some X) : ev_x ((16, a, b, z, w) : ev_O) L st (ev_ua σ g F) = some (gh_m (fun σ => ev_ua σ g F) X) := by
  simp only [ev_x] at h ⊢
  repeat' (split at h)
  all_goals first | (cases h; done) | (cases h; simp_all only [gh_m]; done) | (cases h; simp_all [gh_m]; done)
theorem gx_17 {a b : Nat} {z w : Int} (hg : ev_cls g = 99) (h200 : g ≠ 200) (h : ev_x ((17, a, b, z, w) : ev_O) L st σ = some X) : ev_x ((17, a, b, z, w) : ev_O) L st (ev_ua σ g F) = some (gh_m (fun σ => ev_ua σ g F) X) := by
  simp only [ev_x] at h ⊢
  repeat' (split at h)
  all_goals first | (cases h; done) | (cases h; simp_all only [gh_m]; done) | (cases h; simp_all [gh_m]; done)
theorem gx_18 {a b : Nat} {z w : Int} (hg : ev_cls g = 99) (h200 : g ≠ 200) (h : ev_x ((18, a, b, z, w) : ev_O) L st σ = some X) : ev_x ((18, a, b, z, w) : ev_O) L st (ev_ua σ g F) = some (gh_m (fun σ => ev_ua σ g F) X) := by
  simp only [ev_x] at h ⊢
  repeat' (split at h)
  all_goals first | (cases h; done) | (cases h; simp_all only [gh_m]; done) | (cases h; simp_all [gh_m]; done)
theorem gx_19 {a b : Nat} {z w : Int} (hg : ev_cls g = 99) (h200 : g ≠ 200) (h : ev_x ((19, a, b, z, w) : ev_O) L st σ = some X) : ev_x ((19, a, b, z, w) : ev_O) L st (ev_ua σ g F) = some (gh_m (fun σ => ev_ua σ g F) X) := by
  simp only [ev_x] at h ⊢
  repeat' (split at h)
  all_goals first | (cases h; done) | (cases h; simp_all only [gh_m]; done) | (cases h; simp_all [gh_m]; done)
theorem gx_20 {a b : Nat} {z w : Int} (hg : ev_cls g = 99) (h200 : g ≠ 200) (h : ev_x ((20, a, b, z, w) : ev_O) L st σ = some X) : ev_x ((20, a, b, z, w) : ev_O) L st (ev_ua σ g F) = some (gh_m (fun σ => ev_ua σ g F) X) := by
  simp only [ev_x] at h ⊢
  repeat' (split at h)
  all_goals first | (cases h; done) | (cases h; simp_all only [gh_m]; done) | (cases h; simp_all [gh_m]; done)
theorem gx_21 {a b : Nat} {z w : Int} (hg : ev_cls g = 99) (h200 : g ≠ 200) (h : ev_x ((21, a, b, z, w) : ev_O) L st σ = some X) : ev_x ((21, a, b, z, w) : ev_O) L st (ev_ua σ g F) = some (gh_m (fun σ => ev_ua σ g F) X) := by
  simp only [ev_x] at h ⊢
  repeat' (split at h)
  all_goals first | (cases h; done) | (cases h; simp_all only [gh_m]; done) | (cases h; simp_all [gh_m]; done)
theorem gx_22 {a b : Nat} {z w : Int} (hg : ev_cls g = 99) (h200 : g ≠ 200) (h : ev_x ((22, a, b, z, w) : ev_O) L st σ = some X) : ev_x ((22, a, b, z, w) : ev_O) L st (ev_ua σ g F) = some (gh_m (fun σ => ev_ua σ g F) X) := by
  simp only [ev_x] at h ⊢
  repeat' (split at h)
  all_goals first | (cases h; done) | (cases h; simp_all only [gh_m]; done) | (cases h; simp_all [gh_m]; done)
theorem gx_23 {a b : Nat} {z w : Int} (hg : ev_cls g = 99) (h200 : g ≠ 200) (h : ev_x ((23, a, b, z, w) : ev_O) L st σ = some X) : ev_x ((23, a, b, z, w) : ev_O) L st (ev_ua σ g F) = some (gh_m (fun σ => ev_ua σ g F) X) := by
  simp only [ev_x] at h ⊢
  repeat' (split at h)
  all_goals first | (cases h; done) | (cases h; simp_all only [gh_m]; done) | (cases h; simp_all [gh_m]; done)
theorem gx_24 {a b : Nat} {z w : Int} (hg : ev_cls g = 99) (h200 : g ≠ 200) (h : ev_x ((24, a, b, z, w) : ev_O) L st σ = some X) : ev_x ((24, a, b, z, w) : ev_O) L st (ev_ua σ g F) = some (gh_m (fun σ => ev_ua σ g F) X) := by
  simp only [ev_x] at h ⊢
  repeat' (split at h)
  all_goals first | (cases h; done) | (cases h; simp_all only [gh_m]; done) | (cases h; simp_all [gh_m]; done)
theorem gx_25 {a b : Nat} {z w : Int} (hg : ev_cls g = 99) (h200 : g ≠ 200) (h : ev_x ((25, a, b, z, w) : ev_O) L st σ = some X) : ev_x ((25, a, b, z, w) : ev_O) L st (ev_ua σ g F) = some (gh_m (fun σ => ev_ua σ g F) X) := by
  simp only [ev_x] at h ⊢
  repeat' (split at h)
  all_goals first | (cases h; done) | (cases h; simp_all only [gh_m]; done) | (cases h; simp_all [gh_m]; done)
theorem gx_26 {a b : Nat} {z w : Int} (hg : ev_cls g = 99) (h200 : g ≠ 200) (h : ev_x ((26, a, b, z, w) : ev_O) L st σ = some X) : ev_x ((26, a, b, z, w) : ev_O) L st (ev_ua σ g F) = some (gh_m (fun σ => ev_ua σ g F) X) := by
  simp only [ev_x] at h ⊢
  repeat' (split at h)
  all_goals first | (cases h; done) | (cases h; simp_all only [gh_m]; done) | (cases h; simp_all [gh_m]; done)
theorem gx_27 {a b : Nat} {z w : Int} (hg : ev_cls g = 99) (h200 : g ≠ 200) (hok : gh_ok ((27, a, b, z, w) : ev_O) = true) (h : ev_x ((27, a, b, z, w) : ev_O) L st σ = some X) : ev_x ((27, a, b, z, w) : ev_O) L st (ev_ua σ g F) = some (gh_m (fun σ => ev_ua σ g F) X) := by
  simp only [ev_x] at h ⊢
  split at h
  · split at h
    · next hc =>
      cases h
      have hi := of_decide_eq_true hok
      have hn := gh_ne hg hc hi
      try dsimp only
      rw [if_pos hc]
      simp only [gh_m, ev_ua_ne hn, gh_up hn]
    · cases h
  · cases h
theorem gx_28 {a b : Nat} {z w : Int} (hg : ev_cls g = 99) (h200 : g ≠ 200) (hok : gh_ok ((28, a, b, z, w) : ev_O) = true) (h : ev_x ((28, a, b, z, w) : ev_O) L st σ = some X) : ev_x ((28, a, b, z, w) : ev_O) L st (ev_ua σ g F) = some (gh_m (fun σ => ev_ua σ g F) X) := by
  simp only [ev_x] at h ⊢
  split at h
  · split at h
    · next hc =>
      cases h
      have hi := of_decide_eq_true hok
      have hn := gh_ne hg hc hi
      try dsimp only
      rw [if_pos hc]
      simp only [gh_m, ev_ua_ne hn, gh_up hn]
    · cases h
  · cases h
theorem gx_29 {a b : Nat} {z w : Int} (hg : ev_cls g = 99) (h200 : g ≠ 200) (hok : gh_ok ((29, a, b, z, w) : ev_O) = true) (h : ev_x ((29, a, b, z, w) : ev_O) L st σ = some X) : ev_x ((29, a, b, z, w) : ev_O) L st (ev_ua σ g F) = some (gh_m (fun σ => ev_ua σ g F) X) := by
  simp only [ev_x] at h ⊢
  split at h
  · split at h
    · next hc =>
      cases h
      have hi := of_decide_eq_true hok
      have hn := gh_ne hg hc hi
      try dsimp only
      rw [if_pos hc]
      simp only [gh_m, ev_ua_ne hn, gh_up hn]
    · cases h
  · cases h
theorem gx_30 {a b : Nat} {z w : Int} (hg : ev_cls g = 99) (h200 : g ≠ 200) (hok : gh_ok ((30, a, b, z, w) : ev_O) = true) (h : ev_x ((30, a, b, z, w) : ev_O) L st σ = some X) : ev_x ((30, a, b, z, w) : ev_O) L st (ev_ua σ g F) = some (gh_m (fun σ => ev_ua σ g F) X) := by
  simp only [ev_x] at h ⊢
  split at h
  · split at h
    · next hc =>
      cases h
      have hi := of_decide_eq_true hok
      have hn := gh_ne hg hc hi
      try dsimp only
      rw [if_pos hc]
      simp only [gh_m, ev_ua_ne hn, gh_up hn]
    · cases h
  · cases h
theorem gx_31 {a b : Nat} {z w : Int} (hg : ev_cls g = 99) (h200 : g ≠ 200) (hok : gh_ok ((31, a, b, z, w) : ev_O) = true) (h : ev_x ((31, a, b, z, w) : ev_O) L st σ = some X) : ev_x ((31, a, b, z, w) : ev_O) L st (ev_ua σ g F) = some (gh_m (fun σ => ev_ua σ g F) X) := by
  simp only [ev_x] at h ⊢
  split at h
  · split at h
    · next hc =>
      cases h
      have hi := of_decide_eq_true hok
      have hn := gh_ne hg hc hi
      try dsimp only
      rw [if_pos hc]
      simp only [gh_m, ev_ua_ne hn, gh_up hn]
    · cases h
  · cases h
theorem gx_32 {a b : Nat} {z w : Int} (hg : ev_cls g = 99) (h200 : g ≠ 200) (h : ev_x ((32, a, b, z, w) : ev_O) L st σ = some X) : ev_x ((32, a, b, z, w) : ev_O) L st (ev_ua σ g F) = some (gh_m (fun σ => ev_ua σ g F) X) := by
  simp only [ev_x] at h ⊢
  split at h
  · split at h
    · next hc =>
      cases h
      have hn := gh_ne hg hc.1 (by omega)
      try dsimp only
      rw [if_pos hc]
      simp only [gh_m, ev_ua_ne hn, gh_up hn]
    · cases h
  · cases h
theorem gx_33 {a b : Nat} {z w : Int} (hg : ev_cls g = 99) (h200 : g ≠ 200) (h : ev_x ((33, a, b, z, w) : ev_O) L st σ = some X) : ev_x ((33, a, b, z, w) : ev_O) L st (ev_ua σ g F) = some (gh_m (fun σ => ev_ua σ g F) X) := by
  simp only [ev_x] at h ⊢
  split at h
  · split at h
    · next hc =>
      cases h
      have hn := gh_ne hg hc.1 (by omega)
      try dsimp only
      rw [if_pos hc]
      simp only [gh_m, ev_ua_ne hn, gh_up hn]
    · cases h
  · cases h
theorem gx_34 {a b : Nat} {z w : Int} (hg : ev_cls g = 99) (h200 : g ≠ 200) (h : ev_x ((34, a, b, z, w) : ev_O) L st σ = some X) : ev_x ((34, a, b, z, w) : ev_O) L st (ev_ua σ g F) = some (gh_m (fun σ => ev_ua σ g F) X) := by
  simp only [ev_x] at h ⊢
  split at h
  · split at h
    · next hc =>
      cases h
      have hn := gh_ne hg hc.1 (by omega)
      try dsimp only
      rw [if_pos hc]
      simp only [gh_m, ev_ua_ne hn, gh_up hn]
    · cases h
  · cases h
theorem gx_35 {a b : Nat} {z w : Int} (hg : ev_cls g = 99) (h200 : g ≠ 200) (h : ev_x ((35, a, b, z, w) : ev_O) L st σ = some X) : ev_x ((35, a, b, z, w) : ev_O) L st (ev_ua σ g F) = some (gh_m (fun σ => ev_ua σ g F) X) := by
  simp only [ev_x] at h ⊢
  split at h
  · split at h
    · next hc =>
      cases h
      have hn := gh_ne hg hc.1 (by omega)
      try dsimp only
      rw [if_pos hc]
      simp only [gh_m, ev_ua_ne hn, gh_up hn]
    · cases h
  · cases h
theorem gx_36 {a b : Nat} {z w : Int} (hg : ev_cls g = 99) (h200 : g ≠ 200) (h : ev_x ((36, a, b, z, w) : ev_O) L st σ = some X) : ev_x ((36, a, b, z, w) : ev_O) L st (ev_ua σ g F) = some (gh_m (fun σ => ev_ua σ g F) X) := by
  simp only [ev_x] at h ⊢
  split at h
  · split at h
    · next hc =>
      cases h
      have hn := gh_ne hg hc.1 (by omega)
      try dsimp only
      rw [if_pos hc]
      simp only [gh_m, ev_ua_ne hn, gh_up hn]
    · cases h
  · cases h
theorem gx_37 {a b : Nat} {z w : Int} (hg : ev_cls g = 99) (h200 : g ≠ 200) (h : ev_x ((37, a, b, z, w) : ev_O) L st σ = some X) : ev_x ((37, a, b, z, w) : ev_O) L st (ev_ua σ g F) = some (gh_m (fun σ => ev_ua σ g F) X) := by
  simp only [ev_x] at h ⊢
  split at h
  · split at h
    · next hc =>
      cases h
      have hn := gh_ne hg hc.1 (by omega)
      try dsimp only
      rw [if_pos hc]
      simp only [gh_m, ev_ua_ne hn, gh_up hn]
    · cases h
  · cases h
theorem gx_38 {a b : Nat} {z w : Int} (hg : ev_cls g = 99) (h200 : g ≠ 200) (h : ev_x ((38, a, b, z, w) : ev_O) L st σ = some X) : ev_x ((38, a, b, z, w) : ev_O) L st (ev_ua σ g F) = some (gh_m (fun σ => ev_ua σ g F) X) := by
  simp only [ev_x] at h ⊢
  split at h
  · split at h
    · next hc =>
      cases h
      try dsimp only
      rw [if_pos hc]
      simp only [gh_m, ev_ua_ne (show (200 : Int) ≠ g from fun q => h200 q.symm)]
    · cases h
  · cases h
theorem gx_39 {a b : Nat} {z w : Int} (hg : ev_cls g = 99) (h200 : g ≠ 200) (h : ev_x ((39, a, b, z, w) : ev_O) L st σ = some X) : ev_x ((39, a, b, z, w) : ev_O) L st (ev_ua σ g F) = some (gh_m (fun σ => ev_ua σ g F) X) := by
  simp [ev_x] at h
theorem gx_40 {a b : Nat} {z w : Int} (hg : ev_cls g = 99) (h200 : g ≠ 200) (h : ev_x ((40, a, b, z, w) : ev_O) L st σ = some X) : ev_x ((40, a, b, z, w) : ev_O) L st (ev_ua σ g F) = some (gh_m (fun σ => ev_ua σ g F) X) := by
  simp only [ev_x] at h ⊢
  repeat' (split at h)
  all_goals first | (cases h; done) | (cases h; simp_all only [gh_m]; done) | (cases h; simp_all [gh_m]; done)
theorem gx_41 {a b : Nat} {z w : Int} (hg : ev_cls g = 99) (h200 : g ≠ 200) (h : ev_x ((41, a, b, z, w) : ev_O) L st σ = some X) : ev_x ((41, a, b, z, w) : ev_O) L st (ev_ua σ g F) = some (gh_m (fun σ => ev_ua σ g F) X) := by
  simp only [ev_x] at h ⊢
  repeat' (split at h)
  all_goals first | (cases h; done) | (cases h; simp_all only [gh_m]; done) | (cases h; simp_all [gh_m]; done)
theorem gx_42 {a b : Nat} {z w : Int} (hg : ev_cls g = 99) (h200 : g ≠ 200) (h : ev_x ((42, a, b, z, w) : ev_O) L st σ = some X) : ev_x ((42, a, b, z, w) : ev_O) L st (ev_ua σ g F) = some (gh_m (fun σ => ev_ua σ g F) X) := by
  simp only [ev_x] at h ⊢
  repeat' (split at h)
  all_goals first | (cases h; done) | (cases h; simp_all only [gh_m]; done) | (cases h; simp_all [gh_m]; done)
theorem gx_43 {a b : Nat} {z w : Int} (hg : ev_cls g = 99) (h200 : g ≠ 200) (h : ev_x ((43, a, b, z, w) : ev_O) L st σ = some X) : ev_x ((43, a, b, z, w) : ev_O) L st (ev_ua σ g F) = some (gh_m (fun σ => ev_ua σ g F) X) := by
  simp only [ev_x] at h ⊢
  repeat' (split at h)
  all_goals first | (cases h; done) | (cases h; simp_all only [gh_m]; done) | (cases h; simp_all [gh_m]; done)
theorem gx_44 {a b : Nat} {z w : Int} (hg : ev_cls g = 99) (h200 : g ≠ 200) (h : ev_x ((44, a, b, z, w) : ev_O) L st σ = some X) : ev_x ((44, a, b, z, w) : ev_O) L st (ev_ua σ g F) = some (gh_m (fun σ => ev_ua σ g F) X) := by
  simp only [ev_x] at h ⊢
  repeat' (split at h)
  all_goals first | (cases h; done) | (cases h; simp_all only [gh_m]; done) | (cases h; simp_all [gh_m]; done)
theorem gx_45 {a b : Nat} {z w : Int} (hg : ev_cls g = 99) (h200 : g ≠ 200) (h : ev_x ((45, a, b, z, w) : ev_O) L st σ = some X) : ev_x ((45, a, b, z, w) : ev_O) L st (ev_ua σ g F) = some (gh_m (fun σ => ev_ua σ g F) X) := by
  simp only [ev_x] at h ⊢
  repeat' (split at h)
  all_goals first | (cases h; done) | (cases h; simp_all only [gh_m]; done) | (cases h; simp_all [gh_m]; done)
theorem gx_46 {a b : Nat} {z w : Int} (hg : ev_cls g = 99) (h200 : g ≠ 200) (h : ev_x ((46, a, b, z, w) : ev_O) L st σ = some X) : ev_x ((46, a, b, z, w) : ev_O) L st (ev_ua σ g F) = some (gh_m (fun σ => ev_ua σ g F) X) := by
  simp only [ev_x] at h ⊢
  repeat' (split at h)
  all_goals first | (cases h; done) | (cases h; simp_all only [gh_m]; done) | (cases h; simp_all [gh_m]; done)
theorem gx_47 {a b : Nat} {z w : Int} (hg : ev_cls g = 99) (h200 : g ≠ 200) (h : ev_x ((47, a, b, z, w) : ev_O) L st σ = some X) : ev_x ((47, a, b, z, w) : ev_O) L st (ev_ua σ g F) = some (gh_m (fun σ => ev_ua σ g F) X) := by
  simp only [ev_x] at h ⊢
  repeat' (split at h)
  all_goals first | (cases h; done) | (cases h; simp_all only [gh_m]; done) | (cases h; simp_all [gh_m]; done)
theorem gx_48 {a b : Nat} {z w : Int} (hg : ev_cls g = 99) (h200 : g ≠ 200) (h : ev_x ((48, a, b, z, w) : ev_O) L st σ = some X) : ev_x ((48, a, b, z, w) : ev_O) L st (ev_ua σ g F) = some (gh_m (fun σ => ev_ua σ g F) X) := by
  simp only [ev_x] at h ⊢
  repeat' (split at h)
  all_goals first | (cases h; done) | (cases h; simp_all only [gh_m]; done) | (cases h; simp_all [gh_m]; done)
theorem gx_49 {a b : Nat} {z w : Int} (hg : ev_cls g = 99) (h200 : g ≠ 200) (h : ev_x ((49, a, b, z, w) : ev_O) L st σ = some X) : ev_x ((49, a, b, z, w) : ev_O) L st (ev_ua σ g F) = some (gh_m (fun σ => ev_ua σ g F) X) := by
  simp only [ev_x] at h ⊢
  repeat' (split at h)
  all_goals first | (cases h; done) | (cases h; simp_all only [gh_m]; done) | (cases h; simp_all [gh_m]; done)
theorem gx_50 {a b : Nat} {z w : Int} (hg : ev_cls g = 99) (h200 : g ≠ 200) (h : ev_x ((50, a, b, z, w) : ev_O) L st σ = some X) : ev_x ((50, a, b, z, w) : ev_O) L st (ev_ua σ g F) = some (gh_m (fun σ => ev_ua σ g F) X) := by
  simp only [ev_x] at h ⊢
  repeat' (split at h)
  all_goals first | (cases h; done) | (cases h; simp_all only [gh_m]; done) | (cases h; simp_all [gh_m]; done)
theorem gx_51 {a b : Nat} {z w : Int} (hg : ev_cls g = 99) (h200 : g ≠ 200) (h : ev_x ((51, a, b, z, w) : ev_O) L st σ = some X) : ev_x ((51, a, b, z, w) : ev_O) L st (ev_ua σ g F) = some (gh_m (fun σ => ev_ua σ g F) X) := by
  simp only [ev_x] at h ⊢
  repeat' (split at h)
  all_goals first | (cases h; done) | (cases h; simp_all only [gh_m]; done) | (cases h; simp_all [gh_m]; done)
theorem gx_52 {a b : Nat} {z w : Int} (hg : ev_cls g = 99) (h200 : g ≠ 200) (h : ev_x ((52, a, b, z, w) : ev_O) L st σ = some X) : ev_x ((52, a, b, z, w) : ev_O) L st (ev_ua σ g F) = some (gh_m (fun σ => ev_ua σ g F) X) := by
  simp only [ev_x] at h ⊢
  repeat' (split at h)
  all_goals first | (cases h; done) | (cases h; simp_all only [gh_m]; done) | (cases h; simp_all [gh_m]; done)
theorem gx_53 {a b : Nat} {z w : Int} (hg : ev_cls g = 99) (h200 : g ≠ 200) (h : ev_x ((53, a, b, z, w) : ev_O) L st σ = some X) : ev_x ((53, a, b, z, w) : ev_O) L st (ev_ua σ g F) = some (gh_m (fun σ => ev_ua σ g F) X) := by
  simp only [ev_x] at h ⊢
  repeat' (split at h)
  all_goals first | (cases h; done) | (cases h; simp_all only [gh_m]; done) | (cases h; simp_all [gh_m]; done)
theorem gx_54 {a b : Nat} {z w : Int} (hg : ev_cls g = 99) (h200 : g ≠ 200) (h : ev_x ((54, a, b, z, w) : ev_O) L st σ = some X) : ev_x ((54, a, b, z, w) : ev_O) L st (ev_ua σ g F) = some (gh_m (fun σ => ev_ua σ g F) X) := by
  simp only [ev_x] at h ⊢
  repeat' (split at h)
  all_goals first | (cases h; done) | (cases h; simp_all only [gh_m]; done) | (cases h; simp_all [gh_m]; done)
theorem gx_55 {a b : Nat} {z w : Int} (hg : ev_cls g = 99) (h200 : g ≠ 200) (h : ev_x ((55, a, b, z, w) : ev_O) L st σ = some X) : ev_x ((55, a, b, z, w) : ev_O) L st (ev_ua σ g F) = some (gh_m (fun σ => ev_ua σ g F) X) := by
  simp only [ev_x] at h ⊢
  repeat' (split at h)
  all_goals first | (cases h; done) | (cases h; simp_all only [gh_m]; done) | (cases h; simp_all [gh_m]; done)
theorem gx_56 {a b : Nat} {z w : Int} (hg : ev_cls g = 99) (h200 : g ≠ 200) (h : ev_x ((56, a, b, z, w) : ev_O) L st σ = some X) : ev_x ((56, a, b, z, w) : ev_O) L st (ev_ua σ g F) = some (gh_m (fun σ => ev_ua σ g F) X) := by
  simp only [ev_x] at h ⊢
  repeat' (split at h)
  all_goals first | (cases h; done) | (cases h; simp_all only [gh_m]; done) | (cases h; simp_all [gh_m]; done)
theorem gx_57 {a b : Nat} {z w : Int} (hg : ev_cls g = 99) (h200 : g ≠ 200) (h : ev_x ((57, a, b, z, w) : ev_O) L st σ = some X) : ev_x ((57, a, b, z, w) : ev_O) L st (ev_ua σ g F) = some (gh_m (fun σ => ev_ua σ g F) X) := by
  simp only [ev_x] at h ⊢
  repeat' (split at h)
  all_goals first | (cases h; done) | (cases h; simp_all only [gh_m]; done) | (cases h; simp_all [gh_m]; done)
theorem gx_58 {a b : Nat} {z w : Int} (hg : ev_cls g = 99) (h200 : g ≠ 200) (h : ev_x ((58, a, b, z, w) : ev_O) L st σ = some X) : ev_x ((58, a, b, z, w) : ev_O) L st (ev_ua σ g F) = some (gh_m (fun σ => ev_ua σ g F) X) := by
  simp only [ev_x] at h ⊢
  repeat' (split at h)
  all_goals first | (cases h; done) | (cases h; simp_all only [gh_m]; done) | (cases h; simp_all [gh_m]; done)
theorem gx_59 {a b : Nat} {z w : Int} (hg : ev_cls g = 99) (h200 : g ≠ 200) (h : ev_x ((59, a, b, z, w) : ev_O) L st σ = some X) : ev_x ((59, a, b, z, w) : ev_O) L st (ev_ua σ g F) = some (gh_m (fun σ => ev_ua σ g F) X) := by
  simp only [ev_x] at h ⊢
  repeat' (split at h)
  all_goals first | (cases h; done) | (cases h; simp_all only [gh_m]; done) | (cases h; simp_all [gh_m]; done)
theorem gx_60 {a b : Nat} {z w : Int} (hg : ev_cls g = 99) (h200 : g ≠ 200) (h : ev_x ((60, a, b, z, w) : ev_O) L st σ = some X) : ev_x ((60, a, b, z, w) : ev_O) L st (ev_ua σ g F) = some (gh_m (fun σ => ev_ua σ g F) X) := by
  simp only [ev_x] at h ⊢
  repeat' (split at h)
  all_goals first | (cases h; done) | (cases h; simp_all only [gh_m]; done) | (cases h; simp_all [gh_m]; done)
theorem gx_61 {a b : Nat} {z w : Int} (hg : ev_cls g = 99) (h200 : g ≠ 200) (h : ev_x ((61, a, b, z, w) : ev_O) L st σ = some X) : ev_x ((61, a, b, z, w) : ev_O) L st (ev_ua σ g F) = some (gh_m (fun σ => ev_ua σ g F) X) := by
  simp only [ev_x] at h ⊢
  split at h
  · split at h
    · next hc =>
      cases h
      have hn1 := gh_ne hg hc.1 (by omega)
      have hn2 := gh_ne hg hc.2.1 (by omega)
      try dsimp only
      rw [if_pos hc]
      simp only [gh_m, gh_cp hn1 hn2]
    · cases h
  · cases h
theorem gx_62 {a b : Nat} {z w : Int} (hg : ev_cls g = 99) (h200 : g ≠ 200) (h : ev_x ((62, a, b, z, w) : ev_O) L st σ = some X) : ev_x ((62, a, b, z, w) : ev_O) L st (ev_ua σ g F) = some (gh_m (fun σ => ev_ua σ g F) X) := by
  simp only [ev_x] at h ⊢
  split at h
  · split at h
    · next hc =>
      cases h
      try dsimp only
      rw [if_pos hc]
      rfl
    · cases h
  · cases h
theorem gx_63 {a b : Nat} {z w : Int} (hg : ev_cls g = 99) (h200 : g ≠ 200) (h : ev_x ((63, a, b, z, w) : ev_O) L st σ = some X) : ev_x ((63, a, b, z, w) : ev_O) L st (ev_ua σ g F) = some (gh_m (fun σ => ev_ua σ g F) X) := by
  simp only [ev_x] at h ⊢
  split at h
  · split at h
    · next hc =>
      cases h
      try dsimp only
      rw [if_pos hc]
      rfl
    · cases h
  · cases h
theorem fx_0 {a b : Nat} {z w : Int} (hg : ev_cls g = 99) (h : ev_x ((0, a, b, z, w) : ev_O) L st σ = some X) : gh_s X g = σ g := by
  simp only [ev_x] at h
  repeat' (split at h)
  all_goals first | (cases h; done) | (cases h; rfl)
theorem fx_1 {a b : Nat} {z w : Int} (hg : ev_cls g = 99) (h : ev_x ((1, a, b, z, w) : ev_O) L st σ = some X) : gh_s X g = σ g := by
  simp only [ev_x] at h
  repeat' (split at h)
  all_goals first | (cases h; done) | (cases h; rfl)
theorem fx_2 {a b : Nat} {z w : Int} (hg : ev_cls g = 99) (h : ev_x ((2, a, b, z, w) : ev_O) L st σ = some X) : gh_s X g = σ g := by
  simp only [ev_x] at h
  repeat' (split at h)
  all_goals first | (cases h; done) | (cases h; rfl)
theorem fx_3 {a b : Nat} {z w : Int} (hg : ev_cls g = 99) (h : ev_x ((3, a, b, z, w) : ev_O) L st σ = some X) : gh_s X g = σ g := by
  simp only [ev_x] at h
  repeat' (split at h)
  all_goals first | (cases h; done) | (cases h; rfl)
theorem fx_4 {a b : Nat} {z w : Int} (hg : ev_cls g = 99) (h : ev_x ((4, a, b, z, w) : ev_O) L st σ = some X) : gh_s X g = σ g := by
  simp only [ev_x] at h
  repeat' (split at h)
  all_goals first | (cases h; done) | (cases h; rfl)
theorem fx_5 {a b : Nat} {z w : Int} (hg : ev_cls g = 99) (h : ev_x ((5, a, b, z, w) : ev_O) L st σ = some X) : gh_s X g = σ g := by
  simp only [ev_x] at h
  repeat' (split at h)
  all_goals first | (cases h; done) | (cases h; rfl)
theorem fx_6 {a b : Nat} {z w : Int} (hg : ev_cls g = 99) (h : ev_x ((6, a, b, z, w) : ev_O) L st σ = some X) : gh_s X g = σ g := by
  simp only [ev_x] at h
  repeat' (split at h)
  all_goals first | (cases h; done) | (cases h; rfl)
theorem fx_7 {a b : Nat} {z w : Int} (hg : ev_cls g = 99) (h : ev_x ((7, a, b, z, w) : ev_O) L st σ = some X) : gh_s X g = σ g := by
  simp only [ev_x] at h
  repeat' (split at h)
  all_goals first | (cases h; done) | (cases h; rfl)
theorem fx_8 {a b : Nat} {z w : Int} (hg : ev_cls g = 99) (h : ev_x ((8, a, b, z, w) : ev_O) L st σ = some X) : gh_s X g = σ g := by
  simp only [ev_x] at h
  repeat' (split at h)
  all_goals first | (cases h; done) | (cases h; rfl)
theorem fx_9 {a b : Nat} {z w : Int} (hg : ev_cls g = 99) (h : ev_x ((9, a, b, z, w) : ev_O) L st σ = some X) : gh_s X g = σ g := by
  simp only [ev_x] at h
  repeat' (split at h)
  all_goals first | (cases h; done) | (cases h; rfl)
theorem fx_10 {a b : Nat} {z w : Int} (hg : ev_cls g = 99) (h : ev_x ((10, a, b, z, w) : ev_O) L st σ = some X) : gh_s X g = σ g := by
  simp only [ev_x] at h
  repeat' (split at h)
  all_goals first | (cases h; done) | (cases h; rfl)
theorem fx_11 {a b : Nat} {z w : Int} (hg : ev_cls g = 99) (h : ev_x ((11, a, b, z, w) : ev_O) L st σ = some X) : gh_s X g = σ g := by
  simp only [ev_x] at h
  repeat' (split at h)
  all_goals first | (cases h; done) | (cases h; rfl)
theorem fx_12 {a b : Nat} {z w : Int} (hg : ev_cls g = 99) (h : ev_x ((12, a, b, z, w) : ev_O) L st σ = some X) : gh_s X g = σ g := by
  simp only [ev_x] at h
  repeat' (split at h)
  all_goals first | (cases h; done) | (cases h; rfl)
theorem fx_13 {a b : Nat} {z w : Int} (hg : ev_cls g = 99) (h : ev_x ((13, a, b, z, w) : ev_O) L st σ = some X) : gh_s X g = σ g := by
  simp only [ev_x] at h
  repeat' (split at h)
  all_goals first | (cases h; done) | (cases h; rfl)
theorem fx_14 {a b : Nat} {z w : Int} (hg : ev_cls g = 99) (h : ev_x ((14, a, b, z, w) : ev_O) L st σ = some X) : gh_s X g = σ g := by
  simp only [ev_x] at h
  repeat' (split at h)
  all_goals first | (cases h; done) | (cases h; rfl)
theorem fx_15 {a b : Nat} {z w : Int} (hg : ev_cls g = 99) (h : ev_x ((15, a, b, z, w) : ev_O) L st σ = some X) : gh_s X g = σ g := by
  simp only [ev_x] at h
  repeat' (split at h)
  all_goals first | (cases h; done) | (cases h; rfl)
theorem fx_16 {a b : Nat} {z w : Int} (hg : ev_cls g = 99) (h : ev_x ((16, a, b, z, w) : ev_O) L st σ = some X) : gh_s X g = σ g := by
  simp only [ev_x] at h
  repeat' (split at h)
  all_goals first | (cases h; done) | (cases h; rfl)
theorem fx_17 {a b : Nat} {z w : Int} (hg : ev_cls g = 99) (h : ev_x ((17, a, b, z, w) : ev_O) L st σ = some X) : gh_s X g = σ g := by
  simp only [ev_x] at h
  repeat' (split at h)
  all_goals first | (cases h; done) | (cases h; rfl)
theorem fx_18 {a b : Nat} {z w : Int} (hg : ev_cls g = 99) (h : ev_x ((18, a, b, z, w) : ev_O) L st σ = some X) : gh_s X g = σ g := by
  simp only [ev_x] at h
  repeat' (split at h)
  all_goals first | (cases h; done) | (cases h; rfl)
theorem fx_19 {a b : Nat} {z w : Int} (hg : ev_cls g = 99) (h : ev_x ((19, a, b, z, w) : ev_O) L st σ = some X) : gh_s X g = σ g := by
  simp only [ev_x] at h
  repeat' (split at h)
  all_goals first | (cases h; done) | (cases h; rfl)
theorem fx_20 {a b : Nat} {z w : Int} (hg : ev_cls g = 99) (h : ev_x ((20, a, b, z, w) : ev_O) L st σ = some X) : gh_s X g = σ g := by
  simp only [ev_x] at h
  repeat' (split at h)
  all_goals first | (cases h; done) | (cases h; rfl)
theorem fx_21 {a b : Nat} {z w : Int} (hg : ev_cls g = 99) (h : ev_x ((21, a, b, z, w) : ev_O) L st σ = some X) : gh_s X g = σ g := by
  simp only [ev_x] at h
  repeat' (split at h)
  all_goals first | (cases h; done) | (cases h; rfl)
theorem fx_22 {a b : Nat} {z w : Int} (hg : ev_cls g = 99) (h : ev_x ((22, a, b, z, w) : ev_O) L st σ = some X) : gh_s X g = σ g := by
  simp only [ev_x] at h
  repeat' (split at h)
  all_goals first | (cases h; done) | (cases h; rfl)
theorem fx_23 {a b : Nat} {z w : Int} (hg : ev_cls g = 99) (h : ev_x ((23, a, b, z, w) : ev_O) L st σ = some X) : gh_s X g = σ g := by
  simp only [ev_x] at h
  repeat' (split at h)
  all_goals first | (cases h; done) | (cases h; rfl)
theorem fx_24 {a b : Nat} {z w : Int} (hg : ev_cls g = 99) (h : ev_x ((24, a, b, z, w) : ev_O) L st σ = some X) : gh_s X g = σ g := by
  simp only [ev_x] at h
  repeat' (split at h)
  all_goals first | (cases h; done) | (cases h; rfl)
theorem fx_25 {a b : Nat} {z w : Int} (hg : ev_cls g = 99) (h : ev_x ((25, a, b, z, w) : ev_O) L st σ = some X) : gh_s X g = σ g := by
  simp only [ev_x] at h
  repeat' (split at h)
  all_goals first | (cases h; done) | (cases h; rfl)
theorem fx_26 {a b : Nat} {z w : Int} (hg : ev_cls g = 99) (h : ev_x ((26, a, b, z, w) : ev_O) L st σ = some X) : gh_s X g = σ g := by
  simp only [ev_x] at h
  repeat' (split at h)
  all_goals first | (cases h; done) | (cases h; rfl)
theorem fx_27 {a b : Nat} {z w : Int} (hg : ev_cls g = 99) (hok : gh_ok ((27, a, b, z, w) : ev_O) = true) (h : ev_x ((27, a, b, z, w) : ev_O) L st σ = some X) : gh_s X g = σ g := by
  simp only [ev_x] at h
  repeat' (split at h)
  all_goals first | (cases h; done) | (cases h; rfl)
theorem fx_28 {a b : Nat} {z w : Int} (hg : ev_cls g = 99) (hok : gh_ok ((28, a, b, z, w) : ev_O) = true) (h : ev_x ((28, a, b, z, w) : ev_O) L st σ = some X) : gh_s X g = σ g := by
  simp only [ev_x] at h
  repeat' (split at h)
  all_goals first | (cases h; done) | (cases h; rfl)
theorem fx_29 {a b : Nat} {z w : Int} (hg : ev_cls g = 99) (hok : gh_ok ((29, a, b, z, w) : ev_O) = true) (h : ev_x ((29, a, b, z, w) : ev_O) L st σ = some X) : gh_s X g = σ g := by
  simp only [ev_x] at h
  repeat' (split at h)
  all_goals first | (cases h; done) | (cases h; rfl)
theorem fx_30 {a b : Nat} {z w : Int} (hg : ev_cls g = 99) (hok : gh_ok ((30, a, b, z, w) : ev_O) = true) (h : ev_x ((30, a, b, z, w) : ev_O) L st σ = some X) : gh_s X g = σ g := by
  simp only [ev_x] at h
  split at h
  · split at h
    · next hc =>
      cases h
      have hi := of_decide_eq_true hok
      have hn := (gh_ne hg hc hi).symm
      funext y
      exact ev_up_ne (Or.inl hn)
    · cases h
  · cases h
theorem fx_31 {a b : Nat} {z w : Int} (hg : ev_cls g = 99) (hok : gh_ok ((31, a, b, z, w) : ev_O) = true) (h : ev_x ((31, a, b, z, w) : ev_O) L st σ = some X) : gh_s X g = σ g := by
  simp only [ev_x] at h
  split at h
  · split at h
    · next hc =>
      cases h
      have hi := of_decide_eq_true hok
      have hn := (gh_ne hg hc hi).symm
      funext y
      exact ev_up_ne (Or.inl hn)
    · cases h
  · cases h
theorem fx_32 {a b : Nat} {z w : Int} (hg : ev_cls g = 99) (h : ev_x ((32, a, b, z, w) : ev_O) L st σ = some X) : gh_s X g = σ g := by
  simp only [ev_x] at h
  repeat' (split at h)
  all_goals first | (cases h; done) | (cases h; rfl)
theorem fx_33 {a b : Nat} {z w : Int} (hg : ev_cls g = 99) (h : ev_x ((33, a, b, z, w) : ev_O) L st σ = some X) : gh_s X g = σ g := by
  simp only [ev_x] at h
  split at h
  · split at h
    · next hc =>
      cases h
      have hn := (gh_ne hg hc.1 (by omega)).symm
      funext y
      exact ev_up_ne (Or.inl hn)
    · cases h
  · cases h
theorem fx_34 {a b : Nat} {z w : Int} (hg : ev_cls g = 99) (h : ev_x ((34, a, b, z, w) : ev_O) L st σ = some X) : gh_s X g = σ g := by
  simp only [ev_x] at h
  repeat' (split at h)
  all_goals first | (cases h; done) | (cases h; rfl)
theorem fx_35 {a b : Nat} {z w : Int} (hg : ev_cls g = 99) (h : ev_x ((35, a, b, z, w) : ev_O) L st σ = some X) : gh_s X g = σ g := by
  simp only [ev_x] at h
  split at h
  · split at h
    · next hc =>
      cases h
      have hn := (gh_ne hg hc.1 (by omega)).symm
      funext y
      exact ev_up_ne (Or.inl hn)
    · cases h
  · cases h
theorem fx_36 {a b : Nat} {z w : Int} (hg : ev_cls g = 99) (h : ev_x ((36, a, b, z, w) : ev_O) L st σ = some X) : gh_s X g = σ g := by
  simp only [ev_x] at h
  repeat' (split at h)
  all_goals first | (cases h; done) | (cases h; rfl)
theorem fx_37 {a b : Nat} {z w : Int} (hg : ev_cls g = 99) (h : ev_x ((37, a, b, z, w) : ev_O) L st σ = some X) : gh_s X g = σ g := by
  simp only [ev_x] at h
  split at h
  · split at h
    · next hc =>
      cases h
      have hn := (gh_ne hg hc.1 (by omega)).symm
      funext y
      exact ev_up_ne (Or.inl hn)
    · cases h
  · cases h
theorem fx_38 {a b : Nat} {z w : Int} (hg : ev_cls g = 99) (h : ev_x ((38, a, b, z, w) : ev_O) L st σ = some X) : gh_s X g = σ g := by
  simp only [ev_x] at h
  repeat' (split at h)
  all_goals first | (cases h; done) | (cases h; rfl)
theorem fx_39 {a b : Nat} {z w : Int} (hg : ev_cls g = 99) (h : ev_x ((39, a, b, z, w) : ev_O) L st σ = some X) : gh_s X g = σ g := by
  simp [ev_x] at h
theorem fx_40 {a b : Nat} {z w : Int} (hg : ev_cls g = 99) (h : ev_x ((40, a, b, z, w) : ev_O) L st σ = some X) : gh_s X g = σ g := by
  simp only [ev_x] at h
  repeat' (split at h)
  all_goals first | (cases h; done) | (cases h; rfl)
theorem fx_41 {a b : Nat} {z w : Int} (hg : ev_cls g = 99) (h : ev_x ((41, a, b, z, w) : ev_O) L st σ = some X) : gh_s X g = σ g := by
  simp only [ev_x] at h
  repeat' (split at h)
  all_goals first | (cases h; done) | (cases h; rfl)
theorem fx_42 {a b : Nat} {z w : Int} (hg : ev_cls g = 99) (h : ev_x ((42, a, b, z, w) : ev_O) L st σ = some X) : gh_s X g = σ g := by
  simp only [ev_x] at h
  repeat' (split at h)
  all_goals first | (cases h; done) | (cases h; rfl)
theorem fx_43 {a b : Nat} {z w : Int} (hg : ev_cls g = 99) (h : ev_x ((43, a, b, z, w) : ev_O) L st σ = some X) : gh_s X g = σ g := by
  simp only [ev_x] at h
  repeat' (split at h)
  all_goals first | (cases h; done) | (cases h; rfl)
theorem fx_44 {a b : Nat} {z w : Int} (hg : ev_cls g = 99) (h : ev_x ((44, a, b, z, w) : ev_O) L st σ = some X) : gh_s X g = σ g := by
  simp only [ev_x] at h
  repeat' (split at h)
  all_goals first | (cases h; done) | (cases h; rfl)
theorem fx_45 {a b : Nat} {z w : Int} (hg : ev_cls g = 99) (h : ev_x ((45, a, b, z, w) : ev_O) L st σ = some X) : gh_s X g = σ g := by
  simp only [ev_x] at h
  repeat' (split at h)
  all_goals first | (cases h; done) | (cases h; rfl)
theorem fx_46 {a b : Nat} {z w : Int} (hg : ev_cls g = 99) (h : ev_x ((46, a, b, z, w) : ev_O) L st σ = some X) : gh_s X g = σ g := by
  simp only [ev_x] at h
  repeat' (split at h)
  all_goals first | (cases h; done) | (cases h; rfl)
theorem fx_47 {a b : Nat} {z w : Int} (hg : ev_cls g = 99) (h : ev_x ((47, a, b, z, w) : ev_O) L st σ = some X) : gh_s X g = σ g := by
  simp only [ev_x] at h
  repeat' (split at h)
  all_goals first | (cases h; done) | (cases h; rfl)
theorem fx_48 {a b : Nat} {z w : Int} (hg : ev_cls g = 99) (h : ev_x ((48, a, b, z, w) : ev_O) L st σ = some X) : gh_s X g = σ g := by
  simp only [ev_x] at h
  repeat' (split at h)
  all_goals first | (cases h; done) | (cases h; rfl)
theorem fx_49 {a b : Nat} {z w : Int} (hg : ev_cls g = 99) (h : ev_x ((49, a, b, z, w) : ev_O) L st σ = some X) : gh_s X g = σ g := by
  simp only [ev_x] at h
  repeat' (split at h)
  all_goals first | (cases h; done) | (cases h; rfl)
theorem fx_50 {a b : Nat} {z w : Int} (hg : ev_cls g = 99) (h : ev_x ((50, a, b, z, w) : ev_O) L st σ = some X) : gh_s X g = σ g := by
  simp only [ev_x] at h
  repeat' (split at h)
  all_goals first | (cases h; done) | (cases h; rfl)
theorem fx_51 {a b : Nat} {z w : Int} (hg : ev_cls g = 99) (h : ev_x ((51, a, b, z, w) : ev_O) L st σ = some X) : gh_s X g = σ g := by
  simp only [ev_x] at h
  repeat' (split at h)
  all_goals first | (cases h; done) | (cases h; rfl)
theorem fx_52 {a b : Nat} {z w : Int} (hg : ev_cls g = 99) (h : ev_x ((52, a, b, z, w) : ev_O) L st σ = some X) : gh_s X g = σ g := by
  simp only [ev_x] at h
  repeat' (split at h)
  all_goals first | (cases h; done) | (cases h; rfl)
theorem fx_53 {a b : Nat} {z w : Int} (hg : ev_cls g = 99) (h : ev_x ((53, a, b, z, w) : ev_O) L st σ = some X) : gh_s X g = σ g := by
  simp only [ev_x] at h
  repeat' (split at h)
  all_goals first | (cases h; done) | (cases h; rfl)
theorem fx_54 {a b : Nat} {z w : Int} (hg : ev_cls g = 99) (h : ev_x ((54, a, b, z, w) : ev_O) L st σ = some X) : gh_s X g = σ g := by
  simp only [ev_x] at h
  repeat' (split at h)
  all_goals first | (cases h; done) | (cases h; rfl)
theorem fx_55 {a b : Nat} {z w : Int} (hg : ev_cls g = 99) (h : ev_x ((55, a, b, z, w) : ev_O) L st σ = some X) : gh_s X g = σ g := by
  simp only [ev_x] at h
  repeat' (split at h)
  all_goals first | (cases h; done) | (cases h; rfl)
theorem fx_56 {a b : Nat} {z w : Int} (hg : ev_cls g = 99) (h : ev_x ((56, a, b, z, w) : ev_O) L st σ = some X) : gh_s X g = σ g := by
  simp only [ev_x] at h
  repeat' (split at h)
  all_goals first | (cases h; done) | (cases h; rfl)
theorem fx_57 {a b : Nat} {z w : Int} (hg : ev_cls g = 99) (h : ev_x ((57, a, b, z, w) : ev_O) L st σ = some X) : gh_s X g = σ g := by
  simp only [ev_x] at h
  repeat' (split at h)
  all_goals first | (cases h; done) | (cases h; rfl)
theorem fx_58 {a b : Nat} {z w : Int} (hg : ev_cls g = 99) (h : ev_x ((58, a, b, z, w) : ev_O) L st σ = some X) : gh_s X g = σ g := by
  simp only [ev_x] at h
  repeat' (split at h)
  all_goals first | (cases h; done) | (cases h; rfl)
theorem fx_59 {a b : Nat} {z w : Int} (hg : ev_cls g = 99) (h : ev_x ((59, a, b, z, w) : ev_O) L st σ = some X) : gh_s X g = σ g := by
  simp only [ev_x] at h
  repeat' (split at h)
  all_goals first | (cases h; done) | (cases h; rfl)
theorem fx_60 {a b : Nat} {z w : Int} (hg : ev_cls g = 99) (h : ev_x ((60, a, b, z, w) : ev_O) L st σ = some X) : gh_s X g = σ g := by
  simp only [ev_x] at h
  repeat' (split at h)
  all_goals first | (cases h; done) | (cases h; rfl)
theorem fx_61 {a b : Nat} {z w : Int} (hg : ev_cls g = 99) (h : ev_x ((61, a, b, z, w) : ev_O) L st σ = some X) : gh_s X g = σ g := by
  simp only [ev_x] at h
  split at h
  · split at h
    · next hc =>
      cases h
      have hn := (gh_ne hg hc.2.1 (by omega)).symm
      funext y
      exact if_neg (fun q => hn q.1)
    · cases h
  · cases h
theorem fx_62 {a b : Nat} {z w : Int} (hg : ev_cls g = 99) (h : ev_x ((62, a, b, z, w) : ev_O) L st σ = some X) : gh_s X g = σ g := by
  simp only [ev_x] at h
  repeat' (split at h)
  all_goals first | (cases h; done) | (cases h; rfl)
theorem fx_63 {a b : Nat} {z w : Int} (hg : ev_cls g = 99) (h : ev_x ((63, a, b, z, w) : ev_O) L st σ = some X) : gh_s X g = σ g := by
  simp only [ev_x] at h
  repeat' (split at h)
  all_goals first | (cases h; done) | (cases h; rfl)
theorem gh_x (hg : ev_cls g = 99) (h200 : g ≠ 200) (hok : gh_ok op = true) (h : ev_x op L st σ = some X) : ev_x op L st (ev_ua σ g F) = some (gh_m (fun σ => ev_ua σ g F) X) := by
  obtain ⟨k, a, b, z, w⟩ := op
  by_cases hk : k < 64
  · match k, hk with
    | 0, _ => exact gx_0 hg h200 h
    | 1, _ => exact gx_1 hg h200 h
    | 2, _ => exact gx_2 hg h200 h
    | 3, _ => exact gx_3 hg h200 h
    | 4, _ => exact gx_4 hg h200 h
    | 5, _ => exact gx_5 hg h200 h
    | 6, _ => exact gx_6 hg h200 h
    | 7, _ => exact gx_7 hg h200 h
    | 8, _ => exact gx_8 hg h200 h
    | 9, _ => exact gx_9 hg h200 h
    | 10, _ => exact gx_10 hg h200 h
    | 11, _ => exact gx_11 hg h200 h
    | 12, _ => exact gx_12 hg h200 h
    | 13, _ => exact gx_13 hg h200 h
    | 14, _ => exact gx_14 hg h200 h
    | 15, _ => exact gx_15 hg h200 h
    | 16, _ => exact gx_16 hg h200 h
    | 17, _ => exact gx_17 hg h200 h
    | 18, _ => exact gx_18 hg h200 h
    | 19, _ => exact gx_19 hg h200 h
    | 20, _ => exact gx_20 hg h200 h
    | 21, _ => exact gx_21 hg h200 h
    | 22, _ => exact gx_22 hg h200 h
    | 23, _ => exact gx_23 hg h200 h
    | 24, _ => exact gx_24 hg h200 h
    | 25, _ => exact gx_25 hg h200 h
    | 26, _ => exact gx_26 hg h200 h
    | 27, _ => exact gx_27 hg h200 hok h
    | 28, _ => exact gx_28 hg h200 hok h
    | 29, _ => exact gx_29 hg h200 hok h
    | 30, _ => exact gx_30 hg h200 hok h
    | 31, _ => exact gx_31 hg h200 hok h
    | 32, _ => exact gx_32 hg h200 h
    | 33, _ => exact gx_33 hg h200 h
    | 34, _ => exact gx_34 hg h200 h
    | 35, _ => exact gx_35 hg h200 h
    | 36, _ => exact gx_36 hg h200 h
    | 37, _ => exact gx_37 hg h200 h
    | 38, _ => exact gx_38 hg h200 h
    | 39, _ => exact gx_39 hg h200 h
    | 40, _ => exact gx_40 hg h200 h
    | 41, _ => exact gx_41 hg h200 h
    | 42, _ => exact gx_42 hg h200 h
    | 43, _ => exact gx_43 hg h200 h
    | 44, _ => exact gx_44 hg h200 h
    | 45, _ => exact gx_45 hg h200 h
    | 46, _ => exact gx_46 hg h200 h
    | 47, _ => exact gx_47 hg h200 h
    | 48, _ => exact gx_48 hg h200 h
    | 49, _ => exact gx_49 hg h200 h
    | 50, _ => exact gx_50 hg h200 h
    | 51, _ => exact gx_51 hg h200 h
    | 52, _ => exact gx_52 hg h200 h
    | 53, _ => exact gx_53 hg h200 h
    | 54, _ => exact gx_54 hg h200 h
    | 55, _ => exact gx_55 hg h200 h
    | 56, _ => exact gx_56 hg h200 h
    | 57, _ => exact gx_57 hg h200 h
    | 58, _ => exact gx_58 hg h200 h
    | 59, _ => exact gx_59 hg h200 h
    | 60, _ => exact gx_60 hg h200 h
    | 61, _ => exact gx_61 hg h200 h
    | 62, _ => exact gx_62 hg h200 h
    | 63, _ => exact gx_63 hg h200 h
  · exfalso
    unfold ev_x at h
    split at h <;> first | (cases h; done) | (rename_i heq; have h9 := congrArg Prod.fst heq; dsimp only at h9; omega) | (simp_all; done)
theorem fr_x (hg : ev_cls g = 99) (hok : gh_ok op = true) (h : ev_x op L st σ = some X) : gh_s X g = σ g := by
  obtain ⟨k, a, b, z, w⟩ := op
  by_cases hk : k < 64
  · match k, hk with
    | 0, _ => exact fx_0 hg h
    | 1, _ => exact fx_1 hg h
    | 2, _ => exact fx_2 hg h
    | 3, _ => exact fx_3 hg h
    | 4, _ => exact fx_4 hg h
    | 5, _ => exact fx_5 hg h
    | 6, _ => exact fx_6 hg h
    | 7, _ => exact fx_7 hg h
    | 8, _ => exact fx_8 hg h
    | 9, _ => exact fx_9 hg h
    | 10, _ => exact fx_10 hg h
    | 11, _ => exact fx_11 hg h
    | 12, _ => exact fx_12 hg h
    | 13, _ => exact fx_13 hg h
    | 14, _ => exact fx_14 hg h
    | 15, _ => exact fx_15 hg h
    | 16, _ => exact fx_16 hg h
    | 17, _ => exact fx_17 hg h
    | 18, _ => exact fx_18 hg h
    | 19, _ => exact fx_19 hg h
    | 20, _ => exact fx_20 hg h
    | 21, _ => exact fx_21 hg h
    | 22, _ => exact fx_22 hg h
    | 23, _ => exact fx_23 hg h
    | 24, _ => exact fx_24 hg h
    | 25, _ => exact fx_25 hg h
    | 26, _ => exact fx_26 hg h
    | 27, _ => exact fx_27 hg hok h
    | 28, _ => exact fx_28 hg hok h
    | 29, _ => exact fx_29 hg hok h
    | 30, _ => exact fx_30 hg hok h
    | 31, _ => exact fx_31 hg hok h
    | 32, _ => exact fx_32 hg h
    | 33, _ => exact fx_33 hg h
    | 34, _ => exact fx_34 hg h
    | 35, _ => exact fx_35 hg h
    | 36, _ => exact fx_36 hg h
    | 37, _ => exact fx_37 hg h
    | 38, _ => exact fx_38 hg h
    | 39, _ => exact fx_39 hg h
    | 40, _ => exact fx_40 hg h
    | 41, _ => exact fx_41 hg h
    | 42, _ => exact fx_42 hg h
    | 43, _ => exact fx_43 hg h
    | 44, _ => exact fx_44 hg h
    | 45, _ => exact fx_45 hg h
    | 46, _ => exact fx_46 hg h
    | 47, _ => exact fx_47 hg h
    | 48, _ => exact fx_48 hg h
    | 49, _ => exact fx_49 hg h
    | 50, _ => exact fx_50 hg h
    | 51, _ => exact fx_51 hg h
    | 52, _ => exact fx_52 hg h
    | 53, _ => exact fx_53 hg h
    | 54, _ => exact fx_54 hg h
    | 55, _ => exact fx_55 hg h
    | 56, _ => exact fx_56 hg h
    | 57, _ => exact fx_57 hg h
    | 58, _ => exact fx_58 hg h
    | 59, _ => exact fx_59 hg h
    | 60, _ => exact fx_60 hg h
    | 61, _ => exact fx_61 hg h
    | 62, _ => exact fx_62 hg h
    | 63, _ => exact fx_63 hg h
  · exfalso
    unfold ev_x at h
    split at h <;> first | (cases h; done) | (rename_i heq; have h9 := congrArg Prod.fst heq; dsimp only at h9; omega) | (simp_all; done)
end GHX
theorem gh_b {g : Int} {F : Int → Int} (hg : ev_cls g = 99) (h200 : g ≠ 200) : ∀ (f j t : Nat) (L : ev_L) (st : List ev_V) (σ : ev_M) (r : ev_R), ev_b f j t L st σ = some r → ev_b f j t L st (ev_ua σ g F) = some (r.1, ev_ua r.2 g F) := by
  intro f
  induction f with
  | zero => intro j t L st σ r h; simp [ev_b] at h
  | succ f IH =>
    intro j t L st σ r h
    have inner : ∀ (ops : List ev_O) (L : ev_L) (st : List ev_V) (σ : ev_M), (∀ op ∈ ops, gh_ok op = true) → ev_o (ev_go (ev_b f)) (fun t L st σ => ev_b f j t L st σ) ops L st σ = some r → ev_o (ev_go (ev_b f)) (fun t L st σ => ev_b f j t L st σ) ops L st (ev_ua σ g F) = some (r.1, ev_ua r.2 g F) := by
      intro ops
      induction ops with
      | nil => intro L st σ _ h; simp [ev_o] at h
      | cons op ops ih =>
        intro L st σ hok h
        unfold ev_o at h ⊢
        rcases hx : ev_x op L st σ with _ | X <;> rw [hx] at h
        · cases h
        have hx2 := gh_x (F := F) hg h200 (hok op List.mem_cons_self) hx
        rw [hx2]
        rcases X with ⟨L1, st1, σ1⟩ | ⟨t1, L1, st1, σ1⟩ | ⟨v, σ1⟩ | ⟨q, as, rest, L1, σ1⟩ <;> dsimp only [gh_m] at h ⊢
        · exact ih _ _ _ (fun o ho => hok o (List.mem_cons_of_mem _ ho)) h
        · exact IH _ _ _ _ _ _ h
        · cases h; rfl
        · rcases hc : ev_go (ev_b f) q as σ1 with _ | ⟨v, σ2⟩ <;> rw [hc] at h <;> dsimp only at h
          · cases h
          · have hc2 : ev_go (ev_b f) q as (ev_ua σ1 g F) = some (v, ev_ua σ2 g F) := by
              unfold ev_go at hc ⊢
              split at hc
              · next hle => rw [if_pos hle]; exact IH _ _ _ _ _ _ hc
              · cases hc
            rw [hc2]
            exact ih _ _ _ (fun o ho => hok o (List.mem_cons_of_mem _ ho)) h
    unfold ev_b at h ⊢
    exact inner _ _ _ _ (gh_blk j t) h
theorem fr_b {g : Int} (hg : ev_cls g = 99) : ∀ (f j t : Nat) (L : ev_L) (st : List ev_V) (σ : ev_M) (r : ev_R), ev_b f j t L st σ = some r → r.2 g = σ g := by
  intro f
  induction f with
  | zero => intro j t L st σ r h; simp [ev_b] at h
  | succ f IH =>
    intro j t L st σ r h
    have inner : ∀ (ops : List ev_O) (L : ev_L) (st : List ev_V) (σ : ev_M), (∀ op ∈ ops, gh_ok op = true) → ev_o (ev_go (ev_b f)) (fun t L st σ => ev_b f j t L st σ) ops L st σ = some r → r.2 g = σ g := by
      intro ops
      induction ops with
      | nil => intro L st σ _ h; simp [ev_o] at h
      | cons op ops ih =>
        intro L st σ hok h
        unfold ev_o at h
        rcases hx : ev_x op L st σ with _ | X <;> rw [hx] at h
        · cases h
        have hx2 := fr_x hg (hok op List.mem_cons_self) hx
        rcases X with ⟨L1, st1, σ1⟩ | ⟨t1, L1, st1, σ1⟩ | ⟨v, σ1⟩ | ⟨q, as, rest, L1, σ1⟩ <;> dsimp only [gh_s] at h hx2
        · rw [← hx2]
          exact ih _ _ _ (fun o ho => hok o (List.mem_cons_of_mem _ ho)) h
        · rw [← hx2]
          exact IH _ _ _ _ _ _ h
        · cases h; exact hx2
        · rcases hc : ev_go (ev_b f) q as σ1 with _ | ⟨v, σ2⟩ <;> rw [hc] at h <;> dsimp only at h
          · cases h
          · have hc2 : σ2 g = σ1 g := by
              unfold ev_go at hc
              split at hc
              · exact IH _ _ _ _ _ _ hc
              · cases hc
            rw [← hx2, ← hc2]
            exact ih _ _ _ (fun o ho => hok o (List.mem_cons_of_mem _ ho)) h
    unfold ev_b at h
    exact inner _ _ _ _ (gh_blk j t) h
theorem gh_cls : ev_cls 183 = 99 ∧ ev_cls 200 = 99 := by decide +kernel
theorem EM_b {j : Nat} {as : List ev_V} {σ : ev_M} {r : ev_R} : EM j as σ = some r ↔ ∃ f, ev_go (ev_b f) j as σ = some r := by
  unfold EM ev_go
  by_cases hle : (ev_lay as).length ≤ ev_mxl j
  · simp only [if_pos hle]
    exact EB_iff
  · simp only [if_neg hle]
    simp
theorem EM_gh {j : Nat} {as : List ev_V} {σ σ1 : ev_M} {v : Option ev_V} {F : Int → Int} (h : EM j as σ = some (v, σ1)) : EM j as (ev_ua σ 183 F) = some (v, ev_ua σ1 183 F) := by
  obtain ⟨f, hf⟩ := EM_b.mp h
  refine EM_b.mpr ⟨f, ?_⟩
  unfold ev_go at hf ⊢
  split at hf
  · next hle => rw [if_pos hle]; exact gh_b gh_cls.1 (by omega) _ _ _ _ _ _ _ hf
  · cases hf
theorem EM_fr {j : Nat} {as : List ev_V} {σ σ1 : ev_M} {v : Option ev_V} {g : Int} (hg : ev_cls g = 99) (h : EM j as σ = some (v, σ1)) : σ1 g = σ g := by
  obtain ⟨f, hf⟩ := EM_b.mp h
  unfold ev_go at hf
  split at hf
  · exact fr_b hg _ _ _ _ _ _ _ hf
  · cases hf
/-- what holds with a row's ghost in the memory holds without it -/
theorem EM_gw {j : Nat} {as : List ev_V} {v : Option ev_V} {F : Int → Int} {A B : ev_M → Prop} (hA : ∀ σ G, A σ → A (ev_ua σ 183 G)) (hB : ∀ σ G, B σ → B (ev_ua σ 183 G)) (h : ∀ σ, σ 183 = F → A σ → ∃ σ1, EM j as σ = some (v, σ1) ∧ B σ1) {σ : ev_M} (hσ : A σ) : ∃ σ1, EM j as σ = some (v, σ1) ∧ B σ1 := by
  obtain ⟨σ1, e1, b1⟩ := h (ev_ua σ 183 F) (funext fun _ => ev_ua_eq) (hA _ _ hσ)
  have e2 := EM_gh (F := σ 183) e1
  rw [ev_ua_ua, ev_ua_self] at e2
  exact ⟨_, e2, hB _ _ b1⟩
