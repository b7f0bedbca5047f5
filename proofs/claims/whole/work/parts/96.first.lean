/-! the first memory keeps the invariant; what a method gives back has its descriptor's kind -/
theorem ew_s0_183 (k : Int) : ew_s0 183 k = 0 := rfl
theorem ew_s0_163 (k : Int) : ew_s0 163 k = 46 + 23 * k := rfl
theorem ew_s0_T {k : Int} (h0 : 0 ≤ k) (h1 : k < 338) : st_T ew_s0 ev_n k = 0 := by
  have h := ev_ao_in (k := k) ⟨h0, h1⟩
  unfold st_T ew_s0 ev_n
  rw [if_neg (by omega), if_neg (by omega)]
theorem ew_I0 : st_I (fun _ => 0) := by
  unfold st_I
  dsimp only
  refine ⟨⟨⟨by omega, by omega⟩, ⟨by omega, by omega⟩, ⟨by omega, by omega⟩, ⟨by omega, by omega⟩, ⟨by omega, by omega⟩, ⟨by omega, by omega⟩⟩, ?_, ?_, ?_, ?_, ?_, ?_⟩
  · intro r h0 h1
    exact absurd h1 (by omega)
  · intro r h0 h1
    exact absurd h1 (by omega)
  · intro r h0 h1
    exact ⟨by omega, by omega⟩
  · intro r c h0 h1
    exact absurd h1 (by omega)
  · intro r h0 h1
    exact absurd h1 (by omega)
  · intro r h0 h1
    exact absurd h1 (by omega)
theorem ew_K0 : st_K ew_s0 := by
  refine ⟨fun i h0 h1 => ?_, fun i j i0 i1 j0 j1 h => ?_⟩
  · rw [ew_s0_163]
    unfold ev_S
    omega
  · rw [ew_s0_163, ew_s0_163]
    omega
theorem ew_J0 : st_J ew_s0 := by
  refine ⟨fun k h0 h1 => by rw [ew_s0_T h0 h1, ew_s0_183], ew_I0, ew_K0, ⟨by decide, by decide⟩, rfl, fun i h0 h1 => ?_, ⟨⟨rfl, by decide, by decide⟩, fun i h0 h1 => ?_⟩, fun r _ _ => rfl⟩
  · exact absurd h1 (by rw [show ew_s0 162 0 = 0 from rfl]; omega)
  · exact absurd h1 (by rw [show ew_s0 182 11 = 0 from rfl]; omega)
def ew_kd (o : Option FieldType) (v : Option ev_V) : Prop := (o = some .int ∨ o = some .boolean → ∃ x, v = some (.inl x)) ∧ (o = some .long → ∃ h, v = some (.inr (.inr h)))
set_option maxHeartbeats 4000000 in
theorem ew_x_ret {op : ev_O} {L : ev_L} {st : List ev_V} {σ : ev_M} {r : ev_R} (h : ev_x op L st σ = some (.inr (.inr (.inl r)))) : (op.1 = 56 ∧ ∃ x, r.1 = some (.inl x)) ∨ (op.1 = 57 ∧ ∃ x, r.1 = some (.inr (.inr x))) ∨ (op.1 = 58 ∧ r.1 = none) := by
  unfold ev_x at h
  split at h
  all_goals (try (split at h))
  all_goals (try (split at h))
  all_goals (try (cases h; done))
  all_goals first
    | (cases h; exact Or.inl ⟨rfl, _, rfl⟩)
    | (cases h; exact Or.inr (Or.inl ⟨rfl, _, rfl⟩))
    | (cases h; exact Or.inr (Or.inr ⟨rfl, rfl⟩))
    | (split at h <;> cases h)
theorem ew_kd_of {j pc : Nat} {op : ev_O} {r : ev_R} (hok : ev_ok1 j pc op = true) (h : (op.1 = 56 ∧ ∃ x, r.1 = some (.inl x)) ∨ (op.1 = 57 ∧ ∃ x, r.1 = some (.inr (.inr x))) ∨ (op.1 = 58 ∧ r.1 = none)) : ew_kd (ev_ret j) r.1 := by
  rcases op with ⟨o, a, b, z, w⟩
  rcases h with ⟨h1, x, h2⟩ | ⟨h1, x, h2⟩ | ⟨h1, h2⟩
  · dsimp only at h1
    subst h1
    have h3 := of_decide_eq_true (ev_ok1_d hok (show (56 : Nat) ≠ 53 by decide)).2
    refine ⟨fun _ => ⟨x, h2⟩, fun hl => ?_⟩
    by_cases ha : a = 0
    · rw [h3.1 ha] at hl; cases hl
    · rw [h3.2 ha] at hl; cases hl
  · dsimp only at h1
    subst h1
    have h3 := of_decide_eq_true (ev_ok1_d hok (show (57 : Nat) ≠ 53 by decide)).2
    refine ⟨fun hl => ?_, fun _ => ⟨x, h2⟩⟩
    rw [h3] at hl
    rcases hl with hl | hl <;> cases hl
  · dsimp only at h1
    subst h1
    have h3 := of_decide_eq_true (ev_ok1_d hok (show (58 : Nat) ≠ 53 by decide)).2
    refine ⟨fun hl => ?_, fun hl => ?_⟩
    · rw [h3] at hl
      rcases hl with hl | hl <;> cases hl
    · rw [h3] at hl; cases hl
theorem ew_kind_b (hchk : ∀ j, j < 182 → ev_chk j = true) {j : Nat} (hj : j < 182) : ∀ (f t : Nat) (L : ev_L) (st : List ev_V) (σ : ev_M) (r : ev_R), ev_b f j t L st σ = some r → ew_kd (ev_ret j) r.1 := by
  intro f
  induction f with
  | zero =>
    intro t L st σ r h
    simp [ev_b] at h
  | succ f IH =>
    intro t L st σ r h
    unfold ev_b at h
    have inner : ∀ (ops : List ev_O) (pc : Nat) (L : ev_L) (st : List ev_V) (σ : ev_M), ev_okb j ops pc = true → ev_o (ev_go (ev_b f)) (fun t L st σ => ev_b f j t L st σ) ops L st σ = some r → ew_kd (ev_ret j) r.1 := by
      intro ops
      induction ops with
      | nil =>
        intro pc L st σ _ h
        simp [ev_o] at h
      | cons op ops ih =>
        intro pc L st σ hok h
        have hok2 := (Bool.and_eq_true _ _).mp (show (ev_ok1 j pc op && ev_okb j ops (pc + (ev_in op).2)) = true from hok)
        unfold ev_o at h
        rcases hx : ev_x op L st σ with _ | ⟨L1, st1, σ1⟩ | ⟨t, L1, st1, σ1⟩ | q | ⟨q, as, rest, L1, σ1⟩ <;> rw [hx] at h <;> dsimp only at h
        · cases h
        · exact ih _ _ _ _ hok2.2 h
        · exact IH t L1 st1 σ1 r h
        · cases h
          exact ew_kd_of hok2.1 (ew_x_ret hx)
        · rcases hc : ev_go (ev_b f) q as σ1 with _ | ⟨v, σ2⟩ <;> rw [hc] at h <;> dsimp only at h
          · cases h
          · exact ih _ _ _ _ hok2.2 h
    have hck := hchk j hj
    unfold ev_chk at hck
    rcases Nat.lt_or_ge t (ev_ms.getD j []).length with ht | ht
    · exact inner _ _ _ _ _ (List.all_eq_true.mp hck t (List.mem_range.mpr ht)) h
    · exfalso
      have : ev_blk j t = [] := by
        unfold ev_blk
        rw [List.getD_eq_getElem?_getD (l := ev_ms.getD j []), List.getElem?_eq_none ht]
        rfl
      rw [this] at h
      simp [ev_o] at h
theorem ew_kind (hchk : ∀ j, j < 182 → ev_chk j = true) {q : Nat} (hq : q < 182) {as : List ev_V} {σ : ev_M} {r : ev_R} (h : EM q as σ = some r) : ew_kd (ev_ret q) r.1 := by
  unfold EM ev_go at h
  split at h
  · obtain ⟨f, hf⟩ := EB_iff.mp h
    exact ew_kind_b hchk hq f _ _ _ _ _ hf
  · cases h
