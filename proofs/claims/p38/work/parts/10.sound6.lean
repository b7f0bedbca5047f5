/-! what is checked of the code, and what an instruction of the pure machine comes to on the real one -/
def ev_ok2 (j pc : Nat) (op : ev_O) : Bool := match op with
  | (0, k, f, _, _) => decide (f = 0 → k < 4)
  | (1, k, f, _, _) => decide (f = 0 → k < 4)
  | (2, k, f, _, _) => decide (f = 0 → k < 4)
  | (3, k, f, _, _) => decide (f = 0 → k < 4)
  | (4, k, f, _, _) => decide (f = 0 → k < 4)
  | (5, k, f, _, _) => decide (f = 0 → k < 4)
  | (6, f, _, z, _) => decide ((f = 1 → (Int8.ofInt z).toInt32 = Int32.ofInt z) ∧ (Int16.ofInt z).toInt32 = Int32.ofInt z)
  | (7, k, _, z, _) => decide ((ev_own j, k, z) ∈ ev_cks)
  | (8, k, _, z, _) => decide ((ev_own j, k, z) ∈ ev_cls2)
  | (27, e, c, k, _) => decide ((ev_own j, e, c, k.toNat) ∈ ev_frs ∧ 0 ≤ k) && ev_fck c k.toNat 0 0
  | (28, e, c, k, o) => decide ((ev_own j, e, c, k.toNat) ∈ ev_frs ∧ 0 ≤ k) && ev_fck c k.toNat 1 o
  | (29, e, c, k, _) => decide ((ev_own j, e, c, k.toNat) ∈ ev_frs ∧ 0 ≤ k) && ev_fck c k.toNat 2 0
  | (30, e, c, k, _) => decide ((ev_own j, e, c, k.toNat) ∈ ev_frs ∧ 0 ≤ k) && ev_fck c k.toNat 0 0
  | (31, e, c, k, _) => decide ((ev_own j, e, c, k.toNat) ∈ ev_frs ∧ 0 ≤ k) && ev_fck c k.toNat 2 0
  | (40, t, _, z, _) => decide ((pc : Int) + z = (ev_pcs j t : Int))
  | (41, t, _, z, _) => decide ((pc : Int) + z = (ev_pcs j t : Int))
  | (42, t, _, z, _) => decide ((pc : Int) + z = (ev_pcs j t : Int))
  | (43, t, _, z, _) => decide ((pc : Int) + z = (ev_pcs j t : Int))
  | (44, t, _, z, _) => decide ((pc : Int) + z = (ev_pcs j t : Int))
  | (45, t, _, z, _) => decide ((pc : Int) + z = (ev_pcs j t : Int))
  | (46, t, _, z, _) => decide ((pc : Int) + z = (ev_pcs j t : Int))
  | (47, t, _, z, _) => decide ((pc : Int) + z = (ev_pcs j t : Int))
  | (48, t, _, z, _) => decide ((pc : Int) + z = (ev_pcs j t : Int))
  | (49, t, _, z, _) => decide ((pc : Int) + z = (ev_pcs j t : Int))
  | (50, t, _, z, _) => decide ((pc : Int) + z = (ev_pcs j t : Int))
  | (51, t, _, z, _) => decide ((pc : Int) + z = (ev_pcs j t : Int))
  | (52, t, _, z, _) => decide ((pc : Int) + z = (ev_pcs j t : Int))
  | (38, _, _, _, _) => decide (j = 113)
  | (54, k, _, _, _) => ev_swc j pc k
  | (55, k, _, _, _) => ev_lwc j pc k
  | (56, b, _, _, _) => decide ((b = 0 → ev_ret j = some .int) ∧ (b ≠ 0 → ev_ret j = some .boolean))
  | (57, _, _, _, _) => decide (ev_ret j = some .long)
  | (58, _, _, _, _) => decide (ev_ret j = none)
  | (59, q, n, z, c) => decide (q < 113 ∧ n = ev_na q + 1 ∧ ev_sta q = false ∧ (ev_own q : Int) = c ∧ (ev_own j, z.toNat, q, if ev_own j = ev_own q ∨ ev_own j = 11 then 0 else 2) ∈ ev_mrs) && ev_rck j q
  | (60, q, n, z, _) => decide (q < 113 ∧ n = ev_na q ∧ ev_sta q = true ∧ (ev_own j, z.toNat, q, if ev_own j = ev_own q ∨ ev_own j = 11 then 1 else 3) ∈ ev_mrs) && ev_rck j q
  | (61, k, _, _, _) => decide ((ev_own j, k, 61) ∈ ev_jrs ∧ 1 ≤ (ev_rm j).frames ∧ 26 ≤ (ev_rm j).locals)
  | (62, k, _, _, _) => decide ((ev_own j, k, 62) ∈ ev_jrs ∧ 1 ≤ (ev_rm j).frames ∧ 21 ≤ (ev_rm j).locals)
  | (63, k, _, _, _) => decide ((ev_own j, k, 63) ∈ ev_jrs ∧ 1 ≤ (ev_rm j).frames ∧ 21 ≤ (ev_rm j).locals)
  | _ => true
def ev_ok1 (j pc : Nat) (op : ev_O) : Bool := if op.1 = 53 then decide (pc = ev_pcs j op.2.1) else decide (decode (ev_bc j) pc = .ok (ev_in op)) && ev_ok2 j pc op
def ev_okb (j : Nat) : List ev_O → Nat → Bool
  | [], _ => true
  | op :: ops, pc => ev_ok1 j pc op && ev_okb j ops (pc + (ev_in op).2)
def ev_chk (j : Nat) : Bool := (List.range (ev_ms.getD j []).length).all (fun t => ev_okb j (ev_blk j t) (ev_pcs j t))
theorem ev_ok1_d {j pc : Nat} {op : ev_O} (h : ev_ok1 j pc op = true) (hn : op.1 ≠ 53) : decode (ev_bc j) pc = .ok (ev_in op) ∧ ev_ok2 j pc op = true := by
  unfold ev_ok1 at h
  rw [if_neg hn] at h
  have := (Bool.and_eq_true _ _).mp h
  exact ⟨of_decide_eq_true this.1, this.2⟩
theorem ev_ok38 {j pc : Nat} {op : ev_O} (h : ev_ok1 j pc op = true) (h38 : op.1 = 38) : j = 113 := by
  obtain ⟨k, a, b, z, w⟩ := op
  dsimp only at h38
  subst h38
  exact of_decide_eq_true (ev_ok1_d h (by dsimp only; omega)).2
/-- what is to be shown of an instruction -/
def ev_G (p : Program) (l : Launch) (e : Env) (s : State) (m : MethodId) (args : Array Value) (below : List Frame) (meth : Method) (c : Code) (D : va_G) (cI cZ cS : ClassId) (ad : Int → Nat) (A : Nat → Prop) (Q : State → Prop) (j pc n : Nat) (L : ev_L) (st : List ev_V) (σ : ev_M) (X : ev_X) : Prop := match X with
  | .inl (L1, st1, σ1) => ev_W p l e s m args below meth c D cI cZ cS ad A Q j (pc + n) L1 st1 σ1 → ev_W p l e s m args below meth c D cI cZ cS ad A Q j pc L st σ
  | .inr (.inl (t, L1, st1, σ1)) => ev_W p l e s m args below meth c D cI cZ cS ad A Q j (ev_pcs j t) L1 st1 σ1 → ev_W p l e s m args below meth c D cI cZ cS ad A Q j pc L st σ
  | .inr (.inr (.inl r1)) => Q = MQ below (ev_Qc D cI cZ cS ad A r1) args s 0 0 A → (ev_c0 j = 0 ∧ ev_c1 j = 0) → ev_W p l e s m args below meth c D cI cZ cS ad A Q j pc L st σ
  | .inr (.inr (.inr (q, as, rest, L1, σ1))) => q < 113 ∧ ∀ r1, ev_Mt l D cI cZ cS ad A q as σ1 r1 → ev_W p l e s m args below meth c D cI cZ cS ad A Q j (pc + n) L1 (r1.1.toList ++ rest) r1.2 → ev_W p l e s m args below meth c D cI cZ cS ad A Q j pc L st σ
section SNX
variable {p : Program} {l : Launch} {e : Env} {s : State} {m : MethodId} {args : Array Value} {below : List Frame} {meth : Method} {c : Code} {D : va_G} {cI cZ cS : ClassId} {ad : Int → Nat} {A : Nat → Prop} {Q : State → Prop} {j pc : Nat} {L : ev_L} {st : List ev_V} {σ : ev_M}
theorem ex_0 (F : ev_F p s m args meth c D cI cZ cS ad A j) (hj : j < 114) {a b : Nat} {z w : Int} {X : ev_X} (hok : ev_ok1 j pc ((0, a, b, z, w) : ev_O) = true) (hx : ev_x ((0, a, b, z, w) : ev_O) L st σ = some X) : ev_G p l e s m args below meth c D cI cZ cS ad A Q j pc (ev_in ((0, a, b, z, w) : ev_O)).2 L st σ X := by
  obtain ⟨hd, h2⟩ := ev_ok1_d hok (show (0 : Nat) ≠ 53 by decide)
  simp only [ev_x] at hx
  split at hx
  · next x hg =>
    cases hx
    intro kk
    refine sd_iload F hd (of_decide_eq_true h2) hg ?_
    have e : (ev_in ((0, a, b, z, w) : ev_O)).2 = if b = 0 then 1 else 2 := by
      show (if b = 0 then _ else _ : Instr × Nat).2 = _
      split <;> rfl
    rw [e] at kk
    exact kk
  · cases hx
theorem ex_1 (F : ev_F p s m args meth c D cI cZ cS ad A j) (hj : j < 114) {a b : Nat} {z w : Int} {X : ev_X} (hok : ev_ok1 j pc ((1, a, b, z, w) : ev_O) = true) (hx : ev_x ((1, a, b, z, w) : ev_O) L st σ = some X) : ev_G p l e s m args below meth c D cI cZ cS ad A Q j pc (ev_in ((1, a, b, z, w) : ev_O)).2 L st σ X := by
  obtain ⟨hd, h2⟩ := ev_ok1_d hok (show (1 : Nat) ≠ 53 by decide)
  simp only [ev_x] at hx
  split at hx
  · next x hg =>
    cases hx
    intro kk
    refine sd_aload F hd (of_decide_eq_true h2) hg ?_
    have e : (ev_in ((1, a, b, z, w) : ev_O)).2 = if b = 0 then 1 else 2 := by
      show (if b = 0 then _ else _ : Instr × Nat).2 = _
      split <;> rfl
    rw [e] at kk
    exact kk
  · cases hx
theorem ex_2 (F : ev_F p s m args meth c D cI cZ cS ad A j) (hj : j < 114) {a b : Nat} {z w : Int} {X : ev_X} (hok : ev_ok1 j pc ((2, a, b, z, w) : ev_O) = true) (hx : ev_x ((2, a, b, z, w) : ev_O) L st σ = some X) : ev_G p l e s m args below meth c D cI cZ cS ad A Q j pc (ev_in ((2, a, b, z, w) : ev_O)).2 L st σ X := by
  obtain ⟨hd, h2⟩ := ev_ok1_d hok (show (2 : Nat) ≠ 53 by decide)
  simp only [ev_x] at hx
  split at hx
  · next x hg =>
    cases hx
    intro kk
    refine sd_lload F hd (of_decide_eq_true h2) hg ?_
    have e : (ev_in ((2, a, b, z, w) : ev_O)).2 = if b = 0 then 1 else 2 := by
      show (if b = 0 then _ else _ : Instr × Nat).2 = _
      split <;> rfl
    rw [e] at kk
    exact kk
  · cases hx
theorem ex_3 (F : ev_F p s m args meth c D cI cZ cS ad A j) (hj : j < 114) {a b : Nat} {z w : Int} {X : ev_X} (hok : ev_ok1 j pc ((3, a, b, z, w) : ev_O) = true) (hx : ev_x ((3, a, b, z, w) : ev_O) L st σ = some X) : ev_G p l e s m args below meth c D cI cZ cS ad A Q j pc (ev_in ((3, a, b, z, w) : ev_O)).2 L st σ X := by
  obtain ⟨hd, h2⟩ := ev_ok1_d hok (show (3 : Nat) ≠ 53 by decide)
  simp only [ev_x] at hx
  split at hx
  · split at hx
    · next hc =>
      cases hx
      intro kk
      refine sd_istore F hd (of_decide_eq_true h2) hc.1 hc.2 ?_
      have e : (ev_in ((3, a, b, z, w) : ev_O)).2 = if b = 0 then 1 else 2 := by
        show (if b = 0 then _ else _ : Instr × Nat).2 = _
        split <;> rfl
      rw [e] at kk
      exact kk
    · cases hx
  · cases hx
theorem ex_4 (F : ev_F p s m args meth c D cI cZ cS ad A j) (hj : j < 114) {a b : Nat} {z w : Int} {X : ev_X} (hok : ev_ok1 j pc ((4, a, b, z, w) : ev_O) = true) (hx : ev_x ((4, a, b, z, w) : ev_O) L st σ = some X) : ev_G p l e s m args below meth c D cI cZ cS ad A Q j pc (ev_in ((4, a, b, z, w) : ev_O)).2 L st σ X := by
  obtain ⟨hd, h2⟩ := ev_ok1_d hok (show (4 : Nat) ≠ 53 by decide)
  simp only [ev_x] at hx
  split at hx
  · split at hx
    · next hc =>
      cases hx
      intro kk
      refine sd_astore F hd (of_decide_eq_true h2) hc.1 hc.2 ?_
      have e : (ev_in ((4, a, b, z, w) : ev_O)).2 = if b = 0 then 1 else 2 := by
        show (if b = 0 then _ else _ : Instr × Nat).2 = _
        split <;> rfl
      rw [e] at kk
      exact kk
    · cases hx
  · cases hx
theorem ex_5 (F : ev_F p s m args meth c D cI cZ cS ad A j) (hj : j < 114) {a b : Nat} {z w : Int} {X : ev_X} (hok : ev_ok1 j pc ((5, a, b, z, w) : ev_O) = true) (hx : ev_x ((5, a, b, z, w) : ev_O) L st σ = some X) : ev_G p l e s m args below meth c D cI cZ cS ad A Q j pc (ev_in ((5, a, b, z, w) : ev_O)).2 L st σ X := by
  obtain ⟨hd, h2⟩ := ev_ok1_d hok (show (5 : Nat) ≠ 53 by decide)
  simp only [ev_x] at hx
  split at hx
  · split at hx
    · next hc =>
      cases hx
      intro kk
      refine sd_lstore F hd (of_decide_eq_true h2) hc.1 hc.2 ?_
      have e : (ev_in ((5, a, b, z, w) : ev_O)).2 = if b = 0 then 1 else 2 := by
        show (if b = 0 then _ else _ : Instr × Nat).2 = _
        split <;> rfl
      rw [e] at kk
      exact kk
    · cases hx
  · cases hx
theorem ex_6 (F : ev_F p s m args meth c D cI cZ cS ad A j) (hj : j < 114) {a b : Nat} {z w : Int} {X : ev_X} (hok : ev_ok1 j pc ((6, a, b, z, w) : ev_O) = true) (hx : ev_x ((6, a, b, z, w) : ev_O) L st σ = some X) : ev_G p l e s m args below meth c D cI cZ cS ad A Q j pc (ev_in ((6, a, b, z, w) : ev_O)).2 L st σ X := by
  obtain ⟨hd, h2⟩ := ev_ok1_d hok (show (6 : Nat) ≠ 53 by decide)
  simp only [ev_x] at hx
  cases hx
  intro kk
  have h3 := of_decide_eq_true h2
  refine sd_const F hd h3.1 h3.2 ?_
  have e : (ev_in ((6, a, b, z, w) : ev_O)).2 = if a = 0 then 1 else if a = 1 then 2 else 3 := by
    show (if a = 0 then _ else if a = 1 then _ else _ : Instr × Nat).2 = _
    split
    · rfl
    · split <;> rfl
  rw [e] at kk
  exact kk
theorem ex_7 (F : ev_F p s m args meth c D cI cZ cS ad A j) (hj : j < 114) {a b : Nat} {z w : Int} {X : ev_X} (hok : ev_ok1 j pc ((7, a, b, z, w) : ev_O) = true) (hx : ev_x ((7, a, b, z, w) : ev_O) L st σ = some X) : ev_G p l e s m args below meth c D cI cZ cS ad A Q j pc (ev_in ((7, a, b, z, w) : ev_O)).2 L st σ X := by
  obtain ⟨hd, h2⟩ := ev_ok1_d hok (show (7 : Nat) ≠ 53 by decide)
  simp only [ev_x] at hx
  cases hx
  intro kk
  exact sd_ldc F hd (ev_cks_ok _ (of_decide_eq_true h2)) kk
theorem ex_8 (F : ev_F p s m args meth c D cI cZ cS ad A j) (hj : j < 114) {a b : Nat} {z w : Int} {X : ev_X} (hok : ev_ok1 j pc ((8, a, b, z, w) : ev_O) = true) (hx : ev_x ((8, a, b, z, w) : ev_O) L st σ = some X) : ev_G p l e s m args below meth c D cI cZ cS ad A Q j pc (ev_in ((8, a, b, z, w) : ev_O)).2 L st σ X := by
  obtain ⟨hd, h2⟩ := ev_ok1_d hok (show (8 : Nat) ≠ 53 by decide)
  simp only [ev_x] at hx
  cases hx
  intro kk
  exact sd_ldc2 F hd (ev_cls2_ok _ (of_decide_eq_true h2)) kk
theorem ex_9 (F : ev_F p s m args meth c D cI cZ cS ad A j) (hj : j < 114) {a b : Nat} {z w : Int} {X : ev_X} (hok : ev_ok1 j pc ((9, a, b, z, w) : ev_O) = true) (hx : ev_x ((9, a, b, z, w) : ev_O) L st σ = some X) : ev_G p l e s m args below meth c D cI cZ cS ad A Q j pc (ev_in ((9, a, b, z, w) : ev_O)).2 L st σ X := by
  obtain ⟨hd, h2⟩ := ev_ok1_d hok (show (9 : Nat) ≠ 53 by decide)
  simp only [ev_x] at hx
  split at hx
  · cases hx
    intro kk
    exact sd_lcmp F hd kk
  · cases hx
theorem ex_10 (F : ev_F p s m args meth c D cI cZ cS ad A j) (hj : j < 114) {a b : Nat} {z w : Int} {X : ev_X} (hok : ev_ok1 j pc ((10, a, b, z, w) : ev_O) = true) (hx : ev_x ((10, a, b, z, w) : ev_O) L st σ = some X) : ev_G p l e s m args below meth c D cI cZ cS ad A Q j pc (ev_in ((10, a, b, z, w) : ev_O)).2 L st σ X := by
  obtain ⟨hd, h2⟩ := ev_ok1_d hok (show (10 : Nat) ≠ 53 by decide)
  simp only [ev_x] at hx
  split at hx
  · cases hx
    intro kk
    exact sd_iadd F hd kk
  · cases hx
theorem ex_11 (F : ev_F p s m args meth c D cI cZ cS ad A j) (hj : j < 114) {a b : Nat} {z w : Int} {X : ev_X} (hok : ev_ok1 j pc ((11, a, b, z, w) : ev_O) = true) (hx : ev_x ((11, a, b, z, w) : ev_O) L st σ = some X) : ev_G p l e s m args below meth c D cI cZ cS ad A Q j pc (ev_in ((11, a, b, z, w) : ev_O)).2 L st σ X := by
  obtain ⟨hd, h2⟩ := ev_ok1_d hok (show (11 : Nat) ≠ 53 by decide)
  simp only [ev_x] at hx
  split at hx
  · cases hx
    intro kk
    exact sd_isub F hd kk
  · cases hx
theorem ex_12 (F : ev_F p s m args meth c D cI cZ cS ad A j) (hj : j < 114) {a b : Nat} {z w : Int} {X : ev_X} (hok : ev_ok1 j pc ((12, a, b, z, w) : ev_O) = true) (hx : ev_x ((12, a, b, z, w) : ev_O) L st σ = some X) : ev_G p l e s m args below meth c D cI cZ cS ad A Q j pc (ev_in ((12, a, b, z, w) : ev_O)).2 L st σ X := by
  obtain ⟨hd, h2⟩ := ev_ok1_d hok (show (12 : Nat) ≠ 53 by decide)
  simp only [ev_x] at hx
  split at hx
  · cases hx
    intro kk
    exact sd_imul F hd kk
  · cases hx
theorem ex_15 (F : ev_F p s m args meth c D cI cZ cS ad A j) (hj : j < 114) {a b : Nat} {z w : Int} {X : ev_X} (hok : ev_ok1 j pc ((15, a, b, z, w) : ev_O) = true) (hx : ev_x ((15, a, b, z, w) : ev_O) L st σ = some X) : ev_G p l e s m args below meth c D cI cZ cS ad A Q j pc (ev_in ((15, a, b, z, w) : ev_O)).2 L st σ X := by
  obtain ⟨hd, h2⟩ := ev_ok1_d hok (show (15 : Nat) ≠ 53 by decide)
  simp only [ev_x] at hx
  split at hx
  · cases hx
    intro kk
    exact sd_iand F hd kk
  · cases hx
theorem ex_16 (F : ev_F p s m args meth c D cI cZ cS ad A j) (hj : j < 114) {a b : Nat} {z w : Int} {X : ev_X} (hok : ev_ok1 j pc ((16, a, b, z, w) : ev_O) = true) (hx : ev_x ((16, a, b, z, w) : ev_O) L st σ = some X) : ev_G p l e s m args below meth c D cI cZ cS ad A Q j pc (ev_in ((16, a, b, z, w) : ev_O)).2 L st σ X := by
  obtain ⟨hd, h2⟩ := ev_ok1_d hok (show (16 : Nat) ≠ 53 by decide)
  simp only [ev_x] at hx
  split at hx
  · cases hx
    intro kk
    exact sd_ior F hd kk
  · cases hx
theorem ex_17 (F : ev_F p s m args meth c D cI cZ cS ad A j) (hj : j < 114) {a b : Nat} {z w : Int} {X : ev_X} (hok : ev_ok1 j pc ((17, a, b, z, w) : ev_O) = true) (hx : ev_x ((17, a, b, z, w) : ev_O) L st σ = some X) : ev_G p l e s m args below meth c D cI cZ cS ad A Q j pc (ev_in ((17, a, b, z, w) : ev_O)).2 L st σ X := by
  obtain ⟨hd, h2⟩ := ev_ok1_d hok (show (17 : Nat) ≠ 53 by decide)
  simp only [ev_x] at hx
  split at hx
  · cases hx
    intro kk
    exact sd_ixor F hd kk
  · cases hx
theorem ex_18 (F : ev_F p s m args meth c D cI cZ cS ad A j) (hj : j < 114) {a b : Nat} {z w : Int} {X : ev_X} (hok : ev_ok1 j pc ((18, a, b, z, w) : ev_O) = true) (hx : ev_x ((18, a, b, z, w) : ev_O) L st σ = some X) : ev_G p l e s m args below meth c D cI cZ cS ad A Q j pc (ev_in ((18, a, b, z, w) : ev_O)).2 L st σ X := by
  obtain ⟨hd, h2⟩ := ev_ok1_d hok (show (18 : Nat) ≠ 53 by decide)
  simp only [ev_x] at hx
  split at hx
  · cases hx
    intro kk
    exact sd_ishl F hd kk
  · cases hx
theorem ex_19 (F : ev_F p s m args meth c D cI cZ cS ad A j) (hj : j < 114) {a b : Nat} {z w : Int} {X : ev_X} (hok : ev_ok1 j pc ((19, a, b, z, w) : ev_O) = true) (hx : ev_x ((19, a, b, z, w) : ev_O) L st σ = some X) : ev_G p l e s m args below meth c D cI cZ cS ad A Q j pc (ev_in ((19, a, b, z, w) : ev_O)).2 L st σ X := by
  obtain ⟨hd, h2⟩ := ev_ok1_d hok (show (19 : Nat) ≠ 53 by decide)
  simp only [ev_x] at hx
  split at hx
  · cases hx
    intro kk
    exact sd_ishr F hd kk
  · cases hx
theorem ex_20 (F : ev_F p s m args meth c D cI cZ cS ad A j) (hj : j < 114) {a b : Nat} {z w : Int} {X : ev_X} (hok : ev_ok1 j pc ((20, a, b, z, w) : ev_O) = true) (hx : ev_x ((20, a, b, z, w) : ev_O) L st σ = some X) : ev_G p l e s m args below meth c D cI cZ cS ad A Q j pc (ev_in ((20, a, b, z, w) : ev_O)).2 L st σ X := by
  obtain ⟨hd, h2⟩ := ev_ok1_d hok (show (20 : Nat) ≠ 53 by decide)
  simp only [ev_x] at hx
  split at hx
  · cases hx
    intro kk
    exact sd_ladd F hd kk
  · cases hx
theorem ex_21 (F : ev_F p s m args meth c D cI cZ cS ad A j) (hj : j < 114) {a b : Nat} {z w : Int} {X : ev_X} (hok : ev_ok1 j pc ((21, a, b, z, w) : ev_O) = true) (hx : ev_x ((21, a, b, z, w) : ev_O) L st σ = some X) : ev_G p l e s m args below meth c D cI cZ cS ad A Q j pc (ev_in ((21, a, b, z, w) : ev_O)).2 L st σ X := by
  obtain ⟨hd, h2⟩ := ev_ok1_d hok (show (21 : Nat) ≠ 53 by decide)
  simp only [ev_x] at hx
  split at hx
  · cases hx
    intro kk
    exact sd_lmul F hd kk
  · cases hx
theorem ex_22 (F : ev_F p s m args meth c D cI cZ cS ad A j) (hj : j < 114) {a b : Nat} {z w : Int} {X : ev_X} (hok : ev_ok1 j pc ((22, a, b, z, w) : ev_O) = true) (hx : ev_x ((22, a, b, z, w) : ev_O) L st σ = some X) : ev_G p l e s m args below meth c D cI cZ cS ad A Q j pc (ev_in ((22, a, b, z, w) : ev_O)).2 L st σ X := by
  obtain ⟨hd, h2⟩ := ev_ok1_d hok (show (22 : Nat) ≠ 53 by decide)
  simp only [ev_x] at hx
  split at hx
  · cases hx
    intro kk
    exact sd_i2l F hd kk
  · cases hx
theorem ex_25 (F : ev_F p s m args meth c D cI cZ cS ad A j) (hj : j < 114) {a b : Nat} {z w : Int} {X : ev_X} (hok : ev_ok1 j pc ((25, a, b, z, w) : ev_O) = true) (hx : ev_x ((25, a, b, z, w) : ev_O) L st σ = some X) : ev_G p l e s m args below meth c D cI cZ cS ad A Q j pc (ev_in ((25, a, b, z, w) : ev_O)).2 L st σ X := by
  obtain ⟨hd, h2⟩ := ev_ok1_d hok (show (25 : Nat) ≠ 53 by decide)
  simp only [ev_x] at hx
  split at hx
  · cases hx
    intro kk
    exact sd_dup2 F hd kk
  · cases hx
theorem ex_26 (F : ev_F p s m args meth c D cI cZ cS ad A j) (hj : j < 114) {a b : Nat} {z w : Int} {X : ev_X} (hok : ev_ok1 j pc ((26, a, b, z, w) : ev_O) = true) (hx : ev_x ((26, a, b, z, w) : ev_O) L st σ = some X) : ev_G p l e s m args below meth c D cI cZ cS ad A Q j pc (ev_in ((26, a, b, z, w) : ev_O)).2 L st σ X := by
  obtain ⟨hd, h2⟩ := ev_ok1_d hok (show (26 : Nat) ≠ 53 by decide)
  simp only [ev_x] at hx
  split at hx
  · cases hx
    intro kk
    exact sd_pop F hd kk
  · cases hx
theorem ex_13 (F : ev_F p s m args meth c D cI cZ cS ad A j) (hj : j < 114) {a b : Nat} {z w : Int} {X : ev_X} (hok : ev_ok1 j pc ((13, a, b, z, w) : ev_O) = true) (hx : ev_x ((13, a, b, z, w) : ev_O) L st σ = some X) : ev_G p l e s m args below meth c D cI cZ cS ad A Q j pc (ev_in ((13, a, b, z, w) : ev_O)).2 L st σ X := by
  obtain ⟨hd, h2⟩ := ev_ok1_d hok (show (13 : Nat) ≠ 53 by decide)
  simp only [ev_x] at hx
  split at hx
  · split at hx
    · cases hx
    · next hne =>
      cases hx
      intro kk
      exact sd_idiv F hd hne kk
  · cases hx
theorem ex_14 (F : ev_F p s m args meth c D cI cZ cS ad A j) (hj : j < 114) {a b : Nat} {z w : Int} {X : ev_X} (hok : ev_ok1 j pc ((14, a, b, z, w) : ev_O) = true) (hx : ev_x ((14, a, b, z, w) : ev_O) L st σ = some X) : ev_G p l e s m args below meth c D cI cZ cS ad A Q j pc (ev_in ((14, a, b, z, w) : ev_O)).2 L st σ X := by
  obtain ⟨hd, h2⟩ := ev_ok1_d hok (show (14 : Nat) ≠ 53 by decide)
  simp only [ev_x] at hx
  split at hx
  · split at hx
    · cases hx
    · next hne =>
      cases hx
      intro kk
      exact sd_irem F hd hne kk
  · cases hx
theorem ex_23 (F : ev_F p s m args meth c D cI cZ cS ad A j) (hj : j < 114) {a b : Nat} {z w : Int} {X : ev_X} (hok : ev_ok1 j pc ((23, a, b, z, w) : ev_O) = true) (hx : ev_x ((23, a, b, z, w) : ev_O) L st σ = some X) : ev_G p l e s m args below meth c D cI cZ cS ad A Q j pc (ev_in ((23, a, b, z, w) : ev_O)).2 L st σ X := by
  obtain ⟨hd, h2⟩ := ev_ok1_d hok (show (23 : Nat) ≠ 53 by decide)
  simp only [ev_x] at hx
  split at hx
  · next x hg =>
    split at hx
    · next hc =>
      cases hx
      intro kk
      exact sd_iinc F hd hg hc.1 hc.2 kk
    · cases hx
  · cases hx
theorem ex_24 (F : ev_F p s m args meth c D cI cZ cS ad A j) (hj : j < 114) {a b : Nat} {z w : Int} {X : ev_X} (hok : ev_ok1 j pc ((24, a, b, z, w) : ev_O) = true) (hx : ev_x ((24, a, b, z, w) : ev_O) L st σ = some X) : ev_G p l e s m args below meth c D cI cZ cS ad A Q j pc (ev_in ((24, a, b, z, w) : ev_O)).2 L st σ X := by
  obtain ⟨hd, h2⟩ := ev_ok1_d hok (show (24 : Nat) ≠ 53 by decide)
  simp only [ev_x] at hx
  split at hx
  · cases hx
    intro kk
    exact sd_dupi F hd kk
  · cases hx
    intro kk
    exact sd_dupr F hd kk
  · cases hx
theorem ex_27 (F : ev_F p s m args meth c D cI cZ cS ad A j) (hj : j < 114) {a b : Nat} {z w : Int} {X : ev_X} (hok : ev_ok1 j pc ((27, a, b, z, w) : ev_O) = true) (hx : ev_x ((27, a, b, z, w) : ev_O) L st σ = some X) : ev_G p l e s m args below meth c D cI cZ cS ad A Q j pc (ev_in ((27, a, b, z, w) : ev_O)).2 L st σ X := by
  obtain ⟨hd, h2⟩ := ev_ok1_d hok (show (27 : Nat) ≠ 53 by decide)
  simp only [ev_x] at hx
  split at hx
  · next i st' =>
    split at hx
    · next hi =>
      cases hx
      intro kk
      have h3 := (Bool.and_eq_true _ _).mp h2
      have h4 := of_decide_eq_true h3.1
      have hz : ((z.toNat : Nat) : Int) = z := by omega
      have h5 := of_decide_eq_true ((Bool.and_eq_true _ _).mp h3.2).1
      refine sd_get F hd h4.1 h3.2 hi ?_ kk
      unfold ev_fv
      rcases hk : ev_kd b z.toNat with ⟨k1, k2⟩
      rw [hk] at h5
      obtain ⟨-, -, h6, h7, -⟩ := h5
      dsimp only at h6 h7
      subst h6
      skip
      rw [hz]
      rfl
    · cases hx
  · cases hx
theorem ex_28 (F : ev_F p s m args meth c D cI cZ cS ad A j) (hj : j < 114) {a b : Nat} {z w : Int} {X : ev_X} (hok : ev_ok1 j pc ((28, a, b, z, w) : ev_O) = true) (hx : ev_x ((28, a, b, z, w) : ev_O) L st σ = some X) : ev_G p l e s m args below meth c D cI cZ cS ad A Q j pc (ev_in ((28, a, b, z, w) : ev_O)).2 L st σ X := by
  obtain ⟨hd, h2⟩ := ev_ok1_d hok (show (28 : Nat) ≠ 53 by decide)
  simp only [ev_x] at hx
  split at hx
  · next i st' =>
    split at hx
    · next hi =>
      cases hx
      intro kk
      have h3 := (Bool.and_eq_true _ _).mp h2
      have h4 := of_decide_eq_true h3.1
      have hz : ((z.toNat : Nat) : Int) = z := by omega
      have h5 := of_decide_eq_true ((Bool.and_eq_true _ _).mp h3.2).1
      refine sd_get F hd h4.1 h3.2 hi ?_ kk
      unfold ev_fv
      rcases hk : ev_kd b z.toNat with ⟨k1, k2⟩
      rw [hk] at h5
      obtain ⟨-, -, h6, h7, -⟩ := h5
      dsimp only at h6 h7
      subst h6
      have h8 := h7 rfl
      subst h8
      rfl
    · cases hx
  · cases hx
theorem ex_29 (F : ev_F p s m args meth c D cI cZ cS ad A j) (hj : j < 114) {a b : Nat} {z w : Int} {X : ev_X} (hok : ev_ok1 j pc ((29, a, b, z, w) : ev_O) = true) (hx : ev_x ((29, a, b, z, w) : ev_O) L st σ = some X) : ev_G p l e s m args below meth c D cI cZ cS ad A Q j pc (ev_in ((29, a, b, z, w) : ev_O)).2 L st σ X := by
  obtain ⟨hd, h2⟩ := ev_ok1_d hok (show (29 : Nat) ≠ 53 by decide)
  simp only [ev_x] at hx
  split at hx
  · next i st' =>
    split at hx
    · next hi =>
      cases hx
      intro kk
      have h3 := (Bool.and_eq_true _ _).mp h2
      have h4 := of_decide_eq_true h3.1
      have hz : ((z.toNat : Nat) : Int) = z := by omega
      have h5 := of_decide_eq_true ((Bool.and_eq_true _ _).mp h3.2).1
      refine sd_get F hd h4.1 h3.2 hi ?_ kk
      unfold ev_fv
      rcases hk : ev_kd b z.toNat with ⟨k1, k2⟩
      rw [hk] at h5
      obtain ⟨-, -, h6, h7, -⟩ := h5
      dsimp only at h6 h7
      subst h6
      skip
      rw [hz]
      rfl
    · cases hx
  · cases hx
theorem ex_30 (F : ev_F p s m args meth c D cI cZ cS ad A j) (hj : j < 114) {a b : Nat} {z w : Int} {X : ev_X} (hok : ev_ok1 j pc ((30, a, b, z, w) : ev_O) = true) (hx : ev_x ((30, a, b, z, w) : ev_O) L st σ = some X) : ev_G p l e s m args below meth c D cI cZ cS ad A Q j pc (ev_in ((30, a, b, z, w) : ev_O)).2 L st σ X := by
  obtain ⟨hd, h2⟩ := ev_ok1_d hok (show (30 : Nat) ≠ 53 by decide)
  simp only [ev_x] at hx
  split at hx
  · next v i st' =>
    split at hx
    · next hi =>
      cases hx
      intro kk
      have h3 := (Bool.and_eq_true _ _).mp h2
      have h4 := of_decide_eq_true h3.1
      have hz : ((z.toNat : Nat) : Int) = z := by omega
      have h5 := of_decide_eq_true ((Bool.and_eq_true _ _).mp h3.2).1
      refine sd_put (x := v) F hd h4.1 h3.2 (by decide) hi ?_ rfl rfl (by rw [hz]; exact kk)
      unfold ev_fv
      rcases hk : ev_kd b z.toNat with ⟨k1, k2⟩
      rw [hk] at h5
      obtain ⟨-, -, h6, h7, -⟩ := h5
      dsimp only at h6 h7
      subst h6
      simp [ev_up, ev_rv]
    · cases hx
  · cases hx
theorem ex_31 (F : ev_F p s m args meth c D cI cZ cS ad A j) (hj : j < 114) {a b : Nat} {z w : Int} {X : ev_X} (hok : ev_ok1 j pc ((31, a, b, z, w) : ev_O) = true) (hx : ev_x ((31, a, b, z, w) : ev_O) L st σ = some X) : ev_G p l e s m args below meth c D cI cZ cS ad A Q j pc (ev_in ((31, a, b, z, w) : ev_O)).2 L st σ X := by
  obtain ⟨hd, h2⟩ := ev_ok1_d hok (show (31 : Nat) ≠ 53 by decide)
  simp only [ev_x] at hx
  split at hx
  · next v i st' =>
    split at hx
    · next hi =>
      cases hx
      intro kk
      have h3 := (Bool.and_eq_true _ _).mp h2
      have h4 := of_decide_eq_true h3.1
      have hz : ((z.toNat : Nat) : Int) = z := by omega
      have h5 := of_decide_eq_true ((Bool.and_eq_true _ _).mp h3.2).1
      refine sd_put (x := v.toInt) F hd h4.1 h3.2 (by decide) hi ?_ rfl rfl (by rw [hz]; exact kk)
      unfold ev_fv
      rcases hk : ev_kd b z.toNat with ⟨k1, k2⟩
      rw [hk] at h5
      obtain ⟨-, -, h6, h7, -⟩ := h5
      dsimp only at h6 h7
      subst h6
      simp [ev_up, ev_rv]
    · cases hx
  · cases hx
theorem ex_32 (F : ev_F p s m args meth c D cI cZ cS ad A j) (hj : j < 114) {a b : Nat} {z w : Int} {X : ev_X} (hok : ev_ok1 j pc ((32, a, b, z, w) : ev_O) = true) (hx : ev_x ((32, a, b, z, w) : ev_O) L st σ = some X) : ev_G p l e s m args below meth c D cI cZ cS ad A Q j pc (ev_in ((32, a, b, z, w) : ev_O)).2 L st σ X := by
  obtain ⟨hd, h2⟩ := ev_ok1_d hok (show (32 : Nat) ≠ 53 by decide)
  simp only [ev_x] at hx
  split at hx
  · split at hx
    · next hc =>
      cases hx
      intro kk
      exact sd_iald F hd hc.1 hc.2.1 hc.2.2 kk
    · cases hx
  · cases hx
theorem ex_33 (F : ev_F p s m args meth c D cI cZ cS ad A j) (hj : j < 114) {a b : Nat} {z w : Int} {X : ev_X} (hok : ev_ok1 j pc ((33, a, b, z, w) : ev_O) = true) (hx : ev_x ((33, a, b, z, w) : ev_O) L st σ = some X) : ev_G p l e s m args below meth c D cI cZ cS ad A Q j pc (ev_in ((33, a, b, z, w) : ev_O)).2 L st σ X := by
  obtain ⟨hd, h2⟩ := ev_ok1_d hok (show (33 : Nat) ≠ 53 by decide)
  simp only [ev_x] at hx
  split at hx
  · split at hx
    · next hc =>
      cases hx
      intro kk
      exact sd_iast F hd hc.1 hc.2.1 hc.2.2 kk
    · cases hx
  · cases hx
theorem ex_34 (F : ev_F p s m args meth c D cI cZ cS ad A j) (hj : j < 114) {a b : Nat} {z w : Int} {X : ev_X} (hok : ev_ok1 j pc ((34, a, b, z, w) : ev_O) = true) (hx : ev_x ((34, a, b, z, w) : ev_O) L st σ = some X) : ev_G p l e s m args below meth c D cI cZ cS ad A Q j pc (ev_in ((34, a, b, z, w) : ev_O)).2 L st σ X := by
  obtain ⟨hd, h2⟩ := ev_ok1_d hok (show (34 : Nat) ≠ 53 by decide)
  simp only [ev_x] at hx
  split at hx
  · split at hx
    · next hc =>
      cases hx
      intro kk
      exact sd_zald F hd hc.1 hc.2.1 hc.2.2 kk
    · cases hx
  · cases hx
theorem ex_36 (F : ev_F p s m args meth c D cI cZ cS ad A j) (hj : j < 114) {a b : Nat} {z w : Int} {X : ev_X} (hok : ev_ok1 j pc ((36, a, b, z, w) : ev_O) = true) (hx : ev_x ((36, a, b, z, w) : ev_O) L st σ = some X) : ev_G p l e s m args below meth c D cI cZ cS ad A Q j pc (ev_in ((36, a, b, z, w) : ev_O)).2 L st σ X := by
  obtain ⟨hd, h2⟩ := ev_ok1_d hok (show (36 : Nat) ≠ 53 by decide)
  simp only [ev_x] at hx
  split at hx
  · split at hx
    · next hc =>
      cases hx
      intro kk
      exact sd_aald F hd hc.1 hc.2.1 hc.2.2 kk
    · cases hx
  · cases hx
theorem ex_35 (F : ev_F p s m args meth c D cI cZ cS ad A j) (hj : j < 114) {a b : Nat} {z w : Int} {X : ev_X} (hok : ev_ok1 j pc ((35, a, b, z, w) : ev_O) = true) (hx : ev_x ((35, a, b, z, w) : ev_O) L st σ = some X) : ev_G p l e s m args below meth c D cI cZ cS ad A Q j pc (ev_in ((35, a, b, z, w) : ev_O)).2 L st σ X := by
  obtain ⟨hd, h2⟩ := ev_ok1_d hok (show (35 : Nat) ≠ 53 by decide)
  simp only [ev_x] at hx
  split at hx
  · split at hx
    · next hc =>
      cases hx
      intro kk
      exact sd_zast F hd hc.1 hc.2.1 hc.2.2.1 hc.2.2.2 kk
    · cases hx
  · cases hx
theorem ex_37 (F : ev_F p s m args meth c D cI cZ cS ad A j) (hj : j < 114) {a b : Nat} {z w : Int} {X : ev_X} (hok : ev_ok1 j pc ((37, a, b, z, w) : ev_O) = true) (hx : ev_x ((37, a, b, z, w) : ev_O) L st σ = some X) : ev_G p l e s m args below meth c D cI cZ cS ad A Q j pc (ev_in ((37, a, b, z, w) : ev_O)).2 L st σ X := by
  obtain ⟨hd, h2⟩ := ev_ok1_d hok (show (37 : Nat) ≠ 53 by decide)
  simp only [ev_x] at hx
  split at hx
  · split at hx
    · next hc =>
      cases hx
      intro kk
      exact sd_aast F hd hc.1 hc.2.1 hc.2.2.1 hc.2.2.2 kk
    · cases hx
  · cases hx
theorem ex_61 (F : ev_F p s m args meth c D cI cZ cS ad A j) (hj : j < 114) {a b : Nat} {z w : Int} {X : ev_X} (hok : ev_ok1 j pc ((61, a, b, z, w) : ev_O) = true) (hx : ev_x ((61, a, b, z, w) : ev_O) L st σ = some X) : ev_G p l e s m args below meth c D cI cZ cS ad A Q j pc (ev_in ((61, a, b, z, w) : ev_O)).2 L st σ X := by
  obtain ⟨hd, h2⟩ := ev_ok1_d hok (show (61 : Nat) ≠ 53 by decide)
  simp only [ev_x] at hx
  split at hx
  · split at hx
    · next hc =>
      cases hx
      intro kk
      have h3 := of_decide_eq_true h2
      exact sd_copy F hd h3.1 h3.2 hc.2.2.2.2.2.2.2 hc.1 hc.2.1 hc.2.2.1 hc.2.2.2.1 hc.2.2.2.2.1 hc.2.2.2.2.2.1 hc.2.2.2.2.2.2.1 kk
    · cases hx
  · cases hx
theorem ex_62 (F : ev_F p s m args meth c D cI cZ cS ad A j) (hj : j < 114) {a b : Nat} {z w : Int} {X : ev_X} (hok : ev_ok1 j pc ((62, a, b, z, w) : ev_O) = true) (hx : ev_x ((62, a, b, z, w) : ev_O) L st σ = some X) : ev_G p l e s m args below meth c D cI cZ cS ad A Q j pc (ev_in ((62, a, b, z, w) : ev_O)).2 L st σ X := by
  obtain ⟨hd, h2⟩ := ev_ok1_d hok (show (62 : Nat) ≠ 53 by decide)
  simp only [ev_x] at hx
  split at hx
  · split at hx
    · next hc =>
      cases hx
      intro kk
      have h3 := of_decide_eq_true h2
      exact sd_max F hd h3.1 h3.2 hc kk
    · cases hx
  · cases hx
theorem ex_63 (F : ev_F p s m args meth c D cI cZ cS ad A j) (hj : j < 114) {a b : Nat} {z w : Int} {X : ev_X} (hok : ev_ok1 j pc ((63, a, b, z, w) : ev_O) = true) (hx : ev_x ((63, a, b, z, w) : ev_O) L st σ = some X) : ev_G p l e s m args below meth c D cI cZ cS ad A Q j pc (ev_in ((63, a, b, z, w) : ev_O)).2 L st σ X := by
  obtain ⟨hd, h2⟩ := ev_ok1_d hok (show (63 : Nat) ≠ 53 by decide)
  simp only [ev_x] at hx
  split at hx
  · split at hx
    · next hc =>
      cases hx
      intro kk
      have h3 := of_decide_eq_true h2
      exact sd_min F hd h3.1 h3.2 hc kk
    · cases hx
  · cases hx
theorem ex_40 (F : ev_F p s m args meth c D cI cZ cS ad A j) (hj : j < 114) {a b : Nat} {z w : Int} {X : ev_X} (hok : ev_ok1 j pc ((40, a, b, z, w) : ev_O) = true) (hx : ev_x ((40, a, b, z, w) : ev_O) L st σ = some X) : ev_G p l e s m args below meth c D cI cZ cS ad A Q j pc (ev_in ((40, a, b, z, w) : ev_O)).2 L st σ X := by
  obtain ⟨hd, h2⟩ := ev_ok1_d hok (show (40 : Nat) ≠ 53 by decide)
  simp only [ev_x] at hx
  split at hx
  · have h3 := of_decide_eq_true h2
    cases hx
    split
    · next hc =>
      intro kk
      exact sd_icmp_eq F hd h3 (by rw [if_pos hc]; exact kk)
    · next hc =>
      intro kk
      exact sd_icmp_eq F hd h3 (by rw [if_neg hc]; exact kk)
  · cases hx
theorem ex_46 (F : ev_F p s m args meth c D cI cZ cS ad A j) (hj : j < 114) {a b : Nat} {z w : Int} {X : ev_X} (hok : ev_ok1 j pc ((46, a, b, z, w) : ev_O) = true) (hx : ev_x ((46, a, b, z, w) : ev_O) L st σ = some X) : ev_G p l e s m args below meth c D cI cZ cS ad A Q j pc (ev_in ((46, a, b, z, w) : ev_O)).2 L st σ X := by
  obtain ⟨hd, h2⟩ := ev_ok1_d hok (show (46 : Nat) ≠ 53 by decide)
  simp only [ev_x] at hx
  split at hx
  · have h3 := of_decide_eq_true h2
    cases hx
    split
    · next hc =>
      intro kk
      exact sd_if_eq F hd h3 (by rw [if_pos hc]; exact kk)
    · next hc =>
      intro kk
      exact sd_if_eq F hd h3 (by rw [if_neg hc]; exact kk)
  · cases hx
theorem ex_41 (F : ev_F p s m args meth c D cI cZ cS ad A j) (hj : j < 114) {a b : Nat} {z w : Int} {X : ev_X} (hok : ev_ok1 j pc ((41, a, b, z, w) : ev_O) = true) (hx : ev_x ((41, a, b, z, w) : ev_O) L st σ = some X) : ev_G p l e s m args below meth c D cI cZ cS ad A Q j pc (ev_in ((41, a, b, z, w) : ev_O)).2 L st σ X := by
  obtain ⟨hd, h2⟩ := ev_ok1_d hok (show (41 : Nat) ≠ 53 by decide)
  simp only [ev_x] at hx
  split at hx
  · have h3 := of_decide_eq_true h2
    cases hx
    split
    · next hc =>
      intro kk
      exact sd_icmp_ne F hd h3 (by rw [if_pos hc]; exact kk)
    · next hc =>
      intro kk
      exact sd_icmp_ne F hd h3 (by rw [if_neg hc]; exact kk)
  · cases hx
theorem ex_47 (F : ev_F p s m args meth c D cI cZ cS ad A j) (hj : j < 114) {a b : Nat} {z w : Int} {X : ev_X} (hok : ev_ok1 j pc ((47, a, b, z, w) : ev_O) = true) (hx : ev_x ((47, a, b, z, w) : ev_O) L st σ = some X) : ev_G p l e s m args below meth c D cI cZ cS ad A Q j pc (ev_in ((47, a, b, z, w) : ev_O)).2 L st σ X := by
  obtain ⟨hd, h2⟩ := ev_ok1_d hok (show (47 : Nat) ≠ 53 by decide)
  simp only [ev_x] at hx
  split at hx
  · have h3 := of_decide_eq_true h2
    cases hx
    split
    · next hc =>
      intro kk
      exact sd_if_ne F hd h3 (by rw [if_pos hc]; exact kk)
    · next hc =>
      intro kk
      exact sd_if_ne F hd h3 (by rw [if_neg hc]; exact kk)
  · cases hx
theorem ex_42 (F : ev_F p s m args meth c D cI cZ cS ad A j) (hj : j < 114) {a b : Nat} {z w : Int} {X : ev_X} (hok : ev_ok1 j pc ((42, a, b, z, w) : ev_O) = true) (hx : ev_x ((42, a, b, z, w) : ev_O) L st σ = some X) : ev_G p l e s m args below meth c D cI cZ cS ad A Q j pc (ev_in ((42, a, b, z, w) : ev_O)).2 L st σ X := by
  obtain ⟨hd, h2⟩ := ev_ok1_d hok (show (42 : Nat) ≠ 53 by decide)
  simp only [ev_x] at hx
  split at hx
  · have h3 := of_decide_eq_true h2
    cases hx
    split
    · next hc =>
      intro kk
      exact sd_icmp_lt F hd h3 (by rw [if_pos hc]; exact kk)
    · next hc =>
      intro kk
      exact sd_icmp_lt F hd h3 (by rw [if_neg hc]; exact kk)
  · cases hx
theorem ex_48 (F : ev_F p s m args meth c D cI cZ cS ad A j) (hj : j < 114) {a b : Nat} {z w : Int} {X : ev_X} (hok : ev_ok1 j pc ((48, a, b, z, w) : ev_O) = true) (hx : ev_x ((48, a, b, z, w) : ev_O) L st σ = some X) : ev_G p l e s m args below meth c D cI cZ cS ad A Q j pc (ev_in ((48, a, b, z, w) : ev_O)).2 L st σ X := by
  obtain ⟨hd, h2⟩ := ev_ok1_d hok (show (48 : Nat) ≠ 53 by decide)
  simp only [ev_x] at hx
  split at hx
  · have h3 := of_decide_eq_true h2
    cases hx
    split
    · next hc =>
      intro kk
      exact sd_if_lt F hd h3 (by rw [if_pos hc]; exact kk)
    · next hc =>
      intro kk
      exact sd_if_lt F hd h3 (by rw [if_neg hc]; exact kk)
  · cases hx
theorem ex_43 (F : ev_F p s m args meth c D cI cZ cS ad A j) (hj : j < 114) {a b : Nat} {z w : Int} {X : ev_X} (hok : ev_ok1 j pc ((43, a, b, z, w) : ev_O) = true) (hx : ev_x ((43, a, b, z, w) : ev_O) L st σ = some X) : ev_G p l e s m args below meth c D cI cZ cS ad A Q j pc (ev_in ((43, a, b, z, w) : ev_O)).2 L st σ X := by
  obtain ⟨hd, h2⟩ := ev_ok1_d hok (show (43 : Nat) ≠ 53 by decide)
  simp only [ev_x] at hx
  split at hx
  · have h3 := of_decide_eq_true h2
    cases hx
    split
    · next hc =>
      intro kk
      exact sd_icmp_ge F hd h3 (by rw [if_pos hc]; exact kk)
    · next hc =>
      intro kk
      exact sd_icmp_ge F hd h3 (by rw [if_neg hc]; exact kk)
  · cases hx
theorem ex_49 (F : ev_F p s m args meth c D cI cZ cS ad A j) (hj : j < 114) {a b : Nat} {z w : Int} {X : ev_X} (hok : ev_ok1 j pc ((49, a, b, z, w) : ev_O) = true) (hx : ev_x ((49, a, b, z, w) : ev_O) L st σ = some X) : ev_G p l e s m args below meth c D cI cZ cS ad A Q j pc (ev_in ((49, a, b, z, w) : ev_O)).2 L st σ X := by
  obtain ⟨hd, h2⟩ := ev_ok1_d hok (show (49 : Nat) ≠ 53 by decide)
  simp only [ev_x] at hx
  split at hx
  · have h3 := of_decide_eq_true h2
    cases hx
    split
    · next hc =>
      intro kk
      exact sd_if_ge F hd h3 (by rw [if_pos hc]; exact kk)
    · next hc =>
      intro kk
      exact sd_if_ge F hd h3 (by rw [if_neg hc]; exact kk)
  · cases hx
theorem ex_44 (F : ev_F p s m args meth c D cI cZ cS ad A j) (hj : j < 114) {a b : Nat} {z w : Int} {X : ev_X} (hok : ev_ok1 j pc ((44, a, b, z, w) : ev_O) = true) (hx : ev_x ((44, a, b, z, w) : ev_O) L st σ = some X) : ev_G p l e s m args below meth c D cI cZ cS ad A Q j pc (ev_in ((44, a, b, z, w) : ev_O)).2 L st σ X := by
  obtain ⟨hd, h2⟩ := ev_ok1_d hok (show (44 : Nat) ≠ 53 by decide)
  simp only [ev_x] at hx
  split at hx
  · have h3 := of_decide_eq_true h2
    cases hx
    split
    · next hc =>
      intro kk
      exact sd_icmp_gt F hd h3 (by rw [if_pos hc]; exact kk)
    · next hc =>
      intro kk
      exact sd_icmp_gt F hd h3 (by rw [if_neg hc]; exact kk)
  · cases hx
theorem ex_50 (F : ev_F p s m args meth c D cI cZ cS ad A j) (hj : j < 114) {a b : Nat} {z w : Int} {X : ev_X} (hok : ev_ok1 j pc ((50, a, b, z, w) : ev_O) = true) (hx : ev_x ((50, a, b, z, w) : ev_O) L st σ = some X) : ev_G p l e s m args below meth c D cI cZ cS ad A Q j pc (ev_in ((50, a, b, z, w) : ev_O)).2 L st σ X := by
  obtain ⟨hd, h2⟩ := ev_ok1_d hok (show (50 : Nat) ≠ 53 by decide)
  simp only [ev_x] at hx
  split at hx
  · have h3 := of_decide_eq_true h2
    cases hx
    split
    · next hc =>
      intro kk
      exact sd_if_gt F hd h3 (by rw [if_pos hc]; exact kk)
    · next hc =>
      intro kk
      exact sd_if_gt F hd h3 (by rw [if_neg hc]; exact kk)
  · cases hx
theorem ex_45 (F : ev_F p s m args meth c D cI cZ cS ad A j) (hj : j < 114) {a b : Nat} {z w : Int} {X : ev_X} (hok : ev_ok1 j pc ((45, a, b, z, w) : ev_O) = true) (hx : ev_x ((45, a, b, z, w) : ev_O) L st σ = some X) : ev_G p l e s m args below meth c D cI cZ cS ad A Q j pc (ev_in ((45, a, b, z, w) : ev_O)).2 L st σ X := by
  obtain ⟨hd, h2⟩ := ev_ok1_d hok (show (45 : Nat) ≠ 53 by decide)
  simp only [ev_x] at hx
  split at hx
  · have h3 := of_decide_eq_true h2
    cases hx
    split
    · next hc =>
      intro kk
      exact sd_icmp_le F hd h3 (by rw [if_pos hc]; exact kk)
    · next hc =>
      intro kk
      exact sd_icmp_le F hd h3 (by rw [if_neg hc]; exact kk)
  · cases hx
theorem ex_51 (F : ev_F p s m args meth c D cI cZ cS ad A j) (hj : j < 114) {a b : Nat} {z w : Int} {X : ev_X} (hok : ev_ok1 j pc ((51, a, b, z, w) : ev_O) = true) (hx : ev_x ((51, a, b, z, w) : ev_O) L st σ = some X) : ev_G p l e s m args below meth c D cI cZ cS ad A Q j pc (ev_in ((51, a, b, z, w) : ev_O)).2 L st σ X := by
  obtain ⟨hd, h2⟩ := ev_ok1_d hok (show (51 : Nat) ≠ 53 by decide)
  simp only [ev_x] at hx
  split at hx
  · have h3 := of_decide_eq_true h2
    cases hx
    split
    · next hc =>
      intro kk
      exact sd_if_le F hd h3 (by rw [if_pos hc]; exact kk)
    · next hc =>
      intro kk
      exact sd_if_le F hd h3 (by rw [if_neg hc]; exact kk)
  · cases hx
theorem ex_52 (F : ev_F p s m args meth c D cI cZ cS ad A j) (hj : j < 114) {a b : Nat} {z w : Int} {X : ev_X} (hok : ev_ok1 j pc ((52, a, b, z, w) : ev_O) = true) (hx : ev_x ((52, a, b, z, w) : ev_O) L st σ = some X) : ev_G p l e s m args below meth c D cI cZ cS ad A Q j pc (ev_in ((52, a, b, z, w) : ev_O)).2 L st σ X := by
  obtain ⟨hd, h2⟩ := ev_ok1_d hok (show (52 : Nat) ≠ 53 by decide)
  simp only [ev_x] at hx
  cases hx
  intro kk
  exact sd_goto F hd (of_decide_eq_true h2) kk
theorem ex_54 (F : ev_F p s m args meth c D cI cZ cS ad A j) (hj : j < 114) {a b : Nat} {z w : Int} {X : ev_X} (hok : ev_ok1 j pc ((54, a, b, z, w) : ev_O) = true) (hx : ev_x ((54, a, b, z, w) : ev_O) L st σ = some X) : ev_G p l e s m args below meth c D cI cZ cS ad A Q j pc (ev_in ((54, a, b, z, w) : ev_O)).2 L st σ X := by
  obtain ⟨hd, h2⟩ := ev_ok1_d hok (show (54 : Nat) ≠ 53 by decide)
  simp only [ev_x] at hx
  split at hx
  · cases hx
    intro kk
    exact sd_switch F hd h2 kk
  · cases hx
theorem ex_55 (F : ev_F p s m args meth c D cI cZ cS ad A j) (hj : j < 114) {a b : Nat} {z w : Int} {X : ev_X} (hok : ev_ok1 j pc ((55, a, b, z, w) : ev_O) = true) (hx : ev_x ((55, a, b, z, w) : ev_O) L st σ = some X) : ev_G p l e s m args below meth c D cI cZ cS ad A Q j pc (ev_in ((55, a, b, z, w) : ev_O)).2 L st σ X := by
  obtain ⟨hd, h2⟩ := ev_ok1_d hok (show (55 : Nat) ≠ 53 by decide)
  simp only [ev_x] at hx
  split at hx
  · cases hx
    intro kk
    exact sd_lookup F hd h2 kk
  · cases hx
theorem ex_56 (F : ev_F p s m args meth c D cI cZ cS ad A j) (hj : j < 114) {a b : Nat} {z w : Int} {X : ev_X} (hok : ev_ok1 j pc ((56, a, b, z, w) : ev_O) = true) (hx : ev_x ((56, a, b, z, w) : ev_O) L st σ = some X) : ev_G p l e s m args below meth c D cI cZ cS ad A Q j pc (ev_in ((56, a, b, z, w) : ev_O)).2 L st σ X := by
  obtain ⟨hd, h2⟩ := ev_ok1_d hok (show (56 : Nat) ≠ 53 by decide)
  simp only [ev_x] at hx
  split at hx
  · split at hx
    · next hc =>
      cases hx
      intro kk hc0
      subst kk
      have h3 := of_decide_eq_true h2
      refine sd_iret F hc0 hd ?_
      by_cases ha : a = 0
      · exact Or.inl (h3.1 ha)
      · exact Or.inr ⟨h3.2 ha, hc.resolve_left ha⟩
    · cases hx
  · cases hx
theorem ex_57 (F : ev_F p s m args meth c D cI cZ cS ad A j) (hj : j < 114) {a b : Nat} {z w : Int} {X : ev_X} (hok : ev_ok1 j pc ((57, a, b, z, w) : ev_O) = true) (hx : ev_x ((57, a, b, z, w) : ev_O) L st σ = some X) : ev_G p l e s m args below meth c D cI cZ cS ad A Q j pc (ev_in ((57, a, b, z, w) : ev_O)).2 L st σ X := by
  obtain ⟨hd, h2⟩ := ev_ok1_d hok (show (57 : Nat) ≠ 53 by decide)
  simp only [ev_x] at hx
  split at hx
  · cases hx
    intro kk hc0
    subst kk
    exact sd_lret F hc0 hd (of_decide_eq_true h2)
  · cases hx
theorem ex_58 (F : ev_F p s m args meth c D cI cZ cS ad A j) (hj : j < 114) {a b : Nat} {z w : Int} {X : ev_X} (hok : ev_ok1 j pc ((58, a, b, z, w) : ev_O) = true) (hx : ev_x ((58, a, b, z, w) : ev_O) L st σ = some X) : ev_G p l e s m args below meth c D cI cZ cS ad A Q j pc (ev_in ((58, a, b, z, w) : ev_O)).2 L st σ X := by
  obtain ⟨hd, h2⟩ := ev_ok1_d hok (show (58 : Nat) ≠ 53 by decide)
  simp only [ev_x] at hx
  split at hx
  · cases hx
    intro kk hc0
    subst kk
    exact sd_vret F hc0 hd (of_decide_eq_true h2)
  · cases hx
theorem ex_59 (F : ev_F p s m args meth c D cI cZ cS ad A j) (hj : j < 114) {a b : Nat} {z w : Int} {X : ev_X} (hok : ev_ok1 j pc ((59, a, b, z, w) : ev_O) = true) (hx : ev_x ((59, a, b, z, w) : ev_O) L st σ = some X) : ev_G p l e s m args below meth c D cI cZ cS ad A Q j pc (ev_in ((59, a, b, z, w) : ev_O)).2 L st σ X := by
  obtain ⟨hd, h2⟩ := ev_ok1_d hok (show (59 : Nat) ≠ 53 by decide)
  simp only [ev_x] at hx
  split at hx
  · next i as rest hp =>
    split at hx
    · next hc =>
      cases hx
      have h3 := (Bool.and_eq_true _ _).mp h2
      have h4 := of_decide_eq_true h3.1
      obtain ⟨e1, e2⟩ := ev_pop_spec _ _ _ _ _ hp
      refine ⟨h4.1, fun r1 hM kk => ?_⟩
      refine sd_callV F hj hd h4.1 h4.2.2.1 ?_ h4.2.2.2.2 h3.2 (b := i) (as := as) (rest := rest) ?_ ?_ hc.1 hM kk
      · have := h4.2.1
        simp at e2
        omega
      · simpa using e1
      · have := h4.2.2.2.1
        omega
    · cases hx
  · cases hx
theorem ex_60 (F : ev_F p s m args meth c D cI cZ cS ad A j) (hj : j < 114) {a b : Nat} {z w : Int} {X : ev_X} (hok : ev_ok1 j pc ((60, a, b, z, w) : ev_O) = true) (hx : ev_x ((60, a, b, z, w) : ev_O) L st σ = some X) : ev_G p l e s m args below meth c D cI cZ cS ad A Q j pc (ev_in ((60, a, b, z, w) : ev_O)).2 L st σ X := by
  obtain ⟨hd, h2⟩ := ev_ok1_d hok (show (60 : Nat) ≠ 53 by decide)
  simp only [ev_x] at hx
  split at hx
  · next as rest hp =>
    split at hx
    · next hc =>
      cases hx
      have h3 := (Bool.and_eq_true _ _).mp h2
      have h4 := of_decide_eq_true h3.1
      obtain ⟨e1, e2⟩ := ev_pop_spec _ _ _ _ _ hp
      refine ⟨h4.1, fun r1 hM kk => ?_⟩
      refine sd_callS F hj hd h4.1 h4.2.2.1 ?_ h4.2.2.2 h3.2 (as := as) (rest := rest) ?_ hc hM kk
      · have := h4.2.1
        simp at e2
        omega
      · simpa using e1
    · cases hx
  · cases hx
theorem ev_x_sound (F : ev_F p s m args meth c D cI cZ cS ad A j) (hj : j < 114) {op : ev_O} {X : ev_X} (hok : ev_ok1 j pc op = true) (hx : ev_x op L st σ = some X) (h38 : op.1 = 38 → ev_G p l e s m args below meth c D cI cZ cS ad A Q j pc (ev_in op).2 L st σ X) : ev_G p l e s m args below meth c D cI cZ cS ad A Q j pc (ev_in op).2 L st σ X := by
  obtain ⟨k, a, b, z, w⟩ := op
  by_cases hk : k < 64
  · match k, hk with
    | 0, _ => exact ex_0 F hj hok hx
    | 1, _ => exact ex_1 F hj hok hx
    | 2, _ => exact ex_2 F hj hok hx
    | 3, _ => exact ex_3 F hj hok hx
    | 4, _ => exact ex_4 F hj hok hx
    | 5, _ => exact ex_5 F hj hok hx
    | 6, _ => exact ex_6 F hj hok hx
    | 7, _ => exact ex_7 F hj hok hx
    | 8, _ => exact ex_8 F hj hok hx
    | 9, _ => exact ex_9 F hj hok hx
    | 10, _ => exact ex_10 F hj hok hx
    | 11, _ => exact ex_11 F hj hok hx
    | 12, _ => exact ex_12 F hj hok hx
    | 13, _ => exact ex_13 F hj hok hx
    | 14, _ => exact ex_14 F hj hok hx
    | 15, _ => exact ex_15 F hj hok hx
    | 16, _ => exact ex_16 F hj hok hx
    | 17, _ => exact ex_17 F hj hok hx
    | 18, _ => exact ex_18 F hj hok hx
    | 19, _ => exact ex_19 F hj hok hx
    | 20, _ => exact ex_20 F hj hok hx
    | 21, _ => exact ex_21 F hj hok hx
    | 22, _ => exact ex_22 F hj hok hx
    | 23, _ => exact ex_23 F hj hok hx
    | 24, _ => exact ex_24 F hj hok hx
    | 25, _ => exact ex_25 F hj hok hx
    | 26, _ => exact ex_26 F hj hok hx
    | 27, _ => exact ex_27 F hj hok hx
    | 28, _ => exact ex_28 F hj hok hx
    | 29, _ => exact ex_29 F hj hok hx
    | 30, _ => exact ex_30 F hj hok hx
    | 31, _ => exact ex_31 F hj hok hx
    | 32, _ => exact ex_32 F hj hok hx
    | 33, _ => exact ex_33 F hj hok hx
    | 34, _ => exact ex_34 F hj hok hx
    | 35, _ => exact ex_35 F hj hok hx
    | 36, _ => exact ex_36 F hj hok hx
    | 37, _ => exact ex_37 F hj hok hx
    | 38, _ => exact h38 rfl
    | 39, _ => cases hx
    | 40, _ => exact ex_40 F hj hok hx
    | 41, _ => exact ex_41 F hj hok hx
    | 42, _ => exact ex_42 F hj hok hx
    | 43, _ => exact ex_43 F hj hok hx
    | 44, _ => exact ex_44 F hj hok hx
    | 45, _ => exact ex_45 F hj hok hx
    | 46, _ => exact ex_46 F hj hok hx
    | 47, _ => exact ex_47 F hj hok hx
    | 48, _ => exact ex_48 F hj hok hx
    | 49, _ => exact ex_49 F hj hok hx
    | 50, _ => exact ex_50 F hj hok hx
    | 51, _ => exact ex_51 F hj hok hx
    | 52, _ => exact ex_52 F hj hok hx
    | 53, _ =>
      cases hx
      have h := of_decide_eq_true (show decide (pc = ev_pcs j a) = true from hok)
      intro kk
      rw [h]
      exact kk
    | 54, _ => exact ex_54 F hj hok hx
    | 55, _ => exact ex_55 F hj hok hx
    | 56, _ => exact ex_56 F hj hok hx
    | 57, _ => exact ex_57 F hj hok hx
    | 58, _ => exact ex_58 F hj hok hx
    | 59, _ => exact ex_59 F hj hok hx
    | 60, _ => exact ex_60 F hj hok hx
    | 61, _ => exact ex_61 F hj hok hx
    | 62, _ => exact ex_62 F hj hok hx
    | 63, _ => exact ex_63 F hj hok hx
  · exfalso
    unfold ev_x at hx
    split at hx <;> first | (cases hx; done) | (rename_i heq; have h9 := congrArg Prod.fst heq; dsimp only at h9; omega) | (simp_all; done)
end SNX
