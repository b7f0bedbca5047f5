/-! THE CLAIM OUT OF ONE WALK OF THE LAW'S BODY. Your part is whole_start (and what it stands on); all else here is the same for every law, but numbers. -/
def R_law : String := "BridgeRoundsLaw"
def lw_P (b : Addr) (xs : List Int32) (args : Array Value) (s : State) : Prop := args = #[.ref b] ∧ s.IntsAt b xs ∧ xs.length ≤ 3072 ∧ (Jvm.Cond.and given_1 narrow_1).before args s = true
def lw_Q (_ : Array Value) (s : State) (o : Outcome) (t : State) : Prop := o = .returned (some (.int 1)) ∧ Framed s o t [] 600000 7302250
def lw_Z (below : List Frame) (a : Array Value) (s : State) : State → Prop := fun t => ∃ o, t.status = .running ∧ Ended t below o ∧ lw_Q a s o t
/-- the law's own end, with 1 on the stack, nothing written that was there before, its room as the claim has it -/
theorem lw_ret {p : Program} {l : Launch} {e : Env} {s : State} {m : MethodId} {below : List Frame} {meth : Method} {c : Code} {b : Nat} (hx : p.tables.exec = Jvm.exec) (hb : c.code = code) (hr : meth.sig.returnType = ret) (hlocks : meth.locks = false) {pc : Nat} {H : Heap} {ls : Array Slot} (hdg : decode code pc = .ok (.ireturn, 1)) : W p l e room_1 s m #[Value.ref b] below meth c H [] 600000 7302250 (lw_Z below #[Value.ref b] s) (F0 m pc ls [.int 1]) := by
  intro T hT X
  obtain ⟨fs, hret, hrun, hended, hW, hframe⟩ := X.leave (v := some (.int 1)) (hlocks := hlocks) (fun h => by rw [hr] at h; cases h)
  have hmeth' : T.vm.method? m = some meth := X.method'
  refine ⟨T.setFrames fs, ?_, .returned (some (.int 1)), hrun, hended, rfl, ⟨_, rfl⟩, hW, hframe⟩
  jvm_step X.here [X.here.top, hx, hb, hdg, hmeth', hr, ret, narrow_b1]
  (try refine ⟨rfl, ?_⟩); (try refine ⟨rfl, ?_⟩)
  first | (intro acts; rw [hret _ acts rfl rfl rfl]) | rw [hret _ _ rfl rfl rfl]
  exact Steps.refl _
/-- what holds at the law's entry: the machine, the code, the tables' words (any of lw_tbl by 'hts w (by decide +kernel)'), the script of L ints xs at the cell b, what the Statement gives of the start (any of its parts by flat_of_before) -/
def lw_At (p : Program) (s : State) (m : MethodId) (meth : Method) (c : Code) (b L : Nat) (xs : Nat → Int32) : Prop :=
  p.tables.exec = Jvm.exec ∧ c.code = code ∧ meth.sig.returnType = ret ∧ c.maxLocals = 4 ∧ s.vm.findClass R_law = some m.cls ∧ (∀ w ∈ lw_tbl, w.before #[Value.ref b] s = true) ∧ va_X b L xs s s.heap ∧ b < s.heap.size ∧ meth.locks = false ∧ (Jvm.Cond.and given_1 narrow_1).before #[Value.ref b] s = true

/-! the law's frame over the pure machine's world -/
def lw_F (p : Program) (s : State) (m : MethodId) (meth : Method) (c : Code) (D : va_G) (cI cZ cS : ClassId) (ad : Int → Nat) (b L : Nat) (xs : Nat → Int32) : Prop := lw_At p s m meth c b L xs ∧ va_K D vwCl (ev_ty cI cZ cS) s ∧ ev_NW s ∧ L ≤ 3072 ∧ ∀ σ, va_D (fun q : Nat => s.heap.size ≤ q) (ev_wd cI cZ cS ad σ)
def lw_S (p : Program) (l : Launch) (e : Env) (s : State) (m : MethodId) (below : List Frame) (meth : Method) (c : Code) (D : va_G) (cI cZ cS : ClassId) (ad : Int → Nat) (b : Nat) (pc : Nat) (st : List Value) (x : Int32) (σ : ev_M) : Prop := ∀ (H : Heap) (locs : List Loc) (ls : Array Slot), va_P D vwCl (ev_wd cI cZ cS ad σ) H → va_S (fun q : Nat => s.heap.size ≤ q) s.heap H locs → lv_has ls 4 [(0, .ref b), (1, .ref (ad 161)), (2, .ref (ad 182)), (3, .int x)] → W p l e room_1 s m #[Value.ref b] below meth c H locs 191 5331 (lw_Z below #[Value.ref b] s) (F0 m pc ls st)
theorem lw_good {j : Nat} (hj : j < 182) : GoodIn lw_tbl (ev_wo j) := fun w hw => by
  rcases List.mem_cons.mp hw with rfl | hw
  · exact ⟨ev_gwt (ev_mcw_ok j hj), ev_ggw (ev_mcw_ok j hj)⟩
  · exact ⟨ev_gwt hw, ev_ggw hw⟩
def lw_pa (pc q : Nat) : Bool := decide (decode code pc = .ok (.aload_n 0, 1)) && (decide (decode code (pc + 1) = .ok (.iload_n 3, 1)) && (decide (decode code (pc + 2) = .ok (.iconst (q : Int), 1)) && (decide (decode code (pc + 3) = .ok (.iadd, 1)) && decide (decode code (pc + 4) = .ok (.iaload, 1)))))
def lw_pas (pc : Nat) : Nat → Bool
  | 0 => true
  | n + 1 => lw_pas pc n && lw_pa (pc + 5 * n) (n + 1)
/-- the ints behind place i, the last one first -/
def lw_as (xs : Nat → Int32) (i : Nat) : Nat → List Value
  | 0 => []
  | n + 1 => .int (xs (i + (n + 1))) :: lw_as xs i n
def lw_av (xs : Nat → Int32) (i : Nat) : Nat → List ev_V
  | 0 => []
  | n + 1 => lw_av xs i n ++ [.inl (xs (i + (n + 1))).toInt]
theorem lw_av_len (xs : Nat → Int32) (i : Nat) : ∀ n, (lw_av xs i n).length = n
  | 0 => rfl
  | n + 1 => by simp [lw_av, lw_av_len xs i n]
theorem lw_as_av (ad : Int → Nat) (xs : Nat → Int32) (i : Nat) : ∀ n, lw_as xs i n = ((lw_av xs i n).map (ev_rv ad)).reverse
  | 0 => rfl
  | n + 1 => by
    simp only [lw_as, lw_av, List.map_append, List.map_cons, List.map_nil, List.reverse_append, List.reverse_cons, List.reverse_nil, List.nil_append, List.singleton_append]
    rw [lw_as_av ad xs i n]
    simp only [ev_rv, ev_oi_ti]
section LWX
variable {p : Program} {l : Launch} {e : Env} {s : State} {m : MethodId} {below : List Frame} {meth : Method} {c : Code} {D : va_G} {cI cZ cS : ClassId} {ad : Int → Nat} {b L : Nat} {xs : Nat → Int32} {pc : Nat} {st : List Value} {x : Int32} {σ : ev_M}
theorem lw_q1 (F : lw_F p s m meth c D cI cZ cS ad b L xs) {i q : Nat} (hq : i + q < L) (hc : lw_pa pc q = true) (kk : lw_S p l e s m below meth c D cI cZ cS ad b (pc + 5) (.int (xs (i + q)) :: st) (nI i) σ) : lw_S p l e s m below meth c D cI cZ cS ad b pc st (nI i) σ := by
  intro H locs ls hP hS hl
  obtain ⟨⟨hx, hb, hr, hml, hown, hts, hX, hbl, hlocks, hgv⟩, hK, hN, hL, hD⟩ := F
  have hbA : ¬ (fun q : Nat => s.heap.size ≤ q) b := Nat.not_le.mpr hbl
  unfold lw_pa at hc
  simp only [Bool.and_eq_true, decide_eq_true_eq] at hc
  obtain ⟨d0, d1, d2, d3, d4⟩ := hc
  refine lv_aload_n hx hb d0 rfl (lv_at hl 0 rfl) ?_
  refine lv_iload_n hx hb d1 rfl (lv_at hl 3 rfl) ?_
  refine lv_iconst (v := nI q) hx hb d2 rfl ?_
  refine lv_iadd hx hb d3 ?_
  rw [nI_add]
  refine va_sld hx hb hX hbl hbA hS (vp_in_nI hq (by omega)) d4 ?_
  rw [nI_clamp (by omega)]
  exact kk H locs ls hP hS hl
theorem lw_qn (F : lw_F p s m meth c D cI cZ cS ad b L xs) {i : Nat} : ∀ (n : Nat), i + n < L → lw_pas pc n = true → lw_S p l e s m below meth c D cI cZ cS ad b (pc + 5 * n) (lw_as xs i n ++ st) (nI i) σ → lw_S p l e s m below meth c D cI cZ cS ad b pc st (nI i) σ := by
  intro n
  induction n with
  | zero => intro _ _ h; exact h
  | succ n ih =>
    intro hn hc h
    have hc2 := (Bool.and_eq_true _ _).mp (show (lw_pas pc n && lw_pa (pc + 5 * n) (n + 1)) = true from hc)
    exact ih (by omega) hc2.1 (lw_q1 F hn hc2.2 h)
theorem lw_a1 (F : lw_F p s m meth c D cI cZ cS ad b L xs) (hd : decode code pc = .ok (.aload_n 1, 1)) (kk : lw_S p l e s m below meth c D cI cZ cS ad b (pc + 1) (.ref (ad 161) :: st) x σ) : lw_S p l e s m below meth c D cI cZ cS ad b pc st x σ := by
  intro H locs ls hP hS hl
  exact lv_aload_n F.1.1 F.1.2.1 hd rfl (lv_at hl 1 rfl) (kk H locs ls hP hS hl)
theorem lw_a2 (F : lw_F p s m meth c D cI cZ cS ad b L xs) (hd : decode code pc = .ok (.aload_n 2, 1)) (kk : lw_S p l e s m below meth c D cI cZ cS ad b (pc + 1) (.ref (ad 182) :: st) x σ) : lw_S p l e s m below meth c D cI cZ cS ad b pc st x σ := by
  intro H locs ls hP hS hl
  exact lv_aload_n F.1.1 F.1.2.1 hd rfl (lv_at hl 2 rfl) (kk H locs ls hP hS hl)
def lw_rck (j' : Nat) : Bool := decide ((ev_rm j').frames + 1 ≤ room_1.frames ∧ 8 + (ev_mxl j' + 11) + (ev_rm j').locals ≤ room_1.locals)
def lw_rv : ev_V → Value
  | .inl y => .int (Int32.ofInt y)
  | .inr (.inr h) => .long h
  | .inr (.inl _) => .null
theorem lw_call (F : lw_F p s m meth c D cI cZ cS ad b L xs) {j' cp : Nat} {o : Int} {as : List ev_V} {rest : List Value} {v : ev_V} {σ1 : ev_M} (hd : decode code pc = .ok (.invokevirtual cp, 3)) (hj' : j' < 182) (hs : ev_sta j' = false) (hn : as.length = ev_na j') (hm : Cond.methodLink R_law cp (ev_yn j') ∈ lw_tbl) (hrc : lw_rck j' = true) (hb : ev_cls o = ev_own j') (hst : st = (as.map (ev_rv ad)).reverse ++ .ref (ad o) :: rest) (hw : (rest.map fun v => v.category).sum ≤ 8)
    (hM : EM j' (.inr (.inl o) :: as) σ = some (some v, σ1)) (kk : lw_S p l e s m below meth c D cI cZ cS ad b (pc + 3) (lw_rv v :: rest) x σ1) : lw_S p l e s m below meth c D cI cZ cS ad b pc st x σ := by
  intro H locs ls hP hS hl
  obtain ⟨⟨hx, hbc, hr, hml, hown, hts, hX, hbl, hlocks, hgv⟩, hK, hN, hL, hD⟩ := F
  have hc := of_decide_eq_true hrc
  obtain ⟨k1, k2, k3, k4, k5, k6⟩ := ev_mok_spec hj'
  have hown12 : ev_own j' < 12 := by
    have : ∀ q, q < 182 → ev_own q < 12 := by decide +kernel
    exact this j' hj'
  have hrecv : ∃ cell : Cell, H[ad o]? = some cell ∧ cell.vm.isStatics = false ∧ s.vm.findClass (ev_yn j').cls = some cell.cls := by
    have := va_recv hK hP (ev_cl_at _ hown12) (ev_at hb (by omega) (ev_e_obj hb hown12))
    rw [k2]
    exact this
  have hMt := ev_met (l := l) (D := D) (cI := cI) (cZ := cZ) (cS := cS) (ad := ad) hD ev_chks hj' hM
  have hpre : ∀ U : State, U.heap = H → s.WarmedH U.vm → ev_Pc D cI cZ cS ad (.inr (.inl o) :: as) σ ((Value.ref (ad o) :: as.map (ev_rv ad)).toArray) U := by
    intro U hU hW
    exact ⟨rfl, by rw [hU]; exact hP, va_K.moved hW.alike hK, ev_NW_warm hW hN⟩
  have hr := va_runV (p := p) (e := e) (R := room_1) (below := below) (meth := meth) (locs := locs) (cells := 191) (slots := 5331) (g := F0 m pc ls st) (As := as.map (ev_rv ad)) (rest := rest) ⟨hx, hbc, hml, hown, hts⟩ hMt ⟨callB_of (ev_na j') hts (lw_good hj') rfl rfl rfl (hts _ (ev_gwt k1)) (hts _ hm) k4 hc, hts _ (ev_gwt (k6 hs).1), hts _ (ev_gwt (k6 hs).2)⟩ ⟨ev_blind _ _, hrecv, hpre⟩ rfl (by simpa using hn) hl.1 hst (by show 2 * 0 + _ ≤ 8; omega) hd ⟨by decide, by decide⟩
  rcases v with y | i | h
  · refine va_calli (a := (Value.ref (ad o) :: as.map (ev_rv ad)).toArray) hr hS (fun q _ h => h) (fun q h => h) (fun r u t H1 locs1 ht hvm hw hB hz hk hS1 => ?_)
    subst hw
    exact kk H1 locs1 ls (by rw [← ht]; exact hB) hS1 hl
  · intro T hT X
    obtain ⟨v, st₀, t, T', L', h0, X', hL, e1, e2, hf, st'⟩ := hr T hT X
    exact hf.elim
  · refine va_calll (a := (Value.ref (ad o) :: as.map (ev_rv ad)).toArray) hr hS (fun q _ h => h) (fun q h => h) (fun r u t H1 locs1 ht hvm hw hB hz hk hS1 => ?_)
    subst hw
    exact kk H1 locs1 ls (by rw [← ht]; exact hB) hS1 hl
end LWX
