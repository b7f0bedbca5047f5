/-! the law's start -/
def lw_nlp : List Nat := [92, 133, 198, 289, 86, 283, 300, 345, 359, 378, 393]
theorem lw_nl_p : (ew_nl.zip lw_nlp).all (fun q => decide (lw_tbl[q.2]? = some (ew_nw q.1))) = true := by decide +kernel
theorem lw_nl_ok : ∀ q ∈ ew_nl, ew_nw q ∈ lw_tbl := ev_zip_mem (by decide +kernel) lw_nl_p
theorem lw_NW {s : State} {args : Array Value} (hts : ∀ w ∈ lw_tbl, w.before args s = true) : ev_NW s := ⟨fun q hq hn => va_Nw.of (by unfold ev_frw; rw [if_neg hn]; rfl) (hts _ (ev_frs_ok q hq)), fun q hq hn => va_Nw.of (by unfold ev_mrw; rw [if_neg hn]; rfl) (hts _ (ev_mrs_ok q hq))⟩
theorem lw_nw {s : State} {args : Array Value} (hts : ∀ w ∈ lw_tbl, w.before args s = true) : ew_NW s := fun q hq => va_Nw.of rfl (hts _ (lw_nl_ok q hq))
theorem lw_arr {s : State} {args : Array Value} {ty : FieldType} (hr : ∀ cA, s.vm.findClass ("[" ++ ty.toString) = some cA → va_RA s cA ty) (h : (Cond.arrayClass ty).before args s = true) : ∃ cA, ArrOfT s cA ty ∧ va_RA s cA ty := by
  obtain ⟨cA, kA, comp, h1, h2, h3⟩ := Cond.arrayClass_spec h
  exact ⟨cA, fun n z => ⟨fun k h => (by cases h), kA, h2, comp, h3⟩, hr cA h1⟩
theorem lw_arrq {s : State} {args : Array Value} {C : String} (h : (Cond.arrayOver (.object C)).before args s = true) : ∃ cA, ArrOfT s cA (.object C) ∧ va_RA s cA (.object C) := by
  obtain ⟨comp, cA, kA, h1, h2, h3, h4, h5⟩ := Cond.arrayOver_spec h
  exact ⟨cA, fun n z => ⟨fun k h => (by cases h), kA, h3, comp, h4⟩, kA, comp, h3, h4, h1, h5⟩
theorem lw_kn {s : State} {args : Array Value} (hts : ∀ w ∈ lw_tbl, w.before args s = true) : ∀ k : Nat, ∃ r : ClassId × (Nat → Nat), ∀ q, vwCl[k]? = some q → u_Kn s q.1 q.2.1 q.2.2 r.1 r.2 := by
  intro k
  obtain ⟨c0, i0, k0⟩ := u_known (C := RX0) (T := TX0) (N := 3) (n := 3) hts inX0 (hts (.instantiable RX0 3) (List.mem_of_getElem? (i := 392) (by decide +kernel)))
  obtain ⟨c1, i1, k1⟩ := u_known (C := RX1) (T := TX1) (N := 11) (n := 11) hts inX1 (hts (.instantiable RX1 11) (List.mem_of_getElem? (i := 132) (by decide +kernel)))
  obtain ⟨c2, i2, k2⟩ := u_known (C := RX2) (T := TX2) (N := 2) (n := 2) hts inX2 (hts (.instantiable RX2 2) (List.mem_of_getElem? (i := 344) (by decide +kernel)))
  obtain ⟨c3, i3, k3⟩ := u_known (C := RX3) (T := TX3) (N := 2) (n := 2) hts inX3 (hts (.instantiable RX3 2) (List.mem_of_getElem? (i := 282) (by decide +kernel)))
  obtain ⟨c4, i4, k4⟩ := u_known (C := RX4) (T := TX4) (N := 7) (n := 7) hts inX4 (hts (.instantiable RX4 7) (List.mem_of_getElem? (i := 197) (by decide +kernel)))
  obtain ⟨c5, i5, k5⟩ := u_known (C := RX5) (T := TX5) (N := 11) (n := 11) hts inX5 (hts (.instantiable RX5 11) (List.mem_of_getElem? (i := 299) (by decide +kernel)))
  obtain ⟨c6, i6, k6⟩ := u_known (C := RX6) (T := TX6) (N := 6) (n := 6) hts inX6 (hts (.instantiable RX6 6) (List.mem_of_getElem? (i := 91) (by decide +kernel)))
  obtain ⟨c7, i7, k7⟩ := u_known (C := RX7) (T := TX7) (N := 7) (n := 7) hts inX7 (hts (.instantiable RX7 7) (List.mem_of_getElem? (i := 85) (by decide +kernel)))
  obtain ⟨c8, i8, k8⟩ := u_known (C := RX8) (T := TX8) (N := 2) (n := 2) hts inX8 (hts (.instantiable RX8 2) (List.mem_of_getElem? (i := 377) (by decide +kernel)))
  obtain ⟨c9, i9, k9⟩ := u_known (C := RX9) (T := TX9) (N := 3) (n := 3) hts inX9 (hts (.instantiable RX9 3) (List.mem_of_getElem? (i := 358) (by decide +kernel)))
  obtain ⟨c10, i10, k10⟩ := u_known (C := RX10) (T := TX10) (N := 8) (n := 8) hts inX10 (hts (.instantiable RX10 8) (List.mem_of_getElem? (i := 77) (by decide +kernel)))
  match k with
  | 0 => exact ⟨(c0, i0), fun q hq => by cases hq; exact k0⟩
  | 1 => exact ⟨(c1, i1), fun q hq => by cases hq; exact k1⟩
  | 2 => exact ⟨(c2, i2), fun q hq => by cases hq; exact k2⟩
  | 3 => exact ⟨(c3, i3), fun q hq => by cases hq; exact k3⟩
  | 4 => exact ⟨(c4, i4), fun q hq => by cases hq; exact k4⟩
  | 5 => exact ⟨(c5, i5), fun q hq => by cases hq; exact k5⟩
  | 6 => exact ⟨(c6, i6), fun q hq => by cases hq; exact k6⟩
  | 7 => exact ⟨(c7, i7), fun q hq => by cases hq; exact k7⟩
  | 8 => exact ⟨(c8, i8), fun q hq => by cases hq; exact k8⟩
  | 9 => exact ⟨(c9, i9), fun q hq => by cases hq; exact k9⟩
  | 10 => exact ⟨(c10, i10), fun q hq => by cases hq; exact k10⟩
  | k + 11 => exact ⟨(c0, i0), fun q hq => by cases hq⟩
theorem lw_K {s : State} {args : Array Value} (hts : ∀ w ∈ lw_tbl, w.before args s = true) : ∃ (D : va_G) (cI cZ cS : ClassId), va_K D vwCl (ev_ty cI cZ cS) s := by
  obtain ⟨f, hf⟩ := Classical.axiomOfChoice (lw_kn hts)
  obtain ⟨cI, a1, b1⟩ := lw_arr (ty := .int) (fun _ h => h) (hts _ (List.mem_of_getElem? (i := 130) (by decide +kernel)))
  obtain ⟨cZ, a2, b2⟩ := lw_arr (ty := .boolean) (fun _ h => h) (hts _ (List.mem_of_getElem? (i := 195) (by decide +kernel)))
  obtain ⟨cS, a3, b3⟩ := lw_arrq (C := "BridgeRounds$State") (hts _ (List.mem_of_getElem? (i := 288) (by decide +kernel)))
  refine ⟨(fun k => (f k).1, fun k => (f k).2), cI, cZ, cS, fun k q hq => hf k q hq, fun k q hq => ?_⟩
  match k, hq with
  | 0, hq => cases hq; exact ⟨a1, b1⟩
  | 1, hq => cases hq; exact ⟨a2, b2⟩
  | 2, hq => cases hq; exact ⟨a3, b3⟩
  | k + 3, hq => cases hq
theorem lw_goodc {w0 : Cond} (h : w0 ∈ ev_gw) : GoodIn lw_tbl (w0 :: ev_gw) := fun w hw => by
  rcases List.mem_cons.mp hw with rfl | hw
  · exact ⟨ev_gwt h, ev_ggw h⟩
  · exact ⟨ev_gwt hw, ev_ggw hw⟩
theorem lw_d0 : decode code 0 = .ok (.new 9, 3) := by decide +kernel
theorem lw_d3 : decode code 3 = .ok (.dup, 1) := by decide +kernel
theorem lw_d4 : decode code 4 = .ok (.invokespecial 109, 3) := by decide +kernel
theorem lw_d7 : decode code 7 = .ok (.astore_n 1, 1) := by decide +kernel
theorem lw_ad1 {h0 hm : Nat} {v : Nat → Nat → Nat} : ew_ad h0 hm v 161 = h0 := rfl
theorem lw_ad2 {h0 hm : Nat} {v : Nat → Nat → Nat} : ew_ad h0 hm v 200 = hm := rfl
/-! the first memory -/
theorem ew_s0_163 (sc : Int → Int) (k : Int) : ew_s0 sc 163 k = 46 + 23 * k := rfl
theorem ew_s0_T {sc : Int → Int} {k : Int} (h0 : 0 ≤ k) (h1 : k < 338) : st_T (ew_s0 sc) ev_n k = 0 := by
  have h := ev_ao_in (k := k) ⟨h0, h1⟩
  unfold st_T ew_s0 ev_n
  rw [if_neg (by omega), if_neg (by omega)]
theorem ew_K0 (sc : Int → Int) : st_K (ew_s0 sc) := by
  refine ⟨fun i h0 h1 => ?_, fun i j i0 i1 j0 j1 h => ?_⟩
  · rw [ew_s0_163]
    unfold ev_S
    omega
  · rw [ew_s0_163, ew_s0_163]
    omega
theorem ew_A0 (sc : Int → Int) : ab_A (ew_s0 sc) st_0 [] := ⟨fun k h0 h1 => ew_s0_T h0 h1, st_0_I, ew_K0 sc, rfl, ⟨Nat.zero_le _, rfl⟩, fun i h hi => by simp at hi⟩
set_option maxHeartbeats 4000000 in
set_option maxRecDepth 100000 in
/-- THE LAW, from its entry -/
theorem whole_start {p : Program} {e : Env} {s : State} {m : MethodId} {below : List Frame} {meth : Method} {c : Code} (l : Launch) (hflags : l.flags = flags0) {b L : Nat} {xs : Nat → Int32} (hL : L ≤ 260) (C0 : lw_At p s m meth c b L xs) : W p l e room_1 s m #[Value.ref b] below meth c s.heap [] 0 0 (lw_Z below #[Value.ref b] s) (entryFrame m ([Value.ref b] : List Value).toArray 15) := by
  obtain ⟨hx, hb, hr, hml, hown, hts, hX, hbl, hlocks, hgv⟩ := id C0
  obtain ⟨D, cI, cZ, cS, hK⟩ := lw_K hts
  have hN := lw_NW hts
  have hNW := lw_nw hts
  have hAO : va_AO "BridgeRounds$State" s := va_AO.of (hts _ (List.mem_of_getElem? (i := 288) (by decide +kernel)))
  have hA : ∀ q : Nat, s.heap.size ≤ q → (fun q : Nat => s.heap.size ≤ q) q := fun _ h => h
  have hS : va_S (fun q : Nat => s.heap.size ≤ q) s.heap s.heap [] := va_S.rf
  have hP : va_P D vwCl [] s.heap := fun k q h => by simp at h
  have hD : va_D (fun q : Nat => s.heap.size ≤ q) [] := ⟨fun i j p q h => by simp at h, fun k q h => by simp at h⟩
  have hl := lv_entry ([.ref b]) (n := 15) (Nat.le_of_ble_eq_true rfl)
  rw [lg_entry_eq]
  generalize (lg_sl ([.ref b]) ++ List.replicate (15 - (lg_sl ([.ref b])).length) Slot.unset).toArray = ls at hl ⊢
  have hl : lv_has ls 15 [(0, .ref b)] := hl
  refine va_new (ci := 10) (fs := [.null, .null, .null, .null, .null, .null, .null, .null]) (C := RX10) (T := TX10) (N := 8) hx hb hts inX10 tyX10 tyX10_ok hown (hts (.classLink R_law 9 RX10) (List.mem_of_getElem? (i := 76) (by decide +kernel))) (hts (.instantiable RX10 8) (List.mem_of_getElem? (i := 77) (by decide +kernel))) (hts (.initialized RX10) (List.mem_of_getElem? (i := 63) (by decide +kernel))) hK hP hD hS hA rfl (fun j hj => by rcases (show j = 0 ∨ j = 1 ∨ j = 2 ∨ j = 3 ∨ j = 4 ∨ j = 5 ∨ j = 6 ∨ j = 7 by omega) with rfl | rfl | rfl | rfl | rfl | rfl | rfl | rfl <;> rfl) (Nat.le_of_ble_eq_true rfl) (Nat.le_of_ble_eq_true rfl) lw_d0 (fun q0 H hP hD hS => ?_)
  refine W.widen (k := 1) (n := 8) (Nat.le_of_ble_eq_true rfl) (Nat.le_of_ble_eq_true rfl) ?_
  refine lv_dup hx hb lw_d3 rfl ?_
  have hPc := ew_last_P (wr := []) hP
  have hDc := ew_last_D (wr := []) hD
  have hFc := ew_last_F (wr := []) hD hS hA
  refine va_callv (va_runI (As := []) (rest := [.ref q0]) ⟨hx, hb, hml, hown, hts⟩ (ew_c_10 l D cI cZ cS q0 H.size) ⟨callB_of 0 hts (lw_goodc (w0 := .code yX10_init cX10_init 1 none) (ev_gwm (List.mem_of_getElem? (i := 80) (by decide +kernel)) rfl)) rfl rfl rfl (hts (.initialized RX10) (List.mem_of_getElem? (i := 63) (by decide +kernel))) (hts (.methodLink R_law 109 yX10_init) (List.mem_of_getElem? (i := 78) (by decide +kernel))) (by decide +kernel) ⟨Nat.le_of_ble_eq_true rfl, Nat.le_of_ble_eq_true rfl⟩, rfl, hts (.instanceMethod yX10_init) (List.mem_of_getElem? (i := 79) (by decide +kernel))⟩ ⟨fun a U g mk z => by obtain ⟨z0, z1, z2, z3, z4, z5, z6⟩ := z; exact ⟨z0, z1, z2, va_K.moved (u := U) (U := U.calling g mk a) (Vm.Alike.refl U.vm) z3, ew_NW_same (s := U) (U := U.calling g mk a) rfl z4, va_AO.moved (u := U) (U := U.calling g mk a) (Vm.Alike.refl U.vm) z5, z6⟩, fun U hU hW => ⟨rfl, by rw [hU], by rw [hU]; exact hPc, va_K.moved hW.alike hK, ew_NW_warm hW hNW, va_AO.moved hW.alike hAO, hDc.weaken (fun _ _ _ _ => trivial)⟩⟩ rfl rfl hl.1 rfl (lv_room (Nat.le_of_ble_eq_true rfl)) lw_d4 ⟨Nat.le_of_ble_eq_true rfl, Nat.le_of_ble_eq_true rfl⟩) hS (fun q _ h => hFc q h) hFc (fun v t H1 locs ht hvm hw hB hz1 hk1 hS => ?_)
  obtain ⟨hP1, hD1⟩ := hB
  rw [ht] at hP1
  obtain ⟨hP, hD⟩ := ew_last_J (wr := []) hP hD hk1 hFc hP1 hD1
  clear hPc hDc hFc hP1 hD1 hk1 hz1 hvm ht
  generalize H1 = H at hP hS ⊢
  refine W.widen (k := 182) (n := 2800) (Nat.le_of_ble_eq_true rfl) (Nat.le_of_ble_eq_true rfl) ?_
  have hP : va_P D vwCl (ew_w10 cI cZ cS q0 v) H := hP
  have hD : va_D (fun q : Nat => s.heap.size ≤ q) (ew_w10 cI cZ cS q0 v) := hD
  refine lv_astore_n (lv' := [(1, .ref q0), (0, .ref b)]) hx hb lw_d7 rfl hl (by decide) rfl (fun ls hl => ?_)
  obtain ⟨hP2, hD2⟩ := ew_start (lw_cv L xs) b hP hD
  have F : ev_F p s m #[Value.ref b] meth c D cI cZ cS (ew_ad q0 b v) (fun q : Nat => s.heap.size ≤ q) 113 := ⟨hx, hb, hr, hml, hown, fun w hw => hts w (ev_gwt hw), hK, hN, hlocks, hD2⟩
  obtain ⟨r, hr1, hr2⟩ := h_law (σ := ew_s0 (lw_cv L xs)) (p2 := none) (p3 := none) (p4 := none) (p5 := none) (p6 := none) (p7 := none) (p8 := none) (p9 := none) (p10 := none) (p11 := none) (p12 := none) (p13 := none) (p14 := none) (ew_A0 _)
  obtain ⟨f, hf⟩ := EB_iff.mp hr1
  have hW := lw_law (e := e) (l := l) (below := below) hL F hX hbl (fun h => absurd h (by show ¬ s.heap.size ≤ b; omega)) lw_ad2 (fun _ h => h) f 1 _ [] _ r (by funext k; rfl) hf hr2
  exact hW H _ ls hP2 hS ⟨rfl, lv_sub hl [1, 0] rfl⟩
