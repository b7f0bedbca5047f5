/-! the constructors that make others -/
def ew_nl : List (Nat × Nat × MethodName) := [(7, 11, yX6_init), (7, 20, yX1_init), (7, 27, yX4_init), (3, 17, yX7_init), (10, 9, yX7_init), (10, 21, yX3_init), (10, 28, yX5_init), (10, 35, yX2_init), (10, 42, yX9_init), (10, 49, yX8_init), (10, 56, yX0_init)]
def ew_nw (q : Nat × Nat × MethodName) : Cond := .methodLinkNest (ev_cn q.1) q.2.1 q.2.2 "BridgeRounds"
def ew_NW (U : State) : Prop := ∀ q ∈ ew_nl, va_Nw (ew_nw q) U
theorem ew_NW_same {s U : State} (hv : s.vm = U.vm) (h : ew_NW s) : ew_NW U := fun q hq => va_Nw.same rfl hv (h q hq)
theorem ew_NW_warm {s U : State} (hW : s.WarmedH U.vm) (h : ew_NW s) : ew_NW U := fun q hq => va_Nw.warmM hW (h q hq)
theorem ew_good {w0 : Cond} (h : w0 ∈ ev_gw) : GoodIn ev_gw (w0 :: ev_gw) := fun w hw => by
  rcases List.mem_cons.mp hw with rfl | hw
  · exact ⟨h, ev_ggw h⟩
  · exact ⟨hw, ev_ggw hw⟩

theorem ew_d_7_0 : decode cX7_init 0 = .ok (.aload_n 0, 1) := by decide +kernel
theorem ew_d_7_1 : decode cX7_init 1 = .ok (.invokespecial 3, 3) := by decide +kernel
theorem ew_d_7_4 : decode cX7_init 4 = .ok (.aload_n 0, 1) := by decide +kernel
theorem ew_d_7_5 : decode cX7_init 5 = .ok (.new 9, 3) := by decide +kernel
theorem ew_d_7_8 : decode cX7_init 8 = .ok (.dup, 1) := by decide +kernel
theorem ew_d_7_9 : decode cX7_init 9 = .ok (.invokespecial 11, 3) := by decide +kernel
theorem ew_d_7_12 : decode cX7_init 12 = .ok (.putfield 12, 3) := by decide +kernel
theorem ew_d_7_15 : decode cX7_init 15 = .ok (.aload_n 0, 1) := by decide +kernel
theorem ew_d_7_16 : decode cX7_init 16 = .ok (.new 18, 3) := by decide +kernel
theorem ew_d_7_19 : decode cX7_init 19 = .ok (.dup, 1) := by decide +kernel
theorem ew_d_7_20 : decode cX7_init 20 = .ok (.invokespecial 20, 3) := by decide +kernel
theorem ew_d_7_23 : decode cX7_init 23 = .ok (.putfield 21, 3) := by decide +kernel
theorem ew_d_7_26 : decode cX7_init 26 = .ok (.aload_n 0, 1) := by decide +kernel
theorem ew_d_7_27 : decode cX7_init 27 = .ok (.new 25, 3) := by decide +kernel
theorem ew_d_7_30 : decode cX7_init 30 = .ok (.dup, 1) := by decide +kernel
theorem ew_d_7_31 : decode cX7_init 31 = .ok (.invokespecial 27, 3) := by decide +kernel
theorem ew_d_7_34 : decode cX7_init 34 = .ok (.putfield 28, 3) := by decide +kernel
theorem ew_d_7_37 : decode cX7_init 37 = .ok (.return_, 1) := by decide +kernel
def ew_w7 (cI cZ : ClassId) (h0 : Nat) (u : Nat → Nat) : va_W := ((([(h0, .inr (7, [.ref (u 1), .ref (u 6), .ref (u 17), .int 0, .int 0, .int 0, .int 0]))] ++ ew_w6 cI cZ (u 1) (fun k => u (1 + k))) ++ ew_w1 cI cZ (u 6) (fun k => u (6 + k))) ++ ew_w4 cI cZ (u 17) (fun k => u (17 + k)))
set_option maxHeartbeats 8000000 in
set_option maxRecDepth 100000 in
theorem ew_c_7 (l : Launch) (D : va_G) (cI cZ cS : ClassId) (h0 sz : Nat) : Met l yX7_init (.code yX7_init cX7_init 1 none :: ev_gw) { frames := 2, cells := 22, slots := 353, locals := 32 } (va_Pc [.ref h0] (fun U => U.heap.size = sz ∧ va_P D vwCl [(h0, .inr (7, [.null, .null, .null, .int 0, .int 0, .int 0, .int 0]))] U.heap ∧ va_K D vwCl (ev_ty cI cZ cS) U ∧ ew_NW U ∧ va_AO "BridgeRounds$State" U ∧ va_D (fun _ => True) [(h0, .inr (7, [.null, .null, .null, .int 0, .int 0, .int 0, .int 0]))])) (va_Qv (fun u : Nat → Nat => u 0 = h0) (fun u t => va_P D vwCl (ew_w7 cI cZ h0 u) t.heap ∧ va_D (va_A [(h0, .inr (7, [.null, .null, .null, .int 0, .int 0, .int 0, .int 0]))] sz) (ew_w7 cI cZ h0 u)) (va_A [(h0, .inr (7, [.null, .null, .null, .int 0, .int 0, .int 0, .int 0]))] sz)) 22 353 (va_A [(h0, .inr (7, [.null, .null, .null, .int 0, .int 0, .int 0, .int 0]))] sz) := by
  refine Met.ofW (cc := cX7_init) (maxL := 1) (ret := none) (by decide) rfl ?_
  intro p e s m args below meth c s₁ B hml hv
  obtain ⟨rfl, hsz, hP, hK, hNW, hAO, hD0⟩ := hv
  have hx := B.exec
  have hb := B.bytes
  have hr := B.returns
  have hts : ∀ w ∈ ev_gw, w.before #[Value.ref h0] s = true := fun w hw => atoms_spec (ws := .code yX7_init cX7_init 1 none :: ev_gw) B.pre w (List.mem_cons_of_mem _ hw)
  have hown : s.vm.findClass RX7 = some m.cls := findClass_of_methodNamed B.named
  have hlocks := B.notSynchronized
  have hin : meth.name = "<init>" := (name_of_methodNamed B.named B.method).1
  subst hsz
  have hD := hD0.self (sz := s.heap.size)
  generalize hAe : va_A [(h0, .inr (7, [.null, .null, .null, .int 0, .int 0, .int 0, .int 0]))] s.heap.size = A at hD ⊢
  have hA : ∀ q : Nat, s.heap.size ≤ q → A q := fun q h => by rw [← hAe]; exact Or.inr h
  have hS : va_S A s.heap s.heap [] := va_S.rf
  have hP : va_P D vwCl [(h0, .inr (7, [.null, .null, .null, .int 0, .int 0, .int 0, .int 0]))] s.heap := hP
  have hl := lv_entry ([.ref h0]) (n := 1) (Nat.le_of_ble_eq_true rfl)
  rw [lg_entry_eq]
  generalize (lg_sl ([.ref h0]) ++ List.replicate (1 - (lg_sl ([.ref h0])).length) Slot.unset).toArray = ls at hl ⊢
  have hl : lv_has ls 1 [(0, .ref h0)] := hl
  have hArI : (Cond.arrayClass .int).before #[Value.ref h0] s = true := hts _ (ev_gwm (List.mem_of_getElem? (i := 130) (by decide +kernel)) rfl)
  have hArZ : (Cond.arrayClass .boolean).before #[Value.ref h0] s = true := hts _ (ev_gwm (List.mem_of_getElem? (i := 195) (by decide +kernel)) rfl)
  refine lv_aload_n hx hb ew_d_7_0 rfl (lv_at hl 0 rfl) ?_
  refine W.objInit hx hb hown (hts (.methodLink RX7 3 Lib.objectInit) (ev_gwm (List.mem_of_getElem? (i := 89) (by decide +kernel)) rfl)) (hts (.instanceMethod Lib.objectInit) (ev_gwm (List.mem_of_getElem? (i := 82) (by decide +kernel)) rfl)) (hts (.code Lib.objectInit ⟨#[0xb1]⟩ 1 none) (ev_gwm (List.mem_of_getElem? (i := 83) (by decide +kernel)) rfl)) rfl (by rw [hml]; exact hl.1) rfl ew_d_7_1 (Nat.le_of_ble_eq_true rfl) (Nat.le_of_ble_eq_true rfl) ?_
  refine W.eq (g2 := F0 m 4 ls []) rfl ?_
  refine lv_aload_n hx hb ew_d_7_4 rfl (lv_at hl 0 rfl) ?_
  refine va_new (ci := 6) (fs := [.int 0, .int 0, .null, .null, .null, .null]) (C := RX6) (T := TX6) (N := 6) hx hb hts (ev_in_g 6 (by decide)) tyX6 tyX6_ok hown (hts (.classLink RX7 9 RX6) (ev_gwm (List.mem_of_getElem? (i := 90) (by decide +kernel)) rfl)) (hts (.instantiable RX6 6) (ev_gwm (List.mem_of_getElem? (i := 91) (by decide +kernel)) rfl)) (hts (.initialized RX6) (ev_gwm (List.mem_of_getElem? (i := 65) (by decide +kernel)) rfl)) hK hP hD hS hA rfl (fun j hj => by rcases (show j = 0 ∨ j = 1 ∨ j = 2 ∨ j = 3 ∨ j = 4 ∨ j = 5 by omega) with rfl | rfl | rfl | rfl | rfl | rfl <;> rfl) (Nat.le_of_ble_eq_true rfl) (Nat.le_of_ble_eq_true rfl) ew_d_7_5 (fun q0 H hP hD hS => ?_)
  refine W.widen (k := 1) (n := 6) (Nat.le_of_ble_eq_true rfl) (Nat.le_of_ble_eq_true rfl) ?_
  refine lv_dup hx hb ew_d_7_8 rfl ?_
  have hPc := hP.sub (ws' := [(q0, .inr (6, [.int 0, .int 0, .null, .null, .null, .null]))]) [1] rfl
  have hDc := hD.sub (ws' := [(q0, .inr (6, [.int 0, .int 0, .null, .null, .null, .null]))]) [1] (by decide) rfl
  have hFc := va_free (wc := [(q0, .inr (6, [.int 0, .int 0, .null, .null, .null, .null]))]) hD hS hA [1] rfl
  refine va_callv (va_runIN (As := []) (rest := [.ref q0, .ref h0]) (host := "BridgeRounds") ⟨hx, hb, hml, hown, hts⟩ (ew_c_6 l D cI cZ cS q0 H.size) ⟨va_cnB 0 hts (ew_good (w0 := .code yX6_init cX6_init 1 none) (ev_gwm (List.mem_of_getElem? (i := 94) (by decide +kernel)) rfl)) rfl rfl rfl (hNW (7, 11, yX6_init) (by decide +kernel)) (hts (.initialized RX6) (ev_gwm (List.mem_of_getElem? (i := 65) (by decide +kernel)) rfl)) (by decide +kernel) ⟨Nat.le_of_ble_eq_true rfl, Nat.le_of_ble_eq_true rfl⟩, rfl, hts (.instanceMethod yX6_init) (ev_gwm (List.mem_of_getElem? (i := 93) (by decide +kernel)) rfl)⟩ ⟨fun a U g mk z => by obtain ⟨z0, z1, z2, z3, z4⟩ := z; exact ⟨z0, z1, z2, va_K.moved (u := U) (U := U.calling g mk a) (Vm.Alike.refl U.vm) z3, z4⟩, fun U hU hW => ⟨rfl, by rw [hU], by rw [hU]; exact hPc, va_K.moved hW.alike hK, hDc.weaken (fun _ _ _ _ => trivial)⟩⟩ rfl rfl hl.1 rfl (lv_room (Nat.le_of_ble_eq_true rfl)) ew_d_7_9 ⟨Nat.le_of_ble_eq_true rfl, Nat.le_of_ble_eq_true rfl⟩) hS (fun q _ h => hFc q h) hFc (fun u0 t H1 locs ht hvm hw hB hz1 hk1 hS => ?_)
  obtain ⟨hP1, hD1⟩ := hB
  rw [ht] at hP1
  obtain ⟨hP, hD⟩ := va_join (wr := [(h0, .inr (7, [.null, .null, .null, .int 0, .int 0, .int 0, .int 0]))]) (w1 := ew_w6 cI cZ q0 u0) hP hD [1] [0] rfl rfl (by decide) (by decide) hk1 hFc hP1 hD1
  clear hPc hDc hFc hP1 hD1 hk1 hz1 hw hvm ht
  generalize H1 = H at hP hS ⊢
  refine W.widen (k := 5) (n := 86) (Nat.le_of_ble_eq_true rfl) (Nat.le_of_ble_eq_true rfl) ?_
  refine va_putF (D := D) (ci := 7) (v := .ref q0) (ty := tyX7 0) (C := RX7) (T := TX7) (N := 7) hx hb hts (ev_in_g 7 (by decide)) tyX7 tyX7_ok nmX7 hown hK hP hD hS 0 rfl rfl 0 (by decide) (hts (.fieldLink RX7 12 RX7 "roads" "LBridgeRounds$Roads;") (ev_gwm (List.mem_of_getElem? (i := 244) (by decide +kernel)) rfl)) (fun _ h9 => h9) rfl hin rfl (by decide +kernel) rfl rfl (Nat.le_of_ble_eq_true rfl) ew_d_7_12 (fun H locs hP hD hS => ?_)
  have hP : va_P D vwCl (([(h0, .inr (7, [.ref q0, .null, .null, .int 0, .int 0, .int 0, .int 0]))] ++ ew_w6 cI cZ q0 u0)) H := hP
  have hD : va_D A (([(h0, .inr (7, [.ref q0, .null, .null, .int 0, .int 0, .int 0, .int 0]))] ++ ew_w6 cI cZ q0 u0)) := hD
  refine lv_aload_n hx hb ew_d_7_15 rfl (lv_at hl 0 rfl) ?_
  refine va_new (ci := 1) (fs := [.int 0, .null, .null, .null, .null, .null, .null, .null, .null, .null, .null]) (C := RX1) (T := TX1) (N := 11) hx hb hts (ev_in_g 1 (by decide)) tyX1 tyX1_ok hown (hts (.classLink RX7 18 RX1) (ev_gwm (List.mem_of_getElem? (i := 131) (by decide +kernel)) rfl)) (hts (.instantiable RX1 11) (ev_gwm (List.mem_of_getElem? (i := 132) (by decide +kernel)) rfl)) (hts (.initialized RX1) (ev_gwm (List.mem_of_getElem? (i := 66) (by decide +kernel)) rfl)) hK hP hD hS hA rfl (fun j hj => by rcases (show j = 0 ∨ j = 1 ∨ j = 2 ∨ j = 3 ∨ j = 4 ∨ j = 5 ∨ j = 6 ∨ j = 7 ∨ j = 8 ∨ j = 9 ∨ j = 10 by omega) with rfl | rfl | rfl | rfl | rfl | rfl | rfl | rfl | rfl | rfl | rfl <;> rfl) (Nat.le_of_ble_eq_true rfl) (Nat.le_of_ble_eq_true rfl) ew_d_7_16 (fun q1 H hP hD hS => ?_)
  refine W.widen (k := 6) (n := 97) (Nat.le_of_ble_eq_true rfl) (Nat.le_of_ble_eq_true rfl) ?_
  refine lv_dup hx hb ew_d_7_19 rfl ?_
  have hPc := hP.sub (ws' := [(q1, .inr (1, [.int 0, .null, .null, .null, .null, .null, .null, .null, .null, .null, .null]))]) [6] rfl
  have hDc := hD.sub (ws' := [(q1, .inr (1, [.int 0, .null, .null, .null, .null, .null, .null, .null, .null, .null, .null]))]) [6] (by decide) rfl
  have hFc := va_free (wc := [(q1, .inr (1, [.int 0, .null, .null, .null, .null, .null, .null, .null, .null, .null, .null]))]) hD hS hA [6] rfl
  refine va_callv (va_runIN (As := []) (rest := [.ref q1, .ref h0]) (host := "BridgeRounds") ⟨hx, hb, hml, hown, hts⟩ (ew_c_1 l D cI cZ cS q1 H.size) ⟨va_cnB 0 hts (ew_good (w0 := .code yX1_init cX1_init 1 none) (ev_gwm (List.mem_of_getElem? (i := 135) (by decide +kernel)) rfl)) rfl rfl rfl (hNW (7, 20, yX1_init) (by decide +kernel)) (hts (.initialized RX1) (ev_gwm (List.mem_of_getElem? (i := 66) (by decide +kernel)) rfl)) (by decide +kernel) ⟨Nat.le_of_ble_eq_true rfl, Nat.le_of_ble_eq_true rfl⟩, rfl, hts (.instanceMethod yX1_init) (ev_gwm (List.mem_of_getElem? (i := 134) (by decide +kernel)) rfl)⟩ ⟨fun a U g mk z => by obtain ⟨z0, z1, z2, z3, z4⟩ := z; exact ⟨z0, z1, z2, va_K.moved (u := U) (U := U.calling g mk a) (Vm.Alike.refl U.vm) z3, z4⟩, fun U hU hW => ⟨rfl, by rw [hU], by rw [hU]; exact hPc, va_K.moved hW.alike hK, hDc.weaken (fun _ _ _ _ => trivial)⟩⟩ rfl rfl hl.1 rfl (lv_room (Nat.le_of_ble_eq_true rfl)) ew_d_7_20 ⟨Nat.le_of_ble_eq_true rfl, Nat.le_of_ble_eq_true rfl⟩) hS (fun q _ h => hFc q h) hFc (fun u1 t H1 locs ht hvm hw hB hz1 hk1 hS => ?_)
  obtain ⟨hP1, hD1⟩ := hB
  rw [ht] at hP1
  obtain ⟨hP, hD⟩ := va_join (wr := ([(h0, .inr (7, [.ref q0, .null, .null, .int 0, .int 0, .int 0, .int 0]))] ++ ew_w6 cI cZ q0 u0)) (w1 := ew_w1 cI cZ q1 u1) hP hD [6] [0, 1, 2, 3, 4, 5] rfl rfl (by decide) (by decide) hk1 hFc hP1 hD1
  clear hPc hDc hFc hP1 hD1 hk1 hz1 hw hvm ht
  generalize H1 = H at hP hS ⊢
  refine W.widen (k := 16) (n := 307) (Nat.le_of_ble_eq_true rfl) (Nat.le_of_ble_eq_true rfl) ?_
  refine va_putF (D := D) (ci := 7) (v := .ref q1) (ty := tyX7 1) (C := RX7) (T := TX7) (N := 7) hx hb hts (ev_in_g 7 (by decide)) tyX7 tyX7_ok nmX7 hown hK hP hD hS 0 rfl rfl 1 (by decide) (hts (.fieldLink RX7 21 RX7 "bridges" "LBridgeRounds$Bridges;") (ev_gwm (List.mem_of_getElem? (i := 249) (by decide +kernel)) rfl)) (fun _ h9 => h9) rfl hin rfl (by decide +kernel) rfl rfl (Nat.le_of_ble_eq_true rfl) ew_d_7_23 (fun H locs hP hD hS => ?_)
  have hP : va_P D vwCl ((([(h0, .inr (7, [.ref q0, .ref q1, .null, .int 0, .int 0, .int 0, .int 0]))] ++ ew_w6 cI cZ q0 u0) ++ ew_w1 cI cZ q1 u1)) H := hP
  have hD : va_D A ((([(h0, .inr (7, [.ref q0, .ref q1, .null, .int 0, .int 0, .int 0, .int 0]))] ++ ew_w6 cI cZ q0 u0) ++ ew_w1 cI cZ q1 u1)) := hD
  refine lv_aload_n hx hb ew_d_7_26 rfl (lv_at hl 0 rfl) ?_
  refine va_new (ci := 4) (fs := [.int 0, .int 0, .null, .null, .null, .null, .null]) (C := RX4) (T := TX4) (N := 7) hx hb hts (ev_in_g 4 (by decide)) tyX4 tyX4_ok hown (hts (.classLink RX7 25 RX4) (ev_gwm (List.mem_of_getElem? (i := 196) (by decide +kernel)) rfl)) (hts (.instantiable RX4 7) (ev_gwm (List.mem_of_getElem? (i := 197) (by decide +kernel)) rfl)) (hts (.initialized RX4) (ev_gwm (List.mem_of_getElem? (i := 67) (by decide +kernel)) rfl)) hK hP hD hS hA rfl (fun j hj => by rcases (show j = 0 ∨ j = 1 ∨ j = 2 ∨ j = 3 ∨ j = 4 ∨ j = 5 ∨ j = 6 by omega) with rfl | rfl | rfl | rfl | rfl | rfl | rfl <;> rfl) (Nat.le_of_ble_eq_true rfl) (Nat.le_of_ble_eq_true rfl) ew_d_7_27 (fun q2 H hP hD hS => ?_)
  refine W.widen (k := 17) (n := 314) (Nat.le_of_ble_eq_true rfl) (Nat.le_of_ble_eq_true rfl) ?_
  refine lv_dup hx hb ew_d_7_30 rfl ?_
  have hPc := hP.sub (ws' := [(q2, .inr (4, [.int 0, .int 0, .null, .null, .null, .null, .null]))]) [17] rfl
  have hDc := hD.sub (ws' := [(q2, .inr (4, [.int 0, .int 0, .null, .null, .null, .null, .null]))]) [17] (by decide) rfl
  have hFc := va_free (wc := [(q2, .inr (4, [.int 0, .int 0, .null, .null, .null, .null, .null]))]) hD hS hA [17] rfl
  refine va_callv (va_runIN (As := []) (rest := [.ref q2, .ref h0]) (host := "BridgeRounds") ⟨hx, hb, hml, hown, hts⟩ (ew_c_4 l D cI cZ cS q2 H.size) ⟨va_cnB 0 hts (ew_good (w0 := .code yX4_init cX4_init 1 none) (ev_gwm (List.mem_of_getElem? (i := 200) (by decide +kernel)) rfl)) rfl rfl rfl (hNW (7, 27, yX4_init) (by decide +kernel)) (hts (.initialized RX4) (ev_gwm (List.mem_of_getElem? (i := 67) (by decide +kernel)) rfl)) (by decide +kernel) ⟨Nat.le_of_ble_eq_true rfl, Nat.le_of_ble_eq_true rfl⟩, rfl, hts (.instanceMethod yX4_init) (ev_gwm (List.mem_of_getElem? (i := 199) (by decide +kernel)) rfl)⟩ ⟨fun a U g mk z => by obtain ⟨z0, z1, z2, z3, z4⟩ := z; exact ⟨z0, z1, z2, va_K.moved (u := U) (U := U.calling g mk a) (Vm.Alike.refl U.vm) z3, z4⟩, fun U hU hW => ⟨rfl, by rw [hU], by rw [hU]; exact hPc, va_K.moved hW.alike hK, hDc.weaken (fun _ _ _ _ => trivial)⟩⟩ rfl rfl hl.1 rfl (lv_room (Nat.le_of_ble_eq_true rfl)) ew_d_7_31 ⟨Nat.le_of_ble_eq_true rfl, Nat.le_of_ble_eq_true rfl⟩) hS (fun q _ h => hFc q h) hFc (fun u2 t H1 locs ht hvm hw hB hz1 hk1 hS => ?_)
  obtain ⟨hP1, hD1⟩ := hB
  rw [ht] at hP1
  obtain ⟨hP, hD⟩ := va_join (wr := (([(h0, .inr (7, [.ref q0, .ref q1, .null, .int 0, .int 0, .int 0, .int 0]))] ++ ew_w6 cI cZ q0 u0) ++ ew_w1 cI cZ q1 u1)) (w1 := ew_w4 cI cZ q2 u2) hP hD [17] [0, 1, 2, 3, 4, 5, 6, 7, 8, 9, 10, 11, 12, 13, 14, 15, 16] rfl rfl (by decide) (by decide) hk1 hFc hP1 hD1
  clear hPc hDc hFc hP1 hD1 hk1 hz1 hw hvm ht
  generalize H1 = H at hP hS ⊢
  refine W.widen (k := 22) (n := 353) (Nat.le_of_ble_eq_true rfl) (Nat.le_of_ble_eq_true rfl) ?_
  refine va_putF (D := D) (ci := 7) (v := .ref q2) (ty := tyX7 2) (C := RX7) (T := TX7) (N := 7) hx hb hts (ev_in_g 7 (by decide)) tyX7 tyX7_ok nmX7 hown hK hP hD hS 0 rfl rfl 2 (by decide) (hts (.fieldLink RX7 28 RX7 "repairs" "LBridgeRounds$Repairs;") (ev_gwm (List.mem_of_getElem? (i := 254) (by decide +kernel)) rfl)) (fun _ h9 => h9) rfl hin rfl (by decide +kernel) rfl rfl (Nat.le_of_ble_eq_true rfl) ew_d_7_34 (fun H locs hP hD hS => ?_)
  have hP : va_P D vwCl (((([(h0, .inr (7, [.ref q0, .ref q1, .ref q2, .int 0, .int 0, .int 0, .int 0]))] ++ ew_w6 cI cZ q0 u0) ++ ew_w1 cI cZ q1 u1) ++ ew_w4 cI cZ q2 u2)) H := hP
  have hD : va_D A (((([(h0, .inr (7, [.ref q0, .ref q1, .ref q2, .int 0, .int 0, .int 0, .int 0]))] ++ ew_w6 cI cZ q0 u0) ++ ew_w1 cI cZ q1 u1) ++ ew_w4 cI cZ q2 u2)) := hD
  exact W.vret hx hb hr (fun t ht hW => ⟨⟨fun k => [h0, q0, u0 1, u0 2, u0 3, u0 4, q1, u1 1, u1 2, u1 3, u1 4, u1 5, u1 6, u1 7, u1 8, u1 9, u1 10, q2, u2 1, u2 2, u2 3, u2 4, u2 5].getD k 0, rfl, rfl, by rw [ht]; exact hP, hD⟩, hS.F ht⟩) hS.2.2 ew_d_7_37

