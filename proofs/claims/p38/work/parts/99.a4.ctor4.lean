/-! the constructor of BridgeRounds -/
theorem ew_last_P {D : va_G} {cl : List vw_C} {wr : va_W} {c : Nat × va_E} {H : Heap} (hP : va_P D cl (wr ++ [c]) H) : va_P D cl [c] H := fun k q hq => by
  have hk : k = 0 := by
    have := (List.getElem?_eq_some_iff.mp hq).1
    simp at this
    exact this
  subst hk
  exact hP wr.length q (by rw [List.getElem?_append_right (Nat.le_refl _), Nat.sub_self]; exact hq)
theorem ew_last_D {A : Nat → Prop} {wr : va_W} {c : Nat × va_E} (hD : va_D A (wr ++ [c])) : va_D A [c] := by
  have key : ∀ (k : Nat) (q : Nat × va_E), ([c] : va_W)[k]? = some q → k = 0 ∧ (wr ++ [c])[wr.length]? = some q := fun k q hq => by
    have hk : k = 0 := by
      have := (List.getElem?_eq_some_iff.mp hq).1
      simp at this
      exact this
    subst hk
    exact ⟨rfl, by rw [List.getElem?_append_right (Nat.le_refl _), Nat.sub_self]; exact hq⟩
  exact ⟨fun i j p q hp hq _ => by rw [(key i p hp).1, (key j q hq).1], fun k q hq => hD.2 _ q (key k q hq).2⟩
theorem ew_last_F {A0 : Nat → Prop} {wr : va_W} {c : Nat × va_E} {H0 H : Heap} {locs : List Loc} (hD : va_D A0 (wr ++ [c])) (hS : va_S A0 H0 H locs) (hA : ∀ q, H0.size ≤ q → A0 q) : ∀ q, va_A [c] H.size q → A0 q := by
  intro q h
  rcases h with ⟨k, e, h⟩ | h
  · exact (ew_last_D hD).2 k (q, e) h
  · exact hA q (Nat.le_trans hS.1 h)
theorem ew_last_J {A0 : Nat → Prop} {D : va_G} {cl : List vw_C} {wr w1 : va_W} {c : Nat × va_E} {H H1 : Heap} (hP : va_P D cl (wr ++ [c]) H) (hD : va_D A0 (wr ++ [c])) (hk : ∀ q : Nat, q < H.size → ¬ va_A [c] H.size q → H1[q]? = H[q]?) (hF : ∀ q, va_A [c] H.size q → A0 q) (hP1 : va_P D cl w1 H1) (hD1 : va_D (va_A [c] H.size) w1) : va_P D cl (wr ++ w1) H1 ∧ va_D A0 (wr ++ w1) := by
  have at' : ∀ (k : Nat) (q : Nat × va_E), wr[k]? = some q → (wr ++ [c])[k]? = some q ∧ k < wr.length := fun k q hq => by
    have hl := (List.getElem?_eq_some_iff.mp hq).1
    exact ⟨by rw [List.getElem?_append_left hl]; exact hq, hl⟩
  have last : (wr ++ [c])[wr.length]? = some c := by rw [List.getElem?_append_right (Nat.le_refl _), Nat.sub_self]; rfl
  have apart : ∀ (k : Nat) (q : Nat × va_E), wr[k]? = some q → q.1 < H.size ∧ ¬ va_A [c] H.size q.1 := by
    intro k q hq
    obtain ⟨h2, hl⟩ := at' k q hq
    have hlt := (hP k q h2).lt
    refine ⟨hlt, fun h => ?_⟩
    rcases h with ⟨k2, e, h⟩ | h
    · have hk2 : k2 = 0 := by
        have := (List.getElem?_eq_some_iff.mp h).1
        simp at this
        exact this
      subst hk2
      have hc : c = (q.1, e) := Option.some.inj h
      have hij := hD.1 k wr.length q c h2 last (by rw [hc])
      omega
    · omega
  refine ⟨va_P.app (fun k q hq => ?_) hP1, va_D.app ⟨fun i j x y hx hy hxy => hD.1 i j x y (at' i x hx).1 (at' j y hy).1 hxy, fun k q hq => hD.2 k q (at' k q hq).1⟩ (hD1.weaken (fun k q _ h => hF q.1 h)) (fun i j x y hx hy hxy => ?_)⟩
  · obtain ⟨g1, g2⟩ := apart k q hq
    exact (hP k q (at' k q hq).1).kept (hk q.1 g1 g2)
  · exact (apart i x hx).2 (by rw [hxy]; exact hD1.2 j y hy)
theorem ew_d_10_0 : decode cX10_init 0 = .ok (.aload_n 0, 1) := by decide +kernel
theorem ew_d_10_1 : decode cX10_init 1 = .ok (.invokespecial 1, 3) := by decide +kernel
theorem ew_d_10_4 : decode cX10_init 4 = .ok (.aload_n 0, 1) := by decide +kernel
theorem ew_d_10_5 : decode cX10_init 5 = .ok (.new 7, 3) := by decide +kernel
theorem ew_d_10_8 : decode cX10_init 8 = .ok (.dup, 1) := by decide +kernel
theorem ew_d_10_9 : decode cX10_init 9 = .ok (.invokespecial 9, 3) := by decide +kernel
theorem ew_d_10_12 : decode cX10_init 12 = .ok (.putfield 10, 3) := by decide +kernel
theorem ew_d_10_15 : decode cX10_init 15 = .ok (.aload_n 0, 1) := by decide +kernel
theorem ew_d_10_16 : decode cX10_init 16 = .ok (.new 7, 3) := by decide +kernel
theorem ew_d_10_19 : decode cX10_init 19 = .ok (.dup, 1) := by decide +kernel
theorem ew_d_10_20 : decode cX10_init 20 = .ok (.invokespecial 9, 3) := by decide +kernel
theorem ew_d_10_23 : decode cX10_init 23 = .ok (.putfield 16, 3) := by decide +kernel
theorem ew_d_10_26 : decode cX10_init 26 = .ok (.aload_n 0, 1) := by decide +kernel
theorem ew_d_10_27 : decode cX10_init 27 = .ok (.new 19, 3) := by decide +kernel
theorem ew_d_10_30 : decode cX10_init 30 = .ok (.dup, 1) := by decide +kernel
theorem ew_d_10_31 : decode cX10_init 31 = .ok (.invokespecial 21, 3) := by decide +kernel
theorem ew_d_10_34 : decode cX10_init 34 = .ok (.putfield 22, 3) := by decide +kernel
theorem ew_d_10_37 : decode cX10_init 37 = .ok (.aload_n 0, 1) := by decide +kernel
theorem ew_d_10_38 : decode cX10_init 38 = .ok (.new 26, 3) := by decide +kernel
theorem ew_d_10_41 : decode cX10_init 41 = .ok (.dup, 1) := by decide +kernel
theorem ew_d_10_42 : decode cX10_init 42 = .ok (.invokespecial 28, 3) := by decide +kernel
theorem ew_d_10_45 : decode cX10_init 45 = .ok (.putfield 29, 3) := by decide +kernel
theorem ew_d_10_48 : decode cX10_init 48 = .ok (.aload_n 0, 1) := by decide +kernel
theorem ew_d_10_49 : decode cX10_init 49 = .ok (.new 33, 3) := by decide +kernel
theorem ew_d_10_52 : decode cX10_init 52 = .ok (.dup, 1) := by decide +kernel
theorem ew_d_10_53 : decode cX10_init 53 = .ok (.invokespecial 35, 3) := by decide +kernel
theorem ew_d_10_56 : decode cX10_init 56 = .ok (.putfield 36, 3) := by decide +kernel
theorem ew_d_10_59 : decode cX10_init 59 = .ok (.aload_n 0, 1) := by decide +kernel
theorem ew_d_10_60 : decode cX10_init 60 = .ok (.new 40, 3) := by decide +kernel
theorem ew_d_10_63 : decode cX10_init 63 = .ok (.dup, 1) := by decide +kernel
theorem ew_d_10_64 : decode cX10_init 64 = .ok (.invokespecial 42, 3) := by decide +kernel
theorem ew_d_10_67 : decode cX10_init 67 = .ok (.putfield 43, 3) := by decide +kernel
theorem ew_d_10_70 : decode cX10_init 70 = .ok (.aload_n 0, 1) := by decide +kernel
theorem ew_d_10_71 : decode cX10_init 71 = .ok (.new 47, 3) := by decide +kernel
theorem ew_d_10_74 : decode cX10_init 74 = .ok (.dup, 1) := by decide +kernel
theorem ew_d_10_75 : decode cX10_init 75 = .ok (.invokespecial 49, 3) := by decide +kernel
theorem ew_d_10_78 : decode cX10_init 78 = .ok (.putfield 50, 3) := by decide +kernel
theorem ew_d_10_81 : decode cX10_init 81 = .ok (.aload_n 0, 1) := by decide +kernel
theorem ew_d_10_82 : decode cX10_init 82 = .ok (.new 54, 3) := by decide +kernel
theorem ew_d_10_85 : decode cX10_init 85 = .ok (.dup, 1) := by decide +kernel
theorem ew_d_10_86 : decode cX10_init 86 = .ok (.invokespecial 56, 3) := by decide +kernel
theorem ew_d_10_89 : decode cX10_init 89 = .ok (.putfield 57, 3) := by decide +kernel
theorem ew_d_10_92 : decode cX10_init 92 = .ok (.return_, 1) := by decide +kernel
def ew_w10 (cI cZ cS : ClassId) (h0 : Nat) (v : Nat → Nat → Nat) : va_W := (h0, .inr (10, [.ref (v 0 0), .ref (v 1 0), .ref (v 2 0), .ref (v 3 0), .ref (v 4 0), .ref (v 5 0), .ref (v 6 0), .ref (v 7 0)])) :: ((((((((ew_w7 cI cZ (v 0 0) (v 0)) ++ (ew_w7 cI cZ (v 1 0) (v 1))) ++ (ew_w3 cI cZ cS (v 2 0) (v 2))) ++ (ew_w5 cI cZ (v 3 0) (v 3))) ++ (ew_w2 cI cZ (v 4 0) (v 4))) ++ (ew_w9 cI cZ (v 5 0) (v 5))) ++ (ew_w8 cI cZ (v 6 0) (v 6))) ++ (ew_w0 cI cZ (v 7 0) (v 7)))
set_option maxHeartbeats 8000000 in
set_option maxRecDepth 100000 in
theorem ew_c_10 (l : Launch) (D : va_G) (cI cZ cS : ClassId) (h0 sz : Nat) : Met l yX10_init (.code yX10_init cX10_init 1 none :: ev_gw) { frames := 4, cells := 181, slots := 2792, locals := 73 } (va_Pc [.ref h0] (fun U => U.heap.size = sz ∧ va_P D vwCl [(h0, .inr (10, [.null, .null, .null, .null, .null, .null, .null, .null]))] U.heap ∧ va_K D vwCl (ev_ty cI cZ cS) U ∧ ew_NW U ∧ va_AO "BridgeRounds$State" U ∧ va_D (fun _ => True) [(h0, .inr (10, [.null, .null, .null, .null, .null, .null, .null, .null]))])) (va_Qv (fun _ : Nat → Nat → Nat => True) (fun u t => va_P D vwCl (ew_w10 cI cZ cS h0 u) t.heap ∧ va_D (va_A [(h0, .inr (10, [.null, .null, .null, .null, .null, .null, .null, .null]))] sz) (ew_w10 cI cZ cS h0 u)) (va_A [(h0, .inr (10, [.null, .null, .null, .null, .null, .null, .null, .null]))] sz)) 181 2792 (va_A [(h0, .inr (10, [.null, .null, .null, .null, .null, .null, .null, .null]))] sz) := by
  refine Met.ofW (cc := cX10_init) (maxL := 1) (ret := none) (by decide) rfl ?_
  intro p e s m args below meth c s₁ B hml hv
  obtain ⟨rfl, hsz, hP, hK, hNW, hAO, hD0⟩ := hv
  have hx := B.exec
  have hb := B.bytes
  have hr := B.returns
  have hts : ∀ w ∈ ev_gw, w.before #[Value.ref h0] s = true := fun w hw => atoms_spec (ws := .code yX10_init cX10_init 1 none :: ev_gw) B.pre w (List.mem_cons_of_mem _ hw)
  have hown : s.vm.findClass RX10 = some m.cls := findClass_of_methodNamed B.named
  have hlocks := B.notSynchronized
  have hin : meth.name = "<init>" := (name_of_methodNamed B.named B.method).1
  subst hsz
  have hD := hD0.self (sz := s.heap.size)
  generalize hAe : va_A [(h0, .inr (10, [.null, .null, .null, .null, .null, .null, .null, .null]))] s.heap.size = A at hD ⊢
  have hA : ∀ q : Nat, s.heap.size ≤ q → A q := fun q h => by rw [← hAe]; exact Or.inr h
  have hS : va_S A s.heap s.heap [] := va_S.rf
  have hP : va_P D vwCl [(h0, .inr (10, [.null, .null, .null, .null, .null, .null, .null, .null]))] s.heap := hP
  have hl := lv_entry ([.ref h0]) (n := 1) (Nat.le_of_ble_eq_true rfl)
  rw [lg_entry_eq]
  generalize (lg_sl ([.ref h0]) ++ List.replicate (1 - (lg_sl ([.ref h0])).length) Slot.unset).toArray = ls at hl ⊢
  have hl : lv_has ls 1 [(0, .ref h0)] := hl
  have hArI : (Cond.arrayClass .int).before #[Value.ref h0] s = true := hts _ (ev_gwm (List.mem_of_getElem? (i := 130) (by decide +kernel)) rfl)
  have hArZ : (Cond.arrayClass .boolean).before #[Value.ref h0] s = true := hts _ (ev_gwm (List.mem_of_getElem? (i := 195) (by decide +kernel)) rfl)
  refine lv_aload_n hx hb ew_d_10_0 rfl (lv_at hl 0 rfl) ?_
  refine W.objInit hx hb hown (hts (.methodLink RX10 1 Lib.objectInit) (ev_gwm (List.mem_of_getElem? (i := 81) (by decide +kernel)) rfl)) (hts (.instanceMethod Lib.objectInit) (ev_gwm (List.mem_of_getElem? (i := 82) (by decide +kernel)) rfl)) (hts (.code Lib.objectInit ⟨#[0xb1]⟩ 1 none) (ev_gwm (List.mem_of_getElem? (i := 83) (by decide +kernel)) rfl)) rfl (by rw [hml]; exact hl.1) rfl ew_d_10_1 (Nat.le_of_ble_eq_true rfl) (Nat.le_of_ble_eq_true rfl) ?_
  refine W.eq (g2 := F0 m 4 ls []) rfl ?_
  refine lv_aload_n hx hb ew_d_10_4 rfl (lv_at hl 0 rfl) ?_
  obtain ⟨wr, hwr⟩ : ∃ wr : va_W, wr = (h0, .inr (10, [.null, .null, .null, .null, .null, .null, .null, .null])) :: [] := ⟨_, rfl⟩
  rw [← hwr] at hP hD
  refine va_new (ci := 7) (fs := [.null, .null, .null, .int 0, .int 0, .int 0, .int 0]) (C := RX7) (T := TX7) (N := 7) hx hb hts (ev_in_g 7 (by decide)) tyX7 tyX7_ok hown (hts (.classLink RX10 7 RX7) (ev_gwm (List.mem_of_getElem? (i := 84) (by decide +kernel)) rfl)) (hts (.instantiable RX7 7) (ev_gwm (List.mem_of_getElem? (i := 85) (by decide +kernel)) rfl)) (hts (.initialized RX7) (ev_gwm (List.mem_of_getElem? (i := 64) (by decide +kernel)) rfl)) hK hP hD hS hA rfl (fun j hj => by rcases (show j = 0 ∨ j = 1 ∨ j = 2 ∨ j = 3 ∨ j = 4 ∨ j = 5 ∨ j = 6 by omega) with rfl | rfl | rfl | rfl | rfl | rfl | rfl <;> rfl) (Nat.le_of_ble_eq_true rfl) (Nat.le_of_ble_eq_true rfl) ew_d_10_5 (fun q0 H hP hD hS => ?_)
  refine W.widen (k := 1) (n := 7) (Nat.le_of_ble_eq_true rfl) (Nat.le_of_ble_eq_true rfl) ?_
  refine lv_dup hx hb ew_d_10_8 rfl ?_
  have hPc := ew_last_P hP
  have hDc := ew_last_D hD
  have hFc := ew_last_F hD hS hA
  refine va_callv (va_runIN (As := []) (rest := [.ref q0, .ref h0]) (host := "BridgeRounds") ⟨hx, hb, hml, hown, hts⟩ (ew_c_7 l D cI cZ cS q0 H.size) ⟨va_cnB 0 hts (ew_good (w0 := .code yX7_init cX7_init 1 none) (ev_gwm (List.mem_of_getElem? (i := 88) (by decide +kernel)) rfl)) rfl rfl rfl (hNW (10, 9, yX7_init) (by decide +kernel)) (hts (.initialized RX7) (ev_gwm (List.mem_of_getElem? (i := 64) (by decide +kernel)) rfl)) (by decide +kernel) ⟨Nat.le_of_ble_eq_true rfl, Nat.le_of_ble_eq_true rfl⟩, rfl, hts (.instanceMethod yX7_init) (ev_gwm (List.mem_of_getElem? (i := 87) (by decide +kernel)) rfl)⟩ ⟨fun a U g mk z => by obtain ⟨z0, z1, z2, z3, z4, z5, z6⟩ := z; exact ⟨z0, z1, z2, va_K.moved (u := U) (U := U.calling g mk a) (Vm.Alike.refl U.vm) z3, ew_NW_same (s := U) (U := U.calling g mk a) rfl z4, va_AO.moved (u := U) (U := U.calling g mk a) (Vm.Alike.refl U.vm) z5, z6⟩, fun U hU hW => ⟨rfl, by rw [hU], by rw [hU]; exact hPc, va_K.moved hW.alike hK, ew_NW_warm hW hNW, va_AO.moved hW.alike hAO, hDc.weaken (fun _ _ _ _ => trivial)⟩⟩ rfl rfl hl.1 rfl (lv_room (Nat.le_of_ble_eq_true rfl)) ew_d_10_9 ⟨Nat.le_of_ble_eq_true rfl, Nat.le_of_ble_eq_true rfl⟩) hS (fun q _ h => hFc q h) hFc (fun u0 t H1 locs ht hvm hw hB hz1 hk1 hS => ?_)
  obtain ⟨hP1, hD1⟩ := hB
  rw [ht] at hP1
  obtain ⟨hP, hD⟩ := ew_last_J hP hD hk1 hFc hP1 hD1
  clear hPc hDc hFc hP1 hD1 hk1 hz1 hvm ht
  generalize H1 = H at hP hS ⊢
  subst hwr
  subst hw
  refine W.widen (k := 23) (n := 360) (Nat.le_of_ble_eq_true rfl) (Nat.le_of_ble_eq_true rfl) ?_
  have hP : va_P D vwCl ((h0, .inr (10, [.null, .null, .null, .null, .null, .null, .null, .null])) :: (ew_w7 cI cZ (u0 0) u0)) H := hP
  have hD : va_D A ((h0, .inr (10, [.null, .null, .null, .null, .null, .null, .null, .null])) :: (ew_w7 cI cZ (u0 0) u0)) := hD
  refine va_putF (D := D) (ci := 10) (v := .ref (u0 0)) (ty := tyX10 0) (C := RX10) (T := TX10) (N := 8) hx hb hts (ev_in_g 10 (by decide)) tyX10 tyX10_ok nmX10 hown hK hP hD hS 0 rfl rfl 0 (by decide) (hts (.fieldLink RX10 10 RX10 "now" "LBridgeRounds$State;") (ev_gwm (List.mem_of_getElem? (i := 409) (by decide +kernel)) rfl)) (fun _ h9 => h9) rfl hin rfl (by decide +kernel) rfl rfl (Nat.le_of_ble_eq_true rfl) ew_d_10_12 (fun H locs hP hD hS => ?_)
  have hP : va_P D vwCl ((h0, .inr (10, [.ref (u0 0), .null, .null, .null, .null, .null, .null, .null])) :: (ew_w7 cI cZ (u0 0) u0)) H := hP
  have hD : va_D A ((h0, .inr (10, [.ref (u0 0), .null, .null, .null, .null, .null, .null, .null])) :: (ew_w7 cI cZ (u0 0) u0)) := hD
  refine lv_aload_n hx hb ew_d_10_15 rfl (lv_at hl 0 rfl) ?_
  obtain ⟨wr, hwr⟩ : ∃ wr : va_W, wr = (h0, .inr (10, [.ref (u0 0), .null, .null, .null, .null, .null, .null, .null])) :: (ew_w7 cI cZ (u0 0) u0) := ⟨_, rfl⟩
  rw [← hwr] at hP hD
  refine va_new (ci := 7) (fs := [.null, .null, .null, .int 0, .int 0, .int 0, .int 0]) (C := RX7) (T := TX7) (N := 7) hx hb hts (ev_in_g 7 (by decide)) tyX7 tyX7_ok hown (hts (.classLink RX10 7 RX7) (ev_gwm (List.mem_of_getElem? (i := 84) (by decide +kernel)) rfl)) (hts (.instantiable RX7 7) (ev_gwm (List.mem_of_getElem? (i := 85) (by decide +kernel)) rfl)) (hts (.initialized RX7) (ev_gwm (List.mem_of_getElem? (i := 64) (by decide +kernel)) rfl)) hK hP hD hS hA rfl (fun j hj => by rcases (show j = 0 ∨ j = 1 ∨ j = 2 ∨ j = 3 ∨ j = 4 ∨ j = 5 ∨ j = 6 by omega) with rfl | rfl | rfl | rfl | rfl | rfl | rfl <;> rfl) (Nat.le_of_ble_eq_true rfl) (Nat.le_of_ble_eq_true rfl) ew_d_10_16 (fun q1 H hP hD hS => ?_)
  refine W.widen (k := 24) (n := 367) (Nat.le_of_ble_eq_true rfl) (Nat.le_of_ble_eq_true rfl) ?_
  refine lv_dup hx hb ew_d_10_19 rfl ?_
  have hPc := ew_last_P hP
  have hDc := ew_last_D hD
  have hFc := ew_last_F hD hS hA
  refine va_callv (va_runIN (As := []) (rest := [.ref q1, .ref h0]) (host := "BridgeRounds") ⟨hx, hb, hml, hown, hts⟩ (ew_c_7 l D cI cZ cS q1 H.size) ⟨va_cnB 0 hts (ew_good (w0 := .code yX7_init cX7_init 1 none) (ev_gwm (List.mem_of_getElem? (i := 88) (by decide +kernel)) rfl)) rfl rfl rfl (hNW (10, 9, yX7_init) (by decide +kernel)) (hts (.initialized RX7) (ev_gwm (List.mem_of_getElem? (i := 64) (by decide +kernel)) rfl)) (by decide +kernel) ⟨Nat.le_of_ble_eq_true rfl, Nat.le_of_ble_eq_true rfl⟩, rfl, hts (.instanceMethod yX7_init) (ev_gwm (List.mem_of_getElem? (i := 87) (by decide +kernel)) rfl)⟩ ⟨fun a U g mk z => by obtain ⟨z0, z1, z2, z3, z4, z5, z6⟩ := z; exact ⟨z0, z1, z2, va_K.moved (u := U) (U := U.calling g mk a) (Vm.Alike.refl U.vm) z3, ew_NW_same (s := U) (U := U.calling g mk a) rfl z4, va_AO.moved (u := U) (U := U.calling g mk a) (Vm.Alike.refl U.vm) z5, z6⟩, fun U hU hW => ⟨rfl, by rw [hU], by rw [hU]; exact hPc, va_K.moved hW.alike hK, ew_NW_warm hW hNW, va_AO.moved hW.alike hAO, hDc.weaken (fun _ _ _ _ => trivial)⟩⟩ rfl rfl hl.1 rfl (lv_room (Nat.le_of_ble_eq_true rfl)) ew_d_10_20 ⟨Nat.le_of_ble_eq_true rfl, Nat.le_of_ble_eq_true rfl⟩) hS (fun q _ h => hFc q h) hFc (fun u1 t H1 locs ht hvm hw hB hz1 hk1 hS => ?_)
  obtain ⟨hP1, hD1⟩ := hB
  rw [ht] at hP1
  obtain ⟨hP, hD⟩ := ew_last_J hP hD hk1 hFc hP1 hD1
  clear hPc hDc hFc hP1 hD1 hk1 hz1 hvm ht
  generalize H1 = H at hP hS ⊢
  subst hwr
  subst hw
  refine W.widen (k := 46) (n := 720) (Nat.le_of_ble_eq_true rfl) (Nat.le_of_ble_eq_true rfl) ?_
  have hP : va_P D vwCl ((h0, .inr (10, [.ref (u0 0), .null, .null, .null, .null, .null, .null, .null])) :: ((ew_w7 cI cZ (u0 0) u0) ++ (ew_w7 cI cZ (u1 0) u1))) H := hP
  have hD : va_D A ((h0, .inr (10, [.ref (u0 0), .null, .null, .null, .null, .null, .null, .null])) :: ((ew_w7 cI cZ (u0 0) u0) ++ (ew_w7 cI cZ (u1 0) u1))) := hD
  refine va_putF (D := D) (ci := 10) (v := .ref (u1 0)) (ty := tyX10 1) (C := RX10) (T := TX10) (N := 8) hx hb hts (ev_in_g 10 (by decide)) tyX10 tyX10_ok nmX10 hown hK hP hD hS 0 rfl rfl 1 (by decide) (hts (.fieldLink RX10 16 RX10 "supposed" "LBridgeRounds$State;") (ev_gwm (List.mem_of_getElem? (i := 410) (by decide +kernel)) rfl)) (fun _ h9 => h9) rfl hin rfl (by decide +kernel) rfl rfl (Nat.le_of_ble_eq_true rfl) ew_d_10_23 (fun H locs hP hD hS => ?_)
  have hP : va_P D vwCl ((h0, .inr (10, [.ref (u0 0), .ref (u1 0), .null, .null, .null, .null, .null, .null])) :: ((ew_w7 cI cZ (u0 0) u0) ++ (ew_w7 cI cZ (u1 0) u1))) H := hP
  have hD : va_D A ((h0, .inr (10, [.ref (u0 0), .ref (u1 0), .null, .null, .null, .null, .null, .null])) :: ((ew_w7 cI cZ (u0 0) u0) ++ (ew_w7 cI cZ (u1 0) u1))) := hD
  refine lv_aload_n hx hb ew_d_10_26 rfl (lv_at hl 0 rfl) ?_
  obtain ⟨wr, hwr⟩ : ∃ wr : va_W, wr = (h0, .inr (10, [.ref (u0 0), .ref (u1 0), .null, .null, .null, .null, .null, .null])) :: ((ew_w7 cI cZ (u0 0) u0) ++ (ew_w7 cI cZ (u1 0) u1)) := ⟨_, rfl⟩
  rw [← hwr] at hP hD
  refine va_new (ci := 3) (fs := [.int 0, .null]) (C := RX3) (T := TX3) (N := 2) hx hb hts (ev_in_g 3 (by decide)) tyX3 tyX3_ok hown (hts (.classLink RX10 19 RX3) (ev_gwm (List.mem_of_getElem? (i := 281) (by decide +kernel)) rfl)) (hts (.instantiable RX3 2) (ev_gwm (List.mem_of_getElem? (i := 282) (by decide +kernel)) rfl)) (hts (.initialized RX3) (ev_gwm (List.mem_of_getElem? (i := 68) (by decide +kernel)) rfl)) hK hP hD hS hA rfl (fun j hj => by rcases (show j = 0 ∨ j = 1 by omega) with rfl | rfl <;> rfl) (Nat.le_of_ble_eq_true rfl) (Nat.le_of_ble_eq_true rfl) ew_d_10_27 (fun q2 H hP hD hS => ?_)
  refine W.widen (k := 47) (n := 722) (Nat.le_of_ble_eq_true rfl) (Nat.le_of_ble_eq_true rfl) ?_
  refine lv_dup hx hb ew_d_10_30 rfl ?_
  have hPc := ew_last_P hP
  have hDc := ew_last_D hD
  have hFc := ew_last_F hD hS hA
  refine va_callv (va_runIN (As := []) (rest := [.ref q2, .ref h0]) (host := "BridgeRounds") ⟨hx, hb, hml, hown, hts⟩ (ew_c_3 l D cI cZ cS q2 H.size) ⟨va_cnB 0 hts (ew_good (w0 := .code yX3_init cX3_init 2 none) (ev_gwm (List.mem_of_getElem? (i := 285) (by decide +kernel)) rfl)) rfl rfl rfl (hNW (10, 21, yX3_init) (by decide +kernel)) (hts (.initialized RX3) (ev_gwm (List.mem_of_getElem? (i := 68) (by decide +kernel)) rfl)) (by decide +kernel) ⟨Nat.le_of_ble_eq_true rfl, Nat.le_of_ble_eq_true rfl⟩, rfl, hts (.instanceMethod yX3_init) (ev_gwm (List.mem_of_getElem? (i := 284) (by decide +kernel)) rfl)⟩ ⟨fun a U g mk z => by obtain ⟨z0, z1, z2, z3, z4, z5, z6⟩ := z; exact ⟨z0, z1, z2, va_K.moved (u := U) (U := U.calling g mk a) (Vm.Alike.refl U.vm) z3, ew_NW_same (s := U) (U := U.calling g mk a) rfl z4, va_AO.moved (u := U) (U := U.calling g mk a) (Vm.Alike.refl U.vm) z5, z6⟩, fun U hU hW => ⟨rfl, by rw [hU], by rw [hU]; exact hPc, va_K.moved hW.alike hK, ew_NW_warm hW hNW, va_AO.moved hW.alike hAO, hDc.weaken (fun _ _ _ _ => trivial)⟩⟩ rfl rfl hl.1 rfl (lv_room (Nat.le_of_ble_eq_true rfl)) ew_d_10_31 ⟨Nat.le_of_ble_eq_true rfl, Nat.le_of_ble_eq_true rfl⟩) hS (fun q _ h => hFc q h) hFc (fun u2 t H1 locs ht hvm hw hB hz1 hk1 hS => ?_)
  obtain ⟨hP1, hD1⟩ := hB
  rw [ht] at hP1
  obtain ⟨hP, hD⟩ := ew_last_J hP hD hk1 hFc hP1 hD1
  clear hPc hDc hFc hP1 hD1 hk1 hz1 hvm ht
  generalize H1 = H at hP hS ⊢
  subst hwr
  subst hw
  refine W.widen (k := 163) (n := 2527) (Nat.le_of_ble_eq_true rfl) (Nat.le_of_ble_eq_true rfl) ?_
  have hP : va_P D vwCl ((h0, .inr (10, [.ref (u0 0), .ref (u1 0), .null, .null, .null, .null, .null, .null])) :: (((ew_w7 cI cZ (u0 0) u0) ++ (ew_w7 cI cZ (u1 0) u1)) ++ (ew_w3 cI cZ cS (u2 0) u2))) H := hP
  have hD : va_D A ((h0, .inr (10, [.ref (u0 0), .ref (u1 0), .null, .null, .null, .null, .null, .null])) :: (((ew_w7 cI cZ (u0 0) u0) ++ (ew_w7 cI cZ (u1 0) u1)) ++ (ew_w3 cI cZ cS (u2 0) u2))) := hD
  refine va_putF (D := D) (ci := 10) (v := .ref (u2 0)) (ty := tyX10 2) (C := RX10) (T := TX10) (N := 8) hx hb hts (ev_in_g 10 (by decide)) tyX10 tyX10_ok nmX10 hown hK hP hD hS 0 rfl rfl 2 (by decide) (hts (.fieldLink RX10 22 RX10 "history" "LBridgeRounds$History;") (ev_gwm (List.mem_of_getElem? (i := 411) (by decide +kernel)) rfl)) (fun _ h9 => h9) rfl hin rfl (by decide +kernel) rfl rfl (Nat.le_of_ble_eq_true rfl) ew_d_10_34 (fun H locs hP hD hS => ?_)
  have hP : va_P D vwCl ((h0, .inr (10, [.ref (u0 0), .ref (u1 0), .ref (u2 0), .null, .null, .null, .null, .null])) :: (((ew_w7 cI cZ (u0 0) u0) ++ (ew_w7 cI cZ (u1 0) u1)) ++ (ew_w3 cI cZ cS (u2 0) u2))) H := hP
  have hD : va_D A ((h0, .inr (10, [.ref (u0 0), .ref (u1 0), .ref (u2 0), .null, .null, .null, .null, .null])) :: (((ew_w7 cI cZ (u0 0) u0) ++ (ew_w7 cI cZ (u1 0) u1)) ++ (ew_w3 cI cZ cS (u2 0) u2))) := hD
  refine lv_aload_n hx hb ew_d_10_37 rfl (lv_at hl 0 rfl) ?_
  obtain ⟨wr, hwr⟩ : ∃ wr : va_W, wr = (h0, .inr (10, [.ref (u0 0), .ref (u1 0), .ref (u2 0), .null, .null, .null, .null, .null])) :: (((ew_w7 cI cZ (u0 0) u0) ++ (ew_w7 cI cZ (u1 0) u1)) ++ (ew_w3 cI cZ cS (u2 0) u2)) := ⟨_, rfl⟩
  rw [← hwr] at hP hD
  refine va_new (ci := 5) (fs := [.null, .int 0, .int 0, .int 0, .int 0, .int 0, .int 0, .null, .null, .null, .null]) (C := RX5) (T := TX5) (N := 11) hx hb hts (ev_in_g 5 (by decide)) tyX5 tyX5_ok hown (hts (.classLink RX10 26 RX5) (ev_gwm (List.mem_of_getElem? (i := 298) (by decide +kernel)) rfl)) (hts (.instantiable RX5 11) (ev_gwm (List.mem_of_getElem? (i := 299) (by decide +kernel)) rfl)) (hts (.initialized RX5) (ev_gwm (List.mem_of_getElem? (i := 69) (by decide +kernel)) rfl)) hK hP hD hS hA rfl (fun j hj => by rcases (show j = 0 ∨ j = 1 ∨ j = 2 ∨ j = 3 ∨ j = 4 ∨ j = 5 ∨ j = 6 ∨ j = 7 ∨ j = 8 ∨ j = 9 ∨ j = 10 by omega) with rfl | rfl | rfl | rfl | rfl | rfl | rfl | rfl | rfl | rfl | rfl <;> rfl) (Nat.le_of_ble_eq_true rfl) (Nat.le_of_ble_eq_true rfl) ew_d_10_38 (fun q3 H hP hD hS => ?_)
  refine W.widen (k := 164) (n := 2538) (Nat.le_of_ble_eq_true rfl) (Nat.le_of_ble_eq_true rfl) ?_
  refine lv_dup hx hb ew_d_10_41 rfl ?_
  have hPc := ew_last_P hP
  have hDc := ew_last_D hD
  have hFc := ew_last_F hD hS hA
  refine va_callv (va_runIN (As := []) (rest := [.ref q3, .ref h0]) (host := "BridgeRounds") ⟨hx, hb, hml, hown, hts⟩ (ew_c_5 l D cI cZ cS q3 H.size) ⟨va_cnB 0 hts (ew_good (w0 := .code yX5_init cX5_init 1 none) (ev_gwm (List.mem_of_getElem? (i := 302) (by decide +kernel)) rfl)) rfl rfl rfl (hNW (10, 28, yX5_init) (by decide +kernel)) (hts (.initialized RX5) (ev_gwm (List.mem_of_getElem? (i := 69) (by decide +kernel)) rfl)) (by decide +kernel) ⟨Nat.le_of_ble_eq_true rfl, Nat.le_of_ble_eq_true rfl⟩, rfl, hts (.instanceMethod yX5_init) (ev_gwm (List.mem_of_getElem? (i := 301) (by decide +kernel)) rfl)⟩ ⟨fun a U g mk z => by obtain ⟨z0, z1, z2, z3, z4⟩ := z; exact ⟨z0, z1, z2, va_K.moved (u := U) (U := U.calling g mk a) (Vm.Alike.refl U.vm) z3, z4⟩, fun U hU hW => ⟨rfl, by rw [hU], by rw [hU]; exact hPc, va_K.moved hW.alike hK, hDc.weaken (fun _ _ _ _ => trivial)⟩⟩ rfl rfl hl.1 rfl (lv_room (Nat.le_of_ble_eq_true rfl)) ew_d_10_42 ⟨Nat.le_of_ble_eq_true rfl, Nat.le_of_ble_eq_true rfl⟩) hS (fun q _ h => hFc q h) hFc (fun u3 t H1 locs ht hvm hw hB hz1 hk1 hS => ?_)
  obtain ⟨hP1, hD1⟩ := hB
  rw [ht] at hP1
  obtain ⟨hP, hD⟩ := ew_last_J hP hD hk1 hFc hP1 hD1
  clear hPc hDc hFc hP1 hD1 hk1 hz1 hvm ht
  generalize H1 = H at hP hS ⊢
  subst hwr
  subst hw
  refine W.widen (k := 169) (n := 2718) (Nat.le_of_ble_eq_true rfl) (Nat.le_of_ble_eq_true rfl) ?_
  have hP : va_P D vwCl ((h0, .inr (10, [.ref (u0 0), .ref (u1 0), .ref (u2 0), .null, .null, .null, .null, .null])) :: ((((ew_w7 cI cZ (u0 0) u0) ++ (ew_w7 cI cZ (u1 0) u1)) ++ (ew_w3 cI cZ cS (u2 0) u2)) ++ (ew_w5 cI cZ (u3 0) u3))) H := hP
  have hD : va_D A ((h0, .inr (10, [.ref (u0 0), .ref (u1 0), .ref (u2 0), .null, .null, .null, .null, .null])) :: ((((ew_w7 cI cZ (u0 0) u0) ++ (ew_w7 cI cZ (u1 0) u1)) ++ (ew_w3 cI cZ cS (u2 0) u2)) ++ (ew_w5 cI cZ (u3 0) u3))) := hD
  refine va_putF (D := D) (ci := 10) (v := .ref (u3 0)) (ty := tyX10 3) (C := RX10) (T := TX10) (N := 8) hx hb hts (ev_in_g 10 (by decide)) tyX10 tyX10_ok nmX10 hown hK hP hD hS 0 rfl rfl 3 (by decide) (hts (.fieldLink RX10 29 RX10 "text" "LBridgeRounds$RoadText;") (ev_gwm (List.mem_of_getElem? (i := 412) (by decide +kernel)) rfl)) (fun _ h9 => h9) rfl hin rfl (by decide +kernel) rfl rfl (Nat.le_of_ble_eq_true rfl) ew_d_10_45 (fun H locs hP hD hS => ?_)
  have hP : va_P D vwCl ((h0, .inr (10, [.ref (u0 0), .ref (u1 0), .ref (u2 0), .ref (u3 0), .null, .null, .null, .null])) :: ((((ew_w7 cI cZ (u0 0) u0) ++ (ew_w7 cI cZ (u1 0) u1)) ++ (ew_w3 cI cZ cS (u2 0) u2)) ++ (ew_w5 cI cZ (u3 0) u3))) H := hP
  have hD : va_D A ((h0, .inr (10, [.ref (u0 0), .ref (u1 0), .ref (u2 0), .ref (u3 0), .null, .null, .null, .null])) :: ((((ew_w7 cI cZ (u0 0) u0) ++ (ew_w7 cI cZ (u1 0) u1)) ++ (ew_w3 cI cZ cS (u2 0) u2)) ++ (ew_w5 cI cZ (u3 0) u3))) := hD
  refine lv_aload_n hx hb ew_d_10_48 rfl (lv_at hl 0 rfl) ?_
  obtain ⟨wr, hwr⟩ : ∃ wr : va_W, wr = (h0, .inr (10, [.ref (u0 0), .ref (u1 0), .ref (u2 0), .ref (u3 0), .null, .null, .null, .null])) :: ((((ew_w7 cI cZ (u0 0) u0) ++ (ew_w7 cI cZ (u1 0) u1)) ++ (ew_w3 cI cZ cS (u2 0) u2)) ++ (ew_w5 cI cZ (u3 0) u3)) := ⟨_, rfl⟩
  rw [← hwr] at hP hD
  refine va_new (ci := 2) (fs := [.null, .null]) (C := RX2) (T := TX2) (N := 2) hx hb hts (ev_in_g 2 (by decide)) tyX2 tyX2_ok hown (hts (.classLink RX10 33 RX2) (ev_gwm (List.mem_of_getElem? (i := 343) (by decide +kernel)) rfl)) (hts (.instantiable RX2 2) (ev_gwm (List.mem_of_getElem? (i := 344) (by decide +kernel)) rfl)) (hts (.initialized RX2) (ev_gwm (List.mem_of_getElem? (i := 70) (by decide +kernel)) rfl)) hK hP hD hS hA rfl (fun j hj => by rcases (show j = 0 ∨ j = 1 by omega) with rfl | rfl <;> rfl) (Nat.le_of_ble_eq_true rfl) (Nat.le_of_ble_eq_true rfl) ew_d_10_49 (fun q4 H hP hD hS => ?_)
  refine W.widen (k := 170) (n := 2720) (Nat.le_of_ble_eq_true rfl) (Nat.le_of_ble_eq_true rfl) ?_
  refine lv_dup hx hb ew_d_10_52 rfl ?_
  have hPc := ew_last_P hP
  have hDc := ew_last_D hD
  have hFc := ew_last_F hD hS hA
  refine va_callv (va_runIN (As := []) (rest := [.ref q4, .ref h0]) (host := "BridgeRounds") ⟨hx, hb, hml, hown, hts⟩ (ew_c_2 l D cI cZ cS q4 H.size) ⟨va_cnB 0 hts (ew_good (w0 := .code yX2_init cX2_init 1 none) (ev_gwm (List.mem_of_getElem? (i := 347) (by decide +kernel)) rfl)) rfl rfl rfl (hNW (10, 35, yX2_init) (by decide +kernel)) (hts (.initialized RX2) (ev_gwm (List.mem_of_getElem? (i := 70) (by decide +kernel)) rfl)) (by decide +kernel) ⟨Nat.le_of_ble_eq_true rfl, Nat.le_of_ble_eq_true rfl⟩, rfl, hts (.instanceMethod yX2_init) (ev_gwm (List.mem_of_getElem? (i := 346) (by decide +kernel)) rfl)⟩ ⟨fun a U g mk z => by obtain ⟨z0, z1, z2, z3, z4⟩ := z; exact ⟨z0, z1, z2, va_K.moved (u := U) (U := U.calling g mk a) (Vm.Alike.refl U.vm) z3, z4⟩, fun U hU hW => ⟨rfl, by rw [hU], by rw [hU]; exact hPc, va_K.moved hW.alike hK, hDc.weaken (fun _ _ _ _ => trivial)⟩⟩ rfl rfl hl.1 rfl (lv_room (Nat.le_of_ble_eq_true rfl)) ew_d_10_53 ⟨Nat.le_of_ble_eq_true rfl, Nat.le_of_ble_eq_true rfl⟩) hS (fun q _ h => hFc q h) hFc (fun u4 t H1 locs ht hvm hw hB hz1 hk1 hS => ?_)
  obtain ⟨hP1, hD1⟩ := hB
  rw [ht] at hP1
  obtain ⟨hP, hD⟩ := ew_last_J hP hD hk1 hFc hP1 hD1
  clear hPc hDc hFc hP1 hD1 hk1 hz1 hvm ht
  generalize H1 = H at hP hS ⊢
  subst hwr
  subst hw
  refine W.widen (k := 172) (n := 2732) (Nat.le_of_ble_eq_true rfl) (Nat.le_of_ble_eq_true rfl) ?_
  have hP : va_P D vwCl ((h0, .inr (10, [.ref (u0 0), .ref (u1 0), .ref (u2 0), .ref (u3 0), .null, .null, .null, .null])) :: (((((ew_w7 cI cZ (u0 0) u0) ++ (ew_w7 cI cZ (u1 0) u1)) ++ (ew_w3 cI cZ cS (u2 0) u2)) ++ (ew_w5 cI cZ (u3 0) u3)) ++ (ew_w2 cI cZ (u4 0) u4))) H := hP
  have hD : va_D A ((h0, .inr (10, [.ref (u0 0), .ref (u1 0), .ref (u2 0), .ref (u3 0), .null, .null, .null, .null])) :: (((((ew_w7 cI cZ (u0 0) u0) ++ (ew_w7 cI cZ (u1 0) u1)) ++ (ew_w3 cI cZ cS (u2 0) u2)) ++ (ew_w5 cI cZ (u3 0) u3)) ++ (ew_w2 cI cZ (u4 0) u4))) := hD
  refine va_putF (D := D) (ci := 10) (v := .ref (u4 0)) (ty := tyX10 4) (C := RX10) (T := TX10) (N := 8) hx hb hts (ev_in_g 10 (by decide)) tyX10 tyX10_ok nmX10 hown hK hP hD hS 0 rfl rfl 4 (by decide) (hts (.fieldLink RX10 36 RX10 "frame" "LBridgeRounds$Frame;") (ev_gwm (List.mem_of_getElem? (i := 413) (by decide +kernel)) rfl)) (fun _ h9 => h9) rfl hin rfl (by decide +kernel) rfl rfl (Nat.le_of_ble_eq_true rfl) ew_d_10_56 (fun H locs hP hD hS => ?_)
  have hP : va_P D vwCl ((h0, .inr (10, [.ref (u0 0), .ref (u1 0), .ref (u2 0), .ref (u3 0), .ref (u4 0), .null, .null, .null])) :: (((((ew_w7 cI cZ (u0 0) u0) ++ (ew_w7 cI cZ (u1 0) u1)) ++ (ew_w3 cI cZ cS (u2 0) u2)) ++ (ew_w5 cI cZ (u3 0) u3)) ++ (ew_w2 cI cZ (u4 0) u4))) H := hP
  have hD : va_D A ((h0, .inr (10, [.ref (u0 0), .ref (u1 0), .ref (u2 0), .ref (u3 0), .ref (u4 0), .null, .null, .null])) :: (((((ew_w7 cI cZ (u0 0) u0) ++ (ew_w7 cI cZ (u1 0) u1)) ++ (ew_w3 cI cZ cS (u2 0) u2)) ++ (ew_w5 cI cZ (u3 0) u3)) ++ (ew_w2 cI cZ (u4 0) u4))) := hD
  refine lv_aload_n hx hb ew_d_10_59 rfl (lv_at hl 0 rfl) ?_
  obtain ⟨wr, hwr⟩ : ∃ wr : va_W, wr = (h0, .inr (10, [.ref (u0 0), .ref (u1 0), .ref (u2 0), .ref (u3 0), .ref (u4 0), .null, .null, .null])) :: (((((ew_w7 cI cZ (u0 0) u0) ++ (ew_w7 cI cZ (u1 0) u1)) ++ (ew_w3 cI cZ cS (u2 0) u2)) ++ (ew_w5 cI cZ (u3 0) u3)) ++ (ew_w2 cI cZ (u4 0) u4)) := ⟨_, rfl⟩
  rw [← hwr] at hP hD
  refine va_new (ci := 9) (fs := [.null, .null, .null]) (C := RX9) (T := TX9) (N := 3) hx hb hts (ev_in_g 9 (by decide)) tyX9 tyX9_ok hown (hts (.classLink RX10 40 RX9) (ev_gwm (List.mem_of_getElem? (i := 357) (by decide +kernel)) rfl)) (hts (.instantiable RX9 3) (ev_gwm (List.mem_of_getElem? (i := 358) (by decide +kernel)) rfl)) (hts (.initialized RX9) (ev_gwm (List.mem_of_getElem? (i := 71) (by decide +kernel)) rfl)) hK hP hD hS hA rfl (fun j hj => by rcases (show j = 0 ∨ j = 1 ∨ j = 2 by omega) with rfl | rfl | rfl <;> rfl) (Nat.le_of_ble_eq_true rfl) (Nat.le_of_ble_eq_true rfl) ew_d_10_60 (fun q5 H hP hD hS => ?_)
  refine W.widen (k := 173) (n := 2735) (Nat.le_of_ble_eq_true rfl) (Nat.le_of_ble_eq_true rfl) ?_
  refine lv_dup hx hb ew_d_10_63 rfl ?_
  have hPc := ew_last_P hP
  have hDc := ew_last_D hD
  have hFc := ew_last_F hD hS hA
  refine va_callv (va_runIN (As := []) (rest := [.ref q5, .ref h0]) (host := "BridgeRounds") ⟨hx, hb, hml, hown, hts⟩ (ew_c_9 l D cI cZ cS q5 H.size) ⟨va_cnB 0 hts (ew_good (w0 := .code yX9_init cX9_init 1 none) (ev_gwm (List.mem_of_getElem? (i := 361) (by decide +kernel)) rfl)) rfl rfl rfl (hNW (10, 42, yX9_init) (by decide +kernel)) (hts (.initialized RX9) (ev_gwm (List.mem_of_getElem? (i := 71) (by decide +kernel)) rfl)) (by decide +kernel) ⟨Nat.le_of_ble_eq_true rfl, Nat.le_of_ble_eq_true rfl⟩, rfl, hts (.instanceMethod yX9_init) (ev_gwm (List.mem_of_getElem? (i := 360) (by decide +kernel)) rfl)⟩ ⟨fun a U g mk z => by obtain ⟨z0, z1, z2, z3, z4⟩ := z; exact ⟨z0, z1, z2, va_K.moved (u := U) (U := U.calling g mk a) (Vm.Alike.refl U.vm) z3, z4⟩, fun U hU hW => ⟨rfl, by rw [hU], by rw [hU]; exact hPc, va_K.moved hW.alike hK, hDc.weaken (fun _ _ _ _ => trivial)⟩⟩ rfl rfl hl.1 rfl (lv_room (Nat.le_of_ble_eq_true rfl)) ew_d_10_64 ⟨Nat.le_of_ble_eq_true rfl, Nat.le_of_ble_eq_true rfl⟩) hS (fun q _ h => hFc q h) hFc (fun u5 t H1 locs ht hvm hw hB hz1 hk1 hS => ?_)
  obtain ⟨hP1, hD1⟩ := hB
  rw [ht] at hP1
  obtain ⟨hP, hD⟩ := ew_last_J hP hD hk1 hFc hP1 hD1
  clear hPc hDc hFc hP1 hD1 hk1 hz1 hvm ht
  generalize H1 = H at hP hS ⊢
  subst hwr
  subst hw
  refine W.widen (k := 176) (n := 2765) (Nat.le_of_ble_eq_true rfl) (Nat.le_of_ble_eq_true rfl) ?_
  have hP : va_P D vwCl ((h0, .inr (10, [.ref (u0 0), .ref (u1 0), .ref (u2 0), .ref (u3 0), .ref (u4 0), .null, .null, .null])) :: ((((((ew_w7 cI cZ (u0 0) u0) ++ (ew_w7 cI cZ (u1 0) u1)) ++ (ew_w3 cI cZ cS (u2 0) u2)) ++ (ew_w5 cI cZ (u3 0) u3)) ++ (ew_w2 cI cZ (u4 0) u4)) ++ (ew_w9 cI cZ (u5 0) u5))) H := hP
  have hD : va_D A ((h0, .inr (10, [.ref (u0 0), .ref (u1 0), .ref (u2 0), .ref (u3 0), .ref (u4 0), .null, .null, .null])) :: ((((((ew_w7 cI cZ (u0 0) u0) ++ (ew_w7 cI cZ (u1 0) u1)) ++ (ew_w3 cI cZ cS (u2 0) u2)) ++ (ew_w5 cI cZ (u3 0) u3)) ++ (ew_w2 cI cZ (u4 0) u4)) ++ (ew_w9 cI cZ (u5 0) u5))) := hD
  refine va_putF (D := D) (ci := 10) (v := .ref (u5 0)) (ty := tyX10 5) (C := RX10) (T := TX10) (N := 8) hx hb hts (ev_in_g 10 (by decide)) tyX10 tyX10_ok nmX10 hown hK hP hD hS 0 rfl rfl 5 (by decide) (hts (.fieldLink RX10 43 RX10 "ways" "LBridgeRounds$Ways;") (ev_gwm (List.mem_of_getElem? (i := 414) (by decide +kernel)) rfl)) (fun _ h9 => h9) rfl hin rfl (by decide +kernel) rfl rfl (Nat.le_of_ble_eq_true rfl) ew_d_10_67 (fun H locs hP hD hS => ?_)
  have hP : va_P D vwCl ((h0, .inr (10, [.ref (u0 0), .ref (u1 0), .ref (u2 0), .ref (u3 0), .ref (u4 0), .ref (u5 0), .null, .null])) :: ((((((ew_w7 cI cZ (u0 0) u0) ++ (ew_w7 cI cZ (u1 0) u1)) ++ (ew_w3 cI cZ cS (u2 0) u2)) ++ (ew_w5 cI cZ (u3 0) u3)) ++ (ew_w2 cI cZ (u4 0) u4)) ++ (ew_w9 cI cZ (u5 0) u5))) H := hP
  have hD : va_D A ((h0, .inr (10, [.ref (u0 0), .ref (u1 0), .ref (u2 0), .ref (u3 0), .ref (u4 0), .ref (u5 0), .null, .null])) :: ((((((ew_w7 cI cZ (u0 0) u0) ++ (ew_w7 cI cZ (u1 0) u1)) ++ (ew_w3 cI cZ cS (u2 0) u2)) ++ (ew_w5 cI cZ (u3 0) u3)) ++ (ew_w2 cI cZ (u4 0) u4)) ++ (ew_w9 cI cZ (u5 0) u5))) := hD
  refine lv_aload_n hx hb ew_d_10_70 rfl (lv_at hl 0 rfl) ?_
  obtain ⟨wr, hwr⟩ : ∃ wr : va_W, wr = (h0, .inr (10, [.ref (u0 0), .ref (u1 0), .ref (u2 0), .ref (u3 0), .ref (u4 0), .ref (u5 0), .null, .null])) :: ((((((ew_w7 cI cZ (u0 0) u0) ++ (ew_w7 cI cZ (u1 0) u1)) ++ (ew_w3 cI cZ cS (u2 0) u2)) ++ (ew_w5 cI cZ (u3 0) u3)) ++ (ew_w2 cI cZ (u4 0) u4)) ++ (ew_w9 cI cZ (u5 0) u5)) := ⟨_, rfl⟩
  rw [← hwr] at hP hD
  refine va_new (ci := 8) (fs := [.int 0, .null]) (C := RX8) (T := TX8) (N := 2) hx hb hts (ev_in_g 8 (by decide)) tyX8 tyX8_ok hown (hts (.classLink RX10 47 RX8) (ev_gwm (List.mem_of_getElem? (i := 376) (by decide +kernel)) rfl)) (hts (.instantiable RX8 2) (ev_gwm (List.mem_of_getElem? (i := 377) (by decide +kernel)) rfl)) (hts (.initialized RX8) (ev_gwm (List.mem_of_getElem? (i := 72) (by decide +kernel)) rfl)) hK hP hD hS hA rfl (fun j hj => by rcases (show j = 0 ∨ j = 1 by omega) with rfl | rfl <;> rfl) (Nat.le_of_ble_eq_true rfl) (Nat.le_of_ble_eq_true rfl) ew_d_10_71 (fun q6 H hP hD hS => ?_)
  refine W.widen (k := 177) (n := 2767) (Nat.le_of_ble_eq_true rfl) (Nat.le_of_ble_eq_true rfl) ?_
  refine lv_dup hx hb ew_d_10_74 rfl ?_
  have hPc := ew_last_P hP
  have hDc := ew_last_D hD
  have hFc := ew_last_F hD hS hA
  refine va_callv (va_runIN (As := []) (rest := [.ref q6, .ref h0]) (host := "BridgeRounds") ⟨hx, hb, hml, hown, hts⟩ (ew_c_8 l D cI cZ cS q6 H.size) ⟨va_cnB 0 hts (ew_good (w0 := .code yX8_init cX8_init 1 none) (ev_gwm (List.mem_of_getElem? (i := 380) (by decide +kernel)) rfl)) rfl rfl rfl (hNW (10, 49, yX8_init) (by decide +kernel)) (hts (.initialized RX8) (ev_gwm (List.mem_of_getElem? (i := 72) (by decide +kernel)) rfl)) (by decide +kernel) ⟨Nat.le_of_ble_eq_true rfl, Nat.le_of_ble_eq_true rfl⟩, rfl, hts (.instanceMethod yX8_init) (ev_gwm (List.mem_of_getElem? (i := 379) (by decide +kernel)) rfl)⟩ ⟨fun a U g mk z => by obtain ⟨z0, z1, z2, z3, z4⟩ := z; exact ⟨z0, z1, z2, va_K.moved (u := U) (U := U.calling g mk a) (Vm.Alike.refl U.vm) z3, z4⟩, fun U hU hW => ⟨rfl, by rw [hU], by rw [hU]; exact hPc, va_K.moved hW.alike hK, hDc.weaken (fun _ _ _ _ => trivial)⟩⟩ rfl rfl hl.1 rfl (lv_room (Nat.le_of_ble_eq_true rfl)) ew_d_10_75 ⟨Nat.le_of_ble_eq_true rfl, Nat.le_of_ble_eq_true rfl⟩) hS (fun q _ h => hFc q h) hFc (fun u6 t H1 locs ht hvm hw hB hz1 hk1 hS => ?_)
  obtain ⟨hP1, hD1⟩ := hB
  rw [ht] at hP1
  obtain ⟨hP, hD⟩ := ew_last_J hP hD hk1 hFc hP1 hD1
  clear hPc hDc hFc hP1 hD1 hk1 hz1 hvm ht
  generalize H1 = H at hP hS ⊢
  subst hwr
  subst hw
  refine W.widen (k := 178) (n := 2773) (Nat.le_of_ble_eq_true rfl) (Nat.le_of_ble_eq_true rfl) ?_
  have hP : va_P D vwCl ((h0, .inr (10, [.ref (u0 0), .ref (u1 0), .ref (u2 0), .ref (u3 0), .ref (u4 0), .ref (u5 0), .null, .null])) :: (((((((ew_w7 cI cZ (u0 0) u0) ++ (ew_w7 cI cZ (u1 0) u1)) ++ (ew_w3 cI cZ cS (u2 0) u2)) ++ (ew_w5 cI cZ (u3 0) u3)) ++ (ew_w2 cI cZ (u4 0) u4)) ++ (ew_w9 cI cZ (u5 0) u5)) ++ (ew_w8 cI cZ (u6 0) u6))) H := hP
  have hD : va_D A ((h0, .inr (10, [.ref (u0 0), .ref (u1 0), .ref (u2 0), .ref (u3 0), .ref (u4 0), .ref (u5 0), .null, .null])) :: (((((((ew_w7 cI cZ (u0 0) u0) ++ (ew_w7 cI cZ (u1 0) u1)) ++ (ew_w3 cI cZ cS (u2 0) u2)) ++ (ew_w5 cI cZ (u3 0) u3)) ++ (ew_w2 cI cZ (u4 0) u4)) ++ (ew_w9 cI cZ (u5 0) u5)) ++ (ew_w8 cI cZ (u6 0) u6))) := hD
  refine va_putF (D := D) (ci := 10) (v := .ref (u6 0)) (ty := tyX10 6) (C := RX10) (T := TX10) (N := 8) hx hb hts (ev_in_g 10 (by decide)) tyX10 tyX10_ok nmX10 hown hK hP hD hS 0 rfl rfl 6 (by decide) (hts (.fieldLink RX10 50 RX10 "tour" "LBridgeRounds$Tour;") (ev_gwm (List.mem_of_getElem? (i := 415) (by decide +kernel)) rfl)) (fun _ h9 => h9) rfl hin rfl (by decide +kernel) rfl rfl (Nat.le_of_ble_eq_true rfl) ew_d_10_78 (fun H locs hP hD hS => ?_)
  have hP : va_P D vwCl ((h0, .inr (10, [.ref (u0 0), .ref (u1 0), .ref (u2 0), .ref (u3 0), .ref (u4 0), .ref (u5 0), .ref (u6 0), .null])) :: (((((((ew_w7 cI cZ (u0 0) u0) ++ (ew_w7 cI cZ (u1 0) u1)) ++ (ew_w3 cI cZ cS (u2 0) u2)) ++ (ew_w5 cI cZ (u3 0) u3)) ++ (ew_w2 cI cZ (u4 0) u4)) ++ (ew_w9 cI cZ (u5 0) u5)) ++ (ew_w8 cI cZ (u6 0) u6))) H := hP
  have hD : va_D A ((h0, .inr (10, [.ref (u0 0), .ref (u1 0), .ref (u2 0), .ref (u3 0), .ref (u4 0), .ref (u5 0), .ref (u6 0), .null])) :: (((((((ew_w7 cI cZ (u0 0) u0) ++ (ew_w7 cI cZ (u1 0) u1)) ++ (ew_w3 cI cZ cS (u2 0) u2)) ++ (ew_w5 cI cZ (u3 0) u3)) ++ (ew_w2 cI cZ (u4 0) u4)) ++ (ew_w9 cI cZ (u5 0) u5)) ++ (ew_w8 cI cZ (u6 0) u6))) := hD
  refine lv_aload_n hx hb ew_d_10_81 rfl (lv_at hl 0 rfl) ?_
  obtain ⟨wr, hwr⟩ : ∃ wr : va_W, wr = (h0, .inr (10, [.ref (u0 0), .ref (u1 0), .ref (u2 0), .ref (u3 0), .ref (u4 0), .ref (u5 0), .ref (u6 0), .null])) :: (((((((ew_w7 cI cZ (u0 0) u0) ++ (ew_w7 cI cZ (u1 0) u1)) ++ (ew_w3 cI cZ cS (u2 0) u2)) ++ (ew_w5 cI cZ (u3 0) u3)) ++ (ew_w2 cI cZ (u4 0) u4)) ++ (ew_w9 cI cZ (u5 0) u5)) ++ (ew_w8 cI cZ (u6 0) u6)) := ⟨_, rfl⟩
  rw [← hwr] at hP hD
  refine va_new (ci := 0) (fs := [.int 0, .null, .null]) (C := RX0) (T := TX0) (N := 3) hx hb hts (ev_in_g 0 (by decide)) tyX0 tyX0_ok hown (hts (.classLink RX10 54 RX0) (ev_gwm (List.mem_of_getElem? (i := 391) (by decide +kernel)) rfl)) (hts (.instantiable RX0 3) (ev_gwm (List.mem_of_getElem? (i := 392) (by decide +kernel)) rfl)) (hts (.initialized RX0) (ev_gwm (List.mem_of_getElem? (i := 73) (by decide +kernel)) rfl)) hK hP hD hS hA rfl (fun j hj => by rcases (show j = 0 ∨ j = 1 ∨ j = 2 by omega) with rfl | rfl | rfl <;> rfl) (Nat.le_of_ble_eq_true rfl) (Nat.le_of_ble_eq_true rfl) ew_d_10_82 (fun q7 H hP hD hS => ?_)
  refine W.widen (k := 179) (n := 2776) (Nat.le_of_ble_eq_true rfl) (Nat.le_of_ble_eq_true rfl) ?_
  refine lv_dup hx hb ew_d_10_85 rfl ?_
  have hPc := ew_last_P hP
  have hDc := ew_last_D hD
  have hFc := ew_last_F hD hS hA
  refine va_callv (va_runIN (As := []) (rest := [.ref q7, .ref h0]) (host := "BridgeRounds") ⟨hx, hb, hml, hown, hts⟩ (ew_c_0 l D cI cZ cS q7 H.size) ⟨va_cnB 0 hts (ew_good (w0 := .code yX0_init cX0_init 1 none) (ev_gwm (List.mem_of_getElem? (i := 395) (by decide +kernel)) rfl)) rfl rfl rfl (hNW (10, 56, yX0_init) (by decide +kernel)) (hts (.initialized RX0) (ev_gwm (List.mem_of_getElem? (i := 73) (by decide +kernel)) rfl)) (by decide +kernel) ⟨Nat.le_of_ble_eq_true rfl, Nat.le_of_ble_eq_true rfl⟩, rfl, hts (.instanceMethod yX0_init) (ev_gwm (List.mem_of_getElem? (i := 394) (by decide +kernel)) rfl)⟩ ⟨fun a U g mk z => by obtain ⟨z0, z1, z2, z3, z4⟩ := z; exact ⟨z0, z1, z2, va_K.moved (u := U) (U := U.calling g mk a) (Vm.Alike.refl U.vm) z3, z4⟩, fun U hU hW => ⟨rfl, by rw [hU], by rw [hU]; exact hPc, va_K.moved hW.alike hK, hDc.weaken (fun _ _ _ _ => trivial)⟩⟩ rfl rfl hl.1 rfl (lv_room (Nat.le_of_ble_eq_true rfl)) ew_d_10_86 ⟨Nat.le_of_ble_eq_true rfl, Nat.le_of_ble_eq_true rfl⟩) hS (fun q _ h => hFc q h) hFc (fun u7 t H1 locs ht hvm hw hB hz1 hk1 hS => ?_)
  obtain ⟨hP1, hD1⟩ := hB
  rw [ht] at hP1
  obtain ⟨hP, hD⟩ := ew_last_J hP hD hk1 hFc hP1 hD1
  clear hPc hDc hFc hP1 hD1 hk1 hz1 hvm ht
  generalize H1 = H at hP hS ⊢
  subst hwr
  subst hw
  refine W.widen (k := 181) (n := 2792) (Nat.le_of_ble_eq_true rfl) (Nat.le_of_ble_eq_true rfl) ?_
  have hP : va_P D vwCl ((h0, .inr (10, [.ref (u0 0), .ref (u1 0), .ref (u2 0), .ref (u3 0), .ref (u4 0), .ref (u5 0), .ref (u6 0), .null])) :: ((((((((ew_w7 cI cZ (u0 0) u0) ++ (ew_w7 cI cZ (u1 0) u1)) ++ (ew_w3 cI cZ cS (u2 0) u2)) ++ (ew_w5 cI cZ (u3 0) u3)) ++ (ew_w2 cI cZ (u4 0) u4)) ++ (ew_w9 cI cZ (u5 0) u5)) ++ (ew_w8 cI cZ (u6 0) u6)) ++ (ew_w0 cI cZ (u7 0) u7))) H := hP
  have hD : va_D A ((h0, .inr (10, [.ref (u0 0), .ref (u1 0), .ref (u2 0), .ref (u3 0), .ref (u4 0), .ref (u5 0), .ref (u6 0), .null])) :: ((((((((ew_w7 cI cZ (u0 0) u0) ++ (ew_w7 cI cZ (u1 0) u1)) ++ (ew_w3 cI cZ cS (u2 0) u2)) ++ (ew_w5 cI cZ (u3 0) u3)) ++ (ew_w2 cI cZ (u4 0) u4)) ++ (ew_w9 cI cZ (u5 0) u5)) ++ (ew_w8 cI cZ (u6 0) u6)) ++ (ew_w0 cI cZ (u7 0) u7))) := hD
  refine va_putF (D := D) (ci := 10) (v := .ref (u7 0)) (ty := tyX10 7) (C := RX10) (T := TX10) (N := 8) hx hb hts (ev_in_g 10 (by decide)) tyX10 tyX10_ok nmX10 hown hK hP hD hS 0 rfl rfl 7 (by decide) (hts (.fieldLink RX10 57 RX10 "best" "LBridgeRounds$Award;") (ev_gwm (List.mem_of_getElem? (i := 416) (by decide +kernel)) rfl)) (fun _ h9 => h9) rfl hin rfl (by decide +kernel) rfl rfl (Nat.le_of_ble_eq_true rfl) ew_d_10_89 (fun H locs hP hD hS => ?_)
  have hP : va_P D vwCl ((h0, .inr (10, [.ref (u0 0), .ref (u1 0), .ref (u2 0), .ref (u3 0), .ref (u4 0), .ref (u5 0), .ref (u6 0), .ref (u7 0)])) :: ((((((((ew_w7 cI cZ (u0 0) u0) ++ (ew_w7 cI cZ (u1 0) u1)) ++ (ew_w3 cI cZ cS (u2 0) u2)) ++ (ew_w5 cI cZ (u3 0) u3)) ++ (ew_w2 cI cZ (u4 0) u4)) ++ (ew_w9 cI cZ (u5 0) u5)) ++ (ew_w8 cI cZ (u6 0) u6)) ++ (ew_w0 cI cZ (u7 0) u7))) H := hP
  have hD : va_D A ((h0, .inr (10, [.ref (u0 0), .ref (u1 0), .ref (u2 0), .ref (u3 0), .ref (u4 0), .ref (u5 0), .ref (u6 0), .ref (u7 0)])) :: ((((((((ew_w7 cI cZ (u0 0) u0) ++ (ew_w7 cI cZ (u1 0) u1)) ++ (ew_w3 cI cZ cS (u2 0) u2)) ++ (ew_w5 cI cZ (u3 0) u3)) ++ (ew_w2 cI cZ (u4 0) u4)) ++ (ew_w9 cI cZ (u5 0) u5)) ++ (ew_w8 cI cZ (u6 0) u6)) ++ (ew_w0 cI cZ (u7 0) u7))) := hD
  exact W.vret hx hb hr (fun t ht hW => ⟨⟨fun a => [u0, u1, u2, u3, u4, u5, u6, u7].getD a (fun _ => 0), rfl, trivial, by rw [ht]; exact hP, hD⟩, hS.F ht⟩) hS.2.2 ew_d_10_92

