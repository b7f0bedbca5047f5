/-! the constructor of History -/
theorem ew_same_o {D : va_G} {cl : List vw_C} {tys : List (ClassId × FieldType)} {s : State} {C : String} {c1 c2 : ClassId} {t0 : Nat} (hK : va_K D cl tys s) (ht : tys[t0]? = some (c1, .object C)) (hK2 : va_K D cl (tys ++ [(c2, .object C)]) s) : c2 = c1 := by
  obtain ⟨k1, m1, -, -, -, h1⟩ := (hK.2 t0 _ ht).2
  obtain ⟨k2, m2, -, -, -, h2⟩ := (hK2.2 tys.length (c2, .object C) (by simp)).2
  exact Option.some.inj (h2.symm.trans h1)
theorem ew_congr {D : va_G} {cl : List vw_C} {ws : va_W} {H : Heap} {a n k : Nat} {cA : ClassId} {f g : Nat → Option Nat} (hP : va_P D cl ws H) (hk : ws[k]? = some (a, .inl (cA, n, .inr (.inr (.inr (.inr f)))))) (h : ∀ j, j < n → f j = g j) : va_P D cl (ws.set k (a, .inl (cA, n, .inr (.inr (.inr (.inr g)))))) H := by
  intro i q hq
  rw [List.getElem?_set] at hq
  by_cases c : k = i
  · subst c
    rw [if_pos rfl] at hq
    split at hq
    · cases hq
      have h1 := hP k _ hk
      show H[a]? = some (vp_cell cA (n, .inr (.inr (.inr (.inr g)))))
      have h2 : H[a]? = some (vp_cell cA (n, .inr (.inr (.inr (.inr f))))) := h1
      rw [h2]
      have e : (Array.ofFn (n := n) fun j => va_rf (f j.val)) = Array.ofFn (n := n) fun j => va_rf (g j.val) := by
        congr 1
        funext j
        rw [h j.val j.isLt]
      show some (arrV cA n (fun j => va_rf (f j))) = some (arrV cA n (fun j => va_rf (g j)))
      unfold arrV
      rw [e]
    · cases hq
  · rw [if_neg c] at hq
    exact hP i q hq
section EWQ
variable {p : Program} {l : Launch} {e : Env} {R : Room} {s : State} {m : MethodId} {args : Array Value} {below : List Frame} {meth : Method} {c : Code} {H H0 : Heap} {locs : List Loc} {cells slots : Nat} {Q : State → Prop} {cc : ByteArray} {pc : Nat} {ls : Array Slot} {rest : List Value} {D : va_G} {cl : List vw_C} {tys : List (ClassId × FieldType)} {ws : va_W} {A : Nat → Prop}
theorem ew_newq (hexec : p.tables.exec = Jvm.exec) (hb : c.code = cc) {own C : String} {index : Nat} (hown : s.vm.findClass own = some m.cls) (hclink : (Cond.classLink own index C).before args s = true) (hover : va_AO C s) (hK : va_K D cl tys s) {cS : ClassId} (t0 : Nat) (ht : tys[t0]? = some (cS, .object C)) (hP : va_P D cl ws H) (hD : va_D A ws) (hS : va_S A H0 H locs) (hA : ∀ q, H0.size ≤ q → A q)
    {n : Int32} {N' : Nat} (hn : ¬ n < 0) (hN : n.toNatClampNeg = N') (hbytes : N' * 4 ≤ 536870912) (hcells : cells + 1 ≤ R.cells) (hslots : slots + N' ≤ R.slots) (hdg : decode cc pc = .ok (.anewarray index, 3))
    (kk : ∀ (q : Nat) (H1 : Heap), va_P D cl (ws ++ [(q, .inl (cS, N', .inr (.inr (.inr (.inr (fun _ => none))))))]) H1 → va_D A (ws ++ [(q, .inl (cS, N', .inr (.inr (.inr (.inr (fun _ => none))))))]) → va_S A H0 H1 locs →
      W p l e R s m args below meth c H1 locs (cells + 1) (slots + N') Q (F0 m (pc + 3) ls (.ref q :: rest))) : W p l e R s m args below meth c H locs cells slots Q (F0 m pc ls (.int n :: rest)) := by
  refine va_newq hexec hb hown hclink hover hK hP hD hS hA hn hN hbytes hcells hslots hdg (fun q cA H1 hK1 hP1 hD1 hS1 => ?_)
  obtain rfl := ew_same_o hK ht hK1
  exact kk q H1 hP1 hD1 hS1
end EWQ
theorem ew_d_3_0 : decode cX3_init 0 = .ok (.aload_n 0, 1) := by decide +kernel
theorem ew_d_3_1 : decode cX3_init 1 = .ok (.invokespecial 3, 3) := by decide +kernel
theorem ew_d_3_4 : decode cX3_init 4 = .ok (.aload_n 0, 1) := by decide +kernel
theorem ew_d_3_5 : decode cX3_init 5 = .ok (.iconst 5, 1) := by decide +kernel
theorem ew_d_3_6 : decode cX3_init 6 = .ok (.anewarray 9, 3) := by decide +kernel
theorem ew_d_3_9 : decode cX3_init 9 = .ok (.putfield 11, 3) := by decide +kernel
theorem ew_d_3_12 : decode cX3_init 12 = .ok (.iconst 0, 1) := by decide +kernel
theorem ew_d_3_13 : decode cX3_init 13 = .ok (.istore_n 1, 1) := by decide +kernel
theorem ew_d_3_14 : decode cX3_init 14 = .ok (.iload_n 1, 1) := by decide +kernel
theorem ew_d_3_15 : decode cX3_init 15 = .ok (.iconst 5, 1) := by decide +kernel
theorem ew_d_3_16 : decode cX3_init 16 = .ok (.if_icmp .ge 22, 3) := by decide +kernel
theorem ew_d_3_19 : decode cX3_init 19 = .ok (.aload_n 0, 1) := by decide +kernel
theorem ew_d_3_20 : decode cX3_init 20 = .ok (.getfield 11, 3) := by decide +kernel
theorem ew_d_3_23 : decode cX3_init 23 = .ok (.iload_n 1, 1) := by decide +kernel
theorem ew_d_3_24 : decode cX3_init 24 = .ok (.new 9, 3) := by decide +kernel
theorem ew_d_3_27 : decode cX3_init 27 = .ok (.dup, 1) := by decide +kernel
theorem ew_d_3_28 : decode cX3_init 28 = .ok (.invokespecial 17, 3) := by decide +kernel
theorem ew_d_3_31 : decode cX3_init 31 = .ok (.aastore, 1) := by decide +kernel
theorem ew_d_3_32 : decode cX3_init 32 = .ok (.iinc 1 1, 3) := by decide +kernel
theorem ew_d_3_35 : decode cX3_init 35 = .ok (.goto (-21), 3) := by decide +kernel
theorem ew_d_3_38 : decode cX3_init 38 = .ok (.return_, 1) := by decide +kernel
def ew_w3 (cI cZ cS : ClassId) (h0 : Nat) (u : Nat → Nat) : va_W := ((((([(h0, .inr (3, [.int 0, .ref (u 1)])), (u 1, .inl (cS, 5, .inr (.inr (.inr (.inr (fun j => some (u (2 + 23 * j))))))))] ++ (ew_w7 cI cZ (u 2) (fun k => u (2 + k)))) ++ (ew_w7 cI cZ (u 25) (fun k => u (25 + k)))) ++ (ew_w7 cI cZ (u 48) (fun k => u (48 + k)))) ++ (ew_w7 cI cZ (u 71) (fun k => u (71 + k)))) ++ (ew_w7 cI cZ (u 94) (fun k => u (94 + k))))
set_option maxHeartbeats 8000000 in
set_option maxRecDepth 100000 in
theorem ew_c_3 (l : Launch) (D : va_G) (cI cZ cS : ClassId) (h0 sz : Nat) : Met l yX3_init (.code yX3_init cX3_init 2 none :: ev_gw) { frames := 3, cells := 116, slots := 1805, locals := 52 } (va_Pc [.ref h0] (fun U => U.heap.size = sz ∧ va_P D vwCl [(h0, .inr (3, [.int 0, .null]))] U.heap ∧ va_K D vwCl (ev_ty cI cZ cS) U ∧ ew_NW U ∧ va_AO "BridgeRounds$State" U ∧ va_D (fun _ => True) [(h0, .inr (3, [.int 0, .null]))])) (va_Qv (fun u : Nat → Nat => u 0 = h0) (fun u t => va_P D vwCl (ew_w3 cI cZ cS h0 u) t.heap ∧ va_D (va_A [(h0, .inr (3, [.int 0, .null]))] sz) (ew_w3 cI cZ cS h0 u)) (va_A [(h0, .inr (3, [.int 0, .null]))] sz)) 116 1805 (va_A [(h0, .inr (3, [.int 0, .null]))] sz) := by
  refine Met.ofW (cc := cX3_init) (maxL := 2) (ret := none) (by decide) rfl ?_
  intro p e s m args below meth c s₁ B hml hv
  obtain ⟨rfl, hsz, hP, hK, hNW, hAO, hD0⟩ := hv
  have hx := B.exec
  have hb := B.bytes
  have hr := B.returns
  have hts : ∀ w ∈ ev_gw, w.before #[Value.ref h0] s = true := fun w hw => atoms_spec (ws := .code yX3_init cX3_init 2 none :: ev_gw) B.pre w (List.mem_cons_of_mem _ hw)
  have hown : s.vm.findClass RX3 = some m.cls := findClass_of_methodNamed B.named
  have hlocks := B.notSynchronized
  have hin : meth.name = "<init>" := (name_of_methodNamed B.named B.method).1
  subst hsz
  have hD := hD0.self (sz := s.heap.size)
  generalize hAe : va_A [(h0, .inr (3, [.int 0, .null]))] s.heap.size = A at hD ⊢
  have hA : ∀ q : Nat, s.heap.size ≤ q → A q := fun q h => by rw [← hAe]; exact Or.inr h
  have hS : va_S A s.heap s.heap [] := va_S.rf
  have hP : va_P D vwCl [(h0, .inr (3, [.int 0, .null]))] s.heap := hP
  have hl := lv_entry ([.ref h0]) (n := 2) (Nat.le_of_ble_eq_true rfl)
  rw [lg_entry_eq]
  generalize (lg_sl ([.ref h0]) ++ List.replicate (2 - (lg_sl ([.ref h0])).length) Slot.unset).toArray = ls at hl ⊢
  have hl : lv_has ls 2 [(0, .ref h0)] := hl
  have hArI : (Cond.arrayClass .int).before #[Value.ref h0] s = true := hts _ (ev_gwm (List.mem_of_getElem? (i := 130) (by decide +kernel)) rfl)
  have hArZ : (Cond.arrayClass .boolean).before #[Value.ref h0] s = true := hts _ (ev_gwm (List.mem_of_getElem? (i := 195) (by decide +kernel)) rfl)
  refine lv_aload_n hx hb ew_d_3_0 rfl (lv_at hl 0 rfl) ?_
  refine W.objInit hx hb hown (hts (.methodLink RX3 3 Lib.objectInit) (ev_gwm (List.mem_of_getElem? (i := 286) (by decide +kernel)) rfl)) (hts (.instanceMethod Lib.objectInit) (ev_gwm (List.mem_of_getElem? (i := 82) (by decide +kernel)) rfl)) (hts (.code Lib.objectInit ⟨#[0xb1]⟩ 1 none) (ev_gwm (List.mem_of_getElem? (i := 83) (by decide +kernel)) rfl)) rfl (by rw [hml]; exact hl.1) rfl ew_d_3_1 (Nat.le_of_ble_eq_true rfl) (Nat.le_of_ble_eq_true rfl) ?_
  refine W.eq (g2 := F0 m 4 ls []) rfl ?_
  refine lv_aload_n hx hb ew_d_3_4 rfl (lv_at hl 0 rfl) ?_
  refine lv_iconst (v := 5) hx hb ew_d_3_5 (by decide) ?_
  refine ew_newq (C := RX7) (N' := 5) hx hb hown (hts (.classLink RX3 9 RX7) (ev_gwm (List.mem_of_getElem? (i := 287) (by decide +kernel)) rfl)) hAO hK 2 rfl hP hD hS hA (by decide) (by decide) (Nat.le_of_ble_eq_true rfl) (Nat.le_of_ble_eq_true rfl) (Nat.le_of_ble_eq_true rfl) ew_d_3_6 (fun qa H hP hD hS => ?_)
  have hP : va_P D vwCl [(h0, .inr (3, [.int 0, .null])), (qa, .inl (cS, 5, .inr (.inr (.inr (.inr (fun _ => none))))))] H := hP
  have hD : va_D A [(h0, .inr (3, [.int 0, .null])), (qa, .inl (cS, 5, .inr (.inr (.inr (.inr (fun _ => none))))))] := hD
  refine W.widen (k := 1) (n := 5) (Nat.le_of_ble_eq_true rfl) (Nat.le_of_ble_eq_true rfl) ?_
  refine va_putF (D := D) (ci := 3) (v := .ref qa) (ty := tyX3 1) (C := RX3) (T := TX3) (N := 2) hx hb hts (ev_in_g 3 (by decide)) tyX3 tyX3_ok nmX3 hown hK hP hD hS 0 rfl rfl 1 (by decide) (hts (.fieldLink RX3 11 RX3 "kept" "[LBridgeRounds$State;") (ev_gwm (List.mem_of_getElem? (i := 292) (by decide +kernel)) rfl)) (fun _ h9 => h9) rfl hin rfl (by decide +kernel) rfl rfl (Nat.le_of_ble_eq_true rfl) ew_d_3_9 (fun H locs hP hD hS => ?_)
  have hP : va_P D vwCl [(h0, .inr (3, [.int 0, .ref qa])), (qa, .inl (cS, 5, .inr (.inr (.inr (.inr (fun _ => none))))))] H := hP
  have hD : va_D A [(h0, .inr (3, [.int 0, .ref qa])), (qa, .inl (cS, 5, .inr (.inr (.inr (.inr (fun _ => none))))))] := hD
  refine lv_iconst (v := 0) hx hb ew_d_3_12 (by decide) ?_
  refine lv_istore_n (lv' := [(1, .int 0), (0, .ref h0)]) hx hb ew_d_3_13 rfl hl (by decide) rfl (fun ls hl => ?_)
  refine lv_iload_n hx hb ew_d_3_14 rfl (lv_at hl 0 rfl) ?_
  refine lv_iconst (v := 5) hx hb ew_d_3_15 (by decide) ?_
  refine lv_icmp_ge (tgt := 38) hx hb ew_d_3_16 (by decide) (fun c9 => absurd c9 (by decide)) (fun _ => ?_)
  refine lv_aload_n hx hb ew_d_3_19 rfl (lv_at hl 1 rfl) ?_
  refine va_get (D := D) (ci := 3) (v := .ref qa) (C := RX3) (T := TX3) (N := 2) hx hb hts (ev_in_g 3 (by decide)) hown hK hP 0 rfl rfl 1 (by decide) (hts (.fieldLink RX3 11 RX3 "kept" "[LBridgeRounds$State;") (ev_gwm (List.mem_of_getElem? (i := 292) (by decide +kernel)) rfl)) (fun _ h9 => h9) rfl ew_d_3_20 ?_
  refine lv_iload_n hx hb ew_d_3_23 rfl (lv_at hl 0 rfl) ?_
  refine va_new (ci := 7) (fs := [.null, .null, .null, .int 0, .int 0, .int 0, .int 0]) (C := RX7) (T := TX7) (N := 7) hx hb hts (ev_in_g 7 (by decide)) tyX7 tyX7_ok hown (hts (.classLink RX3 9 RX7) (ev_gwm (List.mem_of_getElem? (i := 287) (by decide +kernel)) rfl)) (hts (.instantiable RX7 7) (ev_gwm (List.mem_of_getElem? (i := 85) (by decide +kernel)) rfl)) (hts (.initialized RX7) (ev_gwm (List.mem_of_getElem? (i := 64) (by decide +kernel)) rfl)) hK hP hD hS hA rfl (fun j hj => by rcases (show j = 0 ∨ j = 1 ∨ j = 2 ∨ j = 3 ∨ j = 4 ∨ j = 5 ∨ j = 6 by omega) with rfl | rfl | rfl | rfl | rfl | rfl | rfl <;> rfl) (Nat.le_of_ble_eq_true rfl) (Nat.le_of_ble_eq_true rfl) ew_d_3_24 (fun p0 H hP hD hS => ?_)
  refine W.widen (k := 2) (n := 12) (Nat.le_of_ble_eq_true rfl) (Nat.le_of_ble_eq_true rfl) ?_
  refine lv_dup hx hb ew_d_3_27 rfl ?_
  have hPc := hP.sub (ws' := [(p0, .inr (7, [.null, .null, .null, .int 0, .int 0, .int 0, .int 0]))]) [2] rfl
  have hDc := hD.sub (ws' := [(p0, .inr (7, [.null, .null, .null, .int 0, .int 0, .int 0, .int 0]))]) [2] (by decide) rfl
  have hFc := va_free (wc := [(p0, .inr (7, [.null, .null, .null, .int 0, .int 0, .int 0, .int 0]))]) hD hS hA [2] rfl
  refine va_callv (va_runIN (As := []) (rest := [.ref p0, .int 0, .ref qa]) (host := "BridgeRounds") ⟨hx, hb, hml, hown, hts⟩ (ew_c_7 l D cI cZ cS p0 H.size) ⟨va_cnB 0 hts (ew_good (w0 := .code yX7_init cX7_init 1 none) (ev_gwm (List.mem_of_getElem? (i := 88) (by decide +kernel)) rfl)) rfl rfl rfl (hNW (3, 17, yX7_init) (by decide +kernel)) (hts (.initialized RX7) (ev_gwm (List.mem_of_getElem? (i := 64) (by decide +kernel)) rfl)) (by decide +kernel) ⟨Nat.le_of_ble_eq_true rfl, Nat.le_of_ble_eq_true rfl⟩, rfl, hts (.instanceMethod yX7_init) (ev_gwm (List.mem_of_getElem? (i := 87) (by decide +kernel)) rfl)⟩ ⟨fun a U g mk z => by obtain ⟨z0, z1, z2, z3, z4, z5, z6⟩ := z; exact ⟨z0, z1, z2, va_K.moved (u := U) (U := U.calling g mk a) (Vm.Alike.refl U.vm) z3, ew_NW_same (s := U) (U := U.calling g mk a) rfl z4, va_AO.moved (u := U) (U := U.calling g mk a) (Vm.Alike.refl U.vm) z5, z6⟩, fun U hU hW => ⟨rfl, by rw [hU], by rw [hU]; exact hPc, va_K.moved hW.alike hK, ew_NW_warm hW hNW, va_AO.moved hW.alike hAO, hDc.weaken (fun _ _ _ _ => trivial)⟩⟩ rfl rfl hl.1 rfl (lv_room (Nat.le_of_ble_eq_true rfl)) ew_d_3_28 ⟨Nat.le_of_ble_eq_true rfl, Nat.le_of_ble_eq_true rfl⟩) hS (fun q _ h => hFc q h) hFc (fun u0 t H1 locs ht hvm hw hB hz1 hk1 hS => ?_)
  obtain ⟨hP1, hD1⟩ := hB
  rw [ht] at hP1
  obtain ⟨hP, hD⟩ := va_join (wr := [(h0, .inr (3, [.int 0, .ref qa])), (qa, .inl (cS, 5, .inr (.inr (.inr (.inr (fun _ => none))))))]) (w1 := ew_w7 cI cZ p0 u0) hP hD [2] [0, 1] rfl rfl (by decide) (by decide) hk1 hFc hP1 hD1
  clear hPc hDc hFc hP1 hD1 hk1 hz1 hw hvm ht
  generalize H1 = H at hP hS ⊢
  refine W.widen (k := 24) (n := 365) (Nat.le_of_ble_eq_true rfl) (Nat.le_of_ble_eq_true rfl) ?_
  refine va_astq (r := (RX7, TX7, 7)) hx hb hK hP hD hS 1 2 2 7 rfl rfl rfl rfl (by unfold vp_in; decide) ew_d_3_31 (fun H locs hP hD hS => ?_)
  have hP : va_P D vwCl (([(h0, .inr (3, [.int 0, .ref qa])), (qa, .inl (cS, 5, .inr (.inr (.inr (.inr (va_up (fun _ => none) ((0 : Int32).toNatClampNeg) (some p0)))))))] ++ ew_w7 cI cZ p0 u0)) H := hP
  have hD : va_D A (([(h0, .inr (3, [.int 0, .ref qa])), (qa, .inl (cS, 5, .inr (.inr (.inr (.inr (va_up (fun _ => none) ((0 : Int32).toNatClampNeg) (some p0)))))))] ++ ew_w7 cI cZ p0 u0)) := hD
  refine lv_iinc (v := 1) (lv' := [(1, .int 1), (0, .ref h0)]) hx hb ew_d_3_32 hl (k := 0) rfl (by decide) (by decide) rfl (fun ls hl => ?_)
  refine lv_goto (tgt := 14) hx hb ew_d_3_35 (by decide) ?_
  refine lv_iload_n hx hb ew_d_3_14 rfl (lv_at hl 0 rfl) ?_
  refine lv_iconst (v := 5) hx hb ew_d_3_15 (by decide) ?_
  refine lv_icmp_ge (tgt := 38) hx hb ew_d_3_16 (by decide) (fun c9 => absurd c9 (by decide)) (fun _ => ?_)
  refine lv_aload_n hx hb ew_d_3_19 rfl (lv_at hl 1 rfl) ?_
  refine va_get (D := D) (ci := 3) (v := .ref qa) (C := RX3) (T := TX3) (N := 2) hx hb hts (ev_in_g 3 (by decide)) hown hK hP 0 rfl rfl 1 (by decide) (hts (.fieldLink RX3 11 RX3 "kept" "[LBridgeRounds$State;") (ev_gwm (List.mem_of_getElem? (i := 292) (by decide +kernel)) rfl)) (fun _ h9 => h9) rfl ew_d_3_20 ?_
  refine lv_iload_n hx hb ew_d_3_23 rfl (lv_at hl 0 rfl) ?_
  refine va_new (ci := 7) (fs := [.null, .null, .null, .int 0, .int 0, .int 0, .int 0]) (C := RX7) (T := TX7) (N := 7) hx hb hts (ev_in_g 7 (by decide)) tyX7 tyX7_ok hown (hts (.classLink RX3 9 RX7) (ev_gwm (List.mem_of_getElem? (i := 287) (by decide +kernel)) rfl)) (hts (.instantiable RX7 7) (ev_gwm (List.mem_of_getElem? (i := 85) (by decide +kernel)) rfl)) (hts (.initialized RX7) (ev_gwm (List.mem_of_getElem? (i := 64) (by decide +kernel)) rfl)) hK hP hD hS hA rfl (fun j hj => by rcases (show j = 0 ∨ j = 1 ∨ j = 2 ∨ j = 3 ∨ j = 4 ∨ j = 5 ∨ j = 6 by omega) with rfl | rfl | rfl | rfl | rfl | rfl | rfl <;> rfl) (Nat.le_of_ble_eq_true rfl) (Nat.le_of_ble_eq_true rfl) ew_d_3_24 (fun p1 H hP hD hS => ?_)
  refine W.widen (k := 25) (n := 372) (Nat.le_of_ble_eq_true rfl) (Nat.le_of_ble_eq_true rfl) ?_
  refine lv_dup hx hb ew_d_3_27 rfl ?_
  have hPc := hP.sub (ws' := [(p1, .inr (7, [.null, .null, .null, .int 0, .int 0, .int 0, .int 0]))]) [25] rfl
  have hDc := hD.sub (ws' := [(p1, .inr (7, [.null, .null, .null, .int 0, .int 0, .int 0, .int 0]))]) [25] (by decide) rfl
  have hFc := va_free (wc := [(p1, .inr (7, [.null, .null, .null, .int 0, .int 0, .int 0, .int 0]))]) hD hS hA [25] rfl
  refine va_callv (va_runIN (As := []) (rest := [.ref p1, .int 1, .ref qa]) (host := "BridgeRounds") ⟨hx, hb, hml, hown, hts⟩ (ew_c_7 l D cI cZ cS p1 H.size) ⟨va_cnB 0 hts (ew_good (w0 := .code yX7_init cX7_init 1 none) (ev_gwm (List.mem_of_getElem? (i := 88) (by decide +kernel)) rfl)) rfl rfl rfl (hNW (3, 17, yX7_init) (by decide +kernel)) (hts (.initialized RX7) (ev_gwm (List.mem_of_getElem? (i := 64) (by decide +kernel)) rfl)) (by decide +kernel) ⟨Nat.le_of_ble_eq_true rfl, Nat.le_of_ble_eq_true rfl⟩, rfl, hts (.instanceMethod yX7_init) (ev_gwm (List.mem_of_getElem? (i := 87) (by decide +kernel)) rfl)⟩ ⟨fun a U g mk z => by obtain ⟨z0, z1, z2, z3, z4, z5, z6⟩ := z; exact ⟨z0, z1, z2, va_K.moved (u := U) (U := U.calling g mk a) (Vm.Alike.refl U.vm) z3, ew_NW_same (s := U) (U := U.calling g mk a) rfl z4, va_AO.moved (u := U) (U := U.calling g mk a) (Vm.Alike.refl U.vm) z5, z6⟩, fun U hU hW => ⟨rfl, by rw [hU], by rw [hU]; exact hPc, va_K.moved hW.alike hK, ew_NW_warm hW hNW, va_AO.moved hW.alike hAO, hDc.weaken (fun _ _ _ _ => trivial)⟩⟩ rfl rfl hl.1 rfl (lv_room (Nat.le_of_ble_eq_true rfl)) ew_d_3_28 ⟨Nat.le_of_ble_eq_true rfl, Nat.le_of_ble_eq_true rfl⟩) hS (fun q _ h => hFc q h) hFc (fun u1 t H1 locs ht hvm hw hB hz1 hk1 hS => ?_)
  obtain ⟨hP1, hD1⟩ := hB
  rw [ht] at hP1
  obtain ⟨hP, hD⟩ := va_join (wr := ([(h0, .inr (3, [.int 0, .ref qa])), (qa, .inl (cS, 5, .inr (.inr (.inr (.inr (va_up (fun _ => none) ((0 : Int32).toNatClampNeg) (some p0)))))))] ++ ew_w7 cI cZ p0 u0)) (w1 := ew_w7 cI cZ p1 u1) hP hD [25] [0, 1, 2, 3, 4, 5, 6, 7, 8, 9, 10, 11, 12, 13, 14, 15, 16, 17, 18, 19, 20, 21, 22, 23, 24] rfl rfl (by decide) (by decide) hk1 hFc hP1 hD1
  clear hPc hDc hFc hP1 hD1 hk1 hz1 hw hvm ht
  generalize H1 = H at hP hS ⊢
  refine W.widen (k := 47) (n := 725) (Nat.le_of_ble_eq_true rfl) (Nat.le_of_ble_eq_true rfl) ?_
  refine va_astq (r := (RX7, TX7, 7)) hx hb hK hP hD hS 1 2 25 7 rfl rfl rfl rfl (by unfold vp_in; decide) ew_d_3_31 (fun H locs hP hD hS => ?_)
  have hP : va_P D vwCl ((([(h0, .inr (3, [.int 0, .ref qa])), (qa, .inl (cS, 5, .inr (.inr (.inr (.inr (va_up (va_up (fun _ => none) ((0 : Int32).toNatClampNeg) (some p0)) ((1 : Int32).toNatClampNeg) (some p1)))))))] ++ ew_w7 cI cZ p0 u0) ++ ew_w7 cI cZ p1 u1)) H := hP
  have hD : va_D A ((([(h0, .inr (3, [.int 0, .ref qa])), (qa, .inl (cS, 5, .inr (.inr (.inr (.inr (va_up (va_up (fun _ => none) ((0 : Int32).toNatClampNeg) (some p0)) ((1 : Int32).toNatClampNeg) (some p1)))))))] ++ ew_w7 cI cZ p0 u0) ++ ew_w7 cI cZ p1 u1)) := hD
  refine lv_iinc (v := 2) (lv' := [(1, .int 2), (0, .ref h0)]) hx hb ew_d_3_32 hl (k := 0) rfl (by decide) (by decide) rfl (fun ls hl => ?_)
  refine lv_goto (tgt := 14) hx hb ew_d_3_35 (by decide) ?_
  refine lv_iload_n hx hb ew_d_3_14 rfl (lv_at hl 0 rfl) ?_
  refine lv_iconst (v := 5) hx hb ew_d_3_15 (by decide) ?_
  refine lv_icmp_ge (tgt := 38) hx hb ew_d_3_16 (by decide) (fun c9 => absurd c9 (by decide)) (fun _ => ?_)
  refine lv_aload_n hx hb ew_d_3_19 rfl (lv_at hl 1 rfl) ?_
  refine va_get (D := D) (ci := 3) (v := .ref qa) (C := RX3) (T := TX3) (N := 2) hx hb hts (ev_in_g 3 (by decide)) hown hK hP 0 rfl rfl 1 (by decide) (hts (.fieldLink RX3 11 RX3 "kept" "[LBridgeRounds$State;") (ev_gwm (List.mem_of_getElem? (i := 292) (by decide +kernel)) rfl)) (fun _ h9 => h9) rfl ew_d_3_20 ?_
  refine lv_iload_n hx hb ew_d_3_23 rfl (lv_at hl 0 rfl) ?_
  refine va_new (ci := 7) (fs := [.null, .null, .null, .int 0, .int 0, .int 0, .int 0]) (C := RX7) (T := TX7) (N := 7) hx hb hts (ev_in_g 7 (by decide)) tyX7 tyX7_ok hown (hts (.classLink RX3 9 RX7) (ev_gwm (List.mem_of_getElem? (i := 287) (by decide +kernel)) rfl)) (hts (.instantiable RX7 7) (ev_gwm (List.mem_of_getElem? (i := 85) (by decide +kernel)) rfl)) (hts (.initialized RX7) (ev_gwm (List.mem_of_getElem? (i := 64) (by decide +kernel)) rfl)) hK hP hD hS hA rfl (fun j hj => by rcases (show j = 0 ∨ j = 1 ∨ j = 2 ∨ j = 3 ∨ j = 4 ∨ j = 5 ∨ j = 6 by omega) with rfl | rfl | rfl | rfl | rfl | rfl | rfl <;> rfl) (Nat.le_of_ble_eq_true rfl) (Nat.le_of_ble_eq_true rfl) ew_d_3_24 (fun p2 H hP hD hS => ?_)
  refine W.widen (k := 48) (n := 732) (Nat.le_of_ble_eq_true rfl) (Nat.le_of_ble_eq_true rfl) ?_
  refine lv_dup hx hb ew_d_3_27 rfl ?_
  have hPc := hP.sub (ws' := [(p2, .inr (7, [.null, .null, .null, .int 0, .int 0, .int 0, .int 0]))]) [48] rfl
  have hDc := hD.sub (ws' := [(p2, .inr (7, [.null, .null, .null, .int 0, .int 0, .int 0, .int 0]))]) [48] (by decide) rfl
  have hFc := va_free (wc := [(p2, .inr (7, [.null, .null, .null, .int 0, .int 0, .int 0, .int 0]))]) hD hS hA [48] rfl
  refine va_callv (va_runIN (As := []) (rest := [.ref p2, .int 2, .ref qa]) (host := "BridgeRounds") ⟨hx, hb, hml, hown, hts⟩ (ew_c_7 l D cI cZ cS p2 H.size) ⟨va_cnB 0 hts (ew_good (w0 := .code yX7_init cX7_init 1 none) (ev_gwm (List.mem_of_getElem? (i := 88) (by decide +kernel)) rfl)) rfl rfl rfl (hNW (3, 17, yX7_init) (by decide +kernel)) (hts (.initialized RX7) (ev_gwm (List.mem_of_getElem? (i := 64) (by decide +kernel)) rfl)) (by decide +kernel) ⟨Nat.le_of_ble_eq_true rfl, Nat.le_of_ble_eq_true rfl⟩, rfl, hts (.instanceMethod yX7_init) (ev_gwm (List.mem_of_getElem? (i := 87) (by decide +kernel)) rfl)⟩ ⟨fun a U g mk z => by obtain ⟨z0, z1, z2, z3, z4, z5, z6⟩ := z; exact ⟨z0, z1, z2, va_K.moved (u := U) (U := U.calling g mk a) (Vm.Alike.refl U.vm) z3, ew_NW_same (s := U) (U := U.calling g mk a) rfl z4, va_AO.moved (u := U) (U := U.calling g mk a) (Vm.Alike.refl U.vm) z5, z6⟩, fun U hU hW => ⟨rfl, by rw [hU], by rw [hU]; exact hPc, va_K.moved hW.alike hK, ew_NW_warm hW hNW, va_AO.moved hW.alike hAO, hDc.weaken (fun _ _ _ _ => trivial)⟩⟩ rfl rfl hl.1 rfl (lv_room (Nat.le_of_ble_eq_true rfl)) ew_d_3_28 ⟨Nat.le_of_ble_eq_true rfl, Nat.le_of_ble_eq_true rfl⟩) hS (fun q _ h => hFc q h) hFc (fun u2 t H1 locs ht hvm hw hB hz1 hk1 hS => ?_)
  obtain ⟨hP1, hD1⟩ := hB
  rw [ht] at hP1
  obtain ⟨hP, hD⟩ := va_join (wr := (([(h0, .inr (3, [.int 0, .ref qa])), (qa, .inl (cS, 5, .inr (.inr (.inr (.inr (va_up (va_up (fun _ => none) ((0 : Int32).toNatClampNeg) (some p0)) ((1 : Int32).toNatClampNeg) (some p1)))))))] ++ ew_w7 cI cZ p0 u0) ++ ew_w7 cI cZ p1 u1)) (w1 := ew_w7 cI cZ p2 u2) hP hD [48] [0, 1, 2, 3, 4, 5, 6, 7, 8, 9, 10, 11, 12, 13, 14, 15, 16, 17, 18, 19, 20, 21, 22, 23, 24, 25, 26, 27, 28, 29, 30, 31, 32, 33, 34, 35, 36, 37, 38, 39, 40, 41, 42, 43, 44, 45, 46, 47] rfl rfl (by decide) (by decide) hk1 hFc hP1 hD1
  clear hPc hDc hFc hP1 hD1 hk1 hz1 hw hvm ht
  generalize H1 = H at hP hS ⊢
  refine W.widen (k := 70) (n := 1085) (Nat.le_of_ble_eq_true rfl) (Nat.le_of_ble_eq_true rfl) ?_
  refine va_astq (r := (RX7, TX7, 7)) hx hb hK hP hD hS 1 2 48 7 rfl rfl rfl rfl (by unfold vp_in; decide) ew_d_3_31 (fun H locs hP hD hS => ?_)
  have hP : va_P D vwCl (((([(h0, .inr (3, [.int 0, .ref qa])), (qa, .inl (cS, 5, .inr (.inr (.inr (.inr (va_up (va_up (va_up (fun _ => none) ((0 : Int32).toNatClampNeg) (some p0)) ((1 : Int32).toNatClampNeg) (some p1)) ((2 : Int32).toNatClampNeg) (some p2)))))))] ++ ew_w7 cI cZ p0 u0) ++ ew_w7 cI cZ p1 u1) ++ ew_w7 cI cZ p2 u2)) H := hP
  have hD : va_D A (((([(h0, .inr (3, [.int 0, .ref qa])), (qa, .inl (cS, 5, .inr (.inr (.inr (.inr (va_up (va_up (va_up (fun _ => none) ((0 : Int32).toNatClampNeg) (some p0)) ((1 : Int32).toNatClampNeg) (some p1)) ((2 : Int32).toNatClampNeg) (some p2)))))))] ++ ew_w7 cI cZ p0 u0) ++ ew_w7 cI cZ p1 u1) ++ ew_w7 cI cZ p2 u2)) := hD
  refine lv_iinc (v := 3) (lv' := [(1, .int 3), (0, .ref h0)]) hx hb ew_d_3_32 hl (k := 0) rfl (by decide) (by decide) rfl (fun ls hl => ?_)
  refine lv_goto (tgt := 14) hx hb ew_d_3_35 (by decide) ?_
  refine lv_iload_n hx hb ew_d_3_14 rfl (lv_at hl 0 rfl) ?_
  refine lv_iconst (v := 5) hx hb ew_d_3_15 (by decide) ?_
  refine lv_icmp_ge (tgt := 38) hx hb ew_d_3_16 (by decide) (fun c9 => absurd c9 (by decide)) (fun _ => ?_)
  refine lv_aload_n hx hb ew_d_3_19 rfl (lv_at hl 1 rfl) ?_
  refine va_get (D := D) (ci := 3) (v := .ref qa) (C := RX3) (T := TX3) (N := 2) hx hb hts (ev_in_g 3 (by decide)) hown hK hP 0 rfl rfl 1 (by decide) (hts (.fieldLink RX3 11 RX3 "kept" "[LBridgeRounds$State;") (ev_gwm (List.mem_of_getElem? (i := 292) (by decide +kernel)) rfl)) (fun _ h9 => h9) rfl ew_d_3_20 ?_
  refine lv_iload_n hx hb ew_d_3_23 rfl (lv_at hl 0 rfl) ?_
  refine va_new (ci := 7) (fs := [.null, .null, .null, .int 0, .int 0, .int 0, .int 0]) (C := RX7) (T := TX7) (N := 7) hx hb hts (ev_in_g 7 (by decide)) tyX7 tyX7_ok hown (hts (.classLink RX3 9 RX7) (ev_gwm (List.mem_of_getElem? (i := 287) (by decide +kernel)) rfl)) (hts (.instantiable RX7 7) (ev_gwm (List.mem_of_getElem? (i := 85) (by decide +kernel)) rfl)) (hts (.initialized RX7) (ev_gwm (List.mem_of_getElem? (i := 64) (by decide +kernel)) rfl)) hK hP hD hS hA rfl (fun j hj => by rcases (show j = 0 ∨ j = 1 ∨ j = 2 ∨ j = 3 ∨ j = 4 ∨ j = 5 ∨ j = 6 by omega) with rfl | rfl | rfl | rfl | rfl | rfl | rfl <;> rfl) (Nat.le_of_ble_eq_true rfl) (Nat.le_of_ble_eq_true rfl) ew_d_3_24 (fun p3 H hP hD hS => ?_)
  refine W.widen (k := 71) (n := 1092) (Nat.le_of_ble_eq_true rfl) (Nat.le_of_ble_eq_true rfl) ?_
  refine lv_dup hx hb ew_d_3_27 rfl ?_
  have hPc := hP.sub (ws' := [(p3, .inr (7, [.null, .null, .null, .int 0, .int 0, .int 0, .int 0]))]) [71] rfl
  have hDc := hD.sub (ws' := [(p3, .inr (7, [.null, .null, .null, .int 0, .int 0, .int 0, .int 0]))]) [71] (by decide) rfl
  have hFc := va_free (wc := [(p3, .inr (7, [.null, .null, .null, .int 0, .int 0, .int 0, .int 0]))]) hD hS hA [71] rfl
  refine va_callv (va_runIN (As := []) (rest := [.ref p3, .int 3, .ref qa]) (host := "BridgeRounds") ⟨hx, hb, hml, hown, hts⟩ (ew_c_7 l D cI cZ cS p3 H.size) ⟨va_cnB 0 hts (ew_good (w0 := .code yX7_init cX7_init 1 none) (ev_gwm (List.mem_of_getElem? (i := 88) (by decide +kernel)) rfl)) rfl rfl rfl (hNW (3, 17, yX7_init) (by decide +kernel)) (hts (.initialized RX7) (ev_gwm (List.mem_of_getElem? (i := 64) (by decide +kernel)) rfl)) (by decide +kernel) ⟨Nat.le_of_ble_eq_true rfl, Nat.le_of_ble_eq_true rfl⟩, rfl, hts (.instanceMethod yX7_init) (ev_gwm (List.mem_of_getElem? (i := 87) (by decide +kernel)) rfl)⟩ ⟨fun a U g mk z => by obtain ⟨z0, z1, z2, z3, z4, z5, z6⟩ := z; exact ⟨z0, z1, z2, va_K.moved (u := U) (U := U.calling g mk a) (Vm.Alike.refl U.vm) z3, ew_NW_same (s := U) (U := U.calling g mk a) rfl z4, va_AO.moved (u := U) (U := U.calling g mk a) (Vm.Alike.refl U.vm) z5, z6⟩, fun U hU hW => ⟨rfl, by rw [hU], by rw [hU]; exact hPc, va_K.moved hW.alike hK, ew_NW_warm hW hNW, va_AO.moved hW.alike hAO, hDc.weaken (fun _ _ _ _ => trivial)⟩⟩ rfl rfl hl.1 rfl (lv_room (Nat.le_of_ble_eq_true rfl)) ew_d_3_28 ⟨Nat.le_of_ble_eq_true rfl, Nat.le_of_ble_eq_true rfl⟩) hS (fun q _ h => hFc q h) hFc (fun u3 t H1 locs ht hvm hw hB hz1 hk1 hS => ?_)
  obtain ⟨hP1, hD1⟩ := hB
  rw [ht] at hP1
  obtain ⟨hP, hD⟩ := va_join (wr := ((([(h0, .inr (3, [.int 0, .ref qa])), (qa, .inl (cS, 5, .inr (.inr (.inr (.inr (va_up (va_up (va_up (fun _ => none) ((0 : Int32).toNatClampNeg) (some p0)) ((1 : Int32).toNatClampNeg) (some p1)) ((2 : Int32).toNatClampNeg) (some p2)))))))] ++ ew_w7 cI cZ p0 u0) ++ ew_w7 cI cZ p1 u1) ++ ew_w7 cI cZ p2 u2)) (w1 := ew_w7 cI cZ p3 u3) hP hD [71] [0, 1, 2, 3, 4, 5, 6, 7, 8, 9, 10, 11, 12, 13, 14, 15, 16, 17, 18, 19, 20, 21, 22, 23, 24, 25, 26, 27, 28, 29, 30, 31, 32, 33, 34, 35, 36, 37, 38, 39, 40, 41, 42, 43, 44, 45, 46, 47, 48, 49, 50, 51, 52, 53, 54, 55, 56, 57, 58, 59, 60, 61, 62, 63, 64, 65, 66, 67, 68, 69, 70] rfl rfl (by decide) (by decide) hk1 hFc hP1 hD1
  clear hPc hDc hFc hP1 hD1 hk1 hz1 hw hvm ht
  generalize H1 = H at hP hS ⊢
  refine W.widen (k := 93) (n := 1445) (Nat.le_of_ble_eq_true rfl) (Nat.le_of_ble_eq_true rfl) ?_
  refine va_astq (r := (RX7, TX7, 7)) hx hb hK hP hD hS 1 2 71 7 rfl rfl rfl rfl (by unfold vp_in; decide) ew_d_3_31 (fun H locs hP hD hS => ?_)
  have hP : va_P D vwCl ((((([(h0, .inr (3, [.int 0, .ref qa])), (qa, .inl (cS, 5, .inr (.inr (.inr (.inr (va_up (va_up (va_up (va_up (fun _ => none) ((0 : Int32).toNatClampNeg) (some p0)) ((1 : Int32).toNatClampNeg) (some p1)) ((2 : Int32).toNatClampNeg) (some p2)) ((3 : Int32).toNatClampNeg) (some p3)))))))] ++ ew_w7 cI cZ p0 u0) ++ ew_w7 cI cZ p1 u1) ++ ew_w7 cI cZ p2 u2) ++ ew_w7 cI cZ p3 u3)) H := hP
  have hD : va_D A ((((([(h0, .inr (3, [.int 0, .ref qa])), (qa, .inl (cS, 5, .inr (.inr (.inr (.inr (va_up (va_up (va_up (va_up (fun _ => none) ((0 : Int32).toNatClampNeg) (some p0)) ((1 : Int32).toNatClampNeg) (some p1)) ((2 : Int32).toNatClampNeg) (some p2)) ((3 : Int32).toNatClampNeg) (some p3)))))))] ++ ew_w7 cI cZ p0 u0) ++ ew_w7 cI cZ p1 u1) ++ ew_w7 cI cZ p2 u2) ++ ew_w7 cI cZ p3 u3)) := hD
  refine lv_iinc (v := 4) (lv' := [(1, .int 4), (0, .ref h0)]) hx hb ew_d_3_32 hl (k := 0) rfl (by decide) (by decide) rfl (fun ls hl => ?_)
  refine lv_goto (tgt := 14) hx hb ew_d_3_35 (by decide) ?_
  refine lv_iload_n hx hb ew_d_3_14 rfl (lv_at hl 0 rfl) ?_
  refine lv_iconst (v := 5) hx hb ew_d_3_15 (by decide) ?_
  refine lv_icmp_ge (tgt := 38) hx hb ew_d_3_16 (by decide) (fun c9 => absurd c9 (by decide)) (fun _ => ?_)
  refine lv_aload_n hx hb ew_d_3_19 rfl (lv_at hl 1 rfl) ?_
  refine va_get (D := D) (ci := 3) (v := .ref qa) (C := RX3) (T := TX3) (N := 2) hx hb hts (ev_in_g 3 (by decide)) hown hK hP 0 rfl rfl 1 (by decide) (hts (.fieldLink RX3 11 RX3 "kept" "[LBridgeRounds$State;") (ev_gwm (List.mem_of_getElem? (i := 292) (by decide +kernel)) rfl)) (fun _ h9 => h9) rfl ew_d_3_20 ?_
  refine lv_iload_n hx hb ew_d_3_23 rfl (lv_at hl 0 rfl) ?_
  refine va_new (ci := 7) (fs := [.null, .null, .null, .int 0, .int 0, .int 0, .int 0]) (C := RX7) (T := TX7) (N := 7) hx hb hts (ev_in_g 7 (by decide)) tyX7 tyX7_ok hown (hts (.classLink RX3 9 RX7) (ev_gwm (List.mem_of_getElem? (i := 287) (by decide +kernel)) rfl)) (hts (.instantiable RX7 7) (ev_gwm (List.mem_of_getElem? (i := 85) (by decide +kernel)) rfl)) (hts (.initialized RX7) (ev_gwm (List.mem_of_getElem? (i := 64) (by decide +kernel)) rfl)) hK hP hD hS hA rfl (fun j hj => by rcases (show j = 0 ∨ j = 1 ∨ j = 2 ∨ j = 3 ∨ j = 4 ∨ j = 5 ∨ j = 6 by omega) with rfl | rfl | rfl | rfl | rfl | rfl | rfl <;> rfl) (Nat.le_of_ble_eq_true rfl) (Nat.le_of_ble_eq_true rfl) ew_d_3_24 (fun p4 H hP hD hS => ?_)
  refine W.widen (k := 94) (n := 1452) (Nat.le_of_ble_eq_true rfl) (Nat.le_of_ble_eq_true rfl) ?_
  refine lv_dup hx hb ew_d_3_27 rfl ?_
  have hPc := hP.sub (ws' := [(p4, .inr (7, [.null, .null, .null, .int 0, .int 0, .int 0, .int 0]))]) [94] rfl
  have hDc := hD.sub (ws' := [(p4, .inr (7, [.null, .null, .null, .int 0, .int 0, .int 0, .int 0]))]) [94] (by decide) rfl
  have hFc := va_free (wc := [(p4, .inr (7, [.null, .null, .null, .int 0, .int 0, .int 0, .int 0]))]) hD hS hA [94] rfl
  refine va_callv (va_runIN (As := []) (rest := [.ref p4, .int 4, .ref qa]) (host := "BridgeRounds") ⟨hx, hb, hml, hown, hts⟩ (ew_c_7 l D cI cZ cS p4 H.size) ⟨va_cnB 0 hts (ew_good (w0 := .code yX7_init cX7_init 1 none) (ev_gwm (List.mem_of_getElem? (i := 88) (by decide +kernel)) rfl)) rfl rfl rfl (hNW (3, 17, yX7_init) (by decide +kernel)) (hts (.initialized RX7) (ev_gwm (List.mem_of_getElem? (i := 64) (by decide +kernel)) rfl)) (by decide +kernel) ⟨Nat.le_of_ble_eq_true rfl, Nat.le_of_ble_eq_true rfl⟩, rfl, hts (.instanceMethod yX7_init) (ev_gwm (List.mem_of_getElem? (i := 87) (by decide +kernel)) rfl)⟩ ⟨fun a U g mk z => by obtain ⟨z0, z1, z2, z3, z4, z5, z6⟩ := z; exact ⟨z0, z1, z2, va_K.moved (u := U) (U := U.calling g mk a) (Vm.Alike.refl U.vm) z3, ew_NW_same (s := U) (U := U.calling g mk a) rfl z4, va_AO.moved (u := U) (U := U.calling g mk a) (Vm.Alike.refl U.vm) z5, z6⟩, fun U hU hW => ⟨rfl, by rw [hU], by rw [hU]; exact hPc, va_K.moved hW.alike hK, ew_NW_warm hW hNW, va_AO.moved hW.alike hAO, hDc.weaken (fun _ _ _ _ => trivial)⟩⟩ rfl rfl hl.1 rfl (lv_room (Nat.le_of_ble_eq_true rfl)) ew_d_3_28 ⟨Nat.le_of_ble_eq_true rfl, Nat.le_of_ble_eq_true rfl⟩) hS (fun q _ h => hFc q h) hFc (fun u4 t H1 locs ht hvm hw hB hz1 hk1 hS => ?_)
  obtain ⟨hP1, hD1⟩ := hB
  rw [ht] at hP1
  obtain ⟨hP, hD⟩ := va_join (wr := (((([(h0, .inr (3, [.int 0, .ref qa])), (qa, .inl (cS, 5, .inr (.inr (.inr (.inr (va_up (va_up (va_up (va_up (fun _ => none) ((0 : Int32).toNatClampNeg) (some p0)) ((1 : Int32).toNatClampNeg) (some p1)) ((2 : Int32).toNatClampNeg) (some p2)) ((3 : Int32).toNatClampNeg) (some p3)))))))] ++ ew_w7 cI cZ p0 u0) ++ ew_w7 cI cZ p1 u1) ++ ew_w7 cI cZ p2 u2) ++ ew_w7 cI cZ p3 u3)) (w1 := ew_w7 cI cZ p4 u4) hP hD [94] [0, 1, 2, 3, 4, 5, 6, 7, 8, 9, 10, 11, 12, 13, 14, 15, 16, 17, 18, 19, 20, 21, 22, 23, 24, 25, 26, 27, 28, 29, 30, 31, 32, 33, 34, 35, 36, 37, 38, 39, 40, 41, 42, 43, 44, 45, 46, 47, 48, 49, 50, 51, 52, 53, 54, 55, 56, 57, 58, 59, 60, 61, 62, 63, 64, 65, 66, 67, 68, 69, 70, 71, 72, 73, 74, 75, 76, 77, 78, 79, 80, 81, 82, 83, 84, 85, 86, 87, 88, 89, 90, 91, 92, 93] rfl rfl (by decide) (by decide) hk1 hFc hP1 hD1
  clear hPc hDc hFc hP1 hD1 hk1 hz1 hw hvm ht
  generalize H1 = H at hP hS ⊢
  refine W.widen (k := 116) (n := 1805) (Nat.le_of_ble_eq_true rfl) (Nat.le_of_ble_eq_true rfl) ?_
  refine va_astq (r := (RX7, TX7, 7)) hx hb hK hP hD hS 1 2 94 7 rfl rfl rfl rfl (by unfold vp_in; decide) ew_d_3_31 (fun H locs hP hD hS => ?_)
  have hP : va_P D vwCl (((((([(h0, .inr (3, [.int 0, .ref qa])), (qa, .inl (cS, 5, .inr (.inr (.inr (.inr (va_up (va_up (va_up (va_up (va_up (fun _ => none) ((0 : Int32).toNatClampNeg) (some p0)) ((1 : Int32).toNatClampNeg) (some p1)) ((2 : Int32).toNatClampNeg) (some p2)) ((3 : Int32).toNatClampNeg) (some p3)) ((4 : Int32).toNatClampNeg) (some p4)))))))] ++ ew_w7 cI cZ p0 u0) ++ ew_w7 cI cZ p1 u1) ++ ew_w7 cI cZ p2 u2) ++ ew_w7 cI cZ p3 u3) ++ ew_w7 cI cZ p4 u4)) H := hP
  have hD : va_D A (((((([(h0, .inr (3, [.int 0, .ref qa])), (qa, .inl (cS, 5, .inr (.inr (.inr (.inr (va_up (va_up (va_up (va_up (va_up (fun _ => none) ((0 : Int32).toNatClampNeg) (some p0)) ((1 : Int32).toNatClampNeg) (some p1)) ((2 : Int32).toNatClampNeg) (some p2)) ((3 : Int32).toNatClampNeg) (some p3)) ((4 : Int32).toNatClampNeg) (some p4)))))))] ++ ew_w7 cI cZ p0 u0) ++ ew_w7 cI cZ p1 u1) ++ ew_w7 cI cZ p2 u2) ++ ew_w7 cI cZ p3 u3) ++ ew_w7 cI cZ p4 u4)) := hD
  refine lv_iinc (v := 5) (lv' := [(1, .int 5), (0, .ref h0)]) hx hb ew_d_3_32 hl (k := 0) rfl (by decide) (by decide) rfl (fun ls hl => ?_)
  refine lv_goto (tgt := 14) hx hb ew_d_3_35 (by decide) ?_
  refine lv_iload_n hx hb ew_d_3_14 rfl (lv_at hl 0 rfl) ?_
  refine lv_iconst (v := 5) hx hb ew_d_3_15 (by decide) ?_
  refine lv_icmp_ge (tgt := 38) hx hb ew_d_3_16 (by decide) (fun _ => ?_) (fun c9 => absurd (by decide) c9)
  obtain ⟨uu, huu⟩ : ∃ uu : Nat → Nat, uu = fun k => [h0, qa, p0, u0 1, u0 2, u0 3, u0 4, u0 5, u0 6, u0 7, u0 8, u0 9, u0 10, u0 11, u0 12, u0 13, u0 14, u0 15, u0 16, u0 17, u0 18, u0 19, u0 20, u0 21, u0 22, p1, u1 1, u1 2, u1 3, u1 4, u1 5, u1 6, u1 7, u1 8, u1 9, u1 10, u1 11, u1 12, u1 13, u1 14, u1 15, u1 16, u1 17, u1 18, u1 19, u1 20, u1 21, u1 22, p2, u2 1, u2 2, u2 3, u2 4, u2 5, u2 6, u2 7, u2 8, u2 9, u2 10, u2 11, u2 12, u2 13, u2 14, u2 15, u2 16, u2 17, u2 18, u2 19, u2 20, u2 21, u2 22, p3, u3 1, u3 2, u3 3, u3 4, u3 5, u3 6, u3 7, u3 8, u3 9, u3 10, u3 11, u3 12, u3 13, u3 14, u3 15, u3 16, u3 17, u3 18, u3 19, u3 20, u3 21, u3 22, p4, u4 1, u4 2, u4 3, u4 4, u4 5, u4 6, u4 7, u4 8, u4 9, u4 10, u4 11, u4 12, u4 13, u4 14, u4 15, u4 16, u4 17, u4 18, u4 19, u4 20, u4 21, u4 22].getD k 0 := ⟨_, rfl⟩
  have hP := ew_congr (g := fun j => some (uu (2 + 23 * j))) hP (k := 1) rfl (fun j hj => by rw [huu]; rcases (show j = 0 ∨ j = 1 ∨ j = 2 ∨ j = 3 ∨ j = 4 by omega) with rfl | rfl | rfl | rfl | rfl <;> rfl)
  have hD := hD.set (p := 1) (e := .inl (cS, 5, .inr (.inr (.inr (.inr (fun j => some (uu (2 + 23 * j)))))))) rfl
  have hP : va_P D vwCl (ew_w3 cI cZ cS h0 uu) H := by rw [huu] at hP ⊢; exact hP
  have hD : va_D A (ew_w3 cI cZ cS h0 uu) := by rw [huu] at hD ⊢; exact hD
  exact W.vret hx hb hr (fun t ht hW => ⟨⟨uu, rfl, by rw [huu]; rfl, by rw [ht]; exact hP, hD⟩, hS.F ht⟩) hS.2.2 ew_d_3_38

