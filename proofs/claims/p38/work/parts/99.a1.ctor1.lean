/-! the constructors -/
theorem ew_same {D : va_G} {cl : List vw_C} {tys : List (ClassId × FieldType)} {s : State} {ty : FieldType} {c1 c2 : ClassId} {t0 : Nat} (hty : ty = .int ∨ ty = .boolean) (hK : va_K D cl tys s) (ht : tys[t0]? = some (c1, ty)) (hK2 : va_K D cl (tys ++ [(c2, ty)]) s) : c2 = c1 := by
  have h1 := (hK.2 t0 _ ht).2
  have h2 := (hK2.2 tys.length (c2, ty) (by simp)).2
  rcases hty with rfl | rfl
  · exact Option.some.inj ((show s.vm.findClass _ = some c2 from h2).symm.trans (show s.vm.findClass _ = some c1 from h1))
  · exact Option.some.inj ((show s.vm.findClass _ = some c2 from h2).symm.trans (show s.vm.findClass _ = some c1 from h1))
section EWN
variable {p : Program} {l : Launch} {e : Env} {R : Room} {s : State} {m : MethodId} {args : Array Value} {below : List Frame} {meth : Method} {c : Code} {H H0 : Heap} {locs : List Loc} {cells slots : Nat} {Q : State → Prop} {cc : ByteArray} {pc : Nat} {ls : Array Slot} {rest : List Value} {D : va_G} {cl : List vw_C} {tys : List (ClassId × FieldType)} {ws : va_W} {A : Nat → Prop}
theorem ew_newa (hexec : p.tables.exec = Jvm.exec) (hb : c.code = cc) {atype : ArrayType} (harr : (Cond.arrayClass (newarray.typeOf atype)).before args s = true) {ty : FieldType} (hty : newarray.typeOf atype = ty) (hpr : ty = .int ∨ ty = .boolean) (hK : va_K D cl tys s) {cI : ClassId} (t0 : Nat) (ht : tys[t0]? = some (cI, ty)) (hP : va_P D cl ws H) (hD : va_D A ws) (hS : va_S A H0 H locs) (hA : ∀ q, H0.size ≤ q → A q)
    {n : Int32} {N' : Nat} {a0 : vp_A} (ha : ∀ cA : ClassId, vp_cell cA a0 = arrV cA N' (fun _ => defaultValue ty)) (hn : ¬ n < 0) (hN : n.toNatClampNeg = N') (hbytes : N' * componentBytes ty ≤ 536870912) (hcells : cells + 1 ≤ R.cells) (hslots : slots + N' ≤ R.slots) (hdg : decode cc pc = .ok (.newarray atype, 2)) (hs : s.heap = s.heap)
    (kk : ∀ (q : Nat) (H1 : Heap), va_P D cl (ws ++ [(q, .inl (cI, a0))]) H1 → va_D A (ws ++ [(q, .inl (cI, a0))]) → va_S A H0 H1 locs →
      W p l e R s m args below meth c H1 locs (cells + 1) (slots + N') Q (F0 m (pc + 2) ls (.ref q :: rest))) : W p l e R s m args below meth c H locs cells slots Q (F0 m pc ls (.int n :: rest)) := by
  refine va_newa hexec hb harr hty hK hP hD hS hA ha hn hN hbytes hcells hslots hdg (fun q cA H1 hK1 hP1 hD1 hS1 => ?_)
  obtain rfl := ew_same hpr hK ht hK1
  exact kk q H1 hP1 hD1 hS1
end EWN

theorem ew_d_6_0 : decode cX6_init 0 = .ok (.aload_n 0, 1) := by decide +kernel
theorem ew_d_6_1 : decode cX6_init 1 = .ok (.invokespecial 3, 3) := by decide +kernel
theorem ew_d_6_4 : decode cX6_init 4 = .ok (.aload_n 0, 1) := by decide +kernel
theorem ew_d_6_5 : decode cX6_init 5 = .ok (.bipush 20, 2) := by decide +kernel
theorem ew_d_6_7 : decode cX6_init 7 = .ok (.newarray .int, 2) := by decide +kernel
theorem ew_d_6_9 : decode cX6_init 9 = .ok (.putfield 9, 3) := by decide +kernel
theorem ew_d_6_12 : decode cX6_init 12 = .ok (.aload_n 0, 1) := by decide +kernel
theorem ew_d_6_13 : decode cX6_init 13 = .ok (.bipush 20, 2) := by decide +kernel
theorem ew_d_6_15 : decode cX6_init 15 = .ok (.newarray .int, 2) := by decide +kernel
theorem ew_d_6_17 : decode cX6_init 17 = .ok (.putfield 15, 3) := by decide +kernel
theorem ew_d_6_20 : decode cX6_init 20 = .ok (.aload_n 0, 1) := by decide +kernel
theorem ew_d_6_21 : decode cX6_init 21 = .ok (.bipush 20, 2) := by decide +kernel
theorem ew_d_6_23 : decode cX6_init 23 = .ok (.newarray .int, 2) := by decide +kernel
theorem ew_d_6_25 : decode cX6_init 25 = .ok (.putfield 18, 3) := by decide +kernel
theorem ew_d_6_28 : decode cX6_init 28 = .ok (.aload_n 0, 1) := by decide +kernel
theorem ew_d_6_29 : decode cX6_init 29 = .ok (.bipush 20, 2) := by decide +kernel
theorem ew_d_6_31 : decode cX6_init 31 = .ok (.newarray .int, 2) := by decide +kernel
theorem ew_d_6_33 : decode cX6_init 33 = .ok (.putfield 21, 3) := by decide +kernel
theorem ew_d_6_36 : decode cX6_init 36 = .ok (.return_, 1) := by decide +kernel
def ew_w6 (cI cZ : ClassId) (h0 : Nat) (u : Nat → Nat) : va_W := [(h0, .inr (6, [.int 0, .int 0, .ref (u 1), .ref (u 2), .ref (u 3), .ref (u 4)])), (u 1, .inl (cI, 20, .inl (fun _ => 0))), (u 2, .inl (cI, 20, .inl (fun _ => 0))), (u 3, .inl (cI, 20, .inl (fun _ => 0))), (u 4, .inl (cI, 20, .inl (fun _ => 0)))]
set_option maxHeartbeats 8000000 in
set_option maxRecDepth 100000 in
theorem ew_c_6 (l : Launch) (D : va_G) (cI cZ cS : ClassId) (h0 sz : Nat) : Met l yX6_init (.code yX6_init cX6_init 1 none :: ev_gw) { frames := 1, cells := 4, slots := 80, locals := 12 } (va_Pc [.ref h0] (fun U => U.heap.size = sz ∧ va_P D vwCl [(h0, .inr (6, [.int 0, .int 0, .null, .null, .null, .null]))] U.heap ∧ va_K D vwCl (ev_ty cI cZ cS) U ∧ va_D (fun _ => True) [(h0, .inr (6, [.int 0, .int 0, .null, .null, .null, .null]))])) (va_Qv (fun u : Nat → Nat => u 0 = h0) (fun u t => va_P D vwCl (ew_w6 cI cZ h0 u) t.heap ∧ va_D (va_A [(h0, .inr (6, [.int 0, .int 0, .null, .null, .null, .null]))] sz) (ew_w6 cI cZ h0 u)) (va_A [(h0, .inr (6, [.int 0, .int 0, .null, .null, .null, .null]))] sz)) 4 80 (va_A [(h0, .inr (6, [.int 0, .int 0, .null, .null, .null, .null]))] sz) := by
  refine Met.ofW (cc := cX6_init) (maxL := 1) (ret := none) (by decide) rfl ?_
  intro p e s m args below meth c s₁ B hml hv
  obtain ⟨rfl, hsz, hP, hK, hD0⟩ := hv
  have hx := B.exec
  have hb := B.bytes
  have hr := B.returns
  have hts : ∀ w ∈ ev_gw, w.before #[Value.ref h0] s = true := fun w hw => atoms_spec (ws := .code yX6_init cX6_init 1 none :: ev_gw) B.pre w (List.mem_cons_of_mem _ hw)
  have hown : s.vm.findClass RX6 = some m.cls := findClass_of_methodNamed B.named
  have hlocks := B.notSynchronized
  have hin : meth.name = "<init>" := (name_of_methodNamed B.named B.method).1
  subst hsz
  have hD := hD0.self (sz := s.heap.size)
  generalize hAe : va_A [(h0, .inr (6, [.int 0, .int 0, .null, .null, .null, .null]))] s.heap.size = A at hD ⊢
  have hA : ∀ q : Nat, s.heap.size ≤ q → A q := fun q h => by rw [← hAe]; exact Or.inr h
  have hS : va_S A s.heap s.heap [] := va_S.rf
  have hP : va_P D vwCl [(h0, .inr (6, [.int 0, .int 0, .null, .null, .null, .null]))] s.heap := hP
  have hl := lv_entry ([.ref h0]) (n := 1) (Nat.le_of_ble_eq_true rfl)
  rw [lg_entry_eq]
  generalize (lg_sl ([.ref h0]) ++ List.replicate (1 - (lg_sl ([.ref h0])).length) Slot.unset).toArray = ls at hl ⊢
  have hl : lv_has ls 1 [(0, .ref h0)] := hl
  have hArI : (Cond.arrayClass .int).before #[Value.ref h0] s = true := hts _ (ev_gwm (List.mem_of_getElem? (i := 130) (by decide +kernel)) rfl)
  have hArZ : (Cond.arrayClass .boolean).before #[Value.ref h0] s = true := hts _ (ev_gwm (List.mem_of_getElem? (i := 195) (by decide +kernel)) rfl)
  refine lv_aload_n hx hb ew_d_6_0 rfl (lv_at hl 0 rfl) ?_
  refine W.objInit hx hb hown (hts (.methodLink RX6 3 Lib.objectInit) (ev_gwm (List.mem_of_getElem? (i := 95) (by decide +kernel)) rfl)) (hts (.instanceMethod Lib.objectInit) (ev_gwm (List.mem_of_getElem? (i := 82) (by decide +kernel)) rfl)) (hts (.code Lib.objectInit ⟨#[0xb1]⟩ 1 none) (ev_gwm (List.mem_of_getElem? (i := 83) (by decide +kernel)) rfl)) rfl (by rw [hml]; exact hl.1) rfl ew_d_6_1 (Nat.le_of_ble_eq_true rfl) (Nat.le_of_ble_eq_true rfl) ?_
  refine W.eq (g2 := F0 m 4 ls []) rfl ?_
  refine lv_aload_n hx hb ew_d_6_4 rfl (lv_at hl 0 rfl) ?_
  refine lv_bipush (v := 20) hx hb ew_d_6_5 (by decide) ?_
  refine ew_newa (atype := .int) (ty := .int) (cI := cI) (N' := 20) (a0 := (20, .inl (fun _ => 0))) hx hb hArI rfl (by decide) hK 0 rfl hP hD hS hA (fun _ => rfl) (by decide) (by decide) (Nat.le_of_ble_eq_true rfl) (Nat.le_of_ble_eq_true rfl) (Nat.le_of_ble_eq_true rfl) ew_d_6_7 rfl (fun q1 H hP hD hS => ?_)
  have hP : va_P D vwCl [(h0, .inr (6, [.int 0, .int 0, .null, .null, .null, .null])), (q1, .inl (cI, 20, .inl (fun _ => 0)))] H := hP
  have hD : va_D A [(h0, .inr (6, [.int 0, .int 0, .null, .null, .null, .null])), (q1, .inl (cI, 20, .inl (fun _ => 0)))] := hD
  refine W.widen (k := 1) (n := 20) (Nat.le_of_ble_eq_true rfl) (Nat.le_of_ble_eq_true rfl) ?_
  refine va_putF (D := D) (ci := 6) (v := .ref q1) (ty := tyX6 2) (C := RX6) (T := TX6) (N := 6) hx hb hts (ev_in_g 6 (by decide)) tyX6 tyX6_ok nmX6 hown hK hP hD hS 0 rfl rfl 2 (by decide) (hts (.fieldLink RX6 9 RX6 "one" "[I") (ev_gwm (List.mem_of_getElem? (i := 103) (by decide +kernel)) rfl)) (fun _ h9 => h9) rfl hin rfl (by decide +kernel) rfl rfl (Nat.le_of_ble_eq_true rfl) ew_d_6_9 (fun H locs hP hD hS => ?_)
  have hP : va_P D vwCl [(h0, .inr (6, [.int 0, .int 0, .ref q1, .null, .null, .null])), (q1, .inl (cI, 20, .inl (fun _ => 0)))] H := hP
  have hD : va_D A [(h0, .inr (6, [.int 0, .int 0, .ref q1, .null, .null, .null])), (q1, .inl (cI, 20, .inl (fun _ => 0)))] := hD
  refine lv_aload_n hx hb ew_d_6_12 rfl (lv_at hl 0 rfl) ?_
  refine lv_bipush (v := 20) hx hb ew_d_6_13 (by decide) ?_
  refine ew_newa (atype := .int) (ty := .int) (cI := cI) (N' := 20) (a0 := (20, .inl (fun _ => 0))) hx hb hArI rfl (by decide) hK 0 rfl hP hD hS hA (fun _ => rfl) (by decide) (by decide) (Nat.le_of_ble_eq_true rfl) (Nat.le_of_ble_eq_true rfl) (Nat.le_of_ble_eq_true rfl) ew_d_6_15 rfl (fun q2 H hP hD hS => ?_)
  have hP : va_P D vwCl [(h0, .inr (6, [.int 0, .int 0, .ref q1, .null, .null, .null])), (q1, .inl (cI, 20, .inl (fun _ => 0))), (q2, .inl (cI, 20, .inl (fun _ => 0)))] H := hP
  have hD : va_D A [(h0, .inr (6, [.int 0, .int 0, .ref q1, .null, .null, .null])), (q1, .inl (cI, 20, .inl (fun _ => 0))), (q2, .inl (cI, 20, .inl (fun _ => 0)))] := hD
  refine W.widen (k := 2) (n := 40) (Nat.le_of_ble_eq_true rfl) (Nat.le_of_ble_eq_true rfl) ?_
  refine va_putF (D := D) (ci := 6) (v := .ref q2) (ty := tyX6 3) (C := RX6) (T := TX6) (N := 6) hx hb hts (ev_in_g 6 (by decide)) tyX6 tyX6_ok nmX6 hown hK hP hD hS 0 rfl rfl 3 (by decide) (hts (.fieldLink RX6 15 RX6 "other" "[I") (ev_gwm (List.mem_of_getElem? (i := 107) (by decide +kernel)) rfl)) (fun _ h9 => h9) rfl hin rfl (by decide +kernel) rfl rfl (Nat.le_of_ble_eq_true rfl) ew_d_6_17 (fun H locs hP hD hS => ?_)
  have hP : va_P D vwCl [(h0, .inr (6, [.int 0, .int 0, .ref q1, .ref q2, .null, .null])), (q1, .inl (cI, 20, .inl (fun _ => 0))), (q2, .inl (cI, 20, .inl (fun _ => 0)))] H := hP
  have hD : va_D A [(h0, .inr (6, [.int 0, .int 0, .ref q1, .ref q2, .null, .null])), (q1, .inl (cI, 20, .inl (fun _ => 0))), (q2, .inl (cI, 20, .inl (fun _ => 0)))] := hD
  refine lv_aload_n hx hb ew_d_6_20 rfl (lv_at hl 0 rfl) ?_
  refine lv_bipush (v := 20) hx hb ew_d_6_21 (by decide) ?_
  refine ew_newa (atype := .int) (ty := .int) (cI := cI) (N' := 20) (a0 := (20, .inl (fun _ => 0))) hx hb hArI rfl (by decide) hK 0 rfl hP hD hS hA (fun _ => rfl) (by decide) (by decide) (Nat.le_of_ble_eq_true rfl) (Nat.le_of_ble_eq_true rfl) (Nat.le_of_ble_eq_true rfl) ew_d_6_23 rfl (fun q3 H hP hD hS => ?_)
  have hP : va_P D vwCl [(h0, .inr (6, [.int 0, .int 0, .ref q1, .ref q2, .null, .null])), (q1, .inl (cI, 20, .inl (fun _ => 0))), (q2, .inl (cI, 20, .inl (fun _ => 0))), (q3, .inl (cI, 20, .inl (fun _ => 0)))] H := hP
  have hD : va_D A [(h0, .inr (6, [.int 0, .int 0, .ref q1, .ref q2, .null, .null])), (q1, .inl (cI, 20, .inl (fun _ => 0))), (q2, .inl (cI, 20, .inl (fun _ => 0))), (q3, .inl (cI, 20, .inl (fun _ => 0)))] := hD
  refine W.widen (k := 3) (n := 60) (Nat.le_of_ble_eq_true rfl) (Nat.le_of_ble_eq_true rfl) ?_
  refine va_putF (D := D) (ci := 6) (v := .ref q3) (ty := tyX6 4) (C := RX6) (T := TX6) (N := 6) hx hb hts (ev_in_g 6 (by decide)) tyX6 tyX6_ok nmX6 hown hK hP hD hS 0 rfl rfl 4 (by decide) (hts (.fieldLink RX6 18 RX6 "length" "[I") (ev_gwm (List.mem_of_getElem? (i := 111) (by decide +kernel)) rfl)) (fun _ h9 => h9) rfl hin rfl (by decide +kernel) rfl rfl (Nat.le_of_ble_eq_true rfl) ew_d_6_25 (fun H locs hP hD hS => ?_)
  have hP : va_P D vwCl [(h0, .inr (6, [.int 0, .int 0, .ref q1, .ref q2, .ref q3, .null])), (q1, .inl (cI, 20, .inl (fun _ => 0))), (q2, .inl (cI, 20, .inl (fun _ => 0))), (q3, .inl (cI, 20, .inl (fun _ => 0)))] H := hP
  have hD : va_D A [(h0, .inr (6, [.int 0, .int 0, .ref q1, .ref q2, .ref q3, .null])), (q1, .inl (cI, 20, .inl (fun _ => 0))), (q2, .inl (cI, 20, .inl (fun _ => 0))), (q3, .inl (cI, 20, .inl (fun _ => 0)))] := hD
  refine lv_aload_n hx hb ew_d_6_28 rfl (lv_at hl 0 rfl) ?_
  refine lv_bipush (v := 20) hx hb ew_d_6_29 (by decide) ?_
  refine ew_newa (atype := .int) (ty := .int) (cI := cI) (N' := 20) (a0 := (20, .inl (fun _ => 0))) hx hb hArI rfl (by decide) hK 0 rfl hP hD hS hA (fun _ => rfl) (by decide) (by decide) (Nat.le_of_ble_eq_true rfl) (Nat.le_of_ble_eq_true rfl) (Nat.le_of_ble_eq_true rfl) ew_d_6_31 rfl (fun q4 H hP hD hS => ?_)
  have hP : va_P D vwCl [(h0, .inr (6, [.int 0, .int 0, .ref q1, .ref q2, .ref q3, .null])), (q1, .inl (cI, 20, .inl (fun _ => 0))), (q2, .inl (cI, 20, .inl (fun _ => 0))), (q3, .inl (cI, 20, .inl (fun _ => 0))), (q4, .inl (cI, 20, .inl (fun _ => 0)))] H := hP
  have hD : va_D A [(h0, .inr (6, [.int 0, .int 0, .ref q1, .ref q2, .ref q3, .null])), (q1, .inl (cI, 20, .inl (fun _ => 0))), (q2, .inl (cI, 20, .inl (fun _ => 0))), (q3, .inl (cI, 20, .inl (fun _ => 0))), (q4, .inl (cI, 20, .inl (fun _ => 0)))] := hD
  refine W.widen (k := 4) (n := 80) (Nat.le_of_ble_eq_true rfl) (Nat.le_of_ble_eq_true rfl) ?_
  refine va_putF (D := D) (ci := 6) (v := .ref q4) (ty := tyX6 5) (C := RX6) (T := TX6) (N := 6) hx hb hts (ev_in_g 6 (by decide)) tyX6 tyX6_ok nmX6 hown hK hP hD hS 0 rfl rfl 5 (by decide) (hts (.fieldLink RX6 21 RX6 "bridge" "[I") (ev_gwm (List.mem_of_getElem? (i := 114) (by decide +kernel)) rfl)) (fun _ h9 => h9) rfl hin rfl (by decide +kernel) rfl rfl (Nat.le_of_ble_eq_true rfl) ew_d_6_33 (fun H locs hP hD hS => ?_)
  have hP : va_P D vwCl [(h0, .inr (6, [.int 0, .int 0, .ref q1, .ref q2, .ref q3, .ref q4])), (q1, .inl (cI, 20, .inl (fun _ => 0))), (q2, .inl (cI, 20, .inl (fun _ => 0))), (q3, .inl (cI, 20, .inl (fun _ => 0))), (q4, .inl (cI, 20, .inl (fun _ => 0)))] H := hP
  have hD : va_D A [(h0, .inr (6, [.int 0, .int 0, .ref q1, .ref q2, .ref q3, .ref q4])), (q1, .inl (cI, 20, .inl (fun _ => 0))), (q2, .inl (cI, 20, .inl (fun _ => 0))), (q3, .inl (cI, 20, .inl (fun _ => 0))), (q4, .inl (cI, 20, .inl (fun _ => 0)))] := hD
  exact W.vret hx hb hr (fun t ht hW => ⟨⟨fun k => [h0, q1, q2, q3, q4].getD k 0, rfl, rfl, by rw [ht]; exact hP, hD⟩, hS.F ht⟩) hS.2.2 ew_d_6_36

theorem ew_d_1_0 : decode cX1_init 0 = .ok (.aload_n 0, 1) := by decide +kernel
theorem ew_d_1_1 : decode cX1_init 1 = .ok (.invokespecial 3, 3) := by decide +kernel
theorem ew_d_1_4 : decode cX1_init 4 = .ok (.aload_n 0, 1) := by decide +kernel
theorem ew_d_1_5 : decode cX1_init 5 = .ok (.bipush 6, 2) := by decide +kernel
theorem ew_d_1_7 : decode cX1_init 7 = .ok (.newarray .int, 2) := by decide +kernel
theorem ew_d_1_9 : decode cX1_init 9 = .ok (.putfield 9, 3) := by decide +kernel
theorem ew_d_1_12 : decode cX1_init 12 = .ok (.aload_n 0, 1) := by decide +kernel
theorem ew_d_1_13 : decode cX1_init 13 = .ok (.bipush 6, 2) := by decide +kernel
theorem ew_d_1_15 : decode cX1_init 15 = .ok (.newarray .int, 2) := by decide +kernel
theorem ew_d_1_17 : decode cX1_init 17 = .ok (.putfield 15, 3) := by decide +kernel
theorem ew_d_1_20 : decode cX1_init 20 = .ok (.aload_n 0, 1) := by decide +kernel
theorem ew_d_1_21 : decode cX1_init 21 = .ok (.bipush 6, 2) := by decide +kernel
theorem ew_d_1_23 : decode cX1_init 23 = .ok (.newarray .int, 2) := by decide +kernel
theorem ew_d_1_25 : decode cX1_init 25 = .ok (.putfield 18, 3) := by decide +kernel
theorem ew_d_1_28 : decode cX1_init 28 = .ok (.aload_n 0, 1) := by decide +kernel
theorem ew_d_1_29 : decode cX1_init 29 = .ok (.bipush 6, 2) := by decide +kernel
theorem ew_d_1_31 : decode cX1_init 31 = .ok (.newarray .boolean, 2) := by decide +kernel
theorem ew_d_1_33 : decode cX1_init 33 = .ok (.putfield 21, 3) := by decide +kernel
theorem ew_d_1_36 : decode cX1_init 36 = .ok (.aload_n 0, 1) := by decide +kernel
theorem ew_d_1_37 : decode cX1_init 37 = .ok (.bipush 6, 2) := by decide +kernel
theorem ew_d_1_39 : decode cX1_init 39 = .ok (.newarray .int, 2) := by decide +kernel
theorem ew_d_1_41 : decode cX1_init 41 = .ok (.putfield 25, 3) := by decide +kernel
theorem ew_d_1_44 : decode cX1_init 44 = .ok (.aload_n 0, 1) := by decide +kernel
theorem ew_d_1_45 : decode cX1_init 45 = .ok (.bipush 36, 2) := by decide +kernel
theorem ew_d_1_47 : decode cX1_init 47 = .ok (.newarray .int, 2) := by decide +kernel
theorem ew_d_1_49 : decode cX1_init 49 = .ok (.putfield 28, 3) := by decide +kernel
theorem ew_d_1_52 : decode cX1_init 52 = .ok (.aload_n 0, 1) := by decide +kernel
theorem ew_d_1_53 : decode cX1_init 53 = .ok (.bipush 36, 2) := by decide +kernel
theorem ew_d_1_55 : decode cX1_init 55 = .ok (.newarray .int, 2) := by decide +kernel
theorem ew_d_1_57 : decode cX1_init 57 = .ok (.putfield 31, 3) := by decide +kernel
theorem ew_d_1_60 : decode cX1_init 60 = .ok (.aload_n 0, 1) := by decide +kernel
theorem ew_d_1_61 : decode cX1_init 61 = .ok (.bipush 36, 2) := by decide +kernel
theorem ew_d_1_63 : decode cX1_init 63 = .ok (.newarray .int, 2) := by decide +kernel
theorem ew_d_1_65 : decode cX1_init 65 = .ok (.putfield 34, 3) := by decide +kernel
theorem ew_d_1_68 : decode cX1_init 68 = .ok (.aload_n 0, 1) := by decide +kernel
theorem ew_d_1_69 : decode cX1_init 69 = .ok (.bipush 36, 2) := by decide +kernel
theorem ew_d_1_71 : decode cX1_init 71 = .ok (.newarray .int, 2) := by decide +kernel
theorem ew_d_1_73 : decode cX1_init 73 = .ok (.putfield 37, 3) := by decide +kernel
theorem ew_d_1_76 : decode cX1_init 76 = .ok (.aload_n 0, 1) := by decide +kernel
theorem ew_d_1_77 : decode cX1_init 77 = .ok (.bipush 36, 2) := by decide +kernel
theorem ew_d_1_79 : decode cX1_init 79 = .ok (.newarray .int, 2) := by decide +kernel
theorem ew_d_1_81 : decode cX1_init 81 = .ok (.putfield 40, 3) := by decide +kernel
theorem ew_d_1_84 : decode cX1_init 84 = .ok (.return_, 1) := by decide +kernel
def ew_w1 (cI cZ : ClassId) (h0 : Nat) (u : Nat → Nat) : va_W := [(h0, .inr (1, [.int 0, .ref (u 1), .ref (u 2), .ref (u 3), .ref (u 4), .ref (u 5), .ref (u 6), .ref (u 7), .ref (u 8), .ref (u 9), .ref (u 10)])), (u 1, .inl (cI, 6, .inl (fun _ => 0))), (u 2, .inl (cI, 6, .inl (fun _ => 0))), (u 3, .inl (cI, 6, .inl (fun _ => 0))), (u 4, .inl (cZ, 6, .inl (fun _ => 0))), (u 5, .inl (cI, 6, .inl (fun _ => 0))), (u 6, .inl (cI, 36, .inl (fun _ => 0))), (u 7, .inl (cI, 36, .inl (fun _ => 0))), (u 8, .inl (cI, 36, .inl (fun _ => 0))), (u 9, .inl (cI, 36, .inl (fun _ => 0))), (u 10, .inl (cI, 36, .inl (fun _ => 0)))]
set_option maxHeartbeats 8000000 in
set_option maxRecDepth 100000 in
theorem ew_c_1 (l : Launch) (D : va_G) (cI cZ cS : ClassId) (h0 sz : Nat) : Met l yX1_init (.code yX1_init cX1_init 1 none :: ev_gw) { frames := 1, cells := 10, slots := 210, locals := 12 } (va_Pc [.ref h0] (fun U => U.heap.size = sz ∧ va_P D vwCl [(h0, .inr (1, [.int 0, .null, .null, .null, .null, .null, .null, .null, .null, .null, .null]))] U.heap ∧ va_K D vwCl (ev_ty cI cZ cS) U ∧ va_D (fun _ => True) [(h0, .inr (1, [.int 0, .null, .null, .null, .null, .null, .null, .null, .null, .null, .null]))])) (va_Qv (fun u : Nat → Nat => u 0 = h0) (fun u t => va_P D vwCl (ew_w1 cI cZ h0 u) t.heap ∧ va_D (va_A [(h0, .inr (1, [.int 0, .null, .null, .null, .null, .null, .null, .null, .null, .null, .null]))] sz) (ew_w1 cI cZ h0 u)) (va_A [(h0, .inr (1, [.int 0, .null, .null, .null, .null, .null, .null, .null, .null, .null, .null]))] sz)) 10 210 (va_A [(h0, .inr (1, [.int 0, .null, .null, .null, .null, .null, .null, .null, .null, .null, .null]))] sz) := by
  refine Met.ofW (cc := cX1_init) (maxL := 1) (ret := none) (by decide) rfl ?_
  intro p e s m args below meth c s₁ B hml hv
  obtain ⟨rfl, hsz, hP, hK, hD0⟩ := hv
  have hx := B.exec
  have hb := B.bytes
  have hr := B.returns
  have hts : ∀ w ∈ ev_gw, w.before #[Value.ref h0] s = true := fun w hw => atoms_spec (ws := .code yX1_init cX1_init 1 none :: ev_gw) B.pre w (List.mem_cons_of_mem _ hw)
  have hown : s.vm.findClass RX1 = some m.cls := findClass_of_methodNamed B.named
  have hlocks := B.notSynchronized
  have hin : meth.name = "<init>" := (name_of_methodNamed B.named B.method).1
  subst hsz
  have hD := hD0.self (sz := s.heap.size)
  generalize hAe : va_A [(h0, .inr (1, [.int 0, .null, .null, .null, .null, .null, .null, .null, .null, .null, .null]))] s.heap.size = A at hD ⊢
  have hA : ∀ q : Nat, s.heap.size ≤ q → A q := fun q h => by rw [← hAe]; exact Or.inr h
  have hS : va_S A s.heap s.heap [] := va_S.rf
  have hP : va_P D vwCl [(h0, .inr (1, [.int 0, .null, .null, .null, .null, .null, .null, .null, .null, .null, .null]))] s.heap := hP
  have hl := lv_entry ([.ref h0]) (n := 1) (Nat.le_of_ble_eq_true rfl)
  rw [lg_entry_eq]
  generalize (lg_sl ([.ref h0]) ++ List.replicate (1 - (lg_sl ([.ref h0])).length) Slot.unset).toArray = ls at hl ⊢
  have hl : lv_has ls 1 [(0, .ref h0)] := hl
  have hArI : (Cond.arrayClass .int).before #[Value.ref h0] s = true := hts _ (ev_gwm (List.mem_of_getElem? (i := 130) (by decide +kernel)) rfl)
  have hArZ : (Cond.arrayClass .boolean).before #[Value.ref h0] s = true := hts _ (ev_gwm (List.mem_of_getElem? (i := 195) (by decide +kernel)) rfl)
  refine lv_aload_n hx hb ew_d_1_0 rfl (lv_at hl 0 rfl) ?_
  refine W.objInit hx hb hown (hts (.methodLink RX1 3 Lib.objectInit) (ev_gwm (List.mem_of_getElem? (i := 136) (by decide +kernel)) rfl)) (hts (.instanceMethod Lib.objectInit) (ev_gwm (List.mem_of_getElem? (i := 82) (by decide +kernel)) rfl)) (hts (.code Lib.objectInit ⟨#[0xb1]⟩ 1 none) (ev_gwm (List.mem_of_getElem? (i := 83) (by decide +kernel)) rfl)) rfl (by rw [hml]; exact hl.1) rfl ew_d_1_1 (Nat.le_of_ble_eq_true rfl) (Nat.le_of_ble_eq_true rfl) ?_
  refine W.eq (g2 := F0 m 4 ls []) rfl ?_
  refine lv_aload_n hx hb ew_d_1_4 rfl (lv_at hl 0 rfl) ?_
  refine lv_bipush (v := 6) hx hb ew_d_1_5 (by decide) ?_
  refine ew_newa (atype := .int) (ty := .int) (cI := cI) (N' := 6) (a0 := (6, .inl (fun _ => 0))) hx hb hArI rfl (by decide) hK 0 rfl hP hD hS hA (fun _ => rfl) (by decide) (by decide) (Nat.le_of_ble_eq_true rfl) (Nat.le_of_ble_eq_true rfl) (Nat.le_of_ble_eq_true rfl) ew_d_1_7 rfl (fun q1 H hP hD hS => ?_)
  have hP : va_P D vwCl [(h0, .inr (1, [.int 0, .null, .null, .null, .null, .null, .null, .null, .null, .null, .null])), (q1, .inl (cI, 6, .inl (fun _ => 0)))] H := hP
  have hD : va_D A [(h0, .inr (1, [.int 0, .null, .null, .null, .null, .null, .null, .null, .null, .null, .null])), (q1, .inl (cI, 6, .inl (fun _ => 0)))] := hD
  refine W.widen (k := 1) (n := 6) (Nat.le_of_ble_eq_true rfl) (Nat.le_of_ble_eq_true rfl) ?_
  refine va_putF (D := D) (ci := 1) (v := .ref q1) (ty := tyX1 1) (C := RX1) (T := TX1) (N := 11) hx hb hts (ev_in_g 1 (by decide)) tyX1 tyX1_ok nmX1 hown hK hP hD hS 0 rfl rfl 1 (by decide) (hts (.fieldLink RX1 9 RX1 "road" "[I") (ev_gwm (List.mem_of_getElem? (i := 143) (by decide +kernel)) rfl)) (fun _ h9 => h9) rfl hin rfl (by decide +kernel) rfl rfl (Nat.le_of_ble_eq_true rfl) ew_d_1_9 (fun H locs hP hD hS => ?_)
  have hP : va_P D vwCl [(h0, .inr (1, [.int 0, .ref q1, .null, .null, .null, .null, .null, .null, .null, .null, .null])), (q1, .inl (cI, 6, .inl (fun _ => 0)))] H := hP
  have hD : va_D A [(h0, .inr (1, [.int 0, .ref q1, .null, .null, .null, .null, .null, .null, .null, .null, .null])), (q1, .inl (cI, 6, .inl (fun _ => 0)))] := hD
  refine lv_aload_n hx hb ew_d_1_12 rfl (lv_at hl 0 rfl) ?_
  refine lv_bipush (v := 6) hx hb ew_d_1_13 (by decide) ?_
  refine ew_newa (atype := .int) (ty := .int) (cI := cI) (N' := 6) (a0 := (6, .inl (fun _ => 0))) hx hb hArI rfl (by decide) hK 0 rfl hP hD hS hA (fun _ => rfl) (by decide) (by decide) (Nat.le_of_ble_eq_true rfl) (Nat.le_of_ble_eq_true rfl) (Nat.le_of_ble_eq_true rfl) ew_d_1_15 rfl (fun q2 H hP hD hS => ?_)
  have hP : va_P D vwCl [(h0, .inr (1, [.int 0, .ref q1, .null, .null, .null, .null, .null, .null, .null, .null, .null])), (q1, .inl (cI, 6, .inl (fun _ => 0))), (q2, .inl (cI, 6, .inl (fun _ => 0)))] H := hP
  have hD : va_D A [(h0, .inr (1, [.int 0, .ref q1, .null, .null, .null, .null, .null, .null, .null, .null, .null])), (q1, .inl (cI, 6, .inl (fun _ => 0))), (q2, .inl (cI, 6, .inl (fun _ => 0)))] := hD
  refine W.widen (k := 2) (n := 12) (Nat.le_of_ble_eq_true rfl) (Nat.le_of_ble_eq_true rfl) ?_
  refine va_putF (D := D) (ci := 1) (v := .ref q2) (ty := tyX1 2) (C := RX1) (T := TX1) (N := 11) hx hb hts (ev_in_g 1 (by decide)) tyX1 tyX1_ok nmX1 hown hK hP hD hS 0 rfl rfl 2 (by decide) (hts (.fieldLink RX1 15 RX1 "told" "[I") (ev_gwm (List.mem_of_getElem? (i := 146) (by decide +kernel)) rfl)) (fun _ h9 => h9) rfl hin rfl (by decide +kernel) rfl rfl (Nat.le_of_ble_eq_true rfl) ew_d_1_17 (fun H locs hP hD hS => ?_)
  have hP : va_P D vwCl [(h0, .inr (1, [.int 0, .ref q1, .ref q2, .null, .null, .null, .null, .null, .null, .null, .null])), (q1, .inl (cI, 6, .inl (fun _ => 0))), (q2, .inl (cI, 6, .inl (fun _ => 0)))] H := hP
  have hD : va_D A [(h0, .inr (1, [.int 0, .ref q1, .ref q2, .null, .null, .null, .null, .null, .null, .null, .null])), (q1, .inl (cI, 6, .inl (fun _ => 0))), (q2, .inl (cI, 6, .inl (fun _ => 0)))] := hD
  refine lv_aload_n hx hb ew_d_1_20 rfl (lv_at hl 0 rfl) ?_
  refine lv_bipush (v := 6) hx hb ew_d_1_21 (by decide) ?_
  refine ew_newa (atype := .int) (ty := .int) (cI := cI) (N' := 6) (a0 := (6, .inl (fun _ => 0))) hx hb hArI rfl (by decide) hK 0 rfl hP hD hS hA (fun _ => rfl) (by decide) (by decide) (Nat.le_of_ble_eq_true rfl) (Nat.le_of_ble_eq_true rfl) (Nat.le_of_ble_eq_true rfl) ew_d_1_23 rfl (fun q3 H hP hD hS => ?_)
  have hP : va_P D vwCl [(h0, .inr (1, [.int 0, .ref q1, .ref q2, .null, .null, .null, .null, .null, .null, .null, .null])), (q1, .inl (cI, 6, .inl (fun _ => 0))), (q2, .inl (cI, 6, .inl (fun _ => 0))), (q3, .inl (cI, 6, .inl (fun _ => 0)))] H := hP
  have hD : va_D A [(h0, .inr (1, [.int 0, .ref q1, .ref q2, .null, .null, .null, .null, .null, .null, .null, .null])), (q1, .inl (cI, 6, .inl (fun _ => 0))), (q2, .inl (cI, 6, .inl (fun _ => 0))), (q3, .inl (cI, 6, .inl (fun _ => 0)))] := hD
  refine W.widen (k := 3) (n := 18) (Nat.le_of_ble_eq_true rfl) (Nat.le_of_ble_eq_true rfl) ?_
  refine va_putF (D := D) (ci := 1) (v := .ref q3) (ty := tyX1 3) (C := RX1) (T := TX1) (N := 11) hx hb hts (ev_in_g 1 (by decide)) tyX1 tyX1_ok nmX1 hown hK hP hD hS 0 rfl rfl 3 (by decide) (hts (.fieldLink RX1 18 RX1 "seen" "[I") (ev_gwm (List.mem_of_getElem? (i := 150) (by decide +kernel)) rfl)) (fun _ h9 => h9) rfl hin rfl (by decide +kernel) rfl rfl (Nat.le_of_ble_eq_true rfl) ew_d_1_25 (fun H locs hP hD hS => ?_)
  have hP : va_P D vwCl [(h0, .inr (1, [.int 0, .ref q1, .ref q2, .ref q3, .null, .null, .null, .null, .null, .null, .null])), (q1, .inl (cI, 6, .inl (fun _ => 0))), (q2, .inl (cI, 6, .inl (fun _ => 0))), (q3, .inl (cI, 6, .inl (fun _ => 0)))] H := hP
  have hD : va_D A [(h0, .inr (1, [.int 0, .ref q1, .ref q2, .ref q3, .null, .null, .null, .null, .null, .null, .null])), (q1, .inl (cI, 6, .inl (fun _ => 0))), (q2, .inl (cI, 6, .inl (fun _ => 0))), (q3, .inl (cI, 6, .inl (fun _ => 0)))] := hD
  refine lv_aload_n hx hb ew_d_1_28 rfl (lv_at hl 0 rfl) ?_
  refine lv_bipush (v := 6) hx hb ew_d_1_29 (by decide) ?_
  refine ew_newa (atype := .boolean) (ty := .boolean) (cI := cZ) (N' := 6) (a0 := (6, .inl (fun _ => 0))) hx hb hArZ rfl (by decide) hK 1 rfl hP hD hS hA (fun _ => rfl) (by decide) (by decide) (Nat.le_of_ble_eq_true rfl) (Nat.le_of_ble_eq_true rfl) (Nat.le_of_ble_eq_true rfl) ew_d_1_31 rfl (fun q4 H hP hD hS => ?_)
  have hP : va_P D vwCl [(h0, .inr (1, [.int 0, .ref q1, .ref q2, .ref q3, .null, .null, .null, .null, .null, .null, .null])), (q1, .inl (cI, 6, .inl (fun _ => 0))), (q2, .inl (cI, 6, .inl (fun _ => 0))), (q3, .inl (cI, 6, .inl (fun _ => 0))), (q4, .inl (cZ, 6, .inl (fun _ => 0)))] H := hP
  have hD : va_D A [(h0, .inr (1, [.int 0, .ref q1, .ref q2, .ref q3, .null, .null, .null, .null, .null, .null, .null])), (q1, .inl (cI, 6, .inl (fun _ => 0))), (q2, .inl (cI, 6, .inl (fun _ => 0))), (q3, .inl (cI, 6, .inl (fun _ => 0))), (q4, .inl (cZ, 6, .inl (fun _ => 0)))] := hD
  refine W.widen (k := 4) (n := 24) (Nat.le_of_ble_eq_true rfl) (Nat.le_of_ble_eq_true rfl) ?_
  refine va_putF (D := D) (ci := 1) (v := .ref q4) (ty := tyX1 4) (C := RX1) (T := TX1) (N := 11) hx hb hts (ev_in_g 1 (by decide)) tyX1 tyX1_ok nmX1 hown hK hP hD hS 0 rfl rfl 4 (by decide) (hts (.fieldLink RX1 21 RX1 "closed" "[Z") (ev_gwm (List.mem_of_getElem? (i := 153) (by decide +kernel)) rfl)) (fun _ h9 => h9) rfl hin rfl (by decide +kernel) rfl rfl (Nat.le_of_ble_eq_true rfl) ew_d_1_33 (fun H locs hP hD hS => ?_)
  have hP : va_P D vwCl [(h0, .inr (1, [.int 0, .ref q1, .ref q2, .ref q3, .ref q4, .null, .null, .null, .null, .null, .null])), (q1, .inl (cI, 6, .inl (fun _ => 0))), (q2, .inl (cI, 6, .inl (fun _ => 0))), (q3, .inl (cI, 6, .inl (fun _ => 0))), (q4, .inl (cZ, 6, .inl (fun _ => 0)))] H := hP
  have hD : va_D A [(h0, .inr (1, [.int 0, .ref q1, .ref q2, .ref q3, .ref q4, .null, .null, .null, .null, .null, .null])), (q1, .inl (cI, 6, .inl (fun _ => 0))), (q2, .inl (cI, 6, .inl (fun _ => 0))), (q3, .inl (cI, 6, .inl (fun _ => 0))), (q4, .inl (cZ, 6, .inl (fun _ => 0)))] := hD
  refine lv_aload_n hx hb ew_d_1_36 rfl (lv_at hl 0 rfl) ?_
  refine lv_bipush (v := 6) hx hb ew_d_1_37 (by decide) ?_
  refine ew_newa (atype := .int) (ty := .int) (cI := cI) (N' := 6) (a0 := (6, .inl (fun _ => 0))) hx hb hArI rfl (by decide) hK 0 rfl hP hD hS hA (fun _ => rfl) (by decide) (by decide) (Nat.le_of_ble_eq_true rfl) (Nat.le_of_ble_eq_true rfl) (Nat.le_of_ble_eq_true rfl) ew_d_1_39 rfl (fun q5 H hP hD hS => ?_)
  have hP : va_P D vwCl [(h0, .inr (1, [.int 0, .ref q1, .ref q2, .ref q3, .ref q4, .null, .null, .null, .null, .null, .null])), (q1, .inl (cI, 6, .inl (fun _ => 0))), (q2, .inl (cI, 6, .inl (fun _ => 0))), (q3, .inl (cI, 6, .inl (fun _ => 0))), (q4, .inl (cZ, 6, .inl (fun _ => 0))), (q5, .inl (cI, 6, .inl (fun _ => 0)))] H := hP
  have hD : va_D A [(h0, .inr (1, [.int 0, .ref q1, .ref q2, .ref q3, .ref q4, .null, .null, .null, .null, .null, .null])), (q1, .inl (cI, 6, .inl (fun _ => 0))), (q2, .inl (cI, 6, .inl (fun _ => 0))), (q3, .inl (cI, 6, .inl (fun _ => 0))), (q4, .inl (cZ, 6, .inl (fun _ => 0))), (q5, .inl (cI, 6, .inl (fun _ => 0)))] := hD
  refine W.widen (k := 5) (n := 30) (Nat.le_of_ble_eq_true rfl) (Nat.le_of_ble_eq_true rfl) ?_
  refine va_putF (D := D) (ci := 1) (v := .ref q5) (ty := tyX1 5) (C := RX1) (T := TX1) (N := 11) hx hb hts (ev_in_g 1 (by decide)) tyX1 tyX1_ok nmX1 hown hK hP hD hS 0 rfl rfl 5 (by decide) (hts (.fieldLink RX1 25 RX1 "components" "[I") (ev_gwm (List.mem_of_getElem? (i := 155) (by decide +kernel)) rfl)) (fun _ h9 => h9) rfl hin rfl (by decide +kernel) rfl rfl (Nat.le_of_ble_eq_true rfl) ew_d_1_41 (fun H locs hP hD hS => ?_)
  have hP : va_P D vwCl [(h0, .inr (1, [.int 0, .ref q1, .ref q2, .ref q3, .ref q4, .ref q5, .null, .null, .null, .null, .null])), (q1, .inl (cI, 6, .inl (fun _ => 0))), (q2, .inl (cI, 6, .inl (fun _ => 0))), (q3, .inl (cI, 6, .inl (fun _ => 0))), (q4, .inl (cZ, 6, .inl (fun _ => 0))), (q5, .inl (cI, 6, .inl (fun _ => 0)))] H := hP
  have hD : va_D A [(h0, .inr (1, [.int 0, .ref q1, .ref q2, .ref q3, .ref q4, .ref q5, .null, .null, .null, .null, .null])), (q1, .inl (cI, 6, .inl (fun _ => 0))), (q2, .inl (cI, 6, .inl (fun _ => 0))), (q3, .inl (cI, 6, .inl (fun _ => 0))), (q4, .inl (cZ, 6, .inl (fun _ => 0))), (q5, .inl (cI, 6, .inl (fun _ => 0)))] := hD
  refine lv_aload_n hx hb ew_d_1_44 rfl (lv_at hl 0 rfl) ?_
  refine lv_bipush (v := 36) hx hb ew_d_1_45 (by decide) ?_
  refine ew_newa (atype := .int) (ty := .int) (cI := cI) (N' := 36) (a0 := (36, .inl (fun _ => 0))) hx hb hArI rfl (by decide) hK 0 rfl hP hD hS hA (fun _ => rfl) (by decide) (by decide) (Nat.le_of_ble_eq_true rfl) (Nat.le_of_ble_eq_true rfl) (Nat.le_of_ble_eq_true rfl) ew_d_1_47 rfl (fun q6 H hP hD hS => ?_)
  have hP : va_P D vwCl [(h0, .inr (1, [.int 0, .ref q1, .ref q2, .ref q3, .ref q4, .ref q5, .null, .null, .null, .null, .null])), (q1, .inl (cI, 6, .inl (fun _ => 0))), (q2, .inl (cI, 6, .inl (fun _ => 0))), (q3, .inl (cI, 6, .inl (fun _ => 0))), (q4, .inl (cZ, 6, .inl (fun _ => 0))), (q5, .inl (cI, 6, .inl (fun _ => 0))), (q6, .inl (cI, 36, .inl (fun _ => 0)))] H := hP
  have hD : va_D A [(h0, .inr (1, [.int 0, .ref q1, .ref q2, .ref q3, .ref q4, .ref q5, .null, .null, .null, .null, .null])), (q1, .inl (cI, 6, .inl (fun _ => 0))), (q2, .inl (cI, 6, .inl (fun _ => 0))), (q3, .inl (cI, 6, .inl (fun _ => 0))), (q4, .inl (cZ, 6, .inl (fun _ => 0))), (q5, .inl (cI, 6, .inl (fun _ => 0))), (q6, .inl (cI, 36, .inl (fun _ => 0)))] := hD
  refine W.widen (k := 6) (n := 66) (Nat.le_of_ble_eq_true rfl) (Nat.le_of_ble_eq_true rfl) ?_
  refine va_putF (D := D) (ci := 1) (v := .ref q6) (ty := tyX1 6) (C := RX1) (T := TX1) (N := 11) hx hb hts (ev_in_g 1 (by decide)) tyX1 tyX1_ok nmX1 hown hK hP hD hS 0 rfl rfl 6 (by decide) (hts (.fieldLink RX1 28 RX1 "kind" "[I") (ev_gwm (List.mem_of_getElem? (i := 159) (by decide +kernel)) rfl)) (fun _ h9 => h9) rfl hin rfl (by decide +kernel) rfl rfl (Nat.le_of_ble_eq_true rfl) ew_d_1_49 (fun H locs hP hD hS => ?_)
  have hP : va_P D vwCl [(h0, .inr (1, [.int 0, .ref q1, .ref q2, .ref q3, .ref q4, .ref q5, .ref q6, .null, .null, .null, .null])), (q1, .inl (cI, 6, .inl (fun _ => 0))), (q2, .inl (cI, 6, .inl (fun _ => 0))), (q3, .inl (cI, 6, .inl (fun _ => 0))), (q4, .inl (cZ, 6, .inl (fun _ => 0))), (q5, .inl (cI, 6, .inl (fun _ => 0))), (q6, .inl (cI, 36, .inl (fun _ => 0)))] H := hP
  have hD : va_D A [(h0, .inr (1, [.int 0, .ref q1, .ref q2, .ref q3, .ref q4, .ref q5, .ref q6, .null, .null, .null, .null])), (q1, .inl (cI, 6, .inl (fun _ => 0))), (q2, .inl (cI, 6, .inl (fun _ => 0))), (q3, .inl (cI, 6, .inl (fun _ => 0))), (q4, .inl (cZ, 6, .inl (fun _ => 0))), (q5, .inl (cI, 6, .inl (fun _ => 0))), (q6, .inl (cI, 36, .inl (fun _ => 0)))] := hD
  refine lv_aload_n hx hb ew_d_1_52 rfl (lv_at hl 0 rfl) ?_
  refine lv_bipush (v := 36) hx hb ew_d_1_53 (by decide) ?_
  refine ew_newa (atype := .int) (ty := .int) (cI := cI) (N' := 36) (a0 := (36, .inl (fun _ => 0))) hx hb hArI rfl (by decide) hK 0 rfl hP hD hS hA (fun _ => rfl) (by decide) (by decide) (Nat.le_of_ble_eq_true rfl) (Nat.le_of_ble_eq_true rfl) (Nat.le_of_ble_eq_true rfl) ew_d_1_55 rfl (fun q7 H hP hD hS => ?_)
  have hP : va_P D vwCl [(h0, .inr (1, [.int 0, .ref q1, .ref q2, .ref q3, .ref q4, .ref q5, .ref q6, .null, .null, .null, .null])), (q1, .inl (cI, 6, .inl (fun _ => 0))), (q2, .inl (cI, 6, .inl (fun _ => 0))), (q3, .inl (cI, 6, .inl (fun _ => 0))), (q4, .inl (cZ, 6, .inl (fun _ => 0))), (q5, .inl (cI, 6, .inl (fun _ => 0))), (q6, .inl (cI, 36, .inl (fun _ => 0))), (q7, .inl (cI, 36, .inl (fun _ => 0)))] H := hP
  have hD : va_D A [(h0, .inr (1, [.int 0, .ref q1, .ref q2, .ref q3, .ref q4, .ref q5, .ref q6, .null, .null, .null, .null])), (q1, .inl (cI, 6, .inl (fun _ => 0))), (q2, .inl (cI, 6, .inl (fun _ => 0))), (q3, .inl (cI, 6, .inl (fun _ => 0))), (q4, .inl (cZ, 6, .inl (fun _ => 0))), (q5, .inl (cI, 6, .inl (fun _ => 0))), (q6, .inl (cI, 36, .inl (fun _ => 0))), (q7, .inl (cI, 36, .inl (fun _ => 0)))] := hD
  refine W.widen (k := 7) (n := 102) (Nat.le_of_ble_eq_true rfl) (Nat.le_of_ble_eq_true rfl) ?_
  refine va_putF (D := D) (ci := 1) (v := .ref q7) (ty := tyX1 7) (C := RX1) (T := TX1) (N := 11) hx hb hts (ev_in_g 1 (by decide)) tyX1 tyX1_ok nmX1 hown hK hP hD hS 0 rfl rfl 7 (by decide) (hts (.fieldLink RX1 31 RX1 "rating" "[I") (ev_gwm (List.mem_of_getElem? (i := 162) (by decide +kernel)) rfl)) (fun _ h9 => h9) rfl hin rfl (by decide +kernel) rfl rfl (Nat.le_of_ble_eq_true rfl) ew_d_1_57 (fun H locs hP hD hS => ?_)
  have hP : va_P D vwCl [(h0, .inr (1, [.int 0, .ref q1, .ref q2, .ref q3, .ref q4, .ref q5, .ref q6, .ref q7, .null, .null, .null])), (q1, .inl (cI, 6, .inl (fun _ => 0))), (q2, .inl (cI, 6, .inl (fun _ => 0))), (q3, .inl (cI, 6, .inl (fun _ => 0))), (q4, .inl (cZ, 6, .inl (fun _ => 0))), (q5, .inl (cI, 6, .inl (fun _ => 0))), (q6, .inl (cI, 36, .inl (fun _ => 0))), (q7, .inl (cI, 36, .inl (fun _ => 0)))] H := hP
  have hD : va_D A [(h0, .inr (1, [.int 0, .ref q1, .ref q2, .ref q3, .ref q4, .ref q5, .ref q6, .ref q7, .null, .null, .null])), (q1, .inl (cI, 6, .inl (fun _ => 0))), (q2, .inl (cI, 6, .inl (fun _ => 0))), (q3, .inl (cI, 6, .inl (fun _ => 0))), (q4, .inl (cZ, 6, .inl (fun _ => 0))), (q5, .inl (cI, 6, .inl (fun _ => 0))), (q6, .inl (cI, 36, .inl (fun _ => 0))), (q7, .inl (cI, 36, .inl (fun _ => 0)))] := hD
  refine lv_aload_n hx hb ew_d_1_60 rfl (lv_at hl 0 rfl) ?_
  refine lv_bipush (v := 36) hx hb ew_d_1_61 (by decide) ?_
  refine ew_newa (atype := .int) (ty := .int) (cI := cI) (N' := 36) (a0 := (36, .inl (fun _ => 0))) hx hb hArI rfl (by decide) hK 0 rfl hP hD hS hA (fun _ => rfl) (by decide) (by decide) (Nat.le_of_ble_eq_true rfl) (Nat.le_of_ble_eq_true rfl) (Nat.le_of_ble_eq_true rfl) ew_d_1_63 rfl (fun q8 H hP hD hS => ?_)
  have hP : va_P D vwCl [(h0, .inr (1, [.int 0, .ref q1, .ref q2, .ref q3, .ref q4, .ref q5, .ref q6, .ref q7, .null, .null, .null])), (q1, .inl (cI, 6, .inl (fun _ => 0))), (q2, .inl (cI, 6, .inl (fun _ => 0))), (q3, .inl (cI, 6, .inl (fun _ => 0))), (q4, .inl (cZ, 6, .inl (fun _ => 0))), (q5, .inl (cI, 6, .inl (fun _ => 0))), (q6, .inl (cI, 36, .inl (fun _ => 0))), (q7, .inl (cI, 36, .inl (fun _ => 0))), (q8, .inl (cI, 36, .inl (fun _ => 0)))] H := hP
  have hD : va_D A [(h0, .inr (1, [.int 0, .ref q1, .ref q2, .ref q3, .ref q4, .ref q5, .ref q6, .ref q7, .null, .null, .null])), (q1, .inl (cI, 6, .inl (fun _ => 0))), (q2, .inl (cI, 6, .inl (fun _ => 0))), (q3, .inl (cI, 6, .inl (fun _ => 0))), (q4, .inl (cZ, 6, .inl (fun _ => 0))), (q5, .inl (cI, 6, .inl (fun _ => 0))), (q6, .inl (cI, 36, .inl (fun _ => 0))), (q7, .inl (cI, 36, .inl (fun _ => 0))), (q8, .inl (cI, 36, .inl (fun _ => 0)))] := hD
  refine W.widen (k := 8) (n := 138) (Nat.le_of_ble_eq_true rfl) (Nat.le_of_ble_eq_true rfl) ?_
  refine va_putF (D := D) (ci := 1) (v := .ref q8) (ty := tyX1 8) (C := RX1) (T := TX1) (N := 11) hx hb hts (ev_in_g 1 (by decide)) tyX1 tyX1_ok nmX1 hown hK hP hD hS 0 rfl rfl 8 (by decide) (hts (.fieldLink RX1 34 RX1 "wear" "[I") (ev_gwm (List.mem_of_getElem? (i := 165) (by decide +kernel)) rfl)) (fun _ h9 => h9) rfl hin rfl (by decide +kernel) rfl rfl (Nat.le_of_ble_eq_true rfl) ew_d_1_65 (fun H locs hP hD hS => ?_)
  have hP : va_P D vwCl [(h0, .inr (1, [.int 0, .ref q1, .ref q2, .ref q3, .ref q4, .ref q5, .ref q6, .ref q7, .ref q8, .null, .null])), (q1, .inl (cI, 6, .inl (fun _ => 0))), (q2, .inl (cI, 6, .inl (fun _ => 0))), (q3, .inl (cI, 6, .inl (fun _ => 0))), (q4, .inl (cZ, 6, .inl (fun _ => 0))), (q5, .inl (cI, 6, .inl (fun _ => 0))), (q6, .inl (cI, 36, .inl (fun _ => 0))), (q7, .inl (cI, 36, .inl (fun _ => 0))), (q8, .inl (cI, 36, .inl (fun _ => 0)))] H := hP
  have hD : va_D A [(h0, .inr (1, [.int 0, .ref q1, .ref q2, .ref q3, .ref q4, .ref q5, .ref q6, .ref q7, .ref q8, .null, .null])), (q1, .inl (cI, 6, .inl (fun _ => 0))), (q2, .inl (cI, 6, .inl (fun _ => 0))), (q3, .inl (cI, 6, .inl (fun _ => 0))), (q4, .inl (cZ, 6, .inl (fun _ => 0))), (q5, .inl (cI, 6, .inl (fun _ => 0))), (q6, .inl (cI, 36, .inl (fun _ => 0))), (q7, .inl (cI, 36, .inl (fun _ => 0))), (q8, .inl (cI, 36, .inl (fun _ => 0)))] := hD
  refine lv_aload_n hx hb ew_d_1_68 rfl (lv_at hl 0 rfl) ?_
  refine lv_bipush (v := 36) hx hb ew_d_1_69 (by decide) ?_
  refine ew_newa (atype := .int) (ty := .int) (cI := cI) (N' := 36) (a0 := (36, .inl (fun _ => 0))) hx hb hArI rfl (by decide) hK 0 rfl hP hD hS hA (fun _ => rfl) (by decide) (by decide) (Nat.le_of_ble_eq_true rfl) (Nat.le_of_ble_eq_true rfl) (Nat.le_of_ble_eq_true rfl) ew_d_1_71 rfl (fun q9 H hP hD hS => ?_)
  have hP : va_P D vwCl [(h0, .inr (1, [.int 0, .ref q1, .ref q2, .ref q3, .ref q4, .ref q5, .ref q6, .ref q7, .ref q8, .null, .null])), (q1, .inl (cI, 6, .inl (fun _ => 0))), (q2, .inl (cI, 6, .inl (fun _ => 0))), (q3, .inl (cI, 6, .inl (fun _ => 0))), (q4, .inl (cZ, 6, .inl (fun _ => 0))), (q5, .inl (cI, 6, .inl (fun _ => 0))), (q6, .inl (cI, 36, .inl (fun _ => 0))), (q7, .inl (cI, 36, .inl (fun _ => 0))), (q8, .inl (cI, 36, .inl (fun _ => 0))), (q9, .inl (cI, 36, .inl (fun _ => 0)))] H := hP
  have hD : va_D A [(h0, .inr (1, [.int 0, .ref q1, .ref q2, .ref q3, .ref q4, .ref q5, .ref q6, .ref q7, .ref q8, .null, .null])), (q1, .inl (cI, 6, .inl (fun _ => 0))), (q2, .inl (cI, 6, .inl (fun _ => 0))), (q3, .inl (cI, 6, .inl (fun _ => 0))), (q4, .inl (cZ, 6, .inl (fun _ => 0))), (q5, .inl (cI, 6, .inl (fun _ => 0))), (q6, .inl (cI, 36, .inl (fun _ => 0))), (q7, .inl (cI, 36, .inl (fun _ => 0))), (q8, .inl (cI, 36, .inl (fun _ => 0))), (q9, .inl (cI, 36, .inl (fun _ => 0)))] := hD
  refine W.widen (k := 9) (n := 174) (Nat.le_of_ble_eq_true rfl) (Nat.le_of_ble_eq_true rfl) ?_
  refine va_putF (D := D) (ci := 1) (v := .ref q9) (ty := tyX1 9) (C := RX1) (T := TX1) (N := 11) hx hb hts (ev_in_g 1 (by decide)) tyX1 tyX1_ok nmX1 hown hK hP hD hS 0 rfl rfl 9 (by decide) (hts (.fieldLink RX1 37 RX1 "rate" "[I") (ev_gwm (List.mem_of_getElem? (i := 167) (by decide +kernel)) rfl)) (fun _ h9 => h9) rfl hin rfl (by decide +kernel) rfl rfl (Nat.le_of_ble_eq_true rfl) ew_d_1_73 (fun H locs hP hD hS => ?_)
  have hP : va_P D vwCl [(h0, .inr (1, [.int 0, .ref q1, .ref q2, .ref q3, .ref q4, .ref q5, .ref q6, .ref q7, .ref q8, .ref q9, .null])), (q1, .inl (cI, 6, .inl (fun _ => 0))), (q2, .inl (cI, 6, .inl (fun _ => 0))), (q3, .inl (cI, 6, .inl (fun _ => 0))), (q4, .inl (cZ, 6, .inl (fun _ => 0))), (q5, .inl (cI, 6, .inl (fun _ => 0))), (q6, .inl (cI, 36, .inl (fun _ => 0))), (q7, .inl (cI, 36, .inl (fun _ => 0))), (q8, .inl (cI, 36, .inl (fun _ => 0))), (q9, .inl (cI, 36, .inl (fun _ => 0)))] H := hP
  have hD : va_D A [(h0, .inr (1, [.int 0, .ref q1, .ref q2, .ref q3, .ref q4, .ref q5, .ref q6, .ref q7, .ref q8, .ref q9, .null])), (q1, .inl (cI, 6, .inl (fun _ => 0))), (q2, .inl (cI, 6, .inl (fun _ => 0))), (q3, .inl (cI, 6, .inl (fun _ => 0))), (q4, .inl (cZ, 6, .inl (fun _ => 0))), (q5, .inl (cI, 6, .inl (fun _ => 0))), (q6, .inl (cI, 36, .inl (fun _ => 0))), (q7, .inl (cI, 36, .inl (fun _ => 0))), (q8, .inl (cI, 36, .inl (fun _ => 0))), (q9, .inl (cI, 36, .inl (fun _ => 0)))] := hD
  refine lv_aload_n hx hb ew_d_1_76 rfl (lv_at hl 0 rfl) ?_
  refine lv_bipush (v := 36) hx hb ew_d_1_77 (by decide) ?_
  refine ew_newa (atype := .int) (ty := .int) (cI := cI) (N' := 36) (a0 := (36, .inl (fun _ => 0))) hx hb hArI rfl (by decide) hK 0 rfl hP hD hS hA (fun _ => rfl) (by decide) (by decide) (Nat.le_of_ble_eq_true rfl) (Nat.le_of_ble_eq_true rfl) (Nat.le_of_ble_eq_true rfl) ew_d_1_79 rfl (fun q10 H hP hD hS => ?_)
  have hP : va_P D vwCl [(h0, .inr (1, [.int 0, .ref q1, .ref q2, .ref q3, .ref q4, .ref q5, .ref q6, .ref q7, .ref q8, .ref q9, .null])), (q1, .inl (cI, 6, .inl (fun _ => 0))), (q2, .inl (cI, 6, .inl (fun _ => 0))), (q3, .inl (cI, 6, .inl (fun _ => 0))), (q4, .inl (cZ, 6, .inl (fun _ => 0))), (q5, .inl (cI, 6, .inl (fun _ => 0))), (q6, .inl (cI, 36, .inl (fun _ => 0))), (q7, .inl (cI, 36, .inl (fun _ => 0))), (q8, .inl (cI, 36, .inl (fun _ => 0))), (q9, .inl (cI, 36, .inl (fun _ => 0))), (q10, .inl (cI, 36, .inl (fun _ => 0)))] H := hP
  have hD : va_D A [(h0, .inr (1, [.int 0, .ref q1, .ref q2, .ref q3, .ref q4, .ref q5, .ref q6, .ref q7, .ref q8, .ref q9, .null])), (q1, .inl (cI, 6, .inl (fun _ => 0))), (q2, .inl (cI, 6, .inl (fun _ => 0))), (q3, .inl (cI, 6, .inl (fun _ => 0))), (q4, .inl (cZ, 6, .inl (fun _ => 0))), (q5, .inl (cI, 6, .inl (fun _ => 0))), (q6, .inl (cI, 36, .inl (fun _ => 0))), (q7, .inl (cI, 36, .inl (fun _ => 0))), (q8, .inl (cI, 36, .inl (fun _ => 0))), (q9, .inl (cI, 36, .inl (fun _ => 0))), (q10, .inl (cI, 36, .inl (fun _ => 0)))] := hD
  refine W.widen (k := 10) (n := 210) (Nat.le_of_ble_eq_true rfl) (Nat.le_of_ble_eq_true rfl) ?_
  refine va_putF (D := D) (ci := 1) (v := .ref q10) (ty := tyX1 10) (C := RX1) (T := TX1) (N := 11) hx hb hts (ev_in_g 1 (by decide)) tyX1 tyX1_ok nmX1 hown hK hP hD hS 0 rfl rfl 10 (by decide) (hts (.fieldLink RX1 40 RX1 "rests" "[I") (ev_gwm (List.mem_of_getElem? (i := 169) (by decide +kernel)) rfl)) (fun _ h9 => h9) rfl hin rfl (by decide +kernel) rfl rfl (Nat.le_of_ble_eq_true rfl) ew_d_1_81 (fun H locs hP hD hS => ?_)
  have hP : va_P D vwCl [(h0, .inr (1, [.int 0, .ref q1, .ref q2, .ref q3, .ref q4, .ref q5, .ref q6, .ref q7, .ref q8, .ref q9, .ref q10])), (q1, .inl (cI, 6, .inl (fun _ => 0))), (q2, .inl (cI, 6, .inl (fun _ => 0))), (q3, .inl (cI, 6, .inl (fun _ => 0))), (q4, .inl (cZ, 6, .inl (fun _ => 0))), (q5, .inl (cI, 6, .inl (fun _ => 0))), (q6, .inl (cI, 36, .inl (fun _ => 0))), (q7, .inl (cI, 36, .inl (fun _ => 0))), (q8, .inl (cI, 36, .inl (fun _ => 0))), (q9, .inl (cI, 36, .inl (fun _ => 0))), (q10, .inl (cI, 36, .inl (fun _ => 0)))] H := hP
  have hD : va_D A [(h0, .inr (1, [.int 0, .ref q1, .ref q2, .ref q3, .ref q4, .ref q5, .ref q6, .ref q7, .ref q8, .ref q9, .ref q10])), (q1, .inl (cI, 6, .inl (fun _ => 0))), (q2, .inl (cI, 6, .inl (fun _ => 0))), (q3, .inl (cI, 6, .inl (fun _ => 0))), (q4, .inl (cZ, 6, .inl (fun _ => 0))), (q5, .inl (cI, 6, .inl (fun _ => 0))), (q6, .inl (cI, 36, .inl (fun _ => 0))), (q7, .inl (cI, 36, .inl (fun _ => 0))), (q8, .inl (cI, 36, .inl (fun _ => 0))), (q9, .inl (cI, 36, .inl (fun _ => 0))), (q10, .inl (cI, 36, .inl (fun _ => 0)))] := hD
  exact W.vret hx hb hr (fun t ht hW => ⟨⟨fun k => [h0, q1, q2, q3, q4, q5, q6, q7, q8, q9, q10].getD k 0, rfl, rfl, by rw [ht]; exact hP, hD⟩, hS.F ht⟩) hS.2.2 ew_d_1_84

theorem ew_d_4_0 : decode cX4_init 0 = .ok (.aload_n 0, 1) := by decide +kernel
theorem ew_d_4_1 : decode cX4_init 1 = .ok (.invokespecial 3, 3) := by decide +kernel
theorem ew_d_4_4 : decode cX4_init 4 = .ok (.aload_n 0, 1) := by decide +kernel
theorem ew_d_4_5 : decode cX4_init 5 = .ok (.bipush 8, 2) := by decide +kernel
theorem ew_d_4_7 : decode cX4_init 7 = .ok (.newarray .int, 2) := by decide +kernel
theorem ew_d_4_9 : decode cX4_init 9 = .ok (.putfield 9, 3) := by decide +kernel
theorem ew_d_4_12 : decode cX4_init 12 = .ok (.aload_n 0, 1) := by decide +kernel
theorem ew_d_4_13 : decode cX4_init 13 = .ok (.bipush 8, 2) := by decide +kernel
theorem ew_d_4_15 : decode cX4_init 15 = .ok (.newarray .int, 2) := by decide +kernel
theorem ew_d_4_17 : decode cX4_init 17 = .ok (.putfield 15, 3) := by decide +kernel
theorem ew_d_4_20 : decode cX4_init 20 = .ok (.aload_n 0, 1) := by decide +kernel
theorem ew_d_4_21 : decode cX4_init 21 = .ok (.bipush 8, 2) := by decide +kernel
theorem ew_d_4_23 : decode cX4_init 23 = .ok (.newarray .int, 2) := by decide +kernel
theorem ew_d_4_25 : decode cX4_init 25 = .ok (.putfield 18, 3) := by decide +kernel
theorem ew_d_4_28 : decode cX4_init 28 = .ok (.aload_n 0, 1) := by decide +kernel
theorem ew_d_4_29 : decode cX4_init 29 = .ok (.iconst 3, 1) := by decide +kernel
theorem ew_d_4_30 : decode cX4_init 30 = .ok (.newarray .int, 2) := by decide +kernel
theorem ew_d_4_32 : decode cX4_init 32 = .ok (.putfield 21, 3) := by decide +kernel
theorem ew_d_4_35 : decode cX4_init 35 = .ok (.aload_n 0, 1) := by decide +kernel
theorem ew_d_4_36 : decode cX4_init 36 = .ok (.bipush 12, 2) := by decide +kernel
theorem ew_d_4_38 : decode cX4_init 38 = .ok (.newarray .int, 2) := by decide +kernel
theorem ew_d_4_40 : decode cX4_init 40 = .ok (.putfield 24, 3) := by decide +kernel
theorem ew_d_4_43 : decode cX4_init 43 = .ok (.return_, 1) := by decide +kernel
def ew_w4 (cI cZ : ClassId) (h0 : Nat) (u : Nat → Nat) : va_W := [(h0, .inr (4, [.int 0, .int 0, .ref (u 1), .ref (u 2), .ref (u 3), .ref (u 4), .ref (u 5)])), (u 1, .inl (cI, 8, .inl (fun _ => 0))), (u 2, .inl (cI, 8, .inl (fun _ => 0))), (u 3, .inl (cI, 8, .inl (fun _ => 0))), (u 4, .inl (cI, 3, .inl (fun _ => 0))), (u 5, .inl (cI, 12, .inl (fun _ => 0)))]
set_option maxHeartbeats 8000000 in
set_option maxRecDepth 100000 in
theorem ew_c_4 (l : Launch) (D : va_G) (cI cZ cS : ClassId) (h0 sz : Nat) : Met l yX4_init (.code yX4_init cX4_init 1 none :: ev_gw) { frames := 1, cells := 5, slots := 39, locals := 12 } (va_Pc [.ref h0] (fun U => U.heap.size = sz ∧ va_P D vwCl [(h0, .inr (4, [.int 0, .int 0, .null, .null, .null, .null, .null]))] U.heap ∧ va_K D vwCl (ev_ty cI cZ cS) U ∧ va_D (fun _ => True) [(h0, .inr (4, [.int 0, .int 0, .null, .null, .null, .null, .null]))])) (va_Qv (fun u : Nat → Nat => u 0 = h0) (fun u t => va_P D vwCl (ew_w4 cI cZ h0 u) t.heap ∧ va_D (va_A [(h0, .inr (4, [.int 0, .int 0, .null, .null, .null, .null, .null]))] sz) (ew_w4 cI cZ h0 u)) (va_A [(h0, .inr (4, [.int 0, .int 0, .null, .null, .null, .null, .null]))] sz)) 5 39 (va_A [(h0, .inr (4, [.int 0, .int 0, .null, .null, .null, .null, .null]))] sz) := by
  refine Met.ofW (cc := cX4_init) (maxL := 1) (ret := none) (by decide) rfl ?_
  intro p e s m args below meth c s₁ B hml hv
  obtain ⟨rfl, hsz, hP, hK, hD0⟩ := hv
  have hx := B.exec
  have hb := B.bytes
  have hr := B.returns
  have hts : ∀ w ∈ ev_gw, w.before #[Value.ref h0] s = true := fun w hw => atoms_spec (ws := .code yX4_init cX4_init 1 none :: ev_gw) B.pre w (List.mem_cons_of_mem _ hw)
  have hown : s.vm.findClass RX4 = some m.cls := findClass_of_methodNamed B.named
  have hlocks := B.notSynchronized
  have hin : meth.name = "<init>" := (name_of_methodNamed B.named B.method).1
  subst hsz
  have hD := hD0.self (sz := s.heap.size)
  generalize hAe : va_A [(h0, .inr (4, [.int 0, .int 0, .null, .null, .null, .null, .null]))] s.heap.size = A at hD ⊢
  have hA : ∀ q : Nat, s.heap.size ≤ q → A q := fun q h => by rw [← hAe]; exact Or.inr h
  have hS : va_S A s.heap s.heap [] := va_S.rf
  have hP : va_P D vwCl [(h0, .inr (4, [.int 0, .int 0, .null, .null, .null, .null, .null]))] s.heap := hP
  have hl := lv_entry ([.ref h0]) (n := 1) (Nat.le_of_ble_eq_true rfl)
  rw [lg_entry_eq]
  generalize (lg_sl ([.ref h0]) ++ List.replicate (1 - (lg_sl ([.ref h0])).length) Slot.unset).toArray = ls at hl ⊢
  have hl : lv_has ls 1 [(0, .ref h0)] := hl
  have hArI : (Cond.arrayClass .int).before #[Value.ref h0] s = true := hts _ (ev_gwm (List.mem_of_getElem? (i := 130) (by decide +kernel)) rfl)
  have hArZ : (Cond.arrayClass .boolean).before #[Value.ref h0] s = true := hts _ (ev_gwm (List.mem_of_getElem? (i := 195) (by decide +kernel)) rfl)
  refine lv_aload_n hx hb ew_d_4_0 rfl (lv_at hl 0 rfl) ?_
  refine W.objInit hx hb hown (hts (.methodLink RX4 3 Lib.objectInit) (ev_gwm (List.mem_of_getElem? (i := 201) (by decide +kernel)) rfl)) (hts (.instanceMethod Lib.objectInit) (ev_gwm (List.mem_of_getElem? (i := 82) (by decide +kernel)) rfl)) (hts (.code Lib.objectInit ⟨#[0xb1]⟩ 1 none) (ev_gwm (List.mem_of_getElem? (i := 83) (by decide +kernel)) rfl)) rfl (by rw [hml]; exact hl.1) rfl ew_d_4_1 (Nat.le_of_ble_eq_true rfl) (Nat.le_of_ble_eq_true rfl) ?_
  refine W.eq (g2 := F0 m 4 ls []) rfl ?_
  refine lv_aload_n hx hb ew_d_4_4 rfl (lv_at hl 0 rfl) ?_
  refine lv_bipush (v := 8) hx hb ew_d_4_5 (by decide) ?_
  refine ew_newa (atype := .int) (ty := .int) (cI := cI) (N' := 8) (a0 := (8, .inl (fun _ => 0))) hx hb hArI rfl (by decide) hK 0 rfl hP hD hS hA (fun _ => rfl) (by decide) (by decide) (Nat.le_of_ble_eq_true rfl) (Nat.le_of_ble_eq_true rfl) (Nat.le_of_ble_eq_true rfl) ew_d_4_7 rfl (fun q1 H hP hD hS => ?_)
  have hP : va_P D vwCl [(h0, .inr (4, [.int 0, .int 0, .null, .null, .null, .null, .null])), (q1, .inl (cI, 8, .inl (fun _ => 0)))] H := hP
  have hD : va_D A [(h0, .inr (4, [.int 0, .int 0, .null, .null, .null, .null, .null])), (q1, .inl (cI, 8, .inl (fun _ => 0)))] := hD
  refine W.widen (k := 1) (n := 8) (Nat.le_of_ble_eq_true rfl) (Nat.le_of_ble_eq_true rfl) ?_
  refine va_putF (D := D) (ci := 4) (v := .ref q1) (ty := tyX4 2) (C := RX4) (T := TX4) (N := 7) hx hb hts (ev_in_g 4 (by decide)) tyX4 tyX4_ok nmX4 hown hK hP hD hS 0 rfl rfl 2 (by decide) (hts (.fieldLink RX4 9 RX4 "bridge" "[I") (ev_gwm (List.mem_of_getElem? (i := 210) (by decide +kernel)) rfl)) (fun _ h9 => h9) rfl hin rfl (by decide +kernel) rfl rfl (Nat.le_of_ble_eq_true rfl) ew_d_4_9 (fun H locs hP hD hS => ?_)
  have hP : va_P D vwCl [(h0, .inr (4, [.int 0, .int 0, .ref q1, .null, .null, .null, .null])), (q1, .inl (cI, 8, .inl (fun _ => 0)))] H := hP
  have hD : va_D A [(h0, .inr (4, [.int 0, .int 0, .ref q1, .null, .null, .null, .null])), (q1, .inl (cI, 8, .inl (fun _ => 0)))] := hD
  refine lv_aload_n hx hb ew_d_4_12 rfl (lv_at hl 0 rfl) ?_
  refine lv_bipush (v := 8) hx hb ew_d_4_13 (by decide) ?_
  refine ew_newa (atype := .int) (ty := .int) (cI := cI) (N' := 8) (a0 := (8, .inl (fun _ => 0))) hx hb hArI rfl (by decide) hK 0 rfl hP hD hS hA (fun _ => rfl) (by decide) (by decide) (Nat.le_of_ble_eq_true rfl) (Nat.le_of_ble_eq_true rfl) (Nat.le_of_ble_eq_true rfl) ew_d_4_15 rfl (fun q2 H hP hD hS => ?_)
  have hP : va_P D vwCl [(h0, .inr (4, [.int 0, .int 0, .ref q1, .null, .null, .null, .null])), (q1, .inl (cI, 8, .inl (fun _ => 0))), (q2, .inl (cI, 8, .inl (fun _ => 0)))] H := hP
  have hD : va_D A [(h0, .inr (4, [.int 0, .int 0, .ref q1, .null, .null, .null, .null])), (q1, .inl (cI, 8, .inl (fun _ => 0))), (q2, .inl (cI, 8, .inl (fun _ => 0)))] := hD
  refine W.widen (k := 2) (n := 16) (Nat.le_of_ble_eq_true rfl) (Nat.le_of_ble_eq_true rfl) ?_
  refine va_putF (D := D) (ci := 4) (v := .ref q2) (ty := tyX4 3) (C := RX4) (T := TX4) (N := 7) hx hb hts (ev_in_g 4 (by decide)) tyX4 tyX4_ok nmX4 hown hK hP hD hS 0 rfl rfl 3 (by decide) (hts (.fieldLink RX4 15 RX4 "component" "[I") (ev_gwm (List.mem_of_getElem? (i := 214) (by decide +kernel)) rfl)) (fun _ h9 => h9) rfl hin rfl (by decide +kernel) rfl rfl (Nat.le_of_ble_eq_true rfl) ew_d_4_17 (fun H locs hP hD hS => ?_)
  have hP : va_P D vwCl [(h0, .inr (4, [.int 0, .int 0, .ref q1, .ref q2, .null, .null, .null])), (q1, .inl (cI, 8, .inl (fun _ => 0))), (q2, .inl (cI, 8, .inl (fun _ => 0)))] H := hP
  have hD : va_D A [(h0, .inr (4, [.int 0, .int 0, .ref q1, .ref q2, .null, .null, .null])), (q1, .inl (cI, 8, .inl (fun _ => 0))), (q2, .inl (cI, 8, .inl (fun _ => 0)))] := hD
  refine lv_aload_n hx hb ew_d_4_20 rfl (lv_at hl 0 rfl) ?_
  refine lv_bipush (v := 8) hx hb ew_d_4_21 (by decide) ?_
  refine ew_newa (atype := .int) (ty := .int) (cI := cI) (N' := 8) (a0 := (8, .inl (fun _ => 0))) hx hb hArI rfl (by decide) hK 0 rfl hP hD hS hA (fun _ => rfl) (by decide) (by decide) (Nat.le_of_ble_eq_true rfl) (Nat.le_of_ble_eq_true rfl) (Nat.le_of_ble_eq_true rfl) ew_d_4_23 rfl (fun q3 H hP hD hS => ?_)
  have hP : va_P D vwCl [(h0, .inr (4, [.int 0, .int 0, .ref q1, .ref q2, .null, .null, .null])), (q1, .inl (cI, 8, .inl (fun _ => 0))), (q2, .inl (cI, 8, .inl (fun _ => 0))), (q3, .inl (cI, 8, .inl (fun _ => 0)))] H := hP
  have hD : va_D A [(h0, .inr (4, [.int 0, .int 0, .ref q1, .ref q2, .null, .null, .null])), (q1, .inl (cI, 8, .inl (fun _ => 0))), (q2, .inl (cI, 8, .inl (fun _ => 0))), (q3, .inl (cI, 8, .inl (fun _ => 0)))] := hD
  refine W.widen (k := 3) (n := 24) (Nat.le_of_ble_eq_true rfl) (Nat.le_of_ble_eq_true rfl) ?_
  refine va_putF (D := D) (ci := 4) (v := .ref q3) (ty := tyX4 4) (C := RX4) (T := TX4) (N := 7) hx hb hts (ev_in_g 4 (by decide)) tyX4 tyX4_ok nmX4 hown hK hP hD hS 0 rfl rfl 4 (by decide) (hts (.fieldLink RX4 18 RX4 "points" "[I") (ev_gwm (List.mem_of_getElem? (i := 218) (by decide +kernel)) rfl)) (fun _ h9 => h9) rfl hin rfl (by decide +kernel) rfl rfl (Nat.le_of_ble_eq_true rfl) ew_d_4_25 (fun H locs hP hD hS => ?_)
  have hP : va_P D vwCl [(h0, .inr (4, [.int 0, .int 0, .ref q1, .ref q2, .ref q3, .null, .null])), (q1, .inl (cI, 8, .inl (fun _ => 0))), (q2, .inl (cI, 8, .inl (fun _ => 0))), (q3, .inl (cI, 8, .inl (fun _ => 0)))] H := hP
  have hD : va_D A [(h0, .inr (4, [.int 0, .int 0, .ref q1, .ref q2, .ref q3, .null, .null])), (q1, .inl (cI, 8, .inl (fun _ => 0))), (q2, .inl (cI, 8, .inl (fun _ => 0))), (q3, .inl (cI, 8, .inl (fun _ => 0)))] := hD
  refine lv_aload_n hx hb ew_d_4_28 rfl (lv_at hl 0 rfl) ?_
  refine lv_iconst (v := 3) hx hb ew_d_4_29 (by decide) ?_
  refine ew_newa (atype := .int) (ty := .int) (cI := cI) (N' := 3) (a0 := (3, .inl (fun _ => 0))) hx hb hArI rfl (by decide) hK 0 rfl hP hD hS hA (fun _ => rfl) (by decide) (by decide) (Nat.le_of_ble_eq_true rfl) (Nat.le_of_ble_eq_true rfl) (Nat.le_of_ble_eq_true rfl) ew_d_4_30 rfl (fun q4 H hP hD hS => ?_)
  have hP : va_P D vwCl [(h0, .inr (4, [.int 0, .int 0, .ref q1, .ref q2, .ref q3, .null, .null])), (q1, .inl (cI, 8, .inl (fun _ => 0))), (q2, .inl (cI, 8, .inl (fun _ => 0))), (q3, .inl (cI, 8, .inl (fun _ => 0))), (q4, .inl (cI, 3, .inl (fun _ => 0)))] H := hP
  have hD : va_D A [(h0, .inr (4, [.int 0, .int 0, .ref q1, .ref q2, .ref q3, .null, .null])), (q1, .inl (cI, 8, .inl (fun _ => 0))), (q2, .inl (cI, 8, .inl (fun _ => 0))), (q3, .inl (cI, 8, .inl (fun _ => 0))), (q4, .inl (cI, 3, .inl (fun _ => 0)))] := hD
  refine W.widen (k := 4) (n := 27) (Nat.le_of_ble_eq_true rfl) (Nat.le_of_ble_eq_true rfl) ?_
  refine va_putF (D := D) (ci := 4) (v := .ref q4) (ty := tyX4 5) (C := RX4) (T := TX4) (N := 7) hx hb hts (ev_in_g 4 (by decide)) tyX4 tyX4_ok nmX4 hown hK hP hD hS 0 rfl rfl 5 (by decide) (hts (.fieldLink RX4 21 RX4 "fee" "[I") (ev_gwm (List.mem_of_getElem? (i := 222) (by decide +kernel)) rfl)) (fun _ h9 => h9) rfl hin rfl (by decide +kernel) rfl rfl (Nat.le_of_ble_eq_true rfl) ew_d_4_32 (fun H locs hP hD hS => ?_)
  have hP : va_P D vwCl [(h0, .inr (4, [.int 0, .int 0, .ref q1, .ref q2, .ref q3, .ref q4, .null])), (q1, .inl (cI, 8, .inl (fun _ => 0))), (q2, .inl (cI, 8, .inl (fun _ => 0))), (q3, .inl (cI, 8, .inl (fun _ => 0))), (q4, .inl (cI, 3, .inl (fun _ => 0)))] H := hP
  have hD : va_D A [(h0, .inr (4, [.int 0, .int 0, .ref q1, .ref q2, .ref q3, .ref q4, .null])), (q1, .inl (cI, 8, .inl (fun _ => 0))), (q2, .inl (cI, 8, .inl (fun _ => 0))), (q3, .inl (cI, 8, .inl (fun _ => 0))), (q4, .inl (cI, 3, .inl (fun _ => 0)))] := hD
  refine lv_aload_n hx hb ew_d_4_35 rfl (lv_at hl 0 rfl) ?_
  refine lv_bipush (v := 12) hx hb ew_d_4_36 (by decide) ?_
  refine ew_newa (atype := .int) (ty := .int) (cI := cI) (N' := 12) (a0 := (12, .inl (fun _ => 0))) hx hb hArI rfl (by decide) hK 0 rfl hP hD hS hA (fun _ => rfl) (by decide) (by decide) (Nat.le_of_ble_eq_true rfl) (Nat.le_of_ble_eq_true rfl) (Nat.le_of_ble_eq_true rfl) ew_d_4_38 rfl (fun q5 H hP hD hS => ?_)
  have hP : va_P D vwCl [(h0, .inr (4, [.int 0, .int 0, .ref q1, .ref q2, .ref q3, .ref q4, .null])), (q1, .inl (cI, 8, .inl (fun _ => 0))), (q2, .inl (cI, 8, .inl (fun _ => 0))), (q3, .inl (cI, 8, .inl (fun _ => 0))), (q4, .inl (cI, 3, .inl (fun _ => 0))), (q5, .inl (cI, 12, .inl (fun _ => 0)))] H := hP
  have hD : va_D A [(h0, .inr (4, [.int 0, .int 0, .ref q1, .ref q2, .ref q3, .ref q4, .null])), (q1, .inl (cI, 8, .inl (fun _ => 0))), (q2, .inl (cI, 8, .inl (fun _ => 0))), (q3, .inl (cI, 8, .inl (fun _ => 0))), (q4, .inl (cI, 3, .inl (fun _ => 0))), (q5, .inl (cI, 12, .inl (fun _ => 0)))] := hD
  refine W.widen (k := 5) (n := 39) (Nat.le_of_ble_eq_true rfl) (Nat.le_of_ble_eq_true rfl) ?_
  refine va_putF (D := D) (ci := 4) (v := .ref q5) (ty := tyX4 6) (C := RX4) (T := TX4) (N := 7) hx hb hts (ev_in_g 4 (by decide)) tyX4 tyX4_ok nmX4 hown hK hP hD hS 0 rfl rfl 6 (by decide) (hts (.fieldLink RX4 24 RX4 "price" "[I") (ev_gwm (List.mem_of_getElem? (i := 226) (by decide +kernel)) rfl)) (fun _ h9 => h9) rfl hin rfl (by decide +kernel) rfl rfl (Nat.le_of_ble_eq_true rfl) ew_d_4_40 (fun H locs hP hD hS => ?_)
  have hP : va_P D vwCl [(h0, .inr (4, [.int 0, .int 0, .ref q1, .ref q2, .ref q3, .ref q4, .ref q5])), (q1, .inl (cI, 8, .inl (fun _ => 0))), (q2, .inl (cI, 8, .inl (fun _ => 0))), (q3, .inl (cI, 8, .inl (fun _ => 0))), (q4, .inl (cI, 3, .inl (fun _ => 0))), (q5, .inl (cI, 12, .inl (fun _ => 0)))] H := hP
  have hD : va_D A [(h0, .inr (4, [.int 0, .int 0, .ref q1, .ref q2, .ref q3, .ref q4, .ref q5])), (q1, .inl (cI, 8, .inl (fun _ => 0))), (q2, .inl (cI, 8, .inl (fun _ => 0))), (q3, .inl (cI, 8, .inl (fun _ => 0))), (q4, .inl (cI, 3, .inl (fun _ => 0))), (q5, .inl (cI, 12, .inl (fun _ => 0)))] := hD
  exact W.vret hx hb hr (fun t ht hW => ⟨⟨fun k => [h0, q1, q2, q3, q4, q5].getD k 0, rfl, rfl, by rw [ht]; exact hP, hD⟩, hS.F ht⟩) hS.2.2 ew_d_4_43

theorem ew_d_5_0 : decode cX5_init 0 = .ok (.aload_n 0, 1) := by decide +kernel
theorem ew_d_5_1 : decode cX5_init 1 = .ok (.invokespecial 3, 3) := by decide +kernel
theorem ew_d_5_4 : decode cX5_init 4 = .ok (.aload_n 0, 1) := by decide +kernel
theorem ew_d_5_5 : decode cX5_init 5 = .ok (.bipush 100, 2) := by decide +kernel
theorem ew_d_5_7 : decode cX5_init 7 = .ok (.newarray .int, 2) := by decide +kernel
theorem ew_d_5_9 : decode cX5_init 9 = .ok (.putfield 9, 3) := by decide +kernel
theorem ew_d_5_12 : decode cX5_init 12 = .ok (.aload_n 0, 1) := by decide +kernel
theorem ew_d_5_13 : decode cX5_init 13 = .ok (.bipush 20, 2) := by decide +kernel
theorem ew_d_5_15 : decode cX5_init 15 = .ok (.newarray .int, 2) := by decide +kernel
theorem ew_d_5_17 : decode cX5_init 17 = .ok (.putfield 15, 3) := by decide +kernel
theorem ew_d_5_20 : decode cX5_init 20 = .ok (.aload_n 0, 1) := by decide +kernel
theorem ew_d_5_21 : decode cX5_init 21 = .ok (.bipush 20, 2) := by decide +kernel
theorem ew_d_5_23 : decode cX5_init 23 = .ok (.newarray .int, 2) := by decide +kernel
theorem ew_d_5_25 : decode cX5_init 25 = .ok (.putfield 18, 3) := by decide +kernel
theorem ew_d_5_28 : decode cX5_init 28 = .ok (.aload_n 0, 1) := by decide +kernel
theorem ew_d_5_29 : decode cX5_init 29 = .ok (.bipush 20, 2) := by decide +kernel
theorem ew_d_5_31 : decode cX5_init 31 = .ok (.newarray .int, 2) := by decide +kernel
theorem ew_d_5_33 : decode cX5_init 33 = .ok (.putfield 21, 3) := by decide +kernel
theorem ew_d_5_36 : decode cX5_init 36 = .ok (.aload_n 0, 1) := by decide +kernel
theorem ew_d_5_37 : decode cX5_init 37 = .ok (.bipush 20, 2) := by decide +kernel
theorem ew_d_5_39 : decode cX5_init 39 = .ok (.newarray .boolean, 2) := by decide +kernel
theorem ew_d_5_41 : decode cX5_init 41 = .ok (.putfield 24, 3) := by decide +kernel
theorem ew_d_5_44 : decode cX5_init 44 = .ok (.return_, 1) := by decide +kernel
def ew_w5 (cI cZ : ClassId) (h0 : Nat) (u : Nat → Nat) : va_W := [(h0, .inr (5, [.ref (u 1), .int 0, .int 0, .int 0, .int 0, .int 0, .int 0, .ref (u 2), .ref (u 3), .ref (u 4), .ref (u 5)])), (u 1, .inl (cI, 100, .inl (fun _ => 0))), (u 2, .inl (cI, 20, .inl (fun _ => 0))), (u 3, .inl (cI, 20, .inl (fun _ => 0))), (u 4, .inl (cI, 20, .inl (fun _ => 0))), (u 5, .inl (cZ, 20, .inl (fun _ => 0)))]
set_option maxHeartbeats 8000000 in
set_option maxRecDepth 100000 in
theorem ew_c_5 (l : Launch) (D : va_G) (cI cZ cS : ClassId) (h0 sz : Nat) : Met l yX5_init (.code yX5_init cX5_init 1 none :: ev_gw) { frames := 1, cells := 5, slots := 180, locals := 12 } (va_Pc [.ref h0] (fun U => U.heap.size = sz ∧ va_P D vwCl [(h0, .inr (5, [.null, .int 0, .int 0, .int 0, .int 0, .int 0, .int 0, .null, .null, .null, .null]))] U.heap ∧ va_K D vwCl (ev_ty cI cZ cS) U ∧ va_D (fun _ => True) [(h0, .inr (5, [.null, .int 0, .int 0, .int 0, .int 0, .int 0, .int 0, .null, .null, .null, .null]))])) (va_Qv (fun u : Nat → Nat => u 0 = h0) (fun u t => va_P D vwCl (ew_w5 cI cZ h0 u) t.heap ∧ va_D (va_A [(h0, .inr (5, [.null, .int 0, .int 0, .int 0, .int 0, .int 0, .int 0, .null, .null, .null, .null]))] sz) (ew_w5 cI cZ h0 u)) (va_A [(h0, .inr (5, [.null, .int 0, .int 0, .int 0, .int 0, .int 0, .int 0, .null, .null, .null, .null]))] sz)) 5 180 (va_A [(h0, .inr (5, [.null, .int 0, .int 0, .int 0, .int 0, .int 0, .int 0, .null, .null, .null, .null]))] sz) := by
  refine Met.ofW (cc := cX5_init) (maxL := 1) (ret := none) (by decide) rfl ?_
  intro p e s m args below meth c s₁ B hml hv
  obtain ⟨rfl, hsz, hP, hK, hD0⟩ := hv
  have hx := B.exec
  have hb := B.bytes
  have hr := B.returns
  have hts : ∀ w ∈ ev_gw, w.before #[Value.ref h0] s = true := fun w hw => atoms_spec (ws := .code yX5_init cX5_init 1 none :: ev_gw) B.pre w (List.mem_cons_of_mem _ hw)
  have hown : s.vm.findClass RX5 = some m.cls := findClass_of_methodNamed B.named
  have hlocks := B.notSynchronized
  have hin : meth.name = "<init>" := (name_of_methodNamed B.named B.method).1
  subst hsz
  have hD := hD0.self (sz := s.heap.size)
  generalize hAe : va_A [(h0, .inr (5, [.null, .int 0, .int 0, .int 0, .int 0, .int 0, .int 0, .null, .null, .null, .null]))] s.heap.size = A at hD ⊢
  have hA : ∀ q : Nat, s.heap.size ≤ q → A q := fun q h => by rw [← hAe]; exact Or.inr h
  have hS : va_S A s.heap s.heap [] := va_S.rf
  have hP : va_P D vwCl [(h0, .inr (5, [.null, .int 0, .int 0, .int 0, .int 0, .int 0, .int 0, .null, .null, .null, .null]))] s.heap := hP
  have hl := lv_entry ([.ref h0]) (n := 1) (Nat.le_of_ble_eq_true rfl)
  rw [lg_entry_eq]
  generalize (lg_sl ([.ref h0]) ++ List.replicate (1 - (lg_sl ([.ref h0])).length) Slot.unset).toArray = ls at hl ⊢
  have hl : lv_has ls 1 [(0, .ref h0)] := hl
  have hArI : (Cond.arrayClass .int).before #[Value.ref h0] s = true := hts _ (ev_gwm (List.mem_of_getElem? (i := 130) (by decide +kernel)) rfl)
  have hArZ : (Cond.arrayClass .boolean).before #[Value.ref h0] s = true := hts _ (ev_gwm (List.mem_of_getElem? (i := 195) (by decide +kernel)) rfl)
  refine lv_aload_n hx hb ew_d_5_0 rfl (lv_at hl 0 rfl) ?_
  refine W.objInit hx hb hown (hts (.methodLink RX5 3 Lib.objectInit) (ev_gwm (List.mem_of_getElem? (i := 303) (by decide +kernel)) rfl)) (hts (.instanceMethod Lib.objectInit) (ev_gwm (List.mem_of_getElem? (i := 82) (by decide +kernel)) rfl)) (hts (.code Lib.objectInit ⟨#[0xb1]⟩ 1 none) (ev_gwm (List.mem_of_getElem? (i := 83) (by decide +kernel)) rfl)) rfl (by rw [hml]; exact hl.1) rfl ew_d_5_1 (Nat.le_of_ble_eq_true rfl) (Nat.le_of_ble_eq_true rfl) ?_
  refine W.eq (g2 := F0 m 4 ls []) rfl ?_
  refine lv_aload_n hx hb ew_d_5_4 rfl (lv_at hl 0 rfl) ?_
  refine lv_bipush (v := 100) hx hb ew_d_5_5 (by decide) ?_
  refine ew_newa (atype := .int) (ty := .int) (cI := cI) (N' := 100) (a0 := (100, .inl (fun _ => 0))) hx hb hArI rfl (by decide) hK 0 rfl hP hD hS hA (fun _ => rfl) (by decide) (by decide) (Nat.le_of_ble_eq_true rfl) (Nat.le_of_ble_eq_true rfl) (Nat.le_of_ble_eq_true rfl) ew_d_5_7 rfl (fun q1 H hP hD hS => ?_)
  have hP : va_P D vwCl [(h0, .inr (5, [.null, .int 0, .int 0, .int 0, .int 0, .int 0, .int 0, .null, .null, .null, .null])), (q1, .inl (cI, 100, .inl (fun _ => 0)))] H := hP
  have hD : va_D A [(h0, .inr (5, [.null, .int 0, .int 0, .int 0, .int 0, .int 0, .int 0, .null, .null, .null, .null])), (q1, .inl (cI, 100, .inl (fun _ => 0)))] := hD
  refine W.widen (k := 1) (n := 100) (Nat.le_of_ble_eq_true rfl) (Nat.le_of_ble_eq_true rfl) ?_
  refine va_putF (D := D) (ci := 5) (v := .ref q1) (ty := tyX5 0) (C := RX5) (T := TX5) (N := 11) hx hb hts (ev_in_g 5 (by decide)) tyX5 tyX5_ok nmX5 hown hK hP hD hS 0 rfl rfl 0 (by decide) (hts (.fieldLink RX5 9 RX5 "bytes" "[I") (ev_gwm (List.mem_of_getElem? (i := 304) (by decide +kernel)) rfl)) (fun _ h9 => h9) rfl hin rfl (by decide +kernel) rfl rfl (Nat.le_of_ble_eq_true rfl) ew_d_5_9 (fun H locs hP hD hS => ?_)
  have hP : va_P D vwCl [(h0, .inr (5, [.ref q1, .int 0, .int 0, .int 0, .int 0, .int 0, .int 0, .null, .null, .null, .null])), (q1, .inl (cI, 100, .inl (fun _ => 0)))] H := hP
  have hD : va_D A [(h0, .inr (5, [.ref q1, .int 0, .int 0, .int 0, .int 0, .int 0, .int 0, .null, .null, .null, .null])), (q1, .inl (cI, 100, .inl (fun _ => 0)))] := hD
  refine lv_aload_n hx hb ew_d_5_12 rfl (lv_at hl 0 rfl) ?_
  refine lv_bipush (v := 20) hx hb ew_d_5_13 (by decide) ?_
  refine ew_newa (atype := .int) (ty := .int) (cI := cI) (N' := 20) (a0 := (20, .inl (fun _ => 0))) hx hb hArI rfl (by decide) hK 0 rfl hP hD hS hA (fun _ => rfl) (by decide) (by decide) (Nat.le_of_ble_eq_true rfl) (Nat.le_of_ble_eq_true rfl) (Nat.le_of_ble_eq_true rfl) ew_d_5_15 rfl (fun q2 H hP hD hS => ?_)
  have hP : va_P D vwCl [(h0, .inr (5, [.ref q1, .int 0, .int 0, .int 0, .int 0, .int 0, .int 0, .null, .null, .null, .null])), (q1, .inl (cI, 100, .inl (fun _ => 0))), (q2, .inl (cI, 20, .inl (fun _ => 0)))] H := hP
  have hD : va_D A [(h0, .inr (5, [.ref q1, .int 0, .int 0, .int 0, .int 0, .int 0, .int 0, .null, .null, .null, .null])), (q1, .inl (cI, 100, .inl (fun _ => 0))), (q2, .inl (cI, 20, .inl (fun _ => 0)))] := hD
  refine W.widen (k := 2) (n := 120) (Nat.le_of_ble_eq_true rfl) (Nat.le_of_ble_eq_true rfl) ?_
  refine va_putF (D := D) (ci := 5) (v := .ref q2) (ty := tyX5 7) (C := RX5) (T := TX5) (N := 11) hx hb hts (ev_in_g 5 (by decide)) tyX5 tyX5_ok nmX5 hown hK hP hD hS 0 rfl rfl 7 (by decide) (hts (.fieldLink RX5 15 RX5 "one" "[I") (ev_gwm (List.mem_of_getElem? (i := 312) (by decide +kernel)) rfl)) (fun _ h9 => h9) rfl hin rfl (by decide +kernel) rfl rfl (Nat.le_of_ble_eq_true rfl) ew_d_5_17 (fun H locs hP hD hS => ?_)
  have hP : va_P D vwCl [(h0, .inr (5, [.ref q1, .int 0, .int 0, .int 0, .int 0, .int 0, .int 0, .ref q2, .null, .null, .null])), (q1, .inl (cI, 100, .inl (fun _ => 0))), (q2, .inl (cI, 20, .inl (fun _ => 0)))] H := hP
  have hD : va_D A [(h0, .inr (5, [.ref q1, .int 0, .int 0, .int 0, .int 0, .int 0, .int 0, .ref q2, .null, .null, .null])), (q1, .inl (cI, 100, .inl (fun _ => 0))), (q2, .inl (cI, 20, .inl (fun _ => 0)))] := hD
  refine lv_aload_n hx hb ew_d_5_20 rfl (lv_at hl 0 rfl) ?_
  refine lv_bipush (v := 20) hx hb ew_d_5_21 (by decide) ?_
  refine ew_newa (atype := .int) (ty := .int) (cI := cI) (N' := 20) (a0 := (20, .inl (fun _ => 0))) hx hb hArI rfl (by decide) hK 0 rfl hP hD hS hA (fun _ => rfl) (by decide) (by decide) (Nat.le_of_ble_eq_true rfl) (Nat.le_of_ble_eq_true rfl) (Nat.le_of_ble_eq_true rfl) ew_d_5_23 rfl (fun q3 H hP hD hS => ?_)
  have hP : va_P D vwCl [(h0, .inr (5, [.ref q1, .int 0, .int 0, .int 0, .int 0, .int 0, .int 0, .ref q2, .null, .null, .null])), (q1, .inl (cI, 100, .inl (fun _ => 0))), (q2, .inl (cI, 20, .inl (fun _ => 0))), (q3, .inl (cI, 20, .inl (fun _ => 0)))] H := hP
  have hD : va_D A [(h0, .inr (5, [.ref q1, .int 0, .int 0, .int 0, .int 0, .int 0, .int 0, .ref q2, .null, .null, .null])), (q1, .inl (cI, 100, .inl (fun _ => 0))), (q2, .inl (cI, 20, .inl (fun _ => 0))), (q3, .inl (cI, 20, .inl (fun _ => 0)))] := hD
  refine W.widen (k := 3) (n := 140) (Nat.le_of_ble_eq_true rfl) (Nat.le_of_ble_eq_true rfl) ?_
  refine va_putF (D := D) (ci := 5) (v := .ref q3) (ty := tyX5 8) (C := RX5) (T := TX5) (N := 11) hx hb hts (ev_in_g 5 (by decide)) tyX5 tyX5_ok nmX5 hown hK hP hD hS 0 rfl rfl 8 (by decide) (hts (.fieldLink RX5 18 RX5 "other" "[I") (ev_gwm (List.mem_of_getElem? (i := 314) (by decide +kernel)) rfl)) (fun _ h9 => h9) rfl hin rfl (by decide +kernel) rfl rfl (Nat.le_of_ble_eq_true rfl) ew_d_5_25 (fun H locs hP hD hS => ?_)
  have hP : va_P D vwCl [(h0, .inr (5, [.ref q1, .int 0, .int 0, .int 0, .int 0, .int 0, .int 0, .ref q2, .ref q3, .null, .null])), (q1, .inl (cI, 100, .inl (fun _ => 0))), (q2, .inl (cI, 20, .inl (fun _ => 0))), (q3, .inl (cI, 20, .inl (fun _ => 0)))] H := hP
  have hD : va_D A [(h0, .inr (5, [.ref q1, .int 0, .int 0, .int 0, .int 0, .int 0, .int 0, .ref q2, .ref q3, .null, .null])), (q1, .inl (cI, 100, .inl (fun _ => 0))), (q2, .inl (cI, 20, .inl (fun _ => 0))), (q3, .inl (cI, 20, .inl (fun _ => 0)))] := hD
  refine lv_aload_n hx hb ew_d_5_28 rfl (lv_at hl 0 rfl) ?_
  refine lv_bipush (v := 20) hx hb ew_d_5_29 (by decide) ?_
  refine ew_newa (atype := .int) (ty := .int) (cI := cI) (N' := 20) (a0 := (20, .inl (fun _ => 0))) hx hb hArI rfl (by decide) hK 0 rfl hP hD hS hA (fun _ => rfl) (by decide) (by decide) (Nat.le_of_ble_eq_true rfl) (Nat.le_of_ble_eq_true rfl) (Nat.le_of_ble_eq_true rfl) ew_d_5_31 rfl (fun q4 H hP hD hS => ?_)
  have hP : va_P D vwCl [(h0, .inr (5, [.ref q1, .int 0, .int 0, .int 0, .int 0, .int 0, .int 0, .ref q2, .ref q3, .null, .null])), (q1, .inl (cI, 100, .inl (fun _ => 0))), (q2, .inl (cI, 20, .inl (fun _ => 0))), (q3, .inl (cI, 20, .inl (fun _ => 0))), (q4, .inl (cI, 20, .inl (fun _ => 0)))] H := hP
  have hD : va_D A [(h0, .inr (5, [.ref q1, .int 0, .int 0, .int 0, .int 0, .int 0, .int 0, .ref q2, .ref q3, .null, .null])), (q1, .inl (cI, 100, .inl (fun _ => 0))), (q2, .inl (cI, 20, .inl (fun _ => 0))), (q3, .inl (cI, 20, .inl (fun _ => 0))), (q4, .inl (cI, 20, .inl (fun _ => 0)))] := hD
  refine W.widen (k := 4) (n := 160) (Nat.le_of_ble_eq_true rfl) (Nat.le_of_ble_eq_true rfl) ?_
  refine va_putF (D := D) (ci := 5) (v := .ref q4) (ty := tyX5 9) (C := RX5) (T := TX5) (N := 11) hx hb hts (ev_in_g 5 (by decide)) tyX5 tyX5_ok nmX5 hown hK hP hD hS 0 rfl rfl 9 (by decide) (hts (.fieldLink RX5 21 RX5 "far" "[I") (ev_gwm (List.mem_of_getElem? (i := 316) (by decide +kernel)) rfl)) (fun _ h9 => h9) rfl hin rfl (by decide +kernel) rfl rfl (Nat.le_of_ble_eq_true rfl) ew_d_5_33 (fun H locs hP hD hS => ?_)
  have hP : va_P D vwCl [(h0, .inr (5, [.ref q1, .int 0, .int 0, .int 0, .int 0, .int 0, .int 0, .ref q2, .ref q3, .ref q4, .null])), (q1, .inl (cI, 100, .inl (fun _ => 0))), (q2, .inl (cI, 20, .inl (fun _ => 0))), (q3, .inl (cI, 20, .inl (fun _ => 0))), (q4, .inl (cI, 20, .inl (fun _ => 0)))] H := hP
  have hD : va_D A [(h0, .inr (5, [.ref q1, .int 0, .int 0, .int 0, .int 0, .int 0, .int 0, .ref q2, .ref q3, .ref q4, .null])), (q1, .inl (cI, 100, .inl (fun _ => 0))), (q2, .inl (cI, 20, .inl (fun _ => 0))), (q3, .inl (cI, 20, .inl (fun _ => 0))), (q4, .inl (cI, 20, .inl (fun _ => 0)))] := hD
  refine lv_aload_n hx hb ew_d_5_36 rfl (lv_at hl 0 rfl) ?_
  refine lv_bipush (v := 20) hx hb ew_d_5_37 (by decide) ?_
  refine ew_newa (atype := .boolean) (ty := .boolean) (cI := cZ) (N' := 20) (a0 := (20, .inl (fun _ => 0))) hx hb hArZ rfl (by decide) hK 1 rfl hP hD hS hA (fun _ => rfl) (by decide) (by decide) (Nat.le_of_ble_eq_true rfl) (Nat.le_of_ble_eq_true rfl) (Nat.le_of_ble_eq_true rfl) ew_d_5_39 rfl (fun q5 H hP hD hS => ?_)
  have hP : va_P D vwCl [(h0, .inr (5, [.ref q1, .int 0, .int 0, .int 0, .int 0, .int 0, .int 0, .ref q2, .ref q3, .ref q4, .null])), (q1, .inl (cI, 100, .inl (fun _ => 0))), (q2, .inl (cI, 20, .inl (fun _ => 0))), (q3, .inl (cI, 20, .inl (fun _ => 0))), (q4, .inl (cI, 20, .inl (fun _ => 0))), (q5, .inl (cZ, 20, .inl (fun _ => 0)))] H := hP
  have hD : va_D A [(h0, .inr (5, [.ref q1, .int 0, .int 0, .int 0, .int 0, .int 0, .int 0, .ref q2, .ref q3, .ref q4, .null])), (q1, .inl (cI, 100, .inl (fun _ => 0))), (q2, .inl (cI, 20, .inl (fun _ => 0))), (q3, .inl (cI, 20, .inl (fun _ => 0))), (q4, .inl (cI, 20, .inl (fun _ => 0))), (q5, .inl (cZ, 20, .inl (fun _ => 0)))] := hD
  refine W.widen (k := 5) (n := 180) (Nat.le_of_ble_eq_true rfl) (Nat.le_of_ble_eq_true rfl) ?_
  refine va_putF (D := D) (ci := 5) (v := .ref q5) (ty := tyX5 10) (C := RX5) (T := TX5) (N := 11) hx hb hts (ev_in_g 5 (by decide)) tyX5 tyX5_ok nmX5 hown hK hP hD hS 0 rfl rfl 10 (by decide) (hts (.fieldLink RX5 24 RX5 "bridged" "[Z") (ev_gwm (List.mem_of_getElem? (i := 318) (by decide +kernel)) rfl)) (fun _ h9 => h9) rfl hin rfl (by decide +kernel) rfl rfl (Nat.le_of_ble_eq_true rfl) ew_d_5_41 (fun H locs hP hD hS => ?_)
  have hP : va_P D vwCl [(h0, .inr (5, [.ref q1, .int 0, .int 0, .int 0, .int 0, .int 0, .int 0, .ref q2, .ref q3, .ref q4, .ref q5])), (q1, .inl (cI, 100, .inl (fun _ => 0))), (q2, .inl (cI, 20, .inl (fun _ => 0))), (q3, .inl (cI, 20, .inl (fun _ => 0))), (q4, .inl (cI, 20, .inl (fun _ => 0))), (q5, .inl (cZ, 20, .inl (fun _ => 0)))] H := hP
  have hD : va_D A [(h0, .inr (5, [.ref q1, .int 0, .int 0, .int 0, .int 0, .int 0, .int 0, .ref q2, .ref q3, .ref q4, .ref q5])), (q1, .inl (cI, 100, .inl (fun _ => 0))), (q2, .inl (cI, 20, .inl (fun _ => 0))), (q3, .inl (cI, 20, .inl (fun _ => 0))), (q4, .inl (cI, 20, .inl (fun _ => 0))), (q5, .inl (cZ, 20, .inl (fun _ => 0)))] := hD
  exact W.vret hx hb hr (fun t ht hW => ⟨⟨fun k => [h0, q1, q2, q3, q4, q5].getD k 0, rfl, rfl, by rw [ht]; exact hP, hD⟩, hS.F ht⟩) hS.2.2 ew_d_5_44

theorem ew_d_2_0 : decode cX2_init 0 = .ok (.aload_n 0, 1) := by decide +kernel
theorem ew_d_2_1 : decode cX2_init 1 = .ok (.invokespecial 3, 3) := by decide +kernel
theorem ew_d_2_4 : decode cX2_init 4 = .ok (.aload_n 0, 1) := by decide +kernel
theorem ew_d_2_5 : decode cX2_init 5 = .ok (.bipush 6, 2) := by decide +kernel
theorem ew_d_2_7 : decode cX2_init 7 = .ok (.newarray .int, 2) := by decide +kernel
theorem ew_d_2_9 : decode cX2_init 9 = .ok (.putfield 9, 3) := by decide +kernel
theorem ew_d_2_12 : decode cX2_init 12 = .ok (.aload_n 0, 1) := by decide +kernel
theorem ew_d_2_13 : decode cX2_init 13 = .ok (.bipush 6, 2) := by decide +kernel
theorem ew_d_2_15 : decode cX2_init 15 = .ok (.newarray .int, 2) := by decide +kernel
theorem ew_d_2_17 : decode cX2_init 17 = .ok (.putfield 15, 3) := by decide +kernel
theorem ew_d_2_20 : decode cX2_init 20 = .ok (.return_, 1) := by decide +kernel
def ew_w2 (cI cZ : ClassId) (h0 : Nat) (u : Nat → Nat) : va_W := [(h0, .inr (2, [.ref (u 1), .ref (u 2)])), (u 1, .inl (cI, 6, .inl (fun _ => 0))), (u 2, .inl (cI, 6, .inl (fun _ => 0)))]
set_option maxHeartbeats 8000000 in
set_option maxRecDepth 100000 in
theorem ew_c_2 (l : Launch) (D : va_G) (cI cZ cS : ClassId) (h0 sz : Nat) : Met l yX2_init (.code yX2_init cX2_init 1 none :: ev_gw) { frames := 1, cells := 2, slots := 12, locals := 12 } (va_Pc [.ref h0] (fun U => U.heap.size = sz ∧ va_P D vwCl [(h0, .inr (2, [.null, .null]))] U.heap ∧ va_K D vwCl (ev_ty cI cZ cS) U ∧ va_D (fun _ => True) [(h0, .inr (2, [.null, .null]))])) (va_Qv (fun u : Nat → Nat => u 0 = h0) (fun u t => va_P D vwCl (ew_w2 cI cZ h0 u) t.heap ∧ va_D (va_A [(h0, .inr (2, [.null, .null]))] sz) (ew_w2 cI cZ h0 u)) (va_A [(h0, .inr (2, [.null, .null]))] sz)) 2 12 (va_A [(h0, .inr (2, [.null, .null]))] sz) := by
  refine Met.ofW (cc := cX2_init) (maxL := 1) (ret := none) (by decide) rfl ?_
  intro p e s m args below meth c s₁ B hml hv
  obtain ⟨rfl, hsz, hP, hK, hD0⟩ := hv
  have hx := B.exec
  have hb := B.bytes
  have hr := B.returns
  have hts : ∀ w ∈ ev_gw, w.before #[Value.ref h0] s = true := fun w hw => atoms_spec (ws := .code yX2_init cX2_init 1 none :: ev_gw) B.pre w (List.mem_cons_of_mem _ hw)
  have hown : s.vm.findClass RX2 = some m.cls := findClass_of_methodNamed B.named
  have hlocks := B.notSynchronized
  have hin : meth.name = "<init>" := (name_of_methodNamed B.named B.method).1
  subst hsz
  have hD := hD0.self (sz := s.heap.size)
  generalize hAe : va_A [(h0, .inr (2, [.null, .null]))] s.heap.size = A at hD ⊢
  have hA : ∀ q : Nat, s.heap.size ≤ q → A q := fun q h => by rw [← hAe]; exact Or.inr h
  have hS : va_S A s.heap s.heap [] := va_S.rf
  have hP : va_P D vwCl [(h0, .inr (2, [.null, .null]))] s.heap := hP
  have hl := lv_entry ([.ref h0]) (n := 1) (Nat.le_of_ble_eq_true rfl)
  rw [lg_entry_eq]
  generalize (lg_sl ([.ref h0]) ++ List.replicate (1 - (lg_sl ([.ref h0])).length) Slot.unset).toArray = ls at hl ⊢
  have hl : lv_has ls 1 [(0, .ref h0)] := hl
  have hArI : (Cond.arrayClass .int).before #[Value.ref h0] s = true := hts _ (ev_gwm (List.mem_of_getElem? (i := 130) (by decide +kernel)) rfl)
  have hArZ : (Cond.arrayClass .boolean).before #[Value.ref h0] s = true := hts _ (ev_gwm (List.mem_of_getElem? (i := 195) (by decide +kernel)) rfl)
  refine lv_aload_n hx hb ew_d_2_0 rfl (lv_at hl 0 rfl) ?_
  refine W.objInit hx hb hown (hts (.methodLink RX2 3 Lib.objectInit) (ev_gwm (List.mem_of_getElem? (i := 348) (by decide +kernel)) rfl)) (hts (.instanceMethod Lib.objectInit) (ev_gwm (List.mem_of_getElem? (i := 82) (by decide +kernel)) rfl)) (hts (.code Lib.objectInit ⟨#[0xb1]⟩ 1 none) (ev_gwm (List.mem_of_getElem? (i := 83) (by decide +kernel)) rfl)) rfl (by rw [hml]; exact hl.1) rfl ew_d_2_1 (Nat.le_of_ble_eq_true rfl) (Nat.le_of_ble_eq_true rfl) ?_
  refine W.eq (g2 := F0 m 4 ls []) rfl ?_
  refine lv_aload_n hx hb ew_d_2_4 rfl (lv_at hl 0 rfl) ?_
  refine lv_bipush (v := 6) hx hb ew_d_2_5 (by decide) ?_
  refine ew_newa (atype := .int) (ty := .int) (cI := cI) (N' := 6) (a0 := (6, .inl (fun _ => 0))) hx hb hArI rfl (by decide) hK 0 rfl hP hD hS hA (fun _ => rfl) (by decide) (by decide) (Nat.le_of_ble_eq_true rfl) (Nat.le_of_ble_eq_true rfl) (Nat.le_of_ble_eq_true rfl) ew_d_2_7 rfl (fun q1 H hP hD hS => ?_)
  have hP : va_P D vwCl [(h0, .inr (2, [.null, .null])), (q1, .inl (cI, 6, .inl (fun _ => 0)))] H := hP
  have hD : va_D A [(h0, .inr (2, [.null, .null])), (q1, .inl (cI, 6, .inl (fun _ => 0)))] := hD
  refine W.widen (k := 1) (n := 6) (Nat.le_of_ble_eq_true rfl) (Nat.le_of_ble_eq_true rfl) ?_
  refine va_putF (D := D) (ci := 2) (v := .ref q1) (ty := tyX2 0) (C := RX2) (T := TX2) (N := 2) hx hb hts (ev_in_g 2 (by decide)) tyX2 tyX2_ok nmX2 hown hK hP hD hS 0 rfl rfl 0 (by decide) (hts (.fieldLink RX2 9 RX2 "rating" "[I") (ev_gwm (List.mem_of_getElem? (i := 349) (by decide +kernel)) rfl)) (fun _ h9 => h9) rfl hin rfl (by decide +kernel) rfl rfl (Nat.le_of_ble_eq_true rfl) ew_d_2_9 (fun H locs hP hD hS => ?_)
  have hP : va_P D vwCl [(h0, .inr (2, [.ref q1, .null])), (q1, .inl (cI, 6, .inl (fun _ => 0)))] H := hP
  have hD : va_D A [(h0, .inr (2, [.ref q1, .null])), (q1, .inl (cI, 6, .inl (fun _ => 0)))] := hD
  refine lv_aload_n hx hb ew_d_2_12 rfl (lv_at hl 0 rfl) ?_
  refine lv_bipush (v := 6) hx hb ew_d_2_13 (by decide) ?_
  refine ew_newa (atype := .int) (ty := .int) (cI := cI) (N' := 6) (a0 := (6, .inl (fun _ => 0))) hx hb hArI rfl (by decide) hK 0 rfl hP hD hS hA (fun _ => rfl) (by decide) (by decide) (Nat.le_of_ble_eq_true rfl) (Nat.le_of_ble_eq_true rfl) (Nat.le_of_ble_eq_true rfl) ew_d_2_15 rfl (fun q2 H hP hD hS => ?_)
  have hP : va_P D vwCl [(h0, .inr (2, [.ref q1, .null])), (q1, .inl (cI, 6, .inl (fun _ => 0))), (q2, .inl (cI, 6, .inl (fun _ => 0)))] H := hP
  have hD : va_D A [(h0, .inr (2, [.ref q1, .null])), (q1, .inl (cI, 6, .inl (fun _ => 0))), (q2, .inl (cI, 6, .inl (fun _ => 0)))] := hD
  refine W.widen (k := 2) (n := 12) (Nat.le_of_ble_eq_true rfl) (Nat.le_of_ble_eq_true rfl) ?_
  refine va_putF (D := D) (ci := 2) (v := .ref q2) (ty := tyX2 1) (C := RX2) (T := TX2) (N := 2) hx hb hts (ev_in_g 2 (by decide)) tyX2 tyX2_ok nmX2 hown hK hP hD hS 0 rfl rfl 1 (by decide) (hts (.fieldLink RX2 15 RX2 "strength" "[I") (ev_gwm (List.mem_of_getElem? (i := 350) (by decide +kernel)) rfl)) (fun _ h9 => h9) rfl hin rfl (by decide +kernel) rfl rfl (Nat.le_of_ble_eq_true rfl) ew_d_2_17 (fun H locs hP hD hS => ?_)
  have hP : va_P D vwCl [(h0, .inr (2, [.ref q1, .ref q2])), (q1, .inl (cI, 6, .inl (fun _ => 0))), (q2, .inl (cI, 6, .inl (fun _ => 0)))] H := hP
  have hD : va_D A [(h0, .inr (2, [.ref q1, .ref q2])), (q1, .inl (cI, 6, .inl (fun _ => 0))), (q2, .inl (cI, 6, .inl (fun _ => 0)))] := hD
  exact W.vret hx hb hr (fun t ht hW => ⟨⟨fun k => [h0, q1, q2].getD k 0, rfl, rfl, by rw [ht]; exact hP, hD⟩, hS.F ht⟩) hS.2.2 ew_d_2_20

theorem ew_d_9_0 : decode cX9_init 0 = .ok (.aload_n 0, 1) := by decide +kernel
theorem ew_d_9_1 : decode cX9_init 1 = .ok (.invokespecial 3, 3) := by decide +kernel
theorem ew_d_9_4 : decode cX9_init 4 = .ok (.aload_n 0, 1) := by decide +kernel
theorem ew_d_9_5 : decode cX9_init 5 = .ok (.bipush 10, 2) := by decide +kernel
theorem ew_d_9_7 : decode cX9_init 7 = .ok (.newarray .int, 2) := by decide +kernel
theorem ew_d_9_9 : decode cX9_init 9 = .ok (.putfield 9, 3) := by decide +kernel
theorem ew_d_9_12 : decode cX9_init 12 = .ok (.aload_n 0, 1) := by decide +kernel
theorem ew_d_9_13 : decode cX9_init 13 = .ok (.bipush 10, 2) := by decide +kernel
theorem ew_d_9_15 : decode cX9_init 15 = .ok (.newarray .int, 2) := by decide +kernel
theorem ew_d_9_17 : decode cX9_init 17 = .ok (.putfield 15, 3) := by decide +kernel
theorem ew_d_9_20 : decode cX9_init 20 = .ok (.aload_n 0, 1) := by decide +kernel
theorem ew_d_9_21 : decode cX9_init 21 = .ok (.bipush 10, 2) := by decide +kernel
theorem ew_d_9_23 : decode cX9_init 23 = .ok (.newarray .int, 2) := by decide +kernel
theorem ew_d_9_25 : decode cX9_init 25 = .ok (.putfield 18, 3) := by decide +kernel
theorem ew_d_9_28 : decode cX9_init 28 = .ok (.return_, 1) := by decide +kernel
def ew_w9 (cI cZ : ClassId) (h0 : Nat) (u : Nat → Nat) : va_W := [(h0, .inr (9, [.ref (u 1), .ref (u 2), .ref (u 3)])), (u 1, .inl (cI, 10, .inl (fun _ => 0))), (u 2, .inl (cI, 10, .inl (fun _ => 0))), (u 3, .inl (cI, 10, .inl (fun _ => 0)))]
set_option maxHeartbeats 8000000 in
set_option maxRecDepth 100000 in
theorem ew_c_9 (l : Launch) (D : va_G) (cI cZ cS : ClassId) (h0 sz : Nat) : Met l yX9_init (.code yX9_init cX9_init 1 none :: ev_gw) { frames := 1, cells := 3, slots := 30, locals := 12 } (va_Pc [.ref h0] (fun U => U.heap.size = sz ∧ va_P D vwCl [(h0, .inr (9, [.null, .null, .null]))] U.heap ∧ va_K D vwCl (ev_ty cI cZ cS) U ∧ va_D (fun _ => True) [(h0, .inr (9, [.null, .null, .null]))])) (va_Qv (fun u : Nat → Nat => u 0 = h0) (fun u t => va_P D vwCl (ew_w9 cI cZ h0 u) t.heap ∧ va_D (va_A [(h0, .inr (9, [.null, .null, .null]))] sz) (ew_w9 cI cZ h0 u)) (va_A [(h0, .inr (9, [.null, .null, .null]))] sz)) 3 30 (va_A [(h0, .inr (9, [.null, .null, .null]))] sz) := by
  refine Met.ofW (cc := cX9_init) (maxL := 1) (ret := none) (by decide) rfl ?_
  intro p e s m args below meth c s₁ B hml hv
  obtain ⟨rfl, hsz, hP, hK, hD0⟩ := hv
  have hx := B.exec
  have hb := B.bytes
  have hr := B.returns
  have hts : ∀ w ∈ ev_gw, w.before #[Value.ref h0] s = true := fun w hw => atoms_spec (ws := .code yX9_init cX9_init 1 none :: ev_gw) B.pre w (List.mem_cons_of_mem _ hw)
  have hown : s.vm.findClass RX9 = some m.cls := findClass_of_methodNamed B.named
  have hlocks := B.notSynchronized
  have hin : meth.name = "<init>" := (name_of_methodNamed B.named B.method).1
  subst hsz
  have hD := hD0.self (sz := s.heap.size)
  generalize hAe : va_A [(h0, .inr (9, [.null, .null, .null]))] s.heap.size = A at hD ⊢
  have hA : ∀ q : Nat, s.heap.size ≤ q → A q := fun q h => by rw [← hAe]; exact Or.inr h
  have hS : va_S A s.heap s.heap [] := va_S.rf
  have hP : va_P D vwCl [(h0, .inr (9, [.null, .null, .null]))] s.heap := hP
  have hl := lv_entry ([.ref h0]) (n := 1) (Nat.le_of_ble_eq_true rfl)
  rw [lg_entry_eq]
  generalize (lg_sl ([.ref h0]) ++ List.replicate (1 - (lg_sl ([.ref h0])).length) Slot.unset).toArray = ls at hl ⊢
  have hl : lv_has ls 1 [(0, .ref h0)] := hl
  have hArI : (Cond.arrayClass .int).before #[Value.ref h0] s = true := hts _ (ev_gwm (List.mem_of_getElem? (i := 130) (by decide +kernel)) rfl)
  have hArZ : (Cond.arrayClass .boolean).before #[Value.ref h0] s = true := hts _ (ev_gwm (List.mem_of_getElem? (i := 195) (by decide +kernel)) rfl)
  refine lv_aload_n hx hb ew_d_9_0 rfl (lv_at hl 0 rfl) ?_
  refine W.objInit hx hb hown (hts (.methodLink RX9 3 Lib.objectInit) (ev_gwm (List.mem_of_getElem? (i := 362) (by decide +kernel)) rfl)) (hts (.instanceMethod Lib.objectInit) (ev_gwm (List.mem_of_getElem? (i := 82) (by decide +kernel)) rfl)) (hts (.code Lib.objectInit ⟨#[0xb1]⟩ 1 none) (ev_gwm (List.mem_of_getElem? (i := 83) (by decide +kernel)) rfl)) rfl (by rw [hml]; exact hl.1) rfl ew_d_9_1 (Nat.le_of_ble_eq_true rfl) (Nat.le_of_ble_eq_true rfl) ?_
  refine W.eq (g2 := F0 m 4 ls []) rfl ?_
  refine lv_aload_n hx hb ew_d_9_4 rfl (lv_at hl 0 rfl) ?_
  refine lv_bipush (v := 10) hx hb ew_d_9_5 (by decide) ?_
  refine ew_newa (atype := .int) (ty := .int) (cI := cI) (N' := 10) (a0 := (10, .inl (fun _ => 0))) hx hb hArI rfl (by decide) hK 0 rfl hP hD hS hA (fun _ => rfl) (by decide) (by decide) (Nat.le_of_ble_eq_true rfl) (Nat.le_of_ble_eq_true rfl) (Nat.le_of_ble_eq_true rfl) ew_d_9_7 rfl (fun q1 H hP hD hS => ?_)
  have hP : va_P D vwCl [(h0, .inr (9, [.null, .null, .null])), (q1, .inl (cI, 10, .inl (fun _ => 0)))] H := hP
  have hD : va_D A [(h0, .inr (9, [.null, .null, .null])), (q1, .inl (cI, 10, .inl (fun _ => 0)))] := hD
  refine W.widen (k := 1) (n := 10) (Nat.le_of_ble_eq_true rfl) (Nat.le_of_ble_eq_true rfl) ?_
  refine va_putF (D := D) (ci := 9) (v := .ref q1) (ty := tyX9 0) (C := RX9) (T := TX9) (N := 3) hx hb hts (ev_in_g 9 (by decide)) tyX9 tyX9_ok nmX9 hown hK hP hD hS 0 rfl rfl 0 (by decide) (hts (.fieldLink RX9 9 RX9 "far" "[I") (ev_gwm (List.mem_of_getElem? (i := 363) (by decide +kernel)) rfl)) (fun _ h9 => h9) rfl hin rfl (by decide +kernel) rfl rfl (Nat.le_of_ble_eq_true rfl) ew_d_9_9 (fun H locs hP hD hS => ?_)
  have hP : va_P D vwCl [(h0, .inr (9, [.ref q1, .null, .null])), (q1, .inl (cI, 10, .inl (fun _ => 0)))] H := hP
  have hD : va_D A [(h0, .inr (9, [.ref q1, .null, .null])), (q1, .inl (cI, 10, .inl (fun _ => 0)))] := hD
  refine lv_aload_n hx hb ew_d_9_12 rfl (lv_at hl 0 rfl) ?_
  refine lv_bipush (v := 10) hx hb ew_d_9_13 (by decide) ?_
  refine ew_newa (atype := .int) (ty := .int) (cI := cI) (N' := 10) (a0 := (10, .inl (fun _ => 0))) hx hb hArI rfl (by decide) hK 0 rfl hP hD hS hA (fun _ => rfl) (by decide) (by decide) (Nat.le_of_ble_eq_true rfl) (Nat.le_of_ble_eq_true rfl) (Nat.le_of_ble_eq_true rfl) ew_d_9_15 rfl (fun q2 H hP hD hS => ?_)
  have hP : va_P D vwCl [(h0, .inr (9, [.ref q1, .null, .null])), (q1, .inl (cI, 10, .inl (fun _ => 0))), (q2, .inl (cI, 10, .inl (fun _ => 0)))] H := hP
  have hD : va_D A [(h0, .inr (9, [.ref q1, .null, .null])), (q1, .inl (cI, 10, .inl (fun _ => 0))), (q2, .inl (cI, 10, .inl (fun _ => 0)))] := hD
  refine W.widen (k := 2) (n := 20) (Nat.le_of_ble_eq_true rfl) (Nat.le_of_ble_eq_true rfl) ?_
  refine va_putF (D := D) (ci := 9) (v := .ref q2) (ty := tyX9 1) (C := RX9) (T := TX9) (N := 3) hx hb hts (ev_in_g 9 (by decide)) tyX9 tyX9_ok nmX9 hown hK hP hD hS 0 rfl rfl 1 (by decide) (hts (.fieldLink RX9 15 RX9 "load" "[I") (ev_gwm (List.mem_of_getElem? (i := 366) (by decide +kernel)) rfl)) (fun _ h9 => h9) rfl hin rfl (by decide +kernel) rfl rfl (Nat.le_of_ble_eq_true rfl) ew_d_9_17 (fun H locs hP hD hS => ?_)
  have hP : va_P D vwCl [(h0, .inr (9, [.ref q1, .ref q2, .null])), (q1, .inl (cI, 10, .inl (fun _ => 0))), (q2, .inl (cI, 10, .inl (fun _ => 0)))] H := hP
  have hD : va_D A [(h0, .inr (9, [.ref q1, .ref q2, .null])), (q1, .inl (cI, 10, .inl (fun _ => 0))), (q2, .inl (cI, 10, .inl (fun _ => 0)))] := hD
  refine lv_aload_n hx hb ew_d_9_20 rfl (lv_at hl 0 rfl) ?_
  refine lv_bipush (v := 10) hx hb ew_d_9_21 (by decide) ?_
  refine ew_newa (atype := .int) (ty := .int) (cI := cI) (N' := 10) (a0 := (10, .inl (fun _ => 0))) hx hb hArI rfl (by decide) hK 0 rfl hP hD hS hA (fun _ => rfl) (by decide) (by decide) (Nat.le_of_ble_eq_true rfl) (Nat.le_of_ble_eq_true rfl) (Nat.le_of_ble_eq_true rfl) ew_d_9_23 rfl (fun q3 H hP hD hS => ?_)
  have hP : va_P D vwCl [(h0, .inr (9, [.ref q1, .ref q2, .null])), (q1, .inl (cI, 10, .inl (fun _ => 0))), (q2, .inl (cI, 10, .inl (fun _ => 0))), (q3, .inl (cI, 10, .inl (fun _ => 0)))] H := hP
  have hD : va_D A [(h0, .inr (9, [.ref q1, .ref q2, .null])), (q1, .inl (cI, 10, .inl (fun _ => 0))), (q2, .inl (cI, 10, .inl (fun _ => 0))), (q3, .inl (cI, 10, .inl (fun _ => 0)))] := hD
  refine W.widen (k := 3) (n := 30) (Nat.le_of_ble_eq_true rfl) (Nat.le_of_ble_eq_true rfl) ?_
  refine va_putF (D := D) (ci := 9) (v := .ref q3) (ty := tyX9 2) (C := RX9) (T := TX9) (N := 3) hx hb hts (ev_in_g 9 (by decide)) tyX9 tyX9_ok nmX9 hown hK hP hD hS 0 rfl rfl 2 (by decide) (hts (.fieldLink RX9 18 RX9 "back" "[I") (ev_gwm (List.mem_of_getElem? (i := 367) (by decide +kernel)) rfl)) (fun _ h9 => h9) rfl hin rfl (by decide +kernel) rfl rfl (Nat.le_of_ble_eq_true rfl) ew_d_9_25 (fun H locs hP hD hS => ?_)
  have hP : va_P D vwCl [(h0, .inr (9, [.ref q1, .ref q2, .ref q3])), (q1, .inl (cI, 10, .inl (fun _ => 0))), (q2, .inl (cI, 10, .inl (fun _ => 0))), (q3, .inl (cI, 10, .inl (fun _ => 0)))] H := hP
  have hD : va_D A [(h0, .inr (9, [.ref q1, .ref q2, .ref q3])), (q1, .inl (cI, 10, .inl (fun _ => 0))), (q2, .inl (cI, 10, .inl (fun _ => 0))), (q3, .inl (cI, 10, .inl (fun _ => 0)))] := hD
  exact W.vret hx hb hr (fun t ht hW => ⟨⟨fun k => [h0, q1, q2, q3].getD k 0, rfl, rfl, by rw [ht]; exact hP, hD⟩, hS.F ht⟩) hS.2.2 ew_d_9_28

theorem ew_d_8_0 : decode cX8_init 0 = .ok (.aload_n 0, 1) := by decide +kernel
theorem ew_d_8_1 : decode cX8_init 1 = .ok (.invokespecial 3, 3) := by decide +kernel
theorem ew_d_8_4 : decode cX8_init 4 = .ok (.aload_n 0, 1) := by decide +kernel
theorem ew_d_8_5 : decode cX8_init 5 = .ok (.bipush 6, 2) := by decide +kernel
theorem ew_d_8_7 : decode cX8_init 7 = .ok (.newarray .int, 2) := by decide +kernel
theorem ew_d_8_9 : decode cX8_init 9 = .ok (.putfield 9, 3) := by decide +kernel
theorem ew_d_8_12 : decode cX8_init 12 = .ok (.return_, 1) := by decide +kernel
def ew_w8 (cI cZ : ClassId) (h0 : Nat) (u : Nat → Nat) : va_W := [(h0, .inr (8, [.int 0, .ref (u 1)])), (u 1, .inl (cI, 6, .inl (fun _ => 0)))]
set_option maxHeartbeats 8000000 in
set_option maxRecDepth 100000 in
theorem ew_c_8 (l : Launch) (D : va_G) (cI cZ cS : ClassId) (h0 sz : Nat) : Met l yX8_init (.code yX8_init cX8_init 1 none :: ev_gw) { frames := 1, cells := 1, slots := 6, locals := 12 } (va_Pc [.ref h0] (fun U => U.heap.size = sz ∧ va_P D vwCl [(h0, .inr (8, [.int 0, .null]))] U.heap ∧ va_K D vwCl (ev_ty cI cZ cS) U ∧ va_D (fun _ => True) [(h0, .inr (8, [.int 0, .null]))])) (va_Qv (fun u : Nat → Nat => u 0 = h0) (fun u t => va_P D vwCl (ew_w8 cI cZ h0 u) t.heap ∧ va_D (va_A [(h0, .inr (8, [.int 0, .null]))] sz) (ew_w8 cI cZ h0 u)) (va_A [(h0, .inr (8, [.int 0, .null]))] sz)) 1 6 (va_A [(h0, .inr (8, [.int 0, .null]))] sz) := by
  refine Met.ofW (cc := cX8_init) (maxL := 1) (ret := none) (by decide) rfl ?_
  intro p e s m args below meth c s₁ B hml hv
  obtain ⟨rfl, hsz, hP, hK, hD0⟩ := hv
  have hx := B.exec
  have hb := B.bytes
  have hr := B.returns
  have hts : ∀ w ∈ ev_gw, w.before #[Value.ref h0] s = true := fun w hw => atoms_spec (ws := .code yX8_init cX8_init 1 none :: ev_gw) B.pre w (List.mem_cons_of_mem _ hw)
  have hown : s.vm.findClass RX8 = some m.cls := findClass_of_methodNamed B.named
  have hlocks := B.notSynchronized
  have hin : meth.name = "<init>" := (name_of_methodNamed B.named B.method).1
  subst hsz
  have hD := hD0.self (sz := s.heap.size)
  generalize hAe : va_A [(h0, .inr (8, [.int 0, .null]))] s.heap.size = A at hD ⊢
  have hA : ∀ q : Nat, s.heap.size ≤ q → A q := fun q h => by rw [← hAe]; exact Or.inr h
  have hS : va_S A s.heap s.heap [] := va_S.rf
  have hP : va_P D vwCl [(h0, .inr (8, [.int 0, .null]))] s.heap := hP
  have hl := lv_entry ([.ref h0]) (n := 1) (Nat.le_of_ble_eq_true rfl)
  rw [lg_entry_eq]
  generalize (lg_sl ([.ref h0]) ++ List.replicate (1 - (lg_sl ([.ref h0])).length) Slot.unset).toArray = ls at hl ⊢
  have hl : lv_has ls 1 [(0, .ref h0)] := hl
  have hArI : (Cond.arrayClass .int).before #[Value.ref h0] s = true := hts _ (ev_gwm (List.mem_of_getElem? (i := 130) (by decide +kernel)) rfl)
  have hArZ : (Cond.arrayClass .boolean).before #[Value.ref h0] s = true := hts _ (ev_gwm (List.mem_of_getElem? (i := 195) (by decide +kernel)) rfl)
  refine lv_aload_n hx hb ew_d_8_0 rfl (lv_at hl 0 rfl) ?_
  refine W.objInit hx hb hown (hts (.methodLink RX8 3 Lib.objectInit) (ev_gwm (List.mem_of_getElem? (i := 381) (by decide +kernel)) rfl)) (hts (.instanceMethod Lib.objectInit) (ev_gwm (List.mem_of_getElem? (i := 82) (by decide +kernel)) rfl)) (hts (.code Lib.objectInit ⟨#[0xb1]⟩ 1 none) (ev_gwm (List.mem_of_getElem? (i := 83) (by decide +kernel)) rfl)) rfl (by rw [hml]; exact hl.1) rfl ew_d_8_1 (Nat.le_of_ble_eq_true rfl) (Nat.le_of_ble_eq_true rfl) ?_
  refine W.eq (g2 := F0 m 4 ls []) rfl ?_
  refine lv_aload_n hx hb ew_d_8_4 rfl (lv_at hl 0 rfl) ?_
  refine lv_bipush (v := 6) hx hb ew_d_8_5 (by decide) ?_
  refine ew_newa (atype := .int) (ty := .int) (cI := cI) (N' := 6) (a0 := (6, .inl (fun _ => 0))) hx hb hArI rfl (by decide) hK 0 rfl hP hD hS hA (fun _ => rfl) (by decide) (by decide) (Nat.le_of_ble_eq_true rfl) (Nat.le_of_ble_eq_true rfl) (Nat.le_of_ble_eq_true rfl) ew_d_8_7 rfl (fun q1 H hP hD hS => ?_)
  have hP : va_P D vwCl [(h0, .inr (8, [.int 0, .null])), (q1, .inl (cI, 6, .inl (fun _ => 0)))] H := hP
  have hD : va_D A [(h0, .inr (8, [.int 0, .null])), (q1, .inl (cI, 6, .inl (fun _ => 0)))] := hD
  refine W.widen (k := 1) (n := 6) (Nat.le_of_ble_eq_true rfl) (Nat.le_of_ble_eq_true rfl) ?_
  refine va_putF (D := D) (ci := 8) (v := .ref q1) (ty := tyX8 1) (C := RX8) (T := TX8) (N := 2) hx hb hts (ev_in_g 8 (by decide)) tyX8 tyX8_ok nmX8 hown hK hP hD hS 0 rfl rfl 1 (by decide) (hts (.fieldLink RX8 9 RX8 "order" "[I") (ev_gwm (List.mem_of_getElem? (i := 384) (by decide +kernel)) rfl)) (fun _ h9 => h9) rfl hin rfl (by decide +kernel) rfl rfl (Nat.le_of_ble_eq_true rfl) ew_d_8_9 (fun H locs hP hD hS => ?_)
  have hP : va_P D vwCl [(h0, .inr (8, [.int 0, .ref q1])), (q1, .inl (cI, 6, .inl (fun _ => 0)))] H := hP
  have hD : va_D A [(h0, .inr (8, [.int 0, .ref q1])), (q1, .inl (cI, 6, .inl (fun _ => 0)))] := hD
  exact W.vret hx hb hr (fun t ht hW => ⟨⟨fun k => [h0, q1].getD k 0, rfl, rfl, by rw [ht]; exact hP, hD⟩, hS.F ht⟩) hS.2.2 ew_d_8_12

theorem ew_d_0_0 : decode cX0_init 0 = .ok (.aload_n 0, 1) := by decide +kernel
theorem ew_d_0_1 : decode cX0_init 1 = .ok (.invokespecial 3, 3) := by decide +kernel
theorem ew_d_0_4 : decode cX0_init 4 = .ok (.aload_n 0, 1) := by decide +kernel
theorem ew_d_0_5 : decode cX0_init 5 = .ok (.bipush 8, 2) := by decide +kernel
theorem ew_d_0_7 : decode cX0_init 7 = .ok (.newarray .int, 2) := by decide +kernel
theorem ew_d_0_9 : decode cX0_init 9 = .ok (.putfield 9, 3) := by decide +kernel
theorem ew_d_0_12 : decode cX0_init 12 = .ok (.aload_n 0, 1) := by decide +kernel
theorem ew_d_0_13 : decode cX0_init 13 = .ok (.bipush 8, 2) := by decide +kernel
theorem ew_d_0_15 : decode cX0_init 15 = .ok (.newarray .int, 2) := by decide +kernel
theorem ew_d_0_17 : decode cX0_init 17 = .ok (.putfield 15, 3) := by decide +kernel
theorem ew_d_0_20 : decode cX0_init 20 = .ok (.return_, 1) := by decide +kernel
def ew_w0 (cI cZ : ClassId) (h0 : Nat) (u : Nat → Nat) : va_W := [(h0, .inr (0, [.int 0, .ref (u 1), .ref (u 2)])), (u 1, .inl (cI, 8, .inl (fun _ => 0))), (u 2, .inl (cI, 8, .inl (fun _ => 0)))]
set_option maxHeartbeats 8000000 in
set_option maxRecDepth 100000 in
theorem ew_c_0 (l : Launch) (D : va_G) (cI cZ cS : ClassId) (h0 sz : Nat) : Met l yX0_init (.code yX0_init cX0_init 1 none :: ev_gw) { frames := 1, cells := 2, slots := 16, locals := 12 } (va_Pc [.ref h0] (fun U => U.heap.size = sz ∧ va_P D vwCl [(h0, .inr (0, [.int 0, .null, .null]))] U.heap ∧ va_K D vwCl (ev_ty cI cZ cS) U ∧ va_D (fun _ => True) [(h0, .inr (0, [.int 0, .null, .null]))])) (va_Qv (fun u : Nat → Nat => u 0 = h0) (fun u t => va_P D vwCl (ew_w0 cI cZ h0 u) t.heap ∧ va_D (va_A [(h0, .inr (0, [.int 0, .null, .null]))] sz) (ew_w0 cI cZ h0 u)) (va_A [(h0, .inr (0, [.int 0, .null, .null]))] sz)) 2 16 (va_A [(h0, .inr (0, [.int 0, .null, .null]))] sz) := by
  refine Met.ofW (cc := cX0_init) (maxL := 1) (ret := none) (by decide) rfl ?_
  intro p e s m args below meth c s₁ B hml hv
  obtain ⟨rfl, hsz, hP, hK, hD0⟩ := hv
  have hx := B.exec
  have hb := B.bytes
  have hr := B.returns
  have hts : ∀ w ∈ ev_gw, w.before #[Value.ref h0] s = true := fun w hw => atoms_spec (ws := .code yX0_init cX0_init 1 none :: ev_gw) B.pre w (List.mem_cons_of_mem _ hw)
  have hown : s.vm.findClass RX0 = some m.cls := findClass_of_methodNamed B.named
  have hlocks := B.notSynchronized
  have hin : meth.name = "<init>" := (name_of_methodNamed B.named B.method).1
  subst hsz
  have hD := hD0.self (sz := s.heap.size)
  generalize hAe : va_A [(h0, .inr (0, [.int 0, .null, .null]))] s.heap.size = A at hD ⊢
  have hA : ∀ q : Nat, s.heap.size ≤ q → A q := fun q h => by rw [← hAe]; exact Or.inr h
  have hS : va_S A s.heap s.heap [] := va_S.rf
  have hP : va_P D vwCl [(h0, .inr (0, [.int 0, .null, .null]))] s.heap := hP
  have hl := lv_entry ([.ref h0]) (n := 1) (Nat.le_of_ble_eq_true rfl)
  rw [lg_entry_eq]
  generalize (lg_sl ([.ref h0]) ++ List.replicate (1 - (lg_sl ([.ref h0])).length) Slot.unset).toArray = ls at hl ⊢
  have hl : lv_has ls 1 [(0, .ref h0)] := hl
  have hArI : (Cond.arrayClass .int).before #[Value.ref h0] s = true := hts _ (ev_gwm (List.mem_of_getElem? (i := 130) (by decide +kernel)) rfl)
  have hArZ : (Cond.arrayClass .boolean).before #[Value.ref h0] s = true := hts _ (ev_gwm (List.mem_of_getElem? (i := 195) (by decide +kernel)) rfl)
  refine lv_aload_n hx hb ew_d_0_0 rfl (lv_at hl 0 rfl) ?_
  refine W.objInit hx hb hown (hts (.methodLink RX0 3 Lib.objectInit) (ev_gwm (List.mem_of_getElem? (i := 396) (by decide +kernel)) rfl)) (hts (.instanceMethod Lib.objectInit) (ev_gwm (List.mem_of_getElem? (i := 82) (by decide +kernel)) rfl)) (hts (.code Lib.objectInit ⟨#[0xb1]⟩ 1 none) (ev_gwm (List.mem_of_getElem? (i := 83) (by decide +kernel)) rfl)) rfl (by rw [hml]; exact hl.1) rfl ew_d_0_1 (Nat.le_of_ble_eq_true rfl) (Nat.le_of_ble_eq_true rfl) ?_
  refine W.eq (g2 := F0 m 4 ls []) rfl ?_
  refine lv_aload_n hx hb ew_d_0_4 rfl (lv_at hl 0 rfl) ?_
  refine lv_bipush (v := 8) hx hb ew_d_0_5 (by decide) ?_
  refine ew_newa (atype := .int) (ty := .int) (cI := cI) (N' := 8) (a0 := (8, .inl (fun _ => 0))) hx hb hArI rfl (by decide) hK 0 rfl hP hD hS hA (fun _ => rfl) (by decide) (by decide) (Nat.le_of_ble_eq_true rfl) (Nat.le_of_ble_eq_true rfl) (Nat.le_of_ble_eq_true rfl) ew_d_0_7 rfl (fun q1 H hP hD hS => ?_)
  have hP : va_P D vwCl [(h0, .inr (0, [.int 0, .null, .null])), (q1, .inl (cI, 8, .inl (fun _ => 0)))] H := hP
  have hD : va_D A [(h0, .inr (0, [.int 0, .null, .null])), (q1, .inl (cI, 8, .inl (fun _ => 0)))] := hD
  refine W.widen (k := 1) (n := 8) (Nat.le_of_ble_eq_true rfl) (Nat.le_of_ble_eq_true rfl) ?_
  refine va_putF (D := D) (ci := 0) (v := .ref q1) (ty := tyX0 1) (C := RX0) (T := TX0) (N := 3) hx hb hts (ev_in_g 0 (by decide)) tyX0 tyX0_ok nmX0 hown hK hP hD hS 0 rfl rfl 1 (by decide) (hts (.fieldLink RX0 9 RX0 "taker" "[I") (ev_gwm (List.mem_of_getElem? (i := 399) (by decide +kernel)) rfl)) (fun _ h9 => h9) rfl hin rfl (by decide +kernel) rfl rfl (Nat.le_of_ble_eq_true rfl) ew_d_0_9 (fun H locs hP hD hS => ?_)
  have hP : va_P D vwCl [(h0, .inr (0, [.int 0, .ref q1, .null])), (q1, .inl (cI, 8, .inl (fun _ => 0)))] H := hP
  have hD : va_D A [(h0, .inr (0, [.int 0, .ref q1, .null])), (q1, .inl (cI, 8, .inl (fun _ => 0)))] := hD
  refine lv_aload_n hx hb ew_d_0_12 rfl (lv_at hl 0 rfl) ?_
  refine lv_bipush (v := 8) hx hb ew_d_0_13 (by decide) ?_
  refine ew_newa (atype := .int) (ty := .int) (cI := cI) (N' := 8) (a0 := (8, .inl (fun _ => 0))) hx hb hArI rfl (by decide) hK 0 rfl hP hD hS hA (fun _ => rfl) (by decide) (by decide) (Nat.le_of_ble_eq_true rfl) (Nat.le_of_ble_eq_true rfl) (Nat.le_of_ble_eq_true rfl) ew_d_0_15 rfl (fun q2 H hP hD hS => ?_)
  have hP : va_P D vwCl [(h0, .inr (0, [.int 0, .ref q1, .null])), (q1, .inl (cI, 8, .inl (fun _ => 0))), (q2, .inl (cI, 8, .inl (fun _ => 0)))] H := hP
  have hD : va_D A [(h0, .inr (0, [.int 0, .ref q1, .null])), (q1, .inl (cI, 8, .inl (fun _ => 0))), (q2, .inl (cI, 8, .inl (fun _ => 0)))] := hD
  refine W.widen (k := 2) (n := 16) (Nat.le_of_ble_eq_true rfl) (Nat.le_of_ble_eq_true rfl) ?_
  refine va_putF (D := D) (ci := 0) (v := .ref q2) (ty := tyX0 2) (C := RX0) (T := TX0) (N := 3) hx hb hts (ev_in_g 0 (by decide)) tyX0 tyX0_ok nmX0 hown hK hP hD hS 0 rfl rfl 2 (by decide) (hts (.fieldLink RX0 15 RX0 "tried" "[I") (ev_gwm (List.mem_of_getElem? (i := 401) (by decide +kernel)) rfl)) (fun _ h9 => h9) rfl hin rfl (by decide +kernel) rfl rfl (Nat.le_of_ble_eq_true rfl) ew_d_0_17 (fun H locs hP hD hS => ?_)
  have hP : va_P D vwCl [(h0, .inr (0, [.int 0, .ref q1, .ref q2])), (q1, .inl (cI, 8, .inl (fun _ => 0))), (q2, .inl (cI, 8, .inl (fun _ => 0)))] H := hP
  have hD : va_D A [(h0, .inr (0, [.int 0, .ref q1, .ref q2])), (q1, .inl (cI, 8, .inl (fun _ => 0))), (q2, .inl (cI, 8, .inl (fun _ => 0)))] := hD
  exact W.vret hx hb hr (fun t ht hW => ⟨⟨fun k => [h0, q1, q2].getD k 0, rfl, rfl, by rw [ht]; exact hP, hD⟩, hS.F ht⟩) hS.2.2 ew_d_0_20

