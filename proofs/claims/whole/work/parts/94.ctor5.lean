/-! the constructor of the reference -/
theorem ew_congi {D : va_G} {cl : List vw_C} {ws : va_W} {H : Heap} {a n k : Nat} {cA : ClassId} {f g : Nat → Int32} (hP : va_P D cl ws H) (hk : ws[k]? = some (a, .inl (cA, n, .inl f))) (h : ∀ j, j < n → f j = g j) : va_P D cl (ws.set k (a, .inl (cA, n, .inl g))) H := by
  intro i q hq
  rw [List.getElem?_set] at hq
  by_cases c : k = i
  · subst c
    rw [if_pos rfl] at hq
    split at hq
    · cases hq
      have h2 : H[a]? = some (vp_cell cA (n, .inl f)) := hP k _ hk
      show H[a]? = some (vp_cell cA (n, .inl g))
      rw [h2]
      have e : (Array.ofFn (n := n) fun j => Value.int (f j.val)) = Array.ofFn (n := n) fun j => Value.int (g j.val) := by
        congr 1
        funext j
        rw [h j.val j.isLt]
      show some (arrV cA n (fun j => Value.int (f j))) = some (arrV cA n (fun j => Value.int (g j)))
      unfold arrV
      rw [e]
    · cases hq
  · rw [if_neg c] at hq
    exact hP i q hq
theorem ew_d_11_0 : decode cX11_init 0 = .ok (.aload_n 0, 1) := by decide +kernel
theorem ew_d_11_1 : decode cX11_init 1 = .ok (.invokespecial 1, 3) := by decide +kernel
theorem ew_d_11_4 : decode cX11_init 4 = .ok (.aload_n 0, 1) := by decide +kernel
theorem ew_d_11_5 : decode cX11_init 5 = .ok (.sipush 2366, 3) := by decide +kernel
theorem ew_d_11_8 : decode cX11_init 8 = .ok (.newarray .int, 2) := by decide +kernel
theorem ew_d_11_10 : decode cX11_init 10 = .ok (.putfield 7, 3) := by decide +kernel
theorem ew_d_11_13 : decode cX11_init 13 = .ok (.aload_n 0, 1) := by decide +kernel
theorem ew_d_11_14 : decode cX11_init 14 = .ok (.bipush 10, 2) := by decide +kernel
theorem ew_d_11_16 : decode cX11_init 16 = .ok (.newarray .int, 2) := by decide +kernel
theorem ew_d_11_18 : decode cX11_init 18 = .ok (.dup, 1) := by decide +kernel
theorem ew_d_11_19 : decode cX11_init 19 = .ok (.iconst 0, 1) := by decide +kernel
theorem ew_d_11_20 : decode cX11_init 20 = .ok (.iconst 0, 1) := by decide +kernel
theorem ew_d_11_21 : decode cX11_init 21 = .ok (.iastore, 1) := by decide +kernel
theorem ew_d_11_22 : decode cX11_init 22 = .ok (.dup, 1) := by decide +kernel
theorem ew_d_11_23 : decode cX11_init 23 = .ok (.iconst 1, 1) := by decide +kernel
theorem ew_d_11_24 : decode cX11_init 24 = .ok (.iconst 3, 1) := by decide +kernel
theorem ew_d_11_25 : decode cX11_init 25 = .ok (.iastore, 1) := by decide +kernel
theorem ew_d_11_26 : decode cX11_init 26 = .ok (.dup, 1) := by decide +kernel
theorem ew_d_11_27 : decode cX11_init 27 = .ok (.iconst 2, 1) := by decide +kernel
theorem ew_d_11_28 : decode cX11_init 28 = .ok (.iconst 3, 1) := by decide +kernel
theorem ew_d_11_29 : decode cX11_init 29 = .ok (.iastore, 1) := by decide +kernel
theorem ew_d_11_30 : decode cX11_init 30 = .ok (.dup, 1) := by decide +kernel
theorem ew_d_11_31 : decode cX11_init 31 = .ok (.iconst 3, 1) := by decide +kernel
theorem ew_d_11_32 : decode cX11_init 32 = .ok (.bipush 7, 2) := by decide +kernel
theorem ew_d_11_34 : decode cX11_init 34 = .ok (.iastore, 1) := by decide +kernel
theorem ew_d_11_35 : decode cX11_init 35 = .ok (.dup, 1) := by decide +kernel
theorem ew_d_11_36 : decode cX11_init 36 = .ok (.iconst 4, 1) := by decide +kernel
theorem ew_d_11_37 : decode cX11_init 37 = .ok (.bipush 12, 2) := by decide +kernel
theorem ew_d_11_39 : decode cX11_init 39 = .ok (.iastore, 1) := by decide +kernel
theorem ew_d_11_40 : decode cX11_init 40 = .ok (.dup, 1) := by decide +kernel
theorem ew_d_11_41 : decode cX11_init 41 = .ok (.iconst 5, 1) := by decide +kernel
theorem ew_d_11_42 : decode cX11_init 42 = .ok (.bipush 20, 2) := by decide +kernel
theorem ew_d_11_44 : decode cX11_init 44 = .ok (.iastore, 1) := by decide +kernel
theorem ew_d_11_45 : decode cX11_init 45 = .ok (.dup, 1) := by decide +kernel
theorem ew_d_11_46 : decode cX11_init 46 = .ok (.bipush 6, 2) := by decide +kernel
theorem ew_d_11_48 : decode cX11_init 48 = .ok (.bipush 28, 2) := by decide +kernel
theorem ew_d_11_50 : decode cX11_init 50 = .ok (.iastore, 1) := by decide +kernel
theorem ew_d_11_51 : decode cX11_init 51 = .ok (.dup, 1) := by decide +kernel
theorem ew_d_11_52 : decode cX11_init 52 = .ok (.bipush 7, 2) := by decide +kernel
theorem ew_d_11_54 : decode cX11_init 54 = .ok (.bipush 40, 2) := by decide +kernel
theorem ew_d_11_56 : decode cX11_init 56 = .ok (.iastore, 1) := by decide +kernel
theorem ew_d_11_57 : decode cX11_init 57 = .ok (.dup, 1) := by decide +kernel
theorem ew_d_11_58 : decode cX11_init 58 = .ok (.bipush 8, 2) := by decide +kernel
theorem ew_d_11_60 : decode cX11_init 60 = .ok (.bipush 60, 2) := by decide +kernel
theorem ew_d_11_62 : decode cX11_init 62 = .ok (.iastore, 1) := by decide +kernel
theorem ew_d_11_63 : decode cX11_init 63 = .ok (.dup, 1) := by decide +kernel
theorem ew_d_11_64 : decode cX11_init 64 = .ok (.bipush 9, 2) := by decide +kernel
theorem ew_d_11_66 : decode cX11_init 66 = .ok (.bipush 60, 2) := by decide +kernel
theorem ew_d_11_68 : decode cX11_init 68 = .ok (.iastore, 1) := by decide +kernel
theorem ew_d_11_69 : decode cX11_init 69 = .ok (.putfield 13, 3) := by decide +kernel
theorem ew_d_11_72 : decode cX11_init 72 = .ok (.aload_n 0, 1) := by decide +kernel
theorem ew_d_11_73 : decode cX11_init 73 = .ok (.bipush 6, 2) := by decide +kernel
theorem ew_d_11_75 : decode cX11_init 75 = .ok (.newarray .int, 2) := by decide +kernel
theorem ew_d_11_77 : decode cX11_init 77 = .ok (.putfield 16, 3) := by decide +kernel
theorem ew_d_11_80 : decode cX11_init 80 = .ok (.aload_n 0, 1) := by decide +kernel
theorem ew_d_11_81 : decode cX11_init 81 = .ok (.bipush 10, 2) := by decide +kernel
theorem ew_d_11_83 : decode cX11_init 83 = .ok (.newarray .int, 2) := by decide +kernel
theorem ew_d_11_85 : decode cX11_init 85 = .ok (.putfield 19, 3) := by decide +kernel
theorem ew_d_11_88 : decode cX11_init 88 = .ok (.aload_n 0, 1) := by decide +kernel
theorem ew_d_11_89 : decode cX11_init 89 = .ok (.bipush 10, 2) := by decide +kernel
theorem ew_d_11_91 : decode cX11_init 91 = .ok (.newarray .boolean, 2) := by decide +kernel
theorem ew_d_11_93 : decode cX11_init 93 = .ok (.putfield 22, 3) := by decide +kernel
theorem ew_d_11_96 : decode cX11_init 96 = .ok (.aload_n 0, 1) := by decide +kernel
theorem ew_d_11_97 : decode cX11_init 97 = .ok (.bipush 6, 2) := by decide +kernel
theorem ew_d_11_99 : decode cX11_init 99 = .ok (.newarray .int, 2) := by decide +kernel
theorem ew_d_11_101 : decode cX11_init 101 = .ok (.putfield 26, 3) := by decide +kernel
theorem ew_d_11_104 : decode cX11_init 104 = .ok (.aload_n 0, 1) := by decide +kernel
theorem ew_d_11_105 : decode cX11_init 105 = .ok (.bipush 8, 2) := by decide +kernel
theorem ew_d_11_107 : decode cX11_init 107 = .ok (.newarray .int, 2) := by decide +kernel
theorem ew_d_11_109 : decode cX11_init 109 = .ok (.putfield 29, 3) := by decide +kernel
theorem ew_d_11_112 : decode cX11_init 112 = .ok (.aload_n 0, 1) := by decide +kernel
theorem ew_d_11_113 : decode cX11_init 113 = .ok (.bipush 100, 2) := by decide +kernel
theorem ew_d_11_115 : decode cX11_init 115 = .ok (.newarray .int, 2) := by decide +kernel
theorem ew_d_11_117 : decode cX11_init 117 = .ok (.putfield 32, 3) := by decide +kernel
theorem ew_d_11_120 : decode cX11_init 120 = .ok (.aload_n 0, 1) := by decide +kernel
theorem ew_d_11_121 : decode cX11_init 121 = .ok (.getfield 7, 3) := by decide +kernel
theorem ew_d_11_124 : decode cX11_init 124 = .ok (.iconst 0, 1) := by decide +kernel
theorem ew_d_11_125 : decode cX11_init 125 = .ok (.iconst 0, 1) := by decide +kernel
theorem ew_d_11_126 : decode cX11_init 126 = .ok (.iastore, 1) := by decide +kernel
theorem ew_d_11_127 : decode cX11_init 127 = .ok (.return_, 1) := by decide +kernel
def ew_w11 (cI cZ : ClassId) (h0 : Nat) (u : Nat → Nat) : va_W := [(h0, .inr (11, [.ref (u 1), .int 0, .ref (u 2), .ref (u 3), .ref (u 4), .ref (u 5), .int 0, .ref (u 6), .ref (u 7), .int 0, .ref (u 8), .int 0, .int 0, .int 0, .long 0])), ((u 1), .inl (cI, 2366, .inl (fun _ => 0))), ((u 2), .inl (cI, 10, .inl (fun j => Int32.ofInt (ev_ps (j : Int))))), ((u 3), .inl (cI, 6, .inl (fun _ => 0))), ((u 4), .inl (cI, 10, .inl (fun _ => 0))), ((u 5), .inl (cZ, 10, .inl (fun _ => 0))), ((u 6), .inl (cI, 6, .inl (fun _ => 0))), ((u 7), .inl (cI, 8, .inl (fun _ => 0))), ((u 8), .inl (cI, 100, .inl (fun _ => 0)))]
set_option maxHeartbeats 8000000 in
set_option maxRecDepth 100000 in
theorem ew_c_11 (l : Launch) (D : va_G) (cI cZ cS : ClassId) (h0 sz : Nat) : Met l yX11_init (.code yX11_init cX11_init 1 none :: ev_gw) { frames := 1, cells := 8, slots := 2516, locals := 12 } (va_Pc [.ref h0] (fun U => U.heap.size = sz ∧ va_P D vwCl [(h0, .inr (11, [.null, .int 0, .null, .null, .null, .null, .int 0, .null, .null, .int 0, .null, .int 0, .int 0, .int 0, .long 0]))] U.heap ∧ va_K D vwCl (ev_ty cI cZ cS) U ∧ va_D (fun _ => True) [(h0, .inr (11, [.null, .int 0, .null, .null, .null, .null, .int 0, .null, .null, .int 0, .null, .int 0, .int 0, .int 0, .long 0]))])) (va_Qv (fun u : Nat → Nat => u 0 = h0) (fun u t => va_P D vwCl (ew_w11 cI cZ h0 u) t.heap ∧ va_D (va_A [(h0, .inr (11, [.null, .int 0, .null, .null, .null, .null, .int 0, .null, .null, .int 0, .null, .int 0, .int 0, .int 0, .long 0]))] sz) (ew_w11 cI cZ h0 u)) (va_A [(h0, .inr (11, [.null, .int 0, .null, .null, .null, .null, .int 0, .null, .null, .int 0, .null, .int 0, .int 0, .int 0, .long 0]))] sz)) 8 2516 (va_A [(h0, .inr (11, [.null, .int 0, .null, .null, .null, .null, .int 0, .null, .null, .int 0, .null, .int 0, .int 0, .int 0, .long 0]))] sz) := by
  refine Met.ofW (cc := cX11_init) (maxL := 1) (ret := none) (by decide) rfl ?_
  intro p e s m args below meth c s₁ B hml hv
  obtain ⟨rfl, hsz, hP, hK, hD0⟩ := hv
  have hx := B.exec
  have hb := B.bytes
  have hr := B.returns
  have hts : ∀ w ∈ ev_gw, w.before #[Value.ref h0] s = true := fun w hw => atoms_spec (ws := .code yX11_init cX11_init 1 none :: ev_gw) B.pre w (List.mem_cons_of_mem _ hw)
  have hown : s.vm.findClass RX11 = some m.cls := findClass_of_methodNamed B.named
  have hlocks := B.notSynchronized
  have hin : meth.name = "<init>" := (name_of_methodNamed B.named B.method).1
  subst hsz
  have hD := hD0.self (sz := s.heap.size)
  generalize hAe : va_A [(h0, .inr (11, [.null, .int 0, .null, .null, .null, .null, .int 0, .null, .null, .int 0, .null, .int 0, .int 0, .int 0, .long 0]))] s.heap.size = A at hD ⊢
  have hA : ∀ q : Nat, s.heap.size ≤ q → A q := fun q h => by rw [← hAe]; exact Or.inr h
  have hS : va_S A s.heap s.heap [] := va_S.rf
  have hP : va_P D vwCl [(h0, .inr (11, [.null, .int 0, .null, .null, .null, .null, .int 0, .null, .null, .int 0, .null, .int 0, .int 0, .int 0, .long 0]))] s.heap := hP
  have hl := lv_entry ([.ref h0]) (n := 1) (Nat.le_of_ble_eq_true rfl)
  rw [lg_entry_eq]
  generalize (lg_sl ([.ref h0]) ++ List.replicate (1 - (lg_sl ([.ref h0])).length) Slot.unset).toArray = ls at hl ⊢
  have hl : lv_has ls 1 [(0, .ref h0)] := hl
  have hArI : (Cond.arrayClass .int).before #[Value.ref h0] s = true := hts _ (ev_gwm (List.mem_of_getElem? (i := 170) (by decide +kernel)) rfl)
  have hArZ : (Cond.arrayClass .boolean).before #[Value.ref h0] s = true := hts _ (ev_gwm (List.mem_of_getElem? (i := 235) (by decide +kernel)) rfl)
  refine lv_aload_n hx hb ew_d_11_0 rfl (lv_at hl 0 rfl) ?_
  refine W.objInit hx hb hown (hts (.methodLink RX11 1 Lib.objectInit) (ev_gwm (List.mem_of_getElem? (i := 942) (by decide +kernel)) rfl)) (hts (.instanceMethod Lib.objectInit) (ev_gwm (List.mem_of_getElem? (i := 122) (by decide +kernel)) rfl)) (hts (.code Lib.objectInit ⟨#[0xb1]⟩ 1 none) (ev_gwm (List.mem_of_getElem? (i := 123) (by decide +kernel)) rfl)) rfl (by rw [hml]; exact hl.1) rfl ew_d_11_1 (Nat.le_of_ble_eq_true rfl) (Nat.le_of_ble_eq_true rfl) ?_
  refine W.eq (g2 := F0 m 4 ls []) rfl ?_
  refine lv_aload_n hx hb ew_d_11_4 rfl (lv_at hl 0 rfl) ?_
  refine lv_sipush (v := 2366) hx hb ew_d_11_5 (by decide) ?_
  refine ew_newa (atype := .int) (ty := .int) (cI := cI) (N' := 2366) (a0 := (2366, .inl (fun _ => 0))) hx hb hArI rfl (by decide) hK 0 rfl hP hD hS hA (fun _ => rfl) (by decide) (by decide) (Nat.le_of_ble_eq_true rfl) (Nat.le_of_ble_eq_true rfl) (Nat.le_of_ble_eq_true rfl) ew_d_11_8 rfl (fun q1 H hP hD hS => ?_)
  have hP : va_P D vwCl [(h0, .inr (11, [.null, .int 0, .null, .null, .null, .null, .int 0, .null, .null, .int 0, .null, .int 0, .int 0, .int 0, .long 0])), (q1, .inl (cI, 2366, .inl (fun _ => 0)))] H := hP
  have hD : va_D A [(h0, .inr (11, [.null, .int 0, .null, .null, .null, .null, .int 0, .null, .null, .int 0, .null, .int 0, .int 0, .int 0, .long 0])), (q1, .inl (cI, 2366, .inl (fun _ => 0)))] := hD
  refine W.widen (k := 1) (n := 2366) (Nat.le_of_ble_eq_true rfl) (Nat.le_of_ble_eq_true rfl) ?_
  refine va_putF (D := D) (ci := 11) (v := .ref q1) (ty := tyX11 0) (C := RX11) (T := TX11) (N := 15) hx hb hts (ev_in_g 11 (by decide)) tyX11 tyX11_ok nmX11 hown hK hP hD hS 0 rfl rfl 0 (by decide) (hts (.fieldLink RX11 7 RX11 "row" "[I") (ev_gwm (List.mem_of_getElem? (i := 943) (by decide +kernel)) rfl)) (fun _ h9 => h9) rfl hin rfl (by decide +kernel) rfl rfl (Nat.le_of_ble_eq_true rfl) ew_d_11_10 (fun H locs hP hD hS => ?_)
  have hP : va_P D vwCl [(h0, .inr (11, [.ref q1, .int 0, .null, .null, .null, .null, .int 0, .null, .null, .int 0, .null, .int 0, .int 0, .int 0, .long 0])), (q1, .inl (cI, 2366, .inl (fun _ => 0)))] H := hP
  have hD : va_D A [(h0, .inr (11, [.ref q1, .int 0, .null, .null, .null, .null, .int 0, .null, .null, .int 0, .null, .int 0, .int 0, .int 0, .long 0])), (q1, .inl (cI, 2366, .inl (fun _ => 0)))] := hD
  refine lv_aload_n hx hb ew_d_11_13 rfl (lv_at hl 0 rfl) ?_
  refine lv_bipush (v := 10) hx hb ew_d_11_14 (by decide) ?_
  refine ew_newa (atype := .int) (ty := .int) (cI := cI) (N' := 10) (a0 := (10, .inl (fun _ => 0))) hx hb hArI rfl (by decide) hK 0 rfl hP hD hS hA (fun _ => rfl) (by decide) (by decide) (Nat.le_of_ble_eq_true rfl) (Nat.le_of_ble_eq_true rfl) (Nat.le_of_ble_eq_true rfl) ew_d_11_16 rfl (fun q2 H hP hD hS => ?_)
  have hP : va_P D vwCl [(h0, .inr (11, [.ref q1, .int 0, .null, .null, .null, .null, .int 0, .null, .null, .int 0, .null, .int 0, .int 0, .int 0, .long 0])), (q1, .inl (cI, 2366, .inl (fun _ => 0))), (q2, .inl (cI, 10, .inl (fun _ => 0)))] H := hP
  have hD : va_D A [(h0, .inr (11, [.ref q1, .int 0, .null, .null, .null, .null, .int 0, .null, .null, .int 0, .null, .int 0, .int 0, .int 0, .long 0])), (q1, .inl (cI, 2366, .inl (fun _ => 0))), (q2, .inl (cI, 10, .inl (fun _ => 0)))] := hD
  refine W.widen (k := 2) (n := 2376) (Nat.le_of_ble_eq_true rfl) (Nat.le_of_ble_eq_true rfl) ?_
  refine lv_dup hx hb ew_d_11_18 rfl ?_
  refine lv_iconst (v := 0) hx hb ew_d_11_19 (by decide) ?_
  refine lv_iconst (v := 0) hx hb ew_d_11_20 (by decide) ?_
  refine va_iast hx hb hK hP hD hS 2 0 rfl rfl (by unfold vp_in; decide) ew_d_11_21 (fun H locs hP hD hS => ?_)
  have hP : va_P D vwCl [(h0, .inr (11, [.ref q1, .int 0, .null, .null, .null, .null, .int 0, .null, .null, .int 0, .null, .int 0, .int 0, .int 0, .long 0])), (q1, .inl (cI, 2366, .inl (fun _ => 0))), (q2, .inl (cI, 10, .inl (upd (fun _ => 0) (0 : Int32).toNatClampNeg 0)))] H := hP
  have hD : va_D A [(h0, .inr (11, [.ref q1, .int 0, .null, .null, .null, .null, .int 0, .null, .null, .int 0, .null, .int 0, .int 0, .int 0, .long 0])), (q1, .inl (cI, 2366, .inl (fun _ => 0))), (q2, .inl (cI, 10, .inl (upd (fun _ => 0) (0 : Int32).toNatClampNeg 0)))] := hD
  refine lv_dup hx hb ew_d_11_22 rfl ?_
  refine lv_iconst (v := 1) hx hb ew_d_11_23 (by decide) ?_
  refine lv_iconst (v := 3) hx hb ew_d_11_24 (by decide) ?_
  refine va_iast hx hb hK hP hD hS 2 0 rfl rfl (by unfold vp_in; decide) ew_d_11_25 (fun H locs hP hD hS => ?_)
  have hP : va_P D vwCl [(h0, .inr (11, [.ref q1, .int 0, .null, .null, .null, .null, .int 0, .null, .null, .int 0, .null, .int 0, .int 0, .int 0, .long 0])), (q1, .inl (cI, 2366, .inl (fun _ => 0))), (q2, .inl (cI, 10, .inl (upd (upd (fun _ => 0) (0 : Int32).toNatClampNeg 0) (1 : Int32).toNatClampNeg 3)))] H := hP
  have hD : va_D A [(h0, .inr (11, [.ref q1, .int 0, .null, .null, .null, .null, .int 0, .null, .null, .int 0, .null, .int 0, .int 0, .int 0, .long 0])), (q1, .inl (cI, 2366, .inl (fun _ => 0))), (q2, .inl (cI, 10, .inl (upd (upd (fun _ => 0) (0 : Int32).toNatClampNeg 0) (1 : Int32).toNatClampNeg 3)))] := hD
  refine lv_dup hx hb ew_d_11_26 rfl ?_
  refine lv_iconst (v := 2) hx hb ew_d_11_27 (by decide) ?_
  refine lv_iconst (v := 3) hx hb ew_d_11_28 (by decide) ?_
  refine va_iast hx hb hK hP hD hS 2 0 rfl rfl (by unfold vp_in; decide) ew_d_11_29 (fun H locs hP hD hS => ?_)
  have hP : va_P D vwCl [(h0, .inr (11, [.ref q1, .int 0, .null, .null, .null, .null, .int 0, .null, .null, .int 0, .null, .int 0, .int 0, .int 0, .long 0])), (q1, .inl (cI, 2366, .inl (fun _ => 0))), (q2, .inl (cI, 10, .inl (upd (upd (upd (fun _ => 0) (0 : Int32).toNatClampNeg 0) (1 : Int32).toNatClampNeg 3) (2 : Int32).toNatClampNeg 3)))] H := hP
  have hD : va_D A [(h0, .inr (11, [.ref q1, .int 0, .null, .null, .null, .null, .int 0, .null, .null, .int 0, .null, .int 0, .int 0, .int 0, .long 0])), (q1, .inl (cI, 2366, .inl (fun _ => 0))), (q2, .inl (cI, 10, .inl (upd (upd (upd (fun _ => 0) (0 : Int32).toNatClampNeg 0) (1 : Int32).toNatClampNeg 3) (2 : Int32).toNatClampNeg 3)))] := hD
  refine lv_dup hx hb ew_d_11_30 rfl ?_
  refine lv_iconst (v := 3) hx hb ew_d_11_31 (by decide) ?_
  refine lv_bipush (v := 7) hx hb ew_d_11_32 (by decide) ?_
  refine va_iast hx hb hK hP hD hS 2 0 rfl rfl (by unfold vp_in; decide) ew_d_11_34 (fun H locs hP hD hS => ?_)
  have hP : va_P D vwCl [(h0, .inr (11, [.ref q1, .int 0, .null, .null, .null, .null, .int 0, .null, .null, .int 0, .null, .int 0, .int 0, .int 0, .long 0])), (q1, .inl (cI, 2366, .inl (fun _ => 0))), (q2, .inl (cI, 10, .inl (upd (upd (upd (upd (fun _ => 0) (0 : Int32).toNatClampNeg 0) (1 : Int32).toNatClampNeg 3) (2 : Int32).toNatClampNeg 3) (3 : Int32).toNatClampNeg 7)))] H := hP
  have hD : va_D A [(h0, .inr (11, [.ref q1, .int 0, .null, .null, .null, .null, .int 0, .null, .null, .int 0, .null, .int 0, .int 0, .int 0, .long 0])), (q1, .inl (cI, 2366, .inl (fun _ => 0))), (q2, .inl (cI, 10, .inl (upd (upd (upd (upd (fun _ => 0) (0 : Int32).toNatClampNeg 0) (1 : Int32).toNatClampNeg 3) (2 : Int32).toNatClampNeg 3) (3 : Int32).toNatClampNeg 7)))] := hD
  refine lv_dup hx hb ew_d_11_35 rfl ?_
  refine lv_iconst (v := 4) hx hb ew_d_11_36 (by decide) ?_
  refine lv_bipush (v := 12) hx hb ew_d_11_37 (by decide) ?_
  refine va_iast hx hb hK hP hD hS 2 0 rfl rfl (by unfold vp_in; decide) ew_d_11_39 (fun H locs hP hD hS => ?_)
  have hP : va_P D vwCl [(h0, .inr (11, [.ref q1, .int 0, .null, .null, .null, .null, .int 0, .null, .null, .int 0, .null, .int 0, .int 0, .int 0, .long 0])), (q1, .inl (cI, 2366, .inl (fun _ => 0))), (q2, .inl (cI, 10, .inl (upd (upd (upd (upd (upd (fun _ => 0) (0 : Int32).toNatClampNeg 0) (1 : Int32).toNatClampNeg 3) (2 : Int32).toNatClampNeg 3) (3 : Int32).toNatClampNeg 7) (4 : Int32).toNatClampNeg 12)))] H := hP
  have hD : va_D A [(h0, .inr (11, [.ref q1, .int 0, .null, .null, .null, .null, .int 0, .null, .null, .int 0, .null, .int 0, .int 0, .int 0, .long 0])), (q1, .inl (cI, 2366, .inl (fun _ => 0))), (q2, .inl (cI, 10, .inl (upd (upd (upd (upd (upd (fun _ => 0) (0 : Int32).toNatClampNeg 0) (1 : Int32).toNatClampNeg 3) (2 : Int32).toNatClampNeg 3) (3 : Int32).toNatClampNeg 7) (4 : Int32).toNatClampNeg 12)))] := hD
  refine lv_dup hx hb ew_d_11_40 rfl ?_
  refine lv_iconst (v := 5) hx hb ew_d_11_41 (by decide) ?_
  refine lv_bipush (v := 20) hx hb ew_d_11_42 (by decide) ?_
  refine va_iast hx hb hK hP hD hS 2 0 rfl rfl (by unfold vp_in; decide) ew_d_11_44 (fun H locs hP hD hS => ?_)
  have hP : va_P D vwCl [(h0, .inr (11, [.ref q1, .int 0, .null, .null, .null, .null, .int 0, .null, .null, .int 0, .null, .int 0, .int 0, .int 0, .long 0])), (q1, .inl (cI, 2366, .inl (fun _ => 0))), (q2, .inl (cI, 10, .inl (upd (upd (upd (upd (upd (upd (fun _ => 0) (0 : Int32).toNatClampNeg 0) (1 : Int32).toNatClampNeg 3) (2 : Int32).toNatClampNeg 3) (3 : Int32).toNatClampNeg 7) (4 : Int32).toNatClampNeg 12) (5 : Int32).toNatClampNeg 20)))] H := hP
  have hD : va_D A [(h0, .inr (11, [.ref q1, .int 0, .null, .null, .null, .null, .int 0, .null, .null, .int 0, .null, .int 0, .int 0, .int 0, .long 0])), (q1, .inl (cI, 2366, .inl (fun _ => 0))), (q2, .inl (cI, 10, .inl (upd (upd (upd (upd (upd (upd (fun _ => 0) (0 : Int32).toNatClampNeg 0) (1 : Int32).toNatClampNeg 3) (2 : Int32).toNatClampNeg 3) (3 : Int32).toNatClampNeg 7) (4 : Int32).toNatClampNeg 12) (5 : Int32).toNatClampNeg 20)))] := hD
  refine lv_dup hx hb ew_d_11_45 rfl ?_
  refine lv_bipush (v := 6) hx hb ew_d_11_46 (by decide) ?_
  refine lv_bipush (v := 28) hx hb ew_d_11_48 (by decide) ?_
  refine va_iast hx hb hK hP hD hS 2 0 rfl rfl (by unfold vp_in; decide) ew_d_11_50 (fun H locs hP hD hS => ?_)
  have hP : va_P D vwCl [(h0, .inr (11, [.ref q1, .int 0, .null, .null, .null, .null, .int 0, .null, .null, .int 0, .null, .int 0, .int 0, .int 0, .long 0])), (q1, .inl (cI, 2366, .inl (fun _ => 0))), (q2, .inl (cI, 10, .inl (upd (upd (upd (upd (upd (upd (upd (fun _ => 0) (0 : Int32).toNatClampNeg 0) (1 : Int32).toNatClampNeg 3) (2 : Int32).toNatClampNeg 3) (3 : Int32).toNatClampNeg 7) (4 : Int32).toNatClampNeg 12) (5 : Int32).toNatClampNeg 20) (6 : Int32).toNatClampNeg 28)))] H := hP
  have hD : va_D A [(h0, .inr (11, [.ref q1, .int 0, .null, .null, .null, .null, .int 0, .null, .null, .int 0, .null, .int 0, .int 0, .int 0, .long 0])), (q1, .inl (cI, 2366, .inl (fun _ => 0))), (q2, .inl (cI, 10, .inl (upd (upd (upd (upd (upd (upd (upd (fun _ => 0) (0 : Int32).toNatClampNeg 0) (1 : Int32).toNatClampNeg 3) (2 : Int32).toNatClampNeg 3) (3 : Int32).toNatClampNeg 7) (4 : Int32).toNatClampNeg 12) (5 : Int32).toNatClampNeg 20) (6 : Int32).toNatClampNeg 28)))] := hD
  refine lv_dup hx hb ew_d_11_51 rfl ?_
  refine lv_bipush (v := 7) hx hb ew_d_11_52 (by decide) ?_
  refine lv_bipush (v := 40) hx hb ew_d_11_54 (by decide) ?_
  refine va_iast hx hb hK hP hD hS 2 0 rfl rfl (by unfold vp_in; decide) ew_d_11_56 (fun H locs hP hD hS => ?_)
  have hP : va_P D vwCl [(h0, .inr (11, [.ref q1, .int 0, .null, .null, .null, .null, .int 0, .null, .null, .int 0, .null, .int 0, .int 0, .int 0, .long 0])), (q1, .inl (cI, 2366, .inl (fun _ => 0))), (q2, .inl (cI, 10, .inl (upd (upd (upd (upd (upd (upd (upd (upd (fun _ => 0) (0 : Int32).toNatClampNeg 0) (1 : Int32).toNatClampNeg 3) (2 : Int32).toNatClampNeg 3) (3 : Int32).toNatClampNeg 7) (4 : Int32).toNatClampNeg 12) (5 : Int32).toNatClampNeg 20) (6 : Int32).toNatClampNeg 28) (7 : Int32).toNatClampNeg 40)))] H := hP
  have hD : va_D A [(h0, .inr (11, [.ref q1, .int 0, .null, .null, .null, .null, .int 0, .null, .null, .int 0, .null, .int 0, .int 0, .int 0, .long 0])), (q1, .inl (cI, 2366, .inl (fun _ => 0))), (q2, .inl (cI, 10, .inl (upd (upd (upd (upd (upd (upd (upd (upd (fun _ => 0) (0 : Int32).toNatClampNeg 0) (1 : Int32).toNatClampNeg 3) (2 : Int32).toNatClampNeg 3) (3 : Int32).toNatClampNeg 7) (4 : Int32).toNatClampNeg 12) (5 : Int32).toNatClampNeg 20) (6 : Int32).toNatClampNeg 28) (7 : Int32).toNatClampNeg 40)))] := hD
  refine lv_dup hx hb ew_d_11_57 rfl ?_
  refine lv_bipush (v := 8) hx hb ew_d_11_58 (by decide) ?_
  refine lv_bipush (v := 60) hx hb ew_d_11_60 (by decide) ?_
  refine va_iast hx hb hK hP hD hS 2 0 rfl rfl (by unfold vp_in; decide) ew_d_11_62 (fun H locs hP hD hS => ?_)
  have hP : va_P D vwCl [(h0, .inr (11, [.ref q1, .int 0, .null, .null, .null, .null, .int 0, .null, .null, .int 0, .null, .int 0, .int 0, .int 0, .long 0])), (q1, .inl (cI, 2366, .inl (fun _ => 0))), (q2, .inl (cI, 10, .inl (upd (upd (upd (upd (upd (upd (upd (upd (upd (fun _ => 0) (0 : Int32).toNatClampNeg 0) (1 : Int32).toNatClampNeg 3) (2 : Int32).toNatClampNeg 3) (3 : Int32).toNatClampNeg 7) (4 : Int32).toNatClampNeg 12) (5 : Int32).toNatClampNeg 20) (6 : Int32).toNatClampNeg 28) (7 : Int32).toNatClampNeg 40) (8 : Int32).toNatClampNeg 60)))] H := hP
  have hD : va_D A [(h0, .inr (11, [.ref q1, .int 0, .null, .null, .null, .null, .int 0, .null, .null, .int 0, .null, .int 0, .int 0, .int 0, .long 0])), (q1, .inl (cI, 2366, .inl (fun _ => 0))), (q2, .inl (cI, 10, .inl (upd (upd (upd (upd (upd (upd (upd (upd (upd (fun _ => 0) (0 : Int32).toNatClampNeg 0) (1 : Int32).toNatClampNeg 3) (2 : Int32).toNatClampNeg 3) (3 : Int32).toNatClampNeg 7) (4 : Int32).toNatClampNeg 12) (5 : Int32).toNatClampNeg 20) (6 : Int32).toNatClampNeg 28) (7 : Int32).toNatClampNeg 40) (8 : Int32).toNatClampNeg 60)))] := hD
  refine lv_dup hx hb ew_d_11_63 rfl ?_
  refine lv_bipush (v := 9) hx hb ew_d_11_64 (by decide) ?_
  refine lv_bipush (v := 60) hx hb ew_d_11_66 (by decide) ?_
  refine va_iast hx hb hK hP hD hS 2 0 rfl rfl (by unfold vp_in; decide) ew_d_11_68 (fun H locs hP hD hS => ?_)
  have hP : va_P D vwCl [(h0, .inr (11, [.ref q1, .int 0, .null, .null, .null, .null, .int 0, .null, .null, .int 0, .null, .int 0, .int 0, .int 0, .long 0])), (q1, .inl (cI, 2366, .inl (fun _ => 0))), (q2, .inl (cI, 10, .inl (upd (upd (upd (upd (upd (upd (upd (upd (upd (upd (fun _ => 0) (0 : Int32).toNatClampNeg 0) (1 : Int32).toNatClampNeg 3) (2 : Int32).toNatClampNeg 3) (3 : Int32).toNatClampNeg 7) (4 : Int32).toNatClampNeg 12) (5 : Int32).toNatClampNeg 20) (6 : Int32).toNatClampNeg 28) (7 : Int32).toNatClampNeg 40) (8 : Int32).toNatClampNeg 60) (9 : Int32).toNatClampNeg 60)))] H := hP
  have hD : va_D A [(h0, .inr (11, [.ref q1, .int 0, .null, .null, .null, .null, .int 0, .null, .null, .int 0, .null, .int 0, .int 0, .int 0, .long 0])), (q1, .inl (cI, 2366, .inl (fun _ => 0))), (q2, .inl (cI, 10, .inl (upd (upd (upd (upd (upd (upd (upd (upd (upd (upd (fun _ => 0) (0 : Int32).toNatClampNeg 0) (1 : Int32).toNatClampNeg 3) (2 : Int32).toNatClampNeg 3) (3 : Int32).toNatClampNeg 7) (4 : Int32).toNatClampNeg 12) (5 : Int32).toNatClampNeg 20) (6 : Int32).toNatClampNeg 28) (7 : Int32).toNatClampNeg 40) (8 : Int32).toNatClampNeg 60) (9 : Int32).toNatClampNeg 60)))] := hD
  have hP := ew_congi (g := fun j => Int32.ofInt (ev_ps (j : Int))) hP (k := 2) rfl (fun j hj => by rcases (show j = 0 ∨ j = 1 ∨ j = 2 ∨ j = 3 ∨ j = 4 ∨ j = 5 ∨ j = 6 ∨ j = 7 ∨ j = 8 ∨ j = 9 by omega) with rfl | rfl | rfl | rfl | rfl | rfl | rfl | rfl | rfl | rfl <;> rfl)
  have hD := hD.set (p := 2) (e := .inl (cI, 10, .inl (fun j => Int32.ofInt (ev_ps (j : Int))))) rfl
  have hP : va_P D vwCl [(h0, .inr (11, [.ref q1, .int 0, .null, .null, .null, .null, .int 0, .null, .null, .int 0, .null, .int 0, .int 0, .int 0, .long 0])), (q1, .inl (cI, 2366, .inl (fun _ => 0))), (q2, .inl (cI, 10, .inl (fun j => Int32.ofInt (ev_ps (j : Int)))))] H := hP
  have hD : va_D A [(h0, .inr (11, [.ref q1, .int 0, .null, .null, .null, .null, .int 0, .null, .null, .int 0, .null, .int 0, .int 0, .int 0, .long 0])), (q1, .inl (cI, 2366, .inl (fun _ => 0))), (q2, .inl (cI, 10, .inl (fun j => Int32.ofInt (ev_ps (j : Int)))))] := hD
  refine va_putF (D := D) (ci := 11) (v := .ref q2) (ty := tyX11 2) (C := RX11) (T := TX11) (N := 15) hx hb hts (ev_in_g 11 (by decide)) tyX11 tyX11_ok nmX11 hown hK hP hD hS 0 rfl rfl 2 (by decide) (hts (.fieldLink RX11 13 RX11 "posts" "[I") (ev_gwm (List.mem_of_getElem? (i := 945) (by decide +kernel)) rfl)) (fun _ h9 => h9) rfl hin rfl (by decide +kernel) rfl rfl (Nat.le_of_ble_eq_true rfl) ew_d_11_69 (fun H locs hP hD hS => ?_)
  have hP : va_P D vwCl [(h0, .inr (11, [.ref q1, .int 0, .ref q2, .null, .null, .null, .int 0, .null, .null, .int 0, .null, .int 0, .int 0, .int 0, .long 0])), (q1, .inl (cI, 2366, .inl (fun _ => 0))), (q2, .inl (cI, 10, .inl (fun j => Int32.ofInt (ev_ps (j : Int)))))] H := hP
  have hD : va_D A [(h0, .inr (11, [.ref q1, .int 0, .ref q2, .null, .null, .null, .int 0, .null, .null, .int 0, .null, .int 0, .int 0, .int 0, .long 0])), (q1, .inl (cI, 2366, .inl (fun _ => 0))), (q2, .inl (cI, 10, .inl (fun j => Int32.ofInt (ev_ps (j : Int)))))] := hD
  refine lv_aload_n hx hb ew_d_11_72 rfl (lv_at hl 0 rfl) ?_
  refine lv_bipush (v := 6) hx hb ew_d_11_73 (by decide) ?_
  refine ew_newa (atype := .int) (ty := .int) (cI := cI) (N' := 6) (a0 := (6, .inl (fun _ => 0))) hx hb hArI rfl (by decide) hK 0 rfl hP hD hS hA (fun _ => rfl) (by decide) (by decide) (Nat.le_of_ble_eq_true rfl) (Nat.le_of_ble_eq_true rfl) (Nat.le_of_ble_eq_true rfl) ew_d_11_75 rfl (fun q3 H hP hD hS => ?_)
  have hP : va_P D vwCl [(h0, .inr (11, [.ref q1, .int 0, .ref q2, .null, .null, .null, .int 0, .null, .null, .int 0, .null, .int 0, .int 0, .int 0, .long 0])), (q1, .inl (cI, 2366, .inl (fun _ => 0))), (q2, .inl (cI, 10, .inl (fun j => Int32.ofInt (ev_ps (j : Int))))), (q3, .inl (cI, 6, .inl (fun _ => 0)))] H := hP
  have hD : va_D A [(h0, .inr (11, [.ref q1, .int 0, .ref q2, .null, .null, .null, .int 0, .null, .null, .int 0, .null, .int 0, .int 0, .int 0, .long 0])), (q1, .inl (cI, 2366, .inl (fun _ => 0))), (q2, .inl (cI, 10, .inl (fun j => Int32.ofInt (ev_ps (j : Int))))), (q3, .inl (cI, 6, .inl (fun _ => 0)))] := hD
  refine W.widen (k := 3) (n := 2382) (Nat.le_of_ble_eq_true rfl) (Nat.le_of_ble_eq_true rfl) ?_
  refine va_putF (D := D) (ci := 11) (v := .ref q3) (ty := tyX11 3) (C := RX11) (T := TX11) (N := 15) hx hb hts (ev_in_g 11 (by decide)) tyX11 tyX11_ok nmX11 hown hK hP hD hS 0 rfl rfl 3 (by decide) (hts (.fieldLink RX11 16 RX11 "strength" "[I") (ev_gwm (List.mem_of_getElem? (i := 946) (by decide +kernel)) rfl)) (fun _ h9 => h9) rfl hin rfl (by decide +kernel) rfl rfl (Nat.le_of_ble_eq_true rfl) ew_d_11_77 (fun H locs hP hD hS => ?_)
  have hP : va_P D vwCl [(h0, .inr (11, [.ref q1, .int 0, .ref q2, .ref q3, .null, .null, .int 0, .null, .null, .int 0, .null, .int 0, .int 0, .int 0, .long 0])), (q1, .inl (cI, 2366, .inl (fun _ => 0))), (q2, .inl (cI, 10, .inl (fun j => Int32.ofInt (ev_ps (j : Int))))), (q3, .inl (cI, 6, .inl (fun _ => 0)))] H := hP
  have hD : va_D A [(h0, .inr (11, [.ref q1, .int 0, .ref q2, .ref q3, .null, .null, .int 0, .null, .null, .int 0, .null, .int 0, .int 0, .int 0, .long 0])), (q1, .inl (cI, 2366, .inl (fun _ => 0))), (q2, .inl (cI, 10, .inl (fun j => Int32.ofInt (ev_ps (j : Int))))), (q3, .inl (cI, 6, .inl (fun _ => 0)))] := hD
  refine lv_aload_n hx hb ew_d_11_80 rfl (lv_at hl 0 rfl) ?_
  refine lv_bipush (v := 10) hx hb ew_d_11_81 (by decide) ?_
  refine ew_newa (atype := .int) (ty := .int) (cI := cI) (N' := 10) (a0 := (10, .inl (fun _ => 0))) hx hb hArI rfl (by decide) hK 0 rfl hP hD hS hA (fun _ => rfl) (by decide) (by decide) (Nat.le_of_ble_eq_true rfl) (Nat.le_of_ble_eq_true rfl) (Nat.le_of_ble_eq_true rfl) ew_d_11_83 rfl (fun q4 H hP hD hS => ?_)
  have hP : va_P D vwCl [(h0, .inr (11, [.ref q1, .int 0, .ref q2, .ref q3, .null, .null, .int 0, .null, .null, .int 0, .null, .int 0, .int 0, .int 0, .long 0])), (q1, .inl (cI, 2366, .inl (fun _ => 0))), (q2, .inl (cI, 10, .inl (fun j => Int32.ofInt (ev_ps (j : Int))))), (q3, .inl (cI, 6, .inl (fun _ => 0))), (q4, .inl (cI, 10, .inl (fun _ => 0)))] H := hP
  have hD : va_D A [(h0, .inr (11, [.ref q1, .int 0, .ref q2, .ref q3, .null, .null, .int 0, .null, .null, .int 0, .null, .int 0, .int 0, .int 0, .long 0])), (q1, .inl (cI, 2366, .inl (fun _ => 0))), (q2, .inl (cI, 10, .inl (fun j => Int32.ofInt (ev_ps (j : Int))))), (q3, .inl (cI, 6, .inl (fun _ => 0))), (q4, .inl (cI, 10, .inl (fun _ => 0)))] := hD
  refine W.widen (k := 4) (n := 2392) (Nat.le_of_ble_eq_true rfl) (Nat.le_of_ble_eq_true rfl) ?_
  refine va_putF (D := D) (ci := 11) (v := .ref q4) (ty := tyX11 4) (C := RX11) (T := TX11) (N := 15) hx hb hts (ev_in_g 11 (by decide)) tyX11 tyX11_ok nmX11 hown hK hP hD hS 0 rfl rfl 4 (by decide) (hts (.fieldLink RX11 19 RX11 "far" "[I") (ev_gwm (List.mem_of_getElem? (i := 947) (by decide +kernel)) rfl)) (fun _ h9 => h9) rfl hin rfl (by decide +kernel) rfl rfl (Nat.le_of_ble_eq_true rfl) ew_d_11_85 (fun H locs hP hD hS => ?_)
  have hP : va_P D vwCl [(h0, .inr (11, [.ref q1, .int 0, .ref q2, .ref q3, .ref q4, .null, .int 0, .null, .null, .int 0, .null, .int 0, .int 0, .int 0, .long 0])), (q1, .inl (cI, 2366, .inl (fun _ => 0))), (q2, .inl (cI, 10, .inl (fun j => Int32.ofInt (ev_ps (j : Int))))), (q3, .inl (cI, 6, .inl (fun _ => 0))), (q4, .inl (cI, 10, .inl (fun _ => 0)))] H := hP
  have hD : va_D A [(h0, .inr (11, [.ref q1, .int 0, .ref q2, .ref q3, .ref q4, .null, .int 0, .null, .null, .int 0, .null, .int 0, .int 0, .int 0, .long 0])), (q1, .inl (cI, 2366, .inl (fun _ => 0))), (q2, .inl (cI, 10, .inl (fun j => Int32.ofInt (ev_ps (j : Int))))), (q3, .inl (cI, 6, .inl (fun _ => 0))), (q4, .inl (cI, 10, .inl (fun _ => 0)))] := hD
  refine lv_aload_n hx hb ew_d_11_88 rfl (lv_at hl 0 rfl) ?_
  refine lv_bipush (v := 10) hx hb ew_d_11_89 (by decide) ?_
  refine ew_newa (atype := .boolean) (ty := .boolean) (cI := cZ) (N' := 10) (a0 := (10, .inl (fun _ => 0))) hx hb hArZ rfl (by decide) hK 1 rfl hP hD hS hA (fun _ => rfl) (by decide) (by decide) (Nat.le_of_ble_eq_true rfl) (Nat.le_of_ble_eq_true rfl) (Nat.le_of_ble_eq_true rfl) ew_d_11_91 rfl (fun q5 H hP hD hS => ?_)
  have hP : va_P D vwCl [(h0, .inr (11, [.ref q1, .int 0, .ref q2, .ref q3, .ref q4, .null, .int 0, .null, .null, .int 0, .null, .int 0, .int 0, .int 0, .long 0])), (q1, .inl (cI, 2366, .inl (fun _ => 0))), (q2, .inl (cI, 10, .inl (fun j => Int32.ofInt (ev_ps (j : Int))))), (q3, .inl (cI, 6, .inl (fun _ => 0))), (q4, .inl (cI, 10, .inl (fun _ => 0))), (q5, .inl (cZ, 10, .inl (fun _ => 0)))] H := hP
  have hD : va_D A [(h0, .inr (11, [.ref q1, .int 0, .ref q2, .ref q3, .ref q4, .null, .int 0, .null, .null, .int 0, .null, .int 0, .int 0, .int 0, .long 0])), (q1, .inl (cI, 2366, .inl (fun _ => 0))), (q2, .inl (cI, 10, .inl (fun j => Int32.ofInt (ev_ps (j : Int))))), (q3, .inl (cI, 6, .inl (fun _ => 0))), (q4, .inl (cI, 10, .inl (fun _ => 0))), (q5, .inl (cZ, 10, .inl (fun _ => 0)))] := hD
  refine W.widen (k := 5) (n := 2402) (Nat.le_of_ble_eq_true rfl) (Nat.le_of_ble_eq_true rfl) ?_
  refine va_putF (D := D) (ci := 11) (v := .ref q5) (ty := tyX11 5) (C := RX11) (T := TX11) (N := 15) hx hb hts (ev_in_g 11 (by decide)) tyX11 tyX11_ok nmX11 hown hK hP hD hS 0 rfl rfl 5 (by decide) (hts (.fieldLink RX11 22 RX11 "done" "[Z") (ev_gwm (List.mem_of_getElem? (i := 948) (by decide +kernel)) rfl)) (fun _ h9 => h9) rfl hin rfl (by decide +kernel) rfl rfl (Nat.le_of_ble_eq_true rfl) ew_d_11_93 (fun H locs hP hD hS => ?_)
  have hP : va_P D vwCl [(h0, .inr (11, [.ref q1, .int 0, .ref q2, .ref q3, .ref q4, .ref q5, .int 0, .null, .null, .int 0, .null, .int 0, .int 0, .int 0, .long 0])), (q1, .inl (cI, 2366, .inl (fun _ => 0))), (q2, .inl (cI, 10, .inl (fun j => Int32.ofInt (ev_ps (j : Int))))), (q3, .inl (cI, 6, .inl (fun _ => 0))), (q4, .inl (cI, 10, .inl (fun _ => 0))), (q5, .inl (cZ, 10, .inl (fun _ => 0)))] H := hP
  have hD : va_D A [(h0, .inr (11, [.ref q1, .int 0, .ref q2, .ref q3, .ref q4, .ref q5, .int 0, .null, .null, .int 0, .null, .int 0, .int 0, .int 0, .long 0])), (q1, .inl (cI, 2366, .inl (fun _ => 0))), (q2, .inl (cI, 10, .inl (fun j => Int32.ofInt (ev_ps (j : Int))))), (q3, .inl (cI, 6, .inl (fun _ => 0))), (q4, .inl (cI, 10, .inl (fun _ => 0))), (q5, .inl (cZ, 10, .inl (fun _ => 0)))] := hD
  refine lv_aload_n hx hb ew_d_11_96 rfl (lv_at hl 0 rfl) ?_
  refine lv_bipush (v := 6) hx hb ew_d_11_97 (by decide) ?_
  refine ew_newa (atype := .int) (ty := .int) (cI := cI) (N' := 6) (a0 := (6, .inl (fun _ => 0))) hx hb hArI rfl (by decide) hK 0 rfl hP hD hS hA (fun _ => rfl) (by decide) (by decide) (Nat.le_of_ble_eq_true rfl) (Nat.le_of_ble_eq_true rfl) (Nat.le_of_ble_eq_true rfl) ew_d_11_99 rfl (fun q6 H hP hD hS => ?_)
  have hP : va_P D vwCl [(h0, .inr (11, [.ref q1, .int 0, .ref q2, .ref q3, .ref q4, .ref q5, .int 0, .null, .null, .int 0, .null, .int 0, .int 0, .int 0, .long 0])), (q1, .inl (cI, 2366, .inl (fun _ => 0))), (q2, .inl (cI, 10, .inl (fun j => Int32.ofInt (ev_ps (j : Int))))), (q3, .inl (cI, 6, .inl (fun _ => 0))), (q4, .inl (cI, 10, .inl (fun _ => 0))), (q5, .inl (cZ, 10, .inl (fun _ => 0))), (q6, .inl (cI, 6, .inl (fun _ => 0)))] H := hP
  have hD : va_D A [(h0, .inr (11, [.ref q1, .int 0, .ref q2, .ref q3, .ref q4, .ref q5, .int 0, .null, .null, .int 0, .null, .int 0, .int 0, .int 0, .long 0])), (q1, .inl (cI, 2366, .inl (fun _ => 0))), (q2, .inl (cI, 10, .inl (fun j => Int32.ofInt (ev_ps (j : Int))))), (q3, .inl (cI, 6, .inl (fun _ => 0))), (q4, .inl (cI, 10, .inl (fun _ => 0))), (q5, .inl (cZ, 10, .inl (fun _ => 0))), (q6, .inl (cI, 6, .inl (fun _ => 0)))] := hD
  refine W.widen (k := 6) (n := 2408) (Nat.le_of_ble_eq_true rfl) (Nat.le_of_ble_eq_true rfl) ?_
  refine va_putF (D := D) (ci := 11) (v := .ref q6) (ty := tyX11 7) (C := RX11) (T := TX11) (N := 15) hx hb hts (ev_in_g 11 (by decide)) tyX11 tyX11_ok nmX11 hown hK hP hD hS 0 rfl rfl 7 (by decide) (hts (.fieldLink RX11 26 RX11 "toured" "[I") (ev_gwm (List.mem_of_getElem? (i := 950) (by decide +kernel)) rfl)) (fun _ h9 => h9) rfl hin rfl (by decide +kernel) rfl rfl (Nat.le_of_ble_eq_true rfl) ew_d_11_101 (fun H locs hP hD hS => ?_)
  have hP : va_P D vwCl [(h0, .inr (11, [.ref q1, .int 0, .ref q2, .ref q3, .ref q4, .ref q5, .int 0, .ref q6, .null, .int 0, .null, .int 0, .int 0, .int 0, .long 0])), (q1, .inl (cI, 2366, .inl (fun _ => 0))), (q2, .inl (cI, 10, .inl (fun j => Int32.ofInt (ev_ps (j : Int))))), (q3, .inl (cI, 6, .inl (fun _ => 0))), (q4, .inl (cI, 10, .inl (fun _ => 0))), (q5, .inl (cZ, 10, .inl (fun _ => 0))), (q6, .inl (cI, 6, .inl (fun _ => 0)))] H := hP
  have hD : va_D A [(h0, .inr (11, [.ref q1, .int 0, .ref q2, .ref q3, .ref q4, .ref q5, .int 0, .ref q6, .null, .int 0, .null, .int 0, .int 0, .int 0, .long 0])), (q1, .inl (cI, 2366, .inl (fun _ => 0))), (q2, .inl (cI, 10, .inl (fun j => Int32.ofInt (ev_ps (j : Int))))), (q3, .inl (cI, 6, .inl (fun _ => 0))), (q4, .inl (cI, 10, .inl (fun _ => 0))), (q5, .inl (cZ, 10, .inl (fun _ => 0))), (q6, .inl (cI, 6, .inl (fun _ => 0)))] := hD
  refine lv_aload_n hx hb ew_d_11_104 rfl (lv_at hl 0 rfl) ?_
  refine lv_bipush (v := 8) hx hb ew_d_11_105 (by decide) ?_
  refine ew_newa (atype := .int) (ty := .int) (cI := cI) (N' := 8) (a0 := (8, .inl (fun _ => 0))) hx hb hArI rfl (by decide) hK 0 rfl hP hD hS hA (fun _ => rfl) (by decide) (by decide) (Nat.le_of_ble_eq_true rfl) (Nat.le_of_ble_eq_true rfl) (Nat.le_of_ble_eq_true rfl) ew_d_11_107 rfl (fun q7 H hP hD hS => ?_)
  have hP : va_P D vwCl [(h0, .inr (11, [.ref q1, .int 0, .ref q2, .ref q3, .ref q4, .ref q5, .int 0, .ref q6, .null, .int 0, .null, .int 0, .int 0, .int 0, .long 0])), (q1, .inl (cI, 2366, .inl (fun _ => 0))), (q2, .inl (cI, 10, .inl (fun j => Int32.ofInt (ev_ps (j : Int))))), (q3, .inl (cI, 6, .inl (fun _ => 0))), (q4, .inl (cI, 10, .inl (fun _ => 0))), (q5, .inl (cZ, 10, .inl (fun _ => 0))), (q6, .inl (cI, 6, .inl (fun _ => 0))), (q7, .inl (cI, 8, .inl (fun _ => 0)))] H := hP
  have hD : va_D A [(h0, .inr (11, [.ref q1, .int 0, .ref q2, .ref q3, .ref q4, .ref q5, .int 0, .ref q6, .null, .int 0, .null, .int 0, .int 0, .int 0, .long 0])), (q1, .inl (cI, 2366, .inl (fun _ => 0))), (q2, .inl (cI, 10, .inl (fun j => Int32.ofInt (ev_ps (j : Int))))), (q3, .inl (cI, 6, .inl (fun _ => 0))), (q4, .inl (cI, 10, .inl (fun _ => 0))), (q5, .inl (cZ, 10, .inl (fun _ => 0))), (q6, .inl (cI, 6, .inl (fun _ => 0))), (q7, .inl (cI, 8, .inl (fun _ => 0)))] := hD
  refine W.widen (k := 7) (n := 2416) (Nat.le_of_ble_eq_true rfl) (Nat.le_of_ble_eq_true rfl) ?_
  refine va_putF (D := D) (ci := 11) (v := .ref q7) (ty := tyX11 8) (C := RX11) (T := TX11) (N := 15) hx hb hts (ev_in_g 11 (by decide)) tyX11 tyX11_ok nmX11 hown hK hP hD hS 0 rfl rfl 8 (by decide) (hts (.fieldLink RX11 29 RX11 "given" "[I") (ev_gwm (List.mem_of_getElem? (i := 951) (by decide +kernel)) rfl)) (fun _ h9 => h9) rfl hin rfl (by decide +kernel) rfl rfl (Nat.le_of_ble_eq_true rfl) ew_d_11_109 (fun H locs hP hD hS => ?_)
  have hP : va_P D vwCl [(h0, .inr (11, [.ref q1, .int 0, .ref q2, .ref q3, .ref q4, .ref q5, .int 0, .ref q6, .ref q7, .int 0, .null, .int 0, .int 0, .int 0, .long 0])), (q1, .inl (cI, 2366, .inl (fun _ => 0))), (q2, .inl (cI, 10, .inl (fun j => Int32.ofInt (ev_ps (j : Int))))), (q3, .inl (cI, 6, .inl (fun _ => 0))), (q4, .inl (cI, 10, .inl (fun _ => 0))), (q5, .inl (cZ, 10, .inl (fun _ => 0))), (q6, .inl (cI, 6, .inl (fun _ => 0))), (q7, .inl (cI, 8, .inl (fun _ => 0)))] H := hP
  have hD : va_D A [(h0, .inr (11, [.ref q1, .int 0, .ref q2, .ref q3, .ref q4, .ref q5, .int 0, .ref q6, .ref q7, .int 0, .null, .int 0, .int 0, .int 0, .long 0])), (q1, .inl (cI, 2366, .inl (fun _ => 0))), (q2, .inl (cI, 10, .inl (fun j => Int32.ofInt (ev_ps (j : Int))))), (q3, .inl (cI, 6, .inl (fun _ => 0))), (q4, .inl (cI, 10, .inl (fun _ => 0))), (q5, .inl (cZ, 10, .inl (fun _ => 0))), (q6, .inl (cI, 6, .inl (fun _ => 0))), (q7, .inl (cI, 8, .inl (fun _ => 0)))] := hD
  refine lv_aload_n hx hb ew_d_11_112 rfl (lv_at hl 0 rfl) ?_
  refine lv_bipush (v := 100) hx hb ew_d_11_113 (by decide) ?_
  refine ew_newa (atype := .int) (ty := .int) (cI := cI) (N' := 100) (a0 := (100, .inl (fun _ => 0))) hx hb hArI rfl (by decide) hK 0 rfl hP hD hS hA (fun _ => rfl) (by decide) (by decide) (Nat.le_of_ble_eq_true rfl) (Nat.le_of_ble_eq_true rfl) (Nat.le_of_ble_eq_true rfl) ew_d_11_115 rfl (fun q8 H hP hD hS => ?_)
  have hP : va_P D vwCl [(h0, .inr (11, [.ref q1, .int 0, .ref q2, .ref q3, .ref q4, .ref q5, .int 0, .ref q6, .ref q7, .int 0, .null, .int 0, .int 0, .int 0, .long 0])), (q1, .inl (cI, 2366, .inl (fun _ => 0))), (q2, .inl (cI, 10, .inl (fun j => Int32.ofInt (ev_ps (j : Int))))), (q3, .inl (cI, 6, .inl (fun _ => 0))), (q4, .inl (cI, 10, .inl (fun _ => 0))), (q5, .inl (cZ, 10, .inl (fun _ => 0))), (q6, .inl (cI, 6, .inl (fun _ => 0))), (q7, .inl (cI, 8, .inl (fun _ => 0))), (q8, .inl (cI, 100, .inl (fun _ => 0)))] H := hP
  have hD : va_D A [(h0, .inr (11, [.ref q1, .int 0, .ref q2, .ref q3, .ref q4, .ref q5, .int 0, .ref q6, .ref q7, .int 0, .null, .int 0, .int 0, .int 0, .long 0])), (q1, .inl (cI, 2366, .inl (fun _ => 0))), (q2, .inl (cI, 10, .inl (fun j => Int32.ofInt (ev_ps (j : Int))))), (q3, .inl (cI, 6, .inl (fun _ => 0))), (q4, .inl (cI, 10, .inl (fun _ => 0))), (q5, .inl (cZ, 10, .inl (fun _ => 0))), (q6, .inl (cI, 6, .inl (fun _ => 0))), (q7, .inl (cI, 8, .inl (fun _ => 0))), (q8, .inl (cI, 100, .inl (fun _ => 0)))] := hD
  refine W.widen (k := 8) (n := 2516) (Nat.le_of_ble_eq_true rfl) (Nat.le_of_ble_eq_true rfl) ?_
  refine va_putF (D := D) (ci := 11) (v := .ref q8) (ty := tyX11 10) (C := RX11) (T := TX11) (N := 15) hx hb hts (ev_in_g 11 (by decide)) tyX11 tyX11_ok nmX11 hown hK hP hD hS 0 rfl rfl 10 (by decide) (hts (.fieldLink RX11 32 RX11 "text" "[I") (ev_gwm (List.mem_of_getElem? (i := 953) (by decide +kernel)) rfl)) (fun _ h9 => h9) rfl hin rfl (by decide +kernel) rfl rfl (Nat.le_of_ble_eq_true rfl) ew_d_11_117 (fun H locs hP hD hS => ?_)
  have hP : va_P D vwCl [(h0, .inr (11, [.ref q1, .int 0, .ref q2, .ref q3, .ref q4, .ref q5, .int 0, .ref q6, .ref q7, .int 0, .ref q8, .int 0, .int 0, .int 0, .long 0])), (q1, .inl (cI, 2366, .inl (fun _ => 0))), (q2, .inl (cI, 10, .inl (fun j => Int32.ofInt (ev_ps (j : Int))))), (q3, .inl (cI, 6, .inl (fun _ => 0))), (q4, .inl (cI, 10, .inl (fun _ => 0))), (q5, .inl (cZ, 10, .inl (fun _ => 0))), (q6, .inl (cI, 6, .inl (fun _ => 0))), (q7, .inl (cI, 8, .inl (fun _ => 0))), (q8, .inl (cI, 100, .inl (fun _ => 0)))] H := hP
  have hD : va_D A [(h0, .inr (11, [.ref q1, .int 0, .ref q2, .ref q3, .ref q4, .ref q5, .int 0, .ref q6, .ref q7, .int 0, .ref q8, .int 0, .int 0, .int 0, .long 0])), (q1, .inl (cI, 2366, .inl (fun _ => 0))), (q2, .inl (cI, 10, .inl (fun j => Int32.ofInt (ev_ps (j : Int))))), (q3, .inl (cI, 6, .inl (fun _ => 0))), (q4, .inl (cI, 10, .inl (fun _ => 0))), (q5, .inl (cZ, 10, .inl (fun _ => 0))), (q6, .inl (cI, 6, .inl (fun _ => 0))), (q7, .inl (cI, 8, .inl (fun _ => 0))), (q8, .inl (cI, 100, .inl (fun _ => 0)))] := hD
  refine lv_aload_n hx hb ew_d_11_120 rfl (lv_at hl 0 rfl) ?_
  refine va_get (D := D) (ci := 11) (v := .ref q1) (C := RX11) (T := TX11) (N := 15) hx hb hts (ev_in_g 11 (by decide)) hown hK hP 0 rfl rfl 0 (by decide) (hts (.fieldLink RX11 7 RX11 "row" "[I") (ev_gwm (List.mem_of_getElem? (i := 943) (by decide +kernel)) rfl)) (fun _ h9 => h9) rfl ew_d_11_121 ?_
  refine lv_iconst (v := 0) hx hb ew_d_11_124 (by decide) ?_
  refine lv_iconst (v := 0) hx hb ew_d_11_125 (by decide) ?_
  refine va_iast hx hb hK hP hD hS 1 0 rfl rfl (by unfold vp_in; decide) ew_d_11_126 (fun H locs hP hD hS => ?_)
  have hP := ew_congi (g := fun _ => 0) hP (k := 1) rfl (fun j hj => by by_cases h : j = (0 : Int32).toNatClampNeg <;> simp [upd, h])
  have hD := hD.set (p := 1) (e := .inl (cI, 2366, .inl (fun _ => 0))) rfl
  have hP : va_P D vwCl [(h0, .inr (11, [.ref q1, .int 0, .ref q2, .ref q3, .ref q4, .ref q5, .int 0, .ref q6, .ref q7, .int 0, .ref q8, .int 0, .int 0, .int 0, .long 0])), (q1, .inl (cI, 2366, .inl (fun _ => 0))), (q2, .inl (cI, 10, .inl (fun j => Int32.ofInt (ev_ps (j : Int))))), (q3, .inl (cI, 6, .inl (fun _ => 0))), (q4, .inl (cI, 10, .inl (fun _ => 0))), (q5, .inl (cZ, 10, .inl (fun _ => 0))), (q6, .inl (cI, 6, .inl (fun _ => 0))), (q7, .inl (cI, 8, .inl (fun _ => 0))), (q8, .inl (cI, 100, .inl (fun _ => 0)))] H := hP
  have hD : va_D A [(h0, .inr (11, [.ref q1, .int 0, .ref q2, .ref q3, .ref q4, .ref q5, .int 0, .ref q6, .ref q7, .int 0, .ref q8, .int 0, .int 0, .int 0, .long 0])), (q1, .inl (cI, 2366, .inl (fun _ => 0))), (q2, .inl (cI, 10, .inl (fun j => Int32.ofInt (ev_ps (j : Int))))), (q3, .inl (cI, 6, .inl (fun _ => 0))), (q4, .inl (cI, 10, .inl (fun _ => 0))), (q5, .inl (cZ, 10, .inl (fun _ => 0))), (q6, .inl (cI, 6, .inl (fun _ => 0))), (q7, .inl (cI, 8, .inl (fun _ => 0))), (q8, .inl (cI, 100, .inl (fun _ => 0)))] := hD
  exact W.vret hx hb hr (fun t ht hW => ⟨⟨fun k => [h0, q1, q2, q3, q4, q5, q6, q7, q8].getD k 0, rfl, rfl, by rw [ht]; exact hP, hD⟩, hS.F ht⟩) hS.2.2 ew_d_11_127

