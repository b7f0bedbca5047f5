/-! the law's loop -/
def lw_tgl : List Nat := [188, 211, 254, 277, 330, 373, 416, 465, 488, 521, 554, 597, 620, 643, 666, 699, 742, 765, 808, 861, 894, 927, 990, 1033, 1046, 1079, 1112, 1125, 1148, 1161, 1174, 1197, 1210, 1223, 1236]
def lw_off : Array Int := #[155, 178, 221, 244, 297, 340, 383, 432, 455, 488, 521, 564, 587, 610, 633, 666, 709, 732, 775, 828, 861, 894, 957, 1000, 1013, 1046, 1079, 1092, 1115, 1128, 1141, 1164, 1177, 1190, 1203]
def lw_tg (k : Nat) : Nat := lw_tgl.getD k 0
theorem lw_offs : ∀ k, k < 35 → lw_off[k]? = some ((lw_tg k : Int) - 33) := by decide +kernel
theorem lw_d18 : decode code 18 = .ok (.iload_n 3, 1) := by decide +kernel
theorem lw_d19 : decode code 19 = .ok (.aload_n 0, 1) := by decide +kernel
theorem lw_d20 : decode code 20 = .ok (.arraylength, 1) := by decide +kernel
theorem lw_d21 : decode code 21 = .ok (.bipush 6, 2) := by decide +kernel
theorem lw_d23 : decode code 23 = .ok (.isub, 1) := by decide +kernel
theorem lw_d24 : decode code 24 = .ok (.if_icmp .gt 1232, 3) := by decide +kernel
theorem lw_d27 : decode code 27 = .ok (.aload_n 0, 1) := by decide +kernel
theorem lw_d28 : decode code 28 = .ok (.iload_n 3, 1) := by decide +kernel
theorem lw_d29 : decode code 29 = .ok (.iaload, 1) := by decide +kernel
theorem lw_d30 : decode code 30 = .ok (.bipush 63, 2) := by decide +kernel
theorem lw_d32 : decode code 32 = .ok (.iand, 1) := by decide +kernel
theorem lw_d33 : decode code 33 = .ok (.tableswitch 1217 0 34 lw_off, 155) := by decide +kernel
theorem lw_d1250 : decode code 1250 = .ok (.iinc 3 6, 3) := by decide +kernel
theorem lw_d1253 : decode code 1253 = .ok (.goto (-1235), 3) := by decide +kernel
theorem lw_d1256 : decode code 1256 = .ok (.iconst 1, 1) := by decide +kernel
theorem lw_d1257 : decode code 1257 = .ok (.ireturn, 1) := by decide +kernel
section LWL
variable {p : Program} {l : Launch} {e : Env} {s : State} {m : MethodId} {below : List Frame} {meth : Method} {c : Code} {D : va_G} {cI cZ cS : ClassId} {ad : Int → Nat} {b L : Nat} {xs : Nat → Int32} {σ : ev_M}
theorem lw_cs (F : lw_F p s m meth c D cI cZ cS ad b L xs) {i : Nat} (hi : i + 6 ≤ L) (hJ : st_J σ) (kk : ∀ σ1, st_J σ1 → lw_S p l e s m below meth c D cI cZ cS ad b 1250 [] (nI i) σ1) : ∀ k, k < 35 → lw_S p l e s m below meth c D cI cZ cS ad b (lw_tg k) [] (nI i) σ := by
  intro k hk
  match k, hk with
  | 0, _ => exact lw_c_0 F hi hJ kk
  | 1, _ => exact lw_c_1 F hi hJ kk
  | 2, _ => exact lw_c_2 F hi hJ kk
  | 3, _ => exact lw_c_3 F hi hJ kk
  | 4, _ => exact lw_c_4 F hi hJ kk
  | 5, _ => exact lw_c_5 F hi hJ kk
  | 6, _ => exact lw_c_6 F hi hJ kk
  | 7, _ => exact lw_c_7 F hi hJ kk
  | 8, _ => exact lw_c_8 F hi hJ kk
  | 9, _ => exact lw_c_9 F hi hJ kk
  | 10, _ => exact lw_c_10 F hi hJ kk
  | 11, _ => exact lw_c_11 F hi hJ kk
  | 12, _ => exact lw_c_12 F hi hJ kk
  | 13, _ => exact lw_c_13 F hi hJ kk
  | 14, _ => exact lw_c_14 F hi hJ kk
  | 15, _ => exact lw_c_15 F hi hJ kk
  | 16, _ => exact lw_c_16 F hi hJ kk
  | 17, _ => exact lw_c_17 F hi hJ kk
  | 18, _ => exact lw_c_18 F hi hJ kk
  | 19, _ => exact lw_c_19 F hi hJ kk
  | 20, _ => exact lw_c_20 F hi hJ kk
  | 21, _ => exact lw_c_21 F hi hJ kk
  | 22, _ => exact lw_c_22 F hi hJ kk
  | 23, _ => exact lw_c_23 F hi hJ kk
  | 24, _ => exact lw_c_24 F hi hJ kk
  | 25, _ => exact lw_c_25 F hi hJ kk
  | 26, _ => exact lw_c_26 F hi hJ kk
  | 27, _ => exact lw_c_27 F hi hJ kk
  | 28, _ => exact lw_c_28 F hi hJ kk
  | 29, _ => exact lw_c_29 F hi hJ kk
  | 30, _ => exact lw_c_30 F hi hJ kk
  | 31, _ => exact lw_c_31 F hi hJ kk
  | 32, _ => exact lw_c_32 F hi hJ kk
  | 33, _ => exact lw_c_33 F hi hJ kk
  | 34, _ => exact lw_c_34 F hi hJ kk
  | k + 35, hk => exact absurd hk (by omega)
theorem lw_room {L i : Nat} (hL : L ≤ 3072) (hi : i ≤ L + 6) (h : ¬ Int32.ofNat L - 6 < nI i) : i + 6 ≤ L := by
  rcases Nat.lt_or_ge L (i + 6) with q | q
  · exfalso
    apply h
    have e1 : Int32.ofNat L - 6 = Int32.ofInt ((L : Int) - 6) := (ev_oi_sub (L : Int) 6).symm
    have e2 : nI i = Int32.ofInt (i : Int) := rfl
    rw [e1, e2]
    refine ev_oi_lt.mpr ?_
    unfold ev_wr
    omega
  · exact q
theorem lw_loop (F : lw_F p s m meth c D cI cZ cS ad b L xs) : ∀ (n i : Nat) (σ : ev_M), L + 7 ≤ i + n → i ≤ L + 6 → st_J σ → lw_S p l e s m below meth c D cI cZ cS ad b 18 [] (nI i) σ := by
  obtain ⟨⟨hx, hb, hr, hml, hown, hts, hX, hbl, hlocks, hgv⟩, hK, hN, hL, hD⟩ := id F
  have hbA : ¬ (fun q : Nat => s.heap.size ≤ q) b := Nat.not_le.mpr hbl
  intro n
  induction n with
  | zero =>
    intro i σ h1 h2
    exact absurd h1 (by omega)
  | succ n ih =>
    intro i σ h1 h2 hJ H locs ls hP hS hl
    refine lv_iload_n hx hb lw_d18 rfl (lv_at hl 3 rfl) ?_
    refine lv_aload_n hx hb lw_d19 rfl (lv_at hl 0 rfl) ?_
    refine va_slen hx hb hX hbl hbA hS lw_d20 ?_
    refine lv_bipush (v := 6) hx hb lw_d21 (by decide) ?_
    refine lv_isub hx hb lw_d23 ?_
    refine lv_icmp_gt (tgt := 1256) hx hb lw_d24 (by decide) (fun _ => ?_) (fun h => ?_)
    · refine lv_iconst (v := 1) hx hb lw_d1256 (by decide) ?_
      refine va_forget (fun q hq => hS.2.2 q hq) ?_
      refine W.widen (k := 600000) (n := 7302250) (by decide) (by decide) ?_
      exact lw_ret hx hb hr hlocks lw_d1257
    · have hi6 : i + 6 ≤ L := lw_room hL h2 h
      have key : ∀ σ1, st_J σ1 → lw_S p l e s m below meth c D cI cZ cS ad b 1250 [] (nI i) σ1 := fun σ1 hJ1 H locs ls hP hS hl => by
        refine lv_iinc (v := nI (i + 6)) (lv' := [(3, .int (nI (i + 6))), (0, .ref b), (1, .ref (ad 161)), (2, .ref (ad 182))]) hx hb lw_d1250 hl (k := 3) rfl (nI_add i 6) (by decide) rfl (fun ls hl => ?_)
        refine lv_goto (tgt := 18) hx hb lw_d1253 (by decide) ?_
        exact ih (i + 6) σ1 (by omega) (by omega) hJ1 H locs ls hP hS (lv_sub hl [1, 2, 3, 0] rfl)
      refine lv_aload_n hx hb lw_d27 rfl (lv_at hl 0 rfl) ?_
      refine lv_iload_n hx hb lw_d28 rfl (lv_at hl 3 rfl) ?_
      refine va_sld hx hb hX hbl hbA hS (vp_in_nI (by omega : i < L) (by omega)) lw_d29 ?_
      refine lv_bipush (v := 63) hx hb lw_d30 (by decide) ?_
      refine lv_iand hx hb lw_d32 ?_
      generalize xs (nI i).toNatClampNeg &&& 63 = w
      by_cases hin : 0 ≤ w.toInt ∧ w.toInt ≤ 34
      · have hk : w.toInt.toNat < 35 := by omega
        refine lv_tableIn (off := (lw_tg w.toInt.toNat : Int) - 33) (tgt := lw_tg w.toInt.toNat) hx hb lw_d33 (by omega) (by omega) ?_ (by omega) (lw_cs F hi6 hJ key _ hk H locs ls hP hS hl)
        rw [Int.sub_zero]
        exact lw_offs _ hk
      · exact lv_tableOut (tgt := 1250) hx hb lw_d33 (by omega) (by decide) (key σ hJ H locs ls hP hS hl)
end LWL
