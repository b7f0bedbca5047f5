/-! the script's reader -/
theorem lw_c_0 : decode cL_cell 0 = .ok (.iload_n 1, 1) := by decide +kernel
theorem lw_c_1 : decode cL_cell 1 = .ok (.aload_n 0, 1) := by decide +kernel
theorem lw_c_2 : decode cL_cell 2 = .ok (.arraylength, 1) := by decide +kernel
theorem lw_c_3 : decode cL_cell 3 = .ok (.if_icmp .ge 9, 3) := by decide +kernel
theorem lw_c_6 : decode cL_cell 6 = .ok (.aload_n 0, 1) := by decide +kernel
theorem lw_c_7 : decode cL_cell 7 = .ok (.iload_n 1, 1) := by decide +kernel
theorem lw_c_8 : decode cL_cell 8 = .ok (.iaload, 1) := by decide +kernel
theorem lw_c_9 : decode cL_cell 9 = .ok (.goto 15, 3) := by decide +kernel
theorem lw_c_12 : decode cL_cell 12 = .ok (.sipush 7919, 3) := by decide +kernel
theorem lw_c_15 : decode cL_cell 15 = .ok (.iload_n 1, 1) := by decide +kernel
theorem lw_c_16 : decode cL_cell 16 = .ok (.iconst 3, 1) := by decide +kernel
theorem lw_c_17 : decode cL_cell 17 = .ok (.iadd, 1) := by decide +kernel
theorem lw_c_18 : decode cL_cell 18 = .ok (.imul, 1) := by decide +kernel
theorem lw_c_19 : decode cL_cell 19 = .ok (.iload_n 1, 1) := by decide +kernel
theorem lw_c_20 : decode cL_cell 20 = .ok (.bipush 11, 2) := by decide +kernel
theorem lw_c_22 : decode cL_cell 22 = .ok (.iadd, 1) := by decide +kernel
theorem lw_c_23 : decode cL_cell 23 = .ok (.imul, 1) := by decide +kernel
theorem lw_c_24 : decode cL_cell 24 = .ok (.ireturn, 1) := by decide +kernel
def lw_cw (L : Nat) (xs : Nat → Int32) (k : Int) : Int32 := if k < L then xs k.toNat else 7919 * (Int32.ofInt k + 3) * (Int32.ofInt k + 11)
def lw_cv (L : Nat) (xs : Nat → Int32) (k : Int) : Int := (lw_cw L xs k).toInt
def lw_cP (b L : Nat) (xs : Nat → Int32) (i : Int32) : Array Value → State → Prop := va_Pc [.ref b, .int i] (fun U => va_X b L xs U U.heap ∧ b < U.heap.size)
def lw_cQ (L : Nat) (xs : Nat → Int32) (k : Int) : Array Value → State → Outcome → State → Prop := va_Qi (fun (y : Int32) (_ : Unit) => y = lw_cw L xs k) (fun _ _ => True) (fun _ => False)
set_option maxHeartbeats 4000000 in
theorem lw_cell (l : Launch) (b L : Nat) (xs : Nat → Int32) (hL : L ≤ 260) (k : Int) (h0 : 0 ≤ ev_wr k) : Met l yL_cell [.code yL_cell cL_cell 2 (some .int)] { frames := 0, cells := 0, slots := 0, locals := 0 } (lw_cP b L xs (Int32.ofInt k)) (lw_cQ L xs (ev_wr k)) 0 0 (fun _ => False) := by
  refine Met.ofW (cc := cL_cell) (maxL := 2) (ret := some .int) (by decide) rfl ?_
  intro p e s m args below meth c s₁ B hml hv
  obtain ⟨rfl, hX, hbl⟩ := hv
  have hx := B.exec
  have hb := B.bytes
  have hr := B.returns
  have hlocks := B.notSynchronized
  have hS : va_S (fun _ => False) s.heap s.heap [] := va_S.rf
  have hl := lv_entry ([.ref b, .int (Int32.ofInt k)]) (n := 2) (Nat.le_of_ble_eq_true rfl)
  rw [lg_entry_eq]
  generalize (lg_sl ([.ref b, .int (Int32.ofInt k)]) ++ List.replicate (2 - (lg_sl ([.ref b, .int (Int32.ofInt k)])).length) Slot.unset).toArray = ls at hl ⊢
  have hl : lv_has ls 2 [(0, .ref b), (1, .int (Int32.ofInt k))] := hl
  have hLi : (Int32.ofNat L).toInt = L := by
    have e : Int32.ofNat L = Int32.ofInt (L : Int) := rfl
    rw [e, ev_ti]
    unfold ev_wr
    omega
  refine lv_iload_n hx hb lw_c_0 rfl (lv_at hl 1 rfl) ?_
  refine lv_aload_n hx hb lw_c_1 rfl (lv_at hl 0 rfl) ?_
  refine va_slen hx hb hX hbl (fun h => h) hS lw_c_2 ?_
  refine lv_icmp_ge (tgt := 12) hx hb lw_c_3 (by decide) (fun c9 => ?_) (fun c9 => ?_)
  · rw [Int32.le_iff_toInt_le, hLi, ev_ti] at c9
    refine lv_sipush (v := 7919) hx hb lw_c_12 (by decide) ?_
    refine lv_iload_n hx hb lw_c_15 rfl (lv_at hl 1 rfl) ?_
    refine lv_iconst (v := 3) hx hb lw_c_16 (by decide) ?_
    refine lv_iadd hx hb lw_c_17 ?_
    refine lv_imul hx hb lw_c_18 ?_
    refine lv_iload_n hx hb lw_c_19 rfl (lv_at hl 1 rfl) ?_
    refine lv_bipush (v := 11) hx hb lw_c_20 (by decide) ?_
    refine lv_iadd hx hb lw_c_22 ?_
    refine lv_imul hx hb lw_c_23 ?_
    refine W.iret hx hb hr (fun t ht hW => ⟨⟨_, (), rfl, ?_, trivial⟩, hS.F ht⟩) hS.2.2 lw_c_24 hlocks
    unfold lw_cw
    rw [if_neg (by omega), ev_oi_wr]
  · rw [Int32.le_iff_toInt_le, hLi, ev_ti] at c9
    refine lv_aload_n hx hb lw_c_6 rfl (lv_at hl 0 rfl) ?_
    refine lv_iload_n hx hb lw_c_7 rfl (lv_at hl 1 rfl) ?_
    refine va_sld hx hb hX hbl (fun h => h) hS (by rw [vp_in_iff, ev_ti]; omega) lw_c_8 ?_
    refine lv_goto (tgt := 24) hx hb lw_c_9 (by decide) ?_
    refine W.iret hx hb hr (fun t ht hW => ⟨⟨_, (), rfl, ?_, trivial⟩, hS.F ht⟩) hS.2.2 lw_c_24 hlocks
    unfold lw_cw
    rw [if_pos (by omega), ev_clamp]
theorem lw_cgw : Cond.code yL_cell cL_cell 2 (some .int) ∈ ev_gw := ev_gwm (List.mem_of_getElem? (i := 863) (by decide +kernel)) rfl
theorem lw_csw : Cond.static yL_cell ∈ ev_gw := ev_gwm (List.mem_of_getElem? (i := 862) (by decide +kernel)) rfl
theorem lw_clw : Cond.methodLink R_law 110 yL_cell ∈ ev_gw := ev_gwm (List.mem_of_getElem? (i := 861) (by decide +kernel)) rfl
theorem lw_ciw : Cond.initialized R_law ∈ ev_gw := ev_gwm (List.mem_of_getElem? (i := 62) (by decide +kernel)) rfl
theorem lw_cgood : GoodIn ev_gw [Cond.code yL_cell cL_cell 2 (some .int)] := fun w hw => by
  rcases List.mem_cons.mp hw with rfl | hw
  · exact ⟨lw_cgw, ev_ggw lw_cgw⟩
  · cases hw
theorem lw_110 : (ev_ms.getD 113 []).all (fun b => b.all (fun op => decide (op.1 = 38 → op.2.1 = 110))) = true := by decide +kernel
theorem lw_110b (t : Nat) : ∀ op ∈ ev_blk 113 t, op.1 = 38 → op.2.1 = 110 := by
  intro op hop
  unfold ev_blk at hop
  rw [List.getD_eq_getElem?_getD] at hop
  rcases hb : (ev_ms.getD 113 [])[t]? with _ | b
  · rw [hb] at hop
    simp at hop
  · rw [hb] at hop
    simp only [Option.getD_some] at hop
    have h2 := List.all_eq_true.mp lw_110 b (List.mem_of_getElem? hb)
    exact of_decide_eq_true (List.all_eq_true.mp h2 op hop)
section LWS
variable {p : Program} {l : Launch} {e : Env} {s : State} {m : MethodId} {b : Nat} {below : List Frame} {meth : Method} {c : Code} {D : va_G} {cI cZ cS : ClassId} {ad : Int → Nat} {A : Nat → Prop} {Q : State → Prop}
set_option maxHeartbeats 4000000 in
theorem lw_op38 {L : Nat} {xs : Nat → Int32} (hL : L ≤ 260) (F : ev_F p s m #[Value.ref b] meth c D cI cZ cS ad A 113) (hX : va_X b L xs s s.heap) (hbl : b < s.heap.size) (hbA : ¬ A b) (had : ad 200 = b) {σ : ev_M} (hσ : σ 200 = lw_cv L xs) {op : ev_O} {pc : Nat} {Lc : ev_L} {st : List ev_V} {X : ev_X} (hok : ev_ok1 113 pc op = true) (h110 : op.1 = 38 → op.2.1 = 110) (hx : ev_x op Lc st σ = some X) (h38 : op.1 = 38) : ev_G p l e s m #[Value.ref b] below meth c D cI cZ cS ad A Q 113 pc (ev_in op).2 Lc st σ X := by
  obtain ⟨k, a, b', z, w⟩ := op
  dsimp only at h38
  subst h38
  have h110 := h110 rfl
  dsimp only at h110
  subst h110
  obtain ⟨hd, -⟩ := ev_ok1_d hok (show (38 : Nat) ≠ 53 by decide)
  simp only [ev_x] at hx
  split at hx
  · next kk i st =>
    split at hx
    · next hc =>
      cases hx
      obtain ⟨rfl, hw, h0⟩ := hc
      intro kk2 H locs ls hP hS hl
      have hts := F.2.2.2.2.2.1
      refine va_calli (va_runS (As := [.ref b, .int (Int32.ofInt kk)]) (rest := st.map (ev_rv ad)) (nL := 15) (own := R_law) ⟨F.1, F.2.1, F.2.2.2.1, F.2.2.2.2.1, hts⟩ (lw_cell l b L xs hL kk h0) ⟨callB_of 2 hts lw_cgood rfl rfl rfl (hts _ lw_ciw) (hts _ lw_clw) (by decide +kernel) ⟨Nat.le_of_ble_eq_true rfl, Nat.le_of_ble_eq_true rfl⟩, hts _ lw_csw⟩ ⟨fun a U g mk z => by obtain ⟨z0, z1, z2⟩ := z; exact ⟨z0, va_X.moved (u := U) (U := U.calling g mk a) (Vm.Alike.refl U.vm) z1, z2⟩, fun U hU hW => ⟨rfl, by rw [hU]; exact va_X.moved hW.alike (hX.kept (hS.2.1 b hbl hbA)), by rw [hU]; exact Nat.lt_of_lt_of_le hbl hS.1⟩⟩ rfl rfl hl.2.1 (by rw [← had]; rfl) (by show 2 * 0 + _ ≤ 8; rw [ev_w_cat]; omega) hd ⟨ev_c0_le 113, ev_c1_le 113⟩) hS (fun q _ h => h.elim) (fun q h => h.elim) (fun r u t H1 locs1 ht hvm hpost hB hz hk hS1 => ?_)
      have hP1 : va_P D vwCl (ev_wd cI cZ cS ad σ) H1 := fun k q hq => (hP k q hq).kept (hk q.1 (hP k q hq).lt (fun h => h))
      have hr : (Value.int r) = ev_rv ad (.inl (σ 200 (ev_wr kk))) := by
        rw [hpost, hσ]
        show _ = Value.int (Int32.ofInt (lw_cv L xs (ev_wr kk)))
        unfold lw_cv
        rw [ev_oi_ti]
      rw [hr]
      exact kk2 H1 locs1 ls hP1 hS1 hl
    · cases hx
  · cases hx
theorem lw_bc : ev_bc 113 = code := rfl
theorem lw_bret : ev_ret 113 = ret := rfl
set_option maxHeartbeats 4000000 in
/-- the law's end -/
theorem lw_end (F : ev_F p s m #[Value.ref b] meth c D cI cZ cS ad A 113) (hA : ∀ q, A q → s.heap.size ≤ q) {op : ev_O} {pc : Nat} {Lc : ev_L} {σ : ev_M} (hok : ev_ok1 113 pc op = true) (h56 : op.1 = 56) : ev_W p l e s m #[Value.ref b] below meth c D cI cZ cS ad A (lw_Z below #[Value.ref b] s) 113 pc Lc [.inl 1] σ := by
  obtain ⟨k, a, b', z, w⟩ := op
  dsimp only at h56
  subst h56
  obtain ⟨hd, -⟩ := ev_ok1_d hok (show (56 : Nat) ≠ 53 by decide)
  intro H locs ls hP hS hl
  have hd2 : decode code pc = .ok (.ireturn, 1) := hd
  refine va_forget (fun q hq => hA _ (hS.2.2 q hq)) ?_
  refine W.widen (k := 600000) (n := 7302250) (Nat.le_of_ble_eq_true rfl) (Nat.le_of_ble_eq_true rfl) ?_
  exact lw_ret F.1 F.2.1 F.2.2.1 F.2.2.2.2.2.2.2.2.1 hd2
set_option maxHeartbeats 4000000 in
/-- THE LAW: what the pure machine says of it holds of the real one -/
theorem lw_law {L : Nat} {xs : Nat → Int32} (hL : L ≤ 260) (F : ev_F p s m #[Value.ref b] meth c D cI cZ cS ad A 113) (hX : va_X b L xs s s.heap) (hbl : b < s.heap.size) (hbA : ¬ A b) (had : ad 200 = b) (hA : ∀ q, A q → s.heap.size ≤ q) : ∀ (f t : Nat) (Lc : ev_L) (st : List ev_V) (σ : ev_M) (r : ev_R), σ 200 = lw_cv L xs → ev_b f 113 t Lc st σ = some r → r.1 = some (.inl 1) → ev_W p l e s m #[Value.ref b] below meth c D cI cZ cS ad A (lw_Z below #[Value.ref b] s) 113 (ev_pcs 113 t) Lc st σ := by
  have hD := F.2.2.2.2.2.2.2.2.2
  intro f
  induction f with
  | zero =>
    intro t Lc st σ r hσ h hr1
    simp [ev_b] at h
  | succ f IH =>
    intro t Lc st σ r hσ h hr1
    unfold ev_b at h
    have inner : ∀ (ops : List ev_O) (pc : Nat) (Lc : ev_L) (st : List ev_V) (σ : ev_M), σ 200 = lw_cv L xs → (∀ op ∈ ops, gh_ok op = true ∧ (op.1 = 38 → op.2.1 = 110)) → ev_okb 113 ops pc = true → ev_o (ev_go (ev_b f)) (fun t L st σ => ev_b f 113 t L st σ) ops Lc st σ = some r → ev_W p l e s m #[Value.ref b] below meth c D cI cZ cS ad A (lw_Z below #[Value.ref b] s) 113 pc Lc st σ := by
      intro ops
      induction ops with
      | nil =>
        intro pc Lc st σ _ _ _ h
        simp [ev_o] at h
      | cons op ops ih =>
        intro pc Lc st σ hσ hop hok h
        have hok2 := (Bool.and_eq_true _ _).mp (show (ev_ok1 113 pc op && ev_okb 113 ops (pc + (ev_in op).2)) = true from hok)
        have ho := hop op List.mem_cons_self
        have hop2 : ∀ o ∈ ops, gh_ok o = true ∧ (o.1 = 38 → o.2.1 = 110) := fun o h => hop o (List.mem_cons_of_mem _ h)
        unfold ev_o at h
        rcases hx : ev_x op Lc st σ with _ | ⟨L1, st1, σ1⟩ | ⟨t, L1, st1, σ1⟩ | q | ⟨q, as, rest, L1, σ1⟩ <;> rw [hx] at h <;> dsimp only at h
        · cases h
        · have g := ev_x_sound (e := e) (l := l) (below := below) (Q := lw_Z below #[Value.ref b] s) F (by omega) hok2.1 hx (lw_op38 hL F hX hbl hbA had hσ hok2.1 ho.2 hx)
          have hs : σ1 200 = σ 200 := fr_x gh_cls.2 ho.1 hx
          exact g (ih _ _ _ _ (hs.trans hσ) hop2 hok2.2 h)
        · have g := ev_x_sound (e := e) (l := l) (below := below) (Q := lw_Z below #[Value.ref b] s) F (by omega) hok2.1 hx (lw_op38 hL F hX hbl hbA had hσ hok2.1 ho.2 hx)
          have hs : σ1 200 = σ 200 := fr_x gh_cls.2 ho.1 hx
          exact g (IH t L1 st1 σ1 r (hs.trans hσ) h hr1)
        · cases h
          obtain ⟨h56, rfl⟩ := rx hx hr1
          exact lw_end F hA hok2.1 h56
        · have g := ev_x_sound (e := e) (l := l) (below := below) (Q := lw_Z below #[Value.ref b] s) F (by omega) hok2.1 hx (lw_op38 hL F hX hbl hbA had hσ hok2.1 ho.2 hx)
          have hs : σ1 200 = σ 200 := fr_x gh_cls.2 ho.1 hx
          rcases hc : ev_go (ev_b f) q as σ1 with _ | ⟨v, σ2⟩ <;> rw [hc] at h <;> dsimp only at h
          · cases h
          · have hM : EM q as σ1 = some (v, σ2) := EM_b.mpr ⟨f, hc⟩
            have hs2 : σ2 200 = σ1 200 := EM_fr gh_cls.2 hM
            exact g.2 (v, σ2) (ev_met hD ev_chks g.1 hM) (ih _ _ _ _ ((hs2.trans hs).trans hσ) hop2 hok2.2 h)
    have hck := ev_chks 113 (by omega)
    unfold ev_chk at hck
    rcases Nat.lt_or_ge t (ev_ms.getD 113 []).length with ht | ht
    · exact inner _ _ _ _ _ hσ (fun op ho => ⟨gh_blk 113 t op ho, lw_110b t op ho⟩) (List.all_eq_true.mp hck t (List.mem_range.mpr ht)) h
    · exfalso
      have : ev_blk 113 t = [] := by
        unfold ev_blk
        rw [List.getD_eq_getElem?_getD (l := ev_ms.getD 113 []), List.getElem?_eq_none ht]
        rfl
      rw [this] at h
      simp [ev_o] at h
end LWS
