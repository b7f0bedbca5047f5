/-! the pure machine speaks of the real one -/
theorem ev_pcs0 : ∀ j, j < 113 → ev_pcs j 0 = 0 := by decide +kernel
theorem ev_met_of {l : Launch} {D : va_G} {cI cZ cS : ClassId} {ad : Int → Nat} {A : Nat → Prop} (hD : ∀ σ, va_D A (ev_wd cI cZ cS ad σ)) {f q : Nat} (hq : q < 113)
    (IH : ∀ (p : Program) (e : Env) (s : State) (m : MethodId) (args : Array Value) (below : List Frame) (meth : Method) (c : Code), ev_F p s m args meth c D cI cZ cS ad A q → ∀ (t : Nat) (L : ev_L) (st : List ev_V) (σ : ev_M) (r : ev_R), ev_b f q t L st σ = some r → ev_W p l e s m args below meth c D cI cZ cS ad A (MQ below (ev_Qc D cI cZ cS ad A r) args s 0 0 A) q (ev_pcs q t) L st σ)
    {as : List ev_V} {σ : ev_M} {r : ev_R} (h : ev_go (ev_b f) q as σ = some r) : ev_Mt l D cI cZ cS ad A q as σ r := by
  unfold ev_go at h
  split at h
  · next hle =>
    obtain ⟨k1, k2, k3, k4, k5, k6⟩ := ev_mok_spec hq
    refine Met.ofW (cc := ev_bc q) (maxL := ev_mxl q) (ret := ev_ret q) k3 rfl ?_
    intro p e s m args below meth c s₁ B hml hv
    obtain ⟨rfl, hP, hK, hN⟩ := hv
    have hts := atoms_spec (ws := ev_wo q) B.pre
    have hown : s.vm.findClass (ev_cn (ev_own q)) = some m.cls := by
      rw [← k2]
      exact findClass_of_methodNamed B.named
    have F : ev_F p s m ((as.map (ev_rv ad)).toArray) meth c D cI cZ cS ad A q := ⟨B.exec, B.bytes, B.returns, hml, hown, fun w hw => hts w (List.mem_cons_of_mem _ hw), hK, hN, B.notSynchronized, hD⟩
    have hW := IH p e s m ((as.map (ev_rv ad)).toArray) below meth c F 0 (ev_ent q as) [] σ r h s.heap [] _ hP va_S.rf (ev_lh_entry rfl hle)
    rw [ev_pcs0 q hq] at hW
    rw [(ev_c00 hq).1, (ev_c00 hq).2] at hW
    rw [lg_entry_eq]
    exact hW
  · cases h
theorem ev_main {l : Launch} {D : va_G} {cI cZ cS : ClassId} {ad : Int → Nat} {A : Nat → Prop} (hD : ∀ σ, va_D A (ev_wd cI cZ cS ad σ)) (hchk : ∀ j, j < 114 → ev_chk j = true) : ∀ (f j : Nat), j < 113 → ∀ (p : Program) (e : Env) (s : State) (m : MethodId) (args : Array Value) (below : List Frame) (meth : Method) (c : Code), ev_F p s m args meth c D cI cZ cS ad A j → ∀ (t : Nat) (L : ev_L) (st : List ev_V) (σ : ev_M) (r : ev_R), ev_b f j t L st σ = some r → ev_W p l e s m args below meth c D cI cZ cS ad A (MQ below (ev_Qc D cI cZ cS ad A r) args s 0 0 A) j (ev_pcs j t) L st σ := by
  intro f
  induction f with
  | zero =>
    intro j hj p e s m args below meth c F t L st σ r h
    simp [ev_b] at h
  | succ f IH =>
    intro j hj p e s m args below meth c F t L st σ r h
    unfold ev_b at h
    have inner : ∀ (ops : List ev_O) (pc : Nat) (L : ev_L) (st : List ev_V) (σ : ev_M), ev_okb j ops pc = true → ev_o (ev_go (ev_b f)) (fun t L st σ => ev_b f j t L st σ) ops L st σ = some r → ev_W p l e s m args below meth c D cI cZ cS ad A (MQ below (ev_Qc D cI cZ cS ad A r) args s 0 0 A) j pc L st σ := by
      intro ops
      induction ops with
      | nil =>
        intro pc L st σ _ h
        simp [ev_o] at h
      | cons op ops ih =>
        intro pc L st σ hok h
        have hok2 := (Bool.and_eq_true _ _).mp (show (ev_ok1 j pc op && ev_okb j ops (pc + (ev_in op).2)) = true from hok)
        unfold ev_o at h
        rcases hx : ev_x op L st σ with _ | ⟨L1, st1, σ1⟩ | ⟨t, L1, st1, σ1⟩ | q | ⟨q, as, rest, L1, σ1⟩ <;> rw [hx] at h <;> dsimp only at h
        · cases h
        · have g := ev_x_sound (e := e) (l := l) (below := below) (Q := MQ below (ev_Qc D cI cZ cS ad A r) args s 0 0 A) F (by omega) hok2.1 hx (fun h8 => absurd (ev_ok38 hok2.1 h8) (by omega))
          exact g (ih _ _ _ _ hok2.2 h)
        · have g := ev_x_sound (e := e) (l := l) (below := below) (Q := MQ below (ev_Qc D cI cZ cS ad A r) args s 0 0 A) F (by omega) hok2.1 hx (fun h8 => absurd (ev_ok38 hok2.1 h8) (by omega))
          exact g (IH j hj p e s m args below meth c F t L1 st1 σ1 r h)
        · have g := ev_x_sound (e := e) (l := l) (below := below) (Q := MQ below (ev_Qc D cI cZ cS ad A r) args s 0 0 A) F (by omega) hok2.1 hx (fun h8 => absurd (ev_ok38 hok2.1 h8) (by omega))
          exact g (by rw [Option.some.inj h]) (ev_c00 hj)
        · have g := ev_x_sound (e := e) (l := l) (below := below) (Q := MQ below (ev_Qc D cI cZ cS ad A r) args s 0 0 A) F (by omega) hok2.1 hx (fun h8 => absurd (ev_ok38 hok2.1 h8) (by omega))
          rcases hc : ev_go (ev_b f) q as σ1 with _ | ⟨v, σ2⟩ <;> rw [hc] at h <;> dsimp only at h
          · cases h
          · exact g.2 (v, σ2) (ev_met_of hD g.1 (fun p e s m args below meth c F t L st σ r h => IH q g.1 p e s m args below meth c F t L st σ r h) hc) (ih _ _ _ _ hok2.2 h)
    have hck := hchk j (by omega)
    unfold ev_chk at hck
    rcases Nat.lt_or_ge t (ev_ms.getD j []).length with ht | ht
    · exact inner _ _ _ _ _ (List.all_eq_true.mp hck t (List.mem_range.mpr ht)) h
    · exfalso
      have : ev_blk j t = [] := by
        unfold ev_blk
        rw [List.getD_eq_getElem?_getD (l := ev_ms.getD j []), List.getElem?_eq_none ht]
        rfl
      rw [this] at h
      simp [ev_o] at h
/-- a call of a method, by what the pure machine says -/
theorem ev_met {l : Launch} {D : va_G} {cI cZ cS : ClassId} {ad : Int → Nat} {A : Nat → Prop} (hD : ∀ σ, va_D A (ev_wd cI cZ cS ad σ)) (hchk : ∀ j, j < 114 → ev_chk j = true) {q : Nat} (hq : q < 113) {as : List ev_V} {σ : ev_M} {r : ev_R} (h : EM q as σ = some r) : ev_Mt l D cI cZ cS ad A q as σ r := by
  obtain ⟨f, hf⟩ : ∃ f, ev_go (ev_b f) q as σ = some r := by
    unfold EM ev_go at h
    split at h
    · next hle =>
      obtain ⟨f, hf⟩ := EB_iff.mp h
      exact ⟨f, by unfold ev_go; rw [if_pos hle]; exact hf⟩
    · cases h
  exact ev_met_of hD hq (fun p e s m args below meth c F t L st σ r h => ev_main hD hchk f q hq p e s m args below meth c F t L st σ r h) hf
