/-! switches, calls, and all instructions together -/
def ev_swd : List (Int × Int × List Int × List Nat × Nat) := [(0, 66, [47, 49, 49, 51, 54, 57, 60, 63], [1, 2, 2, 3, 4, 5, 6, 7], 8), (0, 169, [59, 70, 81, 92, 103, 114, 122, 130, 138, 146, 154], [1, 2, 3, 4, 5, 6, 7, 8, 9, 10, 11], 12), (0, 82, [30, 43, 56, 69], [2, 3, 4, 5], 6), (0, 180, [50, 63, 76, 92, 105, 118, 130, 147, 168], [2, 3, 4, 5, 6, 7, 8, 11, 14], 15), (0, 134, [38, 52, 66, 80, 94, 120], [2, 3, 4, 5, 6, 7], 8), (0, 90, [30, 43, 56, 69], [2, 3, 4, 5], 6), (0, 80, [34, 47, 71], [3, 4, 5], 6), (0, 375, [82, 94, 127, 145, 145, 177, 177, 200, 216, 236, 236, 250, 250, 256, 314, 314, 332], [1, 2, 3, 4, 4, 5, 5, 8, 9, 12, 12, 13, 13, 14, 15, 15, 16], 19)]
def ev_swc (j pc k : Nat) : Bool := match ev_swd.getD k (0, 0, [], [], 0) with
  | (lo, d, offs, ts, dt) => decide (ev_swi k = (.tableswitch d lo (lo + ts.length - 1) offs.toArray, (ev_swi k).2)) && (decide (ev_sw k = (ev_mk lo ts, dt)) && (decide ((pc : Int) + d = (ev_pcs j dt : Int)) && decide (offs.map (fun o => (pc : Int) + o) = ts.map (fun t => (ev_pcs j t : Int)))))
def ev_zip (vs : List Int) (os : List Int) : List (Int × Int) := vs.zip os
def ev_lwc (j pc k : Nat) : Bool := match ev_swd.getD k (0, 0, [], [], 0) with
  | (_, d, offs, ts, dt) => decide (ev_swi k = (.lookupswitch d (((ev_sw k).1.map (fun q => q.1)).zip offs).toArray, (ev_swi k).2)) && (decide ((ev_sw k).1 = ((ev_sw k).1.map (fun q => q.1)).zip ts ∧ (ev_sw k).2 = dt) && (decide ((pc : Int) + d = (ev_pcs j dt : Int)) && (decide (offs.map (fun o => (pc : Int) + o) = ts.map (fun t => (ev_pcs j t : Int))) && decide (((((ev_sw k).1.map (fun q => q.1)).zip offs).zip ((((ev_sw k).1.map (fun q => q.1)).zip offs).drop 1)).all (fun (a, next) => a.1 < next.1) = true))))
theorem ev_lw (v d : Int) (dt : Nat) (j pc : Nat) (hd : (pc : Int) + d = (ev_pcs j dt : Int)) : ∀ (vs offs : List Int) (ts : List Nat), offs.map (fun o => (pc : Int) + o) = ts.map (fun t => (ev_pcs j t : Int)) → (pc : Int) + Op.lookupswitch.offset (vs.zip offs) d v = (ev_pcs j (ev_sel v (vs.zip ts) dt) : Int) := by
  intro vs
  induction vs with
  | nil => intro offs ts _; simpa [Op.lookupswitch.offset, ev_sel] using hd
  | cons a vs ih =>
    intro offs ts h
    cases offs with
    | nil =>
      cases ts with
      | nil => simpa [Op.lookupswitch.offset, ev_sel] using hd
      | cons t ts => simp at h
    | cons o offs =>
      cases ts with
      | nil => simp at h
      | cons t ts =>
        simp only [List.map_cons, List.cons.injEq] at h
        simp only [List.zip_cons_cons, Op.lookupswitch.offset_cons, ev_sel]
        by_cases hv : v = a
        · rw [if_pos hv, if_pos hv.symm]
          exact h.1
        · rw [if_neg hv, if_neg (fun q => hv q.symm)]
          exact ih offs ts h.2
section SNH
variable {p : Program} {l : Launch} {e : Env} {s : State} {m : MethodId} {args : Array Value} {below : List Frame} {meth : Method} {c : Code} {D : va_G} {cI cZ cS : ClassId} {ad : Int → Nat} {A : Nat → Prop} {Q : State → Prop} {j pc : Nat} {L : ev_L} {st : List ev_V} {σ : ev_M}
theorem sd_switch (F : ev_F p s m args meth c D cI cZ cS ad A j) {x : Int} {k : Nat} (hd : decode (ev_bc j) pc = .ok (ev_swi k)) (hc : ev_swc j pc k = true)
    (kk : ev_W p l e s m args below meth c D cI cZ cS ad A Q j (ev_pcs j (ev_sel (ev_wr x) (ev_sw k).1 (ev_sw k).2)) L st σ) : ev_W p l e s m args below meth c D cI cZ cS ad A Q j pc L (.inl x :: st) σ := by
  intro H locs ls hP hS hl
  unfold ev_swc at hc
  rcases hq : ev_swd.getD k (0, 0, [], [], 0) with ⟨lo, d, offs, ts, dt⟩
  rw [hq] at hc
  simp only [Bool.and_eq_true, decide_eq_true_eq] at hc
  obtain ⟨h1, h2, h3, h4⟩ := hc
  rw [h2] at kk
  dsimp only at kk
  rw [ev_sel_mk] at kk
  rw [h1] at hd
  have hlen : offs.length = ts.length := by simpa using congrArg List.length h4
  by_cases hin : lo ≤ ev_wr x ∧ ev_wr x < lo + ts.length
  · rw [if_pos hin] at kk
    have hlt : (ev_wr x - lo).toNat < offs.length := by omega
    have hz : (pc : Int) + offs[(ev_wr x - lo).toNat] = (ev_pcs j (ts.getD (ev_wr x - lo).toNat dt) : Int) := by
      have h5 : (offs.map (fun o => (pc : Int) + o))[(ev_wr x - lo).toNat]? = (ts.map (fun t => (ev_pcs j t : Int)))[(ev_wr x - lo).toNat]? := by rw [h4]
      rw [List.getElem?_map, List.getElem?_map, List.getElem?_eq_getElem hlt, List.getElem?_eq_getElem (by omega : (ev_wr x - lo).toNat < ts.length)] at h5
      simp only [Option.map_some, Option.some.injEq] at h5
      rw [List.getD_eq_getElem?_getD, List.getElem?_eq_getElem (by omega : (ev_wr x - lo).toNat < ts.length)]
      exact h5
    refine lv_tableIn F.1 F.2.1 (off := offs[(ev_wr x - lo).toNat]) hd (by rw [ev_ti]; omega) (by rw [ev_ti]; omega) ?_ hz (kk H locs ls hP hS hl)
    rw [ev_ti]
    simp [hlt]
  · rw [if_neg hin] at kk
    exact lv_tableOut F.1 F.2.1 hd (by rw [ev_ti]; omega) h3 (kk H locs ls hP hS hl)
theorem sd_lookup (F : ev_F p s m args meth c D cI cZ cS ad A j) {x : Int} {k : Nat} (hd : decode (ev_bc j) pc = .ok (ev_swi k)) (hc : ev_lwc j pc k = true)
    (kk : ev_W p l e s m args below meth c D cI cZ cS ad A Q j (ev_pcs j (ev_sel (ev_wr x) (ev_sw k).1 (ev_sw k).2)) L st σ) : ev_W p l e s m args below meth c D cI cZ cS ad A Q j pc L (.inl x :: st) σ := by
  intro H locs ls hP hS hl
  unfold ev_lwc at hc
  rcases hq : ev_swd.getD k (0, 0, [], [], 0) with ⟨lo, d, offs, ts, dt⟩
  rw [hq] at hc
  simp only [Bool.and_eq_true, decide_eq_true_eq] at hc
  obtain ⟨h1, h2, h3, h4, h5⟩ := hc
  rw [h1] at hd
  refine lv_lookup F.1 F.2.1 hd (by simpa using h5) rfl ?_ (kk H locs ls hP hS hl)
  rw [ev_ti, h2.2]
  have h6 := ev_lw (ev_wr x) d dt j pc h3 ((ev_sw k).1.map (fun q => q.1)) offs ts h4
  rw [← h2.1] at h6
  exact h6
theorem ev_go_in (hj : j < 114) {ws : List Cond} {j' : Nat} (hj' : j' < 113) (h : ws = ev_wo j') : GoodIn ev_gw ws := by
  subst h
  intro w hw
  rcases List.mem_cons.mp hw with rfl | hw
  · exact ⟨ev_mcw_ok j' hj', ev_ggw (ev_mcw_ok j' hj')⟩
  · exact ⟨hw, ev_ggw hw⟩
theorem ev_blind (as : List ev_V) (σ : ev_M) : FrameBlind (ev_Pc D cI cZ cS ad as σ) := by
  intro a U g mk q
  obtain ⟨q0, q1, q2, q3⟩ := q
  exact ⟨q0, q1, va_K.moved (u := U) (U := U.calling g mk a) (Vm.Alike.refl U.vm) q2, ev_NW_same (s := U) (U := U.calling g mk a) rfl q3⟩
theorem ev_call_pre (F : ev_F p s m args meth c D cI cZ cS ad A j) {H : Heap} (hP : va_P D vwCl (ev_wd cI cZ cS ad σ) H) (as : List ev_V) : ∀ U : State, U.heap = H → s.WarmedH U.vm → ev_Pc D cI cZ cS ad as σ (as.map (ev_rv ad)).toArray U := by
  intro U hU hW
  exact ⟨rfl, by rw [hU]; exact hP, va_K.moved hW.alike F.2.2.2.2.2.2.1, ev_NW_warm hW F.2.2.2.2.2.2.2.1⟩
theorem ev_call_end {r : ev_R} {st0 rest : List ev_V} {H : Heap} {locs : List Loc} {ls : Array Slot} (args' : Array Value) (hS : va_S A s.heap H locs) (hl : ev_lh ad ls (ev_mxl j) L)
    (hr : va_Run p l e (headSpec (ev_wo j) (ev_rm j)).room s m args below meth c H locs (ev_c0 j) (ev_c1 j) 0 0 (F0 m pc ls (st0.map (ev_rv ad))) (rest.map (ev_rv ad)) (ev_Qc D cI cZ cS ad A r args') A)
    (kk : ev_W p l e s m args below meth c D cI cZ cS ad A Q j (pc + 3) L (r.1.toList ++ rest) r.2) : W p l e (headSpec (ev_wo j) (ev_rm j)).room s m args below meth c H locs (ev_c0 j) (ev_c1 j) Q (F0 m pc ls (st0.map (ev_rv ad))) := by
  rcases r with ⟨v, σ'⟩
  rcases v with _ | x | i | h
  · refine va_callv (a := args') hr hS (fun q _ h => h) (fun q h => h) (fun u t H1 locs1 ht hvm hw hB hz hk hS1 => ?_)
    exact kk H1 locs1 ls (by rw [← ht]; exact hB) hS1 hl
  · refine va_calli (a := args') hr hS (fun q _ h => h) (fun q h => h) (fun y u t H1 locs1 ht hvm hw hB hz hk hS1 => ?_)
    subst hw
    exact kk H1 locs1 ls (by rw [← ht]; exact hB) hS1 hl
  · intro T hT X
    obtain ⟨v, st₀, t, T', L', h0, X', hL, e1, e2, hf, st'⟩ := hr T hT X
    exact hf.elim
  · refine va_calll (a := args') hr hS (fun q _ h => h) (fun q h => h) (fun y u t H1 locs1 ht hvm hw hB hz hk hS1 => ?_)
    subst hw
    exact kk H1 locs1 ls (by rw [← ht]; exact hB) hS1 hl
def ev_rck (j j' : Nat) : Bool := decide ((ev_rm j').frames + 1 ≤ (ev_rm j).frames ∧ 8 + (ev_mxl j' + 11) + (ev_rm j').locals ≤ (ev_rm j).locals)
theorem sd_callV (F : ev_F p s m args meth c D cI cZ cS ad A j) (hj : j < 114) {j' cp : Nat} {b : Int} {as rest : List ev_V} {r : ev_R} (hd : decode (ev_bc j) pc = .ok (.invokevirtual cp, 3)) (hj' : j' < 113) (hs : ev_sta j' = false) (hn : as.length = ev_na j') (hm : (ev_own j, cp, j', if ev_own j = ev_own j' ∨ ev_own j = 11 then 0 else 2) ∈ ev_mrs) (hrc : ev_rck j j' = true) (hst : st = as.reverse ++ .inr (.inl b) :: rest) (hb : ev_cls b = ev_own j') (hw : ev_w rest ≤ 8)
    (hM : ev_Mt l D cI cZ cS ad A j' (.inr (.inl b) :: as) σ r) (kk : ev_W p l e s m args below meth c D cI cZ cS ad A Q j (pc + 3) L (r.1.toList ++ rest) r.2) : ev_W p l e s m args below meth c D cI cZ cS ad A Q j pc L st σ := by
  intro H locs ls hP hS hl
  have hc := of_decide_eq_true hrc
  obtain ⟨k1, k2, k3, k4, k5, k6⟩ := ev_mok_spec hj'
  have hts := F.2.2.2.2.2.1
  have hown12 : ev_own j' < 11 := by
    have : ∀ q, q < 113 → ev_sta q = false → ev_own q < 11 := by decide +kernel
    exact this j' hj' hs
  have hrecv : ∃ cell : Cell, H[ad b]? = some cell ∧ cell.vm.isStatics = false ∧ s.vm.findClass (ev_yn j').cls = some cell.cls := by
    have := va_recv F.2.2.2.2.2.2.1 hP (ev_cl_at _ hown12) (ev_at hb (by omega) (ev_e_obj hb hown12))
    rw [k2]
    exact this
  have hstack : (st.map (ev_rv ad)) = (as.map (ev_rv ad)).reverse ++ .ref (ad b) :: rest.map (ev_rv ad) := by
    rw [hst]; simp [ev_rv]
  refine ev_call_end (r := r) (rest := rest) ((Value.ref (ad b) :: as.map (ev_rv ad)).toArray) hS hl ?_ kk
  by_cases ho : ev_own j = ev_own j' ∨ ev_own j = 11
  · rw [if_pos ho] at hm
    have hlink := hts _ (ev_gwm (ev_mrs_ok _ hm) (by have := List.all_eq_true.mp ev_g2 _ hm; simpa using this))
    unfold ev_mrw at hlink
    rw [if_pos (show (0 : Nat) < 2 by omega)] at hlink
    exact va_runV (As := as.map (ev_rv ad)) (rest := rest.map (ev_rv ad)) ⟨F.1, F.2.1, F.2.2.2.1, F.2.2.2.2.1, hts⟩ hM ⟨callB_of (ev_na j') hts (ev_go_in hj hj' rfl) rfl (ev_rm0 hj').1 (ev_rm0 hj').2 (hts _ k1) hlink k4 hc, hts _ (k6 hs).1, hts _ (k6 hs).2⟩ ⟨ev_blind _ _, hrecv, ev_call_pre F hP (.inr (.inl b) :: as)⟩ rfl (by simpa using hn) hl.2.1 hstack (by show 2 * 0 + _ ≤ 8; rw [ev_w_cat]; omega) hd ⟨ev_c0_le j, ev_c1_le j⟩
  · rw [if_neg ho] at hm
    have hlink := F.2.2.2.2.2.2.2.1.2 _ hm (show ¬ (2 : Nat) < 2 by omega)
    unfold ev_mrw at hlink
    rw [if_neg (show ¬ (2 : Nat) < 2 by omega)] at hlink
    exact va_runVN (As := as.map (ev_rv ad)) (rest := rest.map (ev_rv ad)) ⟨F.1, F.2.1, F.2.2.2.1, F.2.2.2.2.1, hts⟩ hM ⟨va_cnB (ev_na j') hts (ev_go_in hj hj' rfl) rfl (ev_rm0 hj').1 (ev_rm0 hj').2 hlink (hts _ k1) k4 hc, hts _ (k6 hs).1, hts _ (k6 hs).2⟩ ⟨ev_blind _ _, hrecv, ev_call_pre F hP (.inr (.inl b) :: as)⟩ rfl (by simpa using hn) hl.2.1 hstack (by show 2 * 0 + _ ≤ 8; rw [ev_w_cat]; omega) hd ⟨ev_c0_le j, ev_c1_le j⟩
theorem sd_callS (F : ev_F p s m args meth c D cI cZ cS ad A j) (hj : j < 114) {j' cp : Nat} {as rest : List ev_V} {r : ev_R} (hd : decode (ev_bc j) pc = .ok (.invokestatic cp, 3)) (hj' : j' < 113) (hs : ev_sta j' = true) (hn : as.length = ev_na j') (hm : (ev_own j, cp, j', if ev_own j = ev_own j' ∨ ev_own j = 11 then 1 else 3) ∈ ev_mrs) (hrc : ev_rck j j' = true) (hst : st = as.reverse ++ rest) (hw : ev_w rest ≤ 8)
    (hM : ev_Mt l D cI cZ cS ad A j' as σ r) (kk : ev_W p l e s m args below meth c D cI cZ cS ad A Q j (pc + 3) L (r.1.toList ++ rest) r.2) : ev_W p l e s m args below meth c D cI cZ cS ad A Q j pc L st σ := by
  intro H locs ls hP hS hl
  have hc := of_decide_eq_true hrc
  obtain ⟨k1, k2, k3, k4, k5, k6⟩ := ev_mok_spec hj'
  have hts := F.2.2.2.2.2.1
  have hstack : (st.map (ev_rv ad)) = (as.map (ev_rv ad)).reverse ++ rest.map (ev_rv ad) := by
    rw [hst]; simp
  refine ev_call_end (r := r) (rest := rest) ((as.map (ev_rv ad)).toArray) hS hl ?_ kk
  by_cases ho : ev_own j = ev_own j' ∨ ev_own j = 11
  · rw [if_pos ho] at hm
    have hlink := hts _ (ev_gwm (ev_mrs_ok _ hm) (by have := List.all_eq_true.mp ev_g2 _ hm; simpa using this))
    unfold ev_mrw at hlink
    rw [if_pos (show (1 : Nat) < 2 by omega)] at hlink
    exact va_runS (As := as.map (ev_rv ad)) (rest := rest.map (ev_rv ad)) ⟨F.1, F.2.1, F.2.2.2.1, F.2.2.2.2.1, hts⟩ hM ⟨callB_of (ev_na j') hts (ev_go_in hj hj' rfl) rfl (ev_rm0 hj').1 (ev_rm0 hj').2 (hts _ k1) hlink k4 hc, hts _ (k5 hs)⟩ ⟨ev_blind _ _, ev_call_pre F hP as⟩ rfl (by simpa using hn) hl.2.1 hstack (by show 2 * 0 + _ ≤ 8; rw [ev_w_cat]; omega) hd ⟨ev_c0_le j, ev_c1_le j⟩
  · rw [if_neg ho] at hm
    have hlink := F.2.2.2.2.2.2.2.1.2 _ hm (show ¬ (3 : Nat) < 2 by omega)
    unfold ev_mrw at hlink
    rw [if_neg (show ¬ (3 : Nat) < 2 by omega)] at hlink
    exact va_runSN (As := as.map (ev_rv ad)) (rest := rest.map (ev_rv ad)) ⟨F.1, F.2.1, F.2.2.2.1, F.2.2.2.2.1, hts⟩ hM ⟨va_cnB (ev_na j') hts (ev_go_in hj hj' rfl) rfl (ev_rm0 hj').1 (ev_rm0 hj').2 hlink (hts _ k1) k4 hc, hts _ (k5 hs), trivial⟩ ⟨ev_blind _ _, ev_call_pre F hP as⟩ rfl (by simpa using hn) hl.2.1 hstack (by show 2 * 0 + _ ≤ 8; rw [ev_w_cat]; omega) hd ⟨ev_c0_le j, ev_c1_le j⟩
end SNH
