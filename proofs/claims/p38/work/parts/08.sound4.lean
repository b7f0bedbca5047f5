/-! the JDK's members, returns, switches, calls -/
def ev_Qc (D : va_G) (cI cZ cS : ClassId) (ad : Int → Nat) (A : Nat → Prop) (r : ev_R) : Array Value → State → Outcome → State → Prop := match r with
  | (none, σ) => va_Qv (fun _ : Unit => True) (fun _ t => va_P D vwCl (ev_wd cI cZ cS ad σ) t.heap) A
  | (some (.inl x), σ) => va_Qi (fun (y : Int32) (_ : Unit) => y = Int32.ofInt x) (fun _ t => va_P D vwCl (ev_wd cI cZ cS ad σ) t.heap) A
  | (some (.inr (.inr h)), σ) => va_Ql (fun (y : Int64) (_ : Unit) => y = h) (fun _ t => va_P D vwCl (ev_wd cI cZ cS ad σ) t.heap) A
  | (some (.inr (.inl _)), _) => fun _ _ _ _ => False
def ev_Pc (D : va_G) (cI cZ cS : ClassId) (ad : Int → Nat) (as : List ev_V) (σ : ev_M) : Array Value → State → Prop := va_Pc (as.map (ev_rv ad)) (fun U => va_P D vwCl (ev_wd cI cZ cS ad σ) U.heap ∧ va_K D vwCl (ev_ty cI cZ cS) U ∧ ev_NW U)
def ev_Mt (l : Launch) (D : va_G) (cI cZ cS : ClassId) (ad : Int → Nat) (A : Nat → Prop) (j : Nat) (as : List ev_V) (σ : ev_M) (r : ev_R) : Prop := Met l (ev_yn j) (ev_wo j) (ev_rm j) (ev_Pc D cI cZ cS ad as σ) (ev_Qc D cI cZ cS ad A r) 0 0 A
theorem ev_NW_warm {s U : State} (hW : s.WarmedH U.vm) (h : ev_NW s) : ev_NW U := by
  refine ⟨fun q hq hn => ?_, fun q hq hn => ?_⟩
  · have h1 := h.1 q hq hn
    unfold ev_frw at h1 ⊢
    rw [if_neg hn] at h1 ⊢
    exact va_Nw.warmF hW h1
  · have h1 := h.2 q hq hn
    unfold ev_mrw at h1 ⊢
    rw [if_neg hn] at h1 ⊢
    exact va_Nw.warmM hW h1
theorem ev_NW_same {s U : State} (hv : s.vm = U.vm) (h : ev_NW s) : ev_NW U := by
  refine ⟨fun q hq hn => va_Nw.same ?_ hv (h.1 q hq hn), fun q hq hn => va_Nw.same ?_ hv (h.2 q hq hn)⟩
  · unfold ev_frw; rw [if_neg hn]; rfl
  · unfold ev_mrw; rw [if_neg hn]; rfl
theorem ev_pop_spec : ∀ (n : Nat) (st acc as rest : List ev_V), ev_pop n st acc = some (as, rest) → acc.reverse ++ st = as.reverse ++ rest ∧ as.length = n + acc.length := by
  intro n
  induction n with
  | zero =>
    intro st acc as rest h
    simp only [ev_pop] at h
    cases h
    exact ⟨rfl, by omega⟩
  | succ n ih =>
    intro st acc as rest h
    cases st with
    | nil => simp [ev_pop] at h
    | cons v st =>
      simp only [ev_pop] at h
      obtain ⟨h1, h2⟩ := ih _ _ _ _ h
      refine ⟨?_, by rw [h2]; simp; omega⟩
      rw [← h1]
      simp
theorem ev_ggw {w : Cond} (h : w ∈ ev_gw) : (w.onTables && w.keeps) = true ∨ ∃ ty, w = .arrayClass ty := good_of_word (List.mem_filter.mp h).2
theorem ev_mcw_ok : ∀ j, j < 113 → ev_cw j ∈ ev_gw := by
  intro j hj
  have key : ev_mcw j = true := by
    have hmem : j ∈ List.range 113 := List.mem_range.mpr hj
    have : ∀ a, j ∈ ((List.range 113).drop a |>.take 8) → ((List.range 113).drop a |>.take 8).all ev_mcw = true → ev_mcw j = true := fun a h1 h2 => List.all_eq_true.mp h2 j h1
    have hin : ∀ a, a ≤ j → j < a + 8 → j ∈ ((List.range 113).drop a |>.take 8) := by
      intro a h1 h2
      refine List.mem_of_getElem? (i := j - a) ?_
      rw [List.getElem?_take, if_pos (by omega), List.getElem?_drop, List.getElem?_range (by omega)]
      congr 1
      omega
    rcases Nat.lt_or_ge j 88 with h | h
    · rcases Nat.lt_or_ge j 40 with h | h
      · rcases Nat.lt_or_ge j 16 with h | h
        · rcases Nat.lt_or_ge j 8 with h | h
          · exact this 0 (hin 0 (by omega) (by omega)) ev_mcw_0
          · exact this 8 (hin 8 (by omega) (by omega)) ev_mcw_8
        · rcases Nat.lt_or_ge j 24 with h | h
          · exact this 16 (hin 16 (by omega) (by omega)) ev_mcw_16
          · rcases Nat.lt_or_ge j 32 with h | h
            · exact this 24 (hin 24 (by omega) (by omega)) ev_mcw_24
            · exact this 32 (hin 32 (by omega) (by omega)) ev_mcw_32
      · rcases Nat.lt_or_ge j 64 with h | h
        · rcases Nat.lt_or_ge j 48 with h | h
          · exact this 40 (hin 40 (by omega) (by omega)) ev_mcw_40
          · rcases Nat.lt_or_ge j 56 with h | h
            · exact this 48 (hin 48 (by omega) (by omega)) ev_mcw_48
            · exact this 56 (hin 56 (by omega) (by omega)) ev_mcw_56
        · rcases Nat.lt_or_ge j 72 with h | h
          · exact this 64 (hin 64 (by omega) (by omega)) ev_mcw_64
          · rcases Nat.lt_or_ge j 80 with h | h
            · exact this 72 (hin 72 (by omega) (by omega)) ev_mcw_72
            · exact this 80 (hin 80 (by omega) (by omega)) ev_mcw_80
    · rcases Nat.lt_or_ge j 107 with h | h
      · rcases Nat.lt_or_ge j 104 with h | h
        · rcases Nat.lt_or_ge j 96 with h | h
          · exact this 88 (hin 88 (by omega) (by omega)) ev_mcw_88
          · exact this 96 (hin 96 (by omega) (by omega)) ev_mcw_96
        · rcases Nat.lt_or_ge j 105 with h | h
          · exact (show j = 104 by omega) ▸ ev_mcx_104
          · rcases Nat.lt_or_ge j 106 with h | h
            · exact (show j = 105 by omega) ▸ ev_mcx_105
            · exact (show j = 106 by omega) ▸ ev_mcx_106
      · rcases Nat.lt_or_ge j 110 with h | h
        · rcases Nat.lt_or_ge j 108 with h | h
          · exact (show j = 107 by omega) ▸ ev_mcx_107
          · rcases Nat.lt_or_ge j 109 with h | h
            · exact (show j = 108 by omega) ▸ ev_mcx_108
            · exact (show j = 109 by omega) ▸ ev_mcx_109
        · rcases Nat.lt_or_ge j 111 with h | h
          · exact (show j = 110 by omega) ▸ ev_mcx_110
          · rcases Nat.lt_or_ge j 112 with h | h
            · exact (show j = 111 by omega) ▸ ev_mcx_111
            · exact (show j = 112 by omega) ▸ ev_mcx_112
  exact ev_gwm (List.mem_of_getElem? (of_decide_eq_true key)) (by unfold ev_cw; rfl)
theorem ev_mok_ok : ∀ j, j < 113 → ev_mok j = true := by
  intro j hj
  have : ∀ a, j ∈ ((List.range 113).drop a |>.take 20) → ((List.range 113).drop a |>.take 20).all ev_mok = true → ev_mok j = true := fun a h1 h2 => List.all_eq_true.mp h2 j h1
  have hin : ∀ a, a ≤ j → j < a + 20 → j ∈ ((List.range 113).drop a |>.take 20) := by
    intro a h1 h2
    refine List.mem_of_getElem? (i := j - a) ?_
    rw [List.getElem?_take, if_pos (by omega), List.getElem?_drop, List.getElem?_range (by omega)]
    congr 1
    omega
  rcases Nat.lt_or_ge j 60 with h | h
  · rcases Nat.lt_or_ge j 20 with h | h
    · exact this 0 (hin 0 (by omega) (by omega)) ev_mok_0
    · rcases Nat.lt_or_ge j 40 with h | h
      · exact this 20 (hin 20 (by omega) (by omega)) ev_mok_20
      · exact this 40 (hin 40 (by omega) (by omega)) ev_mok_40
  · rcases Nat.lt_or_ge j 80 with h | h
    · exact this 60 (hin 60 (by omega) (by omega)) ev_mok_60
    · rcases Nat.lt_or_ge j 100 with h | h
      · exact this 80 (hin 80 (by omega) (by omega)) ev_mok_80
      · exact this 100 (hin 100 (by omega) (by omega)) ev_mok_100
/-- what the tables say of a method -/
theorem ev_mok_spec {j : Nat} (hj : j < 113) : Cond.initialized (ev_yn j).cls ∈ ev_gw ∧ (ev_yn j).cls = ev_cn (ev_own j) ∧ plainName (ev_yn j).cls = true ∧ ((ev_yn j).cls ≠ "java/lang/invoke/MethodHandle" ∧ (ev_yn j).cls ≠ "java/lang/invoke/VarHandle" ∧ (parseMethodDescriptor (ev_yn j).desc).map (fun d => d.parameters.length) = some (ev_na j)) ∧ (ev_sta j = true → Cond.static (ev_yn j) ∈ ev_gw) ∧ (ev_sta j = false → Cond.instanceMethod (ev_yn j) ∈ ev_gw ∧ Cond.selects (ev_yn j).cls (ev_yn j) (ev_yn j) ∈ ev_gw) := by
  have h := ev_mok_ok j hj
  unfold ev_mok at h
  simp only [Bool.and_eq_true, decide_eq_true_eq] at h
  obtain ⟨h1, h2, h3, h4, h5⟩ := h
  refine ⟨ev_gwm (List.mem_of_getElem? h1) rfl, h2, h3, h4, fun hs => ?_, fun hs => ?_⟩
  · rw [if_pos hs] at h5
    exact ev_gwm (List.mem_of_getElem? (of_decide_eq_true h5)) rfl
  · rw [if_neg (by rw [hs]; decide)] at h5
    have h6 := of_decide_eq_true h5
    exact ⟨ev_gwm (List.mem_of_getElem? h6.1) rfl, ev_gwm (List.mem_of_getElem? h6.2) rfl⟩
section SNG
variable {p : Program} {l : Launch} {e : Env} {s : State} {m : MethodId} {args : Array Value} {below : List Frame} {meth : Method} {c : Code} {D : va_G} {cI cZ cS : ClassId} {ad : Int → Nat} {A : Nat → Prop} {Q : State → Prop} {j pc : Nat} {L : ev_L} {st : List ev_V} {σ : ev_M}
theorem sd_max (F : ev_F p s m args meth c D cI cZ cS ad A j) {x y : Int} {cp : Nat} (hd : decode (ev_bc j) pc = .ok (.invokestatic cp, 3)) (hm : (ev_own j, cp, 62) ∈ ev_jrs) (hr : 1 ≤ (ev_rm j).frames ∧ 21 ≤ (ev_rm j).locals) (hw : ev_w st ≤ 8)
    (kk : ev_W p l e s m args below meth c D cI cZ cS ad A Q j (pc + 3) L (.inl (if ev_wr x < ev_wr y then y else x) :: st) σ) : ev_W p l e s m args below meth c D cI cZ cS ad A Q j pc L (.inl y :: .inl x :: st) σ := by
  intro H locs ls hP hS hl
  have hlink := F.2.2.2.2.2.1 _ (ev_jrs_ok _ hm)
  refine va_mmax F.1 F.2.1 (by rw [F.2.2.2.1, hl.2.1]) F.2.2.2.2.1 (index := cp) hlink (F.2.2.2.2.2.1 _ ev_jw.2.2.1) (F.2.2.2.2.2.1 _ ev_jw.2.1) (F.2.2.2.2.2.1 _ ev_jw.2.2.2.1) hr.1 (by rw [ev_w_cat]; exact Nat.le_trans (Nat.add_le_add_right hw 13) hr.2) (ev_c0_le j) (ev_c1_le j) hd ?_
  have h := kk H locs ls hP hS hl
  simp only [List.map_cons, ev_rv] at h
  by_cases hxy : ev_wr x < ev_wr y
  · rw [if_pos hxy] at h
    rw [if_pos (ev_oi_lt.mpr hxy)]
    exact h
  · rw [if_neg hxy] at h
    rw [if_neg (fun q => hxy (ev_oi_lt.mp q))]
    exact h
theorem sd_min (F : ev_F p s m args meth c D cI cZ cS ad A j) {x y : Int} {cp : Nat} (hd : decode (ev_bc j) pc = .ok (.invokestatic cp, 3)) (hm : (ev_own j, cp, 63) ∈ ev_jrs) (hr : 1 ≤ (ev_rm j).frames ∧ 21 ≤ (ev_rm j).locals) (hw : ev_w st ≤ 8)
    (kk : ev_W p l e s m args below meth c D cI cZ cS ad A Q j (pc + 3) L (.inl (if ev_wr y < ev_wr x then y else x) :: st) σ) : ev_W p l e s m args below meth c D cI cZ cS ad A Q j pc L (.inl y :: .inl x :: st) σ := by
  intro H locs ls hP hS hl
  have hlink := F.2.2.2.2.2.1 _ (ev_jrs_ok _ hm)
  refine va_mmin F.1 F.2.1 (by rw [F.2.2.2.1, hl.2.1]) F.2.2.2.2.1 (index := cp) hlink (F.2.2.2.2.2.1 _ ev_jw.2.2.2.2.1) (F.2.2.2.2.2.1 _ ev_jw.2.1) (F.2.2.2.2.2.1 _ ev_jw.2.2.2.2.2) hr.1 (by rw [ev_w_cat]; exact Nat.le_trans (Nat.add_le_add_right hw 13) hr.2) (ev_c0_le j) (ev_c1_le j) hd ?_
  have h := kk H locs ls hP hS hl
  simp only [List.map_cons, ev_rv] at h
  by_cases hxy : ev_wr y < ev_wr x
  · rw [if_pos hxy] at h
    rw [if_pos (ev_oi_lt.mpr hxy)]
    exact h
  · rw [if_neg hxy] at h
    rw [if_neg (fun q => hxy (ev_oi_lt.mp q))]
    exact h
theorem sd_copy (F : ev_F p s m args meth c D cI cZ cS ad A j) {a b i k n : Int} {cp : Nat} (hd : decode (ev_bc j) pc = .ok (.invokestatic cp, 3)) (hm : (ev_own j, cp, 61) ∈ ev_jrs) (hr : 1 ≤ (ev_rm j).frames ∧ 26 ≤ (ev_rm j).locals) (hw : ev_w st ≤ 8)
    (ha : ev_cls a = 12) (hb : ev_cls b = 12) (h0 : 0 ≤ ev_wr i) (h1 : 0 ≤ ev_wr k) (h2 : 0 ≤ ev_wr n) (h3 : ev_wr i + ev_wr n ≤ ev_len a) (h4 : ev_wr k + ev_wr n ≤ ev_len b)
    (kk : ev_W p l e s m args below meth c D cI cZ cS ad A Q j (pc + 3) L st (ev_cp σ a (ev_wr i) b (ev_wr k) (ev_wr n))) : ev_W p l e s m args below meth c D cI cZ cS ad A Q j pc L (.inl n :: .inl k :: .inr (.inl b) :: .inl i :: .inr (.inl a) :: st) σ := by
  intro H locs ls hP hS hl
  have hlink := F.2.2.2.2.2.1 _ (ev_jrs_ok _ hm)
  have nn : ∀ z : Int, 0 ≤ ev_wr z → ¬ Int32.ofInt z < 0 := fun z hz q => by
    have := (ev_oi_lt (a := z) (b := 0)).mp q
    rw [ev_wr_0] at this
    omega
  refine va_copyi F.1 F.2.1 (by rw [F.2.2.2.1, hl.2.1]) F.2.2.2.2.1 (index := cp) hlink (F.2.2.2.2.2.1 _ ev_jw.1.1) (F.2.2.2.2.2.1 _ ev_jw.1.2.1) (F.2.2.2.2.2.1 _ ev_jw.1.2.2) F.2.2.2.2.2.2.1 hP (F.2.2.2.2.2.2.2.2.2 σ) hS a.toNat b.toNat 0 0 (ev_at ha (by omega) (ev_e_int ha)) (ev_at hb (by omega) (ev_e_int hb)) rfl rfl rfl (nn i h0) (nn k h1) (nn n h2) (by rw [ev_clamp, ev_clamp]; omega) (by rw [ev_clamp, ev_clamp]; omega) (fun _ _ => rfl) hr.1 (by rw [ev_w_cat]; exact Nat.le_trans (Nat.add_le_add_right hw _) hr.2) hd (fun H1 locs1 hP1 hD1 hS1 => ?_)
  have hset := ev_wd_set (cI := cI) (cZ := cZ) (cS := cS) (ad := ad) (σ := σ) (σ' := ev_cp σ a (ev_wr i) b (ev_wr k) (ev_wr n)) (ev_cls_in (i := b) (by omega)) (fun q hq => by funext z; simp [ev_cp, hq]) (ev_e_int hb)
  have hf : (fun q : Nat => Int32.ofInt (ev_cp σ a (ev_wr i) b (ev_wr k) (ev_wr n) b (q : Int))) = va_cpy (fun q : Nat => Int32.ofInt (σ a (q : Int))) (fun q : Nat => Int32.ofInt (σ b (q : Int))) (ev_wr i).toNat (ev_wr k).toNat (ev_wr n).toNat := by
    funext q
    unfold va_cpy ev_cp
    by_cases hq : (ev_wr k).toNat ≤ q ∧ q < (ev_wr k).toNat + (ev_wr n).toNat
    · rw [if_pos hq, if_pos ⟨rfl, by omega, by omega⟩]
      congr 2
      omega
    · rw [if_neg hq, if_neg (fun z => hq ⟨by omega, by omega⟩)]
  rw [hf] at hset
  rw [ev_clamp, ev_clamp, ev_clamp, hset] at hP1
  exact kk H1 locs1 ls hP1 hS1 hl
theorem sd_iret (F : ev_F p s m args meth c D cI cZ cS ad A j) (hc0 : ev_c0 j = 0 ∧ ev_c1 j = 0) {x : Int} (hd : decode (ev_bc j) pc = .ok (.ireturn, 1)) (hr : ev_ret j = some .int ∨ ev_ret j = some .boolean ∧ (x = 0 ∨ x = 1)) : ev_W p l e s m args below meth c D cI cZ cS ad A (MQ below (ev_Qc D cI cZ cS ad A (some (.inl x), σ)) args s 0 0 A) j pc L [.inl x] σ := by
  intro H locs ls hP hS hl
  rw [hc0.1, hc0.2]
  rcases hr with hr | ⟨hr, hx⟩
  · exact W.iret F.1 F.2.1 (F.2.2.1.trans hr) (fun t ht hW => ⟨⟨_, (), rfl, rfl, by show va_P D vwCl (ev_wd cI cZ cS ad σ) t.heap; rw [ht]; exact hP⟩, hS.F ht⟩) hS.2.2 hd F.2.2.2.2.2.2.2.2.1
  · exact W.zret F.1 F.2.1 (F.2.2.1.trans hr) (by rcases hx with rfl | rfl <;> rfl) (fun t ht hW => ⟨⟨_, (), rfl, rfl, by show va_P D vwCl (ev_wd cI cZ cS ad σ) t.heap; rw [ht]; exact hP⟩, hS.F ht⟩) hS.2.2 hd F.2.2.2.2.2.2.2.2.1
theorem sd_lret (F : ev_F p s m args meth c D cI cZ cS ad A j) (hc0 : ev_c0 j = 0 ∧ ev_c1 j = 0) {x : Int64} (hd : decode (ev_bc j) pc = .ok (.lreturn, 1)) (hr : ev_ret j = some .long) : ev_W p l e s m args below meth c D cI cZ cS ad A (MQ below (ev_Qc D cI cZ cS ad A (some (.inr (.inr x)), σ)) args s 0 0 A) j pc L [.inr (.inr x)] σ := by
  intro H locs ls hP hS hl
  rw [hc0.1, hc0.2]
  exact W.lret F.1 F.2.1 (F.2.2.1.trans hr) (fun t ht hW => ⟨⟨_, (), rfl, rfl, by show va_P D vwCl (ev_wd cI cZ cS ad σ) t.heap; rw [ht]; exact hP⟩, hS.F ht⟩) hS.2.2 hd F.2.2.2.2.2.2.2.2.1
theorem sd_vret (F : ev_F p s m args meth c D cI cZ cS ad A j) (hc0 : ev_c0 j = 0 ∧ ev_c1 j = 0) (hd : decode (ev_bc j) pc = .ok (.return_, 1)) (hr : ev_ret j = none) : ev_W p l e s m args below meth c D cI cZ cS ad A (MQ below (ev_Qc D cI cZ cS ad A (none, σ)) args s 0 0 A) j pc L [] σ := by
  intro H locs ls hP hS hl
  rw [hc0.1, hc0.2]
  exact W.vret F.1 F.2.1 (F.2.2.1.trans hr) (fun t ht hW => ⟨⟨(), rfl, trivial, by show va_P D vwCl (ev_wd cI cZ cS ad σ) t.heap; rw [ht]; exact hP⟩, hS.F ht⟩) hS.2.2 hd F.2.2.2.2.2.2.2.2.1
theorem ev_sel_mk (v : Int) (dt : Nat) : ∀ (ts : List Nat) (lo : Int), ev_sel v (ev_mk lo ts) dt = if lo ≤ v ∧ v < lo + ts.length then ts.getD (v - lo).toNat dt else dt := by
  intro ts
  induction ts with
  | nil => intro lo; simp [ev_mk, ev_sel]
  | cons t ts ih =>
    intro lo
    unfold ev_mk ev_sel
    rw [ih]
    by_cases h : v = lo
    · subst h
      rw [if_pos rfl, if_pos ⟨by omega, by simp; omega⟩]
      simp
    · rw [if_neg h]
      by_cases h2 : lo + 1 ≤ v ∧ v < lo + 1 + ts.length
      · rw [if_pos h2, if_pos ⟨by omega, by simp; omega⟩]
        obtain ⟨n, hn⟩ : ∃ n : Nat, v - lo = n + 1 := ⟨(v - lo - 1).toNat, by omega⟩
        rw [show (v - lo).toNat = n + 1 by omega, show (v - (lo + 1)).toNat = n by omega]
        simp
      · rw [if_neg h2, if_neg (by simp; omega)]
end SNG
