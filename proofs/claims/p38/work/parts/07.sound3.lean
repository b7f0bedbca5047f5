/-! stack, fields, arrays -/
theorem ev_cases11 {P : Nat → Prop} (h : ∀ c, c ∈ List.range 11 → P c) : ∀ c, c < 11 → P c := fun c hc => h c (List.mem_range.mpr hc)
theorem ev_cl_at : ∀ c, c < 11 → vwCl[c]? = some (ev_cn c, ev_ct c, ev_N c) := by
  intro c hc
  match c, hc with
  | 0, _ => rfl
  | 1, _ => rfl
  | 2, _ => rfl
  | 3, _ => rfl
  | 4, _ => rfl
  | 5, _ => rfl
  | 6, _ => rfl
  | 7, _ => rfl
  | 8, _ => rfl
  | 9, _ => rfl
  | 10, _ => rfl
theorem ev_in_t : ∀ c, c < 11 → ∀ w ∈ u_ws (ev_cn c) (ev_ct c) (ev_N c), w ∈ lw_tbl := by
  intro c hc
  match c, hc with
  | 0, _ => exact inX0
  | 1, _ => exact inX1
  | 2, _ => exact inX2
  | 3, _ => exact inX3
  | 4, _ => exact inX4
  | 5, _ => exact inX5
  | 6, _ => exact inX6
  | 7, _ => exact inX7
  | 8, _ => exact inX8
  | 9, _ => exact inX9
  | 10, _ => exact inX10
theorem ev_in_g : ∀ c, c < 11 → ∀ w ∈ u_ws (ev_cn c) (ev_ct c) (ev_N c), w ∈ ev_gw := fun c hc w hw => by
  refine ev_gwm (ev_in_t c hc w hw) ?_
  have h := List.all_eq_true.mp ev_g3 c (List.mem_range.mpr hc)
  exact List.all_eq_true.mp h w hw
theorem ev_ty_ok : ∀ c, c < 11 → ∀ k, k < ev_N c → parseFieldDescriptor (ev_ct c k).2.2.1 = some (ev_cy c k) := by
  intro c hc
  match c, hc with
  | 0, _ => exact tyX0_ok
  | 1, _ => exact tyX1_ok
  | 2, _ => exact tyX2_ok
  | 3, _ => exact tyX3_ok
  | 4, _ => exact tyX4_ok
  | 5, _ => exact tyX5_ok
  | 6, _ => exact tyX6_ok
  | 7, _ => exact tyX7_ok
  | 8, _ => exact tyX8_ok
  | 9, _ => exact tyX9_ok
  | 10, _ => exact tyX10_ok
theorem ev_nm_ok : ∀ c, c < 11 → ∀ a, a < ev_N c → ∀ b, b < ev_N c → a ≠ b → (ev_ct c a).2.1 ≠ (ev_ct c b).2.1 := by
  intro c hc
  match c, hc with
  | 0, _ => exact nmX0
  | 1, _ => exact nmX1
  | 2, _ => exact nmX2
  | 3, _ => exact nmX3
  | 4, _ => exact nmX4
  | 5, _ => exact nmX5
  | 6, _ => exact nmX6
  | 7, _ => exact nmX7
  | 8, _ => exact nmX8
  | 9, _ => exact nmX9
  | 10, _ => exact nmX10
/-- what is checked of a field's entry: a class, a place of it, of the kind that is said; not final where it is written -/
def ev_fck (c k kd : Nat) (o : Int) : Bool := decide (c < 11 ∧ k < ev_N c ∧ (ev_kd c k).1 = kd ∧ (kd = 1 → (ev_kd c k).2 = o) ∧ (ev_ct c k).1 = ev_cn c) && (decide (kd = 1) || (decide ((ev_ct c k).2.2.2 = false ∧ parseFieldDescriptor (ev_ct c k).2.2.1 = some (if kd = 0 then .int else .long))))
theorem ev_e_obj {cI cZ cS : ClassId} {ad : Int → Nat} {σ : ev_M} {i : Int} {c : Nat} (h : ev_cls i = c) (hc : c < 11) : ev_e cI cZ cS ad σ i = .inr (c, (List.range (ev_N c)).map (ev_fv ad σ i c)) := by
  unfold ev_e
  rw [h, if_neg (by omega), if_neg (by omega), if_neg (by omega)]
theorem ev_e_int {cI cZ cS : ClassId} {ad : Int → Nat} {σ : ev_M} {i : Int} (h : ev_cls i = 12) : ev_e cI cZ cS ad σ i = .inl (cI, (ev_len i).toNat, .inl (fun j : Nat => Int32.ofInt (σ i (j : Int)))) := by
  unfold ev_e
  rw [if_pos h]
theorem ev_e_bool {cI cZ cS : ClassId} {ad : Int → Nat} {σ : ev_M} {i : Int} (h : ev_cls i = 13) : ev_e cI cZ cS ad σ i = .inl (cZ, (ev_len i).toNat, .inl (fun j : Nat => Int32.ofInt (σ i (j : Int)))) := by
  unfold ev_e
  rw [if_neg (by omega), if_pos h]
theorem ev_e_st {cI cZ cS : ClassId} {ad : Int → Nat} {σ : ev_M} {i : Int} (h : ev_cls i = 14) : ev_e cI cZ cS ad σ i = .inl (cS, (ev_len i).toNat, .inr (.inr (.inr (.inr (fun j : Nat => some (ad (σ i (j : Int)))))))) := by
  unfold ev_e
  rw [if_neg (by omega), if_neg (by omega), if_pos h]
theorem ev_at {cI cZ cS : ClassId} {ad : Int → Nat} {σ : ev_M} {i : Int} {c : Nat} {x : va_E} (h : ev_cls i = c) (hc : c < 99) (he : ev_e cI cZ cS ad σ i = x) : (ev_wd cI cZ cS ad σ)[i.toNat]? = some (ad i, x) := by
  rw [ev_wd_get cI cZ cS ad σ (ev_cls_in (by omega)), he]
section SNF
variable {p : Program} {l : Launch} {e : Env} {s : State} {m : MethodId} {args : Array Value} {below : List Frame} {meth : Method} {c : Code} {D : va_G} {cI cZ cS : ClassId} {ad : Int → Nat} {A : Nat → Prop} {Q : State → Prop} {j pc : Nat} {L : ev_L} {st : List ev_V} {σ : ev_M}
theorem sd_i2l (F : ev_F p s m args meth c D cI cZ cS ad A j) {x : Int} (hd : decode (ev_bc j) pc = .ok (.i2l, 1))
    (kk : ev_W p l e s m args below meth c D cI cZ cS ad A Q j (pc + 1) L (.inr (.inr (Int64.ofInt (ev_wr x))) :: st) σ) : ev_W p l e s m args below meth c D cI cZ cS ad A Q j pc L (.inl x :: st) σ := by
  intro H locs ls hP hS hl
  refine lv_i2l F.1 F.2.1 hd ?_ (kk H locs ls hP hS hl)
  rw [← Int64.toInt_inj, Int32.toInt_toInt64, ev_ti, Int64.toInt_ofInt]
  have := ev_wr_lo x
  simp only [Int.bmod, Int64.size]
  split <;> omega
theorem sd_iinc (F : ev_F p s m args meth c D cI cZ cS ad A j) {k : Nat} {x z : Int} (hd : decode (ev_bc j) pc = .ok (.iinc k z, 3)) (hg : ev_get L k = some (.inl x)) (hn : ev_nl L k = true) (hlt : k < L.length)
    (kk : ev_W p l e s m args below meth c D cI cZ cS ad A Q j (pc + 3) (ev_set L k (some (.inl (x + z)))) st σ) : ev_W p l e s m args below meth c D cI cZ cS ad A Q j pc L st σ := by
  intro H locs ls hP hS hl
  have hm : (k, ev_rv ad (.inl x)) ∈ ev_al ad L := ev_al_mem.mpr ⟨_, hg, rfl⟩
  obtain ⟨q, hq, he⟩ := List.getElem_of_mem hm
  refine lv_iinc (v := Int32.ofInt (x + z)) F.1 F.2.1 hd hl.2 (k := q) (x := Int32.ofInt x) (by rw [List.getElem?_eq_getElem hq, he]; rfl) (ev_oi_add x z).symm (by rw [← hl.1]; exact hlt) rfl (fun ls' h' => kk H locs ls' hP hS (ev_lh_store1 (v := .inl (x + z)) hl.1 hn h'))
theorem sd_dupi (F : ev_F p s m args meth c D cI cZ cS ad A j) {x : Int} (hd : decode (ev_bc j) pc = .ok (.dup, 1))
    (kk : ev_W p l e s m args below meth c D cI cZ cS ad A Q j (pc + 1) L (.inl x :: .inl x :: st) σ) : ev_W p l e s m args below meth c D cI cZ cS ad A Q j pc L (.inl x :: st) σ := fun H locs ls hP hS hl => lv_dup F.1 F.2.1 hd rfl (kk H locs ls hP hS hl)
theorem sd_dupr (F : ev_F p s m args meth c D cI cZ cS ad A j) {x : Int} (hd : decode (ev_bc j) pc = .ok (.dup, 1))
    (kk : ev_W p l e s m args below meth c D cI cZ cS ad A Q j (pc + 1) L (.inr (.inl x) :: .inr (.inl x) :: st) σ) : ev_W p l e s m args below meth c D cI cZ cS ad A Q j pc L (.inr (.inl x) :: st) σ := fun H locs ls hP hS hl => lv_dup F.1 F.2.1 hd rfl (kk H locs ls hP hS hl)
theorem sd_dup2 (F : ev_F p s m args meth c D cI cZ cS ad A j) {x y : Int} (hd : decode (ev_bc j) pc = .ok (.dup2, 1))
    (kk : ev_W p l e s m args below meth c D cI cZ cS ad A Q j (pc + 1) L (.inl y :: .inr (.inl x) :: .inl y :: .inr (.inl x) :: st) σ) : ev_W p l e s m args below meth c D cI cZ cS ad A Q j pc L (.inl y :: .inr (.inl x) :: st) σ := fun H locs ls hP hS hl => lv_dup2_11 F.1 F.2.1 hd rfl rfl (kk H locs ls hP hS hl)
theorem sd_pop (F : ev_F p s m args meth c D cI cZ cS ad A j) {x : Int} (hd : decode (ev_bc j) pc = .ok (.pop, 1))
    (kk : ev_W p l e s m args below meth c D cI cZ cS ad A Q j (pc + 1) L st σ) : ev_W p l e s m args below meth c D cI cZ cS ad A Q j pc L (.inl x :: st) σ := fun H locs ls hP hS hl => lv_pop F.1 F.2.1 hd rfl (kk H locs ls hP hS hl)
theorem sd_goto (F : ev_F p s m args meth c D cI cZ cS ad A j) {z : Int} {t : Nat} (hd : decode (ev_bc j) pc = .ok (.goto z, 3)) (ht : (pc : Int) + z = (t : Int))
    (kk : ev_W p l e s m args below meth c D cI cZ cS ad A Q j t L st σ) : ev_W p l e s m args below meth c D cI cZ cS ad A Q j pc L st σ := fun H locs ls hP hS hl => lv_goto F.1 F.2.1 hd ht (kk H locs ls hP hS hl)
theorem sd_get (F : ev_F p s m args meth c D cI cZ cS ad A j) {i : Int} {cp cc k kd : Nat} {o : Int} {v : ev_V} (hd : decode (ev_bc j) pc = .ok (.getfield cp, 3)) (hm : (ev_own j, cp, cc, k) ∈ ev_frs) (hck : ev_fck cc k kd o = true) (hi : ev_cls i = cc) (hv : ev_fv ad σ i cc k = ev_rv ad v)
    (kk : ev_W p l e s m args below meth c D cI cZ cS ad A Q j (pc + 3) L (v :: st) σ) : ev_W p l e s m args below meth c D cI cZ cS ad A Q j pc L (.inr (.inl i) :: st) σ := by
  intro H locs ls hP hS hl
  have hc := of_decide_eq_true ((Bool.and_eq_true _ _).mp hck).1
  have hw := ev_frs_ok _ hm
  have hat : (ev_wd cI cZ cS ad σ)[i.toNat]? = some (ad i, .inr (cc, (List.range (ev_N cc)).map (ev_fv ad σ i cc))) := ev_at hi (by omega) (ev_e_obj hi hc.1)
  have hv' : ((List.range (ev_N cc)).map (ev_fv ad σ i cc))[k]? = some (ev_rv ad v) := by
    rw [List.getElem?_map, List.getElem?_range hc.2.1, ← hv]
    rfl
  by_cases hn : ev_own j = cc
  · have hg : goodWord (ev_frw (ev_own j, cp, cc, k)) = true := by
      have := List.all_eq_true.mp ev_g1 _ hm
      simpa [hn] using this
    have hl := F.2.2.2.2.2.1 _ (ev_gwm hw hg)
    unfold ev_frw at hl
    rw [if_pos hn] at hl
    exact va_get F.1 F.2.1 F.2.2.2.2.2.1 (ev_in_g cc hc.1) F.2.2.2.2.1 F.2.2.2.2.2.2.1 hP i.toNat hat (ev_cl_at cc hc.1) k hc.2.1 hl (fun _ h => by rw [hc.2.2.2.2] at h; exact h) hv' hd (kk H locs ls hP hS (by assumption))
  · have hl := F.2.2.2.2.2.2.2.1.1 _ hm hn
    have hl2 := va_Nw.use (A := args) (by unfold ev_frw; rw [if_neg hn]; rfl) hl
    unfold ev_frw at hl2
    rw [if_neg hn] at hl2
    exact va_getN F.1 F.2.1 F.2.2.2.2.2.1 (ev_in_g cc hc.1) F.2.2.2.2.1 F.2.2.2.2.2.2.1 hP i.toNat hat (ev_cl_at cc hc.1) k hc.2.1 hl2 (fun _ h => by rw [hc.2.2.2.2] at h; exact h) hv' hd (kk H locs ls hP hS (by assumption))
theorem ev_fs_set {i : Int} {cc k : Nat} {x : Int} {v : Value} (hk : k < ev_N cc) (hv : ev_fv ad (ev_up σ i k x) i cc k = v) : ((List.range (ev_N cc)).map (ev_fv ad σ i cc)).set k v = (List.range (ev_N cc)).map (ev_fv ad (ev_up σ i k x) i cc) := by
  apply List.ext_getElem?
  intro n
  rw [List.getElem?_set, List.getElem?_map, List.getElem?_map]
  by_cases hn : k = n
  · subst hn
    rw [if_pos rfl, List.getElem?_range hk, if_pos (by simp; exact hk), ← hv]
    rfl
  · rw [if_neg hn]
    rcases Nat.lt_or_ge n (ev_N cc) with h1 | h1
    · rw [List.getElem?_range h1]
      simp only [Option.map_some]
      have : ¬ ((n : Int) = (k : Int)) := by omega
      congr 1
      unfold ev_fv ev_up
      simp [this]
    · rw [List.getElem?_eq_none (by simp; exact h1)]
      rfl
theorem sd_put (F : ev_F p s m args meth c D cI cZ cS ad A j) {i x : Int} {cp cc k kd : Nat} {v : ev_V} (hd : decode (ev_bc j) pc = .ok (.putfield cp, 3)) (hm : (ev_own j, cp, cc, k) ∈ ev_frs) (hck : ev_fck cc k kd 0 = true) (hkd : kd ≠ 1) (hi : ev_cls i = cc) (hv : ev_fv ad (ev_up σ i k x) i cc k = ev_rv ad v) (hnar : narrow (if kd = 0 then .int else .long) (ev_rv ad v) = ev_rv ad v) (hfit : fits (if kd = 0 then .int else .long) (ev_rv ad v) = true)
    (kk : ev_W p l e s m args below meth c D cI cZ cS ad A Q j (pc + 3) L st (ev_up σ i k x)) : ev_W p l e s m args below meth c D cI cZ cS ad A Q j pc L (v :: .inr (.inl i) :: st) σ := by
  intro H locs ls hP hS hl
  have hb := (Bool.and_eq_true _ _).mp hck
  have hc := of_decide_eq_true hb.1
  have hb2 : (ev_ct cc k).2.2.2 = false ∧ parseFieldDescriptor (ev_ct cc k).2.2.1 = some (if kd = 0 then .int else .long) := by
    have := hb.2
    simp only [hkd, decide_false, Bool.false_or, decide_eq_true_eq] at this
    exact this
  have hw := ev_frs_ok _ hm
  have hat : (ev_wd cI cZ cS ad σ)[i.toNat]? = some (ad i, .inr (cc, (List.range (ev_N cc)).map (ev_fv ad σ i cc))) := ev_at hi (by omega) (ev_e_obj hi hc.1)
  have hset : (ev_wd cI cZ cS ad σ).set i.toNat (ad i, .inr (cc, ((List.range (ev_N cc)).map (ev_fv ad σ i cc)).set k (ev_rv ad v))) = ev_wd cI cZ cS ad (ev_up σ i k x) := by
    refine ev_wd_set (ev_cls_in (by omega)) (fun q hq => by funext z; simp [ev_up, hq]) ?_
    rw [ev_e_obj hi hc.1, ev_fs_set hc.2.1 hv]
  have hlen : k < ((List.range (ev_N cc)).map (ev_fv ad σ i cc)).length := by simp; exact hc.2.1
  by_cases hn : ev_own j = cc
  · have hg : goodWord (ev_frw (ev_own j, cp, cc, k)) = true := by
      have := List.all_eq_true.mp ev_g1 _ hm
      simpa [hn] using this
    have hl1 := F.2.2.2.2.2.1 _ (ev_gwm hw hg)
    unfold ev_frw at hl1
    rw [if_pos hn] at hl1
    refine va_put F.1 F.2.1 F.2.2.2.2.2.1 (ev_in_g cc hc.1) (ev_cy cc) (ev_ty_ok cc hc.1) (ev_nm_ok cc hc.1) F.2.2.2.2.1 F.2.2.2.2.2.2.1 hP (F.2.2.2.2.2.2.2.2.2 σ) hS i.toNat hat (ev_cl_at cc hc.1) k hc.2.1 hl1 (fun _ h => by rw [hc.2.2.2.2] at h; exact h) hb2.1 hb2.2 hnar hfit hlen hd (fun H1 locs1 hP1 hD1 hS1 => ?_)
    rw [hset] at hP1
    exact kk H1 locs1 ls hP1 hS1 hl
  · have hl1 := F.2.2.2.2.2.2.2.1.1 _ hm hn
    have hl2 := va_Nw.use (A := args) (by unfold ev_frw; rw [if_neg hn]; rfl) hl1
    unfold ev_frw at hl2
    rw [if_neg hn] at hl2
    refine va_putN F.1 F.2.1 F.2.2.2.2.2.1 (ev_in_g cc hc.1) (ev_cy cc) (ev_ty_ok cc hc.1) (ev_nm_ok cc hc.1) F.2.2.2.2.1 F.2.2.2.2.2.2.1 hP (F.2.2.2.2.2.2.2.2.2 σ) hS i.toNat hat (ev_cl_at cc hc.1) k hc.2.1 hl2 (fun _ h => by rw [hc.2.2.2.2] at h; exact h) hb2.1 hb2.2 hnar hfit hlen hd (fun H1 locs1 hP1 hD1 hS1 => ?_)
    rw [hset] at hP1
    exact kk H1 locs1 ls hP1 hS1 hl
theorem sd_iald (F : ev_F p s m args meth c D cI cZ cS ad A j) {i k : Int} (hd : decode (ev_bc j) pc = .ok (.iaload, 1)) (hi : ev_cls i = 12) (h0 : 0 ≤ ev_wr k) (h1 : ev_wr k < ev_len i)
    (kk : ev_W p l e s m args below meth c D cI cZ cS ad A Q j (pc + 1) L (.inl (σ i (ev_wr k)) :: st) σ) : ev_W p l e s m args below meth c D cI cZ cS ad A Q j pc L (.inl k :: .inr (.inl i) :: st) σ := by
  intro H locs ls hP hS hl
  refine va_iald F.1 F.2.1 F.2.2.2.2.2.2.1 hP i.toNat 0 (ev_at hi (by omega) (ev_e_int hi)) rfl (ev_vin h0 h1) hd ?_
  have h := kk H locs ls hP hS hl
  rw [ev_clamp, show (((ev_wr k).toNat : Nat) : Int) = ev_wr k by omega]
  exact h
theorem sd_zald (F : ev_F p s m args meth c D cI cZ cS ad A j) {i k : Int} (hd : decode (ev_bc j) pc = .ok (.baload, 1)) (hi : ev_cls i = 13) (h0 : 0 ≤ ev_wr k) (h1 : ev_wr k < ev_len i)
    (kk : ev_W p l e s m args below meth c D cI cZ cS ad A Q j (pc + 1) L (.inl (σ i (ev_wr k)) :: st) σ) : ev_W p l e s m args below meth c D cI cZ cS ad A Q j pc L (.inl k :: .inr (.inl i) :: st) σ := by
  intro H locs ls hP hS hl
  refine va_zald F.1 F.2.1 F.2.2.2.2.2.2.1 hP i.toNat 1 (ev_at hi (by omega) (ev_e_bool hi)) rfl (ev_vin h0 h1) hd ?_
  have h := kk H locs ls hP hS hl
  rw [ev_clamp, show (((ev_wr k).toNat : Nat) : Int) = ev_wr k by omega]
  exact h
theorem sd_aald (F : ev_F p s m args meth c D cI cZ cS ad A j) {i k : Int} (hd : decode (ev_bc j) pc = .ok (.aaload, 1)) (hi : ev_cls i = 14) (h0 : 0 ≤ ev_wr k) (h1 : ev_wr k < ev_len i)
    (kk : ev_W p l e s m args below meth c D cI cZ cS ad A Q j (pc + 1) L (.inr (.inl (σ i (ev_wr k))) :: st) σ) : ev_W p l e s m args below meth c D cI cZ cS ad A Q j pc L (.inl k :: .inr (.inl i) :: st) σ := by
  intro H locs ls hP hS hl
  refine va_aldq (C := "BridgeRounds$State") F.1 F.2.1 F.2.2.2.2.2.2.1 hP i.toNat 2 (ev_at hi (by omega) (ev_e_st hi)) rfl (ev_vin h0 h1) hd ?_
  have h := kk H locs ls hP hS hl
  rw [ev_clamp]
  simp only [va_rf]
  rw [show (((ev_wr k).toNat : Nat) : Int) = ev_wr k by omega]
  exact h
theorem ev_upd_f {k v : Int} {i : Int} (h0 : 0 ≤ ev_wr k) : (fun q : Nat => Int32.ofInt (ev_up σ i (ev_wr k) v i (q : Int))) = upd (fun q : Nat => Int32.ofInt (σ i (q : Int))) (ev_wr k).toNat (Int32.ofInt v) := by
  funext q
  unfold upd ev_up
  by_cases h : q = (ev_wr k).toNat
  · have : (q : Int) = ev_wr k := by omega
    rw [if_pos h, if_pos ⟨rfl, this⟩]
  · have : ¬ (q : Int) = ev_wr k := by omega
    rw [if_neg h, if_neg (fun z => this z.2)]
theorem sd_iast (F : ev_F p s m args meth c D cI cZ cS ad A j) {i k v : Int} (hd : decode (ev_bc j) pc = .ok (.iastore, 1)) (hi : ev_cls i = 12) (h0 : 0 ≤ ev_wr k) (h1 : ev_wr k < ev_len i)
    (kk : ev_W p l e s m args below meth c D cI cZ cS ad A Q j (pc + 1) L st (ev_up σ i (ev_wr k) v)) : ev_W p l e s m args below meth c D cI cZ cS ad A Q j pc L (.inl v :: .inl k :: .inr (.inl i) :: st) σ := by
  intro H locs ls hP hS hl
  refine va_iast F.1 F.2.1 F.2.2.2.2.2.2.1 hP (F.2.2.2.2.2.2.2.2.2 σ) hS i.toNat 0 (ev_at hi (by omega) (ev_e_int hi)) rfl (ev_vin h0 h1) hd (fun H1 locs1 hP1 hD1 hS1 => ?_)
  have hset := ev_wd_set (cI := cI) (cZ := cZ) (cS := cS) (ad := ad) (σ := σ) (σ' := ev_up σ i (ev_wr k) v) (ev_cls_in (i := i) (by omega)) (fun q hq => by funext z; simp [ev_up, hq]) (ev_e_int hi)
  rw [ev_upd_f h0] at hset
  rw [ev_clamp, hset] at hP1
  exact kk H1 locs1 ls hP1 hS1 hl
theorem sd_zast (F : ev_F p s m args meth c D cI cZ cS ad A j) {i k v : Int} (hd : decode (ev_bc j) pc = .ok (.bastore, 1)) (hi : ev_cls i = 13) (h0 : 0 ≤ ev_wr k) (h1 : ev_wr k < ev_len i) (hv : 0 ≤ v ∧ v ≤ 1)
    (kk : ev_W p l e s m args below meth c D cI cZ cS ad A Q j (pc + 1) L st (ev_up σ i (ev_wr k) v)) : ev_W p l e s m args below meth c D cI cZ cS ad A Q j pc L (.inl v :: .inl k :: .inr (.inl i) :: st) σ := by
  intro H locs ls hP hS hl
  refine va_zast F.1 F.2.1 F.2.2.2.2.2.2.1 hP (F.2.2.2.2.2.2.2.2.2 σ) hS i.toNat 1 (ev_at hi (by omega) (ev_e_bool hi)) rfl (ev_vin h0 h1) hd (fun H1 locs1 hP1 hD1 hS1 => ?_)
  have hset := ev_wd_set (cI := cI) (cZ := cZ) (cS := cS) (ad := ad) (σ := σ) (σ' := ev_up σ i (ev_wr k) v) (ev_cls_in (i := i) (by omega)) (fun q hq => by funext z; simp [ev_up, hq]) (ev_e_bool hi)
  rw [ev_upd_f h0] at hset
  have hn : vp_nar .boolean (Int32.ofInt v) = Int32.ofInt v := by
    rcases (show v = 0 ∨ v = 1 by omega) with rfl | rfl <;> decide
  rw [hn, ev_clamp, hset] at hP1
  exact kk H1 locs1 ls hP1 hS1 hl
theorem sd_aast (F : ev_F p s m args meth c D cI cZ cS ad A j) {i k v : Int} (hd : decode (ev_bc j) pc = .ok (.aastore, 1)) (hi : ev_cls i = 14) (h0 : 0 ≤ ev_wr k) (h1 : ev_wr k < ev_len i) (hv : ev_cls v = 7)
    (kk : ev_W p l e s m args below meth c D cI cZ cS ad A Q j (pc + 1) L st (ev_up σ i (ev_wr k) v)) : ev_W p l e s m args below meth c D cI cZ cS ad A Q j pc L (.inr (.inl v) :: .inl k :: .inr (.inl i) :: st) σ := by
  intro H locs ls hP hS hl
  refine va_astq (r := (ev_cn 7, ev_ct 7, ev_N 7)) F.1 F.2.1 F.2.2.2.2.2.2.1 hP (F.2.2.2.2.2.2.2.2.2 σ) hS i.toNat 2 v.toNat 7 (ev_at hi (by omega) (ev_e_st hi)) rfl (ev_at hv (by omega) (ev_e_obj hv (by omega))) (ev_cl_at 7 (by omega)) (ev_vin h0 h1) hd (fun H1 locs1 hP1 hD1 hS1 => ?_)
  have hset := ev_wd_set (cI := cI) (cZ := cZ) (cS := cS) (ad := ad) (σ := σ) (σ' := ev_up σ i (ev_wr k) v) (ev_cls_in (i := i) (by omega)) (fun q hq => by funext z; simp [ev_up, hq]) (ev_e_st hi)
  have hf : (fun q : Nat => some (ad (ev_up σ i (ev_wr k) v i (q : Int)))) = va_up (fun q : Nat => some (ad (σ i (q : Int)))) (ev_wr k).toNat (some (ad v)) := by
    funext q
    unfold va_up ev_up
    by_cases h : q = (ev_wr k).toNat
    · have : (q : Int) = ev_wr k := by omega
      rw [if_pos h, if_pos ⟨rfl, this⟩]
    · have : ¬ (q : Int) = ev_wr k := by omega
      rw [if_neg h, if_neg (fun z => this z.2)]
  rw [hf] at hset
  rw [ev_clamp, hset] at hP1
  exact kk H1 locs1 ls hP1 hS1 hl
end SNF
