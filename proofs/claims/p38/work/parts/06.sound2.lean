def ev_swi (k : Nat) : Instr × Nat := match k with
  | 0 => (.tableswitch 66 0 7 #[47, 49, 49, 51, 54, 57, 60, 63], 47)
  | 1 => (.tableswitch 169 0 10 #[59, 70, 81, 92, 103, 114, 122, 130, 138, 146, 154], 59)
  | 2 => (.tableswitch 82 0 3 #[30, 43, 56, 69], 30)
  | 3 => (.tableswitch 180 0 8 #[50, 63, 76, 92, 105, 118, 130, 147, 168], 50)
  | 4 => (.tableswitch 134 0 5 #[38, 52, 66, 80, 94, 120], 38)
  | 5 => (.tableswitch 90 0 3 #[30, 43, 56, 69], 30)
  | 6 => (.lookupswitch 80 #[(0, 34), (5, 47), (6, 71)], 34)
  | _ => (.tableswitch 375 0 16 #[82, 94, 127, 145, 145, 177, 177, 200, 216, 236, 236, 250, 250, 256, 314, 314, 332], 82)
/-! an instruction each -/
def ev_in (op : ev_O) : Instr × Nat := match op with
  | (0, k, f, _, _) => if f = 0 then (.iload_n (Fin.ofNat 4 k), 1) else (.iload k, 2)
  | (1, k, f, _, _) => if f = 0 then (.aload_n (Fin.ofNat 4 k), 1) else (.aload k, 2)
  | (2, k, f, _, _) => if f = 0 then (.lload_n (Fin.ofNat 4 k), 1) else (.lload k, 2)
  | (3, k, f, _, _) => if f = 0 then (.istore_n (Fin.ofNat 4 k), 1) else (.istore k, 2)
  | (4, k, f, _, _) => if f = 0 then (.astore_n (Fin.ofNat 4 k), 1) else (.astore k, 2)
  | (5, k, f, _, _) => if f = 0 then (.lstore_n (Fin.ofNat 4 k), 1) else (.lstore k, 2)
  | (6, f, _, z, _) => if f = 0 then (.iconst z, 1) else if f = 1 then (.bipush z, 2) else (.sipush z, 3)
  | (7, k, _, _, _) => (.ldc k, 2)
  | (8, k, _, _, _) => (.ldc2_w k, 3)
  | (9, _, _, _, _) => (.lcmp, 1)
  | (10, _, _, _, _) => (.iadd, 1)
  | (11, _, _, _, _) => (.isub, 1)
  | (12, _, _, _, _) => (.imul, 1)
  | (13, _, _, _, _) => (.idiv, 1)
  | (14, _, _, _, _) => (.irem, 1)
  | (15, _, _, _, _) => (.iand, 1)
  | (16, _, _, _, _) => (.ior, 1)
  | (17, _, _, _, _) => (.ixor, 1)
  | (18, _, _, _, _) => (.ishl, 1)
  | (19, _, _, _, _) => (.ishr, 1)
  | (20, _, _, _, _) => (.ladd, 1)
  | (21, _, _, _, _) => (.lmul, 1)
  | (22, _, _, _, _) => (.i2l, 1)
  | (23, k, _, z, _) => (.iinc k z, 3)
  | (24, _, _, _, _) => (.dup, 1)
  | (25, _, _, _, _) => (.dup2, 1)
  | (26, _, _, _, _) => (.pop, 1)
  | (27, k, _, _, _) => (.getfield k, 3)
  | (28, k, _, _, _) => (.getfield k, 3)
  | (29, k, _, _, _) => (.getfield k, 3)
  | (30, k, _, _, _) => (.putfield k, 3)
  | (31, k, _, _, _) => (.putfield k, 3)
  | (32, _, _, _, _) => (.iaload, 1)
  | (33, _, _, _, _) => (.iastore, 1)
  | (34, _, _, _, _) => (.baload, 1)
  | (35, _, _, _, _) => (.bastore, 1)
  | (36, _, _, _, _) => (.aaload, 1)
  | (37, _, _, _, _) => (.aastore, 1)
  | (38, k, _, _, _) => (.invokestatic k, 3)
  | (40, _, _, z, _) => (.if_icmp .eq z, 3)
  | (41, _, _, z, _) => (.if_icmp .ne z, 3)
  | (42, _, _, z, _) => (.if_icmp .lt z, 3)
  | (43, _, _, z, _) => (.if_icmp .ge z, 3)
  | (44, _, _, z, _) => (.if_icmp .gt z, 3)
  | (45, _, _, z, _) => (.if_icmp .le z, 3)
  | (46, _, _, z, _) => (.ifCond .eq z, 3)
  | (47, _, _, z, _) => (.ifCond .ne z, 3)
  | (48, _, _, z, _) => (.ifCond .lt z, 3)
  | (49, _, _, z, _) => (.ifCond .ge z, 3)
  | (50, _, _, z, _) => (.ifCond .gt z, 3)
  | (51, _, _, z, _) => (.ifCond .le z, 3)
  | (52, _, _, z, _) => (.goto z, 3)
  | (54, k, _, _, _) => ev_swi k
  | (55, k, _, _, _) => ev_swi k
  | (56, _, _, _, _) => (.ireturn, 1)
  | (57, _, _, _, _) => (.lreturn, 1)
  | (58, _, _, _, _) => (.return_, 1)
  | (59, _, _, z, _) => (.invokevirtual z.toNat, 3)
  | (60, _, _, z, _) => (.invokestatic z.toNat, 3)
  | (61, k, _, _, _) => (.invokestatic k, 3)
  | (62, k, _, _, _) => (.invokestatic k, 3)
  | (63, k, _, _, _) => (.invokestatic k, 3)
  | _ => (.nop, 1)
def ev_NW (U : State) : Prop := (∀ q ∈ ev_frs, q.1 ≠ q.2.2.1 → va_Nw (ev_frw q) U) ∧ (∀ q ∈ ev_mrs, ¬ q.2.2.2 < 2 → va_Nw (ev_mrw q) U)
abbrev ev_ty (cI cZ cS : ClassId) : List (ClassId × FieldType) := [(cI, .int), (cZ, .boolean), (cS, .object "BridgeRounds$State")]
def ev_F (p : Program) (s : State) (m : MethodId) (args : Array Value) (meth : Method) (c : Code) (D : va_G) (cI cZ cS : ClassId) (ad : Int → Nat) (A : Nat → Prop) (j : Nat) : Prop :=
  p.tables.exec = Jvm.exec ∧ c.code = ev_bc j ∧ meth.sig.returnType = ev_ret j ∧ c.maxLocals = ev_mxl j ∧ s.vm.findClass (ev_cn (ev_own j)) = some m.cls ∧ (∀ w ∈ ev_gw, w.before args s = true) ∧ va_K D vwCl (ev_ty cI cZ cS) s ∧ ev_NW s ∧ meth.locks = false ∧ ∀ σ, va_D A (ev_wd cI cZ cS ad σ)
def ev_W (p : Program) (l : Launch) (e : Env) (s : State) (m : MethodId) (args : Array Value) (below : List Frame) (meth : Method) (c : Code) (D : va_G) (cI cZ cS : ClassId) (ad : Int → Nat) (A : Nat → Prop) (Q : State → Prop) (j pc : Nat) (L : ev_L) (st : List ev_V) (σ : ev_M) : Prop :=
  ∀ (H : Heap) (locs : List Loc) (ls : Array Slot), va_P D vwCl (ev_wd cI cZ cS ad σ) H → va_S A s.heap H locs → ev_lh ad ls (ev_mxl j) L → W p l e (headSpec (ev_wo j) (ev_rm j)).room s m args below meth c H locs (ev_c0 j) (ev_c1 j) Q (F0 m pc ls (st.map (ev_rv ad)))
theorem ev_c0_le (j : Nat) : ev_c0 j ≤ (ev_rm j).cells := by
  unfold ev_c0 ev_rm
  split
  · exact Nat.le_of_ble_eq_true rfl
  · exact Nat.le_refl _
theorem ev_c1_le (j : Nat) : ev_c1 j ≤ (ev_rm j).slots := by
  unfold ev_c1 ev_rm
  split
  · exact Nat.le_of_ble_eq_true rfl
  · exact Nat.le_refl _
theorem ev_rm0 {j : Nat} (h : j < 113) : (ev_rm j).cells = 0 ∧ (ev_rm j).slots = 0 := by
  unfold ev_rm
  rw [if_neg (by omega)]
  exact ⟨rfl, rfl⟩
theorem ev_c00 {j : Nat} (h : j < 113) : ev_c0 j = 0 ∧ ev_c1 j = 0 := by
  unfold ev_c0 ev_c1
  rw [if_neg (by omega), if_neg (by omega)]
  exact ⟨rfl, rfl⟩
theorem ev_oi_lc (a b : Int64) : Int32.ofInt (ev_lc a b) = lg_cmp a b := by
  unfold ev_lc lg_cmp
  by_cases h1 : b < a
  · rw [if_pos h1, if_pos h1]; rfl
  · rw [if_neg h1, if_neg h1]
    by_cases h2 : a = b
    · rw [if_pos h2, if_pos h2]; rfl
    · rw [if_neg h2, if_neg h2]; rfl
theorem ev_fin {k : Nat} (h : k < 4) : ((Fin.ofNat 4 k : Fin 4) : Nat) = k := by
  simp [Fin.ofNat, Nat.mod_eq_of_lt h]
section SND
variable {p : Program} {l : Launch} {e : Env} {s : State} {m : MethodId} {args : Array Value} {below : List Frame} {meth : Method} {c : Code} {D : va_G} {cI cZ cS : ClassId} {ad : Int → Nat} {A : Nat → Prop} {Q : State → Prop} {j pc : Nat} {L : ev_L} {st : List ev_V} {σ : ev_M}
theorem sd_iload (F : ev_F p s m args meth c D cI cZ cS ad A j) {k f : Nat} {x : Int} (hd : decode (ev_bc j) pc = .ok (if f = 0 then (.iload_n (Fin.ofNat 4 k), 1) else (.iload k, 2))) (hk : f = 0 → k < 4) (hg : ev_get L k = some (.inl x))
    (kk : ev_W p l e s m args below meth c D cI cZ cS ad A Q j (pc + if f = 0 then 1 else 2) L (.inl x :: st) σ) : ev_W p l e s m args below meth c D cI cZ cS ad A Q j pc L st σ := by
  intro H locs ls hP hS hl
  have h1 := ev_lh_get hl hg
  by_cases hf : f = 0
  · rw [if_pos hf] at hd kk
    exact lv_iload_n F.1 F.2.1 hd (ev_fin (hk hf)) h1 (kk H locs ls hP hS hl)
  · rw [if_neg hf] at hd kk
    exact lv_iload F.1 F.2.1 hd h1 (kk H locs ls hP hS hl)
theorem sd_aload (F : ev_F p s m args meth c D cI cZ cS ad A j) {k f : Nat} {x : Int} (hd : decode (ev_bc j) pc = .ok (if f = 0 then (.aload_n (Fin.ofNat 4 k), 1) else (.aload k, 2))) (hk : f = 0 → k < 4) (hg : ev_get L k = some (.inr (.inl x)))
    (kk : ev_W p l e s m args below meth c D cI cZ cS ad A Q j (pc + if f = 0 then 1 else 2) L (.inr (.inl x) :: st) σ) : ev_W p l e s m args below meth c D cI cZ cS ad A Q j pc L st σ := by
  intro H locs ls hP hS hl
  have h1 := ev_lh_get hl hg
  by_cases hf : f = 0
  · rw [if_pos hf] at hd kk
    exact lv_aload_n F.1 F.2.1 hd (ev_fin (hk hf)) h1 (kk H locs ls hP hS hl)
  · rw [if_neg hf] at hd kk
    exact lv_aload F.1 F.2.1 hd h1 (kk H locs ls hP hS hl)
theorem sd_lload (F : ev_F p s m args meth c D cI cZ cS ad A j) {k f : Nat} {x : Int64} (hd : decode (ev_bc j) pc = .ok (if f = 0 then (.lload_n (Fin.ofNat 4 k), 1) else (.lload k, 2))) (hk : f = 0 → k < 4) (hg : ev_get L k = some (.inr (.inr x)))
    (kk : ev_W p l e s m args below meth c D cI cZ cS ad A Q j (pc + if f = 0 then 1 else 2) L (.inr (.inr x) :: st) σ) : ev_W p l e s m args below meth c D cI cZ cS ad A Q j pc L st σ := by
  intro H locs ls hP hS hl
  have h1 := ev_lh_get hl hg
  by_cases hf : f = 0
  · rw [if_pos hf] at hd kk
    exact lv_lload_n F.1 F.2.1 hd (ev_fin (hk hf)) h1 (kk H locs ls hP hS hl)
  · rw [if_neg hf] at hd kk
    exact lv_lload F.1 F.2.1 hd h1 (kk H locs ls hP hS hl)
theorem sd_istore (F : ev_F p s m args meth c D cI cZ cS ad A j) {k f : Nat} {x : Int} (hd : decode (ev_bc j) pc = .ok (if f = 0 then (.istore_n (Fin.ofNat 4 k), 1) else (.istore k, 2))) (hk : f = 0 → k < 4) (hn : ev_nl L k = true) (hlt : k < L.length)
    (kk : ev_W p l e s m args below meth c D cI cZ cS ad A Q j (pc + if f = 0 then 1 else 2) (ev_set L k (some (.inl x))) st σ) : ev_W p l e s m args below meth c D cI cZ cS ad A Q j pc L (.inl x :: st) σ := by
  intro H locs ls hP hS hl
  by_cases hf : f = 0
  · rw [if_pos hf] at hd kk
    exact lv_istore_n F.1 F.2.1 hd (ev_fin (hk hf)) hl.2 (by rw [← hl.1]; exact hlt) rfl (fun ls' h' => kk H locs ls' hP hS (ev_lh_store1 (v := .inl x) hl.1 hn h'))
  · rw [if_neg hf] at hd kk
    exact lv_istore F.1 F.2.1 hd hl.2 (by rw [← hl.1]; exact hlt) rfl (fun ls' h' => kk H locs ls' hP hS (ev_lh_store1 (v := .inl x) hl.1 hn h'))
theorem sd_astore (F : ev_F p s m args meth c D cI cZ cS ad A j) {k f : Nat} {x : Int} (hd : decode (ev_bc j) pc = .ok (if f = 0 then (.astore_n (Fin.ofNat 4 k), 1) else (.astore k, 2))) (hk : f = 0 → k < 4) (hn : ev_nl L k = true) (hlt : k < L.length)
    (kk : ev_W p l e s m args below meth c D cI cZ cS ad A Q j (pc + if f = 0 then 1 else 2) (ev_set L k (some (.inr (.inl x)))) st σ) : ev_W p l e s m args below meth c D cI cZ cS ad A Q j pc L (.inr (.inl x) :: st) σ := by
  intro H locs ls hP hS hl
  by_cases hf : f = 0
  · rw [if_pos hf] at hd kk
    exact lv_astore_n F.1 F.2.1 hd (ev_fin (hk hf)) hl.2 (by rw [← hl.1]; exact hlt) rfl (fun ls' h' => kk H locs ls' hP hS (ev_lh_store1 (v := .inr (.inl x)) hl.1 hn h'))
  · rw [if_neg hf] at hd kk
    exact lv_astore F.1 F.2.1 hd hl.2 (by rw [← hl.1]; exact hlt) rfl (fun ls' h' => kk H locs ls' hP hS (ev_lh_store1 (v := .inr (.inl x)) hl.1 hn h'))
theorem sd_lstore (F : ev_F p s m args meth c D cI cZ cS ad A j) {k f : Nat} {x : Int64} (hd : decode (ev_bc j) pc = .ok (if f = 0 then (.lstore_n (Fin.ofNat 4 k), 1) else (.lstore k, 2))) (hk : f = 0 → k < 4) (hn : ev_nl L k = true) (hlt : k + 1 < L.length)
    (kk : ev_W p l e s m args below meth c D cI cZ cS ad A Q j (pc + if f = 0 then 1 else 2) (ev_set (ev_set L (k + 1) none) k (some (.inr (.inr x)))) st σ) : ev_W p l e s m args below meth c D cI cZ cS ad A Q j pc L (.inr (.inr x) :: st) σ := by
  intro H locs ls hP hS hl
  by_cases hf : f = 0
  · rw [if_pos hf] at hd kk
    exact lv_lstore_n F.1 F.2.1 hd (ev_fin (hk hf)) hl.2 (by rw [← hl.1]; exact hlt) rfl (fun ls' h' => kk H locs ls' hP hS (ev_lh_store2 (v := .inr (.inr x)) hl.1 hn h'))
  · rw [if_neg hf] at hd kk
    exact lv_lstore F.1 F.2.1 hd hl.2 (by rw [← hl.1]; exact hlt) rfl (fun ls' h' => kk H locs ls' hP hS (ev_lh_store2 (v := .inr (.inr x)) hl.1 hn h'))
theorem sd_const (F : ev_F p s m args meth c D cI cZ cS ad A j) {f : Nat} {z : Int} (hd : decode (ev_bc j) pc = .ok (if f = 0 then (.iconst z, 1) else if f = 1 then (.bipush z, 2) else (.sipush z, 3))) (h1 : f = 1 → (Int8.ofInt z).toInt32 = Int32.ofInt z) (h2 : (Int16.ofInt z).toInt32 = Int32.ofInt z)
    (kk : ev_W p l e s m args below meth c D cI cZ cS ad A Q j (pc + if f = 0 then 1 else if f = 1 then 2 else 3) L (.inl z :: st) σ) : ev_W p l e s m args below meth c D cI cZ cS ad A Q j pc L st σ := by
  intro H locs ls hP hS hl
  by_cases hf : f = 0
  · rw [if_pos hf] at hd kk
    exact lv_iconst F.1 F.2.1 hd rfl (kk H locs ls hP hS hl)
  · rw [if_neg hf] at hd kk
    by_cases hf1 : f = 1
    · rw [if_pos hf1] at hd kk
      exact lv_bipush F.1 F.2.1 hd (h1 hf1) (kk H locs ls hP hS hl)
    · rw [if_neg hf1] at hd kk
      exact lv_sipush F.1 F.2.1 hd h2 (kk H locs ls hP hS hl)
theorem sd_ldc (F : ev_F p s m args meth c D cI cZ cS ad A j) {k : Nat} {z : Int} (hd : decode (ev_bc j) pc = .ok (.ldc k, 2)) (hw : Cond.constant (ev_cn (ev_own j)) k (Int32.ofInt z) ∈ ev_gw)
    (kk : ev_W p l e s m args below meth c D cI cZ cS ad A Q j (pc + 2) L (.inl z :: st) σ) : ev_W p l e s m args below meth c D cI cZ cS ad A Q j pc L st σ := by
  intro H locs ls hP hS hl
  exact lv_ldc F.1 F.2.1 F.2.2.2.2.1 (F.2.2.2.2.2.1 _ hw) hd (kk H locs ls hP hS hl)
theorem sd_ldc2 (F : ev_F p s m args meth c D cI cZ cS ad A j) {k : Nat} {z : Int} (hd : decode (ev_bc j) pc = .ok (.ldc2_w k, 3)) (hw : Cond.constantLong (ev_cn (ev_own j)) k (Int64.ofInt z) ∈ ev_gw)
    (kk : ev_W p l e s m args below meth c D cI cZ cS ad A Q j (pc + 3) L (.inr (.inr (Int64.ofInt z)) :: st) σ) : ev_W p l e s m args below meth c D cI cZ cS ad A Q j pc L st σ := by
  intro H locs ls hP hS hl
  exact lv_ldc2 F.1 F.2.1 F.2.2.2.2.1 (F.2.2.2.2.2.1 _ hw) hd (kk H locs ls hP hS hl)
theorem sd_iadd (F : ev_F p s m args meth c D cI cZ cS ad A j) {x y : Int} (hd : decode (ev_bc j) pc = .ok (.iadd, 1))
    (kk : ev_W p l e s m args below meth c D cI cZ cS ad A Q j (pc + 1) L (.inl (x + y) :: st) σ) : ev_W p l e s m args below meth c D cI cZ cS ad A Q j pc L (.inl y :: .inl x :: st) σ := by
  intro H locs ls hP hS hl
  refine lv_iadd F.1 F.2.1 hd ?_
  have h := kk H locs ls hP hS hl
  simp only [List.map_cons, ev_rv] at h
  rw [ev_oi_add] at h
  exact h
theorem sd_lcmp (F : ev_F p s m args meth c D cI cZ cS ad A j) {x y : Int64} (hd : decode (ev_bc j) pc = .ok (.lcmp, 1))
    (kk : ev_W p l e s m args below meth c D cI cZ cS ad A Q j (pc + 1) L (.inl (ev_lc x y) :: st) σ) : ev_W p l e s m args below meth c D cI cZ cS ad A Q j pc L (.inr (.inr y) :: .inr (.inr x) :: st) σ := by
  intro H locs ls hP hS hl
  refine W.lcmp F.1 F.2.1 hd ?_
  have h := kk H locs ls hP hS hl
  simp only [List.map_cons, ev_rv] at h
  rw [ev_oi_lc] at h
  exact h
theorem sd_isub (F : ev_F p s m args meth c D cI cZ cS ad A j) {x y : Int} (hd : decode (ev_bc j) pc = .ok (.isub, 1))
    (kk : ev_W p l e s m args below meth c D cI cZ cS ad A Q j (pc + 1) L (.inl (x - y) :: st) σ) : ev_W p l e s m args below meth c D cI cZ cS ad A Q j pc L (.inl y :: .inl x :: st) σ := by
  intro H locs ls hP hS hl
  refine lv_isub F.1 F.2.1 hd ?_
  have h := kk H locs ls hP hS hl
  simp only [List.map_cons, ev_rv] at h
  rw [ev_oi_sub] at h
  exact h
theorem sd_imul (F : ev_F p s m args meth c D cI cZ cS ad A j) {x y : Int} (hd : decode (ev_bc j) pc = .ok (.imul, 1))
    (kk : ev_W p l e s m args below meth c D cI cZ cS ad A Q j (pc + 1) L (.inl (x * y) :: st) σ) : ev_W p l e s m args below meth c D cI cZ cS ad A Q j pc L (.inl y :: .inl x :: st) σ := by
  intro H locs ls hP hS hl
  refine lv_imul F.1 F.2.1 hd ?_
  have h := kk H locs ls hP hS hl
  simp only [List.map_cons, ev_rv] at h
  rw [ev_oi_mul] at h
  exact h
theorem sd_idiv (F : ev_F p s m args meth c D cI cZ cS ad A j) {x y : Int} (hd : decode (ev_bc j) pc = .ok (.idiv, 1)) (hne : ¬ ev_wr y = 0)
    (kk : ev_W p l e s m args below meth c D cI cZ cS ad A Q j (pc + 1) L (.inl (ev_div x y) :: st) σ) : ev_W p l e s m args below meth c D cI cZ cS ad A Q j pc L (.inl y :: .inl x :: st) σ := by
  intro H locs ls hP hS hl
  refine lv_idiv F.1 F.2.1 hd (fun h0 => hne (by rw [← ev_wr_0, ← ev_oi_inj]; exact h0)) ?_
  have h := kk H locs ls hP hS hl
  simp only [List.map_cons, ev_rv] at h
  rw [ev_oi_div] at h
  exact h
theorem sd_irem (F : ev_F p s m args meth c D cI cZ cS ad A j) {x y : Int} (hd : decode (ev_bc j) pc = .ok (.irem, 1)) (hne : ¬ ev_wr y = 0)
    (kk : ev_W p l e s m args below meth c D cI cZ cS ad A Q j (pc + 1) L (.inl (ev_rem x y) :: st) σ) : ev_W p l e s m args below meth c D cI cZ cS ad A Q j pc L (.inl y :: .inl x :: st) σ := by
  intro H locs ls hP hS hl
  refine lv_irem F.1 F.2.1 hd (fun h0 => hne (by rw [← ev_wr_0, ← ev_oi_inj]; exact h0)) ?_
  have h := kk H locs ls hP hS hl
  simp only [List.map_cons, ev_rv] at h
  rw [ev_oi_rem] at h
  exact h
theorem sd_iand (F : ev_F p s m args meth c D cI cZ cS ad A j) {x y : Int} (hd : decode (ev_bc j) pc = .ok (.iand, 1))
    (kk : ev_W p l e s m args below meth c D cI cZ cS ad A Q j (pc + 1) L (.inl (ev_and x y) :: st) σ) : ev_W p l e s m args below meth c D cI cZ cS ad A Q j pc L (.inl y :: .inl x :: st) σ := by
  intro H locs ls hP hS hl
  refine lv_iand F.1 F.2.1 hd ?_
  have h := kk H locs ls hP hS hl
  simp only [List.map_cons, ev_rv] at h
  rw [ev_and, ev_oi_ti] at h
  exact h
theorem sd_ior (F : ev_F p s m args meth c D cI cZ cS ad A j) {x y : Int} (hd : decode (ev_bc j) pc = .ok (.ior, 1))
    (kk : ev_W p l e s m args below meth c D cI cZ cS ad A Q j (pc + 1) L (.inl (ev_or x y) :: st) σ) : ev_W p l e s m args below meth c D cI cZ cS ad A Q j pc L (.inl y :: .inl x :: st) σ := by
  intro H locs ls hP hS hl
  refine lv_ior F.1 F.2.1 hd ?_
  have h := kk H locs ls hP hS hl
  simp only [List.map_cons, ev_rv] at h
  rw [ev_or, ev_oi_ti] at h
  exact h
theorem sd_ixor (F : ev_F p s m args meth c D cI cZ cS ad A j) {x y : Int} (hd : decode (ev_bc j) pc = .ok (.ixor, 1))
    (kk : ev_W p l e s m args below meth c D cI cZ cS ad A Q j (pc + 1) L (.inl (ev_xor x y) :: st) σ) : ev_W p l e s m args below meth c D cI cZ cS ad A Q j pc L (.inl y :: .inl x :: st) σ := by
  intro H locs ls hP hS hl
  refine lv_ixor F.1 F.2.1 hd ?_
  have h := kk H locs ls hP hS hl
  simp only [List.map_cons, ev_rv] at h
  rw [ev_xor, ev_oi_ti] at h
  exact h
theorem sd_ishl (F : ev_F p s m args meth c D cI cZ cS ad A j) {x y : Int} (hd : decode (ev_bc j) pc = .ok (.ishl, 1))
    (kk : ev_W p l e s m args below meth c D cI cZ cS ad A Q j (pc + 1) L (.inl (ev_shl x y) :: st) σ) : ev_W p l e s m args below meth c D cI cZ cS ad A Q j pc L (.inl y :: .inl x :: st) σ := by
  intro H locs ls hP hS hl
  refine lv_ishl F.1 F.2.1 hd ?_
  have h := kk H locs ls hP hS hl
  simp only [List.map_cons, ev_rv] at h
  rw [ev_shl, ev_oi_ti] at h
  exact h
theorem sd_ishr (F : ev_F p s m args meth c D cI cZ cS ad A j) {x y : Int} (hd : decode (ev_bc j) pc = .ok (.ishr, 1))
    (kk : ev_W p l e s m args below meth c D cI cZ cS ad A Q j (pc + 1) L (.inl (ev_shr x y) :: st) σ) : ev_W p l e s m args below meth c D cI cZ cS ad A Q j pc L (.inl y :: .inl x :: st) σ := by
  intro H locs ls hP hS hl
  refine lv_ishr F.1 F.2.1 hd ?_
  have h := kk H locs ls hP hS hl
  simp only [List.map_cons, ev_rv] at h
  rw [ev_shr, ev_oi_ti] at h
  exact h
theorem sd_ladd (F : ev_F p s m args meth c D cI cZ cS ad A j) {x y : Int64} (hd : decode (ev_bc j) pc = .ok (.ladd, 1))
    (kk : ev_W p l e s m args below meth c D cI cZ cS ad A Q j (pc + 1) L (.inr (.inr (x + y)) :: st) σ) : ev_W p l e s m args below meth c D cI cZ cS ad A Q j pc L (.inr (.inr y) :: .inr (.inr x) :: st) σ := by
  intro H locs ls hP hS hl
  exact lv_ladd F.1 F.2.1 hd (kk H locs ls hP hS hl)
theorem sd_lmul (F : ev_F p s m args meth c D cI cZ cS ad A j) {x y : Int64} (hd : decode (ev_bc j) pc = .ok (.lmul, 1))
    (kk : ev_W p l e s m args below meth c D cI cZ cS ad A Q j (pc + 1) L (.inr (.inr (x * y)) :: st) σ) : ev_W p l e s m args below meth c D cI cZ cS ad A Q j pc L (.inr (.inr y) :: .inr (.inr x) :: st) σ := by
  intro H locs ls hP hS hl
  exact lv_lmul F.1 F.2.1 hd (kk H locs ls hP hS hl)
theorem sd_br {B : Prop} [Decidable B] {t1 t2 : Nat} (kk : ev_W p l e s m args below meth c D cI cZ cS ad A Q j (if B then t1 else t2) L st σ) : (B → ev_W p l e s m args below meth c D cI cZ cS ad A Q j t1 L st σ) ∧ (¬ B → ev_W p l e s m args below meth c D cI cZ cS ad A Q j t2 L st σ) :=
  ⟨fun h => by rw [if_pos h] at kk; exact kk, fun h => by rw [if_neg h] at kk; exact kk⟩
theorem sd_icmp_eq (F : ev_F p s m args meth c D cI cZ cS ad A j) {x y z : Int} {t : Nat} (hd : decode (ev_bc j) pc = .ok (.if_icmp .eq z, 3)) (ht : (pc : Int) + z = (t : Int))
    (kk : ev_W p l e s m args below meth c D cI cZ cS ad A Q j (if ev_wr x = ev_wr y then t else pc + 3) L st σ) : ev_W p l e s m args below meth c D cI cZ cS ad A Q j pc L (.inl y :: .inl x :: st) σ := by
  have K := sd_br kk
  intro H locs ls hP hS hl
  refine lv_icmp_eq F.1 F.2.1 hd ht (fun h => ?_) (fun h => ?_)
  · exact (fun h => K.1 (ev_oi_inj.mp h)) h H locs ls hP hS hl
  · exact (fun h => K.2 (fun q => h (ev_oi_inj.mpr q))) h H locs ls hP hS hl
theorem sd_if_eq (F : ev_F p s m args meth c D cI cZ cS ad A j) {x z : Int} {t : Nat} (hd : decode (ev_bc j) pc = .ok (.ifCond .eq z, 3)) (ht : (pc : Int) + z = (t : Int))
    (kk : ev_W p l e s m args below meth c D cI cZ cS ad A Q j (if ev_wr x = 0 then t else pc + 3) L st σ) : ev_W p l e s m args below meth c D cI cZ cS ad A Q j pc L (.inl x :: st) σ := by
  have K := sd_br kk
  intro H locs ls hP hS hl
  refine lv_if_eq F.1 F.2.1 hd ht (fun h => ?_) (fun h => ?_)
  · exact (fun h => K.1 (by rw [← ev_wr_0]; exact (ev_oi_inj (a := x) (b := 0)).mp h)) h H locs ls hP hS hl
  · exact (fun h => K.2 (fun q => h ((ev_oi_inj (a := x) (b := 0)).mpr (by rw [ev_wr_0]; exact q)))) h H locs ls hP hS hl
theorem sd_icmp_ne (F : ev_F p s m args meth c D cI cZ cS ad A j) {x y z : Int} {t : Nat} (hd : decode (ev_bc j) pc = .ok (.if_icmp .ne z, 3)) (ht : (pc : Int) + z = (t : Int))
    (kk : ev_W p l e s m args below meth c D cI cZ cS ad A Q j (if ev_wr x = ev_wr y then pc + 3 else t) L st σ) : ev_W p l e s m args below meth c D cI cZ cS ad A Q j pc L (.inl y :: .inl x :: st) σ := by
  have K := sd_br kk
  intro H locs ls hP hS hl
  refine lv_icmp_ne F.1 F.2.1 hd ht (fun h => ?_) (fun h => ?_)
  · exact (fun h => K.2 (fun q => h (ev_oi_inj.mpr q))) h H locs ls hP hS hl
  · exact (fun h => K.1 (ev_oi_inj.mp h)) h H locs ls hP hS hl
theorem sd_if_ne (F : ev_F p s m args meth c D cI cZ cS ad A j) {x z : Int} {t : Nat} (hd : decode (ev_bc j) pc = .ok (.ifCond .ne z, 3)) (ht : (pc : Int) + z = (t : Int))
    (kk : ev_W p l e s m args below meth c D cI cZ cS ad A Q j (if ev_wr x = 0 then pc + 3 else t) L st σ) : ev_W p l e s m args below meth c D cI cZ cS ad A Q j pc L (.inl x :: st) σ := by
  have K := sd_br kk
  intro H locs ls hP hS hl
  refine lv_if_ne F.1 F.2.1 hd ht (fun h => ?_) (fun h => ?_)
  · exact (fun h => K.2 (fun q => h ((ev_oi_inj (a := x) (b := 0)).mpr (by rw [ev_wr_0]; exact q)))) h H locs ls hP hS hl
  · exact (fun h => K.1 (by rw [← ev_wr_0]; exact (ev_oi_inj (a := x) (b := 0)).mp h)) h H locs ls hP hS hl
theorem sd_icmp_lt (F : ev_F p s m args meth c D cI cZ cS ad A j) {x y z : Int} {t : Nat} (hd : decode (ev_bc j) pc = .ok (.if_icmp .lt z, 3)) (ht : (pc : Int) + z = (t : Int))
    (kk : ev_W p l e s m args below meth c D cI cZ cS ad A Q j (if ev_wr x < ev_wr y then t else pc + 3) L st σ) : ev_W p l e s m args below meth c D cI cZ cS ad A Q j pc L (.inl y :: .inl x :: st) σ := by
  have K := sd_br kk
  intro H locs ls hP hS hl
  refine lv_icmp_lt F.1 F.2.1 hd ht (fun h => ?_) (fun h => ?_)
  · exact (fun h => K.1 (ev_oi_lt.mp h)) h H locs ls hP hS hl
  · exact (fun h => K.2 (fun q => h (ev_oi_lt.mpr q))) h H locs ls hP hS hl
theorem sd_if_lt (F : ev_F p s m args meth c D cI cZ cS ad A j) {x z : Int} {t : Nat} (hd : decode (ev_bc j) pc = .ok (.ifCond .lt z, 3)) (ht : (pc : Int) + z = (t : Int))
    (kk : ev_W p l e s m args below meth c D cI cZ cS ad A Q j (if ev_wr x < 0 then t else pc + 3) L st σ) : ev_W p l e s m args below meth c D cI cZ cS ad A Q j pc L (.inl x :: st) σ := by
  have K := sd_br kk
  intro H locs ls hP hS hl
  refine lv_if_lt F.1 F.2.1 hd ht (fun h => ?_) (fun h => ?_)
  · exact (fun h => K.1 (by rw [← ev_wr_0]; exact (ev_oi_lt (a := x) (b := 0)).mp h)) h H locs ls hP hS hl
  · exact (fun h => K.2 (fun q => h ((ev_oi_lt (a := x) (b := 0)).mpr (by rw [ev_wr_0]; exact q)))) h H locs ls hP hS hl
theorem sd_icmp_ge (F : ev_F p s m args meth c D cI cZ cS ad A j) {x y z : Int} {t : Nat} (hd : decode (ev_bc j) pc = .ok (.if_icmp .ge z, 3)) (ht : (pc : Int) + z = (t : Int))
    (kk : ev_W p l e s m args below meth c D cI cZ cS ad A Q j (if ev_wr x < ev_wr y then pc + 3 else t) L st σ) : ev_W p l e s m args below meth c D cI cZ cS ad A Q j pc L (.inl y :: .inl x :: st) σ := by
  have K := sd_br kk
  intro H locs ls hP hS hl
  refine lv_icmp_ge F.1 F.2.1 hd ht (fun h => ?_) (fun h => ?_)
  · exact (fun h => K.2 (by have h := ev_oi_le.mp h; omega)) h H locs ls hP hS hl
  · exact (fun h => K.1 (by have h := mt ev_oi_le.mpr h; omega)) h H locs ls hP hS hl
theorem sd_if_ge (F : ev_F p s m args meth c D cI cZ cS ad A j) {x z : Int} {t : Nat} (hd : decode (ev_bc j) pc = .ok (.ifCond .ge z, 3)) (ht : (pc : Int) + z = (t : Int))
    (kk : ev_W p l e s m args below meth c D cI cZ cS ad A Q j (if ev_wr x < 0 then pc + 3 else t) L st σ) : ev_W p l e s m args below meth c D cI cZ cS ad A Q j pc L (.inl x :: st) σ := by
  have K := sd_br kk
  intro H locs ls hP hS hl
  refine lv_if_ge F.1 F.2.1 hd ht (fun h => ?_) (fun h => ?_)
  · exact (fun h => K.2 (by have h := (ev_oi_le (a := 0) (b := x)).mp h; rw [ev_wr_0] at h; omega)) h H locs ls hP hS hl
  · exact (fun h => K.1 (by have h := mt (ev_oi_le (a := 0) (b := x)).mpr h; rw [ev_wr_0] at h; omega)) h H locs ls hP hS hl
theorem sd_icmp_gt (F : ev_F p s m args meth c D cI cZ cS ad A j) {x y z : Int} {t : Nat} (hd : decode (ev_bc j) pc = .ok (.if_icmp .gt z, 3)) (ht : (pc : Int) + z = (t : Int))
    (kk : ev_W p l e s m args below meth c D cI cZ cS ad A Q j (if ev_wr y < ev_wr x then t else pc + 3) L st σ) : ev_W p l e s m args below meth c D cI cZ cS ad A Q j pc L (.inl y :: .inl x :: st) σ := by
  have K := sd_br kk
  intro H locs ls hP hS hl
  refine lv_icmp_gt F.1 F.2.1 hd ht (fun h => ?_) (fun h => ?_)
  · exact (fun h => K.1 (ev_oi_lt.mp h)) h H locs ls hP hS hl
  · exact (fun h => K.2 (fun q => h (ev_oi_lt.mpr q))) h H locs ls hP hS hl
theorem sd_if_gt (F : ev_F p s m args meth c D cI cZ cS ad A j) {x z : Int} {t : Nat} (hd : decode (ev_bc j) pc = .ok (.ifCond .gt z, 3)) (ht : (pc : Int) + z = (t : Int))
    (kk : ev_W p l e s m args below meth c D cI cZ cS ad A Q j (if 0 < ev_wr x then t else pc + 3) L st σ) : ev_W p l e s m args below meth c D cI cZ cS ad A Q j pc L (.inl x :: st) σ := by
  have K := sd_br kk
  intro H locs ls hP hS hl
  refine lv_if_gt F.1 F.2.1 hd ht (fun h => ?_) (fun h => ?_)
  · exact (fun h => K.1 (by rw [← ev_wr_0]; exact (ev_oi_lt (a := 0) (b := x)).mp h)) h H locs ls hP hS hl
  · exact (fun h => K.2 (fun q => h ((ev_oi_lt (a := 0) (b := x)).mpr (by rw [ev_wr_0]; exact q)))) h H locs ls hP hS hl
theorem sd_icmp_le (F : ev_F p s m args meth c D cI cZ cS ad A j) {x y z : Int} {t : Nat} (hd : decode (ev_bc j) pc = .ok (.if_icmp .le z, 3)) (ht : (pc : Int) + z = (t : Int))
    (kk : ev_W p l e s m args below meth c D cI cZ cS ad A Q j (if ev_wr y < ev_wr x then pc + 3 else t) L st σ) : ev_W p l e s m args below meth c D cI cZ cS ad A Q j pc L (.inl y :: .inl x :: st) σ := by
  have K := sd_br kk
  intro H locs ls hP hS hl
  refine lv_icmp_le F.1 F.2.1 hd ht (fun h => ?_) (fun h => ?_)
  · exact (fun h => K.2 (by have h := ev_oi_le.mp h; omega)) h H locs ls hP hS hl
  · exact (fun h => K.1 (by have h := mt ev_oi_le.mpr h; omega)) h H locs ls hP hS hl
theorem sd_if_le (F : ev_F p s m args meth c D cI cZ cS ad A j) {x z : Int} {t : Nat} (hd : decode (ev_bc j) pc = .ok (.ifCond .le z, 3)) (ht : (pc : Int) + z = (t : Int))
    (kk : ev_W p l e s m args below meth c D cI cZ cS ad A Q j (if 0 < ev_wr x then pc + 3 else t) L st σ) : ev_W p l e s m args below meth c D cI cZ cS ad A Q j pc L (.inl x :: st) σ := by
  have K := sd_br kk
  intro H locs ls hP hS hl
  refine lv_if_le F.1 F.2.1 hd ht (fun h => ?_) (fun h => ?_)
  · exact (fun h => K.2 (by have h := (ev_oi_le (a := x) (b := 0)).mp h; rw [ev_wr_0] at h; omega)) h H locs ls hP hS hl
  · exact (fun h => K.1 (by have h := mt (ev_oi_le (a := x) (b := 0)).mpr h; rw [ev_wr_0] at h; omega)) h H locs ls hP hS hl
end SND
