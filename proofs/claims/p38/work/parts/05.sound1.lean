/-! what the pure machine says of the real one: the world of the cells, the locals, an instruction each -/
def ev_rv (ad : Int → Nat) : ev_V → Value
  | .inl x => .int (Int32.ofInt x)
  | .inr (.inl i) => .ref (ad i)
  | .inr (.inr h) => .long h
def ev_fv (ad : Int → Nat) (σ : ev_M) (i : Int) (c k : Nat) : Value := match ev_kd c k with
  | (0, _) => .int (Int32.ofInt (σ i k))
  | (1, o) => .ref (ad (i + o))
  | _ => .long (Int64.ofInt (σ i k))
def ev_e (cI cZ cS : ClassId) (ad : Int → Nat) (σ : ev_M) (i : Int) : va_E :=
  if ev_cls i = 12 then .inl (cI, (ev_len i).toNat, .inl (fun j => Int32.ofInt (σ i (j : Int))))
  else if ev_cls i = 13 then .inl (cZ, (ev_len i).toNat, .inl (fun j => Int32.ofInt (σ i (j : Int))))
  else if ev_cls i = 14 then .inl (cS, (ev_len i).toNat, .inr (.inr (.inr (.inr (fun j => some (ad (σ i (j : Int))))))))
  else .inr (ev_cls i, (List.range (ev_N (ev_cls i))).map (ev_fv ad σ i (ev_cls i)))
def ev_wd (cI cZ cS : ClassId) (ad : Int → Nat) (σ : ev_M) : va_W := (List.range 182).map (fun i : Nat => (ad (Int.ofNat i), ev_e cI cZ cS ad σ (Int.ofNat i)))
theorem ev_sh_len : ev_sh.length = 182 := by decide +kernel
theorem ev_cls_in {i : Int} (h : ev_cls i < 99) : 0 ≤ i ∧ i < 182 := by
  unfold ev_cls at h
  split at h
  · omega
  · refine ⟨by omega, ?_⟩
    rcases Nat.lt_or_ge i.toNat 182 with h1 | h1
    · omega
    · rw [List.getD_eq_getElem?_getD, List.getElem?_eq_none (by rw [ev_sh_len]; exact h1)] at h
      exact absurd h (by decide)
theorem ev_wd_get (cI cZ cS : ClassId) (ad : Int → Nat) (σ : ev_M) {i : Int} (h : 0 ≤ i ∧ i < 182) : (ev_wd cI cZ cS ad σ)[i.toNat]? = some (ad i, ev_e cI cZ cS ad σ i) := by
  unfold ev_wd
  rw [List.getElem?_map, List.getElem?_range (by omega)]
  have : Int.ofNat i.toNat = i := by show ((i.toNat : Nat) : Int) = i; omega
  simp only [Option.map_some]
  rw [this]
theorem ev_e_congr {cI cZ cS : ClassId} {ad : Int → Nat} {σ σ' : ev_M} {i : Int} (h : σ' i = σ i) : ev_e cI cZ cS ad σ' i = ev_e cI cZ cS ad σ i := by
  have h2 : ev_fv ad σ' i (ev_cls i) = ev_fv ad σ i (ev_cls i) := by
    funext k
    unfold ev_fv
    rw [h]
  unfold ev_e
  rw [h2, h]
theorem ev_wd_set {cI cZ cS : ClassId} {ad : Int → Nat} {σ σ' : ev_M} {i : Int} {x : va_E} (hi : 0 ≤ i ∧ i < 182) (h : ∀ m, m ≠ i → σ' m = σ m) (he : ev_e cI cZ cS ad σ' i = x) : (ev_wd cI cZ cS ad σ).set i.toNat (ad i, x) = ev_wd cI cZ cS ad σ' := by
  subst he
  apply List.ext_getElem?
  intro n
  rw [List.getElem?_set]
  by_cases hn : i.toNat = n
  · subst hn
    rw [if_pos rfl, ev_wd_get cI cZ cS ad σ' hi]
    have : i.toNat < (ev_wd cI cZ cS ad σ).length := by
      have e : (ev_wd cI cZ cS ad σ).length = 182 := by simp [ev_wd]
      omega
    rw [if_pos this]
  · rw [if_neg hn]
    unfold ev_wd
    rw [List.getElem?_map, List.getElem?_map]
    rcases Nat.lt_or_ge n 182 with h1 | h1
    · rw [List.getElem?_range h1]
      simp only [Option.map_some]
      rw [ev_e_congr (h (Int.ofNat n) (by show ((n : Nat) : Int) ≠ i; omega))]
    · rw [List.getElem?_eq_none (by simp; omega)]
      rfl
theorem ev_wd_D {cI cZ cS : ClassId} {ad : Int → Nat} {A : Nat → Prop} (hA : ∀ i : Int, 0 ≤ i → i < 182 → A (ad i)) (hd : ∀ i j : Int, 0 ≤ i → i < 182 → 0 ≤ j → j < 182 → ad i = ad j → i = j) (σ : ev_M) : va_D A (ev_wd cI cZ cS ad σ) := by
  have key : ∀ (n : Nat) (q : Nat × va_E), (ev_wd cI cZ cS ad σ)[n]? = some q → n < 182 ∧ q.1 = ad (Int.ofNat n) := by
    intro n q hq
    unfold ev_wd at hq
    rw [List.getElem?_map] at hq
    rcases Nat.lt_or_ge n 182 with h1 | h1
    · rw [List.getElem?_range h1] at hq
      simp only [Option.map_some] at hq
      cases hq
      exact ⟨h1, rfl⟩
    · rw [List.getElem?_eq_none (by simp; omega)] at hq
      cases hq
  refine ⟨fun i j p q hp hq e => ?_, fun k q hq => ?_⟩
  · obtain ⟨h1, e1⟩ := key i p hp
    obtain ⟨h2, e2⟩ := key j q hq
    have := hd (Int.ofNat i) (Int.ofNat j) (Int.natCast_nonneg i) (by show ((i : Nat) : Int) < 182; omega) (Int.natCast_nonneg j) (by show ((j : Nat) : Int) < 182; omega) (by rw [← e1, ← e2, e])
    exact Int.ofNat.inj this
  · obtain ⟨h1, e1⟩ := key k q hq
    rw [e1]
    exact hA _ (Int.natCast_nonneg k) (by show ((k : Nat) : Int) < 182; omega)
/-! numbers -/
theorem ev_ti (x : Int) : (Int32.ofInt x).toInt = ev_wr x := by
  rw [Int32.toInt_ofInt]
  unfold ev_wr Int.bmod
  have : (Int32.size : Int) = 4294967296 := by decide
  simp only [Int32.size] at this ⊢
  split <;> omega
theorem ev_clamp (x : Int) : (Int32.ofInt x).toNatClampNeg = (ev_wr x).toNat := by
  show (Int32.ofInt x).toInt.toNat = _
  rw [ev_ti]
theorem ev_vin {x : Int} {n : Int} (h0 : 0 ≤ ev_wr x) (h1 : ev_wr x < n) : vp_in (Int32.ofInt x) n.toNat := by
  rw [vp_in_iff, ev_ti]
  omega
theorem ev_oi_wr (x : Int) : Int32.ofInt (ev_wr x) = Int32.ofInt x := by
  rw [← ev_ti]
  exact Int32.ofInt_toInt _
theorem ev_wr_lo (x : Int) : -2147483648 ≤ ev_wr x ∧ ev_wr x ≤ 2147483647 := by
  unfold ev_wr
  omega
theorem ev_oi_add (a b : Int) : Int32.ofInt (a + b) = Int32.ofInt a + Int32.ofInt b := Int32.ofInt_add a b
theorem ev_oi_mul (a b : Int) : Int32.ofInt (a * b) = Int32.ofInt a * Int32.ofInt b := Int32.ofInt_mul a b
theorem ev_oi_sub (a b : Int) : Int32.ofInt (a - b) = Int32.ofInt a - Int32.ofInt b := by
  rw [← Int32.toInt_inj, Int32.toInt_sub, ev_ti, ev_ti, ev_ti]
  unfold ev_wr
  simp only [Int.bmod]
  split <;> omega
theorem ev_oi_ti (x : Int32) : Int32.ofInt x.toInt = x := Int32.ofInt_toInt x
theorem ev_oi_div (a b : Int) : Int32.ofInt (ev_div a b) = Int32.ofInt a / Int32.ofInt b := by
  rw [← Int32.toInt_inj, Int32.toInt_div, Int32.toInt_ofInt, ev_ti, ev_ti]
  rfl
theorem ev_oi_rem (a b : Int) : Int32.ofInt (ev_rem a b) = Int32.ofInt a - Int32.ofInt a / Int32.ofInt b * Int32.ofInt b := by
  unfold ev_rem
  rw [← ev_ti a, ← ev_ti b, ← rem_toInt]
  exact Int32.ofInt_toInt _
theorem ev_oi_inj {a b : Int} : Int32.ofInt a = Int32.ofInt b ↔ ev_wr a = ev_wr b := by
  rw [← Int32.toInt_inj, ev_ti, ev_ti]
theorem ev_oi_lt {a b : Int} : Int32.ofInt a < Int32.ofInt b ↔ ev_wr a < ev_wr b := by
  rw [Int32.lt_iff_toInt_lt, ev_ti, ev_ti]
theorem ev_oi_le {a b : Int} : Int32.ofInt a ≤ Int32.ofInt b ↔ ev_wr a ≤ ev_wr b := by
  rw [Int32.le_iff_toInt_le, ev_ti, ev_ti]
theorem ev_oi_0 : Int32.ofInt 0 = 0 := rfl
theorem ev_wr_0 : ev_wr 0 = 0 := by decide
/-! locals -/
theorem ev_get_set (L : ev_L) (i k : Nat) (v : Option ev_V) : ev_get (ev_set L i v) k = if k = i ∧ i < L.length then v else ev_get L k := by
  induction L generalizing i k with
  | nil => simp [ev_set, ev_get]
  | cons a t ih =>
    cases i with
    | zero => cases k <;> simp [ev_set, ev_get]
    | succ i =>
      cases k with
      | zero => simp [ev_set, ev_get]
      | succ k => simp [ev_set, ev_get, ih]
theorem ev_set_len (L : ev_L) (i : Nat) (v : Option ev_V) : (ev_set L i v).length = L.length := by
  induction L generalizing i with
  | nil => simp [ev_set]
  | cons a t ih => cases i <;> simp [ev_set, ih]
theorem ev_get_lt {L : ev_L} {k : Nat} {v : ev_V} (h : ev_get L k = some v) : k < L.length := by
  induction L generalizing k with
  | nil => simp [ev_get] at h
  | cons a t ih =>
    cases k with
    | zero => simp
    | succ k => simp only [ev_get] at h; have := ih h; simp; omega
def ev_al (ad : Int → Nat) (L : ev_L) : List (Nat × Value) := (List.range L.length).filterMap (fun k => (ev_get L k).map (fun v => (k, ev_rv ad v)))
theorem ev_al_mem {ad : Int → Nat} {L : ev_L} {q : Nat × Value} : q ∈ ev_al ad L ↔ ∃ v, ev_get L q.1 = some v ∧ q.2 = ev_rv ad v := by
  unfold ev_al
  rw [List.mem_filterMap]
  constructor
  · rintro ⟨k, hk, h⟩
    cases hg : ev_get L k with
    | none => rw [hg] at h; cases h
    | some v => rw [hg] at h; cases h; exact ⟨v, hg, rfl⟩
  · rintro ⟨v, hg, e⟩
    refine ⟨q.1, List.mem_range.mpr (ev_get_lt hg), ?_⟩
    rw [hg]
    simp [← e]
def ev_lh (ad : Int → Nat) (ls : Array Slot) (n : Nat) (L : ev_L) : Prop := L.length = n ∧ lv_has ls n (ev_al ad L)
theorem ev_lh_get {ad : Int → Nat} {ls : Array Slot} {n : Nat} {L : ev_L} {k : Nat} {v : ev_V} (h : ev_lh ad ls n L) (hg : ev_get L k = some v) : ls[k]? = some (.val (ev_rv ad v)) :=
  h.2.2.2 (k, ev_rv ad v) (ev_al_mem.mpr ⟨v, hg, rfl⟩)
theorem ev_rv_cat (ad : Int → Nat) (v : ev_V) : (ev_rv ad v).category = match v with
    | .inr (.inr _) => 2
    | _ => 1 := by
  rcases v with x | i | h <;> rfl
theorem ev_nl_cat {ad : Int → Nat} {L : ev_L} {i k : Nat} {v : ev_V} (hn : ev_nl L i = true) (hk : k + 1 = i) (hg : ev_get L k = some v) : ((ev_rv ad v).category == 2) = false := by
  subst hk
  rcases v with x | i | h
  · rfl
  · rfl
  · simp [ev_nl, hg] at hn
theorem ev_lh_store1 {ad : Int → Nat} {ls' : Array Slot} {n i : Nat} {L : ev_L} {v : ev_V} (hl : L.length = n) (hn : ev_nl L i = true) (h : lv_has ls' n ((i, ev_rv ad v) :: (ev_al ad L).filter (fun q => !(q.1 == i) && !(q.1 + 1 == i && q.2.category == 2)))) : ev_lh ad ls' n (ev_set L i (some v)) := by
  refine ⟨by rw [ev_set_len, hl], h.1, h.2.1, fun q hq => ?_⟩
  obtain ⟨u, hu, e⟩ := ev_al_mem.mp hq
  rw [ev_get_set] at hu
  by_cases c : q.1 = i ∧ i < L.length
  · rw [if_pos c] at hu
    cases hu
    refine h.2.2 q (List.mem_cons.mpr (Or.inl ?_))
    rw [← c.1, ← e]
  · rw [if_neg c] at hu
    have hlt := ev_get_lt hu
    have hne : q.1 ≠ i := fun e => c ⟨e, by rw [← e]; exact hlt⟩
    refine h.2.2 q (List.mem_cons_of_mem _ (List.mem_filter.mpr ⟨ev_al_mem.mpr ⟨u, hu, e⟩, ?_⟩))
    by_cases h1 : q.1 + 1 = i
    · rw [e, ev_nl_cat hn h1 hu]
      simp [hne]
    · simp [hne, h1]
theorem ev_lh_store2 {ad : Int → Nat} {ls' : Array Slot} {n i : Nat} {L : ev_L} {v : ev_V} (hl : L.length = n) (hn : ev_nl L i = true) (h : lv_has ls' n ((i, ev_rv ad v) :: (ev_al ad L).filter (fun q => !(q.1 == i) && (!(q.1 == i + 1) && !(q.1 + 1 == i && q.2.category == 2))))) : ev_lh ad ls' n (ev_set (ev_set L (i + 1) none) i (some v)) := by
  refine ⟨by rw [ev_set_len, ev_set_len, hl], h.1, h.2.1, fun q hq => ?_⟩
  obtain ⟨u, hu, e⟩ := ev_al_mem.mp hq
  rw [ev_get_set, ev_set_len] at hu
  by_cases c : q.1 = i ∧ i < L.length
  · rw [if_pos c] at hu
    cases hu
    refine h.2.2 q (List.mem_cons.mpr (Or.inl ?_))
    rw [← c.1, ← e]
  · rw [if_neg c, ev_get_set] at hu
    by_cases c2 : q.1 = i + 1 ∧ i + 1 < L.length
    · rw [if_pos c2] at hu
      cases hu
    · rw [if_neg c2] at hu
      have hlt := ev_get_lt hu
      have hne : q.1 ≠ i := fun e => c ⟨e, by rw [← e]; exact hlt⟩
      have hne2 : q.1 ≠ i + 1 := fun e => c2 ⟨e, by rw [← e]; exact hlt⟩
      refine h.2.2 q (List.mem_cons_of_mem _ (List.mem_filter.mpr ⟨ev_al_mem.mpr ⟨u, hu, e⟩, ?_⟩))
      by_cases h1 : q.1 + 1 = i
      · rw [e, ev_nl_cat hn h1 hu]
        simp [hne, hne2]
      · simp [hne, hne2, h1]
theorem ev_w_cat (ad : Int → Nat) (st : List ev_V) : (((st.map (ev_rv ad)).map fun v => v.category)).sum = ev_w st := by
  induction st with
  | nil => rfl
  | cons a t ih =>
    simp only [List.map_cons, List.sum_cons, ih]
    rcases a with x | i | h <;> rfl
theorem ev_lay_sl (ad : Int → Nat) (as : List ev_V) : (lg_sl (as.map (ev_rv ad))).length = (ev_lay as).length := by
  induction as with
  | nil => rfl
  | cons a t ih =>
    have e : lg_sl ((a :: t).map (ev_rv ad)) = (if (ev_rv ad a).category = 2 then [.val (ev_rv ad a), .second] else [.val (ev_rv ad a)]) ++ lg_sl (t.map (ev_rv ad)) := by
      simp [lg_sl]
    rw [e, List.length_append, ih]
    rcases a with x | i | h
    · simp only [ev_rv_cat, ev_lay]; simp; omega
    · simp only [ev_rv_cat, ev_lay]; simp; omega
    · simp only [ev_rv_cat, ev_lay]; simp; omega
theorem ev_args_mem (ad : Int → Nat) (as : List ev_V) : ∀ (n k : Nat) (v : ev_V), ev_get (ev_lay as) k = some v → (n + k, ev_rv ad v) ∈ lv_args n (as.map (ev_rv ad)) := by
  induction as with
  | nil => intro n k v h; simp [ev_lay, ev_get] at h
  | cons a t ih =>
    intro n k v h
    rcases a with x | i | z
    · cases k with
      | zero => simp only [ev_lay, ev_get] at h; cases h; simp [lv_args]
      | succ k =>
        simp only [ev_lay, ev_get] at h
        have := ih (n + 1) k v h
        simp only [List.map_cons, lv_args, ev_rv_cat]
        rw [show n + (k + 1) = n + 1 + k by omega]
        exact List.mem_cons_of_mem _ this
    · cases k with
      | zero => simp only [ev_lay, ev_get] at h; cases h; simp [lv_args]
      | succ k =>
        simp only [ev_lay, ev_get] at h
        have := ih (n + 1) k v h
        simp only [List.map_cons, lv_args, ev_rv_cat]
        rw [show n + (k + 1) = n + 1 + k by omega]
        exact List.mem_cons_of_mem _ this
    · cases k with
      | zero => simp only [ev_lay, ev_get] at h; cases h; simp [lv_args]
      | succ k =>
        cases k with
        | zero => simp only [ev_lay, ev_get] at h; cases h
        | succ k =>
          simp only [ev_lay, ev_get] at h
          have := ih (n + 2) k v h
          simp only [List.map_cons, lv_args, ev_rv_cat]
          rw [show n + (k + 1 + 1) = n + 2 + k by omega]
          exact List.mem_cons_of_mem _ this
theorem ev_get_app (X Y : ev_L) (k : Nat) : ev_get (X ++ Y) k = if k < X.length then ev_get X k else ev_get Y (k - X.length) := by
  induction X generalizing k with
  | nil => simp
  | cons a t ih =>
    cases k with
    | zero => simp [ev_get]
    | succ k =>
      simp only [List.cons_append, ev_get, ih, List.length_cons]
      have : (k + 1 < t.length + 1) ↔ (k < t.length) := by omega
      simp only [this]
      congr 2
      omega
theorem ev_get_rep (n k : Nat) : ev_get (List.replicate n none) k = none := by
  induction n generalizing k with
  | zero => simp [ev_get]
  | succ n ih => cases k <;> simp [List.replicate_succ, ev_get, ih]
theorem ev_lh_entry {ad : Int → Nat} {j : Nat} {as : List ev_V} {n : Nat} (hn : ev_mxl j = n) (h : (ev_lay as).length ≤ n) : ev_lh ad ((lg_sl (as.map (ev_rv ad)) ++ List.replicate (n - (lg_sl (as.map (ev_rv ad))).length) Slot.unset).toArray) n (ev_ent j as) := by
  subst hn
  have h1 := lv_entry (as.map (ev_rv ad)) (n := ev_mxl j) (by rw [ev_lay_sl]; exact h)
  refine ⟨by simp [ev_ent]; omega, h1.1, h1.2.1, fun q hq => ?_⟩
  obtain ⟨v, hv, e⟩ := ev_al_mem.mp hq
  unfold ev_ent at hv
  rw [ev_get_app] at hv
  split at hv
  · have := ev_args_mem ad as 0 q.1 v hv
    rw [Nat.zero_add] at this
    refine h1.2.2 q ?_
    rw [show q = (q.1, ev_rv ad v) by rw [← e]]
    exact this
  · rw [ev_get_rep] at hv
    cases hv
