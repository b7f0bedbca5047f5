/-! the award: the reference's side -/
def st_v (σ : ev_M) (c : Int) (g : Int → Int) : ev_M := fun a z => if a = 189 then g z else if a = 182 ∧ z = 9 then c else σ a z
theorem st_v_o {σ : ev_M} {c i : Int} {g : Int → Int} (h : i ≠ 182 ∧ i ≠ 189) : st_v σ c g i = σ i := by
  funext z
  unfold st_v
  rw [if_neg (by omega), if_neg (by omega)]
theorem st_v_z {σ : ev_M} {c z : Int} {g : Int → Int} (h : z ≠ 9) : st_v σ c g 182 z = σ 182 z := by
  unfold st_v
  rw [if_neg (by omega), if_neg (by omega)]
theorem st_v_0 {σ : ev_M} {c : Int} {g : Int → Int} : st_v σ c g 182 9 = c := by
  unfold st_v
  simp
theorem st_v_1 {σ : ev_M} {c : Int} {g : Int → Int} : st_v σ c g 189 = g := by
  funext z
  unfold st_v
  simp
theorem st_v_c {σ : ev_M} {c v : Int} {g : Int → Int} : ev_up (st_v σ c g) 182 9 v = st_v σ v g := by
  funext a z
  unfold ev_up st_v
  by_cases h1 : a = 189
  · subst h1
    simp
  · by_cases h3 : a = 182
    · subst h3
      by_cases h4 : z = 9 <;> simp [h4]
    · simp [h1, h3]
theorem st_v_u {σ : ev_M} {c k v : Int} {g : Int → Int} : ev_up (st_v σ c g) 189 k v = st_v σ c (ev_u1 g k v) := by
  funext a z
  unfold ev_up st_v ev_u1
  by_cases h1 : a = 189
  · subst h1
    simp
  · simp [h1]
theorem st_v_s {σ : ev_M} : st_v σ (σ 182 9) (σ 189) = σ := by
  funext a z
  unfold st_v
  by_cases h1 : a = 189
  · simp [h1]
  · by_cases h3 : a = 182 ∧ z = 9
    · simp [h3]
    · simp [h1, h3]
theorem st_v_N {σ : ev_M} {c : Int} {g : Int → Int} : st_N σ (st_v σ c g) := by
  refine ⟨fun i h => st_v_o (by omega), by rw [st_v_o (by omega)], by rw [st_v_o (by omega)], st_v_z (by omega), st_v_z (by omega), fun k _ _ => by rw [st_v_o (by omega)]⟩
/-- how many givings there are -/
def st_pw (B : Int) : Nat → Int
  | 0 => 1
  | n + 1 => st_pw B n * B
theorem st_pw_in : ∀ b : Fin 4, ∀ n : Fin 9, 0 ≤ st_pw (b.val : Int) n.val ∧ st_pw (b.val : Int) n.val ≤ 6561 ∧ (b.val = 0 → 0 < n.val → st_pw (b.val : Int) n.val = 0) ∧ (0 < b.val → 0 < st_pw (b.val : Int) n.val) := by decide +kernel
theorem st_pw_B {B : Int} {n : Nat} (hB : 0 ≤ B ∧ B ≤ 3) (hn : n ≤ 8) : 0 ≤ st_pw B n ∧ st_pw B n ≤ 6561 ∧ (B = 0 → 0 < n → st_pw B n = 0) ∧ (0 < B → 0 < st_pw B n) := by
  have h := st_pw_in ⟨B.toNat, by omega⟩ ⟨n, by omega⟩
  dsimp only at h
  rw [show ((B.toNat : Nat) : Int) = B by omega] at h
  exact ⟨h.1, h.2.1, fun h1 h2 => h.2.2.1 (by omega) h2, fun h1 => h.2.2.2 (by omega)⟩
/-- the giving of a number -/
theorem st_giv {B : Int} (hB : 0 < B ∧ B ≤ 3) : ∀ (L : Nat) (n : Int), 0 ≤ n → n < st_pw B L → ∃ a, st_va B L a ∧ st_nm B a L = n := by
  intro L
  induction L with
  | zero =>
    intro n h0 h1
    refine ⟨fun _ => 0, fun k hk => by omega, ?_⟩
    unfold st_pw at h1
    unfold st_nm
    omega
  | succ L ih =>
    intro n h0 h1
    unfold st_pw at h1
    obtain ⟨a, ha, hn⟩ := ih (n / B) (by rcases (show B = 1 ∨ B = 2 ∨ B = 3 by omega) with rfl | rfl | rfl <;> omega) (by rcases (show B = 1 ∨ B = 2 ∨ B = 3 by omega) with rfl | rfl | rfl <;> omega)
    have hm : 0 ≤ n % B ∧ n % B < B := ⟨Int.emod_nonneg _ (by omega), Int.emod_lt_of_pos _ (by omega)⟩
    refine ⟨ev_u1 a L (n % B), fun k hk => ?_, ?_⟩
    · by_cases c : k = L
      · rw [ev_u1_eq (by omega)]
        exact hm
      · rw [ev_u1_ne (by omega)]
        exact ha k (by omega)
    · unfold st_nm
      rw [st_nm_eq L (b := a) (fun k hk => ev_u1_ne (by omega)), hn, ev_u1_eq rfl]
      rcases (show B = 1 ∨ B = 2 ∨ B = 3 by omega) with rfl | rfl | rfl <;> omega
theorem st_nm_in {B : Int} (hB : 0 < B ∧ B ≤ 3) : ∀ (L : Nat) (a : Int → Int), st_va B L a → 0 ≤ st_nm B a L ∧ st_nm B a L < st_pw B L := by
  intro L
  induction L with
  | zero =>
    intro a _
    unfold st_nm st_pw
    omega
  | succ L ih =>
    intro a h
    have h1 := ih a (st_va_le h (by omega))
    have h2 := h L (by omega)
    unfold st_nm st_pw
    rcases (show B = 1 ∨ B = 2 ∨ B = 3 by omega) with rfl | rfl | rfl <;> omega
theorem ev_or_tab : ∀ s : Fin 8, ∀ d : Fin 3, 0 ≤ ev_or (s.val : Int) (ev_shl 1 (d.val : Int)) ∧ ev_or (s.val : Int) (ev_shl 1 (d.val : Int)) ≤ 7 ∧ ∀ b : Fin 3, ev_bt (ev_or (s.val : Int) (ev_shl 1 (d.val : Int))) (b.val : Int) ↔ (ev_bt (s.val : Int) (b.val : Int) ∨ b.val = d.val) := by decide +kernel
theorem ev_or_in {s d : Int} (hs : 0 ≤ s ∧ s ≤ 7) (hd : 0 ≤ d ∧ d ≤ 2) : (0 ≤ ev_or s (ev_shl 1 d) ∧ ev_or s (ev_shl 1 d) ≤ 7) ∧ ∀ b, 0 ≤ b → b ≤ 2 → (ev_bt (ev_or s (ev_shl 1 d)) b ↔ (ev_bt s b ∨ b = d)) := by
  have h := ev_or_tab ⟨s.toNat, by omega⟩ ⟨d.toNat, by omega⟩
  dsimp only at h
  rw [show ((s.toNat : Nat) : Int) = s by omega, show ((d.toNat : Nat) : Int) = d by omega] at h
  refine ⟨⟨h.1, h.2.1⟩, fun b b0 b1 => ?_⟩
  have h2 := h.2.2 ⟨b.toNat, by omega⟩
  dsimp only at h2
  rw [show ((b.toNat : Nat) : Int) = b by omega] at h2
  rw [h2]
  constructor
  · rintro (h | h)
    · exact Or.inl h
    · exact Or.inr (by omega)
  · rintro (h | h)
    · exact Or.inl h
    · exact Or.inr (by omega)
def st_sb (B : Int) (s : Int) (a : Int → Int) (m : Nat) (s1 : Int) : Prop := ∀ b, 0 ≤ b → b < B → (ev_bt s1 b ↔ (ev_bt s b ∨ st_us a b m = 1))
def st_im (T : Int → Int) (n bst c : Int) : Prop := (n = 0 ∧ bst = -1) ∨ ((1 ≤ n ∧ 0 ≤ c ∧ c ≤ 10125) ∧ ∃ t, st_va (T 4) (T 3).toNat t ∧ bst = st_nm (T 4) t (T 3).toNat ∧ bst < n ∧ c = st_pr (st_co T) (st_fe T) (T 4) (T 3).toNat t ∧ ∀ a, st_va (T 4) (T 3).toNat a → st_nm (T 4) a (T 3).toNat < n → c ≤ st_pr (st_co T) (st_fe T) (T 4) (T 3).toNat a ∧ (st_nm (T 4) a (T 3).toNat < bst → c < st_pr (st_co T) (st_fe T) (T 4) (T 3).toNat a))
theorem st_pr_in {T : Int → Int} {a : Int → Int} (h : st_I T) (ha : st_va (T 4) (T 3).toNat a) : 0 ≤ st_pr (st_co T) (st_fe T) (T 4) (T 3).toNat a ∧ st_pr (st_co T) (st_fe T) (T 4) (T 3).toNat a ≤ 10125 := by
  have i3 := h.1.2.2.2.1
  have i4 := h.1.2.2.2.2.1
  have h2 := st_sc_in (c := st_co T) (a := a) (m := 891) (T 3).toNat (fun k hk => st_co_in h (by omega) (ha k hk))
  have h1 := ev_ss_in (f := fun b => st_us a b (T 3).toNat * st_fe T b) (m := 999) (T 4).toNat 0 (st_sc (st_co T) a (T 3).toNat) (fun q h0 h1 => by
    have := (h.2.2.2.2.2.2 q h0 (by omega)).1
    have hu := st_us_in (a := a) (b := q) (T 3).toNat
    unfold st_fe
    rcases (show st_us a q (T 3).toNat = 0 ∨ st_us a q (T 3).toNat = 1 by omega) with h | h <;> rw [h] <;> omega)
  unfold st_pr
  omega
theorem st_im_n {T : Int → Int} {n bst c v : Int} {t : Int → Int} (hI : st_I T) (h4 : 0 < T 4) (h : st_im T n bst c) (hn : 0 ≤ n) (ht : st_va (T 4) (T 3).toNat t) (htn : st_nm (T 4) t (T 3).toNat = n) (hv : v = st_pr (st_co T) (st_fe T) (T 4) (T 3).toNat t) : ((bst = -1 ∨ v < c) → st_im T (n + 1) n v) ∧ (¬ (bst = -1 ∨ v < c) → st_im T (n + 1) bst c) := by
  have i3 := hI.1.2.2.2.1
  have i4 := hI.1.2.2.2.2.1
  have hp := st_pr_in hI ht
  have hsame : ∀ a, st_va (T 4) (T 3).toNat a → st_nm (T 4) a (T 3).toNat = n → st_pr (st_co T) (st_fe T) (T 4) (T 3).toNat a = v := fun a ha hna => by
    rw [hv]
    exact st_pr_eq (st_nm_inj ⟨h4, by omega⟩ _ ha ht (by omega))
  constructor
  · intro hc
    refine Or.inr ⟨by omega, t, ht, htn.symm, by omega, hv, fun a ha hna => ?_⟩
    by_cases c1 : st_nm (T 4) a (T 3).toNat = n
    · exact ⟨by have := hsame a ha c1; omega, fun h => by omega⟩
    · rcases h with ⟨q1, q2⟩ | ⟨q0, t0, q1, q2, q3, q4, q5⟩
      · have := (st_nm_in ⟨h4, by omega⟩ _ a ha).1
        omega
      · have hb0 := (st_nm_in ⟨h4, by omega⟩ _ t0 q1).1
        have := (q5 a ha (by omega)).1
        exact ⟨by omega, fun _ => by omega⟩
  · intro hc
    rcases h with ⟨q1, q2⟩ | ⟨q0, t0, q1, q2, q3, q4, q5⟩
    · omega
    · refine Or.inr ⟨by omega, t0, q1, q2, by omega, q4, fun a ha hna => ?_⟩
      by_cases c1 : st_nm (T 4) a (T 3).toNat = n
      · exact ⟨by have := hsame a ha c1; omega, fun h => by omega⟩
      · exact q5 a ha (by omega)
