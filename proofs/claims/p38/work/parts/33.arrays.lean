/-! whole arrays replaced; bits of small numbers -/
def ev_ua (σ : ev_M) (i : Int) (f : Int → Int) : ev_M := fun a b => if a = i then f b else σ a b
def ev_u1 (f : Int → Int) (k v : Int) : Int → Int := fun b => if b = k then v else f b
theorem ev_ua_eq {σ : ev_M} {i k : Int} {f : Int → Int} : ev_ua σ i f i k = f k := if_pos rfl
theorem ev_ua_ne {σ : ev_M} {i a k : Int} {f : Int → Int} (h : a ≠ i) : ev_ua σ i f a k = σ a k := if_neg h
theorem ev_ua_row {σ : ev_M} {i a : Int} {f : Int → Int} (h : a ≠ i) : ev_ua σ i f a = σ a := by
  funext k
  exact if_neg h
theorem ev_up_ua {σ : ev_M} {i k v : Int} {f : Int → Int} : ev_up (ev_ua σ i f) i k v = ev_ua σ i (ev_u1 f k v) := by
  funext a b
  unfold ev_up ev_ua ev_u1
  by_cases h : a = i <;> simp [h]
theorem ev_ua_self {σ : ev_M} {i : Int} : ev_ua σ i (σ i) = σ := by
  funext a b
  unfold ev_ua
  split
  · next h => rw [h]
  · rfl
theorem ev_up_as {σ : ev_M} {i k v : Int} : ev_up σ i k v = ev_ua σ i (ev_u1 (σ i) k v) := by
  rw [← ev_up_ua, ev_ua_self]
theorem ev_u1_eq {f : Int → Int} {k v b : Int} (h : b = k) : ev_u1 f k v b = v := if_pos h
theorem ev_u1_ne {f : Int → Int} {k v b : Int} (h : b ≠ k) : ev_u1 f k v b = f b := if_neg h
theorem ev_ua_ua {σ : ev_M} {i : Int} {f g : Int → Int} : ev_ua (ev_ua σ i f) i g = ev_ua σ i g := by
  funext a b
  unfold ev_ua
  split <;> rfl
/-- whether the place o of a set of places is in it -/
abbrev ev_bt (r o : Int) : Prop := r / 2 ^ o.toNat % 2 = 1
theorem ev_bt_tab : ∀ r : Fin 128, ∀ o : Fin 6, (ev_and (r.val : Int) (ev_shl 1 (o.val : Int)) = 0 ↔ ¬ ((r.val : Int) / 2 ^ o.val % 2 = 1)) ∧ (ev_and (ev_shr (r.val : Int) (o.val : Int)) 1 = 1 ↔ ((r.val : Int) / 2 ^ o.val % 2 = 1)) ∧ (ev_and (r.val : Int) 64 = 0 ↔ r.val < 64) ∧ (0 ≤ ev_and (r.val : Int) 64 ∧ ev_and (r.val : Int) 64 ≤ 64) ∧ (0 ≤ ev_and (r.val : Int) (ev_shl 1 (o.val : Int)) ∧ ev_and (r.val : Int) (ev_shl 1 (o.val : Int)) ≤ 127) ∧ (0 ≤ ev_and (ev_shr (r.val : Int) (o.val : Int)) 1 ∧ ev_and (ev_shr (r.val : Int) (o.val : Int)) 1 ≤ 1) := by decide +kernel
theorem ev_bits {r o : Int} (hr : 0 ≤ r ∧ r ≤ 127) (ho : 0 ≤ o ∧ o < 6) : (ev_and r (ev_shl 1 o) = 0 ↔ ¬ ev_bt r o) ∧ (ev_and (ev_shr r o) 1 = 1 ↔ ev_bt r o) ∧ (ev_and r 64 = 0 ↔ r < 64) ∧ (0 ≤ ev_and r 64 ∧ ev_and r 64 ≤ 64) ∧ (0 ≤ ev_and r (ev_shl 1 o) ∧ ev_and r (ev_shl 1 o) ≤ 127) ∧ (0 ≤ ev_and (ev_shr r o) 1 ∧ ev_and (ev_shr r o) 1 ≤ 1) := by
  obtain ⟨n, rfl⟩ : ∃ n : Nat, r = n := ⟨r.toNat, by omega⟩
  obtain ⟨k, rfl⟩ : ∃ k : Nat, o = k := ⟨o.toNat, by omega⟩
  have h := ev_bt_tab ⟨n, by omega⟩ ⟨k, by omega⟩
  dsimp only at h
  show (_ ↔ ¬ ((n : Int) / 2 ^ ((k : Int).toNat) % 2 = 1)) ∧ (_ ↔ ((n : Int) / 2 ^ ((k : Int).toNat) % 2 = 1)) ∧ _
  rw [Int.toNat_natCast]
  refine ⟨h.1, h.2.1, ?_, h.2.2.2.1, h.2.2.2.2.1, h.2.2.2.2.2⟩
  have := h.2.2.1
  omega
/-- the greatest strength among k places from o on that are in the set r, and acc -/
def ev_fo (r : Int) (st : Int → Int) : Nat → Int → Int → Int
  | 0, _, acc => acc
  | k + 1, o, acc => ev_fo r st k (o + 1) (if ev_bt r o ∧ acc < st o then st o else acc)
theorem ev_fo_0 (r : Int) (st : Int → Int) (o acc : Int) : ev_fo r st 0 o acc = acc := rfl
theorem ev_fo_s (r : Int) (st : Int → Int) (k : Nat) (o acc : Int) : (ev_bt r o → acc < st o → ev_fo r st (k + 1) o acc = ev_fo r st k (o + 1) (st o)) ∧ (¬ (ev_bt r o ∧ acc < st o) → ev_fo r st (k + 1) o acc = ev_fo r st k (o + 1) acc) := by
  constructor
  · intro h1 h2
    show ev_fo r st k (o + 1) (if ev_bt r o ∧ acc < st o then st o else acc) = _
    rw [if_pos ⟨h1, h2⟩]
  · intro h
    show ev_fo r st k (o + 1) (if ev_bt r o ∧ acc < st o then st o else acc) = _
    rw [if_neg h]
/-- what the ground bears -/
def ev_g0 (r : Int) : Int := if r < 64 then 0 else 9
theorem ev_g0_in (r : Int) : 0 ≤ ev_g0 r ∧ ev_g0 r ≤ 9 := by
  unfold ev_g0
  split <;> omega
theorem ev_fo_congr (r : Int) {st st' : Int → Int} : ∀ (k : Nat) (o acc : Int), (∀ q, o ≤ q → q < o + k → st q = st' q) → ev_fo r st k o acc = ev_fo r st' k o acc := by
  intro k
  induction k with
  | zero => intro o acc _; rfl
  | succ k ih =>
    intro o acc h
    have h0 := h o (by omega) (by omega)
    by_cases c : ev_bt r o ∧ acc < st o
    · rw [(ev_fo_s r st k o acc).1 c.1 c.2, (ev_fo_s r st' k o acc).1 c.1 (by rw [← h0]; exact c.2), h0]
      exact ih _ _ (fun q h1 h2 => h q (by omega) (by omega))
    · rw [(ev_fo_s r st k o acc).2 c, (ev_fo_s r st' k o acc).2 (by rw [← h0]; exact c)]
      exact ih _ _ (fun q h1 h2 => h q (by omega) (by omega))
theorem ev_fo_in (r : Int) {st : Int → Int} : ∀ (k : Nat) (o acc : Int), (∀ q, o ≤ q → q < o + k → 0 ≤ st q ∧ st q ≤ 9) → 0 ≤ acc ∧ acc ≤ 9 → 0 ≤ ev_fo r st k o acc ∧ ev_fo r st k o acc ≤ 9 := by
  intro k
  induction k with
  | zero => intro o acc _ h; exact h
  | succ k ih =>
    intro o acc h ha
    have h0 := h o (by omega) (by omega)
    by_cases c : ev_bt r o ∧ acc < st o
    · rw [(ev_fo_s r st k o acc).1 c.1 c.2]
      exact ih _ _ (fun q h1 h2 => h q (by omega) (by omega)) h0
    · rw [(ev_fo_s r st k o acc).2 c]
      exact ih _ _ (fun q h1 h2 => h q (by omega) (by omega)) ha
/-- the strengths of the last k of n components, by ratings and sets -/
def ev_sf (ra re : Int → Int) (n : Int) : Nat → Int → Int
  | 0 => fun _ => 0
  | k + 1 => ev_u1 (ev_sf ra re n k) (n - 1 - k) (if ev_fo (re (n - 1 - k)) (ev_sf ra re n k) k (n - k) (ev_g0 (re (n - 1 - k))) < ra (n - 1 - k) then ev_fo (re (n - 1 - k)) (ev_sf ra re n k) k (n - k) (ev_g0 (re (n - 1 - k))) else ra (n - 1 - k))
/-- the true rating -/
def ev_tr (ra re : Int → Int) (n : Int) : Int := if n = 0 then 0 else ev_sf ra re n n.toNat 0
theorem ev_sf_in {ra re : Int → Int} {n : Int} : ∀ k : Nat, (k : Int) ≤ n → (∀ c, 0 ≤ c → c < n → 0 ≤ ra c ∧ ra c ≤ 9) → ∀ c, n - k ≤ c → c < n → 0 ≤ ev_sf ra re n k c ∧ ev_sf ra re n k c ≤ 9 := by
  intro k
  induction k with
  | zero => intro hk h c h1 h2; omega
  | succ k ih =>
    intro hk h c h1 h2
    have ih' := ih (by omega) h
    unfold ev_sf
    have hr := h (n - 1 - k) (by omega) (by omega)
    have hf := ev_fo_in (re (n - 1 - k)) k (n - k) (ev_g0 (re (n - 1 - k))) (fun q h1 h2 => ih' q h1 (by omega)) (ev_g0_in _)
    by_cases hc : c = n - 1 - k
    · rw [ev_u1_eq hc]
      split <;> omega
    · rw [ev_u1_ne hc]
      exact ih' c (by omega) h2
theorem ev_tr_in {ra re : Int → Int} {n : Int} (hn : 0 ≤ n) (h : ∀ c, 0 ≤ c → c < n → 0 ≤ ra c ∧ ra c ≤ 9) : 0 ≤ ev_tr ra re n ∧ ev_tr ra re n ≤ 9 := by
  unfold ev_tr
  split
  · omega
  · exact ev_sf_in n.toNat (by omega) h 0 (by omega) (by omega)

