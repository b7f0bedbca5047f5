/-! the award: what both sides find -/
def st_sc (c : Int → Int → Int) (a : Int → Int) : Nat → Int
  | 0 => 0
  | k + 1 => st_sc c a k + c k (a k)
def st_nm (B : Int) (a : Int → Int) : Nat → Int
  | 0 => 0
  | k + 1 => st_nm B a k * B + a k
def st_us (a : Int → Int) (b : Int) : Nat → Int
  | 0 => 0
  | k + 1 => if a k = b then 1 else st_us a b k
def st_pr (c : Int → Int → Int) (f : Int → Int) (B : Int) (L : Nat) (a : Int → Int) : Int := ev_ss (fun b => st_us a b L * f b) B.toNat 0 (st_sc c a L)
def st_va (B : Int) (L : Nat) (a : Int → Int) : Prop := ∀ k : Nat, k < L → 0 ≤ a k ∧ a k < B
def st_aw (c : Int → Int → Int) (f : Int → Int) (B : Int) (L : Nat) (cst : Int) (t : Int → Int) : Prop :=
  (L = 0 ∧ cst = 0) ∨ (0 < L ∧ B = 0 ∧ cst = -1 ∧ ∀ k : Nat, k < L → t k = -1) ∨ (0 < L ∧ 0 < B ∧ st_va B L t ∧ cst = st_pr c f B L t ∧ ∀ a, st_va B L a → st_pr c f B L t ≤ st_pr c f B L a ∧ (st_nm B a L < st_nm B t L → st_pr c f B L t < st_pr c f B L a))
theorem st_va_le {B : Int} {L k : Nat} {a : Int → Int} (h : st_va B L a) (hk : k ≤ L) : st_va B k a := fun q hq => h q (by omega)
theorem st_nm_inj {B : Int} {a b : Int → Int} (hB : 0 < B ∧ B ≤ 3) : ∀ L : Nat, st_va B L a → st_va B L b → st_nm B a L = st_nm B b L → ∀ k : Nat, k < L → a k = b k := by
  intro L
  induction L with
  | zero => intro _ _ _ k hk; omega
  | succ L ih =>
    intro ha hb h k hk
    have h1 := ha L (by omega)
    have h2 := hb L (by omega)
    unfold st_nm at h
    have h3 : st_nm B a L = st_nm B b L ∧ a L = b L := by
      rcases (show B = 1 ∨ B = 2 ∨ B = 3 by omega) with rfl | rfl | rfl <;> omega
    by_cases hkL : k = L
    · rw [hkL]
      exact h3.2
    · exact ih (st_va_le ha (by omega)) (st_va_le hb (by omega)) h3.1 k (by omega)
theorem st_nm_lt {B : Int} {a b : Int → Int} (hB : 0 < B ∧ B ≤ 3) : ∀ d k L : Nat, k + d = L → st_va B L a → st_va B L b → st_nm B a k < st_nm B b k → st_nm B a L < st_nm B b L := by
  intro d
  induction d with
  | zero =>
    intro k L hk _ _ h
    obtain rfl : k = L := by omega
    exact h
  | succ d ih =>
    intro k L hk ha hb h
    refine ih (k + 1) L (by omega) ha hb ?_
    have h1 := ha k (by omega)
    have h2 := hb k (by omega)
    unfold st_nm
    rcases (show B = 1 ∨ B = 2 ∨ B = 3 by omega) with rfl | rfl | rfl <;> omega
theorem st_nm_mono {B : Int} {a b : Int → Int} (hB : 0 < B ∧ B ≤ 3) : ∀ L : Nat, (∀ k : Nat, k < L → a k ≤ b k) → st_nm B a L ≤ st_nm B b L := by
  intro L
  induction L with
  | zero => intro _; exact Int.le_refl _
  | succ L ih =>
    intro h
    have h1 := ih (fun k hk => h k (by omega))
    have h2 := h L (by omega)
    unfold st_nm
    rcases (show B = 1 ∨ B = 2 ∨ B = 3 by omega) with rfl | rfl | rfl <;> omega
theorem st_nm_eq {B : Int} {a b : Int → Int} : ∀ L : Nat, (∀ k : Nat, k < L → a k = b k) → st_nm B a L = st_nm B b L := by
  intro L
  induction L with
  | zero => intro _; rfl
  | succ L ih =>
    intro h
    unfold st_nm
    rw [ih (fun k hk => h k (by omega)), h L (by omega)]
theorem st_sc_eq {c : Int → Int → Int} {a b : Int → Int} : ∀ L : Nat, (∀ k : Nat, k < L → a k = b k) → st_sc c a L = st_sc c b L := by
  intro L
  induction L with
  | zero => intro _; rfl
  | succ L ih =>
    intro h
    unfold st_sc
    rw [ih (fun k hk => h k (by omega)), h L (by omega)]
theorem st_us_eq {a b : Int → Int} {q : Int} : ∀ L : Nat, (∀ k : Nat, k < L → a k = b k) → st_us a q L = st_us b q L := by
  intro L
  induction L with
  | zero => intro _; rfl
  | succ L ih =>
    intro h
    unfold st_us
    rw [ih (fun k hk => h k (by omega)), h L (by omega)]
theorem ev_ss_congr {f g : Int → Int} : ∀ (k : Nat) (b acc : Int), (∀ q, b ≤ q → q < b + k → f q = g q) → ev_ss f k b acc = ev_ss g k b acc := by
  intro k
  induction k with
  | zero => intro b acc _; rfl
  | succ k ih =>
    intro b acc h
    unfold ev_ss
    rw [h b (by omega) (by omega)]
    exact ih _ _ (fun q h0 h1 => h q (by omega) (by omega))
theorem ev_ss_acc {f : Int → Int} : ∀ (k : Nat) (b acc x : Int), ev_ss f k b (acc + x) = ev_ss f k b acc + x := by
  intro k
  induction k with
  | zero => intro b acc x; rfl
  | succ k ih =>
    intro b acc x
    unfold ev_ss
    rw [show acc + x + f b = acc + f b + x by omega, ih]
theorem ev_ss_mono {f g : Int → Int} : ∀ (k : Nat) (b acc acc2 : Int), (∀ q, b ≤ q → q < b + k → f q ≤ g q) → acc ≤ acc2 → ev_ss f k b acc ≤ ev_ss g k b acc2 := by
  intro k
  induction k with
  | zero => intro b acc acc2 _ h; exact h
  | succ k ih =>
    intro b acc acc2 h h1
    unfold ev_ss
    have := h b (by omega) (by omega)
    exact ih _ _ _ (fun q h0 h1 => h q (by omega) (by omega)) (by omega)
theorem ev_ss_in {f : Int → Int} {m : Int} : ∀ (k : Nat) (b acc : Int), (∀ q, b ≤ q → q < b + k → 0 ≤ f q ∧ f q ≤ m) → acc ≤ ev_ss f k b acc ∧ ev_ss f k b acc ≤ acc + k * m := by
  intro k
  induction k with
  | zero => intro b acc _; unfold ev_ss; omega
  | succ k ih =>
    intro b acc h
    have h1 := h b (by omega) (by omega)
    have h2 := ih (b + 1) (acc + f b) (fun q h0 h1 => h q (by omega) (by omega))
    unfold ev_ss
    have h3 : ((k + 1 : Nat) : Int) * m = k * m + m := by
      rw [show ((k + 1 : Nat) : Int) = (k : Int) + 1 by omega, Int.add_mul, Int.one_mul]
    omega
theorem st_pr_eq {c : Int → Int → Int} {f : Int → Int} {B : Int} {L : Nat} {a b : Int → Int} (h : ∀ k : Nat, k < L → a k = b k) : st_pr c f B L a = st_pr c f B L b := by
  unfold st_pr
  rw [st_sc_eq L h]
  exact ev_ss_congr _ _ _ (fun q _ _ => by rw [st_us_eq L h])
theorem st_us_in {a : Int → Int} {b : Int} : ∀ L : Nat, 0 ≤ st_us a b L ∧ st_us a b L ≤ 1 := by
  intro L
  induction L with
  | zero => unfold st_us; omega
  | succ L ih =>
    unfold st_us
    split <;> omega
theorem st_us_iff {a : Int → Int} {b : Int} : ∀ L : Nat, st_us a b L = 1 ↔ ∃ k : Nat, k < L ∧ a k = b := by
  intro L
  induction L with
  | zero =>
    unfold st_us
    constructor
    · intro h; omega
    · intro ⟨k, h, _⟩; omega
  | succ L ih =>
    unfold st_us
    by_cases c : a L = b
    · rw [if_pos c]
      exact ⟨fun _ => ⟨L, by omega, c⟩, fun _ => rfl⟩
    · rw [if_neg c, ih]
      constructor
      · intro ⟨k, h, h1⟩
        exact ⟨k, by omega, h1⟩
      · intro ⟨k, h, h1⟩
        by_cases hk : k = L
        · rw [hk] at h1
          exact absurd h1 c
        · exact ⟨k, by omega, h1⟩
theorem st_sc_le {c : Int → Int → Int} {a b : Int → Int} : ∀ L : Nat, (∀ k : Nat, k < L → c k (a k) ≤ c k (b k)) → st_sc c a L ≤ st_sc c b L ∧ (st_sc c a L = st_sc c b L → ∀ k : Nat, k < L → c k (a k) = c k (b k)) := by
  intro L
  induction L with
  | zero => intro _; exact ⟨Int.le_refl _, fun _ k hk => by omega⟩
  | succ L ih =>
    intro h
    obtain ⟨h1, h2⟩ := ih (fun k hk => h k (by omega))
    have h3 := h L (by omega)
    unfold st_sc
    refine ⟨by omega, fun h4 k hk => ?_⟩
    by_cases hkL : k = L
    · rw [hkL]
      omega
    · exact h2 (by omega) k (by omega)
theorem st_sc_in {c : Int → Int → Int} {a : Int → Int} {m : Int} : ∀ L : Nat, (∀ k : Nat, k < L → 1 ≤ c k (a k) ∧ c k (a k) ≤ m) → L ≤ st_sc c a L ∧ st_sc c a L ≤ L * m := by
  intro L
  induction L with
  | zero => intro _; unfold st_sc; omega
  | succ L ih =>
    intro h
    have h1 := ih (fun k hk => h k (by omega))
    have h2 := h L (by omega)
    unfold st_sc
    have h3 : ((L + 1 : Nat) : Int) * m = L * m + m := by
      rw [show ((L + 1 : Nat) : Int) = (L : Int) + 1 by omega, Int.add_mul, Int.one_mul]
    omega
/-- a giving of the lines to the cheapest of a set -/
def st_gy (c : Int → Int → Int) (B : Int) (L : Nat) (s : Int) (t : Int → Int) : Prop := ∀ k : Nat, k < L → (0 ≤ t k ∧ t k < B ∧ ev_bt s (t k)) ∧ ∀ q, 0 ≤ q → q < B → ev_bt s q → c k (t k) ≤ c k q ∧ (q < t k → c k (t k) < c k q)
def st_fs (f : Int → Int) (B s : Int) : Int := ev_ss (fun b => if ev_bt s b then f b else 0) B.toNat 0 0
theorem st_bt8 : ∀ x y z : Fin 2, ∀ b : Fin 3, ev_bt ((x.val : Int) + 2 * y.val + 4 * z.val) (b.val : Int) ↔ (if b.val = 0 then x.val = 1 else if b.val = 1 then y.val = 1 else z.val = 1) := by decide +kernel
theorem st_best {c : Int → Int → Int} {f : Int → Int} {B cst : Int} {L : Nat} {t : Int → Int} (hL : 0 < L) (hB : 0 < B ∧ B ≤ 3) (hf : ∀ b, 0 ≤ b → b < B → 0 ≤ f b) {s : Int} (ht : st_gy c B L s t) (hc : cst = st_fs f B s + st_sc c t L) (hall : ∀ s2, 1 ≤ s2 → s2 < 2 ^ B.toNat → ∃ t2, st_gy c B L s2 t2 ∧ cst ≤ st_fs f B s2 + st_sc c t2 L ∧ (cst = st_fs f B s2 + st_sc c t2 L → st_nm B t L ≤ st_nm B t2 L)) : st_aw c f B L cst t := by
  have hle : ∀ s2 t2, st_gy c B L s2 t2 → st_pr c f B L t2 ≤ st_fs f B s2 + st_sc c t2 L := by
    intro s2 t2 h2
    unfold st_pr st_fs
    rw [show ev_ss (fun b => if ev_bt s2 b then f b else 0) B.toNat 0 0 + st_sc c t2 L = ev_ss (fun b => if ev_bt s2 b then f b else 0) B.toNat 0 (0 + st_sc c t2 L) from (ev_ss_acc _ _ _ _).symm, Int.zero_add]
    refine ev_ss_mono _ _ _ _ (fun q h0 h1 => ?_) (Int.le_refl _)
    have hq := hf q h0 (by omega)
    have hu := st_us_in (a := t2) (b := q) L
    by_cases hu1 : st_us t2 q L = 1
    · obtain ⟨k, hk, hkq⟩ := (st_us_iff L).mp hu1
      have := (h2 k hk).1.2.2
      rw [hkq] at this
      rw [hu1, if_pos this]
      omega
    · rw [show st_us t2 q L = 0 by omega]
      split <;> omega
  have hva : st_va B L t := fun k hk => ⟨(ht k hk).1.1, (ht k hk).1.2.1⟩
  -- any giving costs no less than the cheapest of its set
  have hany : ∀ a, st_va B L a → ∃ t2, st_gy c B L 0 t2 ∨ True ∧ st_sc c t2 L ≤ st_sc c a L ∧ cst ≤ st_pr c f B L a ∧ (cst = st_pr c f B L a → st_nm B t L ≤ st_nm B a L) := by
    intro a ha
    have h0 := st_us_in (a := a) (b := 0) L
    have h1 := st_us_in (a := a) (b := 1) L
    have h2 := st_us_in (a := a) (b := 2) L
    obtain ⟨x, hx⟩ : ∃ x : Fin 2, (x.val : Int) = st_us a 0 L := ⟨⟨(st_us a 0 L).toNat, by omega⟩, by show ((st_us a 0 L).toNat : Int) = _; omega⟩
    obtain ⟨y, hy⟩ : ∃ x : Fin 2, (x.val : Int) = st_us a 1 L := ⟨⟨(st_us a 1 L).toNat, by omega⟩, by show ((st_us a 1 L).toNat : Int) = _; omega⟩
    obtain ⟨z, hz⟩ : ∃ x : Fin 2, (x.val : Int) = st_us a 2 L := ⟨⟨(st_us a 2 L).toNat, by omega⟩, by show ((st_us a 2 L).toNat : Int) = _; omega⟩
    obtain ⟨S, hS⟩ : ∃ S : Int, S = (x.val : Int) + 2 * y.val + 4 * z.val := ⟨_, rfl⟩
    have hbt : ∀ b, 0 ≤ b → b < B → (ev_bt S b ↔ st_us a b L = 1) := by
      intro b b0 b1
      have t0 := st_bt8 x y z ⟨b.toNat, by omega⟩
      dsimp only at t0
      rw [show ((b.toNat : Nat) : Int) = b by omega, ← hS] at t0
      rw [t0]
      rcases (show b = 0 ∨ b = 1 ∨ b = 2 by omega) with rfl | rfl | rfl
      · rw [if_pos (by decide), ← hx]
        omega
      · rw [if_neg (by decide), if_pos (by decide), ← hy]
        omega
      · rw [if_neg (by decide), if_neg (by decide), ← hz]
        omega
    have hno : ∀ b, B ≤ b → st_us a b L = 0 := by
      intro b hb
      have := st_us_in (a := a) (b := b) L
      by_cases h : st_us a b L = 1
      · obtain ⟨k, hk, hkq⟩ := (st_us_iff L).mp h
        have := ha k hk
        omega
      · omega
    have ha0 := ha 0 hL
    have hone : st_us a (a (0 : Nat)) L = 1 := (st_us_iff L).mpr ⟨0, hL, rfl⟩
    have hS1 : 1 ≤ S ∧ S < 2 ^ B.toNat := by
      have hx2 := x.isLt
      have hy2 := y.isLt
      have hz2 := z.isLt
      constructor
      · rcases (show a (0 : Nat) = 0 ∨ a (0 : Nat) = 1 ∨ a (0 : Nat) = 2 by omega) with h | h | h <;> rw [h] at hone <;> omega
      · rcases (show B = 1 ∨ B = 2 ∨ B = 3 by omega) with rfl | rfl | rfl
        · have := hno 1 (by omega)
          have := hno 2 (by omega)
          show S < 2
          omega
        · have := hno 2 (by omega)
          show S < 4
          omega
        · show S < 8
          omega
    obtain ⟨t2, g2, k1, k2⟩ := hall S hS1.1 hS1.2
    have hcl : ∀ k : Nat, k < L → c k (t2 k) ≤ c k (a k) := fun k hk => ((g2 k hk).2 (a k) (ha k hk).1 (ha k hk).2 ((hbt _ (ha k hk).1 (ha k hk).2).mpr ((st_us_iff L).mpr ⟨k, hk, rfl⟩))).1
    obtain ⟨s1, s2⟩ := st_sc_le L hcl
    have hfs : st_fs f B S + st_sc c a L = st_pr c f B L a := by
      unfold st_pr st_fs
      rw [show ev_ss (fun b => if ev_bt S b then f b else 0) B.toNat 0 0 + st_sc c a L = ev_ss (fun b => if ev_bt S b then f b else 0) B.toNat 0 (0 + st_sc c a L) from (ev_ss_acc _ _ _ _).symm, Int.zero_add]
      refine ev_ss_congr _ _ _ (fun q q0 q1 => ?_)
      have hu := st_us_in (a := a) (b := q) L
      have hb := hbt q q0 (by omega)
      by_cases hu1 : ev_bt S q
      · rw [if_pos hu1, hb.mp hu1]
        omega
      · rw [if_neg hu1, show st_us a q L = 0 from by
          by_cases h : st_us a q L = 1
          · exact absurd (hb.mpr h) hu1
          · omega]
        omega
    refine ⟨t2, Or.inr ⟨trivial, s1, by omega, fun he => ?_⟩⟩
    have k3 := k2 (by omega)
    have k4 := s2 (by omega)
    have k5 : st_nm B t2 L ≤ st_nm B a L := st_nm_mono hB L (fun k hk => by
      by_cases h : t2 k ≤ a k
      · exact h
      · have h6 := ((g2 k hk).2 (a k) (ha k hk).1 (ha k hk).2 ((hbt _ (ha k hk).1 (ha k hk).2).mpr ((st_us_iff L).mpr ⟨k, hk, rfl⟩))).2 (by omega)
        have h7 := k4 k hk
        omega)
    omega
  have hany2 : ∀ a, st_va B L a → cst ≤ st_pr c f B L a ∧ (cst = st_pr c f B L a → st_nm B t L ≤ st_nm B a L) := by
    intro a ha
    obtain ⟨t2, h⟩ := hany a ha
    rcases h with h | h
    · -- the first way is never taken, but is as good
      exfalso
      have h0 := (h 0 hL).1.2.2
      have h1 := (h 0 hL).1.1
      unfold ev_bt at h0
      rw [Int.zero_ediv] at h0
      omega
    · exact h.2.2
  have hpt := hle s t ht
  have hpt2 := (hany2 t hva).1
  refine Or.inr (Or.inr ⟨hL, hB.1, hva, by omega, fun a ha => ?_⟩)
  have h := hany2 a ha
  exact ⟨by omega, fun hn => by omega⟩
theorem st_aw_u {c : Int → Int → Int} {f : Int → Int} {B x y : Int} {L : Nat} {t u : Int → Int} (hB : B ≤ 3) (h1 : st_aw c f B L x t) (h2 : st_aw c f B L y u) : x = y ∧ ∀ k : Nat, k < L → t k = u k := by
  rcases h1 with ⟨a1, a2⟩ | ⟨a1, a2, a3, a4⟩ | ⟨a1, a2, a3, a4, a5⟩
  · rcases h2 with ⟨b1, b2⟩ | ⟨b1, b2, b3, b4⟩ | ⟨b1, b2, b3, b4, b5⟩
    · exact ⟨by omega, fun k hk => by omega⟩
    · omega
    · omega
  · rcases h2 with ⟨b1, b2⟩ | ⟨b1, b2, b3, b4⟩ | ⟨b1, b2, b3, b4, b5⟩
    · omega
    · exact ⟨by omega, fun k hk => by rw [a4 k hk, b4 k hk]⟩
    · omega
  · rcases h2 with ⟨b1, b2⟩ | ⟨b1, b2, b3, b4⟩ | ⟨b1, b2, b3, b4, b5⟩
    · omega
    · omega
    · have k1 := a5 u b3
      have k2 := b5 t a3
      exact ⟨by omega, st_nm_inj ⟨a2, hB⟩ L a3 b3 (by
        by_cases h : st_nm B t L = st_nm B u L
        · exact h
        · by_cases h2 : st_nm B t L < st_nm B u L
          · have := k2.2 h2
            omega
          · have := k1.2 (by omega)
            omega)⟩

