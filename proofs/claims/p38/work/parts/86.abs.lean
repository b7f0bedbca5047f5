/-! what the class holds between two calls: its row, the rows that are kept (the latest first) -/
def ab_A (σ : ev_M) (T : Int → Int) (hs : List (Int → Int)) : Prop := st_E (st_T σ ev_n) T ∧ st_I T ∧ st_K σ ∧ σ 164 1 = 0 ∧ (hs.length ≤ 5 ∧ σ 162 0 = hs.length) ∧ ∀ (i : Nat) (h : Int → Int), hs[i]? = some h → st_E (st_T σ (σ 163 (hs.length - 1 - i))) h ∧ st_I h
def ab_kp (T : Int → Int) (hs : List (Int → Int)) : List (Int → Int) := (T :: hs).take 5
def ab_Q (j : Nat) (as : List ev_V) (σ : ev_M) (v : Int) (T : Int → Int) (hs : List (Int → Int)) : Prop := ∃ σ1, EM j (.inr (.inl 161) :: as) σ = some (some (.inl v), σ1) ∧ ab_A σ1 T hs
theorem A_rows {σ σ1 : ev_M} {T : Int → Int} {hs : List (Int → Int)} (h : ab_A σ T hs) (h1 : ∀ i, (0 ≤ i ∧ i ≤ 22) ∨ (46 ≤ i ∧ i ≤ 160) ∨ i = 163 → σ1 i = σ i) (h2 : σ1 162 0 = σ 162 0) (h3 : σ1 164 1 = σ 164 1) : ab_A σ1 T hs := by
  obtain ⟨a1, a2, a3, a4, a5, a6⟩ := h
  have hn0 : ev_n = 0 := rfl
  have e163 := h1 163 (by omega)
  refine ⟨st_E_t (st_T_congr (fun o q0 q1 => h1 _ (by omega))) a1, a2, ?_, by rw [h3]; exact a4, ⟨a5.1, by rw [h2]; exact a5.2⟩, fun i h hi => ?_⟩
  · unfold st_K
    rw [e163]
    exact a3
  · have hl := (List.getElem?_eq_some_iff.mp hi).1
    have hk := a3.1 (hs.length - 1 - i) (by omega) (by omega)
    have hk1 := hk.1
    unfold ev_S at hk1
    rw [e163]
    exact ⟨st_E_t (st_T_congr (fun o q0 q1 => h1 _ (by omega))) (a6 i h hi).1, (a6 i h hi).2⟩
theorem A_N {σ σ1 : ev_M} {T : Int → Int} {hs : List (Int → Int)} (h : ab_A σ T hs) (n : st_N σ σ1) : ab_A σ1 T hs := A_rows h (fun i hi => n.1 i (by omega)) n.2.1 n.2.2.1
theorem A_gh {σ : ev_M} {T : Int → Int} {hs : List (Int → Int)} (G : Int → Int) (h : ab_A σ T hs) : ab_A (ev_ua σ 183 G) T hs := A_rows h (fun i hi => ev_ua_row (by omega)) (ev_ua_ne (by omega)) (ev_ua_ne (by omega))
theorem A_E {σ : ev_M} {T U : Int → Int} {hs : List (Int → Int)} (h : ab_A σ T hs) (e : st_E T U) : ab_A σ U hs := ⟨st_E_t h.1 e, st_I_E e h.2.1, h.2.2⟩
/-- it is enough to look at a memory whose ghost row is the row -/
theorem q_gw {j : Nat} {as : List ev_V} {v : Int} {T U : Int → Int} {hs ks : List (Int → Int)} (h : ∀ σ, σ 183 = T → ab_A σ T hs → ab_Q j as σ v U ks) {σ : ev_M} (hA : ab_A σ T hs) : ab_Q j as σ v U ks :=
  EM_gw (F := T) (A := fun σ => ab_A σ T hs) (B := fun σ => ab_A σ U ks) (fun _ G h => A_gh G h) (fun _ G h => A_gh G h) (fun σ e a => h σ e a) hA
theorem q_N {j : Nat} {as : List ev_V} {σ σ1 : ev_M} {v : Int} {T : Int → Int} {hs : List (Int → Int)} (hA : ab_A σ T hs) (e : EM j (.inr (.inl 161) :: as) σ = some (some (.inl v), σ1)) (n : st_N σ σ1) : ab_Q j as σ v T hs := ⟨σ1, e, A_N hA n⟩
/-- a call that keeps the row first -/
theorem A_sv {σ : ev_M} {T : Int → Int} {hs : List (Int → Int)} (hA : ab_A σ T hs) : ∃ σa, EM 26 [.inr (.inl 162), .inr (.inl ev_n)] σ = some (none, σa) ∧ (∀ i, i < 46 ∨ 163 < i → σa i = σ i) ∧ ∀ (σ1 : ev_M) (U : Int → Int), (∀ i, (46 ≤ i ∧ i ≤ 160) ∨ i = 162 ∨ i = 163 ∨ i = 164 → σ1 i = σa i) → st_E (st_T σ1 ev_n) U → st_I U → ab_A σ1 U (ab_kp T hs) := by
  obtain ⟨a1, a2, a3, a4, a5, a6⟩ := id hA
  have hcl : ∀ b, 0 ≤ b → b < 6 → 0 ≤ σ (ev_n + 10) b ∧ σ (ev_n + 10) b ≤ 1 := fun b h0 h1 => by
    rw [tr_10 (σ := σ) (s := ev_n) ⟨h0, h1⟩, a1 _ (by omega) (by omega)]
    exact a2.2.2.2.1 b h0 h1
  obtain ⟨σa, e26, hC⟩ := c_26 a3 (by omega) hcl
  refine ⟨σa, e26, hC.1, fun σ1 U h1 hE hI => ?_⟩
  obtain ⟨c1, c2, c3, c4, c5⟩ := hC
  have hn : σ 162 0 = hs.length := a5.2
  have hd : st_d (σ 162 0) = if hs.length = 5 then 1 else 0 := by
    unfold st_d
    rw [hn]
    by_cases c : hs.length = 5
    · rw [if_pos c, if_pos (by omega)]
    · rw [if_neg c, if_neg (by omega)]
  have hlen : (ab_kp T hs).length = if hs.length = 5 then 5 else hs.length + 1 := by
    unfold ab_kp
    rw [List.length_take, List.length_cons]
    split <;> omega
  have e163 := h1 163 (by omega)
  have hrow : ∀ i, 0 ≤ i → i < 5 → ∀ k, 0 ≤ k → k < 338 → st_T σ1 (σ1 163 i) k = st_T σa (σa 163 i) k := fun i i0 i1 => by
    have hk1 := (c2.1 i i0 i1)
    have hk2 := hk1.1
    unfold ev_S at hk2
    rw [e163]
    exact st_T_congr (fun o q0 q1 => h1 _ (by omega))
  refine ⟨hE, hI, ?_, by rw [h1 164 (by omega), c1 164 (by omega)]; exact a4, ⟨by rw [hlen]; split <;> omega, ?_⟩, fun i h hi => ?_⟩
  · unfold st_K
    rw [e163]
    exact c2
  · rw [h1 162 (by omega), c3, hd, hn, hlen]
    split <;> omega
  · have hl := (List.getElem?_eq_some_iff.mp hi).1
    have hl2 : ((ab_kp T hs).length : Int) = σ 162 0 - st_d (σ 162 0) + 1 := by
      rw [hlen, hd, hn]
      split <;> omega
    have hl5 : (ab_kp T hs).length ≤ 5 := by rw [hlen]; split <;> omega
    unfold ab_kp at hi
    rw [List.getElem?_take, if_pos (by omega)] at hi
    cases i with
    | zero =>
      cases hi
      refine ⟨?_, a2⟩
      rw [show ((ab_kp T hs).length : Int) - 1 - ((0 : Nat) : Int) = σ 162 0 - st_d (σ 162 0) by omega]
      exact st_E_t (hrow _ (by omega) (by omega)) (st_E_t c5 a1)
    | succ i =>
      rw [List.getElem?_cons_succ] at hi
      have hl3 := (List.getElem?_eq_some_iff.mp hi).1
      have g := a6 i h hi
      refine ⟨?_, g.2⟩
      have e1 : ((ab_kp T hs).length : Int) - 1 - ((i + 1 : Nat) : Int) = (hs.length : Int) - 1 - i - st_d (σ 162 0) := by omega
      rw [e1]
      refine st_E_t (hrow _ (by omega) (by omega)) (st_E_t (c4 _ (by omega) (by omega)) ?_)
      rw [show (hs.length : Int) - 1 - i - st_d (σ 162 0) + st_d (σ 162 0) = (hs.length : Int) - 1 - i by omega]
      exact g.1
