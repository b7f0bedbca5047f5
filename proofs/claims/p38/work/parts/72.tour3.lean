/-! the round: the reference's side -/
def st_fG (f G : Int → Int) : Prop := ∀ y, 0 ≤ y → y < 10 → (f y = -1 ∧ G y = 1000000) ∨ (0 ≤ f y ∧ f y ≤ 990 ∧ G y = f y)
/-- the nearest above b -/
def st_nq (T G : Int → Int) (b c : Int) : Prop := (c = -1 ∧ ∀ d, b < d → ¬ st_cb T G d) ∨ ((st_cb T G c ∧ b < c) ∧ ∀ d, b < d → st_cb T G d → G (st_sn T G c) ≤ G (st_sn T G d) ∧ (d < c → G (st_sn T G c) < G (st_sn T G d)))
theorem st_nq_np {T G : Int → Int} {c : Int} (h : st_nq T G (-1) c) : st_np T G (T 2) c := by
  rcases h with ⟨q1, q2⟩ | ⟨q1, q2⟩
  · exact Or.inl ⟨q1, fun b _ hb => q2 b (by have := hb.1.1; omega) hb⟩
  · exact Or.inr ⟨⟨q1.1, q1.1.1.2⟩, fun b _ hb => q2 b (by have := hb.1.1; omega) hb⟩
theorem st_look_due {T : Int → Int} {b c : Int} (hI : st_I T) (hb : 0 ≤ b ∧ b < T 2) (hc : 0 ≤ c ∧ c < 6) (h : c = b ∨ st_due T c = 0) : st_due (st_look T b) c = 0 := by
  have i2 := hI.1.2.2.1
  have e5 : st_look T b 5 = T 5 := st_look_ne hb.1 (by omega)
  by_cases x : c = b
  · have e1 : st_look T b (89 + 5 * c + 3) = T 5 := by
      rw [x]
      unfold st_look
      rw [ev_u1_ne (by omega), ev_u1_ne (by omega), ev_u1_eq (by omega)]
    unfold st_due
    rw [e1, e5]
    apply if_neg
    split
    · omega
    · split <;> omega
  · have e1 : st_look T b (89 + 5 * c + 3) = T (89 + 5 * c + 3) := by
      unfold st_look
      rw [ev_u1_ne (by omega), ev_u1_ne (by omega), ev_u1_ne (by omega), ev_u1_ne (by omega)]
    have e2 : st_look T b (89 + 5 * c + 2) = T (89 + 5 * c + 2) := by
      unfold st_look
      rw [ev_u1_ne (by omega), ev_u1_ne (by omega), ev_u1_ne (by omega), ev_u1_ne (by omega)]
    have h2 := h.resolve_left x
    unfold st_due at h2 ⊢
    rw [e1, e2, e5]
    exact h2
def st_nd0 (T : Int → Int) (b : Int) : Prop := (0 ≤ b ∧ b < T 2) ∧ st_due T b = 0
