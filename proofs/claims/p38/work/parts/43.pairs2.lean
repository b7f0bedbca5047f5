/-! calls on both sides: components, lines, bidders, the text -/
theorem tw22 {b q : Int} {σ : ev_M} {s v i K : Int} (h : 0 ≤ b ∧ b < 3) (h2 : 0 ≤ q ∧ q < 4) (hi : i = b * 4 + q) (hK : K = 323 + 5 * b + 1 + q) : st_E (st_T (ev_up σ (s + 22) i v) s) (ev_u1 (st_T σ s) K v) := by
  subst hi
  subst hK
  exact tw_22 h h2
