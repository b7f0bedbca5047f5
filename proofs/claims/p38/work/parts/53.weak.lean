/-! calls on both sides: weakensIn, weak, ratingBehind -/
theorem st_N_sup {σ M : ev_M} (h1 : ∀ i, (0 ≤ i ∧ i ≤ 22) ∨ (46 ≤ i ∧ i ≤ 160) ∨ i = 163 ∨ i = 165 ∨ i = 184 ∨ i = 190 → M i = σ i) (h2 : M 162 0 = σ 162 0) (h3 : M 164 1 = σ 164 1) (h4 : M 182 1 = σ 182 1) (h5 : M 182 11 = σ 182 11) (h6 : ∀ q, 338 ≤ q → M 183 q = ev_cp σ 183 0 183 2028 338 183 q) : st_N σ (ev_cp M 183 2028 183 0 338) := by
  refine ⟨fun i h => ?_, ?_, ?_, ?_, ?_, fun k h0 h7 => ?_⟩
  · funext z
    rw [ev_cp_ne (by omega), h1 i h]
  · rw [ev_cp_ne (by omega), h2]
  · rw [ev_cp_ne (by omega), h3]
  · rw [ev_cp_ne (by omega), h4]
  · rw [ev_cp_ne (by omega), h5]
  · by_cases c : k < 338
    · rw [ev_cp_in (by omega) (by omega), h6 _ (by omega), ev_cp_in (by omega) (by omega)]
      congr 1
      omega
    · rw [ev_cp_out (by omega), h6 k (by omega), ev_cp_out (by omega)]
