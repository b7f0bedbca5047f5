/-! divisions, switches, posts -/
theorem eo_13d {j : Nat} {ops : List ev_O} {L : ev_L} {st : List ev_V} {σ : ev_M} {k f : Nat} {z w x y : Int} (h0 : y ≠ 0) (h1 : -2147483648 ≤ y) (h2 : y ≤ 2147483647) : EO j ((13, k, f, z, w) :: ops) L (.inl y :: .inl x :: st) σ = EO j ops L (.inl (ev_div x y) :: st) σ := eo_13 (by rw [ev_wr_id h1 h2]; exact h0)
theorem eo_14d {j : Nat} {ops : List ev_O} {L : ev_L} {st : List ev_V} {σ : ev_M} {k f : Nat} {z w x y : Int} (h0 : y ≠ 0) (h1 : -2147483648 ≤ y) (h2 : y ≤ 2147483647) : EO j ((14, k, f, z, w) :: ops) L (.inl y :: .inl x :: st) σ = EO j ops L (.inl (ev_rem x y) :: st) σ := eo_14 (by rw [ev_wr_id h1 h2]; exact h0)
theorem ev_div_id {a b : Int} (h0 : 0 ≤ a) (h1 : a ≤ 2147483647) (h2 : 0 < b) (h3 : b ≤ 2147483647) : ev_div a b = a / b := by
  unfold ev_div
  rw [ev_wr_id (by omega) h1, ev_wr_id (by omega) h3, Int.tdiv_eq_ediv_of_nonneg h0]
theorem ev_rem_id {a b : Int} (h0 : 0 ≤ a) (h1 : a ≤ 2147483647) (h2 : 0 < b) (h3 : b ≤ 2147483647) : ev_rem a b = a % b := by
  unfold ev_rem
  rw [ev_wr_id (by omega) h1, ev_wr_id (by omega) h3, Int.tmod_eq_emod_of_nonneg h0]
def ev_ps (r : Int) : Int := if r = 0 then 0 else if r ≤ 2 then 3 else if r = 3 then 7 else if r = 4 then 12 else if r = 5 then 20 else if r = 6 then 28 else if r = 7 then 40 else 60
theorem sw_0 : ev_sw 0 = ([(0, 1), (1, 2), (2, 2), (3, 3), (4, 4), (5, 5), (6, 6), (7, 7)], 8) := rfl
theorem sw_1 : ev_sw 1 = ([(0, 1), (1, 2), (2, 3), (3, 4), (4, 5), (5, 6), (6, 7), (7, 8), (8, 9), (9, 10), (10, 11)], 12) := rfl
theorem sw_2 : ev_sw 2 = ([(0, 2), (1, 3), (2, 4), (3, 5)], 6) := rfl
theorem sw_3 : ev_sw 3 = ([(0, 2), (1, 3), (2, 4), (3, 5), (4, 6), (5, 7), (6, 8), (7, 11), (8, 14)], 15) := rfl
theorem sw_4 : ev_sw 4 = ([(0, 2), (1, 3), (2, 4), (3, 5), (4, 6), (5, 7)], 8) := rfl
theorem sw_5 : ev_sw 5 = ([(0, 2), (1, 3), (2, 4), (3, 5)], 6) := rfl
theorem sw_6 : ev_sw 6 = ([(0, 3), (5, 4), (6, 5)], 6) := rfl
theorem sw_7 : ev_sw 7 = ([(0, 1), (1, 2), (2, 3), (3, 4), (4, 4), (5, 5), (6, 5), (7, 8), (8, 9), (9, 12), (10, 12), (11, 13), (12, 13), (13, 14), (14, 15), (15, 15), (16, 16)], 19) := rfl

