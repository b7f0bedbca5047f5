/-! the state as one row of 338 numbers: by the class's state s, and by the reference's row -/
def ev_ka (k : Int) : Int × Int := if k < 9 then (if k < 2 then (1, k) else if k < 3 then (6, 0) else if k < 5 then (17, k - 3) else (0, k - 2)) else if k < 89 then (2 + (k - 9) % 4, (k - 9) / 4) else if k < 119 then (if (k - 89) % 5 = 0 then (7, (k - 89) / 5) else if (k - 89) % 5 = 1 then (11, (k - 89) / 5) else (6 + (k - 89) % 5, (k - 89) / 5)) else if k < 299 then (12 + (k - 119) % 5, (k - 119) / 5) else if k < 323 then (18 + (k - 299) % 3, (k - 299) / 3) else if (k - 323) % 5 = 0 then (21, (k - 323) / 5) else (22, 4 * ((k - 323) / 5) + (k - 323) % 5 - 1)
def ev_ao (k : Int) : Int := (ev_ka k).1
def ev_ax (k : Int) : Int := (ev_ka k).2
def st_T (σ : ev_M) (s : Int) : Int → Int := fun k => σ (s + ev_ao k) (ev_ax k)
theorem ev_ao_in {k : Int} (h : 0 ≤ k ∧ k < 338) : 0 ≤ ev_ao k ∧ ev_ao k ≤ 22 := by
  unfold ev_ao ev_ka
  (repeat' split) <;> dsimp only <;> omega
theorem st_T_congr {σ σ' : ev_M} {s s' : Int} (h : ∀ o, 0 ≤ o → o ≤ 22 → σ' (s' + o) = σ (s + o)) : ∀ k, 0 ≤ k → k < 338 → st_T σ' s' k = st_T σ s k := by
  intro k h0 h1
  have := ev_ao_in (k := k) ⟨h0, h1⟩
  unfold st_T
  rw [h _ this.1 this.2]
theorem ky_n0 {k : Int} (hk : 0 ≤ k ∧ k < 338) : (ev_ao k = 1 ∧ ev_ax k = 0) ↔ k = 0 := by
  unfold ev_ao ev_ax ev_ka
  (repeat' split) <;> dsimp only <;> omega
theorem tr_n0 {σ : ev_M} {s : Int} : σ (s + 1) (0) = st_T σ s (0) := by
  have hk := (ky_n0 (k := 0) (by omega)).mpr rfl
  unfold st_T
  rw [hk.1, hk.2]
theorem tw_n0 {σ : ev_M} {s v : Int} : ∀ k, 0 ≤ k → k < 338 → st_T (ev_up σ (s + 1) (0) v) s k = ev_u1 (st_T σ s) (0) v k := by
  intro k h0 h1
  have hk := ky_n0 (k := k) ⟨h0, h1⟩
  by_cases hc : k = 0
  · rw [ev_u1_eq hc]
    have h3 := hk.mpr hc
    unfold st_T
    exact ev_up_eq ⟨by omega, h3.2⟩
  · rw [ev_u1_ne hc]
    unfold st_T
    refine ev_up_ne ?_
    by_cases h8 : ev_ao k = 1
    · exact Or.inr (fun h9 => hc (hk.mp ⟨h8, h9⟩))
    · exact Or.inl (by omega)
theorem ky_n1 {k : Int} (hk : 0 ≤ k ∧ k < 338) : (ev_ao k = 1 ∧ ev_ax k = 1) ↔ k = 1 := by
  unfold ev_ao ev_ax ev_ka
  (repeat' split) <;> dsimp only <;> omega
theorem tr_n1 {σ : ev_M} {s : Int} : σ (s + 1) (1) = st_T σ s (1) := by
  have hk := (ky_n1 (k := 1) (by omega)).mpr rfl
  unfold st_T
  rw [hk.1, hk.2]
theorem tw_n1 {σ : ev_M} {s v : Int} : ∀ k, 0 ≤ k → k < 338 → st_T (ev_up σ (s + 1) (1) v) s k = ev_u1 (st_T σ s) (1) v k := by
  intro k h0 h1
  have hk := ky_n1 (k := k) ⟨h0, h1⟩
  by_cases hc : k = 1
  · rw [ev_u1_eq hc]
    have h3 := hk.mpr hc
    unfold st_T
    exact ev_up_eq ⟨by omega, h3.2⟩
  · rw [ev_u1_ne hc]
    unfold st_T
    refine ev_up_ne ?_
    by_cases h8 : ev_ao k = 1
    · exact Or.inr (fun h9 => hc (hk.mp ⟨h8, h9⟩))
    · exact Or.inl (by omega)
theorem ky_n2 {k : Int} (hk : 0 ≤ k ∧ k < 338) : (ev_ao k = 6 ∧ ev_ax k = 0) ↔ k = 2 := by
  unfold ev_ao ev_ax ev_ka
  (repeat' split) <;> dsimp only <;> omega
theorem tr_n2 {σ : ev_M} {s : Int} : σ (s + 6) (0) = st_T σ s (2) := by
  have hk := (ky_n2 (k := 2) (by omega)).mpr rfl
  unfold st_T
  rw [hk.1, hk.2]
theorem tw_n2 {σ : ev_M} {s v : Int} : ∀ k, 0 ≤ k → k < 338 → st_T (ev_up σ (s + 6) (0) v) s k = ev_u1 (st_T σ s) (2) v k := by
  intro k h0 h1
  have hk := ky_n2 (k := k) ⟨h0, h1⟩
  by_cases hc : k = 2
  · rw [ev_u1_eq hc]
    have h3 := hk.mpr hc
    unfold st_T
    exact ev_up_eq ⟨by omega, h3.2⟩
  · rw [ev_u1_ne hc]
    unfold st_T
    refine ev_up_ne ?_
    by_cases h8 : ev_ao k = 6
    · exact Or.inr (fun h9 => hc (hk.mp ⟨h8, h9⟩))
    · exact Or.inl (by omega)
theorem ky_n3 {k : Int} (hk : 0 ≤ k ∧ k < 338) : (ev_ao k = 17 ∧ ev_ax k = 0) ↔ k = 3 := by
  unfold ev_ao ev_ax ev_ka
  (repeat' split) <;> dsimp only <;> omega
theorem tr_n3 {σ : ev_M} {s : Int} : σ (s + 17) (0) = st_T σ s (3) := by
  have hk := (ky_n3 (k := 3) (by omega)).mpr rfl
  unfold st_T
  rw [hk.1, hk.2]
theorem tw_n3 {σ : ev_M} {s v : Int} : ∀ k, 0 ≤ k → k < 338 → st_T (ev_up σ (s + 17) (0) v) s k = ev_u1 (st_T σ s) (3) v k := by
  intro k h0 h1
  have hk := ky_n3 (k := k) ⟨h0, h1⟩
  by_cases hc : k = 3
  · rw [ev_u1_eq hc]
    have h3 := hk.mpr hc
    unfold st_T
    exact ev_up_eq ⟨by omega, h3.2⟩
  · rw [ev_u1_ne hc]
    unfold st_T
    refine ev_up_ne ?_
    by_cases h8 : ev_ao k = 17
    · exact Or.inr (fun h9 => hc (hk.mp ⟨h8, h9⟩))
    · exact Or.inl (by omega)
theorem ky_n4 {k : Int} (hk : 0 ≤ k ∧ k < 338) : (ev_ao k = 17 ∧ ev_ax k = 1) ↔ k = 4 := by
  unfold ev_ao ev_ax ev_ka
  (repeat' split) <;> dsimp only <;> omega
theorem tr_n4 {σ : ev_M} {s : Int} : σ (s + 17) (1) = st_T σ s (4) := by
  have hk := (ky_n4 (k := 4) (by omega)).mpr rfl
  unfold st_T
  rw [hk.1, hk.2]
theorem tw_n4 {σ : ev_M} {s v : Int} : ∀ k, 0 ≤ k → k < 338 → st_T (ev_up σ (s + 17) (1) v) s k = ev_u1 (st_T σ s) (4) v k := by
  intro k h0 h1
  have hk := ky_n4 (k := k) ⟨h0, h1⟩
  by_cases hc : k = 4
  · rw [ev_u1_eq hc]
    have h3 := hk.mpr hc
    unfold st_T
    exact ev_up_eq ⟨by omega, h3.2⟩
  · rw [ev_u1_ne hc]
    unfold st_T
    refine ev_up_ne ?_
    by_cases h8 : ev_ao k = 17
    · exact Or.inr (fun h9 => hc (hk.mp ⟨h8, h9⟩))
    · exact Or.inl (by omega)
theorem ky_n5 {k : Int} (hk : 0 ≤ k ∧ k < 338) : (ev_ao k = 0 ∧ ev_ax k = 3) ↔ k = 5 := by
  unfold ev_ao ev_ax ev_ka
  (repeat' split) <;> dsimp only <;> omega
theorem tr_n5 {σ : ev_M} {s : Int} : σ (s) (3) = st_T σ s (5) := by
  have hk := (ky_n5 (k := 5) (by omega)).mpr rfl
  unfold st_T
  rw [hk.1, hk.2]; rw [Int.add_zero]
theorem tw_n5 {σ : ev_M} {s v : Int} : ∀ k, 0 ≤ k → k < 338 → st_T (ev_up σ (s) (3) v) s k = ev_u1 (st_T σ s) (5) v k := by
  intro k h0 h1
  have hk := ky_n5 (k := k) ⟨h0, h1⟩
  by_cases hc : k = 5
  · rw [ev_u1_eq hc]
    have h3 := hk.mpr hc
    unfold st_T
    exact ev_up_eq ⟨by omega, h3.2⟩
  · rw [ev_u1_ne hc]
    unfold st_T
    refine ev_up_ne ?_
    by_cases h8 : ev_ao k = 0
    · exact Or.inr (fun h9 => hc (hk.mp ⟨h8, h9⟩))
    · exact Or.inl (by omega)
theorem ky_n6 {k : Int} (hk : 0 ≤ k ∧ k < 338) : (ev_ao k = 0 ∧ ev_ax k = 4) ↔ k = 6 := by
  unfold ev_ao ev_ax ev_ka
  (repeat' split) <;> dsimp only <;> omega
theorem tr_n6 {σ : ev_M} {s : Int} : σ (s) (4) = st_T σ s (6) := by
  have hk := (ky_n6 (k := 6) (by omega)).mpr rfl
  unfold st_T
  rw [hk.1, hk.2]; rw [Int.add_zero]
theorem tw_n6 {σ : ev_M} {s v : Int} : ∀ k, 0 ≤ k → k < 338 → st_T (ev_up σ (s) (4) v) s k = ev_u1 (st_T σ s) (6) v k := by
  intro k h0 h1
  have hk := ky_n6 (k := k) ⟨h0, h1⟩
  by_cases hc : k = 6
  · rw [ev_u1_eq hc]
    have h3 := hk.mpr hc
    unfold st_T
    exact ev_up_eq ⟨by omega, h3.2⟩
  · rw [ev_u1_ne hc]
    unfold st_T
    refine ev_up_ne ?_
    by_cases h8 : ev_ao k = 0
    · exact Or.inr (fun h9 => hc (hk.mp ⟨h8, h9⟩))
    · exact Or.inl (by omega)
theorem ky_n7 {k : Int} (hk : 0 ≤ k ∧ k < 338) : (ev_ao k = 0 ∧ ev_ax k = 5) ↔ k = 7 := by
  unfold ev_ao ev_ax ev_ka
  (repeat' split) <;> dsimp only <;> omega
theorem tr_n7 {σ : ev_M} {s : Int} : σ (s) (5) = st_T σ s (7) := by
  have hk := (ky_n7 (k := 7) (by omega)).mpr rfl
  unfold st_T
  rw [hk.1, hk.2]; rw [Int.add_zero]
theorem tw_n7 {σ : ev_M} {s v : Int} : ∀ k, 0 ≤ k → k < 338 → st_T (ev_up σ (s) (5) v) s k = ev_u1 (st_T σ s) (7) v k := by
  intro k h0 h1
  have hk := ky_n7 (k := k) ⟨h0, h1⟩
  by_cases hc : k = 7
  · rw [ev_u1_eq hc]
    have h3 := hk.mpr hc
    unfold st_T
    exact ev_up_eq ⟨by omega, h3.2⟩
  · rw [ev_u1_ne hc]
    unfold st_T
    refine ev_up_ne ?_
    by_cases h8 : ev_ao k = 0
    · exact Or.inr (fun h9 => hc (hk.mp ⟨h8, h9⟩))
    · exact Or.inl (by omega)
theorem ky_n8 {k : Int} (hk : 0 ≤ k ∧ k < 338) : (ev_ao k = 0 ∧ ev_ax k = 6) ↔ k = 8 := by
  unfold ev_ao ev_ax ev_ka
  (repeat' split) <;> dsimp only <;> omega
theorem tr_n8 {σ : ev_M} {s : Int} : σ (s) (6) = st_T σ s (8) := by
  have hk := (ky_n8 (k := 8) (by omega)).mpr rfl
  unfold st_T
  rw [hk.1, hk.2]; rw [Int.add_zero]
theorem tw_n8 {σ : ev_M} {s v : Int} : ∀ k, 0 ≤ k → k < 338 → st_T (ev_up σ (s) (6) v) s k = ev_u1 (st_T σ s) (8) v k := by
  intro k h0 h1
  have hk := ky_n8 (k := k) ⟨h0, h1⟩
  by_cases hc : k = 8
  · rw [ev_u1_eq hc]
    have h3 := hk.mpr hc
    unfold st_T
    exact ev_up_eq ⟨by omega, h3.2⟩
  · rw [ev_u1_ne hc]
    unfold st_T
    refine ev_up_ne ?_
    by_cases h8 : ev_ao k = 0
    · exact Or.inr (fun h9 => hc (hk.mp ⟨h8, h9⟩))
    · exact Or.inl (by omega)
theorem ky_2 {r : Int} (h : 0 ≤ r ∧ r < 20) {k : Int} (hk : 0 ≤ k ∧ k < 338) : (ev_ao k = 2 ∧ ev_ax k = r) ↔ k = 9 + 4 * r := by
  unfold ev_ao ev_ax ev_ka
  (repeat' split) <;> dsimp only <;> omega
theorem tr_2 {r : Int} {σ : ev_M} {s : Int} (h : 0 ≤ r ∧ r < 20) : σ (s + 2) (r) = st_T σ s (9 + 4 * r) := by
  have hk := (ky_2 h (k := 9 + 4 * r) (by omega)).mpr rfl
  unfold st_T
  rw [hk.1, hk.2]
theorem tw_2 {r : Int} {σ : ev_M} {s v : Int} (h : 0 ≤ r ∧ r < 20) : ∀ k, 0 ≤ k → k < 338 → st_T (ev_up σ (s + 2) (r) v) s k = ev_u1 (st_T σ s) (9 + 4 * r) v k := by
  intro k h0 h1
  have hk := ky_2 h (k := k) ⟨h0, h1⟩
  by_cases hc : k = 9 + 4 * r
  · rw [ev_u1_eq hc]
    have h3 := hk.mpr hc
    unfold st_T
    exact ev_up_eq ⟨by omega, h3.2⟩
  · rw [ev_u1_ne hc]
    unfold st_T
    refine ev_up_ne ?_
    by_cases h8 : ev_ao k = 2
    · exact Or.inr (fun h9 => hc (hk.mp ⟨h8, h9⟩))
    · exact Or.inl (by omega)
theorem ky_3 {r : Int} (h : 0 ≤ r ∧ r < 20) {k : Int} (hk : 0 ≤ k ∧ k < 338) : (ev_ao k = 3 ∧ ev_ax k = r) ↔ k = 9 + 4 * r + 1 := by
  unfold ev_ao ev_ax ev_ka
  (repeat' split) <;> dsimp only <;> omega
theorem tr_3 {r : Int} {σ : ev_M} {s : Int} (h : 0 ≤ r ∧ r < 20) : σ (s + 3) (r) = st_T σ s (9 + 4 * r + 1) := by
  have hk := (ky_3 h (k := 9 + 4 * r + 1) (by omega)).mpr rfl
  unfold st_T
  rw [hk.1, hk.2]
theorem tw_3 {r : Int} {σ : ev_M} {s v : Int} (h : 0 ≤ r ∧ r < 20) : ∀ k, 0 ≤ k → k < 338 → st_T (ev_up σ (s + 3) (r) v) s k = ev_u1 (st_T σ s) (9 + 4 * r + 1) v k := by
  intro k h0 h1
  have hk := ky_3 h (k := k) ⟨h0, h1⟩
  by_cases hc : k = 9 + 4 * r + 1
  · rw [ev_u1_eq hc]
    have h3 := hk.mpr hc
    unfold st_T
    exact ev_up_eq ⟨by omega, h3.2⟩
  · rw [ev_u1_ne hc]
    unfold st_T
    refine ev_up_ne ?_
    by_cases h8 : ev_ao k = 3
    · exact Or.inr (fun h9 => hc (hk.mp ⟨h8, h9⟩))
    · exact Or.inl (by omega)
theorem ky_4 {r : Int} (h : 0 ≤ r ∧ r < 20) {k : Int} (hk : 0 ≤ k ∧ k < 338) : (ev_ao k = 4 ∧ ev_ax k = r) ↔ k = 9 + 4 * r + 2 := by
  unfold ev_ao ev_ax ev_ka
  (repeat' split) <;> dsimp only <;> omega
theorem tr_4 {r : Int} {σ : ev_M} {s : Int} (h : 0 ≤ r ∧ r < 20) : σ (s + 4) (r) = st_T σ s (9 + 4 * r + 2) := by
  have hk := (ky_4 h (k := 9 + 4 * r + 2) (by omega)).mpr rfl
  unfold st_T
  rw [hk.1, hk.2]
theorem tw_4 {r : Int} {σ : ev_M} {s v : Int} (h : 0 ≤ r ∧ r < 20) : ∀ k, 0 ≤ k → k < 338 → st_T (ev_up σ (s + 4) (r) v) s k = ev_u1 (st_T σ s) (9 + 4 * r + 2) v k := by
  intro k h0 h1
  have hk := ky_4 h (k := k) ⟨h0, h1⟩
  by_cases hc : k = 9 + 4 * r + 2
  · rw [ev_u1_eq hc]
    have h3 := hk.mpr hc
    unfold st_T
    exact ev_up_eq ⟨by omega, h3.2⟩
  · rw [ev_u1_ne hc]
    unfold st_T
    refine ev_up_ne ?_
    by_cases h8 : ev_ao k = 4
    · exact Or.inr (fun h9 => hc (hk.mp ⟨h8, h9⟩))
    · exact Or.inl (by omega)
theorem ky_5 {r : Int} (h : 0 ≤ r ∧ r < 20) {k : Int} (hk : 0 ≤ k ∧ k < 338) : (ev_ao k = 5 ∧ ev_ax k = r) ↔ k = 9 + 4 * r + 3 := by
  unfold ev_ao ev_ax ev_ka
  (repeat' split) <;> dsimp only <;> omega
theorem tr_5 {r : Int} {σ : ev_M} {s : Int} (h : 0 ≤ r ∧ r < 20) : σ (s + 5) (r) = st_T σ s (9 + 4 * r + 3) := by
  have hk := (ky_5 h (k := 9 + 4 * r + 3) (by omega)).mpr rfl
  unfold st_T
  rw [hk.1, hk.2]
theorem tw_5 {r : Int} {σ : ev_M} {s v : Int} (h : 0 ≤ r ∧ r < 20) : ∀ k, 0 ≤ k → k < 338 → st_T (ev_up σ (s + 5) (r) v) s k = ev_u1 (st_T σ s) (9 + 4 * r + 3) v k := by
  intro k h0 h1
  have hk := ky_5 h (k := k) ⟨h0, h1⟩
  by_cases hc : k = 9 + 4 * r + 3
  · rw [ev_u1_eq hc]
    have h3 := hk.mpr hc
    unfold st_T
    exact ev_up_eq ⟨by omega, h3.2⟩
  · rw [ev_u1_ne hc]
    unfold st_T
    refine ev_up_ne ?_
    by_cases h8 : ev_ao k = 5
    · exact Or.inr (fun h9 => hc (hk.mp ⟨h8, h9⟩))
    · exact Or.inl (by omega)
theorem ky_7 {b : Int} (h : 0 ≤ b ∧ b < 6) {k : Int} (hk : 0 ≤ k ∧ k < 338) : (ev_ao k = 7 ∧ ev_ax k = b) ↔ k = 89 + 5 * b := by
  unfold ev_ao ev_ax ev_ka
  (repeat' split) <;> dsimp only <;> omega
theorem tr_7 {b : Int} {σ : ev_M} {s : Int} (h : 0 ≤ b ∧ b < 6) : σ (s + 7) (b) = st_T σ s (89 + 5 * b) := by
  have hk := (ky_7 h (k := 89 + 5 * b) (by omega)).mpr rfl
  unfold st_T
  rw [hk.1, hk.2]
theorem tw_7 {b : Int} {σ : ev_M} {s v : Int} (h : 0 ≤ b ∧ b < 6) : ∀ k, 0 ≤ k → k < 338 → st_T (ev_up σ (s + 7) (b) v) s k = ev_u1 (st_T σ s) (89 + 5 * b) v k := by
  intro k h0 h1
  have hk := ky_7 h (k := k) ⟨h0, h1⟩
  by_cases hc : k = 89 + 5 * b
  · rw [ev_u1_eq hc]
    have h3 := hk.mpr hc
    unfold st_T
    exact ev_up_eq ⟨by omega, h3.2⟩
  · rw [ev_u1_ne hc]
    unfold st_T
    refine ev_up_ne ?_
    by_cases h8 : ev_ao k = 7
    · exact Or.inr (fun h9 => hc (hk.mp ⟨h8, h9⟩))
    · exact Or.inl (by omega)
theorem ky_11 {b : Int} (h : 0 ≤ b ∧ b < 6) {k : Int} (hk : 0 ≤ k ∧ k < 338) : (ev_ao k = 11 ∧ ev_ax k = b) ↔ k = 89 + 5 * b + 1 := by
  unfold ev_ao ev_ax ev_ka
  (repeat' split) <;> dsimp only <;> omega
theorem tr_11 {b : Int} {σ : ev_M} {s : Int} (h : 0 ≤ b ∧ b < 6) : σ (s + 11) (b) = st_T σ s (89 + 5 * b + 1) := by
  have hk := (ky_11 h (k := 89 + 5 * b + 1) (by omega)).mpr rfl
  unfold st_T
  rw [hk.1, hk.2]
theorem tw_11 {b : Int} {σ : ev_M} {s v : Int} (h : 0 ≤ b ∧ b < 6) : ∀ k, 0 ≤ k → k < 338 → st_T (ev_up σ (s + 11) (b) v) s k = ev_u1 (st_T σ s) (89 + 5 * b + 1) v k := by
  intro k h0 h1
  have hk := ky_11 h (k := k) ⟨h0, h1⟩
  by_cases hc : k = 89 + 5 * b + 1
  · rw [ev_u1_eq hc]
    have h3 := hk.mpr hc
    unfold st_T
    exact ev_up_eq ⟨by omega, h3.2⟩
  · rw [ev_u1_ne hc]
    unfold st_T
    refine ev_up_ne ?_
    by_cases h8 : ev_ao k = 11
    · exact Or.inr (fun h9 => hc (hk.mp ⟨h8, h9⟩))
    · exact Or.inl (by omega)
theorem ky_8 {b : Int} (h : 0 ≤ b ∧ b < 6) {k : Int} (hk : 0 ≤ k ∧ k < 338) : (ev_ao k = 8 ∧ ev_ax k = b) ↔ k = 89 + 5 * b + 2 := by
  unfold ev_ao ev_ax ev_ka
  (repeat' split) <;> dsimp only <;> omega
theorem tr_8 {b : Int} {σ : ev_M} {s : Int} (h : 0 ≤ b ∧ b < 6) : σ (s + 8) (b) = st_T σ s (89 + 5 * b + 2) := by
  have hk := (ky_8 h (k := 89 + 5 * b + 2) (by omega)).mpr rfl
  unfold st_T
  rw [hk.1, hk.2]
theorem tw_8 {b : Int} {σ : ev_M} {s v : Int} (h : 0 ≤ b ∧ b < 6) : ∀ k, 0 ≤ k → k < 338 → st_T (ev_up σ (s + 8) (b) v) s k = ev_u1 (st_T σ s) (89 + 5 * b + 2) v k := by
  intro k h0 h1
  have hk := ky_8 h (k := k) ⟨h0, h1⟩
  by_cases hc : k = 89 + 5 * b + 2
  · rw [ev_u1_eq hc]
    have h3 := hk.mpr hc
    unfold st_T
    exact ev_up_eq ⟨by omega, h3.2⟩
  · rw [ev_u1_ne hc]
    unfold st_T
    refine ev_up_ne ?_
    by_cases h8 : ev_ao k = 8
    · exact Or.inr (fun h9 => hc (hk.mp ⟨h8, h9⟩))
    · exact Or.inl (by omega)
theorem ky_9 {b : Int} (h : 0 ≤ b ∧ b < 6) {k : Int} (hk : 0 ≤ k ∧ k < 338) : (ev_ao k = 9 ∧ ev_ax k = b) ↔ k = 89 + 5 * b + 3 := by
  unfold ev_ao ev_ax ev_ka
  (repeat' split) <;> dsimp only <;> omega
theorem tr_9 {b : Int} {σ : ev_M} {s : Int} (h : 0 ≤ b ∧ b < 6) : σ (s + 9) (b) = st_T σ s (89 + 5 * b + 3) := by
  have hk := (ky_9 h (k := 89 + 5 * b + 3) (by omega)).mpr rfl
  unfold st_T
  rw [hk.1, hk.2]
theorem tw_9 {b : Int} {σ : ev_M} {s v : Int} (h : 0 ≤ b ∧ b < 6) : ∀ k, 0 ≤ k → k < 338 → st_T (ev_up σ (s + 9) (b) v) s k = ev_u1 (st_T σ s) (89 + 5 * b + 3) v k := by
  intro k h0 h1
  have hk := ky_9 h (k := k) ⟨h0, h1⟩
  by_cases hc : k = 89 + 5 * b + 3
  · rw [ev_u1_eq hc]
    have h3 := hk.mpr hc
    unfold st_T
    exact ev_up_eq ⟨by omega, h3.2⟩
  · rw [ev_u1_ne hc]
    unfold st_T
    refine ev_up_ne ?_
    by_cases h8 : ev_ao k = 9
    · exact Or.inr (fun h9 => hc (hk.mp ⟨h8, h9⟩))
    · exact Or.inl (by omega)
theorem ky_10 {b : Int} (h : 0 ≤ b ∧ b < 6) {k : Int} (hk : 0 ≤ k ∧ k < 338) : (ev_ao k = 10 ∧ ev_ax k = b) ↔ k = 89 + 5 * b + 4 := by
  unfold ev_ao ev_ax ev_ka
  (repeat' split) <;> dsimp only <;> omega
theorem tr_10 {b : Int} {σ : ev_M} {s : Int} (h : 0 ≤ b ∧ b < 6) : σ (s + 10) (b) = st_T σ s (89 + 5 * b + 4) := by
  have hk := (ky_10 h (k := 89 + 5 * b + 4) (by omega)).mpr rfl
  unfold st_T
  rw [hk.1, hk.2]
theorem tw_10 {b : Int} {σ : ev_M} {s v : Int} (h : 0 ≤ b ∧ b < 6) : ∀ k, 0 ≤ k → k < 338 → st_T (ev_up σ (s + 10) (b) v) s k = ev_u1 (st_T σ s) (89 + 5 * b + 4) v k := by
  intro k h0 h1
  have hk := ky_10 h (k := k) ⟨h0, h1⟩
  by_cases hc : k = 89 + 5 * b + 4
  · rw [ev_u1_eq hc]
    have h3 := hk.mpr hc
    unfold st_T
    exact ev_up_eq ⟨by omega, h3.2⟩
  · rw [ev_u1_ne hc]
    unfold st_T
    refine ev_up_ne ?_
    by_cases h8 : ev_ao k = 10
    · exact Or.inr (fun h9 => hc (hk.mp ⟨h8, h9⟩))
    · exact Or.inl (by omega)
theorem ky_12 {b c : Int} (h : 0 ≤ b ∧ b < 6) (h2 : 0 ≤ c ∧ c < 6) {k : Int} (hk : 0 ≤ k ∧ k < 338) : (ev_ao k = 12 ∧ ev_ax k = b * 6 + c) ↔ k = 119 + 30 * b + 5 * c := by
  unfold ev_ao ev_ax ev_ka
  (repeat' split) <;> dsimp only <;> omega
theorem tr_12 {b c : Int} {σ : ev_M} {s : Int} (h : 0 ≤ b ∧ b < 6) (h2 : 0 ≤ c ∧ c < 6) : σ (s + 12) (b * 6 + c) = st_T σ s (119 + 30 * b + 5 * c) := by
  have hk := (ky_12 h h2 (k := 119 + 30 * b + 5 * c) (by omega)).mpr rfl
  unfold st_T
  rw [hk.1, hk.2]
theorem tw_12 {b c : Int} {σ : ev_M} {s v : Int} (h : 0 ≤ b ∧ b < 6) (h2 : 0 ≤ c ∧ c < 6) : ∀ k, 0 ≤ k → k < 338 → st_T (ev_up σ (s + 12) (b * 6 + c) v) s k = ev_u1 (st_T σ s) (119 + 30 * b + 5 * c) v k := by
  intro k h0 h1
  have hk := ky_12 h h2 (k := k) ⟨h0, h1⟩
  by_cases hc : k = 119 + 30 * b + 5 * c
  · rw [ev_u1_eq hc]
    have h3 := hk.mpr hc
    unfold st_T
    exact ev_up_eq ⟨by omega, h3.2⟩
  · rw [ev_u1_ne hc]
    unfold st_T
    refine ev_up_ne ?_
    by_cases h8 : ev_ao k = 12
    · exact Or.inr (fun h9 => hc (hk.mp ⟨h8, h9⟩))
    · exact Or.inl (by omega)
theorem ky_13 {b c : Int} (h : 0 ≤ b ∧ b < 6) (h2 : 0 ≤ c ∧ c < 6) {k : Int} (hk : 0 ≤ k ∧ k < 338) : (ev_ao k = 13 ∧ ev_ax k = b * 6 + c) ↔ k = 119 + 30 * b + 5 * c + 1 := by
  unfold ev_ao ev_ax ev_ka
  (repeat' split) <;> dsimp only <;> omega
theorem tr_13 {b c : Int} {σ : ev_M} {s : Int} (h : 0 ≤ b ∧ b < 6) (h2 : 0 ≤ c ∧ c < 6) : σ (s + 13) (b * 6 + c) = st_T σ s (119 + 30 * b + 5 * c + 1) := by
  have hk := (ky_13 h h2 (k := 119 + 30 * b + 5 * c + 1) (by omega)).mpr rfl
  unfold st_T
  rw [hk.1, hk.2]
theorem tw_13 {b c : Int} {σ : ev_M} {s v : Int} (h : 0 ≤ b ∧ b < 6) (h2 : 0 ≤ c ∧ c < 6) : ∀ k, 0 ≤ k → k < 338 → st_T (ev_up σ (s + 13) (b * 6 + c) v) s k = ev_u1 (st_T σ s) (119 + 30 * b + 5 * c + 1) v k := by
  intro k h0 h1
  have hk := ky_13 h h2 (k := k) ⟨h0, h1⟩
  by_cases hc : k = 119 + 30 * b + 5 * c + 1
  · rw [ev_u1_eq hc]
    have h3 := hk.mpr hc
    unfold st_T
    exact ev_up_eq ⟨by omega, h3.2⟩
  · rw [ev_u1_ne hc]
    unfold st_T
    refine ev_up_ne ?_
    by_cases h8 : ev_ao k = 13
    · exact Or.inr (fun h9 => hc (hk.mp ⟨h8, h9⟩))
    · exact Or.inl (by omega)
theorem ky_14 {b c : Int} (h : 0 ≤ b ∧ b < 6) (h2 : 0 ≤ c ∧ c < 6) {k : Int} (hk : 0 ≤ k ∧ k < 338) : (ev_ao k = 14 ∧ ev_ax k = b * 6 + c) ↔ k = 119 + 30 * b + 5 * c + 2 := by
  unfold ev_ao ev_ax ev_ka
  (repeat' split) <;> dsimp only <;> omega
theorem tr_14 {b c : Int} {σ : ev_M} {s : Int} (h : 0 ≤ b ∧ b < 6) (h2 : 0 ≤ c ∧ c < 6) : σ (s + 14) (b * 6 + c) = st_T σ s (119 + 30 * b + 5 * c + 2) := by
  have hk := (ky_14 h h2 (k := 119 + 30 * b + 5 * c + 2) (by omega)).mpr rfl
  unfold st_T
  rw [hk.1, hk.2]
theorem tw_14 {b c : Int} {σ : ev_M} {s v : Int} (h : 0 ≤ b ∧ b < 6) (h2 : 0 ≤ c ∧ c < 6) : ∀ k, 0 ≤ k → k < 338 → st_T (ev_up σ (s + 14) (b * 6 + c) v) s k = ev_u1 (st_T σ s) (119 + 30 * b + 5 * c + 2) v k := by
  intro k h0 h1
  have hk := ky_14 h h2 (k := k) ⟨h0, h1⟩
  by_cases hc : k = 119 + 30 * b + 5 * c + 2
  · rw [ev_u1_eq hc]
    have h3 := hk.mpr hc
    unfold st_T
    exact ev_up_eq ⟨by omega, h3.2⟩
  · rw [ev_u1_ne hc]
    unfold st_T
    refine ev_up_ne ?_
    by_cases h8 : ev_ao k = 14
    · exact Or.inr (fun h9 => hc (hk.mp ⟨h8, h9⟩))
    · exact Or.inl (by omega)
theorem ky_15 {b c : Int} (h : 0 ≤ b ∧ b < 6) (h2 : 0 ≤ c ∧ c < 6) {k : Int} (hk : 0 ≤ k ∧ k < 338) : (ev_ao k = 15 ∧ ev_ax k = b * 6 + c) ↔ k = 119 + 30 * b + 5 * c + 3 := by
  unfold ev_ao ev_ax ev_ka
  (repeat' split) <;> dsimp only <;> omega
theorem tr_15 {b c : Int} {σ : ev_M} {s : Int} (h : 0 ≤ b ∧ b < 6) (h2 : 0 ≤ c ∧ c < 6) : σ (s + 15) (b * 6 + c) = st_T σ s (119 + 30 * b + 5 * c + 3) := by
  have hk := (ky_15 h h2 (k := 119 + 30 * b + 5 * c + 3) (by omega)).mpr rfl
  unfold st_T
  rw [hk.1, hk.2]
theorem tw_15 {b c : Int} {σ : ev_M} {s v : Int} (h : 0 ≤ b ∧ b < 6) (h2 : 0 ≤ c ∧ c < 6) : ∀ k, 0 ≤ k → k < 338 → st_T (ev_up σ (s + 15) (b * 6 + c) v) s k = ev_u1 (st_T σ s) (119 + 30 * b + 5 * c + 3) v k := by
  intro k h0 h1
  have hk := ky_15 h h2 (k := k) ⟨h0, h1⟩
  by_cases hc : k = 119 + 30 * b + 5 * c + 3
  · rw [ev_u1_eq hc]
    have h3 := hk.mpr hc
    unfold st_T
    exact ev_up_eq ⟨by omega, h3.2⟩
  · rw [ev_u1_ne hc]
    unfold st_T
    refine ev_up_ne ?_
    by_cases h8 : ev_ao k = 15
    · exact Or.inr (fun h9 => hc (hk.mp ⟨h8, h9⟩))
    · exact Or.inl (by omega)
theorem ky_16 {b c : Int} (h : 0 ≤ b ∧ b < 6) (h2 : 0 ≤ c ∧ c < 6) {k : Int} (hk : 0 ≤ k ∧ k < 338) : (ev_ao k = 16 ∧ ev_ax k = b * 6 + c) ↔ k = 119 + 30 * b + 5 * c + 4 := by
  unfold ev_ao ev_ax ev_ka
  (repeat' split) <;> dsimp only <;> omega
theorem tr_16 {b c : Int} {σ : ev_M} {s : Int} (h : 0 ≤ b ∧ b < 6) (h2 : 0 ≤ c ∧ c < 6) : σ (s + 16) (b * 6 + c) = st_T σ s (119 + 30 * b + 5 * c + 4) := by
  have hk := (ky_16 h h2 (k := 119 + 30 * b + 5 * c + 4) (by omega)).mpr rfl
  unfold st_T
  rw [hk.1, hk.2]
theorem tw_16 {b c : Int} {σ : ev_M} {s v : Int} (h : 0 ≤ b ∧ b < 6) (h2 : 0 ≤ c ∧ c < 6) : ∀ k, 0 ≤ k → k < 338 → st_T (ev_up σ (s + 16) (b * 6 + c) v) s k = ev_u1 (st_T σ s) (119 + 30 * b + 5 * c + 4) v k := by
  intro k h0 h1
  have hk := ky_16 h h2 (k := k) ⟨h0, h1⟩
  by_cases hc : k = 119 + 30 * b + 5 * c + 4
  · rw [ev_u1_eq hc]
    have h3 := hk.mpr hc
    unfold st_T
    exact ev_up_eq ⟨by omega, h3.2⟩
  · rw [ev_u1_ne hc]
    unfold st_T
    refine ev_up_ne ?_
    by_cases h8 : ev_ao k = 16
    · exact Or.inr (fun h9 => hc (hk.mp ⟨h8, h9⟩))
    · exact Or.inl (by omega)
theorem ky_18 {l : Int} (h : 0 ≤ l ∧ l < 8) {k : Int} (hk : 0 ≤ k ∧ k < 338) : (ev_ao k = 18 ∧ ev_ax k = l) ↔ k = 299 + 3 * l := by
  unfold ev_ao ev_ax ev_ka
  (repeat' split) <;> dsimp only <;> omega
theorem tr_18 {l : Int} {σ : ev_M} {s : Int} (h : 0 ≤ l ∧ l < 8) : σ (s + 18) (l) = st_T σ s (299 + 3 * l) := by
  have hk := (ky_18 h (k := 299 + 3 * l) (by omega)).mpr rfl
  unfold st_T
  rw [hk.1, hk.2]
theorem tw_18 {l : Int} {σ : ev_M} {s v : Int} (h : 0 ≤ l ∧ l < 8) : ∀ k, 0 ≤ k → k < 338 → st_T (ev_up σ (s + 18) (l) v) s k = ev_u1 (st_T σ s) (299 + 3 * l) v k := by
  intro k h0 h1
  have hk := ky_18 h (k := k) ⟨h0, h1⟩
  by_cases hc : k = 299 + 3 * l
  · rw [ev_u1_eq hc]
    have h3 := hk.mpr hc
    unfold st_T
    exact ev_up_eq ⟨by omega, h3.2⟩
  · rw [ev_u1_ne hc]
    unfold st_T
    refine ev_up_ne ?_
    by_cases h8 : ev_ao k = 18
    · exact Or.inr (fun h9 => hc (hk.mp ⟨h8, h9⟩))
    · exact Or.inl (by omega)
theorem ky_19 {l : Int} (h : 0 ≤ l ∧ l < 8) {k : Int} (hk : 0 ≤ k ∧ k < 338) : (ev_ao k = 19 ∧ ev_ax k = l) ↔ k = 299 + 3 * l + 1 := by
  unfold ev_ao ev_ax ev_ka
  (repeat' split) <;> dsimp only <;> omega
theorem tr_19 {l : Int} {σ : ev_M} {s : Int} (h : 0 ≤ l ∧ l < 8) : σ (s + 19) (l) = st_T σ s (299 + 3 * l + 1) := by
  have hk := (ky_19 h (k := 299 + 3 * l + 1) (by omega)).mpr rfl
  unfold st_T
  rw [hk.1, hk.2]
theorem tw_19 {l : Int} {σ : ev_M} {s v : Int} (h : 0 ≤ l ∧ l < 8) : ∀ k, 0 ≤ k → k < 338 → st_T (ev_up σ (s + 19) (l) v) s k = ev_u1 (st_T σ s) (299 + 3 * l + 1) v k := by
  intro k h0 h1
  have hk := ky_19 h (k := k) ⟨h0, h1⟩
  by_cases hc : k = 299 + 3 * l + 1
  · rw [ev_u1_eq hc]
    have h3 := hk.mpr hc
    unfold st_T
    exact ev_up_eq ⟨by omega, h3.2⟩
  · rw [ev_u1_ne hc]
    unfold st_T
    refine ev_up_ne ?_
    by_cases h8 : ev_ao k = 19
    · exact Or.inr (fun h9 => hc (hk.mp ⟨h8, h9⟩))
    · exact Or.inl (by omega)
theorem ky_20 {l : Int} (h : 0 ≤ l ∧ l < 8) {k : Int} (hk : 0 ≤ k ∧ k < 338) : (ev_ao k = 20 ∧ ev_ax k = l) ↔ k = 299 + 3 * l + 2 := by
  unfold ev_ao ev_ax ev_ka
  (repeat' split) <;> dsimp only <;> omega
theorem tr_20 {l : Int} {σ : ev_M} {s : Int} (h : 0 ≤ l ∧ l < 8) : σ (s + 20) (l) = st_T σ s (299 + 3 * l + 2) := by
  have hk := (ky_20 h (k := 299 + 3 * l + 2) (by omega)).mpr rfl
  unfold st_T
  rw [hk.1, hk.2]
theorem tw_20 {l : Int} {σ : ev_M} {s v : Int} (h : 0 ≤ l ∧ l < 8) : ∀ k, 0 ≤ k → k < 338 → st_T (ev_up σ (s + 20) (l) v) s k = ev_u1 (st_T σ s) (299 + 3 * l + 2) v k := by
  intro k h0 h1
  have hk := ky_20 h (k := k) ⟨h0, h1⟩
  by_cases hc : k = 299 + 3 * l + 2
  · rw [ev_u1_eq hc]
    have h3 := hk.mpr hc
    unfold st_T
    exact ev_up_eq ⟨by omega, h3.2⟩
  · rw [ev_u1_ne hc]
    unfold st_T
    refine ev_up_ne ?_
    by_cases h8 : ev_ao k = 20
    · exact Or.inr (fun h9 => hc (hk.mp ⟨h8, h9⟩))
    · exact Or.inl (by omega)
theorem ky_21 {b : Int} (h : 0 ≤ b ∧ b < 3) {k : Int} (hk : 0 ≤ k ∧ k < 338) : (ev_ao k = 21 ∧ ev_ax k = b) ↔ k = 323 + 5 * b := by
  unfold ev_ao ev_ax ev_ka
  (repeat' split) <;> dsimp only <;> omega
theorem tr_21 {b : Int} {σ : ev_M} {s : Int} (h : 0 ≤ b ∧ b < 3) : σ (s + 21) (b) = st_T σ s (323 + 5 * b) := by
  have hk := (ky_21 h (k := 323 + 5 * b) (by omega)).mpr rfl
  unfold st_T
  rw [hk.1, hk.2]
theorem tw_21 {b : Int} {σ : ev_M} {s v : Int} (h : 0 ≤ b ∧ b < 3) : ∀ k, 0 ≤ k → k < 338 → st_T (ev_up σ (s + 21) (b) v) s k = ev_u1 (st_T σ s) (323 + 5 * b) v k := by
  intro k h0 h1
  have hk := ky_21 h (k := k) ⟨h0, h1⟩
  by_cases hc : k = 323 + 5 * b
  · rw [ev_u1_eq hc]
    have h3 := hk.mpr hc
    unfold st_T
    exact ev_up_eq ⟨by omega, h3.2⟩
  · rw [ev_u1_ne hc]
    unfold st_T
    refine ev_up_ne ?_
    by_cases h8 : ev_ao k = 21
    · exact Or.inr (fun h9 => hc (hk.mp ⟨h8, h9⟩))
    · exact Or.inl (by omega)
theorem ky_22 {b q : Int} (h : 0 ≤ b ∧ b < 3) (h2 : 0 ≤ q ∧ q < 4) {k : Int} (hk : 0 ≤ k ∧ k < 338) : (ev_ao k = 22 ∧ ev_ax k = b * 4 + q) ↔ k = 323 + 5 * b + 1 + q := by
  unfold ev_ao ev_ax ev_ka
  (repeat' split) <;> dsimp only <;> omega
theorem tr_22 {b q : Int} {σ : ev_M} {s : Int} (h : 0 ≤ b ∧ b < 3) (h2 : 0 ≤ q ∧ q < 4) : σ (s + 22) (b * 4 + q) = st_T σ s (323 + 5 * b + 1 + q) := by
  have hk := (ky_22 h h2 (k := 323 + 5 * b + 1 + q) (by omega)).mpr rfl
  unfold st_T
  rw [hk.1, hk.2]
theorem tw_22 {b q : Int} {σ : ev_M} {s v : Int} (h : 0 ≤ b ∧ b < 3) (h2 : 0 ≤ q ∧ q < 4) : ∀ k, 0 ≤ k → k < 338 → st_T (ev_up σ (s + 22) (b * 4 + q) v) s k = ev_u1 (st_T σ s) (323 + 5 * b + 1 + q) v k := by
  intro k h0 h1
  have hk := ky_22 h h2 (k := k) ⟨h0, h1⟩
  by_cases hc : k = 323 + 5 * b + 1 + q
  · rw [ev_u1_eq hc]
    have h3 := hk.mpr hc
    unfold st_T
    exact ev_up_eq ⟨by omega, h3.2⟩
  · rw [ev_u1_ne hc]
    unfold st_T
    refine ev_up_ne ?_
    by_cases h8 : ev_ao k = 22
    · exact Or.inr (fun h9 => hc (hk.mp ⟨h8, h9⟩))
    · exact Or.inl (by omega)
