/-! a run that ends in what is asked -/
def Wp (P : ev_R → Prop) (x : Option ev_R) : Prop := ∃ r, x = some r ∧ P r
theorem Wp_r {P : ev_R → Prop} {r : ev_R} (h : P r) : Wp P (some r) := ⟨r, rfl, h⟩
def ab_P (v : Int) (T : Int → Int) (hs : List (Int → Int)) (r : ev_R) : Prop := r.1 = some (.inl v) ∧ ab_A r.2 T hs
theorem ab_Pr {v : Int} {T : Int → Int} {hs : List (Int → Int)} {σ : ev_M} (h : ab_A σ T hs) : Wp (ab_P v T hs) (some (some (.inl v), σ)) := ⟨_, rfl, rfl, h⟩
theorem ab_Qw {j : Nat} {as : List ev_V} {σ : ev_M} {v : Int} {T : Int → Int} {hs : List (Int → Int)} (h : Wp (ab_P v T hs) (EM j (.inr (.inl 161) :: as) σ)) : ab_Q j as σ v T hs := by
  obtain ⟨⟨v1, σ1⟩, e, h1, h2⟩ := h
  dsimp only at h1
  subst h1
  exact ⟨σ1, e, h2⟩
section WPS
variable {P : ev_R → Prop} {j t : Nat} {ops : List ev_O} {L : ev_L} {st : List ev_V} {σ : ev_M} {f : Nat} {z w x y : Int} {T : Int → Int} {hs : List (Int → Int)}
theorem wk {q : Nat} {as : List ev_V} {v : Int} (h : ab_Q q as σ v T hs) (k : ∀ σ1, ab_A σ1 T hs → Wp P (EO j ops L (.inl v :: st) σ1)) : Wp P (ev_k j ops L st (EM q (.inr (.inl 161) :: as) σ)) := by
  obtain ⟨σ1, e, h1⟩ := h
  rw [e, ev_ki]
  exact k σ1 h1
theorem wkd (hA : ab_A σ T hs) (k : ∀ σ1, ab_A σ1 T hs → Wp P (EO j ops L (.inr (.inr (st_dig T)) :: st) σ1)) : Wp P (ev_k j ops L st (EM 102 [.inr (.inl 161)] σ)) := by
  obtain ⟨σ1, e, h1⟩ := q_102 hA
  rw [e, ev_ki]
  exact k σ1 h1
theorem wb_40 (h1 : ev_wr x = ev_wr y → Wp P (EB j t L st σ)) (h2 : ¬ (ev_wr x = ev_wr y) → Wp P (EO j ops L st σ)) : Wp P (EO j ((40, t, f, z, w) :: ops) L (.inl y :: .inl x :: st) σ) := by
  rw [eo_40]
  split
  · next h => exact h1 h
  · next h => exact h2 h
theorem wb_46 (h1 : ev_wr x = 0 → Wp P (EB j t L st σ)) (h2 : ¬ (ev_wr x = 0) → Wp P (EO j ops L st σ)) : Wp P (EO j ((46, t, f, z, w) :: ops) L (.inl x :: st) σ) := by
  rw [eo_46]
  split
  · next h => exact h1 h
  · next h => exact h2 h
theorem wb_41 (h1 : ev_wr x = ev_wr y → Wp P (EO j ops L st σ)) (h2 : ¬ (ev_wr x = ev_wr y) → Wp P (EB j t L st σ)) : Wp P (EO j ((41, t, f, z, w) :: ops) L (.inl y :: .inl x :: st) σ) := by
  rw [eo_41]
  split
  · next h => exact h1 h
  · next h => exact h2 h
theorem wb_47 (h1 : ev_wr x = 0 → Wp P (EO j ops L st σ)) (h2 : ¬ (ev_wr x = 0) → Wp P (EB j t L st σ)) : Wp P (EO j ((47, t, f, z, w) :: ops) L (.inl x :: st) σ) := by
  rw [eo_47]
  split
  · next h => exact h1 h
  · next h => exact h2 h
theorem wb_42 (h1 : ev_wr x < ev_wr y → Wp P (EB j t L st σ)) (h2 : ¬ (ev_wr x < ev_wr y) → Wp P (EO j ops L st σ)) : Wp P (EO j ((42, t, f, z, w) :: ops) L (.inl y :: .inl x :: st) σ) := by
  rw [eo_42]
  split
  · next h => exact h1 h
  · next h => exact h2 h
theorem wb_48 (h1 : ev_wr x < 0 → Wp P (EB j t L st σ)) (h2 : ¬ (ev_wr x < 0) → Wp P (EO j ops L st σ)) : Wp P (EO j ((48, t, f, z, w) :: ops) L (.inl x :: st) σ) := by
  rw [eo_48]
  split
  · next h => exact h1 h
  · next h => exact h2 h
theorem wb_43 (h1 : ev_wr x < ev_wr y → Wp P (EO j ops L st σ)) (h2 : ¬ (ev_wr x < ev_wr y) → Wp P (EB j t L st σ)) : Wp P (EO j ((43, t, f, z, w) :: ops) L (.inl y :: .inl x :: st) σ) := by
  rw [eo_43]
  split
  · next h => exact h1 h
  · next h => exact h2 h
theorem wb_49 (h1 : ev_wr x < 0 → Wp P (EO j ops L st σ)) (h2 : ¬ (ev_wr x < 0) → Wp P (EB j t L st σ)) : Wp P (EO j ((49, t, f, z, w) :: ops) L (.inl x :: st) σ) := by
  rw [eo_49]
  split
  · next h => exact h1 h
  · next h => exact h2 h
theorem wb_44 (h1 : ev_wr y < ev_wr x → Wp P (EB j t L st σ)) (h2 : ¬ (ev_wr y < ev_wr x) → Wp P (EO j ops L st σ)) : Wp P (EO j ((44, t, f, z, w) :: ops) L (.inl y :: .inl x :: st) σ) := by
  rw [eo_44]
  split
  · next h => exact h1 h
  · next h => exact h2 h
theorem wb_50 (h1 : 0 < ev_wr x → Wp P (EB j t L st σ)) (h2 : ¬ (0 < ev_wr x) → Wp P (EO j ops L st σ)) : Wp P (EO j ((50, t, f, z, w) :: ops) L (.inl x :: st) σ) := by
  rw [eo_50]
  split
  · next h => exact h1 h
  · next h => exact h2 h
theorem wb_45 (h1 : ev_wr y < ev_wr x → Wp P (EO j ops L st σ)) (h2 : ¬ (ev_wr y < ev_wr x) → Wp P (EB j t L st σ)) : Wp P (EO j ((45, t, f, z, w) :: ops) L (.inl y :: .inl x :: st) σ) := by
  rw [eo_45]
  split
  · next h => exact h1 h
  · next h => exact h2 h
theorem wb_51 (h1 : 0 < ev_wr x → Wp P (EO j ops L st σ)) (h2 : ¬ (0 < ev_wr x) → Wp P (EB j t L st σ)) : Wp P (EO j ((51, t, f, z, w) :: ops) L (.inl x :: st) σ) := by
  rw [eo_51]
  split
  · next h => exact h1 h
  · next h => exact h2 h
end WPS
theorem el_3 {j f : Nat} {x : Int64} {y z w : Int} {p0 p1 q1 q2 : Option ev_V} {ops : List ev_O} {L : ev_L} {st : List ev_V} {σ : ev_M} : EO j ((5, 3, f, z, w) :: ops) (p0 :: p1 :: some (.inl y) :: q1 :: q2 :: L) (.inr (.inr x) :: st) σ = EO j ops (p0 :: p1 :: some (.inl y) :: some (.inr (.inr x)) :: none :: L) st σ := by
  unfold EO; simp only [ev_o, ev_x, ev_nl, ev_get, ev_set, List.length_cons]; rw [if_pos ⟨trivial, by omega⟩]
theorem el_4 {j f : Nat} {x : Int64} {y z w : Int} {p0 p1 p2 q1 q2 : Option ev_V} {ops : List ev_O} {L : ev_L} {st : List ev_V} {σ : ev_M} : EO j ((5, 4, f, z, w) :: ops) (p0 :: p1 :: p2 :: some (.inl y) :: q1 :: q2 :: L) (.inr (.inr x) :: st) σ = EO j ops (p0 :: p1 :: p2 :: some (.inl y) :: some (.inr (.inr x)) :: none :: L) st σ := by
  unfold EO; simp only [ev_o, ev_x, ev_nl, ev_get, ev_set, List.length_cons]; rw [if_pos ⟨trivial, by omega⟩]
theorem el_6 {j f : Nat} {x : Int64} {y z w : Int} {p0 p1 p2 p3 p4 q1 q2 : Option ev_V} {ops : List ev_O} {L : ev_L} {st : List ev_V} {σ : ev_M} : EO j ((5, 6, f, z, w) :: ops) (p0 :: p1 :: p2 :: p3 :: p4 :: some (.inl y) :: q1 :: q2 :: L) (.inr (.inr x) :: st) σ = EO j ops (p0 :: p1 :: p2 :: p3 :: p4 :: some (.inl y) :: some (.inr (.inr x)) :: none :: L) st σ := by
  unfold EO; simp only [ev_o, ev_x, ev_nl, ev_get, ev_set, List.length_cons]; rw [if_pos ⟨trivial, by omega⟩]
theorem el_4i {j f : Nat} {x : Int64} {z w : Int} {p0 p1 p2 p3 q1 q2 : Option ev_V} {y : Int} {ops : List ev_O} {L : ev_L} {st : List ev_V} {σ : ev_M} (_ : p3 = p3) : EO j ((5, 4, f, z, w) :: ops) (p0 :: p1 :: p2 :: some (.inl y) :: q1 :: q2 :: L) (.inr (.inr x) :: st) σ = EO j ops (p0 :: p1 :: p2 :: some (.inl y) :: some (.inr (.inr x)) :: none :: L) st σ := el_4
theorem ev_lc_s (h : Int64) : ev_lc h h = 0 := by
  unfold ev_lc
  rw [if_neg (Int64.lt_irrefl), if_pos rfl]
/-! the values by their places -/
theorem vb_0 {T : Int → Int} {b : Int} : st_vb T b 0 = T (89 + 5 * b) := rfl
theorem vb_1 {T : Int → Int} {b : Int} : st_vb T b 1 = T (89 + 5 * b + 1) := rfl
theorem vb_2 {T : Int → Int} {b : Int} : st_vb T b 2 = st_rt T b := rfl
theorem vb_3 {T : Int → Int} {b : Int} : st_vb T b 3 = T (89 + 5 * b + 2) := rfl
theorem vb_4 {T : Int → Int} {b : Int} : st_vb T b 4 = T (89 + 5 * b + 3) := rfl
theorem vb_5 {T : Int → Int} {b : Int} : st_vb T b 5 = T (89 + 5 * b + 3) + (if 6 < T (89 + 5 * b + 2) then 4 else if 4 < T (89 + 5 * b + 2) then 2 else 1) := rfl
theorem vb_6 {T : Int → Int} {b : Int} : st_vb T b 6 = st_due T b := rfl
theorem vb_7 {T : Int → Int} {b : Int} : st_vb T b 7 = T (89 + 5 * b + 4) := rfl
theorem vb_8 {T : Int → Int} {b : Int} : st_vb T b 8 = if T (89 + 5 * b + 4) = 0 then ev_ps (T (89 + 5 * b + 2)) else 0 := rfl
theorem vc_0 {T : Int → Int} {b c : Int} : st_vc T b c 0 = T (119 + 30 * b + 5 * c) := by
  unfold st_vc
  rw [if_pos (by omega), Int.add_zero]
theorem vc_1 {T : Int → Int} {b c : Int} : st_vc T b c 1 = T (119 + 30 * b + 5 * c + 1) := rfl
theorem vc_2 {T : Int → Int} {b c : Int} : st_vc T b c 2 = T (119 + 30 * b + 5 * c + 2) := rfl
theorem vc_3 {T : Int → Int} {b c : Int} : st_vc T b c 3 = T (119 + 30 * b + 5 * c + 3) := rfl
def st_st (T : Int → Int) (b c : Int) : Int := ev_sf (fun c => T (119 + 30 * b + 5 * c + 1)) (fun c => T (119 + 30 * b + 5 * c + 4)) (T (89 + 5 * b + 1)) (T (89 + 5 * b + 1)).toNat c
theorem vc_4 {T : Int → Int} {b c : Int} : st_vc T b c 4 = st_st T b c := rfl
theorem vc_5 {T : Int → Int} {b c : Int} : st_vc T b c 5 = T (119 + 30 * b + 5 * c + 4) := rfl
theorem vn_0 {T : Int → Int} : st_cnt T 0 = T 0 := rfl
theorem vn_1 {T : Int → Int} : st_cnt T 1 = T 1 := rfl
theorem vn_2 {T : Int → Int} : st_cnt T 2 = T 2 := rfl
theorem vn_3 {T : Int → Int} : st_cnt T 3 = T 3 := rfl
theorem vn_4 {T : Int → Int} : st_cnt T 4 = T 4 := rfl
theorem vn_5 {T : Int → Int} : st_cnt T 5 = T 5 := rfl
theorem vn_6 {T : Int → Int} : st_cnt T 6 = T 6 := rfl
theorem vn_7 {T : Int → Int} : st_cnt T 7 = T 7 := rfl
theorem vn_9 {T : Int → Int} : st_cnt T 9 = ev_ss (st_due T) (T 2).toNat 0 0 := rfl
theorem vn_10 {T : Int → Int} : st_cnt T 10 = ev_ss (st_ovr T) (T 2).toNat 0 0 := rfl
theorem vr_0 {T : Int → Int} {r : Int} : T (9 + 4 * r + 0) = T (9 + 4 * r) := by rw [Int.add_zero]
/-- the low bits of an int, and its rest -/
def st_lo31 (x : Int) : Int := ev_and x 2147483647
theorem st_lo31_in (x : Int) : 0 ≤ st_lo31 x ∧ st_lo31 x ≤ 2147483647 := by
  unfold st_lo31 ev_and
  have h : (Int32.ofInt x &&& Int32.ofInt 2147483647).toInt = ((Int32.ofInt x).toBitVec &&& (2147483647 : BitVec 32)).toInt := rfl
  rw [h]
  have h2 : ((Int32.ofInt x).toBitVec &&& (2147483647 : BitVec 32)).toNat < 2147483648 := by
    rw [BitVec.toNat_and]
    exact Nat.lt_of_le_of_lt Nat.and_le_right (by decide)
  rw [BitVec.toInt_eq_toNat_cond]
  split <;> omega
def st_low (x n : Int) : Int := st_lo31 x % n
theorem st_low_in {x n : Int} (hn : 0 < n) : 0 ≤ st_low x n ∧ st_low x n < n := ⟨Int.emod_nonneg _ (by omega), Int.emod_lt_of_pos _ hn⟩
theorem c_106 {x n : Int} {σ : ev_M} (hn : 0 < n) (hn2 : n ≤ 1000) : EM 106 [.inl x, .inl n] σ = some (some (.inl (st_low x n)), σ) := by
  have h := st_lo31_in x
  rw [mm_106, bk_106_0]
  simp only [eo_0_0, eo_7, eo_15, eo_0_1]
  rw [eo_14d (by omega) (by omega) (by omega)]
  rw [show ev_and x 2147483647 = st_lo31 x from rfl, ev_rem_id h.1 h.2 hn (by omega)]
  rfl
