/-! the distances from a town on -/
theorem st_Gs_sp {T : Int → Int} {w o s : Int} (hI : st_I T) (hs : 0 ≤ s ∧ s < T 0) (_ : 0 ≤ w ∧ w ≤ 60) (_ : -1 ≤ o ∧ o < 20) : st_sp T w o s (st_Gs T w o s) :=
  Classical.epsilon_spec (p := fun G => st_sp T w o s G) (st_sp_ex hI hs)
