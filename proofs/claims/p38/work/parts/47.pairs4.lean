/-! calls on both sides: inspect, rest, count -/
theorem ev_xo_tab : ∀ r : Fin 128, ∀ o : Fin 7, let m := if o.val = 6 then (64 : Int) else ev_shl 1 (o.val : Int); (0 ≤ ev_xor (r.val : Int) m ∧ ev_xor (r.val : Int) m ≤ 127) ∧ 0 ≤ ev_and (ev_xor (r.val : Int) m) m ∧ ev_and (ev_xor (r.val : Int) m) m ≤ 127 := by decide +kernel
theorem ev_xo {r m : Int} (hr : 0 ≤ r ∧ r ≤ 127) (hm : m = 64 ∨ ∃ o, 0 ≤ o ∧ o < 6 ∧ m = ev_shl 1 o) : (0 ≤ ev_xor r m ∧ ev_xor r m ≤ 127) ∧ 0 ≤ ev_and (ev_xor r m) m ∧ ev_and (ev_xor r m) m ≤ 127 := by
  obtain ⟨n, rfl⟩ : ∃ n : Nat, r = n := ⟨r.toNat, by omega⟩
  rcases hm with rfl | ⟨o, h0, h1, rfl⟩
  · exact ev_xo_tab ⟨n, by omega⟩ ⟨6, by omega⟩
  · obtain ⟨k, rfl⟩ : ∃ k : Nat, o = k := ⟨o.toNat, by omega⟩
    have h := ev_xo_tab ⟨n, by omega⟩ ⟨k, by omega⟩
    dsimp only at h
    rw [if_neg (by omega)] at h
    exact h
