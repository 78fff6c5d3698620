/-! The pure run. -/
theorem pure_ok (L : Nat) (xs : Nat → Int32) (hL : L ≤ 2560) : ∃ w, lok w xs (L / 5) 0 ((c1μ, c1ν), c1a) := ⟨8201, run_ok (by omega) (L / 5) 0 0 _ (by omega) c1_KB⟩
