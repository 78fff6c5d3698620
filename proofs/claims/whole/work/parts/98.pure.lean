theorem pure_ok (L : Nat) (xs : Nat → Int32) (hL : L ≤ 2560) : ∃ w, lok w xs (L / 5) 0 ((c1μ, c1ν), c1a) := sorry
