theorem law_ok (xs : Nat → Int32) (L : Nat) (hL : L ≤ 2560) : ∃ hh, F_law xs L h00 = some (1, hh) := sorry
