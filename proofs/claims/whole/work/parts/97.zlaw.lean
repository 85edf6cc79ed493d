theorem zlaw_ok (L : Nat) (xs : Nat → Int32) (hL : L ≤ 3072) : zLaw (L, xs) := sorry
