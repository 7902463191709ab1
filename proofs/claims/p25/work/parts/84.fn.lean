theorem law_fn (L : Nat) (xs : Nat → Int32) (hL : L ≤ 260) : fn_L_law L xs mm_x0 = some 1 := sorry
