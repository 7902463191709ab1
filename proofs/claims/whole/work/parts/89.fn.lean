theorem law_fn (L : Nat) (xs : Nat → Int32) (hL : L ≤ 1536) : fn_L_law_18 514 L xs 0 mm_x0 = some 1 := sorry
