theorem pure_whole (xs : Nat → Int32) (L : Nat) (hL : L ≤ 3072) : ∃ σ', fL_law xs L 0 373 sg0 = some (1, σ') := sorry
