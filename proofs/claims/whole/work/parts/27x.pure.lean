theorem pure_law (L : Nat) (xs : Nat → Int32) (hL : L ≤ 3073) : wp_ST L xs := sorry
