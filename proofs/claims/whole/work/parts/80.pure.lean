theorem pure_law (L : Nat) (xs : Nat → Int32) (hL : L ≤ 3072) : ∃ y, f_L_law_23 L xs 0 σ0 = some y ∧ y.1 = 1 := by
  sorry
