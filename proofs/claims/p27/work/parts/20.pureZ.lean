theorem law_pure {L : Nat} (hL : L ≤ 260) (xs : Nat → Int32) : f_L_law L xs ob0 = some () := by
  sorry
