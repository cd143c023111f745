theorem law_pure (L : Nat) (xs : Row) (hL : L ≤ 320) : qL_law_18 L xs 600 h0 g0 (0 : Int32) = some () := by
  sorry
