theorem pure_law {L : Nat} {xs : Nat → Int32} (hL : L ≤ 1536) : lp (fL_law_23 L xs) (C0m, M0m, (0 : Int32)) = some (1 : Int32) := by
  sorry
