theorem k_goal (L : Nat) (xs : Nat → Int32) (hL : L ≤ 2048) : kGoal L xs := by
  sorry
