theorem law_pure {L : Nat} {xs : Nat → Int32} (hL : L ≤ 4098) : wp_law L xs (fun _ => 0) (fun _ _ _ => 0, fun _ _ _ => 0, fun _ _ _ => none) := by
  sorry
