/-- the two programs answer alike -/
theorem law_pure (xs : Nat → Int32) (L : Nat) (hL : L ≤ 2048) : q_law xs L = some 1 :=
  loop_go xs L hL 513 0 x0 y0 (fun _ => 0) (by omega) (by omega) (by omega) rel0
