theorem law_math {L : Nat} (hL : L ≤ 3072) (xs : Nat → Int32) : flaw_b18 xs L fuelN S00 M00 0 = some 1 := by sorry
