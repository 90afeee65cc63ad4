theorem law_math {L : Nat} (hL : L ≤ 3072) (xs : Nat → Int32) : flaw_b18 xs L fuelN S00 M00 0 = some 1 :=
  law_go hL xs fuelN 0 S00 M00 (by unfold fuelN; omega) (Nat.zero_le _) rel00
