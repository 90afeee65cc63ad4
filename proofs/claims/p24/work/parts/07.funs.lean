def f4_at_b23 (S : St) (r : Nat) (k0 : Int32) : Option (Int32) := some (k0)
def f4_at_b22 (S : St) (r : Nat) : Option (Int32) := f4_at_b23 S r 0
def f4_at (S : St) (r : Nat) (p1 : Int32) : Option (Int32) := if (p1 : Int32) < 0 then (f4_at_b22 S r ) else (if ((Int32.ofNat (rlen r)) : Int32) ≤ p1 then (f4_at_b22 S r ) else (arr (S.2 r) (rlen r) p1 fun x_1 => f4_at_b23 S r x_1))
def f3_manyOf_b27 (S : St) (c : Nat) (k : Int32 → Int32 → Option (Int32)) (l1 : Int32) (l2 : Int32) (l3 : Int32) : Option (Int32) := k l2 ((l3 + 1))
def f3_manyOf_b4 (S : St) (c : Nat) (l1 : Int32) : Nat → Int32 → Int32 → Option (Int32)
  | 0, _, _ => none
  | n + 1, l2, l3 => if (S.1 (6 * c + 0) : Int32) ≤ l3 then (some (l2)) else ((f4_at S ((10 * c + 3)) l3).bind fun r_1 => if (r_1 : Int32) = l1 then (f3_manyOf_b27 S c (f3_manyOf_b4 S c l1 n) l1 ((l2 + 1)) l3) else (f3_manyOf_b27 S c (f3_manyOf_b4 S c l1 n) l1 l2 l3))
def f3_manyOf (S : St) (c : Nat) (p1 : Int32) : Option (Int32) := f3_manyOf_b4 S c p1 fuelN 0 0
def f0_campersWithMorePlots_b27 (S : St) (c : Nat) (k : Int32 → Int32 → Option (Int32)) (l1 : Int32) (l2 : Int32) : Option (Int32) := k l1 ((l2 + 1))
def f0_campersWithMorePlots_b4 (S : St) (c : Nat) : Nat → Int32 → Int32 → Option (Int32)
  | 0, _, _ => none
  | n + 1, l1, l2 => if (S.1 (6 * c + 1) : Int32) ≤ l2 then (some (l1)) else ((f3_manyOf S c l2).bind fun r_1 => if (r_1 : Int32) ≤ 1 then (f0_campersWithMorePlots_b27 S c (f0_campersWithMorePlots_b4 S c n) l1 l2) else (f0_campersWithMorePlots_b27 S c (f0_campersWithMorePlots_b4 S c n) ((l1 + 1)) l2))
def f0_campersWithMorePlots (S : St) (c : Nat) : Option (Int32) := f0_campersWithMorePlots_b4 S c fuelN 0 0
def f3_leastDepth_b5 (S : St) (c : Nat) : Nat → Int32 → Int32 → Option (Int32)
  | 0, _, _ => none
  | n + 1, l1, l2 => if (S.1 (6 * c + 0) : Int32) ≤ l2 then (some (l1)) else ((f4_at S ((10 * c + 2)) l2).bind fun r_1 => nam ((if r_1 < l1 then r_1 else l1)) fun x_2 => f3_leastDepth_b5 S c n x_2 ((l2 + 1)))
def f3_leastDepth (S : St) (c : Nat) : Option (Int32) := f3_leastDepth_b5 S c fuelN 12 0
def f3_greatestDepth_b4 (S : St) (c : Nat) : Nat → Int32 → Int32 → Option (Int32)
  | 0, _, _ => none
  | n + 1, l1, l2 => if (S.1 (6 * c + 0) : Int32) ≤ l2 then (some (l1)) else ((f4_at S ((10 * c + 2)) l2).bind fun r_1 => nam ((if l1 < r_1 then r_1 else l1)) fun x_2 => f3_greatestDepth_b4 S c n x_2 ((l2 + 1)))
def f3_greatestDepth (S : St) (c : Nat) : Option (Int32) := f3_greatestDepth_b4 S c fuelN 0 0
def f0_campersHere_b4 (S : St) (c : Nat) : Nat → Int32 → Int32 → Option (Int32)
  | 0, _, _ => none
  | n + 1, l1, l2 => if (S.1 (6 * c + 1) : Int32) ≤ l2 then (some (l1)) else ((f4_at S ((10 * c + 6)) l2).bind fun r_1 => nam ((l1 + r_1)) fun x_2 => f0_campersHere_b4 S c n x_2 ((l2 + 1)))
def f0_campersHere (S : St) (c : Nat) : Option (Int32) := f0_campersHere_b4 S c fuelN 0 0
def f5_count (S : St) (p1 : Int32) : Option (Int32) := if (Int32.toInt p1 < 0 ∨ 11 < Int32.toInt p1) then (some ((-2))) else if (p1 : Int32) = 0 then ((f0_campersHere S 0).bind fun r_1 => some (r_1)) else if (p1 : Int32) = 1 then (some (S.1 (6 * 0 + 1))) else if (p1 : Int32) = 2 then (some (S.1 (6 * 0 + 0))) else if (p1 : Int32) = 3 then (some (S.1 (6 * 0 + 2))) else if (p1 : Int32) = 4 then ((f3_greatestDepth S 0).bind fun r_2 => some (r_2)) else if (p1 : Int32) = 5 then ((f3_leastDepth S 0).bind fun r_3 => some (r_3)) else if (p1 : Int32) = 6 then ((f0_campersWithMorePlots S 0).bind fun r_4 => some (r_4)) else if (p1 : Int32) = 7 then (some (S.1 (6 * 0 + 3))) else if (p1 : Int32) = 8 then (some (S.1 (6 * 0 + 4))) else if (p1 : Int32) = 9 then (some (S.1 (6 * 0 + 5))) else if (p1 : Int32) = 10 then (some (S.1 44)) else if (p1 : Int32) = 11 then (some (S.1 45)) else none
def f0_isHere_b29 (S : St) (c : Nat) (k0 : Int32) : Option (Int32) := isz k0 <| some (k0)
def f0_isHere_b28 (S : St) (c : Nat) : Option (Int32) := f0_isHere_b29 S c 0
def f0_isHere (S : St) (c : Nat) (p1 : Int32) : Option (Int32) := if (p1 : Int32) < 0 then (f0_isHere_b28 S c ) else (if (S.1 (6 * c + 1) : Int32) ≤ p1 then (f0_isHere_b28 S c ) else ((f4_at S ((10 * c + 6)) p1).bind fun r_1 => if (r_1 : Int32) = 1 then (f0_isHere_b29 S c 1) else (f0_isHere_b28 S c )))
def f5_widthAt (p0 : Int32) : Option (Int32) := some (((64 : Int32) >>> (((((p0 + 1) : Int32) >>> ((1 : Int32) &&& 31)) : Int32) &&& 31)))
def f5_heightAt (p0 : Int32) : Option (Int32) := some (((64 : Int32) >>> ((((p0 : Int32) >>> ((1 : Int32) &&& 31)) : Int32) &&& 31)))
def f3_has_b69 (S : St) (c : Nat) (k0 : Int32) : Option (Int32) := isz k0 <| some (k0)
def f3_has_b68 (S : St) (c : Nat) : Option (Int32) := f3_has_b69 S c 0
def f3_has (S : St) (c : Nat) (p1 : Int32) (p2 : Int32) (p3 : Int32) : Option (Int32) := (f4_at S ((10 * c + 0)) p1).bind fun r_1 => nam ((p2 - r_1)) fun x_2 => (f4_at S ((10 * c + 1)) p1).bind fun r_3 => nam ((p3 - r_3)) fun x_4 => (f4_at S ((10 * c + 2)) p1).bind fun r_5 => if (x_2 : Int32) < 0 then (f3_has_b68 S c ) else ((f5_widthAt r_5).bind fun r_6 => if (r_6 : Int32) ≤ x_2 then (f3_has_b68 S c ) else (if (x_4 : Int32) < 0 then (f3_has_b68 S c ) else ((f5_heightAt r_5).bind fun r_7 => if (r_7 : Int32) ≤ x_4 then (f3_has_b68 S c ) else (f3_has_b69 S c 1))))
def f3_find_b2 (S : St) (c : Nat) (l1 : Int32) (l2 : Int32) : Nat → Int32 → Option (Int32)
  | 0, _ => none
  | n + 1, l3 => if (S.1 (6 * c + 0) : Int32) ≤ l3 then (some ((-1))) else ((f3_has S c l3 l1 l2).bind fun r_1 => if (r_1 : Int32) = 0 then (f3_find_b2 S c l1 l2 n ((l3 + 1))) else (some (l3)))
def f3_find (S : St) (c : Nat) (p1 : Int32) (p2 : Int32) : Option (Int32) := f3_find_b2 S c p1 p2 fuelN 0
def f3_ownerAt (S : St) (c : Nat) (p1 : Int32) (p2 : Int32) : Option (Int32) := (f3_find S c p1 p2).bind fun r_1 => (f4_at S ((10 * c + 3)) r_1).bind fun r_2 => some (r_2)
def f0_ownerOfSong (S : St) (c : Nat) (p1 : Int32) : Option (Int32) := (f4_at S ((10 * c + 7)) p1).bind fun r_1 => (f4_at S ((10 * c + 8)) p1).bind fun r_2 => (f3_ownerAt S c r_1 r_2).bind fun r_3 => some (r_3)
def f0_loudnessOfSong (S : St) (c : Nat) (p1 : Int32) : Option (UInt32) := (f4_at S ((10 * c + 9)) p1).bind fun r_1 => fnn (FP.fdiv ((FP.i2f r_1)) 1092616192) fun x_2 => some (x_2)
def f0_loudnessOf_b29 (S : St) (c : Nat) (k : UInt32 → Int32 → Option (UInt32)) (l1 : Int32) (l2 : UInt32) (l3 : Int32) : Option (UInt32) := k l2 ((l3 + 1))
def f0_loudnessOf_b4 (S : St) (c : Nat) (l1 : Int32) : Nat → UInt32 → Int32 → Option (UInt32)
  | 0, _, _ => none
  | n + 1, l2, l3 => if (S.1 (6 * c + 2) : Int32) ≤ l3 then (some (l2)) else ((f0_ownerOfSong S c l3).bind fun r_1 => if (r_1 : Int32) = l1 then ((f0_loudnessOfSong S c l3).bind fun r_2 => fnn (FP.fadd l2 r_2) fun x_3 => f0_loudnessOf_b29 S c (f0_loudnessOf_b4 S c l1 n) l1 x_3 l3) else (f0_loudnessOf_b29 S c (f0_loudnessOf_b4 S c l1 n) l1 l2 l3))
def f0_loudnessOf (S : St) (c : Nat) (p1 : Int32) : Option (UInt32) := f0_loudnessOf_b4 S c p1 fuelN FP.fconst0 0
def f5_bitsOf_b67 (l1 : UInt32) (l2 : Int32) : Option (Int32) := fnn (FP.fsub l1 FP.fconst1) fun x_1 => fnn (FP.fmul x_1 1258291200) fun x_2 => some ((((l2 : Int32) <<< ((23 : Int32) &&& 31)) + (FP.f2i x_2)))
def f5_bitsOf_b42 : Nat → UInt32 → Int32 → Int32 → Option (Int32)
  | 0, _, _, _ => none
  | n + 1, l1, l2, l3 => if (127 : Int32) ≤ l3 then (f5_bitsOf_b67  l1 l2) else (if (0 : Int32) ≤ (Op.cmpValue (FP.fcmp l1 FP.fconst1) CmpOp.g) then (f5_bitsOf_b67  l1 l2) else (fnn (FP.fmul l1 FP.fconst2) fun x_1 => f5_bitsOf_b42  n x_1 ((l2 + (-1))) ((l3 + 1))))
def f5_bitsOf_b40 (l1 : UInt32) (l2 : Int32) : Option (Int32) := f5_bitsOf_b42  fuelN l1 l2 0
def f5_bitsOf_b15 : Nat → UInt32 → Int32 → Int32 → Option (Int32)
  | 0, _, _, _ => none
  | n + 1, l1, l2, l3 => if (127 : Int32) ≤ l3 then (f5_bitsOf_b40  l1 l2) else (if ((Op.cmpValue (FP.fcmp l1 FP.fconst2) CmpOp.l) : Int32) < 0 then (f5_bitsOf_b40  l1 l2) else (fnn (FP.fdiv l1 FP.fconst2) fun x_1 => f5_bitsOf_b15  n x_1 ((l2 + 1)) ((l3 + 1))))
def f5_bitsOf (p0 : UInt32) : Option (Int32) := if (0 : Int32) < (Op.cmpValue (FP.fcmp p0 FP.fconst0) CmpOp.g) then (f5_bitsOf_b15  fuelN p0 127 0) else (some (0))
def f3_x0Of (S : St) (c : Nat) (p1 : Int32) : Option (Int32) := (f4_at S ((10 * c + 0)) p1).bind fun r_1 => some (r_1)
def f3_x1Of (S : St) (c : Nat) (p1 : Int32) : Option (Int32) := (f4_at S ((10 * c + 0)) p1).bind fun r_1 => (f4_at S ((10 * c + 2)) p1).bind fun r_2 => (f5_widthAt r_2).bind fun r_3 => some (((r_1 + r_3) - 1))
def f3_y0Of (S : St) (c : Nat) (p1 : Int32) : Option (Int32) := (f4_at S ((10 * c + 1)) p1).bind fun r_1 => some (r_1)
def f3_y1Of (S : St) (c : Nat) (p1 : Int32) : Option (Int32) := (f4_at S ((10 * c + 1)) p1).bind fun r_1 => (f4_at S ((10 * c + 2)) p1).bind fun r_2 => (f5_heightAt r_2).bind fun r_3 => some (((r_1 + r_3) - 1))
def f3_areBeside_b163 (S : St) (c : Nat) (k0 : Int32) : Option (Int32) := isz k0 <| some (k0)
def f3_areBeside_b158 (S : St) (c : Nat) : Option (Int32) := f3_areBeside_b163 S c 1
def f3_areBeside_b162 (S : St) (c : Nat) : Option (Int32) := f3_areBeside_b163 S c 0
def f3_areBeside_b149 (S : St) (c : Nat) (l3 : Int32) (l6 : Int32) : Option (Int32) := if (l6 : Int32) = 0 then (f3_areBeside_b162 S c ) else (if (l3 : Int32) = 0 then (f3_areBeside_b162 S c ) else (f3_areBeside_b158 S c ))
def f3_areBeside_b137 (S : St) (c : Nat) (l3 : Int32) (l4 : Int32) (l5 : Int32) (k0 : Int32) : Option (Int32) := if (l5 : Int32) = 0 then (f3_areBeside_b149 S c l3 k0) else (if (l4 : Int32) = 0 then (f3_areBeside_b149 S c l3 k0) else (f3_areBeside_b158 S c ))
def f3_areBeside_b132 (S : St) (c : Nat) (l3 : Int32) (l4 : Int32) (l5 : Int32) : Option (Int32) := f3_areBeside_b137 S c l3 l4 l5 1
def f3_areBeside_b100 (S : St) (c : Nat) (l1 : Int32) (l2 : Int32) (l3 : Int32) (l4 : Int32) (k0 : Int32) : Option (Int32) := (f3_y1Of S c l1).bind fun r_1 => (f3_y0Of S c l2).bind fun r_2 => if ((r_1 + 1) : Int32) = r_2 then (f3_areBeside_b132 S c l3 l4 k0) else ((f3_y1Of S c l2).bind fun r_3 => (f3_y0Of S c l1).bind fun r_4 => if ((r_3 + 1) : Int32) = r_4 then (f3_areBeside_b132 S c l3 l4 k0) else (f3_areBeside_b137 S c l3 l4 k0 0))
def f3_areBeside_b95 (S : St) (c : Nat) (l1 : Int32) (l2 : Int32) (l3 : Int32) (l4 : Int32) : Option (Int32) := f3_areBeside_b100 S c l1 l2 l3 l4 1
def f3_areBeside_b63 (S : St) (c : Nat) (l1 : Int32) (l2 : Int32) (l3 : Int32) (k0 : Int32) : Option (Int32) := (f3_x1Of S c l1).bind fun r_1 => (f3_x0Of S c l2).bind fun r_2 => if ((r_1 + 1) : Int32) = r_2 then (f3_areBeside_b95 S c l1 l2 l3 k0) else ((f3_x1Of S c l2).bind fun r_3 => (f3_x0Of S c l1).bind fun r_4 => if ((r_3 + 1) : Int32) = r_4 then (f3_areBeside_b95 S c l1 l2 l3 k0) else (f3_areBeside_b100 S c l1 l2 l3 k0 0))
def f3_areBeside_b62 (S : St) (c : Nat) (l1 : Int32) (l2 : Int32) (l3 : Int32) : Option (Int32) := f3_areBeside_b63 S c l1 l2 l3 0
def f3_areBeside_b31 (S : St) (c : Nat) (l1 : Int32) (l2 : Int32) (k0 : Int32) : Option (Int32) := (f3_y0Of S c l1).bind fun r_1 => (f3_y1Of S c l2).bind fun r_2 => if (r_2 : Int32) < r_1 then (f3_areBeside_b62 S c l1 l2 k0) else ((f3_y0Of S c l2).bind fun r_3 => (f3_y1Of S c l1).bind fun r_4 => if (r_4 : Int32) < r_3 then (f3_areBeside_b62 S c l1 l2 k0) else (f3_areBeside_b63 S c l1 l2 k0 1))
def f3_areBeside_b30 (S : St) (c : Nat) (l1 : Int32) (l2 : Int32) : Option (Int32) := f3_areBeside_b31 S c l1 l2 0
def f3_areBeside (S : St) (c : Nat) (p1 : Int32) (p2 : Int32) : Option (Int32) := (f3_x0Of S c p1).bind fun r_1 => (f3_x1Of S c p2).bind fun r_2 => if (r_2 : Int32) < r_1 then (f3_areBeside_b30 S c p1 p2) else ((f3_x0Of S c p2).bind fun r_3 => (f3_x1Of S c p1).bind fun r_4 => if (r_4 : Int32) < r_3 then (f3_areBeside_b30 S c p1 p2) else (f3_areBeside_b31 S c p1 p2 1))
def f5_markOf_b17 (k0 : Int32) : Option (Int32) := some (k0)
def f5_markOf_b16 : Option (Int32) := f5_markOf_b17  0
def f5_markOf (p0 : Int32) : Option (Int32) := if (p0 : Int32) < 0 then (f5_markOf_b16  ) else (if (16 : Int32) ≤ p0 then (f5_markOf_b16  ) else (f5_markOf_b17  (((1 : Int32) <<< ((p0 : Int32) &&& 31)))))
def f3_ownersBeside_b35 (S : St) (c : Nat) (k : Int32 → Int32 → Option (Int32)) (l1 : Int32) (l2 : Int32) (l3 : Int32) : Option (Int32) := k l2 ((l3 + 1))
def f3_ownersBeside_b4 (S : St) (c : Nat) (l1 : Int32) : Nat → Int32 → Int32 → Option (Int32)
  | 0, _, _ => none
  | n + 1, l2, l3 => if (S.1 (6 * c + 0) : Int32) ≤ l3 then (some (l2)) else ((f3_areBeside S c l1 l3).bind fun r_1 => if (r_1 : Int32) = 0 then (f3_ownersBeside_b35 S c (f3_ownersBeside_b4 S c l1 n) l1 l2 l3) else ((f4_at S ((10 * c + 3)) l3).bind fun r_2 => (f5_markOf r_2).bind fun r_3 => nam (((l2 : Int32) ||| r_3)) fun x_4 => f3_ownersBeside_b35 S c (f3_ownersBeside_b4 S c l1 n) l1 x_4 l3))
def f3_ownersBeside (S : St) (c : Nat) (p1 : Int32) : Option (Int32) := f3_ownersBeside_b4 S c p1 fuelN 0 0
def fJ6_bitCount_0f7a4 (p0 : Int32) : Option (Int32) := nam ((p0 - (((((p0 : Int32)).toUInt32 >>> (Int32.toUInt32 1 &&& Int32.toUInt32 31)).toInt32 : Int32) &&& 1431655765))) fun x_1 => nam ((((x_1 : Int32) &&& 858993459) + (((((x_1 : Int32)).toUInt32 >>> (Int32.toUInt32 2 &&& Int32.toUInt32 31)).toInt32 : Int32) &&& 858993459))) fun x_2 => nam ((((x_2 + (((x_2 : Int32)).toUInt32 >>> (Int32.toUInt32 4 &&& Int32.toUInt32 31)).toInt32) : Int32) &&& 252645135)) fun x_3 => nam ((x_3 + (((x_3 : Int32)).toUInt32 >>> (Int32.toUInt32 8 &&& Int32.toUInt32 31)).toInt32)) fun x_4 => nam ((x_4 + (((x_4 : Int32)).toUInt32 >>> (Int32.toUInt32 16 &&& Int32.toUInt32 31)).toInt32)) fun x_5 => some (((x_5 : Int32) &&& 63))
def f3_neighboursOf_b32 (S : St) (c : Nat) (k : Int32 → Int32 → Option (Int32)) (l1 : Int32) (l2 : Int32) (l3 : Int32) : Option (Int32) := k l2 ((l3 + 1))
def f3_neighboursOf_b4 (S : St) (c : Nat) (l1 : Int32) : Nat → Int32 → Int32 → Option (Int32)
  | 0, _, _ => none
  | n + 1, l2, l3 => if (S.1 (6 * c + 0) : Int32) ≤ l3 then ((f5_markOf l1).bind fun r_1 => (fJ6_bitCount_0f7a4 (((l2 : Int32) &&& ((r_1 : Int32) ^^^ (-1))))).bind fun r_2 => some (r_2)) else ((f4_at S ((10 * c + 3)) l3).bind fun r_3 => if (r_3 : Int32) = l1 then ((f3_ownersBeside S c l3).bind fun r_4 => nam (((l2 : Int32) ||| r_4)) fun x_5 => f3_neighboursOf_b32 S c (f3_neighboursOf_b4 S c l1 n) l1 x_5 l3) else (f3_neighboursOf_b32 S c (f3_neighboursOf_b4 S c l1 n) l1 l2 l3))
def f3_neighboursOf (S : St) (c : Nat) (p1 : Int32) : Option (Int32) := f3_neighboursOf_b4 S c p1 fuelN 0 0
def f0_songsOf_b24 (S : St) (c : Nat) (k : Int32 → Int32 → Option (Int32)) (l1 : Int32) (l2 : Int32) (l3 : Int32) : Option (Int32) := k l2 ((l3 + 1))
def f0_songsOf_b4 (S : St) (c : Nat) (l1 : Int32) : Nat → Int32 → Int32 → Option (Int32)
  | 0, _, _ => none
  | n + 1, l2, l3 => if (S.1 (6 * c + 2) : Int32) ≤ l3 then (some (l2)) else ((f0_ownerOfSong S c l3).bind fun r_1 => if (r_1 : Int32) = l1 then (f0_songsOf_b24 S c (f0_songsOf_b4 S c l1 n) l1 ((l2 + 1)) l3) else (f0_songsOf_b24 S c (f0_songsOf_b4 S c l1 n) l1 l2 l3))
def f0_songsOf (S : St) (c : Nat) (p1 : Int32) : Option (Int32) := f0_songsOf_b4 S c p1 fuelN 0 0
def f3_pointsOf_b50 (S : St) (c : Nat) (k : Int32 → Int32 → Option (Int32)) (l1 : Int32) (l2 : Int32) (l3 : Int32) : Option (Int32) := k l2 ((l3 + 1))
def f3_pointsOf_b4 (S : St) (c : Nat) (l1 : Int32) : Nat → Int32 → Int32 → Option (Int32)
  | 0, _, _ => none
  | n + 1, l2, l3 => if (S.1 (6 * c + 0) : Int32) ≤ l3 then (some (l2)) else ((f4_at S ((10 * c + 3)) l3).bind fun r_1 => if (r_1 : Int32) = l1 then ((f4_at S ((10 * c + 2)) l3).bind fun r_2 => (f5_widthAt r_2).bind fun r_3 => (f4_at S ((10 * c + 2)) l3).bind fun r_4 => (f5_heightAt r_4).bind fun r_5 => nam ((l2 + (r_3 * r_5))) fun x_6 => f3_pointsOf_b50 S c (f3_pointsOf_b4 S c l1 n) l1 x_6 l3) else (f3_pointsOf_b50 S c (f3_pointsOf_b4 S c l1 n) l1 l2 l3))
def f3_pointsOf (S : St) (c : Nat) (p1 : Int32) : Option (Int32) := f3_pointsOf_b4 S c p1 fuelN 0 0
def f5_camper (S : St) (p1 : Int32) (p2 : Int32) : Option (Int32) := (f0_isHere S 0 p1).bind fun r_1 => if (r_1 : Int32) = 0 then (some ((-1))) else (if (Int32.toInt p2 < 0 ∨ 6 < Int32.toInt p2) then (some ((-2))) else if (p2 : Int32) = 0 then ((f4_at S ((10 * 0 + 4)) p1).bind fun r_2 => some (r_2)) else if (p2 : Int32) = 1 then ((f4_at S ((10 * 0 + 5)) p1).bind fun r_3 => some (r_3)) else if (p2 : Int32) = 2 then ((f3_manyOf S 0 p1).bind fun r_4 => some (r_4)) else if (p2 : Int32) = 3 then ((f3_pointsOf S 0 p1).bind fun r_5 => some (r_5)) else if (p2 : Int32) = 4 then ((f0_songsOf S 0 p1).bind fun r_6 => some (r_6)) else if (p2 : Int32) = 5 then ((f3_neighboursOf S 0 p1).bind fun r_7 => some (r_7)) else if (p2 : Int32) = 6 then ((f0_loudnessOf S 0 p1).bind fun r_8 => (f5_bitsOf r_8).bind fun r_9 => some (r_9)) else none)
def f3_isCornerLower_b43 (S : St) (c : Nat) (k0 : Int32) : Option (Int32) := isz k0 <| some (k0)
def f3_isCornerLower_b68 (S : St) (c : Nat) (k0 : Int32) : Option (Int32) := isz k0 <| some (k0)
def f3_isCornerLower (S : St) (c : Nat) (p1 : Int32) (p2 : Int32) : Option (Int32) := (f4_at S ((10 * c + 0)) p1).bind fun r_1 => (f4_at S ((10 * c + 0)) p2).bind fun r_2 => if (r_1 : Int32) = r_2 then ((f4_at S ((10 * c + 1)) p1).bind fun r_3 => (f4_at S ((10 * c + 1)) p2).bind fun r_4 => if (r_4 : Int32) ≤ r_3 then (f3_isCornerLower_b68 S c 0) else (f3_isCornerLower_b68 S c 1)) else ((f4_at S ((10 * c + 0)) p1).bind fun r_5 => (f4_at S ((10 * c + 0)) p2).bind fun r_6 => if (r_6 : Int32) ≤ r_5 then (f3_isCornerLower_b43 S c 0) else (f3_isCornerLower_b43 S c 1))
def f3_rankOf_b43 (S : St) (c : Nat) (k : Int32 → Int32 → Option (Int32)) (l1 : Int32) (l2 : Int32) (l3 : Int32) : Option (Int32) := k l2 ((l3 + 1))
def f3_rankOf_b4 (S : St) (c : Nat) (l1 : Int32) : Nat → Int32 → Int32 → Option (Int32)
  | 0, _, _ => none
  | n + 1, l2, l3 => if (S.1 (6 * c + 0) : Int32) ≤ l3 then (some (l2)) else ((f4_at S ((10 * c + 3)) l3).bind fun r_1 => (f4_at S ((10 * c + 3)) l1).bind fun r_2 => if (r_1 : Int32) = r_2 then ((f3_isCornerLower S c l3 l1).bind fun r_3 => if (r_3 : Int32) = 0 then (f3_rankOf_b43 S c (f3_rankOf_b4 S c l1 n) l1 l2 l3) else (f3_rankOf_b43 S c (f3_rankOf_b4 S c l1 n) l1 ((l2 + 1)) l3)) else (f3_rankOf_b43 S c (f3_rankOf_b4 S c l1 n) l1 l2 l3))
def f3_rankOf (S : St) (c : Nat) (p1 : Int32) : Option (Int32) := f3_rankOf_b4 S c p1 fuelN 0 0
def f3_ranked_b33 (S : St) (c : Nat) (k : Int32 → Option (Int32)) (l1 : Int32) (l2 : Int32) (l3 : Int32) : Option (Int32) := k ((l3 + 1))
def f3_ranked_b2 (S : St) (c : Nat) (l1 : Int32) (l2 : Int32) : Nat → Int32 → Option (Int32)
  | 0, _ => none
  | n + 1, l3 => if (S.1 (6 * c + 0) : Int32) ≤ l3 then (some ((-1))) else ((f4_at S ((10 * c + 3)) l3).bind fun r_1 => if (r_1 : Int32) = l1 then ((f3_rankOf S c l3).bind fun r_2 => if (r_2 : Int32) = l2 then (some (l3)) else (f3_ranked_b33 S c (f3_ranked_b2 S c l1 l2 n) l1 l2 l3)) else (f3_ranked_b33 S c (f3_ranked_b2 S c l1 l2 n) l1 l2 l3))
def f3_ranked (S : St) (c : Nat) (p1 : Int32) (p2 : Int32) : Option (Int32) := f3_ranked_b2 S c p1 p2 fuelN 0
def f3_depthOf (S : St) (c : Nat) (p1 : Int32) : Option (Int32) := (f4_at S ((10 * c + 2)) p1).bind fun r_1 => some (r_1)
def f5_plotOf_b101 (S : St) (k0 : Int32) : Option (Int32) := some (k0)
def f5_plotOf_b26 (S : St) : Option (Int32) := some ((-2))
def f5_plotOf (S : St) (p1 : Int32) (p2 : Int32) (p3 : Int32) : Option (Int32) := (f0_isHere S 0 p1).bind fun r_1 => if (r_1 : Int32) = 0 then (some ((-1))) else (if (p2 : Int32) < 0 then (f5_plotOf_b26 S ) else (if (p3 : Int32) < 0 then (f5_plotOf_b26 S ) else (if (p3 : Int32) ≤ 2 then ((f3_ranked S 0 p1 p2).bind fun r_2 => if (r_2 : Int32) = (-1) then (some ((-5))) else (if (p3 : Int32) = 0 then ((f3_x0Of S 0 r_2).bind fun r_5 => some (r_5)) else (if (p3 : Int32) = 1 then ((f3_y0Of S 0 r_2).bind fun r_4 => f5_plotOf_b101 S r_4) else ((f3_depthOf S 0 r_2).bind fun r_3 => f5_plotOf_b101 S r_3)))) else (f5_plotOf_b26 S ))))
def f0_isSong_b17 (S : St) (c : Nat) (k0 : Int32) : Option (Int32) := isz k0 <| some (k0)
def f0_isSong_b16 (S : St) (c : Nat) : Option (Int32) := f0_isSong_b17 S c 0
def f0_isSong (S : St) (c : Nat) (p1 : Int32) : Option (Int32) := if (p1 : Int32) < 0 then (f0_isSong_b16 S c ) else (if (S.1 (6 * c + 2) : Int32) ≤ p1 then (f0_isSong_b16 S c ) else (f0_isSong_b17 S c 1))
def f5_toldOwnerOf_b20 (S : St) (k0 : Int32) : Option (Int32) := some (k0)
def f5_toldOwnerOf (S : St) (p1 : Int32) : Option (Int32) := (f0_ownerOfSong S 0 p1).bind fun r_1 => if (r_1 : Int32) = (-1) then (f5_toldOwnerOf_b20 S 100) else (f5_toldOwnerOf_b20 S r_1)
def f5_song (S : St) (p1 : Int32) (p2 : Int32) : Option (Int32) := (f0_isSong S 0 p1).bind fun r_1 => if (r_1 : Int32) = 0 then (some ((-1))) else (if (Int32.toInt p2 < 0 ∨ 3 < Int32.toInt p2) then (some ((-2))) else if (p2 : Int32) = 0 then ((f4_at S ((10 * 0 + 7)) p1).bind fun r_2 => some (r_2)) else if (p2 : Int32) = 1 then ((f4_at S ((10 * 0 + 8)) p1).bind fun r_3 => some (r_3)) else if (p2 : Int32) = 2 then ((f0_loudnessOfSong S 0 p1).bind fun r_4 => (f5_bitsOf r_4).bind fun r_5 => some (r_5)) else if (p2 : Int32) = 3 then ((f5_toldOwnerOf S p1).bind fun r_6 => some (r_6)) else none)
def f5_clearText (S : St) : Option (Int32 × St) := nam (S.1 45) fun x_1 => nam (sI S 45 0) fun S_2 => some (x_1, S_2)
def f1_append_b19 (S : St) : Option (Int32 × St) := some (0, S)
def f1_append (S : St) (p1 : Int32) : Option (Int32 × St) := if (S.1 45 : Int32) < 0 then (f1_append_b19 S ) else (if (S.1 45 : Int32) < (Int32.ofNat 60) then (sto 60 (S.1 45) <| nam (sA S 70 (Int32.toNatClampNeg (S.1 45)) ((vp_nar .char p1))) fun S_1 => nam (sI S_1 45 ((S_1.1 45 + 1))) fun S_2 => some (1, S_2)) else (f1_append_b19 S ))
def f5_type_b23 (S : St) (k0 : Int32) : Option (Int32 × St) := some (k0, S)
def f5_type (S : St) (p1 : Int32) : Option (Int32 × St) := bd2 (f1_append S p1) fun r_1 S_2 => if (r_1 : Int32) = 0 then (f5_type_b23 S_2 ((-3))) else (f5_type_b23 S_2 (S_2.1 45))
def f1_at_b23 (S : St) (k0 : Int32) : Option (Int32) := isc k0 <| some (k0)
def f1_at_b22 (S : St) : Option (Int32) := f1_at_b23 S 0
def f1_at (S : St) (p1 : Int32) : Option (Int32) := if (p1 : Int32) < 0 then (f1_at_b22 S ) else (if ((Int32.ofNat 60) : Int32) ≤ p1 then (f1_at_b22 S ) else (arr (S.2 70) 60 p1 fun x_1 => f1_at_b23 S x_1))
def f1_isDigit_b17 (k0 : Int32) : Option (Int32) := isz k0 <| some (k0)
def f1_isDigit_b16 : Option (Int32) := f1_isDigit_b17  0
def f1_isDigit (p0 : Int32) : Option (Int32) := if (p0 : Int32) < 48 then (f1_isDigit_b16  ) else (if (57 : Int32) < p0 then (f1_isDigit_b16  ) else (f1_isDigit_b17  1))
def f1_extended_b29 (k0 : Int32) : Option (Int32) := some (k0)
def f1_extended_b24 : Option (Int32) := f1_extended_b29  ((-1))
def f1_extended (p0 : Int32) (p1 : Int32) : Option (Int32) := if (p0 : Int32) = (-1) then (some (p1)) else (nam (((p0 * 10) + p1)) fun x_1 => if (p0 : Int32) = 0 then (f1_extended_b24  ) else (if (x_1 : Int32) < 64 then (f1_extended_b29  x_1) else (f1_extended_b24  )))
def f1_fault_b84 (S : St) (k : Int32 → Int32 → Int32 → Option (Int32)) (l1 : Int32) (l2 : Int32) (l3 : Int32) : Option (Int32) := k l1 l2 ((l3 + 1))
def f1_fault_b78 (S : St) (k : Int32 → Int32 → Int32 → Option (Int32)) (l1 : Int32) (l3 : Int32) (k0 : Int32) : Option (Int32) := f1_fault_b84 S k l1 k0 l3
def f1_fault_b82 (S : St) (l3 : Int32) : Option (Int32) := some (l3)
def f1_fault_b64 (S : St) (k : Int32 → Int32 → Int32 → Option (Int32)) (l2 : Int32) (l3 : Int32) (k0 : Int32) (k1 : Int32) : Option (Int32) := if (k1 : Int32) = k0 then (if (l2 : Int32) = 0 then (f1_fault_b78 S k ((-1)) l3 1) else (f1_fault_b78 S k ((-1)) l3 0)) else (f1_fault_b82 S l3)
def f1_fault_b107 (S : St) (k0 : Int32) : Option (Int32) := some (k0)
def f1_fault_b103 (S : St) : Option (Int32) := f1_fault_b107 S (S.1 45)
def f1_fault_b6 (S : St) : Nat → Int32 → Int32 → Int32 → Option (Int32)
  | 0, _, _, _ => none
  | n + 1, l1, l2, l3 => if (S.1 45 : Int32) ≤ l3 then (if (l2 : Int32) = 0 then (f1_fault_b103 S ) else (if (l1 : Int32) = (-1) then (f1_fault_b103 S ) else (f1_fault_b107 S ((-1))))) else ((f1_at S l3).bind fun r_1 => (f1_isDigit r_1).bind fun r_2 => if (r_2 : Int32) = 0 then (if (l1 : Int32) = (-1) then (f1_fault_b82 S l3) else (if (l2 : Int32) = 0 then (f1_fault_b64 S (f1_fault_b6 S n) l2 l3 44 r_1) else (f1_fault_b64 S (f1_fault_b6 S n) l2 l3 59 r_1))) else ((f1_extended l1 ((r_1 - 48))).bind fun r_3 => if (r_3 : Int32) = (-1) then (some (l3)) else (f1_fault_b84 S (f1_fault_b6 S n) r_3 l2 l3)))
def f1_fault (S : St) : Option (Int32) := f1_fault_b6 S fuelN ((-1)) 0 0
def f4_copyFrom_b43 (S : St) (r : Nat) (r1 : Nat) : Option (St) := some (S)
def f4_copyFrom_b2 (r : Nat) (r1 : Nat) (l2 : Int32) : Nat → St → Int32 → Option (St)
  | 0, _, _ => none
  | n + 1, S, l3 => if (l2 : Int32) ≤ l3 then (f4_copyFrom_b43 S r r1 ) else (if ((Int32.ofNat (rlen r)) : Int32) ≤ l3 then (f4_copyFrom_b43 S r r1 ) else (if ((Int32.ofNat (rlen r1)) : Int32) ≤ l3 then (f4_copyFrom_b43 S r r1 ) else (arr (S.2 r1) (rlen r1) l3 fun x_1 => sto (rlen r) l3 <| nam (sA S r (Int32.toNatClampNeg l3) x_1) fun S_2 => f4_copyFrom_b2 r r1 l2 n S_2 ((l3 + 1)))))
def f4_copyFrom (S : St) (r : Nat) (r1 : Nat) (p2 : Int32) : Option (St) := f4_copyFrom_b2 r r1 p2 fuelN S 0
def f3_copyFrom (S : St) (c : Nat) (c1 : Nat) : Option (St) := nam (sI S (6 * c + 0) (S.1 (6 * c1 + 0))) fun S_1 => (f4_copyFrom S_1 ((10 * c + 0)) ((10 * c1 + 0)) (S_1.1 (6 * c + 0))).bind fun S_2 => (f4_copyFrom S_2 ((10 * c + 1)) ((10 * c1 + 1)) (S_2.1 (6 * c + 0))).bind fun S_3 => (f4_copyFrom S_3 ((10 * c + 2)) ((10 * c1 + 2)) (S_3.1 (6 * c + 0))).bind fun S_4 => (f4_copyFrom S_4 ((10 * c + 3)) ((10 * c1 + 3)) (S_4.1 (6 * c + 0))).bind fun S_5 => some (S_5)
def f0_copyFrom (S : St) (c : Nat) (c1 : Nat) : Option (St) := nam (sI S (6 * c + 1) (S.1 (6 * c1 + 1))) fun S_1 => nam (sI S_1 (6 * c + 2) (S_1.1 (6 * c1 + 2))) fun S_2 => nam (sI S_2 (6 * c + 3) (S_2.1 (6 * c1 + 3))) fun S_3 => nam (sI S_3 (6 * c + 4) (S_3.1 (6 * c1 + 4))) fun S_4 => nam (sI S_4 (6 * c + 5) (S_4.1 (6 * c1 + 5))) fun S_5 => (f3_copyFrom S_5 c c1).bind fun S_6 => (f4_copyFrom S_6 ((10 * c + 4)) ((10 * c1 + 4)) (S_6.1 (6 * c + 1))).bind fun S_7 => (f4_copyFrom S_7 ((10 * c + 5)) ((10 * c1 + 5)) (S_7.1 (6 * c + 1))).bind fun S_8 => (f4_copyFrom S_8 ((10 * c + 6)) ((10 * c1 + 6)) (S_8.1 (6 * c + 1))).bind fun S_9 => (f4_copyFrom S_9 ((10 * c + 7)) ((10 * c1 + 7)) (S_9.1 (6 * c + 2))).bind fun S_10 => (f4_copyFrom S_10 ((10 * c + 8)) ((10 * c1 + 8)) (S_10.1 (6 * c + 2))).bind fun S_11 => (f4_copyFrom S_11 ((10 * c + 9)) ((10 * c1 + 9)) (S_11.1 (6 * c + 2))).bind fun S_12 => some (S_12)
def f1_campers_b25 (S : St) (k : Int32 → Int32 → Option (Int32)) (l1 : Int32) (l2 : Int32) : Option (Int32) := k l1 ((l2 + 1))
def f1_campers_b4 (S : St) : Nat → Int32 → Int32 → Option (Int32)
  | 0, _, _ => none
  | n + 1, l1, l2 => if (S.1 45 : Int32) ≤ l2 then (some (l1)) else ((f1_at S l2).bind fun r_1 => if (r_1 : Int32) = 59 then (f1_campers_b25 S (f1_campers_b4 S n) ((l1 + 1)) l2) else (f1_campers_b25 S (f1_campers_b4 S n) l1 l2))
def f1_campers (S : St) : Option (Int32) := f1_campers_b4 S fuelN 1 0
def f1_number_b54 (S : St) (k : Int32 → Int32 → Int32 → Option (Int32)) (l1 : Int32) (l2 : Int32) (l3 : Int32) (l4 : Int32) : Option (Int32) := k l2 l3 ((l4 + 1))
def f1_number_b7 (S : St) (l1 : Int32) : Nat → Int32 → Int32 → Int32 → Option (Int32)
  | 0, _, _, _ => none
  | n + 1, l2, l3, l4 => if (S.1 45 : Int32) ≤ l4 then (some (l3)) else ((f1_at S l4).bind fun r_1 => (f1_isDigit r_1).bind fun r_2 => if (r_2 : Int32) = 0 then (f1_number_b54 S (f1_number_b7 S l1 n) l1 ((l2 + 1)) l3 l4) else (if (l2 : Int32) = l1 then (nam (((l3 * 10) + (r_1 - 48))) fun x_3 => f1_number_b54 S (f1_number_b7 S l1 n) l1 l2 x_3 l4) else (f1_number_b54 S (f1_number_b7 S l1 n) l1 l2 l3 l4)))
def f1_number (S : St) (p1 : Int32) : Option (Int32) := f1_number_b7 S p1 fuelN 0 0 0
def f3_ownerOf (S : St) (c : Nat) (p1 : Int32) : Option (Int32) := (f4_at S ((10 * c + 3)) p1).bind fun r_1 => some (r_1)
def f0_isTentIn_b40 (S : St) (c : Nat) (k0 : Int32) : Option (Int32) := isz k0 <| some (k0)
def f0_isTentIn_b39 (S : St) (c : Nat) : Option (Int32) := f0_isTentIn_b40 S c 0
def f0_isTentIn (S : St) (c : Nat) (p1 : Int32) (p2 : Int32) : Option (Int32) := (f0_isHere S c p2).bind fun r_1 => if (r_1 : Int32) = 0 then (f0_isTentIn_b39 S c ) else ((f4_at S ((10 * c + 4)) p2).bind fun r_2 => (f4_at S ((10 * c + 5)) p2).bind fun r_3 => (f3_has S c p1 r_2 r_3).bind fun r_4 => if (r_4 : Int32) = 0 then (f0_isTentIn_b39 S c ) else (f0_isTentIn_b40 S c 1))
def f5_partX0 (p0 : Int32) (p1 : Int32) : Option (Int32) := (f5_widthAt p1).bind fun r_1 => some (((p0 : Int32) &&& (-r_1)))
def f5_partY0 (p0 : Int32) (p1 : Int32) : Option (Int32) := (f5_heightAt p1).bind fun r_1 => some (((p0 : Int32) &&& (-r_1)))
def f0_isInPart_b35 (k0 : Int32) : Option (Int32) := isz k0 <| some (k0)
def f0_isInPart_b34 : Option (Int32) := f0_isInPart_b35  0
def f0_isInPart (p0 : Int32) (p1 : Int32) (p2 : Int32) (p3 : Int32) (p4 : Int32) : Option (Int32) := (f5_partX0 p0 p4).bind fun r_1 => (f5_partX0 p2 p4).bind fun r_2 => if (r_1 : Int32) = r_2 then ((f5_partY0 p1 p4).bind fun r_3 => (f5_partY0 p3 p4).bind fun r_4 => if (r_3 : Int32) = r_4 then (f0_isInPart_b35  1) else (f0_isInPart_b34  )) else (f0_isInPart_b34  )
def f0_depthForNewcomer_b106 (S : St) (c : Nat) (l7 : Int32) : Option (Int32) := some (l7)
def f0_depthForNewcomer_b66 (S : St) (c : Nat) (l1 : Int32) (l2 : Int32) (l4 : Int32) (l6 : Int32) : Nat → Int32 → Option (Int32)
  | 0, _ => none
  | n + 1, l7 => if (12 : Int32) < l7 then (some ((-4))) else (if (l6 : Int32) = 0 then (f0_depthForNewcomer_b106 S c l7) else ((f4_at S ((10 * c + 4)) l4).bind fun r_1 => (f4_at S ((10 * c + 5)) l4).bind fun r_2 => (f0_isInPart r_1 r_2 l1 l2 l7).bind fun r_3 => if (r_3 : Int32) = 0 then (f0_depthForNewcomer_b106 S c l7) else (f0_depthForNewcomer_b66 S c l1 l2 l4 l6 n ((l7 + 1)))))
def f0_depthForNewcomer (S : St) (c : Nat) (p1 : Int32) (p2 : Int32) : Option (Int32) := if (S.1 (6 * c + 1) : Int32) < 16 then ((f3_find S c p1 p2).bind fun r_1 => (f3_ownerOf S c r_1).bind fun r_2 => (f3_depthOf S c r_1).bind fun r_3 => if (r_2 : Int32) = (-1) then (some (r_3)) else ((f0_isTentIn S c r_1 r_2).bind fun r_4 => nam ((r_3 + 1)) fun x_5 => f0_depthForNewcomer_b66 S c p1 p2 r_2 r_4 fuelN x_5)) else (some ((-3)))
def f5_otherHalfX0_b17 (k0 : Int32) : Option (Int32) := some (k0)
def f5_otherHalfX0 (p0 : Int32) (p1 : Int32) : Option (Int32) := if (((p1 : Int32) &&& 1) : Int32) = 1 then ((f5_widthAt p1).bind fun r_1 => f5_otherHalfX0_b17  (((p0 : Int32) ^^^ r_1))) else (f5_otherHalfX0_b17  p0)
def f5_otherHalfY0_b16 (k0 : Int32) : Option (Int32) := some (k0)
def f5_otherHalfY0 (p0 : Int32) (p1 : Int32) : Option (Int32) := if (((p1 : Int32) &&& 1) : Int32) = 0 then ((f5_heightAt p1).bind fun r_1 => f5_otherHalfY0_b16  (((p0 : Int32) ^^^ r_1))) else (f5_otherHalfY0_b16  p0)
def f4_put_b20 (S : St) (r : Nat) : Option (St) := some (S)
def f4_put (S : St) (r : Nat) (p1 : Int32) (p2 : Int32) : Option (St) := if (p1 : Int32) < 0 then (f4_put_b20 S r ) else (if ((Int32.ofNat (rlen r)) : Int32) ≤ p1 then (f4_put_b20 S r ) else (sto (rlen r) p1 <| nam (sA S r (Int32.toNatClampNeg p1) p2) fun S_1 => f4_put_b20 S_1 r ))
def f3_put (S : St) (c : Nat) (p1 : Int32) (p2 : Int32) (p3 : Int32) (p4 : Int32) (p5 : Int32) : Option (St) := (f5_partX0 p2 p4).bind fun r_1 => (f4_put S ((10 * c + 0)) p1 r_1).bind fun S_2 => (f5_partY0 p3 p4).bind fun r_3 => (f4_put S_2 ((10 * c + 1)) p1 r_3).bind fun S_4 => (f4_put S_4 ((10 * c + 2)) p1 p4).bind fun S_5 => (f4_put S_5 ((10 * c + 3)) p1 p5).bind fun S_6 => some (S_6)
def f3_add_b33 (S : St) (c : Nat) : Option (St) := some (S)
def f3_add (S : St) (c : Nat) (p1 : Int32) (p2 : Int32) (p3 : Int32) (p4 : Int32) : Option (St) := if (181 : Int32) ≤ S.1 (6 * c + 0) then (f3_add_b33 S c ) else ((f3_put S c (S.1 (6 * c + 0)) p1 p2 p3 p4).bind fun S_1 => nam (sI S_1 (6 * c + 0) ((S_1.1 (6 * c + 0) + 1))) fun S_2 => f3_add_b33 S_2 c )
def f3_halveDown_b22 (c : Nat) (l1 : Int32) (l2 : Int32) (l3 : Int32) (l4 : Int32) (l5 : Int32) (l6 : Int32) : Nat → St → Int32 → Option (St)
  | 0, _, _ => none
  | n + 1, S, l7 => if (l4 : Int32) < l7 then ((f3_put S c l1 l2 l3 l4 l5).bind fun S_1 => some (S_1)) else ((f5_partX0 l2 l7).bind fun r_2 => (f5_otherHalfX0 r_2 l7).bind fun r_3 => (f5_partY0 l3 l7).bind fun r_4 => (f5_otherHalfY0 r_4 l7).bind fun r_5 => (f3_add S c r_3 r_5 l7 l6).bind fun S_6 => f3_halveDown_b22 c l1 l2 l3 l4 l5 l6 n S_6 ((l7 + 1)))
def f3_halveDown (S : St) (c : Nat) (p1 : Int32) (p2 : Int32) (p3 : Int32) (p4 : Int32) (p5 : Int32) : Option (St) := (f4_at S ((10 * c + 3)) p1).bind fun r_1 => (f4_at S ((10 * c + 2)) p1).bind fun r_2 => nam ((r_2 + 1)) fun x_3 => f3_halveDown_b22 c p1 p2 p3 p4 p5 r_1 fuelN S x_3
def f0_pitch (S : St) (c : Nat) (p1 : Int32) (p2 : Int32) (p3 : Int32) : Option (St) := (f4_put S ((10 * c + 4)) p1 p2).bind fun S_1 => (f4_put S_1 ((10 * c + 5)) p1 p3).bind fun S_2 => some (S_2)
def f0_settle (S : St) (c : Nat) (p1 : Int32) (p2 : Int32) (p3 : Int32) : Option (Int32 × St) := nam (S.1 (6 * c + 1)) fun x_1 => (f3_find S c p1 p2).bind fun r_2 => (f3_depthOf S c r_2).bind fun r_3 => nam (sI S (6 * c + 3) ((S.1 (6 * c + 3) + (p3 - r_3)))) fun S_4 => (f3_halveDown S_4 c r_2 p1 p2 p3 x_1).bind fun S_5 => (f4_put S_5 ((10 * c + 6)) x_1 1).bind fun S_6 => (f0_pitch S_6 c x_1 p1 p2).bind fun S_7 => nam (sI S_7 (6 * c + 1) ((x_1 + 1))) fun S_8 => some (x_1, S_8)
def f5_isPoint_b25 (k0 : Int32) : Option (Int32) := isz k0 <| some (k0)
def f5_isPoint_b24 : Option (Int32) := f5_isPoint_b25  0
def f5_isPoint (p0 : Int32) (p1 : Int32) : Option (Int32) := if (p0 : Int32) < 0 then (f5_isPoint_b24  ) else (if (64 : Int32) ≤ p0 then (f5_isPoint_b24  ) else (if (p1 : Int32) < 0 then (f5_isPoint_b24  ) else (if (64 : Int32) ≤ p1 then (f5_isPoint_b24  ) else (f5_isPoint_b25  1))))
def f0_putSong (S : St) (c : Nat) (p1 : Int32) (p2 : Int32) (p3 : Int32) : Option (St) := (f4_put S ((10 * c + 7)) p1 p2).bind fun S_1 => (f4_put S_1 ((10 * c + 8)) p1 p3).bind fun S_2 => some (S_2)
def f0_addSong (S : St) (c : Nat) (p1 : Int32) (p2 : Int32) (p3 : Int32) : Option (Int32 × St) := nam (S.1 (6 * c + 2)) fun x_1 => (f4_put S ((10 * c + 9)) x_1 p3).bind fun S_2 => (f0_putSong S_2 c x_1 p1 p2).bind fun S_3 => nam (sI S_3 (6 * c + 2) ((x_1 + 1))) fun S_4 => some (x_1, S_4)
def f5_isMarked_b14 (k0 : Int32) : Option (Int32) := isz k0 <| some (k0)
def f5_isMarked (p0 : Int32) (p1 : Int32) : Option (Int32) := (f5_markOf p1).bind fun r_1 => if (((p0 : Int32) &&& r_1) : Int32) = 0 then (f5_isMarked_b14  0) else (f5_isMarked_b14  1)
def f3_giveTo (S : St) (c : Nat) (p1 : Int32) (p2 : Int32) : Option (St) := (f4_put S ((10 * c + 3)) p1 p2).bind fun S_1 => some (S_1)
def f3_otherHalf_b61 (S : St) (c : Nat) (k0 : Int32) : Option (Int32) := some (k0)
def f3_otherHalf (S : St) (c : Nat) (p1 : Int32) : Option (Int32) := (f4_at S ((10 * c + 2)) p1).bind fun r_1 => if (r_1 : Int32) = 0 then (some ((-1))) else ((f4_at S ((10 * c + 0)) p1).bind fun r_2 => (f5_otherHalfX0 r_2 r_1).bind fun r_3 => (f4_at S ((10 * c + 1)) p1).bind fun r_4 => (f5_otherHalfY0 r_4 r_1).bind fun r_5 => (f3_find S c r_3 r_5).bind fun r_6 => (f4_at S ((10 * c + 2)) r_6).bind fun r_7 => if (r_7 : Int32) = r_1 then (f3_otherHalf_b61 S c r_6) else (f3_otherHalf_b61 S c ((-1))))
def f3_remove (S : St) (c : Nat) (p1 : Int32) : Option (St) := nam ((S.1 (6 * c + 0) - 1)) fun x_1 => (f4_at S ((10 * c + 0)) x_1).bind fun r_2 => (f4_put S ((10 * c + 0)) p1 r_2).bind fun S_3 => (f4_at S_3 ((10 * c + 1)) x_1).bind fun r_4 => (f4_put S_3 ((10 * c + 1)) p1 r_4).bind fun S_5 => (f4_at S_5 ((10 * c + 2)) x_1).bind fun r_6 => (f4_put S_5 ((10 * c + 2)) p1 r_6).bind fun S_7 => (f4_at S_7 ((10 * c + 3)) x_1).bind fun r_8 => (f4_put S_7 ((10 * c + 3)) p1 r_8).bind fun S_9 => nam (sI S_9 (6 * c + 0) x_1) fun S_10 => some (S_10)
def f3_join (S : St) (c : Nat) (p1 : Int32) (p2 : Int32) (p3 : Int32) : Option (St) := (f4_at S ((10 * c + 0)) p2).bind fun r_1 => (f4_at S ((10 * c + 1)) p2).bind fun r_2 => (f4_at S ((10 * c + 2)) p2).bind fun r_3 => (f3_put S c p2 r_1 r_2 ((r_3 - 1)) p3).bind fun S_4 => (f3_remove S_4 c p1).bind fun S_5 => some (S_5)
def f0_passOn_b55 (S : St) (c : Nat) : Option (St) := some (S)
def f0_passOn (S : St) (c : Nat) (p1 : Int32) (p2 : Int32) : Option (St) := (f3_giveTo S c p1 p2).bind fun S_1 => (f3_otherHalf S_1 c p1).bind fun r_2 => if (r_2 : Int32) = (-1) then (f0_passOn_b55 S_1 c ) else ((f3_ownerOf S_1 c r_2).bind fun r_3 => if (r_3 : Int32) = p2 then ((f3_join S_1 c p1 r_2 p2).bind fun S_4 => nam (sI S_4 (6 * c + 4) ((S_4.1 (6 * c + 4) + 1))) fun S_5 => f0_passOn_b55 S_5 c ) else (f0_passOn_b55 S_1 c ))
def f3_joinAll (S : St) (c : Nat) : Option (St) := (f3_put S c 0 0 0 0 ((-1))).bind fun S_1 => nam (sI S_1 (6 * c + 0) 1) fun S_2 => some (S_2)
def f3_isGivenBefore_b43 (S : St) (c : Nat) (k0 : Int32) : Option (Int32) := isz k0 <| some (k0)
def f3_isGivenBefore (S : St) (c : Nat) (p1 : Int32) (p2 : Int32) : Option (Int32) := (f4_at S ((10 * c + 2)) p1).bind fun r_1 => (f4_at S ((10 * c + 2)) p2).bind fun r_2 => if (r_1 : Int32) = r_2 then ((f3_isCornerLower S c p1 p2).bind fun r_3 => isz r_3 <| some (r_3)) else ((f4_at S ((10 * c + 2)) p1).bind fun r_4 => (f4_at S ((10 * c + 2)) p2).bind fun r_5 => if (r_4 : Int32) ≤ r_5 then (f3_isGivenBefore_b43 S c 0) else (f3_isGivenBefore_b43 S c 1))
def f3_firstToGive_b40 (S : St) (c : Nat) (k : Int32 → Int32 → Option (Int32)) (l1 : Int32) (l2 : Int32) (l3 : Int32) : Option (Int32) := k l2 ((l3 + 1))
def f3_firstToGive_b38 (S : St) (c : Nat) (k : Int32 → Int32 → Option (Int32)) (l1 : Int32) (l3 : Int32) : Option (Int32) := f3_firstToGive_b40 S c k l1 l3 l3
def f3_firstToGive_b4 (S : St) (c : Nat) (l1 : Int32) : Nat → Int32 → Int32 → Option (Int32)
  | 0, _, _ => none
  | n + 1, l2, l3 => if (S.1 (6 * c + 0) : Int32) ≤ l3 then (some (l2)) else ((f4_at S ((10 * c + 3)) l3).bind fun r_1 => if (r_1 : Int32) = l1 then (if (l2 : Int32) = (-1) then (f3_firstToGive_b38 S c (f3_firstToGive_b4 S c l1 n) l1 l3) else ((f3_isGivenBefore S c l3 l2).bind fun r_2 => if (r_2 : Int32) = 0 then (f3_firstToGive_b40 S c (f3_firstToGive_b4 S c l1 n) l1 l2 l3) else (f3_firstToGive_b38 S c (f3_firstToGive_b4 S c l1 n) l1 l3))) else (f3_firstToGive_b40 S c (f3_firstToGive_b4 S c l1 n) l1 l2 l3))
def f3_firstToGive (S : St) (c : Nat) (p1 : Int32) : Option (Int32) := f3_firstToGive_b4 S c p1 fuelN ((-1)) 0
def f0_leastOf_b62 (S : St) (c : Nat) (k : Int32 → Int32 → Int32 → Option (Int32)) (l1 : Int32) (l2 : Int32) (l3 : Int32) (l4 : Int32) : Option (Int32) := k l2 l3 ((l4 + 1))
def f0_leastOf_b56 (S : St) (c : Nat) (k : Int32 → Int32 → Int32 → Option (Int32)) (l1 : Int32) (l4 : Int32) (l5 : Int32) : Option (Int32) := f0_leastOf_b62 S c k l1 l4 l5 l4
def f0_leastOf_b7 (S : St) (c : Nat) (l1 : Int32) : Nat → Int32 → Int32 → Int32 → Option (Int32)
  | 0, _, _, _ => none
  | n + 1, l2, l3, l4 => if (S.1 (6 * c + 1) : Int32) ≤ l4 then (some (l2)) else ((f0_isHere S c l4).bind fun r_1 => if (r_1 : Int32) = 0 then (f0_leastOf_b62 S c (f0_leastOf_b7 S c l1 n) l1 l2 l3 l4) else ((f5_isMarked l1 l4).bind fun r_2 => if (r_2 : Int32) = 0 then (f0_leastOf_b62 S c (f0_leastOf_b7 S c l1 n) l1 l2 l3 l4) else ((f3_pointsOf S c l4).bind fun r_3 => if (l2 : Int32) = (-1) then (f0_leastOf_b56 S c (f0_leastOf_b7 S c l1 n) l1 l4 r_3) else (if (l3 : Int32) ≤ r_3 then (f0_leastOf_b62 S c (f0_leastOf_b7 S c l1 n) l1 l2 l3 l4) else (f0_leastOf_b56 S c (f0_leastOf_b7 S c l1 n) l1 l4 r_3)))))
def f0_leastOf (S : St) (c : Nat) (p1 : Int32) : Option (Int32) := f0_leastOf_b7 S c p1 fuelN ((-1)) 0 0
def f0_giveAway_b74 (S : St) (c : Nat) : Option (St) := some (S)
def f0_giveAway (S : St) (c : Nat) (p1 : Int32) : Option (St) := (f3_otherHalf S c p1).bind fun r_1 => if (r_1 : Int32) = (-1) then ((f3_ownersBeside S c p1).bind fun r_5 => (f0_leastOf S c r_5).bind fun r_6 => (f3_giveTo S c p1 r_6).bind fun S_7 => nam (sI S_7 (6 * c + 5) ((S_7.1 (6 * c + 5) + 1))) fun S_8 => f0_giveAway_b74 S_8 c ) else ((f3_ownerOf S c r_1).bind fun r_2 => (f3_join S c p1 r_1 r_2).bind fun S_3 => nam (sI S_3 (6 * c + 4) ((S_3.1 (6 * c + 4) + 1))) fun S_4 => f0_giveAway_b74 S_4 c )
def f0_sendAway_b26 (c : Nat) (l1 : Int32) : Nat → St → Int32 → Option (St)
  | 0, _, _ => none
  | n + 1, S, l2 => if (181 : Int32) ≤ l2 then (some (S)) else ((f3_firstToGive S c l1).bind fun r_1 => if (r_1 : Int32) = (-1) then (some (S)) else ((f0_giveAway S c r_1).bind fun S_2 => f0_sendAway_b26 c l1 n S_2 ((l2 + 1))))
def f0_sendAway (S : St) (c : Nat) (p1 : Int32) : Option (St) := (f4_put S ((10 * c + 6)) p1 0).bind fun S_1 => (f0_campersHere S_1 c).bind fun r_2 => if (r_2 : Int32) = 0 then ((f3_joinAll S_1 c).bind fun S_3 => some (S_3)) else (f0_sendAway_b26 c p1 fuelN S_1 0)
def f3_manyBeside_b24 (S : St) (c : Nat) (k : Int32 → Int32 → Option (Int32)) (l1 : Int32) (l2 : Int32) (l3 : Int32) : Option (Int32) := k l2 ((l3 + 1))
def f3_manyBeside_b4 (S : St) (c : Nat) (l1 : Int32) : Nat → Int32 → Int32 → Option (Int32)
  | 0, _, _ => none
  | n + 1, l2, l3 => if (S.1 (6 * c + 0) : Int32) ≤ l3 then (some (l2)) else ((f3_areBeside S c l1 l3).bind fun r_1 => if (r_1 : Int32) = 0 then (f3_manyBeside_b24 S c (f3_manyBeside_b4 S c l1 n) l1 l2 l3) else (f3_manyBeside_b24 S c (f3_manyBeside_b4 S c l1 n) l1 ((l2 + 1)) l3))
def f3_manyBeside (S : St) (c : Nat) (p1 : Int32) : Option (Int32) := f3_manyBeside_b4 S c p1 fuelN 0 0
def f5_orNone_b11 (k0 : Int32) : Option (Int32) := some (k0)
def f5_orNone (p0 : Int32) : Option (Int32) := if (p0 : Int32) = (-1) then (f5_orNone_b11  ((-5))) else (f5_orNone_b11  p0)
def f5_plot (S : St) (p1 : Int32) (p2 : Int32) (p3 : Int32) : Option (Int32) := (f5_isPoint p1 p2).bind fun r_1 => if (r_1 : Int32) = 0 then (some ((-1))) else ((f3_find S 0 p1 p2).bind fun r_2 => if (Int32.toInt p3 < 0 ∨ 6 < Int32.toInt p3) then (some ((-2))) else if (p3 : Int32) = 0 then ((f3_ownerOf S 0 r_2).bind fun r_3 => (f5_orNone r_3).bind fun r_4 => some (r_4)) else if (p3 : Int32) = 1 then ((f3_depthOf S 0 r_2).bind fun r_5 => some (r_5)) else if (p3 : Int32) = 2 then ((f3_x0Of S 0 r_2).bind fun r_6 => some (r_6)) else if (p3 : Int32) = 3 then ((f3_y0Of S 0 r_2).bind fun r_7 => some (r_7)) else if (p3 : Int32) = 4 then ((f3_x1Of S 0 r_2).bind fun r_8 => some (r_8)) else if (p3 : Int32) = 5 then ((f3_y1Of S 0 r_2).bind fun r_9 => some (r_9)) else if (p3 : Int32) = 6 then ((f3_manyBeside S 0 r_2).bind fun r_10 => some (r_10)) else none)
def f3_outside_b21 (k0 : Int32) : Option (Int32) := some (k0)
def f3_outside (p0 : Int32) (p1 : Int32) (p2 : Int32) : Option (Int32) := if (p1 : Int32) ≤ p0 then (if (p0 : Int32) ≤ p2 then (f3_outside_b21  0) else (f3_outside_b21  ((p0 - p2)))) else (some ((p1 - p0)))
def f3_distance (S : St) (c : Nat) (p1 : Int32) (p2 : Int32) (p3 : Int32) : Option (Int32) := (f3_x0Of S c p1).bind fun r_1 => (f3_x1Of S c p1).bind fun r_2 => (f3_outside p2 r_1 r_2).bind fun r_3 => (f3_y0Of S c p1).bind fun r_4 => (f3_y1Of S c p1).bind fun r_5 => (f3_outside p3 r_4 r_5).bind fun r_6 => some ((r_3 + r_6))
def f3_isBetterStep_b48 (S : St) (c : Nat) (k0 : Int32) : Option (Int32) := isz k0 <| some (k0)
def f3_isBetterStep (S : St) (c : Nat) (p1 : Int32) (p2 : Int32) (p3 : Int32) (p4 : Int32) : Option (Int32) := (f3_distance S c p1 p3 p4).bind fun r_1 => (f3_distance S c p2 p3 p4).bind fun r_2 => if (r_1 : Int32) = r_2 then ((f3_isCornerLower S c p1 p2).bind fun r_3 => f3_isBetterStep_b48 S c r_3) else (if (r_2 : Int32) ≤ r_1 then (f3_isBetterStep_b48 S c 0) else (f3_isBetterStep_b48 S c 1))
def f3_nextToward_b48 (S : St) (c : Nat) (k : Int32 → Int32 → Option (Int32)) (l1 : Int32) (l2 : Int32) (l3 : Int32) (l4 : Int32) (l5 : Int32) : Option (Int32) := k l4 ((l5 + 1))
def f3_nextToward_b44 (S : St) (c : Nat) (k : Int32 → Int32 → Option (Int32)) (l1 : Int32) (l2 : Int32) (l3 : Int32) (l5 : Int32) : Option (Int32) := f3_nextToward_b48 S c k l1 l2 l3 l5 l5
def f3_nextToward_b6 (S : St) (c : Nat) (l1 : Int32) (l2 : Int32) (l3 : Int32) : Nat → Int32 → Int32 → Option (Int32)
  | 0, _, _ => none
  | n + 1, l4, l5 => if (S.1 (6 * c + 0) : Int32) ≤ l5 then (some (l4)) else ((f3_areBeside S c l1 l5).bind fun r_1 => if (r_1 : Int32) = 0 then (f3_nextToward_b48 S c (f3_nextToward_b6 S c l1 l2 l3 n) l1 l2 l3 l4 l5) else (if (l4 : Int32) = (-1) then (f3_nextToward_b44 S c (f3_nextToward_b6 S c l1 l2 l3 n) l1 l2 l3 l5) else ((f3_isBetterStep S c l5 l4 l2 l3).bind fun r_2 => if (r_2 : Int32) = 0 then (f3_nextToward_b48 S c (f3_nextToward_b6 S c l1 l2 l3 n) l1 l2 l3 l4 l5) else (f3_nextToward_b44 S c (f3_nextToward_b6 S c l1 l2 l3 n) l1 l2 l3 l5))))
def f3_nextToward (S : St) (c : Nat) (p1 : Int32) (p2 : Int32) (p3 : Int32) : Option (Int32) := f3_nextToward_b6 S c p1 p2 p3 fuelN ((-1)) 0
def f0_plotOnWay_b65 (S : St) (c : Nat) : Option (Int32) := some ((-1))
def f0_plotOnWay_b38 (S : St) (c : Nat) (l2 : Int32) (l3 : Int32) (l4 : Int32) : Nat → Int32 → Int32 → Option (Int32)
  | 0, _, _ => none
  | n + 1, l5, l6 => if (l4 : Int32) ≤ l6 then (some (l5)) else (if (l5 : Int32) = (-1) then (f0_plotOnWay_b65 S c ) else ((f3_has S c l5 l2 l3).bind fun r_1 => if (r_1 : Int32) = 0 then ((f3_nextToward S c l5 l2 l3).bind fun r_2 => f0_plotOnWay_b38 S c l2 l3 l4 n r_2 ((l6 + 1))) else (f0_plotOnWay_b65 S c )))
def f0_plotOnWay (S : St) (c : Nat) (p1 : Int32) (p2 : Int32) (p3 : Int32) (p4 : Int32) : Option (Int32) := if (p4 : Int32) < 181 then ((f4_at S ((10 * c + 4)) p1).bind fun r_1 => (f4_at S ((10 * c + 5)) p1).bind fun r_2 => (f3_find S c r_1 r_2).bind fun r_3 => f0_plotOnWay_b38 S c p2 p3 p4 fuelN r_3 0) else (some ((-1)))
def f5_way_b114 (S : St) (k0 : Int32) : Option (Int32) := some (k0)
def f5_way_b37 (S : St) : Option (Int32) := some ((-2))
def f5_way_b19 (S : St) : Option (Int32) := some ((-1))
def f5_way (S : St) (p1 : Int32) (p2 : Int32) (p3 : Int32) (p4 : Int32) (p5 : Int32) : Option (Int32) := (f0_isHere S 0 p1).bind fun r_1 => if (r_1 : Int32) = 0 then (f5_way_b19 S ) else ((f5_isPoint p2 p3).bind fun r_2 => if (r_2 : Int32) = 0 then (f5_way_b19 S ) else (if (p4 : Int32) < 0 then (f5_way_b37 S ) else (if (p5 : Int32) < 0 then (f5_way_b37 S ) else (if (p5 : Int32) ≤ 2 then ((f0_plotOnWay S 0 p1 p2 p3 p4).bind fun r_3 => if (r_3 : Int32) = (-1) then (some ((-5))) else (if (p5 : Int32) = 0 then ((f3_ownerOf S 0 r_3).bind fun r_6 => some (r_6)) else (if (p5 : Int32) = 1 then ((f3_x0Of S 0 r_3).bind fun r_5 => f5_way_b114 S r_5) else ((f3_y0Of S 0 r_3).bind fun r_4 => f5_way_b114 S r_4)))) else (f5_way_b37 S )))))
def f5_loudest_b52 (S : St) (k : Int32 → UInt32 → Int32 → Option (Int32)) (l1 : Int32) (l2 : UInt32) (l3 : Int32) : Option (Int32) := k l1 l2 ((l3 + 1))
def f5_loudest_b8 (S : St) : Nat → Int32 → UInt32 → Int32 → Option (Int32)
  | 0, _, _, _ => none
  | n + 1, l1, l2, l3 => if (S.1 (6 * 0 + 1) : Int32) ≤ l3 then (some (l1)) else ((f0_isHere S 0 l3).bind fun r_1 => if (r_1 : Int32) = 0 then (f5_loudest_b52 S (f5_loudest_b8 S n) l1 l2 l3) else ((f0_loudnessOf S 0 l3).bind fun r_2 => if ((Op.cmpValue (FP.fcmp r_2 l2) CmpOp.l) : Int32) ≤ 0 then (f5_loudest_b52 S (f5_loudest_b8 S n) l1 l2 l3) else (f5_loudest_b52 S (f5_loudest_b8 S n) l3 r_2 l3)))
def f5_loudest (S : St) : Option (Int32) := f5_loudest_b8 S fuelN ((-5)) 3212836864 0
def f5_keep (S : St) : Option (Int32 × St) := (f0_copyFrom S 2 0).bind fun S_1 => nam (sI S_1 42 1) fun S_2 => (f0_campersHere S_2 0).bind fun r_3 => some (r_3, S_2)
