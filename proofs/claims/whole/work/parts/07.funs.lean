def f4_copyFrom_b43 (S : St) (r : Nat) (r1 : Nat) : Option (St) := some (S)
def f4_copyFrom_b2 (r : Nat) (r1 : Nat) (l2 : Int32) : Nat → St → Int32 → Option (St)
  | 0, _, _ => none
  | n + 1, S, l3 => if (l2 : Int32) ≤ l3 then (f4_copyFrom_b43 S r r1 ) else (if ((Int32.ofNat (rlen r)) : Int32) ≤ l3 then (f4_copyFrom_b43 S r r1 ) else (if ((Int32.ofNat (rlen r1)) : Int32) ≤ l3 then (f4_copyFrom_b43 S r r1 ) else (arr (S.2 r1) (rlen r1) l3 fun x_1 => sto (rlen r) l3 <| nam (sA S r (Int32.toNatClampNeg l3) x_1) fun S_2 => f4_copyFrom_b2 r r1 l2 n S_2 ((l3 + 1)))))
def f4_copyFrom (S : St) (r : Nat) (r1 : Nat) (p2 : Int32) : Option (St) := f4_copyFrom_b2 r r1 p2 fuelN S 0
def f3_copyFrom (S : St) (c : Nat) (c1 : Nat) : Option (St) := nam (sI S (6 * c + 0) (S.1 (6 * c1 + 0))) fun S_1 => (f4_copyFrom S_1 ((10 * c + 0)) ((10 * c1 + 0)) (S_1.1 (6 * c + 0))).bind fun S_2 => (f4_copyFrom S_2 ((10 * c + 1)) ((10 * c1 + 1)) (S_2.1 (6 * c + 0))).bind fun S_3 => (f4_copyFrom S_3 ((10 * c + 2)) ((10 * c1 + 2)) (S_3.1 (6 * c + 0))).bind fun S_4 => (f4_copyFrom S_4 ((10 * c + 3)) ((10 * c1 + 3)) (S_4.1 (6 * c + 0))).bind fun S_5 => some (S_5)
def f0_copyFrom (S : St) (c : Nat) (c1 : Nat) : Option (St) := nam (sI S (6 * c + 1) (S.1 (6 * c1 + 1))) fun S_1 => nam (sI S_1 (6 * c + 2) (S_1.1 (6 * c1 + 2))) fun S_2 => nam (sI S_2 (6 * c + 3) (S_2.1 (6 * c1 + 3))) fun S_3 => nam (sI S_3 (6 * c + 4) (S_3.1 (6 * c1 + 4))) fun S_4 => nam (sI S_4 (6 * c + 5) (S_4.1 (6 * c1 + 5))) fun S_5 => (f3_copyFrom S_5 c c1).bind fun S_6 => (f4_copyFrom S_6 ((10 * c + 4)) ((10 * c1 + 4)) (S_6.1 (6 * c + 1))).bind fun S_7 => (f4_copyFrom S_7 ((10 * c + 5)) ((10 * c1 + 5)) (S_7.1 (6 * c + 1))).bind fun S_8 => (f4_copyFrom S_8 ((10 * c + 6)) ((10 * c1 + 6)) (S_8.1 (6 * c + 1))).bind fun S_9 => (f4_copyFrom S_9 ((10 * c + 7)) ((10 * c1 + 7)) (S_9.1 (6 * c + 2))).bind fun S_10 => (f4_copyFrom S_10 ((10 * c + 8)) ((10 * c1 + 8)) (S_10.1 (6 * c + 2))).bind fun S_11 => (f4_copyFrom S_11 ((10 * c + 9)) ((10 * c1 + 9)) (S_11.1 (6 * c + 2))).bind fun S_12 => some (S_12)
def f4_at_b23 (S : St) (r : Nat) (k0 : Int32) : Option (Int32) := some (k0)
def f4_at_b22 (S : St) (r : Nat) : Option (Int32) := f4_at_b23 S r 0
def f4_at (S : St) (r : Nat) (p1 : Int32) : Option (Int32) := if (p1 : Int32) < 0 then (f4_at_b22 S r ) else (if ((Int32.ofNat (rlen r)) : Int32) ≤ p1 then (f4_at_b22 S r ) else (arr (S.2 r) (rlen r) p1 fun x_1 => f4_at_b23 S r x_1))
def f0_isHere_b29 (S : St) (c : Nat) (k0 : Int32) : Option (Int32) := isz k0 <| some (k0)
def f0_isHere_b28 (S : St) (c : Nat) : Option (Int32) := f0_isHere_b29 S c 0
def f0_isHere (S : St) (c : Nat) (p1 : Int32) : Option (Int32) := if (p1 : Int32) < 0 then (f0_isHere_b28 S c ) else (if (S.1 (6 * c + 1) : Int32) ≤ p1 then (f0_isHere_b28 S c ) else ((f4_at S ((10 * c + 6)) p1).bind fun r_1 => if (r_1 : Int32) = 1 then (f0_isHere_b29 S c 1) else (f0_isHere_b28 S c )))
def f0_campersHere_b4 (S : St) (c : Nat) : Nat → Int32 → Int32 → Option (Int32)
  | 0, _, _ => none
  | n + 1, l1, l2 => if (S.1 (6 * c + 1) : Int32) ≤ l2 then (some (l1)) else ((f4_at S ((10 * c + 6)) l2).bind fun r_1 => nam ((l1 + r_1)) fun x_2 => f0_campersHere_b4 S c n x_2 ((l2 + 1)))
def f0_campersHere (S : St) (c : Nat) : Option (Int32) := f0_campersHere_b4 S c fuelN 0 0
def f3_manyOf_b27 (S : St) (c : Nat) (k : Int32 → Int32 → Option (Int32)) (l1 : Int32) (l2 : Int32) (l3 : Int32) : Option (Int32) := k l2 ((l3 + 1))
def f3_manyOf_b4 (S : St) (c : Nat) (l1 : Int32) : Nat → Int32 → Int32 → Option (Int32)
  | 0, _, _ => none
  | n + 1, l2, l3 => if (S.1 (6 * c + 0) : Int32) ≤ l3 then (some (l2)) else ((f4_at S ((10 * c + 3)) l3).bind fun r_1 => if (r_1 : Int32) = l1 then (f3_manyOf_b27 S c (f3_manyOf_b4 S c l1 n) l1 ((l2 + 1)) l3) else (f3_manyOf_b27 S c (f3_manyOf_b4 S c l1 n) l1 l2 l3))
def f3_manyOf (S : St) (c : Nat) (p1 : Int32) : Option (Int32) := f3_manyOf_b4 S c p1 fuelN 0 0
def f0_campersWithMorePlots_b27 (S : St) (c : Nat) (k : Int32 → Int32 → Option (Int32)) (l1 : Int32) (l2 : Int32) : Option (Int32) := k l1 ((l2 + 1))
def f0_campersWithMorePlots_b4 (S : St) (c : Nat) : Nat → Int32 → Int32 → Option (Int32)
  | 0, _, _ => none
  | n + 1, l1, l2 => if (S.1 (6 * c + 1) : Int32) ≤ l2 then (some (l1)) else ((f3_manyOf S c l2).bind fun r_1 => if (r_1 : Int32) ≤ 1 then (f0_campersWithMorePlots_b27 S c (f0_campersWithMorePlots_b4 S c n) l1 l2) else (f0_campersWithMorePlots_b27 S c (f0_campersWithMorePlots_b4 S c n) ((l1 + 1)) l2))
def f0_campersWithMorePlots (S : St) (c : Nat) : Option (Int32) := f0_campersWithMorePlots_b4 S c fuelN 0 0
def f5_widthAt (p0 : Int32) : Option (Int32) := some (((64 : Int32) >>> (((((p0 + 1) : Int32) >>> ((1 : Int32) &&& 31)) : Int32) &&& 31)))
def f5_heightAt (p0 : Int32) : Option (Int32) := some (((64 : Int32) >>> ((((p0 : Int32) >>> ((1 : Int32) &&& 31)) : Int32) &&& 31)))
def f3_has_b69 (S : St) (c : Nat) (k0 : Int32) : Option (Int32) := isz k0 <| some (k0)
def f3_has_b68 (S : St) (c : Nat) : Option (Int32) := f3_has_b69 S c 0
def f3_has (S : St) (c : Nat) (p1 : Int32) (p2 : Int32) (p3 : Int32) : Option (Int32) := (f4_at S ((10 * c + 0)) p1).bind fun r_1 => nam ((p2 - r_1)) fun x_2 => (f4_at S ((10 * c + 1)) p1).bind fun r_3 => nam ((p3 - r_3)) fun x_4 => (f4_at S ((10 * c + 2)) p1).bind fun r_5 => if (x_2 : Int32) < 0 then (f3_has_b68 S c ) else ((f5_widthAt r_5).bind fun r_6 => if (r_6 : Int32) ≤ x_2 then (f3_has_b68 S c ) else (if (x_4 : Int32) < 0 then (f3_has_b68 S c ) else ((f5_heightAt r_5).bind fun r_7 => if (r_7 : Int32) ≤ x_4 then (f3_has_b68 S c ) else (f3_has_b69 S c 1))))
def f0_isTentIn_b40 (S : St) (c : Nat) (k0 : Int32) : Option (Int32) := isz k0 <| some (k0)
def f0_isTentIn_b39 (S : St) (c : Nat) : Option (Int32) := f0_isTentIn_b40 S c 0
def f0_isTentIn (S : St) (c : Nat) (p1 : Int32) (p2 : Int32) : Option (Int32) := (f0_isHere S c p2).bind fun r_1 => if (r_1 : Int32) = 0 then (f0_isTentIn_b39 S c ) else ((f4_at S ((10 * c + 4)) p2).bind fun r_2 => (f4_at S ((10 * c + 5)) p2).bind fun r_3 => (f3_has S c p1 r_2 r_3).bind fun r_4 => if (r_4 : Int32) = 0 then (f0_isTentIn_b39 S c ) else (f0_isTentIn_b40 S c 1))
def f3_find_b2 (S : St) (c : Nat) (l1 : Int32) (l2 : Int32) : Nat → Int32 → Option (Int32)
  | 0, _ => none
  | n + 1, l3 => if (S.1 (6 * c + 0) : Int32) ≤ l3 then (some ((-1))) else ((f3_has S c l3 l1 l2).bind fun r_1 => if (r_1 : Int32) = 0 then (f3_find_b2 S c l1 l2 n ((l3 + 1))) else (some (l3)))
def f3_find (S : St) (c : Nat) (p1 : Int32) (p2 : Int32) : Option (Int32) := f3_find_b2 S c p1 p2 fuelN 0
def f3_ownerOf (S : St) (c : Nat) (p1 : Int32) : Option (Int32) := (f4_at S ((10 * c + 3)) p1).bind fun r_1 => some (r_1)
def f3_depthOf (S : St) (c : Nat) (p1 : Int32) : Option (Int32) := (f4_at S ((10 * c + 2)) p1).bind fun r_1 => some (r_1)
def f5_partX0 (p0 : Int32) (p1 : Int32) : Option (Int32) := (f5_widthAt p1).bind fun r_1 => some (((p0 : Int32) &&& (-r_1)))
def f5_partY0 (p0 : Int32) (p1 : Int32) : Option (Int32) := (f5_heightAt p1).bind fun r_1 => some (((p0 : Int32) &&& (-r_1)))
def f0_isInPart_b35 (k0 : Int32) : Option (Int32) := isz k0 <| some (k0)
def f0_isInPart_b34 : Option (Int32) := f0_isInPart_b35  0
def f0_isInPart (p0 : Int32) (p1 : Int32) (p2 : Int32) (p3 : Int32) (p4 : Int32) : Option (Int32) := (f5_partX0 p0 p4).bind fun r_1 => (f5_partX0 p2 p4).bind fun r_2 => if (r_1 : Int32) = r_2 then ((f5_partY0 p1 p4).bind fun r_3 => (f5_partY0 p3 p4).bind fun r_4 => if (r_3 : Int32) = r_4 then (f0_isInPart_b35  1) else (f0_isInPart_b34  )) else (f0_isInPart_b34  )
def f0_depthForNewcomer_b106 (S : St) (c : Nat) (l7 : Int32) : Option (Int32) := some (l7)
def f0_depthForNewcomer_b66 (S : St) (c : Nat) (l1 : Int32) (l2 : Int32) (l4 : Int32) (l6 : Int32) : Nat → Int32 → Option (Int32)
  | 0, _ => none
  | n + 1, l7 => if (12 : Int32) < l7 then (some ((-4))) else (if (l6 : Int32) = 0 then (f0_depthForNewcomer_b106 S c l7) else ((f4_at S ((10 * c + 4)) l4).bind fun r_1 => (f4_at S ((10 * c + 5)) l4).bind fun r_2 => (f0_isInPart r_1 r_2 l1 l2 l7).bind fun r_3 => if (r_3 : Int32) = 0 then (f0_depthForNewcomer_b106 S c l7) else (f0_depthForNewcomer_b66 S c l1 l2 l4 l6 n ((l7 + 1)))))
def f0_depthForNewcomer (S : St) (c : Nat) (p1 : Int32) (p2 : Int32) : Option (Int32) := if (S.1 (6 * c + 1) : Int32) < 16 then ((f3_find S c p1 p2).bind fun r_1 => (f3_ownerOf S c r_1).bind fun r_2 => (f3_depthOf S c r_1).bind fun r_3 => if (r_2 : Int32) = (-1) then (some (r_3)) else ((f0_isTentIn S c r_1 r_2).bind fun r_4 => nam ((r_3 + 1)) fun x_5 => f0_depthForNewcomer_b66 S c p1 p2 r_2 r_4 fuelN x_5)) else (some ((-3)))
def f5_otherHalfX0_b17 (k0 : Int32) : Option (Int32) := some (k0)
def f5_otherHalfX0 (p0 : Int32) (p1 : Int32) : Option (Int32) := if (((p1 : Int32) &&& 1) : Int32) = 1 then ((f5_widthAt p1).bind fun r_1 => f5_otherHalfX0_b17  (((p0 : Int32) ^^^ r_1))) else (f5_otherHalfX0_b17  p0)
def f5_otherHalfY0_b16 (k0 : Int32) : Option (Int32) := some (k0)
def f5_otherHalfY0 (p0 : Int32) (p1 : Int32) : Option (Int32) := if (((p1 : Int32) &&& 1) : Int32) = 0 then ((f5_heightAt p1).bind fun r_1 => f5_otherHalfY0_b16  (((p0 : Int32) ^^^ r_1))) else (f5_otherHalfY0_b16  p0)
def f4_put_b20 (S : St) (r : Nat) : Option (St) := some (S)
def f4_put (S : St) (r : Nat) (p1 : Int32) (p2 : Int32) : Option (St) := if (p1 : Int32) < 0 then (f4_put_b20 S r ) else (if ((Int32.ofNat (rlen r)) : Int32) ≤ p1 then (f4_put_b20 S r ) else (sto (rlen r) p1 <| nam (sA S r (Int32.toNatClampNeg p1) p2) fun S_1 => f4_put_b20 S_1 r ))
def f3_put (S : St) (c : Nat) (p1 : Int32) (p2 : Int32) (p3 : Int32) (p4 : Int32) (p5 : Int32) : Option (St) := (f5_partX0 p2 p4).bind fun r_1 => (f4_put S ((10 * c + 0)) p1 r_1).bind fun S_2 => (f5_partY0 p3 p4).bind fun r_3 => (f4_put S_2 ((10 * c + 1)) p1 r_3).bind fun S_4 => (f4_put S_4 ((10 * c + 2)) p1 p4).bind fun S_5 => (f4_put S_5 ((10 * c + 3)) p1 p5).bind fun S_6 => some (S_6)
def f3_add_b33 (S : St) (c : Nat) : Option (St) := some (S)
def f3_add (S : St) (c : Nat) (p1 : Int32) (p2 : Int32) (p3 : Int32) (p4 : Int32) : Option (St) := if (181 : Int32) ≤ S.1 (6 * c + 0) then (f3_add_b33 S c ) else ((f3_put S c (S.1 (6 * c + 0)) p1 p2 p3 p4).bind fun S_1 => nam (sI S_1 (6 * c + 0) ((S_1.1 (6 * c + 0) + 1))) fun S_2 => f3_add_b33 S_2 c )
def f3_halveDown_b22 (c : Nat) (l1 : Int32) (l2 : Int32) (l3 : Int32) (l4 : Int32) (l5 : Int32) (l6 : Int32) : Nat → St → Int32 → Option (St)
  | 0, _, _ => none
  | n + 1, S, l7 => if (l4 : Int32) < l7 then ((f3_put S c l1 l2 l3 l4 l5).bind fun S_1 => some (S_1)) else ((f5_partX0 l2 l7).bind fun r_2 => (f5_otherHalfX0 r_2 l7).bind fun r_3 => (f5_partY0 l3 l7).bind fun r_4 => (f5_otherHalfY0 r_4 l7).bind fun r_5 => (f3_add S c r_3 r_5 l7 l6).bind fun S_6 => f3_halveDown_b22 c l1 l2 l3 l4 l5 l6 n S_6 ((l7 + 1)))
def f3_halveDown (S : St) (c : Nat) (p1 : Int32) (p2 : Int32) (p3 : Int32) (p4 : Int32) (p5 : Int32) : Option (St) := (f4_at S ((10 * c + 3)) p1).bind fun r_1 => (f4_at S ((10 * c + 2)) p1).bind fun r_2 => nam ((r_2 + 1)) fun x_3 => f3_halveDown_b22 c p1 p2 p3 p4 p5 r_1 fuelN S x_3
def f0_pitch (S : St) (c : Nat) (p1 : Int32) (p2 : Int32) (p3 : Int32) : Option (St) := (f4_put S ((10 * c + 4)) p1 p2).bind fun S_1 => (f4_put S_1 ((10 * c + 5)) p1 p3).bind fun S_2 => some (S_2)
def f0_settle (S : St) (c : Nat) (p1 : Int32) (p2 : Int32) (p3 : Int32) : Option (Int32 × St) := nam (S.1 (6 * c + 1)) fun x_1 => (f3_find S c p1 p2).bind fun r_2 => (f3_depthOf S c r_2).bind fun r_3 => nam (sI S (6 * c + 3) ((S.1 (6 * c + 3) + (p3 - r_3)))) fun S_4 => (f3_halveDown S_4 c r_2 p1 p2 p3 x_1).bind fun S_5 => (f4_put S_5 ((10 * c + 6)) x_1 1).bind fun S_6 => (f0_pitch S_6 c x_1 p1 p2).bind fun S_7 => nam (sI S_7 (6 * c + 1) ((x_1 + 1))) fun S_8 => some (x_1, S_8)
def f3_joinAll (S : St) (c : Nat) : Option (St) := (f3_put S c 0 0 0 0 ((-1))).bind fun S_1 => nam (sI S_1 (6 * c + 0) 1) fun S_2 => some (S_2)
def f3_isCornerLower_b43 (S : St) (c : Nat) (k0 : Int32) : Option (Int32) := isz k0 <| some (k0)
def f3_isCornerLower_b68 (S : St) (c : Nat) (k0 : Int32) : Option (Int32) := isz k0 <| some (k0)
def f3_isCornerLower (S : St) (c : Nat) (p1 : Int32) (p2 : Int32) : Option (Int32) := (f4_at S ((10 * c + 0)) p1).bind fun r_1 => (f4_at S ((10 * c + 0)) p2).bind fun r_2 => if (r_1 : Int32) = r_2 then ((f4_at S ((10 * c + 1)) p1).bind fun r_3 => (f4_at S ((10 * c + 1)) p2).bind fun r_4 => if (r_4 : Int32) ≤ r_3 then (f3_isCornerLower_b68 S c 0) else (f3_isCornerLower_b68 S c 1)) else ((f4_at S ((10 * c + 0)) p1).bind fun r_5 => (f4_at S ((10 * c + 0)) p2).bind fun r_6 => if (r_6 : Int32) ≤ r_5 then (f3_isCornerLower_b43 S c 0) else (f3_isCornerLower_b43 S c 1))
def f3_isGivenBefore_b43 (S : St) (c : Nat) (k0 : Int32) : Option (Int32) := isz k0 <| some (k0)
def f3_isGivenBefore (S : St) (c : Nat) (p1 : Int32) (p2 : Int32) : Option (Int32) := (f4_at S ((10 * c + 2)) p1).bind fun r_1 => (f4_at S ((10 * c + 2)) p2).bind fun r_2 => if (r_1 : Int32) = r_2 then ((f3_isCornerLower S c p1 p2).bind fun r_3 => isz r_3 <| some (r_3)) else ((f4_at S ((10 * c + 2)) p1).bind fun r_4 => (f4_at S ((10 * c + 2)) p2).bind fun r_5 => if (r_4 : Int32) ≤ r_5 then (f3_isGivenBefore_b43 S c 0) else (f3_isGivenBefore_b43 S c 1))
def f3_firstToGive_b40 (S : St) (c : Nat) (k : Int32 → Int32 → Option (Int32)) (l1 : Int32) (l2 : Int32) (l3 : Int32) : Option (Int32) := k l2 ((l3 + 1))
def f3_firstToGive_b38 (S : St) (c : Nat) (k : Int32 → Int32 → Option (Int32)) (l1 : Int32) (l3 : Int32) : Option (Int32) := f3_firstToGive_b40 S c k l1 l3 l3
def f3_firstToGive_b4 (S : St) (c : Nat) (l1 : Int32) : Nat → Int32 → Int32 → Option (Int32)
  | 0, _, _ => none
  | n + 1, l2, l3 => if (S.1 (6 * c + 0) : Int32) ≤ l3 then (some (l2)) else ((f4_at S ((10 * c + 3)) l3).bind fun r_1 => if (r_1 : Int32) = l1 then (if (l2 : Int32) = (-1) then (f3_firstToGive_b38 S c (f3_firstToGive_b4 S c l1 n) l1 l3) else ((f3_isGivenBefore S c l3 l2).bind fun r_2 => if (r_2 : Int32) = 0 then (f3_firstToGive_b40 S c (f3_firstToGive_b4 S c l1 n) l1 l2 l3) else (f3_firstToGive_b38 S c (f3_firstToGive_b4 S c l1 n) l1 l3))) else (f3_firstToGive_b40 S c (f3_firstToGive_b4 S c l1 n) l1 l2 l3))
def f3_firstToGive (S : St) (c : Nat) (p1 : Int32) : Option (Int32) := f3_firstToGive_b4 S c p1 fuelN ((-1)) 0
def f3_otherHalf_b61 (S : St) (c : Nat) (k0 : Int32) : Option (Int32) := some (k0)
def f3_otherHalf (S : St) (c : Nat) (p1 : Int32) : Option (Int32) := (f4_at S ((10 * c + 2)) p1).bind fun r_1 => if (r_1 : Int32) = 0 then (some ((-1))) else ((f4_at S ((10 * c + 0)) p1).bind fun r_2 => (f5_otherHalfX0 r_2 r_1).bind fun r_3 => (f4_at S ((10 * c + 1)) p1).bind fun r_4 => (f5_otherHalfY0 r_4 r_1).bind fun r_5 => (f3_find S c r_3 r_5).bind fun r_6 => (f4_at S ((10 * c + 2)) r_6).bind fun r_7 => if (r_7 : Int32) = r_1 then (f3_otherHalf_b61 S c r_6) else (f3_otherHalf_b61 S c ((-1))))
def f3_x0Of (S : St) (c : Nat) (p1 : Int32) : Option (Int32) := (f4_at S ((10 * c + 0)) p1).bind fun r_1 => some (r_1)
def f3_x1Of (S : St) (c : Nat) (p1 : Int32) : Option (Int32) := (f4_at S ((10 * c + 0)) p1).bind fun r_1 => (f4_at S ((10 * c + 2)) p1).bind fun r_2 => (f5_widthAt r_2).bind fun r_3 => some (((r_1 + r_3) - 1))
def f3_y0Of (S : St) (c : Nat) (p1 : Int32) : Option (Int32) := (f4_at S ((10 * c + 1)) p1).bind fun r_1 => some (r_1)
def f3_y1Of (S : St) (c : Nat) (p1 : Int32) : Option (Int32) := (f4_at S ((10 * c + 1)) p1).bind fun r_1 => (f4_at S ((10 * c + 2)) p1).bind fun r_2 => (f5_heightAt r_2).bind fun r_3 => some (((r_1 + r_3) - 1))
def f3_areBeside_b163 (S : St) (c : Nat) (k0 : Int32) : Option (Int32) := isz k0 <| some (k0)
def f3_areBeside_b158 (S : St) (c : Nat) : Option (Int32) := f3_areBeside_b163 S c 1
def f3_areBeside_b162 (S : St) (c : Nat) : Option (Int32) := f3_areBeside_b163 S c 0
def f3_areBeside_b149 (S : St) (c : Nat) (l3 : Int32) (l6 : Int32) : Option (Int32) := if (l6 : Int32) = 0 then (f3_areBeside_b162 S c ) else (if (l3 : Int32) = 0 then (f3_areBeside_b162 S c ) else (f3_areBeside_b158 S c ))
def f3_areBeside_b137 (S : St) (c : Nat) (l3 : Int32) (l4 : Int32) (l5 : Int32) (k0 : Int32) : Option (Int32) := if (l5 : Int32) = 0 then (f3_areBeside_b149 S c l3 k0) else (if (l4 : Int32) = 0 then (f3_areBeside_b149 S c l3 k0) else (f3_areBeside_b158 S c ))
def f3_areBeside_b132 (S : St) (c : Nat) (l3 : Int32) (l4 : Int32) (l5 : Int32) : Option (Int32) := f3_areBeside_b137 S c l3 l4 l5 1
def f3_areBeside_b100 (S : St) (c : Nat) (l1 : Int32) (l2 : Int32) (l3 : Int32) (l4 : Int32) (k0 : Int32) : Option (Int32) := (f3_y1Of S c l1).bind fun r_1 => (f3_y0Of S c l2).bind fun r_2 => if ((r_1 + 1) : Int32) = r_2 then (f3_areBeside_b132 S c l3 l4 k0) else ((f3_y1Of S c l2).bind fun r_3 => (f3_y0Of S c l1).bind fun r_4 => if ((r_3 + 1) : Int32) = r_4 then (f3_areBeside_b132 S c l3 l4 k0) else (f3_areBeside_b137 S c l3 l4 k0 0))
def f3_areBeside_b95 (S : St) (c : Nat) (l1 : Int32) (l2 : Int32) (l3 : Int32) (l4 : Int32) : Option (Int32) := f3_areBeside_b100 S c l1 l2 l3 l4 1
def f3_areBeside_b63 (S : St) (c : Nat) (l1 : Int32) (l2 : Int32) (l3 : Int32) (k0 : Int32) : Option (Int32) := (f3_x1Of S c l1).bind fun r_1 => (f3_x0Of S c l2).bind fun r_2 => if ((r_1 + 1) : Int32) = r_2 then (f3_areBeside_b95 S c l1 l2 l3 k0) else ((f3_x1Of S c l2).bind fun r_3 => (f3_x0Of S c l1).bind fun r_4 => if ((r_3 + 1) : Int32) = r_4 then (f3_areBeside_b95 S c l1 l2 l3 k0) else (f3_areBeside_b100 S c l1 l2 l3 k0 0))
def f3_areBeside_b62 (S : St) (c : Nat) (l1 : Int32) (l2 : Int32) (l3 : Int32) : Option (Int32) := f3_areBeside_b63 S c l1 l2 l3 0
def f3_areBeside_b31 (S : St) (c : Nat) (l1 : Int32) (l2 : Int32) (k0 : Int32) : Option (Int32) := (f3_y0Of S c l1).bind fun r_1 => (f3_y1Of S c l2).bind fun r_2 => if (r_2 : Int32) < r_1 then (f3_areBeside_b62 S c l1 l2 k0) else ((f3_y0Of S c l2).bind fun r_3 => (f3_y1Of S c l1).bind fun r_4 => if (r_4 : Int32) < r_3 then (f3_areBeside_b62 S c l1 l2 k0) else (f3_areBeside_b63 S c l1 l2 k0 1))
def f3_areBeside_b30 (S : St) (c : Nat) (l1 : Int32) (l2 : Int32) : Option (Int32) := f3_areBeside_b31 S c l1 l2 0
def f3_areBeside (S : St) (c : Nat) (p1 : Int32) (p2 : Int32) : Option (Int32) := (f3_x0Of S c p1).bind fun r_1 => (f3_x1Of S c p2).bind fun r_2 => if (r_2 : Int32) < r_1 then (f3_areBeside_b30 S c p1 p2) else ((f3_x0Of S c p2).bind fun r_3 => (f3_x1Of S c p1).bind fun r_4 => if (r_4 : Int32) < r_3 then (f3_areBeside_b30 S c p1 p2) else (f3_areBeside_b31 S c p1 p2 1))
def f5_markOf_b17 (k0 : Int32) : Option (Int32) := some (k0)
def f5_markOf_b16 : Option (Int32) := f5_markOf_b17  0
def f5_markOf (p0 : Int32) : Option (Int32) := if (p0 : Int32) < 0 then (f5_markOf_b16  ) else (if (16 : Int32) ≤ p0 then (f5_markOf_b16  ) else (f5_markOf_b17  (((1 : Int32) <<< ((p0 : Int32) &&& 31)))))
def f3_ownersBeside_b35 (S : St) (c : Nat) (k : Int32 → Int32 → Option (Int32)) (l1 : Int32) (l2 : Int32) (l3 : Int32) : Option (Int32) := k l2 ((l3 + 1))
def f3_ownersBeside_b4 (S : St) (c : Nat) (l1 : Int32) : Nat → Int32 → Int32 → Option (Int32)
  | 0, _, _ => none
  | n + 1, l2, l3 => if (S.1 (6 * c + 0) : Int32) ≤ l3 then (some (l2)) else ((f3_areBeside S c l1 l3).bind fun r_1 => if (r_1 : Int32) = 0 then (f3_ownersBeside_b35 S c (f3_ownersBeside_b4 S c l1 n) l1 l2 l3) else ((f4_at S ((10 * c + 3)) l3).bind fun r_2 => (f5_markOf r_2).bind fun r_3 => nam (((l2 : Int32) ||| r_3)) fun x_4 => f3_ownersBeside_b35 S c (f3_ownersBeside_b4 S c l1 n) l1 x_4 l3))
def f3_ownersBeside (S : St) (c : Nat) (p1 : Int32) : Option (Int32) := f3_ownersBeside_b4 S c p1 fuelN 0 0
def f5_isMarked_b14 (k0 : Int32) : Option (Int32) := isz k0 <| some (k0)
def f5_isMarked (p0 : Int32) (p1 : Int32) : Option (Int32) := (f5_markOf p1).bind fun r_1 => if (((p0 : Int32) &&& r_1) : Int32) = 0 then (f5_isMarked_b14  0) else (f5_isMarked_b14  1)
def f3_pointsOf_b50 (S : St) (c : Nat) (k : Int32 → Int32 → Option (Int32)) (l1 : Int32) (l2 : Int32) (l3 : Int32) : Option (Int32) := k l2 ((l3 + 1))
def f3_pointsOf_b4 (S : St) (c : Nat) (l1 : Int32) : Nat → Int32 → Int32 → Option (Int32)
  | 0, _, _ => none
  | n + 1, l2, l3 => if (S.1 (6 * c + 0) : Int32) ≤ l3 then (some (l2)) else ((f4_at S ((10 * c + 3)) l3).bind fun r_1 => if (r_1 : Int32) = l1 then ((f4_at S ((10 * c + 2)) l3).bind fun r_2 => (f5_widthAt r_2).bind fun r_3 => (f4_at S ((10 * c + 2)) l3).bind fun r_4 => (f5_heightAt r_4).bind fun r_5 => nam ((l2 + (r_3 * r_5))) fun x_6 => f3_pointsOf_b50 S c (f3_pointsOf_b4 S c l1 n) l1 x_6 l3) else (f3_pointsOf_b50 S c (f3_pointsOf_b4 S c l1 n) l1 l2 l3))
def f3_pointsOf (S : St) (c : Nat) (p1 : Int32) : Option (Int32) := f3_pointsOf_b4 S c p1 fuelN 0 0
def f0_leastOf_b62 (S : St) (c : Nat) (k : Int32 → Int32 → Int32 → Option (Int32)) (l1 : Int32) (l2 : Int32) (l3 : Int32) (l4 : Int32) : Option (Int32) := k l2 l3 ((l4 + 1))
def f0_leastOf_b56 (S : St) (c : Nat) (k : Int32 → Int32 → Int32 → Option (Int32)) (l1 : Int32) (l4 : Int32) (l5 : Int32) : Option (Int32) := f0_leastOf_b62 S c k l1 l4 l5 l4
def f0_leastOf_b7 (S : St) (c : Nat) (l1 : Int32) : Nat → Int32 → Int32 → Int32 → Option (Int32)
  | 0, _, _, _ => none
  | n + 1, l2, l3, l4 => if (S.1 (6 * c + 1) : Int32) ≤ l4 then (some (l2)) else ((f0_isHere S c l4).bind fun r_1 => if (r_1 : Int32) = 0 then (f0_leastOf_b62 S c (f0_leastOf_b7 S c l1 n) l1 l2 l3 l4) else ((f5_isMarked l1 l4).bind fun r_2 => if (r_2 : Int32) = 0 then (f0_leastOf_b62 S c (f0_leastOf_b7 S c l1 n) l1 l2 l3 l4) else ((f3_pointsOf S c l4).bind fun r_3 => if (l2 : Int32) = (-1) then (f0_leastOf_b56 S c (f0_leastOf_b7 S c l1 n) l1 l4 r_3) else (if (l3 : Int32) ≤ r_3 then (f0_leastOf_b62 S c (f0_leastOf_b7 S c l1 n) l1 l2 l3 l4) else (f0_leastOf_b56 S c (f0_leastOf_b7 S c l1 n) l1 l4 r_3)))))
def f0_leastOf (S : St) (c : Nat) (p1 : Int32) : Option (Int32) := f0_leastOf_b7 S c p1 fuelN ((-1)) 0 0
def f3_giveTo (S : St) (c : Nat) (p1 : Int32) (p2 : Int32) : Option (St) := (f4_put S ((10 * c + 3)) p1 p2).bind fun S_1 => some (S_1)
def f3_remove (S : St) (c : Nat) (p1 : Int32) : Option (St) := nam ((S.1 (6 * c + 0) - 1)) fun x_1 => (f4_at S ((10 * c + 0)) x_1).bind fun r_2 => (f4_put S ((10 * c + 0)) p1 r_2).bind fun S_3 => (f4_at S_3 ((10 * c + 1)) x_1).bind fun r_4 => (f4_put S_3 ((10 * c + 1)) p1 r_4).bind fun S_5 => (f4_at S_5 ((10 * c + 2)) x_1).bind fun r_6 => (f4_put S_5 ((10 * c + 2)) p1 r_6).bind fun S_7 => (f4_at S_7 ((10 * c + 3)) x_1).bind fun r_8 => (f4_put S_7 ((10 * c + 3)) p1 r_8).bind fun S_9 => nam (sI S_9 (6 * c + 0) x_1) fun S_10 => some (S_10)
def f3_join (S : St) (c : Nat) (p1 : Int32) (p2 : Int32) (p3 : Int32) : Option (St) := (f4_at S ((10 * c + 0)) p2).bind fun r_1 => (f4_at S ((10 * c + 1)) p2).bind fun r_2 => (f4_at S ((10 * c + 2)) p2).bind fun r_3 => (f3_put S c p2 r_1 r_2 ((r_3 - 1)) p3).bind fun S_4 => (f3_remove S_4 c p1).bind fun S_5 => some (S_5)
def f0_giveAway_b74 (S : St) (c : Nat) : Option (St) := some (S)
def f0_giveAway (S : St) (c : Nat) (p1 : Int32) : Option (St) := (f3_otherHalf S c p1).bind fun r_1 => if (r_1 : Int32) = (-1) then ((f3_ownersBeside S c p1).bind fun r_5 => (f0_leastOf S c r_5).bind fun r_6 => (f3_giveTo S c p1 r_6).bind fun S_7 => nam (sI S_7 (6 * c + 5) ((S_7.1 (6 * c + 5) + 1))) fun S_8 => f0_giveAway_b74 S_8 c ) else ((f3_ownerOf S c r_1).bind fun r_2 => (f3_join S c p1 r_1 r_2).bind fun S_3 => nam (sI S_3 (6 * c + 4) ((S_3.1 (6 * c + 4) + 1))) fun S_4 => f0_giveAway_b74 S_4 c )
def f0_sendAway_b26 (c : Nat) (l1 : Int32) : Nat → St → Int32 → Option (St)
  | 0, _, _ => none
  | n + 1, S, l2 => if (181 : Int32) ≤ l2 then (some (S)) else ((f3_firstToGive S c l1).bind fun r_1 => if (r_1 : Int32) = (-1) then (some (S)) else ((f0_giveAway S c r_1).bind fun S_2 => f0_sendAway_b26 c l1 n S_2 ((l2 + 1))))
def f0_sendAway (S : St) (c : Nat) (p1 : Int32) : Option (St) := (f4_put S ((10 * c + 6)) p1 0).bind fun S_1 => (f0_campersHere S_1 c).bind fun r_2 => if (r_2 : Int32) = 0 then ((f3_joinAll S_1 c).bind fun S_3 => some (S_3)) else (f0_sendAway_b26 c p1 fuelN S_1 0)
def f0_passOn_b55 (S : St) (c : Nat) : Option (St) := some (S)
def f0_passOn (S : St) (c : Nat) (p1 : Int32) (p2 : Int32) : Option (St) := (f3_giveTo S c p1 p2).bind fun S_1 => (f3_otherHalf S_1 c p1).bind fun r_2 => if (r_2 : Int32) = (-1) then (f0_passOn_b55 S_1 c ) else ((f3_ownerOf S_1 c r_2).bind fun r_3 => if (r_3 : Int32) = p2 then ((f3_join S_1 c p1 r_2 p2).bind fun S_4 => nam (sI S_4 (6 * c + 4) ((S_4.1 (6 * c + 4) + 1))) fun S_5 => f0_passOn_b55 S_5 c ) else (f0_passOn_b55 S_1 c ))
def f3_outside_b21 (k0 : Int32) : Option (Int32) := some (k0)
def f3_outside (p0 : Int32) (p1 : Int32) (p2 : Int32) : Option (Int32) := if (p1 : Int32) ≤ p0 then (if (p0 : Int32) ≤ p2 then (f3_outside_b21  0) else (f3_outside_b21  ((p0 - p2)))) else (some ((p1 - p0)))
def f3_distance (S : St) (c : Nat) (p1 : Int32) (p2 : Int32) (p3 : Int32) : Option (Int32) := (f3_x0Of S c p1).bind fun r_1 => (f3_x1Of S c p1).bind fun r_2 => (f3_outside p2 r_1 r_2).bind fun r_3 => (f3_y0Of S c p1).bind fun r_4 => (f3_y1Of S c p1).bind fun r_5 => (f3_outside p3 r_4 r_5).bind fun r_6 => some ((r_3 + r_6))
def f3_isBetterStep_b48 (S : St) (c : Nat) (k0 : Int32) : Option (Int32) := isz k0 <| some (k0)
def f3_isBetterStep (S : St) (c : Nat) (p1 : Int32) (p2 : Int32) (p3 : Int32) (p4 : Int32) : Option (Int32) := (f3_distance S c p1 p3 p4).bind fun r_1 => (f3_distance S c p2 p3 p4).bind fun r_2 => if (r_1 : Int32) = r_2 then ((f3_isCornerLower S c p1 p2).bind fun r_3 => f3_isBetterStep_b48 S c r_3) else (if (r_2 : Int32) ≤ r_1 then (f3_isBetterStep_b48 S c 0) else (f3_isBetterStep_b48 S c 1))
def f3_nextToward_b48 (S : St) (c : Nat) (k : Int32 → Int32 → Option (Int32)) (l1 : Int32) (l2 : Int32) (l3 : Int32) (l4 : Int32) (l5 : Int32) : Option (Int32) := k l4 ((l5 + 1))
def f3_nextToward_b44 (S : St) (c : Nat) (k : Int32 → Int32 → Option (Int32)) (l1 : Int32) (l2 : Int32) (l3 : Int32) (l5 : Int32) : Option (Int32) := f3_nextToward_b48 S c k l1 l2 l3 l5 l5
def f3_nextToward_b6 (S : St) (c : Nat) (l1 : Int32) (l2 : Int32) (l3 : Int32) : Nat → Int32 → Int32 → Option (Int32)
  | 0, _, _ => none
  | n + 1, l4, l5 => if (S.1 (6 * c + 0) : Int32) ≤ l5 then (some (l4)) else ((f3_areBeside S c l1 l5).bind fun r_1 => if (r_1 : Int32) = 0 then (f3_nextToward_b48 S c (f3_nextToward_b6 S c l1 l2 l3 n) l1 l2 l3 l4 l5) else (if (l4 : Int32) = (-1) then (f3_nextToward_b44 S c (f3_nextToward_b6 S c l1 l2 l3 n) l1 l2 l3 l5) else ((f3_isBetterStep S c l5 l4 l2 l3).bind fun r_2 => if (r_2 : Int32) = 0 then (f3_nextToward_b48 S c (f3_nextToward_b6 S c l1 l2 l3 n) l1 l2 l3 l4 l5) else (f3_nextToward_b44 S c (f3_nextToward_b6 S c l1 l2 l3 n) l1 l2 l3 l5))))
def f3_nextToward (S : St) (c : Nat) (p1 : Int32) (p2 : Int32) (p3 : Int32) : Option (Int32) := f3_nextToward_b6 S c p1 p2 p3 fuelN ((-1)) 0
def f0_plotOnWay_b65 (S : St) (c : Nat) : Option (Int32) := some ((-1))
def f0_plotOnWay_b38 (S : St) (c : Nat) (l2 : Int32) (l3 : Int32) (l4 : Int32) : Nat → Int32 → Int32 → Option (Int32)
  | 0, _, _ => none
  | n + 1, l5, l6 => if (l4 : Int32) ≤ l6 then (some (l5)) else (if (l5 : Int32) = (-1) then (f0_plotOnWay_b65 S c ) else ((f3_has S c l5 l2 l3).bind fun r_1 => if (r_1 : Int32) = 0 then ((f3_nextToward S c l5 l2 l3).bind fun r_2 => f0_plotOnWay_b38 S c l2 l3 l4 n r_2 ((l6 + 1))) else (f0_plotOnWay_b65 S c )))
def f0_plotOnWay (S : St) (c : Nat) (p1 : Int32) (p2 : Int32) (p3 : Int32) (p4 : Int32) : Option (Int32) := if (p4 : Int32) < 181 then ((f4_at S ((10 * c + 4)) p1).bind fun r_1 => (f4_at S ((10 * c + 5)) p1).bind fun r_2 => (f3_find S c r_1 r_2).bind fun r_3 => f0_plotOnWay_b38 S c p2 p3 p4 fuelN r_3 0) else (some ((-1)))
def f0_isSong_b17 (S : St) (c : Nat) (k0 : Int32) : Option (Int32) := isz k0 <| some (k0)
def f0_isSong_b16 (S : St) (c : Nat) : Option (Int32) := f0_isSong_b17 S c 0
def f0_isSong (S : St) (c : Nat) (p1 : Int32) : Option (Int32) := if (p1 : Int32) < 0 then (f0_isSong_b16 S c ) else (if (S.1 (6 * c + 2) : Int32) ≤ p1 then (f0_isSong_b16 S c ) else (f0_isSong_b17 S c 1))
def f0_putSong (S : St) (c : Nat) (p1 : Int32) (p2 : Int32) (p3 : Int32) : Option (St) := (f4_put S ((10 * c + 7)) p1 p2).bind fun S_1 => (f4_put S_1 ((10 * c + 8)) p1 p3).bind fun S_2 => some (S_2)
def f0_addSong (S : St) (c : Nat) (p1 : Int32) (p2 : Int32) (p3 : Int32) : Option (Int32 × St) := nam (S.1 (6 * c + 2)) fun x_1 => (f4_put S ((10 * c + 9)) x_1 p3).bind fun S_2 => (f0_putSong S_2 c x_1 p1 p2).bind fun S_3 => nam (sI S_3 (6 * c + 2) ((x_1 + 1))) fun S_4 => some (x_1, S_4)
def f3_ownerAt (S : St) (c : Nat) (p1 : Int32) (p2 : Int32) : Option (Int32) := (f3_find S c p1 p2).bind fun r_1 => (f4_at S ((10 * c + 3)) r_1).bind fun r_2 => some (r_2)
def f0_ownerOfSong (S : St) (c : Nat) (p1 : Int32) : Option (Int32) := (f4_at S ((10 * c + 7)) p1).bind fun r_1 => (f4_at S ((10 * c + 8)) p1).bind fun r_2 => (f3_ownerAt S c r_1 r_2).bind fun r_3 => some (r_3)
def f0_songsOf_b24 (S : St) (c : Nat) (k : Int32 → Int32 → Option (Int32)) (l1 : Int32) (l2 : Int32) (l3 : Int32) : Option (Int32) := k l2 ((l3 + 1))
def f0_songsOf_b4 (S : St) (c : Nat) (l1 : Int32) : Nat → Int32 → Int32 → Option (Int32)
  | 0, _, _ => none
  | n + 1, l2, l3 => if (S.1 (6 * c + 2) : Int32) ≤ l3 then (some (l2)) else ((f0_ownerOfSong S c l3).bind fun r_1 => if (r_1 : Int32) = l1 then (f0_songsOf_b24 S c (f0_songsOf_b4 S c l1 n) l1 ((l2 + 1)) l3) else (f0_songsOf_b24 S c (f0_songsOf_b4 S c l1 n) l1 l2 l3))
def f0_songsOf (S : St) (c : Nat) (p1 : Int32) : Option (Int32) := f0_songsOf_b4 S c p1 fuelN 0 0
def f0_songsInPart_b45 (S : St) (c : Nat) (k : Int32 → Int32 → Option (Int32)) (l1 : Int32) (l2 : Int32) (l3 : Int32) (l4 : Int32) (l5 : Int32) : Option (Int32) := k l4 ((l5 + 1))
def f0_songsInPart_b6 (S : St) (c : Nat) (l1 : Int32) (l2 : Int32) (l3 : Int32) : Nat → Int32 → Int32 → Option (Int32)
  | 0, _, _ => none
  | n + 1, l4, l5 => if (S.1 (6 * c + 2) : Int32) ≤ l5 then (some (l4)) else ((f4_at S ((10 * c + 7)) l5).bind fun r_1 => (f4_at S ((10 * c + 8)) l5).bind fun r_2 => (f0_isInPart r_1 r_2 l1 l2 l3).bind fun r_3 => if (r_3 : Int32) = 0 then (f0_songsInPart_b45 S c (f0_songsInPart_b6 S c l1 l2 l3 n) l1 l2 l3 l4 l5) else (f0_songsInPart_b45 S c (f0_songsInPart_b6 S c l1 l2 l3 n) l1 l2 l3 ((l4 + 1)) l5))
def f0_songsInPart (S : St) (c : Nat) (p1 : Int32) (p2 : Int32) (p3 : Int32) : Option (Int32) := f0_songsInPart_b6 S c p1 p2 p3 fuelN 0 0
def f0_loudnessOfSong (S : St) (c : Nat) (p1 : Int32) : Option (UInt32) := (f4_at S ((10 * c + 9)) p1).bind fun r_1 => fnn (FP.fdiv ((FP.i2f r_1)) 1092616192) fun x_2 => some (x_2)
def f0_loudnessOf_b29 (S : St) (c : Nat) (k : UInt32 → Int32 → Option (UInt32)) (l1 : Int32) (l2 : UInt32) (l3 : Int32) : Option (UInt32) := k l2 ((l3 + 1))
def f0_loudnessOf_b4 (S : St) (c : Nat) (l1 : Int32) : Nat → UInt32 → Int32 → Option (UInt32)
  | 0, _, _ => none
  | n + 1, l2, l3 => if (S.1 (6 * c + 2) : Int32) ≤ l3 then (some (l2)) else ((f0_ownerOfSong S c l3).bind fun r_1 => if (r_1 : Int32) = l1 then ((f0_loudnessOfSong S c l3).bind fun r_2 => fnn (FP.fadd l2 r_2) fun x_3 => f0_loudnessOf_b29 S c (f0_loudnessOf_b4 S c l1 n) l1 x_3 l3) else (f0_loudnessOf_b29 S c (f0_loudnessOf_b4 S c l1 n) l1 l2 l3))
def f0_loudnessOf (S : St) (c : Nat) (p1 : Int32) : Option (UInt32) := f0_loudnessOf_b4 S c p1 fuelN FP.fconst0 0
def f1_append_b19 (S : St) : Option (Int32 × St) := some (0, S)
def f1_append (S : St) (p1 : Int32) : Option (Int32 × St) := if (S.1 45 : Int32) < 0 then (f1_append_b19 S ) else (if (S.1 45 : Int32) < (Int32.ofNat 60) then (sto 60 (S.1 45) <| nam (sA S 70 (Int32.toNatClampNeg (S.1 45)) ((vp_nar .char p1))) fun S_1 => nam (sI S_1 45 ((S_1.1 45 + 1))) fun S_2 => some (1, S_2)) else (f1_append_b19 S ))
def f1_at_b23 (S : St) (k0 : Int32) : Option (Int32) := isc k0 <| some (k0)
def f1_at_b22 (S : St) : Option (Int32) := f1_at_b23 S 0
def f1_at (S : St) (p1 : Int32) : Option (Int32) := if (p1 : Int32) < 0 then (f1_at_b22 S ) else (if ((Int32.ofNat 60) : Int32) ≤ p1 then (f1_at_b22 S ) else (arr (S.2 70) 60 p1 fun x_1 => f1_at_b23 S x_1))
def f1_isDigit_b17 (k0 : Int32) : Option (Int32) := isz k0 <| some (k0)
def f1_isDigit_b16 : Option (Int32) := f1_isDigit_b17  0
def f1_isDigit (p0 : Int32) : Option (Int32) := if (p0 : Int32) < 48 then (f1_isDigit_b16  ) else (if (57 : Int32) < p0 then (f1_isDigit_b16  ) else (f1_isDigit_b17  1))
def f1_extended_b29 (k0 : Int32) : Option (Int32) := some (k0)
def f1_extended_b24 : Option (Int32) := f1_extended_b29  ((-1))
def f1_extended (p0 : Int32) (p1 : Int32) : Option (Int32) := if (p0 : Int32) = (-1) then (some (p1)) else (nam (((p0 * 10) + p1)) fun x_1 => if (p0 : Int32) = 0 then (f1_extended_b24  ) else (if (x_1 : Int32) < 64 then (f1_extended_b29  x_1) else (f1_extended_b24  )))
def f1_fault_b84 (S : St) (k : Int32 → Int32 → Int32 → Option (Int32)) (l1 : Int32) (l2 : Int32) (l3 : Int32) : Option (Int32) := k l1 l2 ((l3 + 1))
def f1_fault_b78 (S : St) (k : Int32 → Int32 → Int32 → Option (Int32)) (l1 : Int32) (l3 : Int32) (k0 : Int32) : Option (Int32) := f1_fault_b84 S k l1 k0 l3
def f1_fault_b82 (S : St) (l3 : Int32) : Option (Int32) := some (l3)
def f1_fault_b64 (S : St) (k : Int32 → Int32 → Int32 → Option (Int32)) (l2 : Int32) (l3 : Int32) (k0 : Int32) (k1 : Int32) : Option (Int32) := if (k1 : Int32) = k0 then (if (l2 : Int32) = 0 then (f1_fault_b78 S k ((-1)) l3 1) else (f1_fault_b78 S k ((-1)) l3 0)) else (f1_fault_b82 S l3)
def f1_fault_b107 (S : St) (k0 : Int32) : Option (Int32) := some (k0)
def f1_fault_b103 (S : St) : Option (Int32) := f1_fault_b107 S (S.1 45)
def f1_fault_b6 (S : St) : Nat → Int32 → Int32 → Int32 → Option (Int32)
  | 0, _, _, _ => none
  | n + 1, l1, l2, l3 => if (S.1 45 : Int32) ≤ l3 then (if (l2 : Int32) = 0 then (f1_fault_b103 S ) else (if (l1 : Int32) = (-1) then (f1_fault_b103 S ) else (f1_fault_b107 S ((-1))))) else ((f1_at S l3).bind fun r_1 => (f1_isDigit r_1).bind fun r_2 => if (r_2 : Int32) = 0 then (if (l1 : Int32) = (-1) then (f1_fault_b82 S l3) else (if (l2 : Int32) = 0 then (f1_fault_b64 S (f1_fault_b6 S n) l2 l3 44 r_1) else (f1_fault_b64 S (f1_fault_b6 S n) l2 l3 59 r_1))) else ((f1_extended l1 ((r_1 - 48))).bind fun r_3 => if (r_3 : Int32) = (-1) then (some (l3)) else (f1_fault_b84 S (f1_fault_b6 S n) r_3 l2 l3)))
def f1_fault (S : St) : Option (Int32) := f1_fault_b6 S fuelN ((-1)) 0 0
def f1_campers_b25 (S : St) (k : Int32 → Int32 → Option (Int32)) (l1 : Int32) (l2 : Int32) : Option (Int32) := k l1 ((l2 + 1))
def f1_campers_b4 (S : St) : Nat → Int32 → Int32 → Option (Int32)
  | 0, _, _ => none
  | n + 1, l1, l2 => if (S.1 45 : Int32) ≤ l2 then (some (l1)) else ((f1_at S l2).bind fun r_1 => if (r_1 : Int32) = 59 then (f1_campers_b25 S (f1_campers_b4 S n) ((l1 + 1)) l2) else (f1_campers_b25 S (f1_campers_b4 S n) l1 l2))
def f1_campers (S : St) : Option (Int32) := f1_campers_b4 S fuelN 1 0
def f1_number_b54 (S : St) (k : Int32 → Int32 → Int32 → Option (Int32)) (l1 : Int32) (l2 : Int32) (l3 : Int32) (l4 : Int32) : Option (Int32) := k l2 l3 ((l4 + 1))
def f1_number_b7 (S : St) (l1 : Int32) : Nat → Int32 → Int32 → Int32 → Option (Int32)
  | 0, _, _, _ => none
  | n + 1, l2, l3, l4 => if (S.1 45 : Int32) ≤ l4 then (some (l3)) else ((f1_at S l4).bind fun r_1 => (f1_isDigit r_1).bind fun r_2 => if (r_2 : Int32) = 0 then (f1_number_b54 S (f1_number_b7 S l1 n) l1 ((l2 + 1)) l3 l4) else (if (l2 : Int32) = l1 then (nam (((l3 * 10) + (r_1 - 48))) fun x_3 => f1_number_b54 S (f1_number_b7 S l1 n) l1 l2 x_3 l4) else (f1_number_b54 S (f1_number_b7 S l1 n) l1 l2 l3 l4)))
def f1_number (S : St) (p1 : Int32) : Option (Int32) := f1_number_b7 S p1 fuelN 0 0 0
def f3_manyBeside_b24 (S : St) (c : Nat) (k : Int32 → Int32 → Option (Int32)) (l1 : Int32) (l2 : Int32) (l3 : Int32) : Option (Int32) := k l2 ((l3 + 1))
def f3_manyBeside_b4 (S : St) (c : Nat) (l1 : Int32) : Nat → Int32 → Int32 → Option (Int32)
  | 0, _, _ => none
  | n + 1, l2, l3 => if (S.1 (6 * c + 0) : Int32) ≤ l3 then (some (l2)) else ((f3_areBeside S c l1 l3).bind fun r_1 => if (r_1 : Int32) = 0 then (f3_manyBeside_b24 S c (f3_manyBeside_b4 S c l1 n) l1 l2 l3) else (f3_manyBeside_b24 S c (f3_manyBeside_b4 S c l1 n) l1 ((l2 + 1)) l3))
def f3_manyBeside (S : St) (c : Nat) (p1 : Int32) : Option (Int32) := f3_manyBeside_b4 S c p1 fuelN 0 0
def fJ6_bitCount_0f7a4 (p0 : Int32) : Option (Int32) := nam ((p0 - (((((p0 : Int32)).toUInt32 >>> (Int32.toUInt32 1 &&& Int32.toUInt32 31)).toInt32 : Int32) &&& 1431655765))) fun x_1 => nam ((((x_1 : Int32) &&& 858993459) + (((((x_1 : Int32)).toUInt32 >>> (Int32.toUInt32 2 &&& Int32.toUInt32 31)).toInt32 : Int32) &&& 858993459))) fun x_2 => nam ((((x_2 + (((x_2 : Int32)).toUInt32 >>> (Int32.toUInt32 4 &&& Int32.toUInt32 31)).toInt32) : Int32) &&& 252645135)) fun x_3 => nam ((x_3 + (((x_3 : Int32)).toUInt32 >>> (Int32.toUInt32 8 &&& Int32.toUInt32 31)).toInt32)) fun x_4 => nam ((x_4 + (((x_4 : Int32)).toUInt32 >>> (Int32.toUInt32 16 &&& Int32.toUInt32 31)).toInt32)) fun x_5 => some (((x_5 : Int32) &&& 63))
def f3_neighboursOf_b32 (S : St) (c : Nat) (k : Int32 → Int32 → Option (Int32)) (l1 : Int32) (l2 : Int32) (l3 : Int32) : Option (Int32) := k l2 ((l3 + 1))
def f3_neighboursOf_b4 (S : St) (c : Nat) (l1 : Int32) : Nat → Int32 → Int32 → Option (Int32)
  | 0, _, _ => none
  | n + 1, l2, l3 => if (S.1 (6 * c + 0) : Int32) ≤ l3 then ((f5_markOf l1).bind fun r_1 => (fJ6_bitCount_0f7a4 (((l2 : Int32) &&& ((r_1 : Int32) ^^^ (-1))))).bind fun r_2 => some (r_2)) else ((f4_at S ((10 * c + 3)) l3).bind fun r_3 => if (r_3 : Int32) = l1 then ((f3_ownersBeside S c l3).bind fun r_4 => nam (((l2 : Int32) ||| r_4)) fun x_5 => f3_neighboursOf_b32 S c (f3_neighboursOf_b4 S c l1 n) l1 x_5 l3) else (f3_neighboursOf_b32 S c (f3_neighboursOf_b4 S c l1 n) l1 l2 l3))
def f3_neighboursOf (S : St) (c : Nat) (p1 : Int32) : Option (Int32) := f3_neighboursOf_b4 S c p1 fuelN 0 0
def f3_rankOf_b43 (S : St) (c : Nat) (k : Int32 → Int32 → Option (Int32)) (l1 : Int32) (l2 : Int32) (l3 : Int32) : Option (Int32) := k l2 ((l3 + 1))
def f3_rankOf_b4 (S : St) (c : Nat) (l1 : Int32) : Nat → Int32 → Int32 → Option (Int32)
  | 0, _, _ => none
  | n + 1, l2, l3 => if (S.1 (6 * c + 0) : Int32) ≤ l3 then (some (l2)) else ((f4_at S ((10 * c + 3)) l3).bind fun r_1 => (f4_at S ((10 * c + 3)) l1).bind fun r_2 => if (r_1 : Int32) = r_2 then ((f3_isCornerLower S c l3 l1).bind fun r_3 => if (r_3 : Int32) = 0 then (f3_rankOf_b43 S c (f3_rankOf_b4 S c l1 n) l1 l2 l3) else (f3_rankOf_b43 S c (f3_rankOf_b4 S c l1 n) l1 ((l2 + 1)) l3)) else (f3_rankOf_b43 S c (f3_rankOf_b4 S c l1 n) l1 l2 l3))
def f3_rankOf (S : St) (c : Nat) (p1 : Int32) : Option (Int32) := f3_rankOf_b4 S c p1 fuelN 0 0
def f3_ranked_b33 (S : St) (c : Nat) (k : Int32 → Option (Int32)) (l1 : Int32) (l2 : Int32) (l3 : Int32) : Option (Int32) := k ((l3 + 1))
def f3_ranked_b2 (S : St) (c : Nat) (l1 : Int32) (l2 : Int32) : Nat → Int32 → Option (Int32)
  | 0, _ => none
  | n + 1, l3 => if (S.1 (6 * c + 0) : Int32) ≤ l3 then (some ((-1))) else ((f4_at S ((10 * c + 3)) l3).bind fun r_1 => if (r_1 : Int32) = l1 then ((f3_rankOf S c l3).bind fun r_2 => if (r_2 : Int32) = l2 then (some (l3)) else (f3_ranked_b33 S c (f3_ranked_b2 S c l1 l2 n) l1 l2 l3)) else (f3_ranked_b33 S c (f3_ranked_b2 S c l1 l2 n) l1 l2 l3))
def f3_ranked (S : St) (c : Nat) (p1 : Int32) (p2 : Int32) : Option (Int32) := f3_ranked_b2 S c p1 p2 fuelN 0
def f3_greatestDepth_b4 (S : St) (c : Nat) : Nat → Int32 → Int32 → Option (Int32)
  | 0, _, _ => none
  | n + 1, l1, l2 => if (S.1 (6 * c + 0) : Int32) ≤ l2 then (some (l1)) else ((f4_at S ((10 * c + 2)) l2).bind fun r_1 => nam ((if l1 < r_1 then r_1 else l1)) fun x_2 => f3_greatestDepth_b4 S c n x_2 ((l2 + 1)))
def f3_greatestDepth (S : St) (c : Nat) : Option (Int32) := f3_greatestDepth_b4 S c fuelN 0 0
def f3_leastDepth_b5 (S : St) (c : Nat) : Nat → Int32 → Int32 → Option (Int32)
  | 0, _, _ => none
  | n + 1, l1, l2 => if (S.1 (6 * c + 0) : Int32) ≤ l2 then (some (l1)) else ((f4_at S ((10 * c + 2)) l2).bind fun r_1 => nam ((if r_1 < l1 then r_1 else l1)) fun x_2 => f3_leastDepth_b5 S c n x_2 ((l2 + 1)))
def f3_leastDepth (S : St) (c : Nat) : Option (Int32) := f3_leastDepth_b5 S c fuelN 12 0
def f5_isPoint_b25 (k0 : Int32) : Option (Int32) := isz k0 <| some (k0)
def f5_isPoint_b24 : Option (Int32) := f5_isPoint_b25  0
def f5_isPoint (p0 : Int32) (p1 : Int32) : Option (Int32) := if (p0 : Int32) < 0 then (f5_isPoint_b24  ) else (if (64 : Int32) ≤ p0 then (f5_isPoint_b24  ) else (if (p1 : Int32) < 0 then (f5_isPoint_b24  ) else (if (64 : Int32) ≤ p1 then (f5_isPoint_b24  ) else (f5_isPoint_b25  1))))
def f5_toldOwnerOf_b20 (S : St) (k0 : Int32) : Option (Int32) := some (k0)
def f5_toldOwnerOf (S : St) (p1 : Int32) : Option (Int32) := (f0_ownerOfSong S 0 p1).bind fun r_1 => if (r_1 : Int32) = (-1) then (f5_toldOwnerOf_b20 S 100) else (f5_toldOwnerOf_b20 S r_1)
def f5_type_b23 (S : St) (k0 : Int32) : Option (Int32 × St) := some (k0, S)
def f5_type (S : St) (p1 : Int32) : Option (Int32 × St) := bd2 (f1_append S p1) fun r_1 S_2 => if (r_1 : Int32) = 0 then (f5_type_b23 S_2 ((-3))) else (f5_type_b23 S_2 (S_2.1 45))
def f5_clearText (S : St) : Option (Int32 × St) := nam (S.1 45) fun x_1 => nam (sI S 45 0) fun S_2 => some (x_1, S_2)
def f5_keep (S : St) : Option (Int32 × St) := (f0_copyFrom S 2 0).bind fun S_1 => nam (sI S_1 42 1) fun S_2 => (f0_campersHere S_2 0).bind fun r_3 => some (r_3, S_2)
def f5_orNone_b11 (k0 : Int32) : Option (Int32) := some (k0)
def f5_orNone (p0 : Int32) : Option (Int32) := if (p0 : Int32) = (-1) then (f5_orNone_b11  ((-5))) else (f5_orNone_b11  p0)
def f5_plot (S : St) (p1 : Int32) (p2 : Int32) (p3 : Int32) : Option (Int32) := (f5_isPoint p1 p2).bind fun r_1 => if (r_1 : Int32) = 0 then (some ((-1))) else ((f3_find S 0 p1 p2).bind fun r_2 => if (Int32.toInt p3 < 0 ∨ 6 < Int32.toInt p3) then (some ((-2))) else if (p3 : Int32) = 0 then ((f3_ownerOf S 0 r_2).bind fun r_3 => (f5_orNone r_3).bind fun r_4 => some (r_4)) else if (p3 : Int32) = 1 then ((f3_depthOf S 0 r_2).bind fun r_5 => some (r_5)) else if (p3 : Int32) = 2 then ((f3_x0Of S 0 r_2).bind fun r_6 => some (r_6)) else if (p3 : Int32) = 3 then ((f3_y0Of S 0 r_2).bind fun r_7 => some (r_7)) else if (p3 : Int32) = 4 then ((f3_x1Of S 0 r_2).bind fun r_8 => some (r_8)) else if (p3 : Int32) = 5 then ((f3_y1Of S 0 r_2).bind fun r_9 => some (r_9)) else if (p3 : Int32) = 6 then ((f3_manyBeside S 0 r_2).bind fun r_10 => some (r_10)) else none)
def f5_bitsOf_b67 (l1 : UInt32) (l2 : Int32) : Option (Int32) := fnn (FP.fsub l1 FP.fconst1) fun x_1 => fnn (FP.fmul x_1 1258291200) fun x_2 => some ((((l2 : Int32) <<< ((23 : Int32) &&& 31)) + (FP.f2i x_2)))
def f5_bitsOf_b42 : Nat → UInt32 → Int32 → Int32 → Option (Int32)
  | 0, _, _, _ => none
  | n + 1, l1, l2, l3 => if (127 : Int32) ≤ l3 then (f5_bitsOf_b67  l1 l2) else (if (0 : Int32) ≤ (Op.cmpValue (FP.fcmp l1 FP.fconst1) CmpOp.g) then (f5_bitsOf_b67  l1 l2) else (fnn (FP.fmul l1 FP.fconst2) fun x_1 => f5_bitsOf_b42  n x_1 ((l2 + (-1))) ((l3 + 1))))
def f5_bitsOf_b40 (l1 : UInt32) (l2 : Int32) : Option (Int32) := f5_bitsOf_b42  fuelN l1 l2 0
def f5_bitsOf_b15 : Nat → UInt32 → Int32 → Int32 → Option (Int32)
  | 0, _, _, _ => none
  | n + 1, l1, l2, l3 => if (127 : Int32) ≤ l3 then (f5_bitsOf_b40  l1 l2) else (if ((Op.cmpValue (FP.fcmp l1 FP.fconst2) CmpOp.l) : Int32) < 0 then (f5_bitsOf_b40  l1 l2) else (fnn (FP.fdiv l1 FP.fconst2) fun x_1 => f5_bitsOf_b15  n x_1 ((l2 + 1)) ((l3 + 1))))
def f5_bitsOf (p0 : UInt32) : Option (Int32) := if (0 : Int32) < (Op.cmpValue (FP.fcmp p0 FP.fconst0) CmpOp.g) then (f5_bitsOf_b15  fuelN p0 127 0) else (some (0))
def f5_camper (S : St) (p1 : Int32) (p2 : Int32) : Option (Int32) := (f0_isHere S 0 p1).bind fun r_1 => if (r_1 : Int32) = 0 then (some ((-1))) else (if (Int32.toInt p2 < 0 ∨ 6 < Int32.toInt p2) then (some ((-2))) else if (p2 : Int32) = 0 then ((f4_at S ((10 * 0 + 4)) p1).bind fun r_2 => some (r_2)) else if (p2 : Int32) = 1 then ((f4_at S ((10 * 0 + 5)) p1).bind fun r_3 => some (r_3)) else if (p2 : Int32) = 2 then ((f3_manyOf S 0 p1).bind fun r_4 => some (r_4)) else if (p2 : Int32) = 3 then ((f3_pointsOf S 0 p1).bind fun r_5 => some (r_5)) else if (p2 : Int32) = 4 then ((f0_songsOf S 0 p1).bind fun r_6 => some (r_6)) else if (p2 : Int32) = 5 then ((f3_neighboursOf S 0 p1).bind fun r_7 => some (r_7)) else if (p2 : Int32) = 6 then ((f0_loudnessOf S 0 p1).bind fun r_8 => (f5_bitsOf r_8).bind fun r_9 => some (r_9)) else none)
def f5_plotOf_b101 (S : St) (k0 : Int32) : Option (Int32) := some (k0)
def f5_plotOf_b26 (S : St) : Option (Int32) := some ((-2))
def f5_plotOf (S : St) (p1 : Int32) (p2 : Int32) (p3 : Int32) : Option (Int32) := (f0_isHere S 0 p1).bind fun r_1 => if (r_1 : Int32) = 0 then (some ((-1))) else (if (p2 : Int32) < 0 then (f5_plotOf_b26 S ) else (if (p3 : Int32) < 0 then (f5_plotOf_b26 S ) else (if (p3 : Int32) ≤ 2 then ((f3_ranked S 0 p1 p2).bind fun r_2 => if (r_2 : Int32) = (-1) then (some ((-5))) else (if (p3 : Int32) = 0 then ((f3_x0Of S 0 r_2).bind fun r_5 => some (r_5)) else (if (p3 : Int32) = 1 then ((f3_y0Of S 0 r_2).bind fun r_4 => f5_plotOf_b101 S r_4) else ((f3_depthOf S 0 r_2).bind fun r_3 => f5_plotOf_b101 S r_3)))) else (f5_plotOf_b26 S ))))
def f5_song (S : St) (p1 : Int32) (p2 : Int32) : Option (Int32) := (f0_isSong S 0 p1).bind fun r_1 => if (r_1 : Int32) = 0 then (some ((-1))) else (if (Int32.toInt p2 < 0 ∨ 3 < Int32.toInt p2) then (some ((-2))) else if (p2 : Int32) = 0 then ((f4_at S ((10 * 0 + 7)) p1).bind fun r_2 => some (r_2)) else if (p2 : Int32) = 1 then ((f4_at S ((10 * 0 + 8)) p1).bind fun r_3 => some (r_3)) else if (p2 : Int32) = 2 then ((f0_loudnessOfSong S 0 p1).bind fun r_4 => (f5_bitsOf r_4).bind fun r_5 => some (r_5)) else if (p2 : Int32) = 3 then ((f5_toldOwnerOf S p1).bind fun r_6 => some (r_6)) else none)
def f5_way_b114 (S : St) (k0 : Int32) : Option (Int32) := some (k0)
def f5_way_b37 (S : St) : Option (Int32) := some ((-2))
def f5_way_b19 (S : St) : Option (Int32) := some ((-1))
def f5_way (S : St) (p1 : Int32) (p2 : Int32) (p3 : Int32) (p4 : Int32) (p5 : Int32) : Option (Int32) := (f0_isHere S 0 p1).bind fun r_1 => if (r_1 : Int32) = 0 then (f5_way_b19 S ) else ((f5_isPoint p2 p3).bind fun r_2 => if (r_2 : Int32) = 0 then (f5_way_b19 S ) else (if (p4 : Int32) < 0 then (f5_way_b37 S ) else (if (p5 : Int32) < 0 then (f5_way_b37 S ) else (if (p5 : Int32) ≤ 2 then ((f0_plotOnWay S 0 p1 p2 p3 p4).bind fun r_3 => if (r_3 : Int32) = (-1) then (some ((-5))) else (if (p5 : Int32) = 0 then ((f3_ownerOf S 0 r_3).bind fun r_6 => some (r_6)) else (if (p5 : Int32) = 1 then ((f3_x0Of S 0 r_3).bind fun r_5 => f5_way_b114 S r_5) else ((f3_y0Of S 0 r_3).bind fun r_4 => f5_way_b114 S r_4)))) else (f5_way_b37 S )))))
def f5_would_b42 (S : St) (l4 : Int32) : Option (Int32) := some (l4)
def f5_would_b19 (S : St) : Option (Int32) := some ((-2))
def f5_would (S : St) (p1 : Int32) (p2 : Int32) (p3 : Int32) : Option (Int32) := (f5_isPoint p1 p2).bind fun r_1 => if (r_1 : Int32) = 0 then (some ((-1))) else (if (p3 : Int32) < 0 then (f5_would_b19 S ) else (if (p3 : Int32) ≤ 2 then ((f0_depthForNewcomer S 0 p1 p2).bind fun r_2 => if (r_2 : Int32) < 0 then (f5_would_b42 S r_2) else (if (p3 : Int32) = 0 then (f5_would_b42 S r_2) else (if (p3 : Int32) = 1 then ((f0_songsInPart S 0 p1 p2 r_2).bind fun r_5 => some (r_5)) else ((f3_ownerAt S 0 p1 p2).bind fun r_3 => (f5_orNone r_3).bind fun r_4 => some (r_4))))) else (f5_would_b19 S )))
def f5_loudest_b52 (S : St) (k : Int32 → UInt32 → Int32 → Option (Int32)) (l1 : Int32) (l2 : UInt32) (l3 : Int32) : Option (Int32) := k l1 l2 ((l3 + 1))
def f5_loudest_b8 (S : St) : Nat → Int32 → UInt32 → Int32 → Option (Int32)
  | 0, _, _, _ => none
  | n + 1, l1, l2, l3 => if (S.1 (6 * 0 + 1) : Int32) ≤ l3 then (some (l1)) else ((f0_isHere S 0 l3).bind fun r_1 => if (r_1 : Int32) = 0 then (f5_loudest_b52 S (f5_loudest_b8 S n) l1 l2 l3) else ((f0_loudnessOf S 0 l3).bind fun r_2 => if ((Op.cmpValue (FP.fcmp r_2 l2) CmpOp.l) : Int32) ≤ 0 then (f5_loudest_b52 S (f5_loudest_b8 S n) l1 l2 l3) else (f5_loudest_b52 S (f5_loudest_b8 S n) l3 r_2 l3)))
def f5_loudest (S : St) : Option (Int32) := f5_loudest_b8 S fuelN ((-5)) 3212836864 0
def f5_share (S : St) (p1 : Int32) : Option (UInt32) := (f0_isHere S 0 p1).bind fun r_1 => if (r_1 : Int32) = 0 then (some (3212836864)) else ((f3_pointsOf S 0 p1).bind fun r_2 => fnn (FP.fdiv ((FP.i2f r_2)) 1166016512) fun x_3 => some (x_3))
def f5_count (S : St) (p1 : Int32) : Option (Int32) := if (Int32.toInt p1 < 0 ∨ 11 < Int32.toInt p1) then (some ((-2))) else if (p1 : Int32) = 0 then ((f0_campersHere S 0).bind fun r_1 => some (r_1)) else if (p1 : Int32) = 1 then (some (S.1 (6 * 0 + 1))) else if (p1 : Int32) = 2 then (some (S.1 (6 * 0 + 0))) else if (p1 : Int32) = 3 then (some (S.1 (6 * 0 + 2))) else if (p1 : Int32) = 4 then ((f3_greatestDepth S 0).bind fun r_2 => some (r_2)) else if (p1 : Int32) = 5 then ((f3_leastDepth S 0).bind fun r_3 => some (r_3)) else if (p1 : Int32) = 6 then ((f0_campersWithMorePlots S 0).bind fun r_4 => some (r_4)) else if (p1 : Int32) = 7 then (some (S.1 (6 * 0 + 3))) else if (p1 : Int32) = 8 then (some (S.1 (6 * 0 + 4))) else if (p1 : Int32) = 9 then (some (S.1 (6 * 0 + 5))) else if (p1 : Int32) = 10 then (some (S.1 44)) else if (p1 : Int32) = 11 then (some (S.1 45)) else none
def fJxf58ca_isNaN_12338_b11 (k0 : Int32) : Option (Int32) := isz k0 <| some (k0)
def fJxf58ca_isNaN_12338 (p0 : UInt32) : Option (Int32) := if ((Op.cmpValue (FP.fcmp p0 p0) CmpOp.l) : Int32) = 0 then (fJxf58ca_isNaN_12338_b11  0) else (fJxf58ca_isNaN_12338_b11  1)
def fJxf58ca_floatToIntBits_5c35a (p0 : UInt32) : Option (Int32) := (fJxf58ca_isNaN_12338 p0).bind fun r_1 => if (r_1 : Int32) = 0 then (some ((UInt32.toInt32 p0))) else (some (2143289344))
def f6_in_b15 (k0 : Int32) : Option (Int32) := isz k0 <| some (k0)
def f6_in_b14 : Option (Int32) := f6_in_b15  0
def f6_in (p0 : Int32) (p1 : Int32) (p2 : Int32) : Option (Int32) := if (p0 : Int32) < p1 then (f6_in_b14  ) else (if (p2 : Int32) < p0 then (f6_in_b14  ) else (f6_in_b15  1))
def f6_isPoint_b25 (k0 : Int32) : Option (Int32) := isz k0 <| some (k0)
def f6_isPoint_b24 : Option (Int32) := f6_isPoint_b25  0
def f6_isPoint (p0 : Int32) (p1 : Int32) : Option (Int32) := (f6_in p0 0 63).bind fun r_1 => if (r_1 : Int32) = 0 then (f6_isPoint_b24  ) else ((f6_in p1 0 63).bind fun r_2 => if (r_2 : Int32) = 0 then (f6_isPoint_b24  ) else (f6_isPoint_b25  1))
def f6_ofCamper (M : St) (p1 : Int32) (p2 : Int32) : Option (Int32) := arr (M.2 0) (mlen 0) (((6 + (3 * p1)) + p2)) fun x_1 => some (x_1)
def f6_layCamper (M : St) (p1 : Int32) (p2 : Int32) (p3 : Int32) : Option (St) := sto (mlen 0) (((6 + (3 * p1)) + p2)) <| nam (sA M 0 (Int32.toNatClampNeg (((6 + (3 * p1)) + p2))) p3) fun M_1 => some (M_1)
def f6_isHere_b25 (M : St) (k0 : Int32) : Option (Int32) := isz k0 <| some (k0)
def f6_isHere_b24 (M : St) : Option (Int32) := f6_isHere_b25 M 0
def f6_isHere (M : St) (p1 : Int32) : Option (Int32) := (f6_in p1 0 15).bind fun r_1 => if (r_1 : Int32) = 0 then (f6_isHere_b24 M ) else ((f6_ofCamper M p1 0).bind fun r_2 => if (r_2 : Int32) = 1 then (f6_isHere_b25 M 1) else (f6_isHere_b24 M ))
def f6_ofPlot (M : St) (p1 : Int32) (p2 : Int32) : Option (Int32) := arr (M.2 0) (mlen 0) (((54 + (4 * p1)) + p2)) fun x_1 => some (x_1)
def f6_layPlot (M : St) (p1 : Int32) (p2 : Int32) (p3 : Int32) (p4 : Int32) (p5 : Int32) : Option (St) := sto (mlen 0) (((54 + (4 * p1)) + 0)) <| nam (sA M 0 (Int32.toNatClampNeg (((54 + (4 * p1)) + 0))) p2) fun M_1 => sto (mlen 0) (((54 + (4 * p1)) + 1)) <| nam (sA M_1 0 (Int32.toNatClampNeg (((54 + (4 * p1)) + 1))) p3) fun M_2 => sto (mlen 0) (((54 + (4 * p1)) + 2)) <| nam (sA M_2 0 (Int32.toNatClampNeg (((54 + (4 * p1)) + 2))) p4) fun M_3 => sto (mlen 0) (((54 + (4 * p1)) + 3)) <| nam (sA M_3 0 (Int32.toNatClampNeg (((54 + (4 * p1)) + 3))) p5) fun M_4 => some (M_4)
def f6_ofSong (M : St) (p1 : Int32) (p2 : Int32) : Option (Int32) := arr (M.2 0) (mlen 0) (((826 + (3 * p1)) + p2)) fun x_1 => some (x_1)
def f6_records_b51 : Nat → St → Int32 → Option (St)
  | 0, _, _ => none
  | n + 1, M, l1 => if (886 : Int32) ≤ l1 then (nam (sI M 1 ((M.1 1 + 1))) fun M_1 => some (M_1)) else (arr (M.2 0) (mlen 0) l1 fun x_2 => sto (mlen 2) (((886 * M.1 1) + l1)) <| nam (sA M 2 (Int32.toNatClampNeg (((886 * M.1 1) + l1))) x_2) fun M_3 => f6_records_b51  n M_3 ((l1 + 1)))
def f6_records_b49 (M : St) : Option (St) := f6_records_b51  fuelN M 0
def f6_records_b10 : Nat → St → Int32 → Option (St)
  | 0, _, _ => none
  | n + 1, M, l1 => if (2658 : Int32) ≤ l1 then (nam (sI M 1 ((M.1 1 - 1))) fun M_1 => f6_records_b49 M_1 ) else (arr (M.2 2) (mlen 2) ((l1 + 886)) fun x_2 => sto (mlen 2) l1 <| nam (sA M 2 (Int32.toNatClampNeg l1) x_2) fun M_3 => f6_records_b10  n M_3 ((l1 + 1)))
def f6_records (M : St) : Option (St) := if (M.1 1 : Int32) = 4 then (f6_records_b10  fuelN M 0) else (f6_records_b49 M )
def f6_putAside_b2 : Nat → St → Int32 → Option (St)
  | 0, _, _ => none
  | n + 1, M, l1 => if (886 : Int32) ≤ l1 then (some (M)) else (arr (M.2 0) (mlen 0) l1 fun x_1 => sto (mlen 1) l1 <| nam (sA M 1 (Int32.toNatClampNeg l1) x_1) fun M_2 => f6_putAside_b2  n M_2 ((l1 + 1)))
def f6_putAside (M : St) : Option (St) := f6_putAside_b2  fuelN M 0
def f6_takeBack_b2 : Nat → St → Int32 → Option (St)
  | 0, _, _ => none
  | n + 1, M, l1 => if (886 : Int32) ≤ l1 then (some (M)) else (arr (M.2 1) (mlen 1) l1 fun x_1 => sto (mlen 0) l1 <| nam (sA M 0 (Int32.toNatClampNeg l1) x_1) fun M_2 => f6_takeBack_b2  n M_2 ((l1 + 1)))
def f6_takeBack (M : St) : Option (St) := f6_takeBack_b2  fuelN M 0
def f6_wide (p0 : Int32) : Option (Int32) := some (((64 : Int32) >>> ((((p0 + 1) / 2) : Int32) &&& 31)))
def f6_high (p0 : Int32) : Option (Int32) := some (((64 : Int32) >>> (((p0 / 2) : Int32) &&& 31)))
def f6_lastX (M : St) (p1 : Int32) : Option (Int32) := (f6_ofPlot M p1 1).bind fun r_1 => (f6_ofPlot M p1 0).bind fun r_2 => (f6_wide r_2).bind fun r_3 => some (((r_1 + r_3) - 1))
def f6_lastY (M : St) (p1 : Int32) : Option (Int32) := (f6_ofPlot M p1 2).bind fun r_1 => (f6_ofPlot M p1 0).bind fun r_2 => (f6_high r_2).bind fun r_3 => some (((r_1 + r_3) - 1))
def f6_area (M : St) (p1 : Int32) : Option (Int32) := (f6_ofPlot M p1 0).bind fun r_1 => (f6_wide r_1).bind fun r_2 => (f6_ofPlot M p1 0).bind fun r_3 => (f6_high r_3).bind fun r_4 => some ((r_2 * r_4))
def f6_has_b41 (M : St) (k0 : Int32) : Option (Int32) := isz k0 <| some (k0)
def f6_has_b40 (M : St) : Option (Int32) := f6_has_b41 M 0
def f6_has (M : St) (p1 : Int32) (p2 : Int32) (p3 : Int32) : Option (Int32) := (f6_ofPlot M p1 1).bind fun r_1 => (f6_lastX M p1).bind fun r_2 => (f6_in p2 r_1 r_2).bind fun r_3 => if (r_3 : Int32) = 0 then (f6_has_b40 M ) else ((f6_ofPlot M p1 2).bind fun r_4 => (f6_lastY M p1).bind fun r_5 => (f6_in p3 r_4 r_5).bind fun r_6 => if (r_6 : Int32) = 0 then (f6_has_b40 M ) else (f6_has_b41 M 1))
def f6_plotAt_b2 (M : St) (l1 : Int32) (l2 : Int32) : Nat → Int32 → Option (Int32)
  | 0, _ => none
  | n + 1, l3 => (f6_has M l3 l1 l2).bind fun r_1 => if (r_1 : Int32) = 0 then (f6_plotAt_b2 M l1 l2 n ((l3 + 1))) else (some (l3))
def f6_plotAt (M : St) (p1 : Int32) (p2 : Int32) : Option (Int32) := f6_plotAt_b2 M p1 p2 fuelN 0
def f6_overlap_b15 (k0 : Int32) : Option (Int32) := isz k0 <| some (k0)
def f6_overlap_b14 : Option (Int32) := f6_overlap_b15  0
def f6_overlap (p0 : Int32) (p1 : Int32) (p2 : Int32) (p3 : Int32) : Option (Int32) := if (p3 : Int32) < p0 then (f6_overlap_b14  ) else (if (p1 : Int32) < p2 then (f6_overlap_b14  ) else (f6_overlap_b15  1))
def f6_touch_b155 (M : St) (k0 : Int32) : Option (Int32) := isz k0 <| some (k0)
def f6_touch_b150 (M : St) : Option (Int32) := f6_touch_b155 M 1
def f6_touch_b154 (M : St) : Option (Int32) := f6_touch_b155 M 0
def f6_touch_b140 (M : St) (l4 : Int32) (l6 : Int32) : Option (Int32) := if (l4 : Int32) = 0 then (f6_touch_b154 M ) else (if (l6 : Int32) = 0 then (f6_touch_b154 M ) else (f6_touch_b150 M ))
def f6_touch_b75 (M : St) (l1 : Int32) (l2 : Int32) (l3 : Int32) (k0 : Int32) : Option (Int32) := (f6_ofPlot M l1 2).bind fun r_1 => (f6_lastY M l1).bind fun r_2 => (f6_ofPlot M l2 2).bind fun r_3 => (f6_lastY M l2).bind fun r_4 => (f6_overlap r_1 r_2 r_3 r_4).bind fun r_5 => (f6_ofPlot M l1 1).bind fun r_6 => (f6_lastX M l1).bind fun r_7 => (f6_ofPlot M l2 1).bind fun r_8 => (f6_lastX M l2).bind fun r_9 => (f6_overlap r_6 r_7 r_8 r_9).bind fun r_10 => if (l3 : Int32) = 0 then (f6_touch_b140 M k0 r_10) else (if (r_5 : Int32) = 0 then (f6_touch_b140 M k0 r_10) else (f6_touch_b150 M ))
def f6_touch_b70 (M : St) (l1 : Int32) (l2 : Int32) (l3 : Int32) : Option (Int32) := f6_touch_b75 M l1 l2 l3 1
def f6_touch_b37 (M : St) (l1 : Int32) (l2 : Int32) (k0 : Int32) : Option (Int32) := (f6_lastY M l1).bind fun r_1 => (f6_ofPlot M l2 2).bind fun r_2 => if ((r_1 + 1) : Int32) = r_2 then (f6_touch_b70 M l1 l2 k0) else ((f6_lastY M l2).bind fun r_3 => (f6_ofPlot M l1 2).bind fun r_4 => if ((r_3 + 1) : Int32) = r_4 then (f6_touch_b70 M l1 l2 k0) else (f6_touch_b75 M l1 l2 k0 0))
def f6_touch_b32 (M : St) (l1 : Int32) (l2 : Int32) : Option (Int32) := f6_touch_b37 M l1 l2 1
def f6_touch (M : St) (p1 : Int32) (p2 : Int32) : Option (Int32) := (f6_lastX M p1).bind fun r_1 => (f6_ofPlot M p2 1).bind fun r_2 => if ((r_1 + 1) : Int32) = r_2 then (f6_touch_b32 M p1 p2) else ((f6_lastX M p2).bind fun r_3 => (f6_ofPlot M p1 1).bind fun r_4 => if ((r_3 + 1) : Int32) = r_4 then (f6_touch_b32 M p1 p2) else (f6_touch_b37 M p1 p2 0))
def f6_isAhead_b50 (M : St) (k0 : Int32) : Option (Int32) := isz k0 <| some (k0)
def f6_isAhead (M : St) (p1 : Int32) (p2 : Int32) : Option (Int32) := (f6_ofPlot M p1 1).bind fun r_1 => (f6_ofPlot M p2 1).bind fun r_2 => nam ((r_1 - r_2)) fun x_3 => if (x_3 : Int32) = 0 then ((f6_ofPlot M p1 2).bind fun r_4 => (f6_ofPlot M p2 2).bind fun r_5 => if (r_5 : Int32) ≤ r_4 then (f6_isAhead_b50 M 0) else (f6_isAhead_b50 M 1)) else (if (0 : Int32) ≤ x_3 then (f6_isAhead_b50 M 0) else (f6_isAhead_b50 M 1))
def f6_halves_b93 (M : St) (l1 : Int32) (k0 : Int32) (k1 : Int32) (k2 : Int32) (k3 : Int32) : Option (St) := (f6_ofPlot M l1 3).bind fun r_1 => (f6_layPlot M k3 k2 k1 k0 r_1).bind fun M_2 => arr (M_2.2 0) (mlen 0) 1 fun x_3 => sto (mlen 0) 1 <| nam (sA M_2 0 (Int32.toNatClampNeg 1) ((x_3 + 1))) fun M_4 => arr (M_4.2 0) (mlen 0) 3 fun x_5 => sto (mlen 0) 3 <| nam (sA M_4 0 (Int32.toNatClampNeg 3) ((x_5 + 1))) fun M_6 => some (M_6)
def f6_halves_b76 (M : St) (l1 : Int32) (l2 : Int32) (l4 : Int32) (l5 : Int32) (k0 : Int32) (k1 : Int32) (k2 : Int32) : Option (St) := if (l5 : Int32) = 0 then ((f6_high l2).bind fun r_1 => f6_halves_b93 M l1 ((l4 + r_1)) k0 k1 k2) else (f6_halves_b93 M l1 l4 k0 k1 k2)
def f6_halves_b36 (M : St) (l1 : Int32) (l2 : Int32) (l3 : Int32) (l4 : Int32) (k0 : Int32) : Option (St) := (f6_ofPlot M l1 3).bind fun r_1 => (f6_layPlot M l1 l2 l3 l4 r_1).bind fun M_2 => arr (M_2.2 0) (mlen 0) 1 fun x_3 => if (k0 : Int32) = 0 then (f6_halves_b76 M_2 l1 l2 l4 k0 l3 l2 x_3) else ((f6_wide l2).bind fun r_4 => f6_halves_b76 M_2 l1 l2 l4 k0 ((l3 + r_4)) l2 x_3)
def f6_halves (M : St) (p1 : Int32) : Option (St) := (f6_ofPlot M p1 0).bind fun r_1 => nam ((r_1 + 1)) fun x_2 => (f6_ofPlot M p1 1).bind fun r_3 => (f6_ofPlot M p1 2).bind fun r_4 => if ((x_2 - x_2 / 2 * 2) : Int32) = 1 then (f6_halves_b36 M p1 x_2 r_3 r_4 1) else (f6_halves_b36 M p1 x_2 r_3 r_4 0)
def f6_otherHalf_b122 (M : St) (k : Int32 → Option (Int32)) (l2 : Int32) (l3 : Int32) (l4 : Int32) (l5 : Int32) : Option (Int32) := k ((l5 + 1))
def f6_otherHalf_b74 (M : St) (l2 : Int32) (l3 : Int32) (l4 : Int32) : Nat → Int32 → Option (Int32)
  | 0, _ => none
  | n + 1, l5 => arr (M.2 0) (mlen 0) 1 fun x_1 => if (x_1 : Int32) ≤ l5 then (some ((-5))) else ((f6_ofPlot M l5 0).bind fun r_2 => if (r_2 : Int32) = l2 then ((f6_ofPlot M l5 1).bind fun r_3 => if (r_3 : Int32) = l3 then ((f6_ofPlot M l5 2).bind fun r_4 => if (r_4 : Int32) = l4 then (some (l5)) else (f6_otherHalf_b122 M (f6_otherHalf_b74 M l2 l3 l4 n) l2 l3 l4 l5)) else (f6_otherHalf_b122 M (f6_otherHalf_b74 M l2 l3 l4 n) l2 l3 l4 l5)) else (f6_otherHalf_b122 M (f6_otherHalf_b74 M l2 l3 l4 n) l2 l3 l4 l5))
def f6_otherHalf_b69 (M : St) (l2 : Int32) (l3 : Int32) (k0 : Int32) : Option (Int32) := f6_otherHalf_b74 M l2 l3 k0 fuelN 0
def f6_otherHalf_b41 (M : St) (l1 : Int32) (l2 : Int32) (k0 : Int32) : Option (Int32) := if ((l2 - l2 / 2 * 2) : Int32) = 1 then ((f6_ofPlot M l1 2).bind fun r_3 => f6_otherHalf_b69 M l2 k0 r_3) else ((f6_ofPlot M l1 2).bind fun r_1 => (f6_high l2).bind fun r_2 => f6_otherHalf_b69 M l2 k0 (((r_1 : Int32) ^^^ r_2)))
def f6_otherHalf (M : St) (p1 : Int32) : Option (Int32) := (f6_ofPlot M p1 0).bind fun r_1 => if (r_1 : Int32) = 0 then (some ((-5))) else (if ((r_1 - r_1 / 2 * 2) : Int32) = 1 then ((f6_ofPlot M p1 1).bind fun r_3 => (f6_wide r_1).bind fun r_4 => f6_otherHalf_b41 M p1 r_1 (((r_3 : Int32) ^^^ r_4))) else ((f6_ofPlot M p1 1).bind fun r_2 => f6_otherHalf_b41 M p1 r_1 r_2))
def f6_joins_b27 (M : St) (l3 : Int32) (l4 : Int32) (k0 : Int32) : Option (St) := (f6_ofPlot M l4 0).bind fun r_1 => (f6_ofPlot M l4 1).bind fun r_2 => (f6_ofPlot M l4 2).bind fun r_3 => (f6_layPlot M l4 ((r_1 - 1)) r_2 r_3 l3).bind fun M_4 => arr (M_4.2 0) (mlen 0) 1 fun x_5 => sto (mlen 0) 1 <| nam (sA M_4 0 (Int32.toNatClampNeg 1) ((x_5 - 1))) fun M_6 => arr (M_6.2 0) (mlen 0) 1 fun x_7 => (f6_ofPlot M_6 x_7 0).bind fun r_8 => (f6_ofPlot M_6 x_7 1).bind fun r_9 => (f6_ofPlot M_6 x_7 2).bind fun r_10 => (f6_ofPlot M_6 x_7 3).bind fun r_11 => (f6_layPlot M_6 k0 r_8 r_9 r_10 r_11).bind fun M_12 => (f6_layPlot M_12 x_7 0 0 0 0).bind fun M_13 => arr (M_13.2 0) (mlen 0) 4 fun x_14 => sto (mlen 0) 4 <| nam (sA M_13 0 (Int32.toNatClampNeg 4) ((x_14 + 1))) fun M_15 => some (M_15)
def f6_joins_b14 (M : St) (l1 : Int32) (l2 : Int32) (l3 : Int32) (k0 : Int32) : Option (St) := if (k0 : Int32) = l1 then (f6_joins_b27 M l3 k0 l2) else (f6_joins_b27 M l3 k0 l1)
def f6_joins (M : St) (p1 : Int32) (p2 : Int32) (p3 : Int32) : Option (St) := (f6_isAhead M p1 p2).bind fun r_1 => if (r_1 : Int32) = 0 then (f6_joins_b14 M p1 p2 p3 p2) else (f6_joins_b14 M p1 p2 p3 p1)
def f6_areaOf_b36 (M : St) (k : Int32 → Int32 → Option (Int32)) (l1 : Int32) (l3 : Int32) (k0 : Int32) (k1 : Int32) : Option (Int32) := nam ((k1 + k0)) fun x_1 => k x_1 ((l3 + 1))
def f6_areaOf_b4 (M : St) (l1 : Int32) : Nat → Int32 → Int32 → Option (Int32)
  | 0, _, _ => none
  | n + 1, l2, l3 => arr (M.2 0) (mlen 0) 1 fun x_1 => if (x_1 : Int32) ≤ l3 then (some (l2)) else ((f6_ofPlot M l3 3).bind fun r_2 => if (r_2 : Int32) = (l1 + 1) then ((f6_area M l3).bind fun r_3 => f6_areaOf_b36 M (f6_areaOf_b4 M l1 n) l1 l3 r_3 l2) else (f6_areaOf_b36 M (f6_areaOf_b4 M l1 n) l1 l3 0 l2))
def f6_areaOf (M : St) (p1 : Int32) : Option (Int32) := f6_areaOf_b4 M p1 fuelN 0 0
def f6_touches_b54 (M : St) (k : Int32 → Int32 → Option (Int32)) (l1 : Int32) (l2 : Int32) (l4 : Int32) (k0 : Int32) : Option (Int32) := k k0 ((l4 + 1))
def f6_touches_b49 (M : St) (k : Int32 → Int32 → Option (Int32)) (l1 : Int32) (l2 : Int32) (l4 : Int32) : Option (Int32) := f6_touches_b54 M k l1 l2 l4 1
def f6_touches_b53 (M : St) (k : Int32 → Int32 → Option (Int32)) (l1 : Int32) (l2 : Int32) (l4 : Int32) : Option (Int32) := f6_touches_b54 M k l1 l2 l4 0
def f6_touches_b5 (M : St) (l1 : Int32) (l2 : Int32) : Nat → Int32 → Int32 → Option (Int32)
  | 0, _, _ => none
  | n + 1, l3, l4 => arr (M.2 0) (mlen 0) 1 fun x_1 => if (x_1 : Int32) ≤ l4 then (isz l3 <| some (l3)) else (if (l3 : Int32) = 0 then (if (l4 : Int32) = l1 then (f6_touches_b53 M (f6_touches_b5 M l1 l2 n) l1 l2 l4) else ((f6_ofPlot M l4 3).bind fun r_2 => if (r_2 : Int32) = (l2 + 1) then ((f6_touch M l1 l4).bind fun r_3 => if (r_3 : Int32) = 0 then (f6_touches_b53 M (f6_touches_b5 M l1 l2 n) l1 l2 l4) else (f6_touches_b49 M (f6_touches_b5 M l1 l2 n) l1 l2 l4)) else (f6_touches_b53 M (f6_touches_b5 M l1 l2 n) l1 l2 l4))) else (f6_touches_b49 M (f6_touches_b5 M l1 l2 n) l1 l2 l4))
def f6_touches (M : St) (p1 : Int32) (p2 : Int32) : Option (Int32) := f6_touches_b5 M p1 p2 fuelN 0 0
def f6_onField_b4 (M : St) : Nat → Int32 → Int32 → Option (Int32)
  | 0, _, _ => none
  | n + 1, l1, l2 => if (16 : Int32) ≤ l2 then (some (l1)) else ((f6_ofCamper M l2 0).bind fun r_1 => nam ((l1 + r_1)) fun x_2 => f6_onField_b4 M n x_2 ((l2 + 1)))
def f6_onField (M : St) : Option (Int32) := f6_onField_b4 M fuelN 0 0
def f6_refuses_b92 (M : St) (k0 : Int32) : Option (Int32) := some (k0)
def f6_refuses_b86 (M : St) : Option (Int32) := f6_refuses_b92 M ((-4))
def f6_refuses_b91 (M : St) : Option (Int32) := f6_refuses_b92 M 0
def f6_refuses_b63 (M : St) (l3 : Int32) (l4 : Int32) (k0 : Int32) : Option (Int32) := if (l4 : Int32) < 0 then (f6_refuses_b91 M ) else (if (k0 : Int32) = 0 then ((f6_ofPlot M l3 0).bind fun r_1 => if (r_1 : Int32) = 12 then (f6_refuses_b86 M ) else (f6_refuses_b91 M )) else (f6_refuses_b86 M ))
def f6_refuses_b62 (M : St) (l3 : Int32) (l4 : Int32) : Option (Int32) := f6_refuses_b63 M l3 l4 0
def f6_refuses (M : St) (p1 : Int32) (p2 : Int32) : Option (Int32) := arr (M.2 0) (mlen 0) 0 fun x_1 => if (x_1 : Int32) = 16 then (some ((-3))) else ((f6_plotAt M p1 p2).bind fun r_2 => (f6_ofPlot M r_2 3).bind fun r_3 => nam ((r_3 - 1)) fun x_4 => if (x_4 : Int32) < 0 then (f6_refuses_b62 M r_2 x_4) else ((f6_ofCamper M x_4 1).bind fun r_5 => if (r_5 : Int32) = p1 then ((f6_ofCamper M x_4 2).bind fun r_6 => if (r_6 : Int32) = p2 then (f6_refuses_b63 M r_2 x_4 1) else (f6_refuses_b62 M r_2 x_4)) else (f6_refuses_b62 M r_2 x_4)))
def f6_comes_b69 (l1 : Int32) (l2 : Int32) (l3 : Int32) (l5 : Int32) : Nat → St → Int32 → Int32 → Option (Int32 × St)
  | 0, _, _, _ => none
  | n + 1, M, l4, l6 => if (l6 : Int32) = 0 then (sto (mlen 0) (((54 + (4 * l4)) + 3)) <| nam (sA M 0 (Int32.toNatClampNeg (((54 + (4 * l4)) + 3))) ((l3 + 1))) fun M_1 => some (l3, M_1)) else ((f6_halves M l4).bind fun M_2 => (f6_plotAt M_2 l1 l2).bind fun r_3 => (f6_ofCamper M_2 l5 1).bind fun r_4 => (f6_ofCamper M_2 l5 2).bind fun r_5 => (f6_has M_2 r_3 r_4 r_5).bind fun r_6 => f6_comes_b69 l1 l2 l3 l5 n M_2 r_3 r_6)
def f6_comes_b67 (M : St) (l1 : Int32) (l2 : Int32) (l3 : Int32) (l4 : Int32) (l5 : Int32) (k0 : Int32) : Option (Int32 × St) := f6_comes_b69 l1 l2 l3 l5 fuelN M l4 k0
def f6_comes (M : St) (p1 : Int32) (p2 : Int32) : Option (Int32 × St) := arr (M.2 0) (mlen 0) 0 fun x_1 => arr (M.2 0) (mlen 0) 0 fun x_2 => sto (mlen 0) 0 <| nam (sA M 0 (Int32.toNatClampNeg 0) ((x_2 + 1))) fun M_3 => (f6_layCamper M_3 x_1 0 1).bind fun M_4 => (f6_layCamper M_4 x_1 1 p1).bind fun M_5 => (f6_layCamper M_5 x_1 2 p2).bind fun M_6 => (f6_plotAt M_6 p1 p2).bind fun r_7 => (f6_ofPlot M_6 r_7 3).bind fun r_8 => nam ((r_8 - 1)) fun x_9 => if (x_9 : Int32) < 0 then (f6_comes_b67 M_6 p1 p2 x_1 r_7 x_9 0) else (f6_comes_b67 M_6 p1 p2 x_1 r_7 x_9 1)
def f6_come (M : St) (p1 : Int32) (p2 : Int32) : Option (Int32 × St) := nam (sI M 0 0) fun M_1 => (f6_isPoint p1 p2).bind fun r_2 => if (r_2 : Int32) = 0 then (some ((-1), M_1)) else ((f6_refuses M_1 p1 p2).bind fun r_3 => if (r_3 : Int32) = 0 then ((f6_records M_1).bind fun M_4 => bd2 (f6_comes M_4 p1 p2) fun r_5 M_6 => some (r_5, M_6)) else (some (r_3, M_1)))
def f6_swapsAside_b2 : Nat → St → Int32 → Option (St)
  | 0, _, _ => none
  | n + 1, M, l1 => if (886 : Int32) ≤ l1 then (some (M)) else (arr (M.2 0) (mlen 0) l1 fun x_1 => arr (M.2 1) (mlen 1) l1 fun x_2 => sto (mlen 0) l1 <| nam (sA M 0 (Int32.toNatClampNeg l1) x_2) fun M_3 => sto (mlen 1) l1 <| nam (sA M_3 1 (Int32.toNatClampNeg l1) x_1) fun M_4 => f6_swapsAside_b2  n M_4 ((l1 + 1)))
def f6_swapsAside (M : St) : Option (St) := f6_swapsAside_b2  fuelN M 0
def f6_sign_b24 (M : St) (k0 : Int32) : Option (Int32) := some (k0)
def f6_sign (M : St) : Option (Int32) := if (M.1 3 : Int32) ≤ M.1 4 then (f6_sign_b24 M 0) else (arr (M.2 4) (mlen 4) (M.1 4) fun x_1 => f6_sign_b24 M x_1)
def f6_number_b124 (M : St) (l1 : Int32) : Option (Int32 × St) := some (l1, M)
def f6_number_b55 (M : St) (l1 : Int32) (k0 : Int32) (k1 : Int32) : Option (Int32 × St) := nam (sI M 4 ((k1 + k0))) fun M_1 => if (M_1.1 5 : Int32) = 0 then (f6_number_b124 M_1 l1) else (if (l1 : Int32) ≤ 0 then (f6_number_b124 M_1 l1) else ((f6_sign M_1).bind fun r_2 => (f6_in r_2 48 57).bind fun r_3 => if (r_3 : Int32) = 0 then (f6_number_b124 M_1 l1) else ((f6_sign M_1).bind fun r_4 => if (64 : Int32) ≤ (((10 * l1) + r_4) - 48) then (f6_number_b124 M_1 l1) else ((f6_sign M_1).bind fun r_5 => nam ((((10 * l1) + r_5) - 48)) fun x_6 => nam (sI M_1 4 ((M_1.1 4 + 1))) fun M_7 => f6_number_b124 M_7 x_6))))
def f6_number_b27 (M : St) (k0 : Int32) : Option (Int32 × St) := isz k0 <| nam (sI M 5 k0) fun M_1 => (f6_sign M_1).bind fun r_2 => nam ((r_2 - 48)) fun x_3 => if (M_1.1 5 : Int32) = 0 then (f6_number_b55 M_1 x_3 0 (M_1.1 4)) else (f6_number_b55 M_1 x_3 1 (M_1.1 4))
def f6_number_b26 (M : St) : Option (Int32 × St) := f6_number_b27 M 0
def f6_number (M : St) : Option (Int32 × St) := if (M.1 5 : Int32) = 0 then (f6_number_b26 M ) else ((f6_sign M).bind fun r_1 => (f6_in r_1 48 57).bind fun r_2 => if (r_2 : Int32) = 0 then (f6_number_b26 M ) else (f6_number_b27 M 1))
def f6_wants_b41 (M : St) (k0 : Int32) (k1 : Int32) : Option (St) := nam (sI M 4 ((k1 + k0))) fun M_1 => some (M_1)
def f6_wants_b21 (M : St) (k0 : Int32) : Option (St) := isz k0 <| nam (sI M 5 k0) fun M_1 => if (M_1.1 5 : Int32) = 0 then (f6_wants_b41 M_1 0 (M_1.1 4)) else (f6_wants_b41 M_1 1 (M_1.1 4))
def f6_wants_b20 (M : St) : Option (St) := f6_wants_b21 M 0
def f6_wants (M : St) (p1 : Int32) : Option (St) := if (M.1 5 : Int32) = 0 then (f6_wants_b20 M ) else ((f6_sign M).bind fun r_1 => if (r_1 : Int32) = p1 then (f6_wants_b21 M 1) else (f6_wants_b20 M ))
def f6_readsPoint_b49 (M : St) (k0 : Int32) (k1 : Int32) : Option (St) := nam (sI M 6 ((k1 + k0))) fun M_1 => some (M_1)
def f6_readsPoint (M : St) : Option (St) := bd2 (f6_number M) fun r_1 M_2 => sto (mlen 5) (M.1 6) <| nam (sA M_2 5 (Int32.toNatClampNeg (M.1 6)) r_1) fun M_3 => (f6_wants M_3 44).bind fun M_4 => bd2 (f6_number M_4) fun r_5 M_6 => sto (mlen 6) (M_4.1 6) <| nam (sA M_6 6 (Int32.toNatClampNeg (M_4.1 6)) r_5) fun M_7 => if (M_7.1 5 : Int32) = 0 then (f6_readsPoint_b49 M_7 0 (M_7.1 6)) else (f6_readsPoint_b49 M_7 1 (M_7.1 6))
def f6_reads_b73 (M : St) (k0 : Int32) : Option (Int32 × St) := some (k0, M)
def f6_reads_b57 (M : St) : Option (Int32 × St) := if (M.1 5 : Int32) = 0 then (f6_reads_b73 M (M.1 4)) else (f6_reads_b73 M ((-5)))
def f6_reads_b19 : Nat → St → Option (Int32 × St)
  | 0, _ => none
  | n + 1, M => if (M.1 5 : Int32) = 0 then (f6_reads_b57 M ) else (if (M.1 3 : Int32) ≤ M.1 4 then (f6_reads_b57 M ) else ((f6_wants M 59).bind fun M_1 => if (M_1.1 5 : Int32) = 0 then (f6_reads_b19  n M_1) else ((f6_readsPoint M_1).bind fun M_2 => f6_reads_b19  n M_2)))
def f6_reads (M : St) : Option (Int32 × St) := nam (sI M 4 0) fun M_1 => nam (sI M_1 5 1) fun M_2 => nam (sI M_2 6 0) fun M_3 => (f6_readsPoint M_3).bind fun M_4 => f6_reads_b19  fuelN M_4
def f6_comeAll_b27 : Nat → St → Int32 → Option (Int32 × St)
  | 0, _, _ => none
  | n + 1, M, l2 => if (M.1 6 : Int32) ≤ l2 then ((f6_swapsAside M).bind fun M_1 => (f6_records M_1).bind fun M_2 => (f6_swapsAside M_2).bind fun M_3 => some (M_3.1 6, M_3)) else (arr (M.2 5) (mlen 5) l2 fun x_4 => arr (M.2 6) (mlen 6) l2 fun x_5 => (f6_refuses M x_4 x_5).bind fun r_6 => if (r_6 : Int32) = 0 then (arr (M.2 5) (mlen 5) l2 fun x_7 => arr (M.2 6) (mlen 6) l2 fun x_8 => bd2 (f6_comes M x_7 x_8) fun r_9 M_10 => f6_comeAll_b27  n M_10 ((l2 + 1))) else ((f6_takeBack M).bind fun M_11 => some (r_6, M_11)))
def f6_comeAll (M : St) : Option (Int32 × St) := nam (sI M 0 0) fun M_1 => bd2 (f6_reads M_1) fun r_2 M_3 => if (r_2 : Int32) = (-5) then ((f6_putAside M_3).bind fun M_4 => f6_comeAll_b27  fuelN M_4 0) else (some (((-100) - r_2), M_3))
def f6_firstToGive_b77 (M : St) (k : Int32 → Int32 → Option (Int32)) (l1 : Int32) (l2 : Int32) (l3 : Int32) : Option (Int32) := k l2 ((l3 + 1))
def f6_firstToGive_b76 (M : St) (k : Int32 → Int32 → Option (Int32)) (l1 : Int32) (l3 : Int32) (k0 : Int32) : Option (Int32) := f6_firstToGive_b77 M k l1 k0 l3
def f6_firstToGive_b71 (M : St) (k : Int32 → Int32 → Option (Int32)) (l1 : Int32) (l3 : Int32) : Option (Int32) := f6_firstToGive_b76 M k l1 l3 l3
def f6_firstToGive_b75 (M : St) (k : Int32 → Int32 → Option (Int32)) (l1 : Int32) (l2 : Int32) (l3 : Int32) : Option (Int32) := f6_firstToGive_b76 M k l1 l3 l2
def f6_firstToGive_b50 (M : St) (k : Int32 → Int32 → Option (Int32)) (l1 : Int32) (l2 : Int32) (l3 : Int32) (k0 : Int32) : Option (Int32) := if (0 : Int32) < k0 then (f6_firstToGive_b71 M k l1 l3) else (if (k0 : Int32) = 0 then ((f6_isAhead M l3 l2).bind fun r_1 => if (r_1 : Int32) = 0 then (f6_firstToGive_b75 M k l1 l2 l3) else (f6_firstToGive_b71 M k l1 l3)) else (f6_firstToGive_b75 M k l1 l2 l3))
def f6_firstToGive_b5 (M : St) (l1 : Int32) : Nat → Int32 → Int32 → Option (Int32)
  | 0, _, _ => none
  | n + 1, l2, l3 => arr (M.2 0) (mlen 0) 1 fun x_1 => if (x_1 : Int32) ≤ l3 then (some (l2)) else ((f6_ofPlot M l3 3).bind fun r_2 => if (r_2 : Int32) = (l1 + 1) then (if (l2 : Int32) = (-5) then (f6_firstToGive_b50 M (f6_firstToGive_b5 M l1 n) l1 l2 l3 1) else ((f6_ofPlot M l3 0).bind fun r_3 => (f6_ofPlot M l2 0).bind fun r_4 => f6_firstToGive_b50 M (f6_firstToGive_b5 M l1 n) l1 l2 l3 ((r_3 - r_4)))) else (f6_firstToGive_b77 M (f6_firstToGive_b5 M l1 n) l1 l2 l3))
def f6_firstToGive (M : St) (p1 : Int32) : Option (Int32) := f6_firstToGive_b5 M p1 fuelN ((-5)) 0
def f6_smallestBeside_b76 (M : St) (k : Int32 → Int32 → Option (Int32)) (l1 : Int32) (l2 : Int32) (l4 : Int32) (k0 : Int32) : Option (Int32) := k k0 ((l4 + 1))
def f6_smallestBeside_b70 (M : St) (k : Int32 → Int32 → Option (Int32)) (l1 : Int32) (l2 : Int32) (l4 : Int32) : Option (Int32) := f6_smallestBeside_b76 M k l1 l2 l4 l4
def f6_smallestBeside_b75 (M : St) (k : Int32 → Int32 → Option (Int32)) (l1 : Int32) (l2 : Int32) (l3 : Int32) (l4 : Int32) : Option (Int32) := f6_smallestBeside_b76 M k l1 l2 l4 l3
def f6_smallestBeside_b43 (M : St) (k : Int32 → Int32 → Option (Int32)) (l1 : Int32) (l2 : Int32) (l3 : Int32) (l4 : Int32) (k0 : Int32) : Option (Int32) := if (k0 : Int32) = 0 then (f6_smallestBeside_b75 M k l1 l2 l3 l4) else (if (l3 : Int32) = (-5) then (f6_smallestBeside_b70 M k l1 l2 l4) else ((f6_areaOf M l4).bind fun r_1 => (f6_areaOf M l3).bind fun r_2 => if (r_2 : Int32) ≤ r_1 then (f6_smallestBeside_b75 M k l1 l2 l3 l4) else (f6_smallestBeside_b70 M k l1 l2 l4)))
def f6_smallestBeside_b42 (M : St) (k : Int32 → Int32 → Option (Int32)) (l1 : Int32) (l2 : Int32) (l3 : Int32) (l4 : Int32) : Option (Int32) := f6_smallestBeside_b43 M k l1 l2 l3 l4 0
def f6_smallestBeside_b6 (M : St) (l1 : Int32) (l2 : Int32) : Nat → Int32 → Int32 → Option (Int32)
  | 0, _, _ => none
  | n + 1, l3, l4 => if (16 : Int32) ≤ l4 then (some (l3)) else (if (l4 : Int32) = l2 then (f6_smallestBeside_b42 M (f6_smallestBeside_b6 M l1 l2 n) l1 l2 l3 l4) else ((f6_isHere M l4).bind fun r_1 => if (r_1 : Int32) = 0 then (f6_smallestBeside_b42 M (f6_smallestBeside_b6 M l1 l2 n) l1 l2 l3 l4) else ((f6_touches M l1 l4).bind fun r_2 => if (r_2 : Int32) = 0 then (f6_smallestBeside_b42 M (f6_smallestBeside_b6 M l1 l2 n) l1 l2 l3 l4) else (f6_smallestBeside_b43 M (f6_smallestBeside_b6 M l1 l2 n) l1 l2 l3 l4 1))))
def f6_smallestBeside (M : St) (p1 : Int32) (p2 : Int32) : Option (Int32) := f6_smallestBeside_b6 M p1 p2 fuelN ((-5)) 0
def f6_givesAway_b62 (M : St) : Option (St) := some (M)
def f6_givesAway (M : St) (p1 : Int32) (p2 : Int32) : Option (St) := (f6_otherHalf M p1).bind fun r_1 => (f6_smallestBeside M p1 p2).bind fun r_2 => if (r_1 : Int32) = (-5) then (sto (mlen 0) (((54 + (4 * p1)) + 3)) <| nam (sA M 0 (Int32.toNatClampNeg (((54 + (4 * p1)) + 3))) ((r_2 + 1))) fun M_3 => arr (M_3.2 0) (mlen 0) 5 fun x_4 => sto (mlen 0) 5 <| nam (sA M_3 0 (Int32.toNatClampNeg 5) ((x_4 + 1))) fun M_5 => f6_givesAway_b62 M_5 ) else ((f6_ofPlot M r_1 3).bind fun r_6 => (f6_joins M p1 r_1 r_6).bind fun M_7 => f6_givesAway_b62 M_7 )
def f6_leave_b57 (l1 : Int32) : Nat → St → Int32 → Option (Int32 × St)
  | 0, _, _ => none
  | n + 1, M, l2 => if (l2 : Int32) = (-5) then ((f6_onField M).bind fun r_1 => some (r_1, M)) else ((f6_givesAway M l2 l1).bind fun M_2 => (f6_firstToGive M_2 l1).bind fun r_3 => f6_leave_b57 l1 n M_2 r_3)
def f6_leave (M : St) (p1 : Int32) : Option (Int32 × St) := nam (sI M 0 0) fun M_1 => (f6_isHere M_1 p1).bind fun r_2 => if (r_2 : Int32) = 0 then (some ((-1), M_1)) else ((f6_records M_1).bind fun M_3 => (f6_layCamper M_3 p1 0 0).bind fun M_4 => (f6_onField M_4).bind fun r_5 => if (r_5 : Int32) = 0 then (sto (mlen 0) 1 <| nam (sA M_4 0 (Int32.toNatClampNeg 1) 1) fun M_7 => (f6_layPlot M_7 0 0 0 0 0).bind fun M_8 => some (0, M_8)) else ((f6_firstToGive M_4 p1).bind fun r_6 => f6_leave_b57 p1 fuelN M_4 r_6))
def f6_moveTent_b70 (M : St) (l1 : Int32) (l2 : Int32) (l3 : Int32) (l4 : Int32) : Option (Int32 × St) := (f6_records M).bind fun M_1 => (f6_layCamper M_1 l1 1 l2).bind fun M_2 => (f6_layCamper M_2 l1 2 l3).bind fun M_3 => (f6_ofPlot M_3 l4 0).bind fun r_4 => some (r_4, M_3)
def f6_moveTent_b21 (M : St) : Option (Int32 × St) := some ((-1), M)
def f6_moveTent (M : St) (p1 : Int32) (p2 : Int32) (p3 : Int32) : Option (Int32 × St) := nam (sI M 0 0) fun M_1 => (f6_isHere M_1 p1).bind fun r_2 => if (r_2 : Int32) = 0 then (f6_moveTent_b21 M_1 ) else ((f6_isPoint p2 p3).bind fun r_3 => if (r_3 : Int32) = 0 then (f6_moveTent_b21 M_1 ) else ((f6_plotAt M_1 p2 p3).bind fun r_4 => (f6_ofPlot M_1 r_4 3).bind fun r_5 => if (r_5 : Int32) = (p1 + 1) then ((f6_ofCamper M_1 p1 1).bind fun r_6 => if (r_6 : Int32) = p2 then ((f6_ofCamper M_1 p1 2).bind fun r_7 => if (r_7 : Int32) = p3 then (some ((-5), M_1)) else (f6_moveTent_b70 M_1 p1 p2 p3 r_4)) else (f6_moveTent_b70 M_1 p1 p2 p3 r_4)) else (some ((-4), M_1))))
def f6_handOver_b147 (M : St) (l5 : Int32) : Option (Int32 × St) := some (l5, M)
def f6_handOver_b75 (M : St) : Option (Int32 × St) := some ((-4), M)
def f6_handOver_b21 (M : St) : Option (Int32 × St) := some ((-1), M)
def f6_handOver (M : St) (p1 : Int32) (p2 : Int32) (p3 : Int32) : Option (Int32 × St) := nam (sI M 0 0) fun M_1 => (f6_isPoint p1 p2).bind fun r_2 => if (r_2 : Int32) = 0 then (f6_handOver_b21 M_1 ) else ((f6_isHere M_1 p3).bind fun r_3 => if (r_3 : Int32) = 0 then (f6_handOver_b21 M_1 ) else ((f6_plotAt M_1 p1 p2).bind fun r_4 => (f6_ofPlot M_1 r_4 3).bind fun r_5 => nam ((r_5 - 1)) fun x_6 => (f6_ofCamper M_1 x_6 1).bind fun r_7 => (f6_ofCamper M_1 x_6 2).bind fun r_8 => (f6_has M_1 r_4 r_7 r_8).bind fun r_9 => if (r_9 : Int32) = 0 then ((f6_touches M_1 r_4 p3).bind fun r_10 => if (r_10 : Int32) = 0 then (f6_handOver_b75 M_1 ) else (if (x_6 : Int32) = p3 then (some ((-5), M_1)) else ((f6_records M_1).bind fun M_11 => sto (mlen 0) (((54 + (4 * r_4)) + 3)) <| nam (sA M_11 0 (Int32.toNatClampNeg (((54 + (4 * r_4)) + 3))) ((p3 + 1))) fun M_12 => (f6_otherHalf M_12 r_4).bind fun r_13 => if (r_13 : Int32) = (-5) then (f6_handOver_b147 M_12 x_6) else ((f6_ofPlot M_12 r_13 3).bind fun r_14 => if (r_14 : Int32) = (p3 + 1) then ((f6_joins M_12 r_4 r_13 ((p3 + 1))).bind fun M_15 => f6_handOver_b147 M_15 x_6) else (f6_handOver_b147 M_12 x_6))))) else (f6_handOver_b75 M_1 )))
def f6_singer_b34 (M : St) (k0 : Int32) : Option (Int32) := some (k0)
def f6_singer (M : St) (p1 : Int32) : Option (Int32) := (f6_ofSong M p1 0).bind fun r_1 => (f6_ofSong M p1 1).bind fun r_2 => (f6_plotAt M r_1 r_2).bind fun r_3 => (f6_ofPlot M r_3 3).bind fun r_4 => if (r_4 : Int32) = 0 then (f6_singer_b34 M 100) else (f6_singer_b34 M ((r_4 - 1)))
def f6_loud (p0 : Int32) : Option (UInt32) := fnn (FP.fdiv ((FP.i2f p0)) 1092616192) fun x_1 => some (x_1)
def f6_lay (M : St) (p1 : Int32) (p2 : Int32) (p3 : Int32) : Option (Int32 × St) := nam (sI M 0 0) fun M_1 => (f6_isPoint p1 p2).bind fun r_2 => if (r_2 : Int32) = 0 then (some ((-1), M_1)) else ((f6_in p3 1 999).bind fun r_3 => if (r_3 : Int32) = 0 then (some ((-2), M_1)) else (arr (M_1.2 0) (mlen 0) 2 fun x_4 => if (x_4 : Int32) = 20 then (some ((-3), M_1)) else ((f6_records M_1).bind fun M_5 => arr (M_5.2 0) (mlen 0) 2 fun x_6 => sto (mlen 0) (((826 + (3 * x_6)) + 0)) <| nam (sA M_5 0 (Int32.toNatClampNeg (((826 + (3 * x_6)) + 0))) p1) fun M_7 => sto (mlen 0) (((826 + (3 * x_6)) + 1)) <| nam (sA M_7 0 (Int32.toNatClampNeg (((826 + (3 * x_6)) + 1))) p2) fun M_8 => sto (mlen 0) (((826 + (3 * x_6)) + 2)) <| nam (sA M_8 0 (Int32.toNatClampNeg (((826 + (3 * x_6)) + 2))) p3) fun M_9 => arr (M_9.2 0) (mlen 0) 2 fun x_10 => sto (mlen 0) 2 <| nam (sA M_9 0 (Int32.toNatClampNeg 2) ((x_10 + 1))) fun M_11 => some (x_6, M_11))))
def f6_isSong (M : St) (p1 : Int32) : Option (Int32) := arr (M.2 0) (mlen 0) 2 fun x_1 => (f6_in p1 0 ((x_1 - 1))).bind fun r_2 => isz r_2 <| some (r_2)
def f6_carry_b46 (M : St) (l1 : Int32) (l2 : Int32) (l3 : Int32) : Option (Int32 × St) := (f6_records M).bind fun M_1 => sto (mlen 0) (((826 + (3 * l1)) + 0)) <| nam (sA M_1 0 (Int32.toNatClampNeg (((826 + (3 * l1)) + 0))) l2) fun M_2 => sto (mlen 0) (((826 + (3 * l1)) + 1)) <| nam (sA M_2 0 (Int32.toNatClampNeg (((826 + (3 * l1)) + 1))) l3) fun M_3 => (f6_singer M_3 l1).bind fun r_4 => some (r_4, M_3)
def f6_carry_b21 (M : St) : Option (Int32 × St) := some ((-1), M)
def f6_carry (M : St) (p1 : Int32) (p2 : Int32) (p3 : Int32) : Option (Int32 × St) := nam (sI M 0 0) fun M_1 => (f6_isSong M_1 p1).bind fun r_2 => if (r_2 : Int32) = 0 then (f6_carry_b21 M_1 ) else ((f6_isPoint p2 p3).bind fun r_3 => if (r_3 : Int32) = 0 then (f6_carry_b21 M_1 ) else ((f6_ofSong M_1 p1 0).bind fun r_4 => if (r_4 : Int32) = p2 then ((f6_ofSong M_1 p1 1).bind fun r_5 => if (r_5 : Int32) = p3 then (some ((-5), M_1)) else (f6_carry_b46 M_1 p1 p2 p3)) else (f6_carry_b46 M_1 p1 p2 p3)))
def f6_type (M : St) (p1 : Int32) : Option (Int32 × St) := nam (sI M 0 0) fun M_1 => if (M_1.1 3 : Int32) = 60 then (some ((-3), M_1)) else (sto (mlen 4) (M_1.1 3) <| nam (sA M_1 4 (Int32.toNatClampNeg (M_1.1 3)) p1) fun M_2 => nam (sI M_2 3 ((M_2.1 3 + 1))) fun M_3 => some (M_3.1 3, M_3))
def f6_clearText (M : St) : Option (Int32 × St) := nam (sI M 0 0) fun M_1 => nam (M_1.1 3) fun x_2 => nam (sI M_1 3 0) fun M_3 => some (x_2, M_3)
def f6_undo_b27 : Nat → St → Int32 → Option (Int32 × St)
  | 0, _, _ => none
  | n + 1, M, l1 => if (886 : Int32) ≤ l1 then (some (M.1 1, M)) else (arr (M.2 2) (mlen 2) (((886 * M.1 1) + l1)) fun x_1 => sto (mlen 0) l1 <| nam (sA M 0 (Int32.toNatClampNeg l1) x_1) fun M_2 => f6_undo_b27  n M_2 ((l1 + 1)))
def f6_undo (M : St) : Option (Int32 × St) := nam (sI M 0 0) fun M_1 => if (M_1.1 1 : Int32) = 0 then (some ((-5), M_1)) else (nam (sI M_1 1 ((M_1.1 1 - 1))) fun M_2 => f6_undo_b27  fuelN M_2 0)
def f6_keep_b7 : Nat → St → Int32 → Option (Int32 × St)
  | 0, _, _ => none
  | n + 1, M, l1 => if (886 : Int32) ≤ l1 then (nam (sI M 2 1) fun M_1 => (f6_onField M_1).bind fun r_2 => some (r_2, M_1)) else (arr (M.2 0) (mlen 0) l1 fun x_3 => sto (mlen 3) l1 <| nam (sA M 3 (Int32.toNatClampNeg l1) x_3) fun M_4 => f6_keep_b7  n M_4 ((l1 + 1)))
def f6_keep (M : St) : Option (Int32 × St) := nam (sI M 0 0) fun M_1 => f6_keep_b7  fuelN M_1 0
def f6_restore_b21 : Nat → St → Int32 → Option (Int32 × St)
  | 0, _, _ => none
  | n + 1, M, l1 => if (886 : Int32) ≤ l1 then ((f6_onField M).bind fun r_1 => some (r_1, M)) else (arr (M.2 3) (mlen 3) l1 fun x_2 => sto (mlen 0) l1 <| nam (sA M 0 (Int32.toNatClampNeg l1) x_2) fun M_3 => f6_restore_b21  n M_3 ((l1 + 1)))
def f6_restore (M : St) : Option (Int32 × St) := nam (sI M 0 0) fun M_1 => if (M_1.1 2 : Int32) = 0 then (some ((-5), M_1)) else ((f6_records M_1).bind fun M_2 => f6_restore_b21  fuelN M_2 0)
def f6_touching_b34 (M : St) (k : Int32 → Int32 → Option (Int32)) (l1 : Int32) (l3 : Int32) (k0 : Int32) (k1 : Int32) : Option (Int32) := nam ((k1 + k0)) fun x_1 => k x_1 ((l3 + 1))
def f6_touching_b33 (M : St) (k : Int32 → Int32 → Option (Int32)) (l1 : Int32) (l3 : Int32) (k0 : Int32) : Option (Int32) := f6_touching_b34 M k l1 l3 0 k0
def f6_touching_b4 (M : St) (l1 : Int32) : Nat → Int32 → Int32 → Option (Int32)
  | 0, _, _ => none
  | n + 1, l2, l3 => arr (M.2 0) (mlen 0) 1 fun x_1 => if (x_1 : Int32) ≤ l3 then (some (l2)) else (if (l3 : Int32) = l1 then (f6_touching_b33 M (f6_touching_b4 M l1 n) l1 l3 l2) else ((f6_touch M l1 l3).bind fun r_2 => if (r_2 : Int32) = 0 then (f6_touching_b33 M (f6_touching_b4 M l1 n) l1 l3 l2) else (f6_touching_b34 M (f6_touching_b4 M l1 n) l1 l3 1 l2)))
def f6_touching (M : St) (p1 : Int32) : Option (Int32) := f6_touching_b4 M p1 fuelN 0 0
def f6_plot_b92 (M : St) (k0 : Int32) : Option (Int32 × St) := some (k0, M)
def f6_plot (M : St) (p1 : Int32) (p2 : Int32) (p3 : Int32) : Option (Int32 × St) := nam (sI M 0 0) fun M_1 => (f6_isPoint p1 p2).bind fun r_2 => if (r_2 : Int32) = 0 then (some ((-1), M_1)) else ((f6_plotAt M_1 p1 p2).bind fun r_3 => if (Int32.toInt p3 < 0 ∨ 6 < Int32.toInt p3) then (some ((-2), M_1)) else if (p3 : Int32) = 0 then ((f6_ofPlot M_1 r_3 3).bind fun r_4 => if (r_4 : Int32) = 0 then (f6_plot_b92 M_1 ((-5))) else ((f6_ofPlot M_1 r_3 3).bind fun r_5 => f6_plot_b92 M_1 ((r_5 - 1)))) else if (p3 : Int32) = 1 then ((f6_ofPlot M_1 r_3 0).bind fun r_6 => some (r_6, M_1)) else if (p3 : Int32) = 2 then ((f6_ofPlot M_1 r_3 1).bind fun r_7 => some (r_7, M_1)) else if (p3 : Int32) = 3 then ((f6_ofPlot M_1 r_3 2).bind fun r_8 => some (r_8, M_1)) else if (p3 : Int32) = 4 then ((f6_lastX M_1 r_3).bind fun r_9 => some (r_9, M_1)) else if (p3 : Int32) = 5 then ((f6_lastY M_1 r_3).bind fun r_10 => some (r_10, M_1)) else if (p3 : Int32) = 6 then ((f6_touching M_1 r_3).bind fun r_11 => some (r_11, M_1)) else none)
def f6_plotsOf_b32 (M : St) (k : Int32 → Int32 → Option (Int32)) (l1 : Int32) (l3 : Int32) (k0 : Int32) (k1 : Int32) : Option (Int32) := nam ((k1 + k0)) fun x_1 => k x_1 ((l3 + 1))
def f6_plotsOf_b4 (M : St) (l1 : Int32) : Nat → Int32 → Int32 → Option (Int32)
  | 0, _, _ => none
  | n + 1, l2, l3 => arr (M.2 0) (mlen 0) 1 fun x_1 => if (x_1 : Int32) ≤ l3 then (some (l2)) else ((f6_ofPlot M l3 3).bind fun r_2 => if (r_2 : Int32) = (l1 + 1) then (f6_plotsOf_b32 M (f6_plotsOf_b4 M l1 n) l1 l3 1 l2) else (f6_plotsOf_b32 M (f6_plotsOf_b4 M l1 n) l1 l3 0 l2))
def f6_plotsOf (M : St) (p1 : Int32) : Option (Int32) := f6_plotsOf_b4 M p1 fuelN 0 0
def f6_songsOf_b29 (M : St) (k : Int32 → Int32 → Option (Int32)) (l1 : Int32) (l3 : Int32) (k0 : Int32) (k1 : Int32) : Option (Int32) := nam ((k1 + k0)) fun x_1 => k x_1 ((l3 + 1))
def f6_songsOf_b4 (M : St) (l1 : Int32) : Nat → Int32 → Int32 → Option (Int32)
  | 0, _, _ => none
  | n + 1, l2, l3 => arr (M.2 0) (mlen 0) 2 fun x_1 => if (x_1 : Int32) ≤ l3 then (some (l2)) else ((f6_singer M l3).bind fun r_2 => if (r_2 : Int32) = l1 then (f6_songsOf_b29 M (f6_songsOf_b4 M l1 n) l1 l3 1 l2) else (f6_songsOf_b29 M (f6_songsOf_b4 M l1 n) l1 l3 0 l2))
def f6_songsOf (M : St) (p1 : Int32) : Option (Int32) := f6_songsOf_b4 M p1 fuelN 0 0
def f6_areBeside_b48 (M : St) (k : Int32 → Int32 → Option (Int32)) (l1 : Int32) (l2 : Int32) (l4 : Int32) (k0 : Int32) : Option (Int32) := k k0 ((l4 + 1))
def f6_areBeside_b43 (M : St) (k : Int32 → Int32 → Option (Int32)) (l1 : Int32) (l2 : Int32) (l4 : Int32) : Option (Int32) := f6_areBeside_b48 M k l1 l2 l4 1
def f6_areBeside_b47 (M : St) (k : Int32 → Int32 → Option (Int32)) (l1 : Int32) (l2 : Int32) (l4 : Int32) : Option (Int32) := f6_areBeside_b48 M k l1 l2 l4 0
def f6_areBeside_b5 (M : St) (l1 : Int32) (l2 : Int32) : Nat → Int32 → Int32 → Option (Int32)
  | 0, _, _ => none
  | n + 1, l3, l4 => arr (M.2 0) (mlen 0) 1 fun x_1 => if (x_1 : Int32) ≤ l4 then (isz l3 <| some (l3)) else (if (l3 : Int32) = 0 then ((f6_ofPlot M l4 3).bind fun r_2 => if (r_2 : Int32) = (l1 + 1) then ((f6_touches M l4 l2).bind fun r_3 => if (r_3 : Int32) = 0 then (f6_areBeside_b47 M (f6_areBeside_b5 M l1 l2 n) l1 l2 l4) else (f6_areBeside_b43 M (f6_areBeside_b5 M l1 l2 n) l1 l2 l4)) else (f6_areBeside_b47 M (f6_areBeside_b5 M l1 l2 n) l1 l2 l4)) else (f6_areBeside_b43 M (f6_areBeside_b5 M l1 l2 n) l1 l2 l4))
def f6_areBeside (M : St) (p1 : Int32) (p2 : Int32) : Option (Int32) := f6_areBeside_b5 M p1 p2 fuelN 0 0
def f6_neighbours_b38 (M : St) (k : Int32 → Int32 → Option (Int32)) (l1 : Int32) (l3 : Int32) (k0 : Int32) (k1 : Int32) : Option (Int32) := nam ((k1 + k0)) fun x_1 => k x_1 ((l3 + 1))
def f6_neighbours_b37 (M : St) (k : Int32 → Int32 → Option (Int32)) (l1 : Int32) (l3 : Int32) (k0 : Int32) : Option (Int32) := f6_neighbours_b38 M k l1 l3 0 k0
def f6_neighbours_b4 (M : St) (l1 : Int32) : Nat → Int32 → Int32 → Option (Int32)
  | 0, _, _ => none
  | n + 1, l2, l3 => if (16 : Int32) ≤ l3 then (some (l2)) else (if (l3 : Int32) = l1 then (f6_neighbours_b37 M (f6_neighbours_b4 M l1 n) l1 l3 l2) else ((f6_isHere M l3).bind fun r_1 => if (r_1 : Int32) = 0 then (f6_neighbours_b37 M (f6_neighbours_b4 M l1 n) l1 l3 l2) else ((f6_areBeside M l1 l3).bind fun r_2 => if (r_2 : Int32) = 0 then (f6_neighbours_b37 M (f6_neighbours_b4 M l1 n) l1 l3 l2) else (f6_neighbours_b38 M (f6_neighbours_b4 M l1 n) l1 l3 1 l2))))
def f6_neighbours (M : St) (p1 : Int32) : Option (Int32) := f6_neighbours_b4 M p1 fuelN 0 0
def f6_loudness_b38 (M : St) (k : UInt32 → Int32 → Option (UInt32)) (l1 : Int32) (l3 : Int32) (k0 : UInt32) : Option (UInt32) := k k0 ((l3 + 1))
def f6_loudness_b4 (M : St) (l1 : Int32) : Nat → UInt32 → Int32 → Option (UInt32)
  | 0, _, _ => none
  | n + 1, l2, l3 => arr (M.2 0) (mlen 0) 2 fun x_1 => if (x_1 : Int32) ≤ l3 then (some (l2)) else ((f6_singer M l3).bind fun r_2 => if (r_2 : Int32) = l1 then ((f6_ofSong M l3 2).bind fun r_3 => (f6_loud r_3).bind fun r_4 => fnn (FP.fadd l2 r_4) fun x_5 => f6_loudness_b38 M (f6_loudness_b4 M l1 n) l1 l3 x_5) else (f6_loudness_b38 M (f6_loudness_b4 M l1 n) l1 l3 l2))
def f6_loudness (M : St) (p1 : Int32) : Option (UInt32) := f6_loudness_b4 M p1 fuelN FP.fconst0 0
def f6_camper (M : St) (p1 : Int32) (p2 : Int32) : Option (Int32 × St) := nam (sI M 0 0) fun M_1 => (f6_isHere M_1 p1).bind fun r_2 => if (r_2 : Int32) = 0 then (some ((-1), M_1)) else (if (Int32.toInt p2 < 0 ∨ 6 < Int32.toInt p2) then (some ((-2), M_1)) else if (p2 : Int32) = 0 then ((f6_ofCamper M_1 p1 ((1 + p2))).bind fun r_3 => some (r_3, M_1)) else if (p2 : Int32) = 1 then ((f6_ofCamper M_1 p1 ((1 + p2))).bind fun r_4 => some (r_4, M_1)) else if (p2 : Int32) = 2 then ((f6_plotsOf M_1 p1).bind fun r_5 => some (r_5, M_1)) else if (p2 : Int32) = 3 then ((f6_areaOf M_1 p1).bind fun r_6 => some (r_6, M_1)) else if (p2 : Int32) = 4 then ((f6_songsOf M_1 p1).bind fun r_7 => some (r_7, M_1)) else if (p2 : Int32) = 5 then ((f6_neighbours M_1 p1).bind fun r_8 => some (r_8, M_1)) else if (p2 : Int32) = 6 then ((f6_loudness M_1 p1).bind fun r_9 => (fJxf58ca_floatToIntBits_5c35a r_9).bind fun r_10 => some (r_10, M_1)) else none)
def f6_rankOf_b44 (M : St) (k : Int32 → Int32 → Option (Int32)) (l1 : Int32) (l3 : Int32) (k0 : Int32) (k1 : Int32) : Option (Int32) := nam ((k1 + k0)) fun x_1 => k x_1 ((l3 + 1))
def f6_rankOf_b43 (M : St) (k : Int32 → Int32 → Option (Int32)) (l1 : Int32) (l3 : Int32) (k0 : Int32) : Option (Int32) := f6_rankOf_b44 M k l1 l3 0 k0
def f6_rankOf_b4 (M : St) (l1 : Int32) : Nat → Int32 → Int32 → Option (Int32)
  | 0, _, _ => none
  | n + 1, l2, l3 => arr (M.2 0) (mlen 0) 1 fun x_1 => if (x_1 : Int32) ≤ l3 then (some (l2)) else ((f6_ofPlot M l3 3).bind fun r_2 => (f6_ofPlot M l1 3).bind fun r_3 => if (r_2 : Int32) = r_3 then ((f6_isAhead M l3 l1).bind fun r_4 => if (r_4 : Int32) = 0 then (f6_rankOf_b43 M (f6_rankOf_b4 M l1 n) l1 l3 l2) else (f6_rankOf_b44 M (f6_rankOf_b4 M l1 n) l1 l3 1 l2)) else (f6_rankOf_b43 M (f6_rankOf_b4 M l1 n) l1 l3 l2))
def f6_rankOf (M : St) (p1 : Int32) : Option (Int32) := f6_rankOf_b4 M p1 fuelN 0 0
def f6_plotOf_b83 (M : St) (k0 : Int32) (k1 : Int32) : Option (Int32 × St) := (f6_ofPlot M k1 k0).bind fun r_1 => some (r_1, M)
def f6_plotOf_b87 (M : St) (k : Int32 → Option (Int32 × St)) (l1 : Int32) (l2 : Int32) (l3 : Int32) (l4 : Int32) : Option (Int32 × St) := k ((l4 + 1))
def f6_plotOf_b34 (M : St) (l1 : Int32) (l2 : Int32) (l3 : Int32) : Nat → Int32 → Option (Int32 × St)
  | 0, _ => none
  | n + 1, l4 => arr (M.2 0) (mlen 0) 1 fun x_1 => if (x_1 : Int32) ≤ l4 then (some ((-5), M)) else ((f6_ofPlot M l4 3).bind fun r_2 => if (r_2 : Int32) = (l1 + 1) then ((f6_rankOf M l4).bind fun r_3 => if (r_3 : Int32) = l2 then (if (l3 : Int32) = 2 then (f6_plotOf_b83 M 0 l4) else (f6_plotOf_b83 M ((1 + l3)) l4)) else (f6_plotOf_b87 M (f6_plotOf_b34 M l1 l2 l3 n) l1 l2 l3 l4)) else (f6_plotOf_b87 M (f6_plotOf_b34 M l1 l2 l3 n) l1 l2 l3 l4))
def f6_plotOf_b28 (M : St) : Option (Int32 × St) := some ((-2), M)
def f6_plotOf (M : St) (p1 : Int32) (p2 : Int32) (p3 : Int32) : Option (Int32 × St) := nam (sI M 0 0) fun M_1 => (f6_isHere M_1 p1).bind fun r_2 => if (r_2 : Int32) = 0 then (some ((-1), M_1)) else (if (p2 : Int32) < 0 then (f6_plotOf_b28 M_1 ) else ((f6_in p3 0 2).bind fun r_3 => if (r_3 : Int32) = 0 then (f6_plotOf_b28 M_1 ) else (f6_plotOf_b34 M_1 p1 p2 p3 fuelN 0)))
def f6_song (M : St) (p1 : Int32) (p2 : Int32) : Option (Int32 × St) := nam (sI M 0 0) fun M_1 => (f6_isSong M_1 p1).bind fun r_2 => if (r_2 : Int32) = 0 then (some ((-1), M_1)) else (if (Int32.toInt p2 < 0 ∨ 3 < Int32.toInt p2) then (some ((-2), M_1)) else if (p2 : Int32) = 0 then ((f6_ofSong M_1 p1 p2).bind fun r_3 => some (r_3, M_1)) else if (p2 : Int32) = 1 then ((f6_ofSong M_1 p1 p2).bind fun r_4 => some (r_4, M_1)) else if (p2 : Int32) = 2 then ((f6_ofSong M_1 p1 2).bind fun r_5 => (f6_loud r_5).bind fun r_6 => (fJxf58ca_floatToIntBits_5c35a r_6).bind fun r_7 => some (r_7, M_1)) else if (p2 : Int32) = 3 then ((f6_singer M_1 p1).bind fun r_8 => some (r_8, M_1)) else none)
def f6_outside_b23 (k0 : Int32) : Option (Int32) := some (k0)
def f6_outside (p0 : Int32) (p1 : Int32) (p2 : Int32) : Option (Int32) := if (p1 : Int32) ≤ p0 then (if (p0 : Int32) ≤ p2 then (f6_outside_b23  0) else (f6_outside_b23  ((p0 - p2)))) else (f6_outside_b23  ((p1 - p0)))
def f6_distance (M : St) (p1 : Int32) (p2 : Int32) (p3 : Int32) : Option (Int32) := (f6_ofPlot M p1 1).bind fun r_1 => (f6_lastX M p1).bind fun r_2 => (f6_outside p2 r_1 r_2).bind fun r_3 => (f6_ofPlot M p1 2).bind fun r_4 => (f6_lastY M p1).bind fun r_5 => (f6_outside p3 r_4 r_5).bind fun r_6 => some ((r_3 + r_6))
def f6_nextOnWay_b108 (M : St) (k : Int32 → Int32 → Int32 → Option (Int32)) (l1 : Int32) (l2 : Int32) (l3 : Int32) (l4 : Int32) (l5 : Int32) (l6 : Int32) : Option (Int32) := k l4 l5 ((l6 + 1))
def f6_nextOnWay_b106 (M : St) (k : Int32 → Int32 → Int32 → Option (Int32)) (l1 : Int32) (l2 : Int32) (l3 : Int32) (l4 : Int32) (l6 : Int32) (k0 : Int32) : Option (Int32) := f6_nextOnWay_b108 M k l1 l2 l3 l4 k0 l6
def f6_nextOnWay_b92 (M : St) (k : Int32 → Int32 → Int32 → Option (Int32)) (l1 : Int32) (l2 : Int32) (l3 : Int32) (l5 : Int32) (l6 : Int32) (l7 : Int32) (l8 : Int32) (k0 : Int32) : Option (Int32) := if (l8 : Int32) = 0 then (f6_nextOnWay_b106 M k l1 l2 l3 k0 l6 l5) else (f6_nextOnWay_b106 M k l1 l2 l3 k0 l6 l7)
def f6_nextOnWay_b78 (M : St) (k : Int32 → Int32 → Int32 → Option (Int32)) (l1 : Int32) (l2 : Int32) (l3 : Int32) (l4 : Int32) (l5 : Int32) (l6 : Int32) (l7 : Int32) (k0 : Int32) : Option (Int32) := if (k0 : Int32) = 0 then (f6_nextOnWay_b92 M k l1 l2 l3 l5 l6 l7 k0 l4) else (f6_nextOnWay_b92 M k l1 l2 l3 l5 l6 l7 k0 l6)
def f6_nextOnWay_b73 (M : St) (k : Int32 → Int32 → Int32 → Option (Int32)) (l1 : Int32) (l2 : Int32) (l3 : Int32) (l4 : Int32) (l5 : Int32) (l6 : Int32) (l7 : Int32) : Option (Int32) := f6_nextOnWay_b78 M k l1 l2 l3 l4 l5 l6 l7 1
def f6_nextOnWay_b77 (M : St) (k : Int32 → Int32 → Int32 → Option (Int32)) (l1 : Int32) (l2 : Int32) (l3 : Int32) (l4 : Int32) (l5 : Int32) (l6 : Int32) (l7 : Int32) : Option (Int32) := f6_nextOnWay_b78 M k l1 l2 l3 l4 l5 l6 l7 0
def f6_nextOnWay_b11 (M : St) (l1 : Int32) (l2 : Int32) (l3 : Int32) : Nat → Int32 → Int32 → Int32 → Option (Int32)
  | 0, _, _, _ => none
  | n + 1, l4, l5, l6 => arr (M.2 0) (mlen 0) 1 fun x_1 => if (x_1 : Int32) ≤ l6 then (some (l4)) else (if (l6 : Int32) = l1 then (f6_nextOnWay_b108 M (f6_nextOnWay_b11 M l1 l2 l3 n) l1 l2 l3 l4 l5 l6) else ((f6_touch M l1 l6).bind fun r_2 => if (r_2 : Int32) = 0 then (f6_nextOnWay_b108 M (f6_nextOnWay_b11 M l1 l2 l3 n) l1 l2 l3 l4 l5 l6) else ((f6_distance M l6 l2 l3).bind fun r_3 => if (r_3 : Int32) < l5 then (f6_nextOnWay_b73 M (f6_nextOnWay_b11 M l1 l2 l3 n) l1 l2 l3 l4 l5 l6 r_3) else (if (r_3 : Int32) = l5 then ((f6_isAhead M l6 l4).bind fun r_4 => if (r_4 : Int32) = 0 then (f6_nextOnWay_b77 M (f6_nextOnWay_b11 M l1 l2 l3 n) l1 l2 l3 l4 l5 l6 r_3) else (f6_nextOnWay_b73 M (f6_nextOnWay_b11 M l1 l2 l3 n) l1 l2 l3 l4 l5 l6 r_3)) else (f6_nextOnWay_b77 M (f6_nextOnWay_b11 M l1 l2 l3 n) l1 l2 l3 l4 l5 l6 r_3)))))
def f6_nextOnWay (M : St) (p1 : Int32) (p2 : Int32) (p3 : Int32) : Option (Int32) := f6_nextOnWay_b11 M p1 p2 p3 fuelN ((-5)) 100000 0
def f6_onWay_b69 (M : St) (k0 : Int32) : Option (Int32) := some (k0)
def f6_onWay_b55 (M : St) (l4 : Int32) (l5 : Int32) (l6 : Int32) : Option (Int32) := if (l6 : Int32) = l4 then (f6_onWay_b69 M l5) else (f6_onWay_b69 M ((-5)))
def f6_onWay_b21 (M : St) (l2 : Int32) (l3 : Int32) (l4 : Int32) : Nat → Int32 → Int32 → Option (Int32)
  | 0, _, _ => none
  | n + 1, l5, l6 => if (l4 : Int32) ≤ l6 then (f6_onWay_b55 M l4 l5 l6) else ((f6_has M l5 l2 l3).bind fun r_1 => if (r_1 : Int32) = 0 then ((f6_nextOnWay M l5 l2 l3).bind fun r_2 => f6_onWay_b21 M l2 l3 l4 n r_2 ((l6 + 1))) else (f6_onWay_b55 M l4 l5 l6))
def f6_onWay (M : St) (p1 : Int32) (p2 : Int32) (p3 : Int32) (p4 : Int32) : Option (Int32) := (f6_ofCamper M p1 1).bind fun r_1 => (f6_ofCamper M p1 2).bind fun r_2 => (f6_plotAt M r_1 r_2).bind fun r_3 => f6_onWay_b21 M p2 p3 p4 fuelN r_3 0
def f6_way_b93 (M : St) (k0 : Int32) : Option (Int32 × St) := some (k0, M)
def f6_way_b38 (M : St) : Option (Int32 × St) := some ((-2), M)
def f6_way_b21 (M : St) : Option (Int32 × St) := some ((-1), M)
def f6_way (M : St) (p1 : Int32) (p2 : Int32) (p3 : Int32) (p4 : Int32) (p5 : Int32) : Option (Int32 × St) := nam (sI M 0 0) fun M_1 => (f6_isHere M_1 p1).bind fun r_2 => if (r_2 : Int32) = 0 then (f6_way_b21 M_1 ) else ((f6_isPoint p2 p3).bind fun r_3 => if (r_3 : Int32) = 0 then (f6_way_b21 M_1 ) else (if (p4 : Int32) < 0 then (f6_way_b38 M_1 ) else ((f6_in p5 0 2).bind fun r_4 => if (r_4 : Int32) = 0 then (f6_way_b38 M_1 ) else ((f6_onWay M_1 p1 p2 p3 p4).bind fun r_5 => if (r_5 : Int32) = (-5) then (f6_way_b93 M_1 ((-5))) else (if (p5 : Int32) = 0 then ((f6_ofPlot M_1 r_5 3).bind fun r_7 => f6_way_b93 M_1 ((r_7 - 1))) else ((f6_ofPlot M_1 r_5 (((1 + p5) - 1))).bind fun r_6 => f6_way_b93 M_1 r_6))))))
def f6_would_b75 (M : St) (k0 : Int32) : Option (Int32 × St) := some (k0, M)
def f6_would_b112 (M : St) (k0 : Int32) : Option (Int32 × St) := (f6_takeBack M).bind fun M_1 => some (k0, M_1)
def f6_would (M : St) (p1 : Int32) (p2 : Int32) (p3 : Int32) : Option (Int32 × St) := nam (sI M 0 0) fun M_1 => (f6_isPoint p1 p2).bind fun r_2 => if (r_2 : Int32) = 0 then (some ((-1), M_1)) else ((f6_in p3 0 2).bind fun r_3 => if (r_3 : Int32) = 0 then (some ((-2), M_1)) else ((f6_refuses M_1 p1 p2).bind fun r_4 => if (r_4 : Int32) = 0 then ((f6_plotAt M_1 p1 p2).bind fun r_5 => (f6_ofPlot M_1 r_5 3).bind fun r_6 => if (p3 : Int32) = 2 then (if (r_6 : Int32) = 0 then (f6_would_b75 M_1 ((-5))) else (f6_would_b75 M_1 ((r_6 - 1)))) else ((f6_putAside M_1).bind fun M_7 => bd2 (f6_comes M_7 p1 p2) fun r_8 M_9 => if (p3 : Int32) = 0 then ((f6_plotAt M_9 p1 p2).bind fun r_11 => (f6_ofPlot M_9 r_11 0).bind fun r_12 => f6_would_b112 M_9 r_12) else ((f6_songsOf M_9 r_8).bind fun r_10 => f6_would_b112 M_9 r_10))) else (some (r_4, M_1))))
def f6_loudest_b76 (M : St) (k : Int32 → UInt32 → Int32 → Option (Int32 × St)) (l1 : Int32) (l2 : UInt32) (l3 : Int32) : Option (Int32 × St) := k l1 l2 ((l3 + 1))
def f6_loudest_b75 (M : St) (k : Int32 → UInt32 → Int32 → Option (Int32 × St)) (l1 : Int32) (l3 : Int32) (k0 : UInt32) : Option (Int32 × St) := f6_loudest_b76 M k l1 k0 l3
def f6_loudest_b63 (M : St) (k : Int32 → UInt32 → Int32 → Option (Int32 × St)) (l2 : UInt32) (l3 : Int32) (l4 : UInt32) (l5 : Int32) (k0 : Int32) : Option (Int32 × St) := if (l5 : Int32) = 0 then (f6_loudest_b75 M k k0 l3 l2) else (f6_loudest_b75 M k k0 l3 l4)
def f6_loudest_b51 (M : St) (k : Int32 → UInt32 → Int32 → Option (Int32 × St)) (l1 : Int32) (l2 : UInt32) (l3 : Int32) (l4 : UInt32) (k0 : Int32) : Option (Int32 × St) := if (k0 : Int32) = 0 then (f6_loudest_b63 M k l2 l3 l4 k0 l1) else (f6_loudest_b63 M k l2 l3 l4 k0 l3)
def f6_loudest_b46 (M : St) (k : Int32 → UInt32 → Int32 → Option (Int32 × St)) (l1 : Int32) (l2 : UInt32) (l3 : Int32) (l4 : UInt32) : Option (Int32 × St) := f6_loudest_b51 M k l1 l2 l3 l4 1
def f6_loudest_b12 (M : St) : Nat → Int32 → UInt32 → Int32 → Option (Int32 × St)
  | 0, _, _, _ => none
  | n + 1, l1, l2, l3 => if (16 : Int32) ≤ l3 then (some (l1, M)) else ((f6_isHere M l3).bind fun r_1 => if (r_1 : Int32) = 0 then (f6_loudest_b76 M (f6_loudest_b12 M n) l1 l2 l3) else ((f6_loudness M l3).bind fun r_2 => if (l1 : Int32) = (-5) then (f6_loudest_b46 M (f6_loudest_b12 M n) l1 l2 l3 r_2) else (if ((Op.cmpValue (FP.fcmp r_2 l2) CmpOp.l) : Int32) ≤ 0 then (f6_loudest_b51 M (f6_loudest_b12 M n) l1 l2 l3 r_2 0) else (f6_loudest_b46 M (f6_loudest_b12 M n) l1 l2 l3 r_2))))
def f6_loudest (M : St) : Option (Int32 × St) := nam (sI M 0 0) fun M_1 => f6_loudest_b12 M_1 fuelN ((-5)) FP.fconst0 0
def f6_share_b27 (M : St) (k0 : UInt32) : Option (UInt32 × St) := some (k0, M)
def f6_share (M : St) (p1 : Int32) : Option (UInt32 × St) := nam (sI M 0 0) fun M_1 => (f6_isHere M_1 p1).bind fun r_2 => if (r_2 : Int32) = 0 then (f6_share_b27 M_1 3212836864) else ((f6_areaOf M_1 p1).bind fun r_3 => fnn (FP.fdiv ((FP.i2f r_3)) 1166016512) fun x_4 => f6_share_b27 M_1 x_4)
def f6_depthOf_b53 (M : St) (k : Int32 → Int32 → Option (Int32)) (l1 : Int32) (l3 : Int32) (k0 : Int32) : Option (Int32) := k k0 ((l3 + 1))
def f6_depthOf_b47 (M : St) (k : Int32 → Int32 → Option (Int32)) (l1 : Int32) (l3 : Int32) (l4 : Int32) : Option (Int32) := f6_depthOf_b53 M k l1 l3 l4
def f6_depthOf_b52 (M : St) (k : Int32 → Int32 → Option (Int32)) (l1 : Int32) (l2 : Int32) (l3 : Int32) : Option (Int32) := f6_depthOf_b53 M k l1 l3 l2
def f6_depthOf_b37 (M : St) (k : Int32 → Int32 → Option (Int32)) (l1 : Int32) (l2 : Int32) (l3 : Int32) (l4 : Int32) : Option (Int32) := if (l1 : Int32) = 0 then (if (l2 : Int32) ≤ l4 then (f6_depthOf_b52 M k l1 l2 l3) else (f6_depthOf_b47 M k l1 l3 l4)) else (f6_depthOf_b52 M k l1 l2 l3)
def f6_depthOf_b9 (M : St) (l1 : Int32) : Nat → Int32 → Int32 → Option (Int32)
  | 0, _, _ => none
  | n + 1, l2, l3 => arr (M.2 0) (mlen 0) 1 fun x_1 => if (x_1 : Int32) ≤ l3 then (some (l2)) else ((f6_ofPlot M l3 0).bind fun r_2 => if (l1 : Int32) = 0 then (f6_depthOf_b37 M (f6_depthOf_b9 M l1 n) l1 l2 l3 r_2) else (if (l2 : Int32) < r_2 then (f6_depthOf_b47 M (f6_depthOf_b9 M l1 n) l1 l3 r_2) else (f6_depthOf_b37 M (f6_depthOf_b9 M l1 n) l1 l2 l3 r_2)))
def f6_depthOf (M : St) (p1 : Int32) : Option (Int32) := (f6_ofPlot M 0 0).bind fun r_1 => f6_depthOf_b9 M p1 fuelN r_1 1
def f6_withMore_b33 (M : St) (k : Int32 → Int32 → Option (Int32)) (l2 : Int32) (k0 : Int32) (k1 : Int32) : Option (Int32) := nam ((k1 + k0)) fun x_1 => k x_1 ((l2 + 1))
def f6_withMore_b32 (M : St) (k : Int32 → Int32 → Option (Int32)) (l2 : Int32) (k0 : Int32) : Option (Int32) := f6_withMore_b33 M k l2 0 k0
def f6_withMore_b4 (M : St) : Nat → Int32 → Int32 → Option (Int32)
  | 0, _, _ => none
  | n + 1, l1, l2 => if (16 : Int32) ≤ l2 then (some (l1)) else ((f6_isHere M l2).bind fun r_1 => if (r_1 : Int32) = 0 then (f6_withMore_b32 M (f6_withMore_b4 M n) l2 l1) else ((f6_plotsOf M l2).bind fun r_2 => if (r_2 : Int32) ≤ 1 then (f6_withMore_b32 M (f6_withMore_b4 M n) l2 l1) else (f6_withMore_b33 M (f6_withMore_b4 M n) l2 1 l1)))
def f6_withMore (M : St) : Option (Int32) := f6_withMore_b4 M fuelN 0 0
def f6_count_b105 (M : St) (k0 : Int32) : Option (Int32 × St) := (f6_depthOf M k0).bind fun r_1 => some (r_1, M)
def f6_count (M : St) (p1 : Int32) : Option (Int32 × St) := nam (sI M 0 0) fun M_1 => if (Int32.toInt p1 < 0 ∨ 11 < Int32.toInt p1) then (some ((-2), M_1)) else if (p1 : Int32) = 0 then ((f6_onField M_1).bind fun r_2 => some (r_2, M_1)) else if (p1 : Int32) = 1 then (arr (M_1.2 0) (mlen 0) 0 fun x_3 => some (x_3, M_1)) else if (p1 : Int32) = 2 then (arr (M_1.2 0) (mlen 0) 1 fun x_4 => some (x_4, M_1)) else if (p1 : Int32) = 3 then (arr (M_1.2 0) (mlen 0) 2 fun x_5 => some (x_5, M_1)) else if (p1 : Int32) = 4 then (if (p1 : Int32) = 4 then (f6_count_b105 M_1 1) else (f6_count_b105 M_1 0)) else if (p1 : Int32) = 5 then (if (p1 : Int32) = 4 then (f6_count_b105 M_1 1) else (f6_count_b105 M_1 0)) else if (p1 : Int32) = 6 then ((f6_withMore M_1).bind fun r_6 => some (r_6, M_1)) else if (p1 : Int32) = 7 then (arr (M_1.2 0) (mlen 0) (((3 + p1) - 7)) fun x_7 => some (x_7, M_1)) else if (p1 : Int32) = 8 then (arr (M_1.2 0) (mlen 0) (((3 + p1) - 7)) fun x_8 => some (x_8, M_1)) else if (p1 : Int32) = 9 then (arr (M_1.2 0) (mlen 0) (((3 + p1) - 7)) fun x_9 => some (x_9, M_1)) else if (p1 : Int32) = 10 then (some (M_1.1 1, M_1)) else if (p1 : Int32) = 11 then (some (M_1.1 3, M_1)) else none
