def f2_stateAt_b22 : Option (Nat) := none
def f2_stateAt (p1 : Int32) : Option (Nat) := if (p1 : Int32) < 0 then (f2_stateAt_b22  ) else (if ((Int32.ofNat 4) : Int32) ≤ p1 then (f2_stateAt_b22  ) else (sto 4 p1 <| some ((3 + Int32.toNatClampNeg p1))))
abbrev WQ (p : Program) (l : Launch) (e : Env) (R : Room) (s : State) (m : MethodId) (args : Array Value) (below : List Frame) (meth : Method) (c : Code) (G : WG) (r : Option Nat) (S' M' : St) (H : Heap) (locs : List Loc) (g : JFrame) : Prop := W p l e R s m args below meth c H locs 0 0 (MQ below (va_Qq (fun (x : Option Nat) (_ : Unit) => x = r) (fun _ t => WD G S' M' t.heap) (Aw G)) args s 0 0 (Aw G)) g
theorem f2_stateAt_lt {p1 : Int32} {k : Nat} (h : f2_stateAt p1 = some k) : k < 7 := by
  unfold f2_stateAt at h
  by_cases c1 : (p1 : Int32) < 0
  · rw [if_pos c1] at h; cases h
  · rw [if_neg c1] at h
    split at h
    · cases h
    · obtain ⟨n1, h⟩ := sto_e h
      have h2 : p1.toNatClampNeg < 4 := Nat.not_le.mp fun q => n1 (Or.inr q)
      have h3 := Option.some.inj h
      omega
def f2_push_b56 (S : St) (c1 : Nat) : Option (St) := some (S)
def f2_push_b21 (S : St) (c1 : Nat) (k0 : Int32) : Option (St) := nam (sI S 43 k0) fun S_1 => nam (sI S_1 44 ((if 4 < (S_1.1 44 + 1) then 4 else (S_1.1 44 + 1)))) fun S_2 => (f2_stateAt (S_2.1 43)).bind fun r_3 => (f0_copyFrom S_2 r_3 c1).bind fun S_4 => f2_push_b56 S_4 c1 
def f2_push (S : St) (c1 : Nat) : Option (St) := if (4 : Int32) ≤ (S.1 43 + 1) then (f2_push_b21 S c1 0) else (f2_push_b21 S c1 ((S.1 43 + 1)))
def f5_comeAll_b39 (l2 : Int32) : Nat → St → Int32 → Option (Int32 × St)
  | 0, _, _ => none
  | n + 1, S, l3 => if (l2 : Int32) ≤ l3 then ((f2_push S 0).bind fun S_1 => (f0_copyFrom S_1 0 1).bind fun S_2 => some (l2, S_2)) else ((f1_number S ((2 * l3))).bind fun r_3 => (f1_number S (((2 * l3) + 1))).bind fun r_4 => (f0_depthForNewcomer S 1 r_3 r_4).bind fun r_5 => if (0 : Int32) ≤ r_5 then (bd2 (f0_settle S 1 r_3 r_4 r_5) fun r_6 S_7 => f5_comeAll_b39 l2 n S_7 ((l3 + 1))) else (some (r_5, S)))
def f5_comeAll (S : St) : Option (Int32 × St) := (f1_fault S).bind fun r_1 => if (r_1 : Int32) = (-1) then ((f0_copyFrom S 1 0).bind fun S_2 => (f1_campers S_2).bind fun r_3 => f5_comeAll_b39 r_3 fuelN S_2 0) else (some (((-100) - r_1), S))
def f5_restore (S : St) : Option (Int32 × St) := if (S.1 42 : Int32) = 0 then (some ((-5), S)) else ((f2_push S 0).bind fun S_1 => (f0_copyFrom S_1 0 2).bind fun S_2 => (f0_campersHere S_2 0).bind fun r_3 => some (r_3, S_2))
def f5_carry_b54 (S : St) (l1 : Int32) (l2 : Int32) (l3 : Int32) : Option (Int32 × St) := (f2_push S 0).bind fun S_1 => (f0_putSong S_1 0 l1 l2 l3).bind fun S_2 => (f5_toldOwnerOf S_2 l1).bind fun r_3 => some (r_3, S_2)
def f5_carry_b19 (S : St) : Option (Int32 × St) := some ((-1), S)
def f5_carry (S : St) (p1 : Int32) (p2 : Int32) (p3 : Int32) : Option (Int32 × St) := (f0_isSong S 0 p1).bind fun r_1 => if (r_1 : Int32) = 0 then (f5_carry_b19 S ) else ((f5_isPoint p2 p3).bind fun r_2 => if (r_2 : Int32) = 0 then (f5_carry_b19 S ) else ((f4_at S ((10 * 0 + 7)) p1).bind fun r_3 => if (r_3 : Int32) = p2 then ((f4_at S ((10 * 0 + 8)) p1).bind fun r_4 => if (r_4 : Int32) = p3 then (some ((-5), S)) else (f5_carry_b54 S p1 p2 p3)) else (f5_carry_b54 S p1 p2 p3)))
def f5_lay_b22 (S : St) : Option (Int32 × St) := some ((-2), S)
def f5_lay (S : St) (p1 : Int32) (p2 : Int32) (p3 : Int32) : Option (Int32 × St) := (f5_isPoint p1 p2).bind fun r_1 => if (r_1 : Int32) = 0 then (some ((-1), S)) else (if (p3 : Int32) < 1 then (f5_lay_b22 S ) else (if (p3 : Int32) ≤ 999 then (if (S.1 (6 * 0 + 2) : Int32) < 20 then ((f2_push S 0).bind fun S_2 => bd2 (f0_addSong S_2 0 p1 p2 p3) fun r_3 S_4 => some (r_3, S_4)) else (some ((-3), S))) else (f5_lay_b22 S )))
def f5_handOver_b82 (S : St) : Option (Int32 × St) := some ((-4), S)
def f5_handOver_b19 (S : St) : Option (Int32 × St) := some ((-1), S)
def f5_handOver (S : St) (p1 : Int32) (p2 : Int32) (p3 : Int32) : Option (Int32 × St) := (f5_isPoint p1 p2).bind fun r_1 => if (r_1 : Int32) = 0 then (f5_handOver_b19 S ) else ((f0_isHere S 0 p3).bind fun r_2 => if (r_2 : Int32) = 0 then (f5_handOver_b19 S ) else ((f3_find S 0 p1 p2).bind fun r_3 => (f3_ownerOf S 0 r_3).bind fun r_4 => (f0_isTentIn S 0 r_3 r_4).bind fun r_5 => if (r_5 : Int32) = 0 then ((f3_ownersBeside S 0 r_3).bind fun r_6 => (f5_isMarked r_6 p3).bind fun r_7 => if (r_7 : Int32) = 0 then (f5_handOver_b82 S ) else (if (r_4 : Int32) = p3 then (some ((-5), S)) else ((f2_push S 0).bind fun S_8 => (f0_passOn S_8 0 r_3 p3).bind fun S_9 => some (r_4, S_9)))) else (f5_handOver_b82 S )))
def f5_moveTent_b87 (S : St) (l1 : Int32) (l2 : Int32) (l3 : Int32) (l4 : Int32) : Option (Int32 × St) := (f2_push S 0).bind fun S_1 => (f0_pitch S_1 0 l1 l2 l3).bind fun S_2 => (f3_depthOf S_2 0 l4).bind fun r_3 => some (r_3, S_2)
def f5_moveTent_b19 (S : St) : Option (Int32 × St) := some ((-1), S)
def f5_moveTent (S : St) (p1 : Int32) (p2 : Int32) (p3 : Int32) : Option (Int32 × St) := (f0_isHere S 0 p1).bind fun r_1 => if (r_1 : Int32) = 0 then (f5_moveTent_b19 S ) else ((f5_isPoint p2 p3).bind fun r_2 => if (r_2 : Int32) = 0 then (f5_moveTent_b19 S ) else ((f3_find S 0 p2 p3).bind fun r_3 => (f3_ownerOf S 0 r_3).bind fun r_4 => if (r_4 : Int32) = p1 then ((f4_at S ((10 * 0 + 4)) p1).bind fun r_5 => if (r_5 : Int32) = p2 then ((f4_at S ((10 * 0 + 5)) p1).bind fun r_6 => if (r_6 : Int32) = p3 then (some ((-5), S)) else (f5_moveTent_b87 S p1 p2 p3 r_3)) else (f5_moveTent_b87 S p1 p2 p3 r_3)) else (some ((-4), S))))
def f5_leave (S : St) (p1 : Int32) : Option (Int32 × St) := (f0_isHere S 0 p1).bind fun r_1 => if (r_1 : Int32) = 0 then (some ((-1), S)) else ((f2_push S 0).bind fun S_2 => (f0_sendAway S_2 0 p1).bind fun S_3 => (f0_campersHere S_3 0).bind fun r_4 => some (r_4, S_3))
def f5_come (S : St) (p1 : Int32) (p2 : Int32) : Option (Int32 × St) := (f5_isPoint p1 p2).bind fun r_1 => if (r_1 : Int32) = 0 then (some ((-1), S)) else ((f0_depthForNewcomer S 0 p1 p2).bind fun r_2 => if (0 : Int32) ≤ r_2 then ((f2_push S 0).bind fun S_3 => bd2 (f0_settle S_3 0 p1 p2 r_2) fun r_4 S_5 => some (r_4, S_5)) else (some (r_2, S)))
def f2_pop_b56 (S : St) (c1 : Nat) : Option (St) := some (S)
def f2_pop_b53 (S : St) (c1 : Nat) (k0 : Int32) : Option (St) := nam (sI S 43 k0) fun S_1 => f2_pop_b56 S_1 c1 
def f2_pop (S : St) (c1 : Nat) : Option (St) := (f2_stateAt (S.1 43)).bind fun r_1 => if (S.1 44 : Int32) ≤ 0 then (f2_pop_b56 S c1 ) else ((f0_copyFrom S c1 r_1).bind fun S_2 => nam (sI S_2 44 ((S_2.1 44 - 1))) fun S_3 => if (S_3.1 43 : Int32) ≤ 0 then (f2_pop_b53 S_3 c1 3) else (f2_pop_b53 S_3 c1 ((S_3.1 43 - 1))))
def f5_undo (S : St) : Option (Int32 × St) := if (S.1 44 : Int32) = 0 then (some ((-5), S)) else ((f2_pop S 0).bind fun S_1 => some (S_1.1 44, S_1))
