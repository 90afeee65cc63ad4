section C4b
variable {S : St} {c : Nat} {L : List Pl} {i j : Nat} {p q : Pl}
/-- the campers beside camper k -/
def nbr (L : List Pl) (k o : Nat) : Bool := L.any (fun p => pW p == k + 1 && L.any (fun q => tch p q && pW q == o + 1))
theorem r_neighboursOf (hP : PlC S c L) (hW : Wf L) {k : Nat} (hk : k < 16) : f3_neighboursOf S c (iI (k : Int)) = some (iI (((List.range 16).filter (fun o => o != k && nbr L k o)).length : Nat)) := by
  have hlen := hW.1
  unfold f3_neighboursOf
  have := loop_inv0 L.length (fun n i acc => f3_neighboursOf_b4 S c (iI (k : Int)) n acc i) (fun i acc => ∃ m : Nat, m < 65536 ∧ acc = iI (m : Int) ∧ ∀ o, o < 16 → m.testBit o = (L.take i).any (fun p => pW p == k + 1 && L.any (fun q => tch p q && pW q == o + 1))) (fun acc => (f5_markOf (iI (k : Int))).bind fun r_1 => (fJ6_bitCount_0f7a4 (((acc : Int32) &&& ((r_1 : Int32) ^^^ (-1))))).bind fun r_2 => some (r_2)) fuelN (fuel_lt (by omega)) ?_ ?_ 0 ⟨0, by omega, rfl, fun o _ => by simp⟩
  · obtain ⟨acc, ⟨m, h1, h2, h3⟩, h4⟩ := this
    rw [h4, mark_t k hk, bnd_s, h2]
    have e1 : ∀ k, k < 16 → iI ((2 ^ k : Nat) : Int) ^^^ (-1) = iI ((4294967295 - 2 ^ k : Nat) : Int) := by decide +kernel
    rw [e1 k hk, and_nI]
    have hl := Nat.and_le_left (n := m) (m := 4294967295 - 2 ^ k)
    rw [r_bitCount (by omega), bnd_s]
    congr 2
    unfold popc
    have e2 : (List.range 16).filter (fun o => (m &&& (4294967295 - 2 ^ k)).testBit o) = (List.range 16).filter (fun o => o != k && nbr L k o) := by
      refine List.filter_congr fun o ho => ?_
      have ho2 : o < 16 := List.mem_range.mp ho
      rw [Nat.testBit_and, h3 o ho2, List.take_length]
      have e3 : ∀ k, k < 16 → ∀ o, o < 16 → (4294967295 - 2 ^ k).testBit o = (o != k) := by decide +kernel
      rw [e3 k hk o ho2, Bool.and_comm]
      rfl
    rw [e2]
  · intro n i acc hi hI
    obtain ⟨p, hp⟩ : ∃ p, L[i]? = some p := ⟨_, List.getElem?_eq_getElem hi⟩
    have hO := (hW.at hp).b
    show ∃ acc', _ ∧ f3_neighboursOf_b4 S c _ (n + 1) _ _ = f3_neighboursOf_b4 S c _ n _ _
    rw [f3_neighboursOf_b4, hP.1, if_neg (by rw [iI_le (by omega) (by omega) (by omega) (by omega)]; omega), at_o hP hW hp, bnd_s]
    unfold f3_neighboursOf_b32
    obtain ⟨m, h1, h2, h3⟩ := hI
    by_cases h : pW p = k + 1
    · rw [if_pos (by rw [h]; congr 1; omega)]
      obtain ⟨acc2, ⟨m2, g1, g2, g3⟩, g4⟩ := r_ownersBeside hP hW hp
      rw [g4, bnd_s, nam_r, q1, iI_s, h2, g2, or_nI]
      refine ⟨_, ⟨m ||| m2, or_lt16 h1 g1, rfl, fun o ho => ?_⟩, rfl⟩
      rw [any_take _ hp, Nat.testBit_or, h3 o ho, g3 o ho]
      simp [h]
    · rw [if_neg (by rw [iI_eq (by omega) (by omega) (by omega) (by omega)]; omega), q1, iI_s]
      refine ⟨_, ⟨m, h1, h2, fun o ho => ?_⟩, rfl⟩
      rw [any_take _ hp, h3 o ho]
      simp [h]
  · intro n acc hI
    show f3_neighboursOf_b4 S c _ (n + 1) _ _ = _
    rw [f3_neighboursOf_b4, hP.1, if_pos (by rw [iI_le (by omega) (by omega) (by omega) (by omega)]; omega)]
end C4b
