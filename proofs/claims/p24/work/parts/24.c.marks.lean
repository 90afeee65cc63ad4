theorem or_lt16 {a b : Nat} (ha : a < 65536) (hb : b < 65536) : a ||| b < 65536 := by
  have h9 := Nat.or_lt_two_pow (x := a) (y := b) (n := 16) (by omega) (by omega)
  omega
theorem any_take {α : Type} (f : α → Bool) {L : List α} {i : Nat} {p : α} (hp : L[i]? = some p) : (L.take (i + 1)).any f = ((L.take i).any f || f p) := by
  rw [List.take_succ, hp]
  simp [List.any_append]
section C4
variable {S : St} {c : Nat} {L : List Pl} {i j : Nat} {p q : Pl}
/-- bit k: an element of the list has owner k and e -/
def Marks (L : List Pl) (e : Pl → Bool) (acc : Int32) : Prop := ∃ m : Nat, m < 65536 ∧ acc = iI (m : Int) ∧ ∀ k, k < 16 → m.testBit k = L.any (fun p => e p && pW p == k + 1)
theorem Marks.nil (e : Pl → Bool) : Marks [] e 0 := ⟨0, by omega, rfl, fun k _ => by simp⟩
theorem r_ownersBeside (hP : PlC S c L) (hW : Wf L) (hq : L[j]? = some q) : ∃ acc, Marks L (fun p => tch q p) acc ∧ f3_ownersBeside S c (iI (j : Int)) = some acc := by
  have hlen := hW.1
  unfold f3_ownersBeside
  have := loop_inv0 L.length (fun n i acc => f3_ownersBeside_b4 S c (iI (j : Int)) n acc i) (fun i acc => Marks (L.take i) (fun p => tch q p) acc) (fun acc => some acc) fuelN (fuel_lt (by omega)) ?_ ?_ 0 (by rw [List.take_zero]; exact Marks.nil _)
  · rw [List.take_length] at this; exact this
  · intro n i acc hi hI
    obtain ⟨p, hp⟩ : ∃ p, L[i]? = some p := ⟨_, List.getElem?_eq_getElem hi⟩
    have hO := (hW.at hp).b
    show ∃ acc', _ ∧ f3_ownersBeside_b4 S c _ (n + 1) _ _ = f3_ownersBeside_b4 S c _ n _ _
    rw [f3_ownersBeside_b4, hP.1, if_neg (by rw [iI_le (by omega) (by omega) (by omega) (by omega)]; omega), r_areBeside hP hW hq hp, bnd_s]
    unfold f3_ownersBeside_b35
    obtain ⟨m, h1, h2, h3⟩ := hI
    cases h : tch q p
    · rw [if_pos b2i_f, q1, iI_s]
      refine ⟨_, ⟨m, h1, h2, fun k hk => ?_⟩, rfl⟩
      rw [any_take _ hp, h3 k hk]; simp [h]
    · rw [if_neg (by decide), at_o hP hW hp, bnd_s]
      by_cases h0 : pW p = 0
      · rw [show ((pW p : Int) - 1) = -1 by omega, mark_n, bnd_s, nam_r, q1, iI_s, h2, show iI 0 = iI ((0 : Nat) : Int) from rfl, or_nI, Nat.or_zero]
        refine ⟨_, ⟨m, h1, rfl, fun k hk => ?_⟩, rfl⟩
        rw [any_take _ hp, h3 k hk]; simp [h0]
      · obtain ⟨w, hw⟩ : ∃ w, pW p = w + 1 := ⟨pW p - 1, by omega⟩
        rw [show ((pW p : Int) - 1) = (w : Int) by omega, mark_t w (by omega), bnd_s, nam_r, q1, iI_s, h2, or_nI]
        have hw2 : 2 ^ w < 2 ^ 16 := Nat.pow_lt_pow_right (by omega) (by omega)
        refine ⟨_, ⟨m ||| 2 ^ w, ?_, rfl, fun k hk => ?_⟩, rfl⟩
        · exact or_lt16 h1 (by omega)
        · rw [any_take _ hp, Nat.testBit_or, h3 k hk, Nat.testBit_two_pow]
          congr 1
          simp [h, hw]
          rfl
  · intro n acc hI
    show f3_ownersBeside_b4 S c _ (n + 1) _ _ = _
    rw [f3_ownersBeside_b4, hP.1, if_pos (by rw [iI_le (by omega) (by omega) (by omega) (by omega)]; omega)]
end C4
