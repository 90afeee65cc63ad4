section C5
variable {S : St} {c : Nat} {L : List Pl} {i j : Nat} {p q : Pl}
theorem foldl_max {α : Type} (f : α → Nat) (L : List α) (h : ∀ p ∈ L, f p < 1000) : ∀ (a : Nat), a < 1000 → L.foldl (fun (acc : Int32) p => if acc < iI (f p : Int) then iI (f p : Int) else acc) (iI (a : Int)) = iI ((L.foldl (fun b p => max b (f p)) a : Nat) : Int) := by
  induction L with
  | nil => intro a _; rfl
  | cons p L ih =>
    intro a ha
    have hp := h p List.mem_cons_self
    rw [List.foldl_cons, List.foldl_cons]
    by_cases c : a < f p
    · rw [if_pos (by rw [iI_lt (by omega) (by omega) (by omega) (by omega)]; omega), Nat.max_eq_right (by omega), ih (fun q hq => h q (List.mem_cons_of_mem _ hq)) _ hp]
    · rw [if_neg (by rw [iI_lt (by omega) (by omega) (by omega) (by omega)]; omega), Nat.max_eq_left (by omega), ih (fun q hq => h q (List.mem_cons_of_mem _ hq)) _ ha]
theorem foldl_min {α : Type} (f : α → Nat) (L : List α) (h : ∀ p ∈ L, f p < 1000) : ∀ (a : Nat), a < 1000 → L.foldl (fun (acc : Int32) p => if iI (f p : Int) < acc then iI (f p : Int) else acc) (iI (a : Int)) = iI ((L.foldl (fun b p => min b (f p)) a : Nat) : Int) := by
  induction L with
  | nil => intro a _; rfl
  | cons p L ih =>
    intro a ha
    have hp := h p List.mem_cons_self
    rw [List.foldl_cons, List.foldl_cons]
    by_cases c : f p < a
    · rw [if_pos (by rw [iI_lt (by omega) (by omega) (by omega) (by omega)]; omega), Nat.min_eq_right (by omega), ih (fun q hq => h q (List.mem_cons_of_mem _ hq)) _ hp]
    · rw [if_neg (by rw [iI_lt (by omega) (by omega) (by omega) (by omega)]; omega), Nat.min_eq_left (by omega), ih (fun q hq => h q (List.mem_cons_of_mem _ hq)) _ ha]
theorem r_greatest (hP : PlC S c L) (hW : Wf L) : f3_greatestDepth S c = some (iI ((L.foldl (fun b p => max b (pD p)) 0 : Nat) : Int)) := by
  have hlen := hW.1
  unfold f3_greatestDepth
  rw [loop_fold0 L (fun n i acc => f3_greatestDepth_b4 S c n acc i) (fun (acc : Int32) p => if acc < iI (pD p : Int) then iI (pD p : Int) else acc) (fun acc => some acc) fuelN (fuel_lt (by omega)) ?_ ?_ 0, show (0 : Int32) = iI ((0 : Nat) : Int) from rfl, foldl_max pD L (fun p hp => by have := (hW.2 p hp).1; omega) 0 (by omega)]
  · intro n i p acc hp
    have hi := (List.getElem?_eq_some_iff.mp hp).1
    show f3_greatestDepth_b4 S c (n + 1) _ _ = f3_greatestDepth_b4 S c n _ _
    rw [f3_greatestDepth_b4, hP.1, if_neg (by rw [iI_le (by omega) (by omega) (by omega) (by omega)]; omega), at_d hP hW hp, bnd_s, nam_r, q1, iI_s]
  · intro n acc
    show f3_greatestDepth_b4 S c (n + 1) _ _ = _
    rw [f3_greatestDepth_b4, hP.1, if_pos (by rw [iI_le (by omega) (by omega) (by omega) (by omega)]; omega)]
theorem r_least (hP : PlC S c L) (hW : Wf L) : f3_leastDepth S c = some (iI ((L.foldl (fun b p => min b (pD p)) 12 : Nat) : Int)) := by
  have hlen := hW.1
  unfold f3_leastDepth
  rw [loop_fold0 L (fun n i acc => f3_leastDepth_b5 S c n acc i) (fun (acc : Int32) p => if iI (pD p : Int) < acc then iI (pD p : Int) else acc) (fun acc => some acc) fuelN (fuel_lt (by omega)) ?_ ?_ 12, show (12 : Int32) = iI ((12 : Nat) : Int) from rfl, foldl_min pD L (fun p hp => by have := (hW.2 p hp).1; omega) 12 (by omega)]
  · intro n i p acc hp
    have hi := (List.getElem?_eq_some_iff.mp hp).1
    show f3_leastDepth_b5 S c (n + 1) _ _ = f3_leastDepth_b5 S c n _ _
    rw [f3_leastDepth_b5, hP.1, if_neg (by rw [iI_le (by omega) (by omega) (by omega) (by omega)]; omega), at_d hP hW hp, bnd_s, nam_r, q1, iI_s]
  · intro n acc
    show f3_leastDepth_b5 S c (n + 1) _ _ = _
    rw [f3_leastDepth_b5, hP.1, if_pos (by rw [iI_le (by omega) (by omega) (by omega) (by omega)]; omega)]
end C5
