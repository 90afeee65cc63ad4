/-! STAGE B, 3: what the class's loops over the plots answer -/
theorem iI_s (i : Nat) : iI (i : Int) + iI 1 = iI ((i + 1 : Nat) : Int) := by rw [iI_add]; rfl
theorem or_nI (a b : Nat) : iI (a : Int) ||| iI (b : Int) = iI ((a ||| b : Nat) : Int) := by
  rw [← iI_nI, ← iI_nI, ← iI_nI]
  exact Int32.toBitVec_inj.mp (by simp [nI, BitVec.ofNat_or])
theorem and_nI (a b : Nat) : iI (a : Int) &&& iI (b : Int) = iI ((a &&& b : Nat) : Int) := by
  rw [← iI_nI, ← iI_nI, ← iI_nI]
  exact Int32.toBitVec_inj.mp (by simp [nI, BitVec.ofNat_and])
theorem mark_t : ∀ k, k < 16 → f5_markOf (iI ((k : Nat) : Int)) = some (iI ((2 ^ k : Nat) : Int)) := by decide +kernel
theorem mark_n : f5_markOf (iI (-1)) = some (iI 0) := by decide +kernel
theorem b2i_f : b2i false = 0 := rfl
theorem b2i_t : b2i true = 1 := rfl
section C2
variable {S : St} {c : Nat} {L : List Pl} {i j : Nat} {p q : Pl}
theorem r_find (hP : PlC S c L) (hW : Wf L) {x y : Nat} (hx : x < 64) (hy : y < 64) : (∃ (j : Nat) (p : Pl), L[j]? = some p ∧ inP p x y = true ∧ f3_find S c (iI (x : Int)) (iI (y : Int)) = some (iI (j : Int))) ∨ ((∀ p ∈ L, inP p x y = false) ∧ f3_find S c (iI (x : Int)) (iI (y : Int)) = some (iI (-1))) := by
  have hlen := hW.1
  unfold f3_find
  refine loop_find0 L (fun n i => f3_find_b2 S c (iI (x : Int)) (iI (y : Int)) n i) (fun p => inP p x y) (fun j => some (iI (j : Int))) (some (iI (-1))) fuelN (fuel_lt (by omega)) ?_ ?_
  · intro n i p hp
    have hi := (List.getElem?_eq_some_iff.mp hp).1
    show f3_find_b2 S c _ _ (n + 1) _ = _
    rw [f3_find_b2, hP.1, if_neg (by rw [iI_le (by omega) (by omega) (by omega) (by omega)]; omega), r_has hP hW hp hx hy, bnd_s]
    cases h : inP p x y
    · rw [if_pos b2i_f, if_neg (by decide), q1, iI_s]
    · rw [if_neg (by decide), if_pos rfl]
  · intro n
    show f3_find_b2 S c _ _ (n + 1) _ = _
    rw [f3_find_b2, hP.1, if_pos (by rw [iI_le (by omega) (by omega) (by omega) (by omega)]; omega)]
    rfl
theorem r_manyOf (hP : PlC S c L) (hW : Wf L) {k : Nat} (hk : k < 100) : f3_manyOf S c (iI (k : Int)) = some (iI (L.countP (fun p => pW p == k + 1) : Nat)) := by
  have hlen := hW.1
  unfold f3_manyOf
  rw [loop_fold0 L (fun n i acc => f3_manyOf_b4 S c (iI (k : Int)) n acc i) (fun acc p => if pW p == k + 1 then acc + 1 else acc) (fun acc => some acc) fuelN (fuel_lt (by omega)) ?_ ?_ 0, q0, foldl_cnt]
  · rw [Int.zero_add]
  · intro n i p acc hp
    have hi := (List.getElem?_eq_some_iff.mp hp).1
    have hO := (hW.at hp).b
    show f3_manyOf_b4 S c _ (n + 1) _ _ = f3_manyOf_b4 S c _ n _ _
    rw [f3_manyOf_b4, hP.1, if_neg (by rw [iI_le (by omega) (by omega) (by omega) (by omega)]; omega), at_o hP hW hp, bnd_s]
    unfold f3_manyOf_b27
    by_cases h : pW p = k + 1
    · rw [if_pos (by rw [h]; congr 1; omega), if_pos (by simpa using h), q1, iI_s]
    · rw [if_neg (by rw [iI_eq (by omega) (by omega) (by omega) (by omega)]; omega), if_neg (by simpa using h), q1, iI_s]
  · intro n acc
    show f3_manyOf_b4 S c _ (n + 1) _ _ = _
    rw [f3_manyOf_b4, hP.1, if_pos (by rw [iI_le (by omega) (by omega) (by omega) (by omega)]; omega)]
theorem r_pointsOf (hP : PlC S c L) (hW : Wf L) {k : Nat} (hk : k < 100) : f3_pointsOf S c (iI (k : Int)) = some (iI ((L.map (fun p => if pW p == k + 1 then wid (pD p) * hei (pD p) else 0)).sum : Nat)) := by
  have hlen := hW.1
  unfold f3_pointsOf
  rw [loop_fold0 L (fun n i acc => f3_pointsOf_b4 S c (iI (k : Int)) n acc i) (fun (acc : Int32) p => acc + iI ((if pW p == k + 1 then wid (pD p) * hei (pD p) else 0 : Nat) : Int)) (fun acc => some acc) fuelN (fuel_lt (by omega)) ?_ ?_ 0, q0, foldl_sum]
  · rw [Int.zero_add]
  · intro n i p acc hp
    have hi := (List.getElem?_eq_some_iff.mp hp).1
    have hO := (hW.at hp).b
    show f3_pointsOf_b4 S c _ (n + 1) _ _ = f3_pointsOf_b4 S c _ n _ _
    rw [f3_pointsOf_b4, hP.1, if_neg (by rw [iI_le (by omega) (by omega) (by omega) (by omega)]; omega), at_o hP hW hp, bnd_s]
    unfold f3_pointsOf_b50
    by_cases h : pW p = k + 1
    · rw [if_pos (by rw [h]; congr 1; omega), if_pos (by simpa using h), at_d hP hW hp, bnd_s, wid_t _ (by omega), bnd_s, bnd_s, hei_t _ (by omega), bnd_s, nam_r, q1, iI_s, iI_mul]
      rfl
    · rw [if_neg (by rw [iI_eq (by omega) (by omega) (by omega) (by omega)]; omega), if_neg (by simpa using h), q1, iI_s]
      congr 1
      show acc = acc + 0
      exact (Int32.add_zero acc).symm
  · intro n acc
    show f3_pointsOf_b4 S c _ (n + 1) _ _ = _
    rw [f3_pointsOf_b4, hP.1, if_pos (by rw [iI_le (by omega) (by omega) (by omega) (by omega)]; omega)]
theorem r_rankOf (hP : PlC S c L) (hW : Wf L) (hq : L[j]? = some q) : f3_rankOf S c (iI (j : Int)) = some (iI (L.countP (fun p => pW p == pW q && low p q) : Nat)) := by
  have hlen := hW.1
  have hO2 := (hW.at hq).b
  unfold f3_rankOf
  rw [loop_fold0 L (fun n i acc => f3_rankOf_b4 S c (iI (j : Int)) n acc i) (fun acc p => if pW p == pW q && low p q then acc + 1 else acc) (fun acc => some acc) fuelN (fuel_lt (by omega)) ?_ ?_ 0, q0, foldl_cnt]
  · rw [Int.zero_add]
  · intro n i p acc hp
    have hi := (List.getElem?_eq_some_iff.mp hp).1
    have hO := (hW.at hp).b
    show f3_rankOf_b4 S c _ (n + 1) _ _ = f3_rankOf_b4 S c _ n _ _
    rw [f3_rankOf_b4, hP.1, if_neg (by rw [iI_le (by omega) (by omega) (by omega) (by omega)]; omega), at_o hP hW hp, bnd_s, at_o hP hW hq, bnd_s, r_isCornerLower hP hW hp hq, bnd_s]
    unfold f3_rankOf_b43
    by_cases h : pW p = pW q
    · rw [if_pos (by rw [h])]
      cases h2 : low p q
      · rw [if_pos b2i_f, if_neg (by simp), q1, iI_s]
      · rw [if_neg (by decide), if_pos (by simp [h]), q1, iI_s]
    · rw [if_neg (by rw [iI_eq (by omega) (by omega) (by omega) (by omega)]; omega), if_neg (by simp [h]), q1, iI_s]
  · intro n acc
    show f3_rankOf_b4 S c _ (n + 1) _ _ = _
    rw [f3_rankOf_b4, hP.1, if_pos (by rw [iI_le (by omega) (by omega) (by omega) (by omega)]; omega)]
theorem r_manyBeside (hP : PlC S c L) (hW : Wf L) (hq : L[j]? = some q) : f3_manyBeside S c (iI (j : Int)) = some (iI (L.countP (fun p => tch q p) : Nat)) := by
  have hlen := hW.1
  unfold f3_manyBeside
  rw [loop_fold0 L (fun n i acc => f3_manyBeside_b4 S c (iI (j : Int)) n acc i) (fun acc p => if tch q p then acc + 1 else acc) (fun acc => some acc) fuelN (fuel_lt (by omega)) ?_ ?_ 0, q0, foldl_cnt]
  · rw [Int.zero_add]
  · intro n i p acc hp
    have hi := (List.getElem?_eq_some_iff.mp hp).1
    show f3_manyBeside_b4 S c _ (n + 1) _ _ = f3_manyBeside_b4 S c _ n _ _
    rw [f3_manyBeside_b4, hP.1, if_neg (by rw [iI_le (by omega) (by omega) (by omega) (by omega)]; omega), r_areBeside hP hW hq hp, bnd_s]
    unfold f3_manyBeside_b24
    cases h2 : tch q p
    · rw [if_pos b2i_f, if_neg (by simp), q1, iI_s]
    · rw [if_neg (by decide), if_pos rfl, q1, iI_s]
  · intro n acc
    show f3_manyBeside_b4 S c _ (n + 1) _ _ = _
    rw [f3_manyBeside_b4, hP.1, if_pos (by rw [iI_le (by omega) (by omega) (by omega) (by omega)]; omega)]
theorem r_ranked (hP : PlC S c L) (hW : Wf L) {k : Nat} (hk : k < 100) {r : Int} (hr1 : 0 ≤ r) (hr2 : r < 2147483648) : (∃ (j : Nat) (p : Pl), L[j]? = some p ∧ (pW p == k + 1 && decide ((L.countP (fun q => pW q == pW p && low q p) : Int) = r)) = true ∧ f3_ranked S c (iI (k : Int)) (iI r) = some (iI (j : Int))) ∨ ((∀ p ∈ L, (pW p == k + 1 && decide ((L.countP (fun q => pW q == pW p && low q p) : Int) = r)) = false) ∧ f3_ranked S c (iI (k : Int)) (iI r) = some (iI (-1))) := by
  have hlen := hW.1
  unfold f3_ranked
  refine loop_find0 L (fun n i => f3_ranked_b2 S c (iI (k : Int)) (iI r) n i) (fun p => pW p == k + 1 && decide ((L.countP (fun q => pW q == pW p && low q p) : Int) = r)) (fun j => some (iI (j : Int))) (some (iI (-1))) fuelN (fuel_lt (by omega)) ?_ ?_
  · intro n i p hp
    have hi := (List.getElem?_eq_some_iff.mp hp).1
    have hO := (hW.at hp).b
    have hc := List.countP_le_length (p := fun q => pW q == pW p && low q p) (l := L)
    show f3_ranked_b2 S c _ _ (n + 1) _ = _
    rw [f3_ranked_b2, hP.1, if_neg (by rw [iI_le (by omega) (by omega) (by omega) (by omega)]; omega), at_o hP hW hp, bnd_s, r_rankOf hP hW hp, bnd_s]
    unfold f3_ranked_b33
    by_cases h : pW p = k + 1
    · rw [if_pos (by rw [h]; congr 1; omega)]
      by_cases h2 : ((L.countP (fun q => pW q == pW p && low q p) : Nat) : Int) = r
      · rw [if_pos (by rw [h2]), if_pos (by rw [decide_eq_true h2, Bool.and_true]; simpa using h)]
      · rw [if_neg (by rw [iI_eq (by omega) (by omega) (by omega) (by omega)]; exact h2), if_neg (by simp [h2]), q1, iI_s]
    · rw [if_neg (by rw [iI_eq (by omega) (by omega) (by omega) (by omega)]; omega), if_neg (by simp [h]), q1, iI_s]
  · intro n
    show f3_ranked_b2 S c _ _ (n + 1) _ = _
    rw [f3_ranked_b2, hP.1, if_pos (by rw [iI_le (by omega) (by omega) (by omega) (by omega)]; omega)]
    rfl
end C2
