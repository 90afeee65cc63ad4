/-! STAGE B, 31: the reference's loops over the plots -/
section R2
variable {M : St} {L : List Pl} {i j : Nat} {p q : Pl}
theorem w1_e (p : Pl) (k : Nat) (h : pW p ≤ 16) (hk : k < 100) : (iI (pW p : Int) = iI (k : Int) + 1) ↔ pW p = k + 1 := by
  rw [q1, iI_add, iI_eq (by omega) (by omega) (by omega) (by omega)]; omega
theorem m_plotsOf (hP : PlV (M.2 0) L) (hW : Wf L) {k : Nat} (hk : k < 100) : f6_plotsOf M (iI (k : Int)) = some (iI (cntW L k : Int)) := by
  have hlen := hW.1
  unfold f6_plotsOf
  rw [loop_fold0 L (fun n i acc => f6_plotsOf_b4 M (iI (k : Int)) n acc i) (fun acc p => if pW p == k + 1 then acc + 1 else acc) (fun acc => some acc) fuelN (fuel_lt (by omega)) ?_ ?_ 0, q0, foldl_cnt, Int.zero_add]
  · rfl
  · intro n i p acc hp
    have hi := (List.getElem?_eq_some_iff.mp hp).1
    have hO := (hW.at hp).b
    show f6_plotsOf_b4 M _ (n + 1) _ _ = f6_plotsOf_b4 M _ n _ _
    rw [f6_plotsOf_b4, m_n hP, if_neg (by rw [iI_le (by omega) (by omega) (by omega) (by omega)]; omega), m_w hP hW hp, bnd_s]
    unfold f6_plotsOf_b32
    by_cases h : pW p = k + 1
    · rw [if_pos ((w1_e p k (by omega) hk).mpr h), if_pos (by simpa using h), nam_r, q1, iI_s]
    · rw [if_neg (fun e => h ((w1_e p k (by omega) hk).mp e)), if_neg (by simpa using h), nam_r, q1, iI_s, Int32.add_zero]
  · intro n acc
    show f6_plotsOf_b4 M _ (n + 1) _ _ = _
    rw [f6_plotsOf_b4, m_n hP, if_pos (by rw [iI_le (by omega) (by omega) (by omega) (by omega)]; omega)]
theorem m_areaOf (hP : PlV (M.2 0) L) (hW : Wf L) {k : Nat} (hk : k < 100) : f6_areaOf M (iI (k : Int)) = some (iI (area L k : Int)) := by
  have hlen := hW.1
  unfold f6_areaOf
  rw [loop_fold0 L (fun n i acc => f6_areaOf_b4 M (iI (k : Int)) n acc i) (fun (acc : Int32) p => acc + iI ((if pW p == k + 1 then wid (pD p) * hei (pD p) else 0 : Nat) : Int)) (fun acc => some acc) fuelN (fuel_lt (by omega)) ?_ ?_ 0, q0, foldl_sum, Int.zero_add]
  · rfl
  · intro n i p acc hp
    have hi := (List.getElem?_eq_some_iff.mp hp).1
    have hO := (hW.at hp).b
    show f6_areaOf_b4 M _ (n + 1) _ _ = f6_areaOf_b4 M _ n _ _
    rw [f6_areaOf_b4, m_n hP, if_neg (by rw [iI_le (by omega) (by omega) (by omega) (by omega)]; omega), m_w hP hW hp, bnd_s]
    unfold f6_areaOf_b36
    by_cases h : pW p = k + 1
    · rw [if_pos ((w1_e p k (by omega) hk).mpr h), if_pos (by simpa using h), m_area hP hW hp, bnd_s, nam_r, q1, iI_s]
    · rw [if_neg (fun e => h ((w1_e p k (by omega) hk).mp e)), if_neg (by simpa using h), nam_r, q1, iI_s]
      rfl
  · intro n acc
    show f6_areaOf_b4 M _ (n + 1) _ _ = _
    rw [f6_areaOf_b4, m_n hP, if_pos (by rw [iI_le (by omega) (by omega) (by omega) (by omega)]; omega)]
theorem m_rankOf (hP : PlV (M.2 0) L) (hW : Wf L) (hq : L[j]? = some q) : f6_rankOf M (iI (j : Int)) = some (iI (L.countP (fun p => pW p == pW q && low p q) : Nat)) := by
  have hlen := hW.1
  have hO2 := (hW.at hq).b
  unfold f6_rankOf
  rw [loop_fold0 L (fun n i acc => f6_rankOf_b4 M (iI (j : Int)) n acc i) (fun acc p => if pW p == pW q && low p q then acc + 1 else acc) (fun acc => some acc) fuelN (fuel_lt (by omega)) ?_ ?_ 0, q0, foldl_cnt, Int.zero_add]
  · intro n i p acc hp
    have hi := (List.getElem?_eq_some_iff.mp hp).1
    have hO := (hW.at hp).b
    show f6_rankOf_b4 M _ (n + 1) _ _ = f6_rankOf_b4 M _ n _ _
    rw [f6_rankOf_b4, m_n hP, if_neg (by rw [iI_le (by omega) (by omega) (by omega) (by omega)]; omega), m_w hP hW hp, bnd_s, m_w hP hW hq, bnd_s]
    unfold f6_rankOf_b43 f6_rankOf_b44
    by_cases h : pW p = pW q
    · rw [if_pos (by rw [h]), m_isAhead hP hW hp hq, bnd_s]
      cases h2 : low p q
      · rw [if_pos b2i_f, if_neg (by simp), nam_r, q1, iI_s, Int32.add_zero]
      · rw [if_neg (by decide), if_pos (by simp [h]), nam_r, q1, iI_s]
    · rw [if_neg (by rw [iI_eq (by omega) (by omega) (by omega) (by omega)]; omega), if_neg (by simp [h]), nam_r, q1, iI_s, Int32.add_zero]
  · intro n acc
    show f6_rankOf_b4 M _ (n + 1) _ _ = _
    rw [f6_rankOf_b4, m_n hP, if_pos (by rw [iI_le (by omega) (by omega) (by omega) (by omega)]; omega)]
theorem at_ne {i j : Nat} (hi : i < 181) (hj : j < 181) : (iI (i : Int) = iI (j : Int)) ↔ i = j := by
  rw [iI_eq (by omega) (by omega) (by omega) (by omega)]; omega
theorem m_touching (hP : PlV (M.2 0) L) (hW : Wf L) (hq : L[j]? = some q) : f6_touching M (iI (j : Int)) = some (iI (L.countP (fun p => tch q p) : Nat)) := by
  have hlen := hW.1
  have hj := hW.lt hq
  unfold f6_touching
  rw [loop_fold0 L (fun n i acc => f6_touching_b4 M (iI (j : Int)) n acc i) (fun acc p => if tch q p then acc + 1 else acc) (fun acc => some acc) fuelN (fuel_lt (by omega)) ?_ ?_ 0, q0, foldl_cnt, Int.zero_add]
  · intro n i p acc hp
    have hi := (List.getElem?_eq_some_iff.mp hp).1
    have hi2 := hW.lt hp
    show f6_touching_b4 M _ (n + 1) _ _ = f6_touching_b4 M _ n _ _
    rw [f6_touching_b4, m_n hP, if_neg (by rw [iI_le (by omega) (by omega) (by omega) (by omega)]; omega)]
    unfold f6_touching_b33 f6_touching_b34
    by_cases e : i = j
    · subst e
      rw [hp] at hq; cases hq
      rw [if_pos rfl, tch_self (hW.at hp), if_neg (by decide), nam_r, q1, iI_s, Int32.add_zero]
    · rw [if_neg (fun h => e ((at_ne hi2 hj).mp h)), m_touch hP hW hq hp, bnd_s]
      cases h2 : tch q p
      · rw [if_pos b2i_f, if_neg (by decide), nam_r, q1, iI_s, Int32.add_zero]
      · rw [if_neg (by decide), if_pos rfl, nam_r, q1, iI_s]
  · intro n acc
    show f6_touching_b4 M _ (n + 1) _ _ = _
    rw [f6_touching_b4, m_n hP, if_pos (by rw [iI_le (by omega) (by omega) (by omega) (by omega)]; omega)]
theorem m_touches (hP : PlV (M.2 0) L) (hW : Wf L) (hq : L[j]? = some q) {k : Nat} (hk : k < 100) : f6_touches M (iI (j : Int)) (iI (k : Int)) = some (b2i (L.any (fun p => tch q p && pW p == k + 1))) := by
  have hlen := hW.1
  have hj := hW.lt hq
  unfold f6_touches
  have := loop_inv0 L.length (fun n i acc => f6_touches_b5 M (iI (j : Int)) (iI (k : Int)) n acc i) (fun i acc => acc = b2i ((L.take i).any (fun p => tch q p && pW p == k + 1))) (fun acc => isz acc (some acc)) fuelN (fuel_lt (by omega)) ?_ ?_ 0 (by rw [List.take_zero]; rfl)
  · obtain ⟨acc, h1, h2⟩ := this
    rw [h2, h1, List.take_length, isz_b]
  · intro n i acc hi hJ
    obtain ⟨p, hp⟩ : ∃ p, L[i]? = some p := ⟨_, List.getElem?_eq_getElem hi⟩
    have hi2 := hW.lt hp
    have hO := (hW.at hp).b
    show ∃ acc', _ ∧ f6_touches_b5 M _ _ (n + 1) _ _ = f6_touches_b5 M _ _ n _ _
    rw [f6_touches_b5, m_n hP, if_neg (by rw [iI_le (by omega) (by omega) (by omega) (by omega)]; omega), hJ]
    unfold f6_touches_b49 f6_touches_b53 f6_touches_b54
    refine ⟨_, rfl, ?_⟩
    rw [any_take _ hp]
    cases h0 : (L.take i).any (fun p => tch q p && pW p == k + 1)
    · rw [if_pos b2i_f]
      by_cases e : i = j
      · subst e
        rw [hp] at hq; cases hq
        rw [if_pos rfl, tch_self (hW.at hp), q1, iI_s]; rfl
      · rw [if_neg (fun h => e ((at_ne hi2 hj).mp h)), m_w hP hW hp, bnd_s]
        by_cases h : pW p = k + 1
        · rw [if_pos ((w1_e p k (by omega) hk).mpr h), m_touch hP hW hq hp, bnd_s]
          cases h2 : tch q p
          · rw [if_pos b2i_f, q1, iI_s]; rfl
          · rw [if_neg (by decide), q1, iI_s, h]
            simp [b2i]; rfl
        · rw [if_neg (fun e => h ((w1_e p k (by omega) hk).mp e)), q1, iI_s, (by simpa using h : (pW p == k + 1) = false), Bool.and_false]; rfl
    · rw [if_neg (by decide), q1, iI_s]; rfl
  · intro n acc hJ
    show f6_touches_b5 M _ _ (n + 1) _ _ = _
    rw [f6_touches_b5, m_n hP, if_pos (by rw [iI_le (by omega) (by omega) (by omega) (by omega)]; omega)]
theorem m_areBeside (hP : PlV (M.2 0) L) (hW : Wf L) {k o : Nat} (hk : k < 100) (ho : o < 100) : f6_areBeside M (iI (k : Int)) (iI (o : Int)) = some (b2i (nbr L k o)) := by
  have hlen := hW.1
  unfold f6_areBeside
  have := loop_inv0 L.length (fun n i acc => f6_areBeside_b5 M (iI (k : Int)) (iI (o : Int)) n acc i) (fun i acc => acc = b2i ((L.take i).any (fun p => pW p == k + 1 && L.any (fun q => tch p q && pW q == o + 1)))) (fun acc => isz acc (some acc)) fuelN (fuel_lt (by omega)) ?_ ?_ 0 (by rw [List.take_zero]; rfl)
  · obtain ⟨acc, h1, h2⟩ := this
    rw [h2, h1, List.take_length, isz_b]
    rfl
  · intro n i acc hi hJ
    obtain ⟨p, hp⟩ : ∃ p, L[i]? = some p := ⟨_, List.getElem?_eq_getElem hi⟩
    have hO := (hW.at hp).b
    show ∃ acc', _ ∧ f6_areBeside_b5 M _ _ (n + 1) _ _ = f6_areBeside_b5 M _ _ n _ _
    rw [f6_areBeside_b5, m_n hP, if_neg (by rw [iI_le (by omega) (by omega) (by omega) (by omega)]; omega), hJ]
    unfold f6_areBeside_b43 f6_areBeside_b47 f6_areBeside_b48
    refine ⟨_, rfl, ?_⟩
    rw [any_take _ hp]
    cases h0 : (L.take i).any (fun p => pW p == k + 1 && L.any (fun q => tch p q && pW q == o + 1))
    · rw [if_pos b2i_f, m_w hP hW hp, bnd_s]
      by_cases h : pW p = k + 1
      · rw [if_pos ((w1_e p k (by omega) hk).mpr h), m_touches hP hW hp ho, bnd_s, (by simpa using h : (pW p == k + 1) = true), Bool.true_and, Bool.false_or]
        cases h2 : L.any (fun q => tch p q && pW q == o + 1)
        · rw [if_pos b2i_f, q1, iI_s]; rfl
        · rw [if_neg (by decide), q1, iI_s]; rfl
      · rw [if_neg (fun e => h ((w1_e p k (by omega) hk).mp e)), q1, iI_s, (by simpa using h : (pW p == k + 1) = false)]; rfl
    · rw [if_neg (by decide), q1, iI_s]; rfl
  · intro n acc hJ
    show f6_areBeside_b5 M _ _ (n + 1) _ _ = _
    rw [f6_areBeside_b5, m_n hP, if_pos (by rw [iI_le (by omega) (by omega) (by omega) (by omega)]; omega)]
end R2
