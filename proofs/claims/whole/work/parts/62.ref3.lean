/-! STAGE B, 32: the reference: the best plot, the other half, depths -/
def m5 (a : Int32) : Int32 := if a = iI (-1) then iI (-5) else a
theorem m5_k {k : Nat} (h : k < 1000000) : m5 (iI (k : Int)) = iI (k : Int) := by
  unfold m5; rw [if_neg (by rw [iI_eq (by omega) (by omega) (by omega) (by omega)]; omega)]
theorem m5_n : m5 (iI (-1)) = iI (-5) := if_pos rfl
theorem odd_t : ∀ d, d < 13 → ((iI ((d : Nat) : Int) - iI ((d : Nat) : Int) / 2 * 2 : Int32) = 1 ↔ d % 2 = 1) := by decide +kernel
theorem xorX_t : ∀ d, d < 13 → d % 2 = 1 → ∀ x, x < 64 → x % wid d = 0 → iI ((x : Nat) : Int) ^^^ iI (wid d : Int) = iI ((sibX d x : Nat) : Int) := by decide +kernel
theorem xorY_t : ∀ d, d < 13 → 0 < d → d % 2 = 0 → ∀ y, y < 64 → y % hei d = 0 → iI ((y : Nat) : Int) ^^^ iI (hei d : Int) = iI ((sibY d y : Nat) : Int) := by decide +kernel
section R3
variable {M : St} {L : List Pl} {i j : Nat} {p q : Pl}
theorem m_firstToGive (hP : PlV (M.2 0) L) (hW : Wf L) {k : Nat} (hk : k < 100) : ∃ acc, Best L (fun p => pW p == k + 1) gvb L.length acc ∧ f6_firstToGive M (iI (k : Int)) = some (m5 acc) := by
  have hlen := hW.1
  unfold f6_firstToGive
  have := loop_inv0 L.length (fun n i acc => f6_firstToGive_b5 M (iI (k : Int)) n acc i) (fun i acc => ∃ a, Best L (fun p => pW p == k + 1) gvb i a ∧ acc = m5 a) (fun acc => some acc) fuelN (fuel_lt (by omega)) ?_ ?_ (-5) ⟨iI (-1), Or.inl ⟨rfl, fun j q hj => absurd hj (Nat.not_lt_zero _)⟩, rfl⟩
  · obtain ⟨acc, ⟨a, h1, h2⟩, h3⟩ := this
    exact ⟨a, h1, by rw [h3, h2]⟩
  · rintro n i acc hi ⟨a, hI, ha⟩
    obtain ⟨p, hp⟩ : ∃ p, L[i]? = some p := ⟨_, List.getElem?_eq_getElem hi⟩
    have hO := (hW.at hp).b
    show ∃ acc', _ ∧ f6_firstToGive_b5 M _ (n + 1) _ _ = f6_firstToGive_b5 M _ n _ _
    rw [f6_firstToGive_b5, m_n hP, if_neg (by rw [iI_le (by omega) (by omega) (by omega) (by omega)]; omega), m_w hP hW hp, bnd_s, ha]
    unfold f6_firstToGive_b50 f6_firstToGive_b71 f6_firstToGive_b75 f6_firstToGive_b76 f6_firstToGive_b77
    have tk : Best L (fun p => pW p == k + 1) gvb (i + 1) (iI (i : Int)) → ∃ acc', (∃ a, Best L (fun p => pW p == k + 1) gvb (i + 1) a ∧ acc' = m5 a) ∧ f6_firstToGive_b5 M (iI (k : Int)) n (iI (i : Int)) (iI (i : Int) + 1) = f6_firstToGive_b5 M (iI (k : Int)) n acc' (iI ((i + 1 : Nat) : Int)) :=
      fun h => ⟨_, ⟨_, h, (m5_k (by omega)).symm⟩, by rw [q1, iI_s]⟩
    have kp : Best L (fun p => pW p == k + 1) gvb (i + 1) a → ∃ acc', (∃ a, Best L (fun p => pW p == k + 1) gvb (i + 1) a ∧ acc' = m5 a) ∧ f6_firstToGive_b5 M (iI (k : Int)) n (m5 a) (iI (i : Int) + 1) = f6_firstToGive_b5 M (iI (k : Int)) n acc' (iI ((i + 1 : Nat) : Int)) :=
      fun h => ⟨_, ⟨_, h, rfl⟩, by rw [q1, iI_s]⟩
    by_cases h : pW p = k + 1
    · rw [if_pos ((w1_e p k (by omega) hk).mpr h)]
      rcases id hI with ⟨g1, -⟩ | ⟨k2, r, g1, g2, g3, g4, g5⟩
      · rw [g1, m5_n, if_pos (show iI (-5) = -5 from rfl), if_pos (by decide)]
        exact tk (hI.take hp (by simpa using h) (gvb_ir p) (fun a b => gvb_tr a b) (Or.inl g1) (by omega))
      · have hOr := (hW.at g3).b
        have hk2 := hW.lt g3
        have hm : m5 a = iI (k2 : Int) := by rw [g2, m5_k (by omega)]
        have yes : gvb p r = true → Best L (fun p => pW p == k + 1) gvb (i + 1) (iI (i : Int)) := fun hb => hI.take hp (by simpa using h) (gvb_ir p) (fun a b => gvb_tr a b) (Or.inr ⟨k2, r, g1, g2, g3, hb⟩) (by omega)
        have no : gvb p r = false → Best L (fun p => pW p == k + 1) gvb (i + 1) a := fun hb => by
          rw [g2] at hI ⊢
          exact hI.keep (by omega) g3 hp hb
        rw [hm] at kp ⊢
        rw [if_neg (by rw [show (-5 : Int32) = iI (-5) from rfl, iI_eq (by omega) (by omega) (by omega) (by omega)]; omega), m_d hP hW hp, bnd_s, m_d hP hW g3, bnd_s, iI_sub, q0]
        by_cases d1 : pD r < pD p
        · rw [if_pos (by rw [iI_lt (by omega) (by omega) (by omega) (by omega)]; omega)]
          exact tk (yes ((gvb_iff p r).mpr (Or.inl d1)))
        · rw [if_neg (by rw [iI_lt (by omega) (by omega) (by omega) (by omega)]; omega)]
          by_cases d2 : pD p = pD r
          · rw [if_pos (by rw [iI_eq (by omega) (by omega) (by omega) (by omega)]; omega), m_isAhead hP hW hp g3, bnd_s]
            cases h2 : low p r
            · rw [if_pos (show b2i false = iI 0 from rfl)]
              exact kp (no (by rw [Bool.eq_false_iff, Ne, gvb_iff]; rw [Bool.eq_false_iff, Ne, low_iff] at h2; omega))
            · rw [if_neg (show ¬ b2i true = iI 0 by decide)]
              exact tk (yes ((gvb_iff p r).mpr (Or.inr ⟨d2, (low_iff p r).mp h2⟩)))
          · rw [if_neg (by rw [iI_eq (by omega) (by omega) (by omega) (by omega)]; omega)]
            exact kp (no (by rw [Bool.eq_false_iff, Ne, gvb_iff]; omega))
    · rw [if_neg (fun e => h ((w1_e p k (by omega) hk).mp e))]
      exact kp (hI.skip hp (by simpa using h))
  · rintro n acc -
    show f6_firstToGive_b5 M _ (n + 1) _ _ = _
    rw [f6_firstToGive_b5, m_n hP, if_pos (by rw [iI_le (by omega) (by omega) (by omega) (by omega)]; omega)]
theorem m_first (hP : PlV (M.2 0) L) (hW : Wf L) {k : Nat} (hk : k < 100) : (∃ (i : Nat) (p : Pl), L[i]? = some p ∧ IsBest L k p ∧ f6_firstToGive M (iI (k : Int)) = some (iI (i : Int))) ∨ ((∀ p ∈ L, pW p ≠ k + 1) ∧ f6_firstToGive M (iI (k : Int)) = some (iI (-5))) := by
  obtain ⟨acc, h1, h2⟩ := m_firstToGive hP hW hk
  rcases h1 with ⟨h3, h4⟩ | ⟨i, p, h3, h4, h5, h6, h7⟩
  · refine Or.inr ⟨fun p hm e => ?_, by rw [h2, h3, m5_n]⟩
    obtain ⟨j, hj⟩ := List.getElem?_of_mem hm
    have : (pW p == k + 1) = false := h4 j p (List.getElem?_eq_some_iff.mp hj).1 hj
    rw [e] at this
    simp at this
  · have := hW.lt h5
    refine Or.inl ⟨i, p, h5, ⟨List.mem_of_getElem? h5, by simpa using h6, fun q hq e => ?_⟩, by rw [h2, h4, m5_k (by omega)]⟩
    obtain ⟨j, hj⟩ := List.getElem?_of_mem hq
    exact h7 j q (List.getElem?_eq_some_iff.mp hj).1 hj (by show (pW q == k + 1) = true; rw [e]; simp)
theorem m_otherHalf (hP : PlV (M.2 0) L) (hW : Wf L) (hp : L[i]? = some p) : (∃ (j : Nat) (q : Pl), L[j]? = some q ∧ isHalf p q = true ∧ f6_otherHalf M (iI (i : Int)) = some (iI (j : Int))) ∨ ((∀ q ∈ L, isHalf p q = false) ∧ f6_otherHalf M (iI (i : Int)) = some (iI (-5))) := by
  have hlen := hW.1
  have hOk := hW.at hp
  have hO := hOk.b
  unfold f6_otherHalf
  rw [m_d hP hW hp, bnd_s]
  by_cases h0 : pD p = 0
  · rw [h0, if_pos (show iI ((0 : Nat) : Int) = 0 from rfl)]
    refine Or.inr ⟨fun q _ => ?_, rfl⟩
    cases h : isHalf p q
    · rfl
    · exact absurd h0 (isHalf_iff.mp h).1
  · have hs := sib_in hOk h0
    rw [if_neg (by rw [q0, iI_eq (by omega) (by omega) (by omega) (by omega)]; omega), m_x hP hW hp, bnd_s, wide_t _ (by omega), bnd_s, bnd_s]
    have key : f6_otherHalf_b69 M (iI (pD p : Int)) (iI (sibX (pD p) (pX p) : Int)) (iI (sibY (pD p) (pY p) : Int)) = f6_otherHalf_b69 M (iI (pD p : Int)) (iI (sibX (pD p) (pX p) : Int)) (iI (sibY (pD p) (pY p) : Int)) := rfl
    have lp := loop_find0 L (fun n i => f6_otherHalf_b74 M (iI (pD p : Int)) (iI (sibX (pD p) (pX p) : Int)) (iI (sibY (pD p) (pY p) : Int)) n i) (fun q => isHalf p q) (fun j => some (iI (j : Int))) (some (iI (-5))) fuelN (fuel_lt (by omega)) ?_ ?_
    · have e : (if (iI (pD p : Int) - iI (pD p : Int) / 2 * 2 : Int32) = 1 then f6_otherHalf_b41 M (iI (i : Int)) (iI (pD p : Int)) (iI (pX p : Int) ^^^ iI (wid (pD p) : Int)) else f6_otherHalf_b41 M (iI (i : Int)) (iI (pD p : Int)) (iI (pX p : Int))) = f6_otherHalf_b74 M (iI (pD p : Int)) (iI (sibX (pD p) (pX p) : Int)) (iI (sibY (pD p) (pY p) : Int)) fuelN 0 := by
        unfold f6_otherHalf_b41 f6_otherHalf_b69
        rw [m_y hP hW hp, bnd_s, bnd_s, high_t _ (by omega), bnd_s]
        by_cases hd : pD p % 2 = 1
        · rw [if_pos ((odd_t _ (by omega)).mpr hd), if_pos ((odd_t _ (by omega)).mpr hd), xorX_t _ (by omega) hd _ (by omega) hOk.2.2.2.1, sibY_0 hd]
        · rw [if_neg (fun h => hd ((odd_t _ (by omega)).mp h)), if_neg (fun h => hd ((odd_t _ (by omega)).mp h)), bnd_s, bnd_s, xorY_t _ (by omega) (by omega) (by omega) _ (by omega) hOk.2.2.2.2.1, sibX_0 (by omega)]
      rw [e]
      rcases lp with ⟨j, q, h1, h2, h3⟩ | ⟨h1, h2⟩
      · exact Or.inl ⟨j, q, h1, h2, h3⟩
      · exact Or.inr ⟨h1, h2⟩
    · intro n j q hq
      have hj := (List.getElem?_eq_some_iff.mp hq).1
      have hOq := (hW.at hq).b
      show f6_otherHalf_b74 M _ _ _ (n + 1) _ = _
      rw [f6_otherHalf_b74, m_n hP, if_neg (by rw [iI_le (by omega) (by omega) (by omega) (by omega)]; omega), m_d hP hW hq, bnd_s, m_x hP hW hq, bnd_s, m_y hP hW hq, bnd_s]
      unfold f6_otherHalf_b122
      by_cases d1 : pD q = pD p
      · rw [if_pos (by rw [d1])]
        by_cases d2 : pX q = sibX (pD p) (pX p)
        · rw [if_pos (by rw [d2])]
          by_cases d3 : pY q = sibY (pD p) (pY p)
          · rw [if_pos (by rw [d3]), if_pos (isHalf_iff.mpr ⟨h0, d1, d2, d3⟩)]
          · rw [if_neg (by rw [iI_eq (by omega) (by omega) (by omega) (by omega)]; omega), if_neg (fun h => d3 (isHalf_iff.mp h).2.2.2), q1, iI_s]
        · rw [if_neg (by rw [iI_eq (by omega) (by omega) (by omega) (by omega)]; omega), if_neg (fun h => d2 (isHalf_iff.mp h).2.2.1), q1, iI_s]
      · rw [if_neg (by rw [iI_eq (by omega) (by omega) (by omega) (by omega)]; omega), if_neg (fun h => d1 (isHalf_iff.mp h).2.1), q1, iI_s]
    · intro n
      show f6_otherHalf_b74 M _ _ _ (n + 1) _ = _
      rw [f6_otherHalf_b74, m_n hP, if_pos (by rw [iI_le (by omega) (by omega) (by omega) (by omega)]; omega)]
      rfl
theorem m_outside {v a w : Nat} (hv : v < 64) (ha : a < 64) (hw : 1 ≤ w) (hw2 : a + w ≤ 64) : f6_outside (iI (v : Int)) (iI (a : Int)) (iI ((a : Int) + w - 1)) = some (iI (outs v a w : Int)) := by
  unfold f6_outside f6_outside_b23 outs
  simp only [iI_sub, q0]
  simp (disch := omega) only [iI_lt, iI_le]
  repeat' split
  all_goals first | omega | rfl | (congr 2 <;> omega)
theorem m_distance (hP : PlV (M.2 0) L) (hW : Wf L) (hp : L[i]? = some p) {x y : Nat} (hx : x < 64) (hy : y < 64) : f6_distance M (iI (i : Int)) (iI (x : Int)) (iI (y : Int)) = some (iI (dst p x y : Int)) := by
  have hO := (hW.at hp).b
  unfold f6_distance
  rw [m_x hP hW hp, bnd_s, m_lastX hP hW hp, bnd_s, m_outside hx (by omega) (by omega) (by omega), bnd_s, m_y hP hW hp, bnd_s, m_lastY hP hW hp, bnd_s, m_outside hy (by omega) (by omega) (by omega), bnd_s, iI_add]
  rfl
end R3
