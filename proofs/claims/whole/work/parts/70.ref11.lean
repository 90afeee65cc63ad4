/-! STAGE B, 40: comes, whole; campers laid -/
theorem cell_c0 (i : Nat) : (6 + (3 : Int32) * iI (i : Int)) + 0 = iI ((6 + 3 * i : Nat) : Int) := by
  rw [show (0 : Int32) = iI 0 from rfl, cell_k]; congr 1
theorem cell_c1 (i : Nat) : (6 + (3 : Int32) * iI (i : Int)) + 1 = iI ((6 + 3 * i + 1 : Nat) : Int) := by
  rw [show (1 : Int32) = iI 1 from rfl, cell_k]; congr 1
theorem cell_c2 (i : Nat) : (6 + (3 : Int32) * iI (i : Int)) + 2 = iI ((6 + 3 * i + 2 : Nat) : Int) := by
  rw [show (2 : Int32) = iI 2 from rfl, cell_k]; congr 1
theorem m_layC0 (M : St) {k : Nat} (hk : k < 16) (v : Int32) : f6_layCamper M (iI (k : Int)) 0 v = some (sA M 0 (6 + 3 * k) v) := by
  unfold f6_layCamper; rw [w_cell M (i := 6 + 3 * k) (cell_c0 k) (by omega)]
theorem m_layC1 (M : St) {k : Nat} (hk : k < 16) (v : Int32) : f6_layCamper M (iI (k : Int)) 1 v = some (sA M 0 (6 + 3 * k + 1) v) := by
  unfold f6_layCamper; rw [w_cell M (i := 6 + 3 * k + 1) (cell_c1 k) (by omega)]
theorem m_layC2 (M : St) {k : Nat} (hk : k < 16) (v : Int32) : f6_layCamper M (iI (k : Int)) 2 v = some (sA M 0 (6 + 3 * k + 2) v) := by
  unfold f6_layCamper; rw [w_cell M (i := 6 + 3 * k + 2) (cell_c2 k) (by omega)]
theorem PlV.fr {v v' : Nat → Int32} {L : List Pl} (h : PlV v L) (hl : L.length ≤ 181) (h1 : v' 1 = v 1) (h2 : ∀ j, 54 ≤ j → j < 826 → v' j = v j) : PlV v' L := by
  refine ⟨h1.trans h.1, fun i p hp => ?_⟩
  have := (List.getElem?_eq_some_iff.mp hp).1
  rw [h2 _ (by omega) (by omega), h2 _ (by omega) (by omega), h2 _ (by omega) (by omega), h2 _ (by omega) (by omega)]
  exact h.2 i p hp
theorem prt_at {p : Pl} (h : OkP p) {x y : Nat} (hi : inP p x y = true) (w : Nat) : prt x y (pD p) w = (pX p, pY p, pD p, w) := by
  rw [inP_iff h] at hi
  obtain ⟨h1, h2, h3, h4, h5, h6⟩ := h
  unfold prt
  rw [hi.1, hi.2, Nat.div_mul_cancel (Nat.dvd_of_mod_eq_zero h4), Nat.div_mul_cancel (Nat.dvd_of_mod_eq_zero h5)]
theorem m_comes {M : St} {A : Ab} (hV : VecV (M.2 0) A) (hI : Inv A) {x y t : Nat} (hx : x < 64) (hy : y < 64) (h16 : aN A < 16) (hC : Cm A x y t) :
    ∃ M', f6_comes M (iI (x : Int)) (iI (y : Int)) = some (iI (aN A : Int), M') ∧ FrM M M' ∧ VecV (M'.2 0) (comeA A x y t) := by
  obtain ⟨⟨L, hp, hP⟩, hM⟩ := hV
  have hm := plAt_in hI.til hx hy
  have hOp := hI.2.1 _ hm.1
  have hOb := hOp.b
  have hll := (hI.wf.perm hp).1
  unfold f6_comes f6_comes_b67
  have ew : (iI (aN A : Int) + 1 : Int32) = iI ((aN A + 1 : Nat) : Int) := by rw [q1, iI_s]
  rw [rd0, rd0, wr0, hM.1, ew, m_layC0 _ h16, bnd_s, m_layC1 _ h16, bnd_s, m_layC2 _ h16, bnd_s]
  obtain ⟨M6, h6⟩ : ∃ M6, M6 = sA (sA (sA (sA M 0 0 (iI ((aN A + 1 : Nat) : Int))) 0 (6 + 3 * aN A) 1) 0 (6 + 3 * aN A + 1) (iI (x : Int))) 0 (6 + 3 * aN A + 2) (iI (y : Int)) := ⟨_, rfl⟩
  rw [← h6]
  have hF : FrM M M6 := by rw [h6]; exact (((FrM.sA _ _ _).tr (FrM.sA _ _ _)).tr (FrM.sA _ _ _)).tr (FrM.sA _ _ _)
  have hc : ∀ j, M6.2 0 j = if j = 6 + 3 * aN A + 2 then iI (y : Int) else if j = 6 + 3 * aN A + 1 then iI (x : Int) else if j = 6 + 3 * aN A then 1 else if j = 0 then iI ((aN A + 1 : Nat) : Int) else M.2 0 j := by
    intro j
    rw [h6, sA_eq]
    by_cases e1 : j = 6 + 3 * aN A + 2
    · rw [if_pos e1, e1, upd_s]
    · rw [if_neg e1, upd_n e1, sA_eq]
      by_cases e2 : j = 6 + 3 * aN A + 1
      · rw [if_pos e2, e2, upd_s]
      · rw [if_neg e2, upd_n e2, sA_eq]
        by_cases e3 : j = 6 + 3 * aN A
        · rw [if_pos e3, e3, upd_s]
        · rw [if_neg e3, upd_n e3, sA_eq]
          by_cases e4 : j = 0
          · rw [if_pos e4, e4, upd_s]
          · rw [if_neg e4, upd_n e4]
  have same : ∀ j, j ≠ 0 → (j < 6 + 3 * aN A ∨ 6 + 3 * aN A + 3 ≤ j) → M6.2 0 j = M.2 0 j := fun j h0 h1 => by
    rw [hc j, if_neg (by omega), if_neg (by omega), if_neg (by omega), if_neg h0]
  have hP6 : PlV (M6.2 0) L := hP.fr hll (same 1 (by omega) (by omega)) (fun j h1 h2 => same j (by omega) (by omega))
  have hV6 : VmV (M6.2 0) (comeA A x y 0) := by
    obtain ⟨v1, v2, v3, v4, v5, v6, v7, v8⟩ := hM
    refine ⟨?_, by rw [same _ (by omega) (by omega)]; exact v2, ?_, by rw [same _ (by omega) (by omega)]; exact v4, by rw [same _ (by omega) (by omega)]; exact v5, fun k hk => ?_, fun k hk hk2 => ?_, fun k hk => ?_⟩
    · rw [hc 0, if_neg (by omega), if_neg (by omega), if_neg (by omega), if_pos rfl]; rfl
    · rw [same _ (by omega) (by omega), v3]
      show aC1 A = aC1 A + 0
      exact (Int32.add_zero _).symm
    · have hk2 : k < aN A + 1 := hk
      show M6.2 0 (6 + 3 * k) = iI (updN (aH A) (aN A) 1 k : Nat) ∧ M6.2 0 (6 + 3 * k + 1) = iI (updN (aX A) (aN A) x k : Nat) ∧ M6.2 0 (6 + 3 * k + 2) = iI (updN (aY A) (aN A) y k : Nat)
      by_cases e : k = aN A
      · subst e
        rw [updN_s, updN_s, updN_s, hc (6 + 3 * aN A), hc (6 + 3 * aN A + 1), hc (6 + 3 * aN A + 2), if_neg (by omega), if_neg (by omega), if_pos rfl, if_neg (by omega), if_pos rfl, if_pos rfl]
        exact ⟨rfl, rfl, rfl⟩
      · rw [updN_n _ _ e, updN_n _ _ e, updN_n _ _ e, same _ (by omega) (by omega), same _ (by omega) (by omega), same _ (by omega) (by omega)]
        exact v6 k (by omega)
    · have hk3 : aN A + 1 ≤ k := hk
      rw [same _ (by omega) (by omega)]; exact v7 k (by omega) hk2
    · rw [same _ (by omega) (by omega), same _ (by omega) (by omega), same _ (by omega) (by omega)]; exact v8 k hk
  have hL0 : L.Perm (dwn A x y 0 (pW (plAt (aL A) x y))) := by
    unfold dwn
    rw [Nat.add_zero, prt_at hOp hm.2, hlv, List.nil_append]
    exact hp.trans (List.perm_cons_erase hm.1)
  obtain ⟨j, hj, hf⟩ := m_at (M := M6) hP6 hp hI hx hy
  have hj2 : L[j]? = some (prt x y (pD (plAt (aL A) x y) + 0) (pW (plAt (aL A) x y))) := by
    rw [Nat.add_zero, prt_at hOp hm.2]; exact hj
  rw [hf, bnd_s, m_w hP6 (hI.wf.perm hp) hj, bnd_s, nam_r]
  have es : (iI (pW (plAt (aL A) x y) : Int) - 1 : Int32) = iI ((pW (plAt (aL A) x y) : Int) - 1) := by rw [q1, iI_sub]
  rw [es]
  have htl : t < 99999 := by have := hC.le hI hx hy; omega
  obtain ⟨M', g1, g2, g3⟩ := m_comesLoop hI hx hy h16 hC t 0 M6 L j fuelN (by omega) (fuel_lt htl) hP6 hL0 hj2 hV6
  refine ⟨M', ?_, hF.tr g2, g3⟩
  rcases hC with ⟨h0, h1⟩ | ⟨h0, h1⟩
  · rw [if_pos (by rw [q0, iI_lt (by omega) (by omega) (by omega) (by omega)]; omega)]
    rw [if_pos h1] at g1
    exact g1
  · rw [if_neg (by rw [q0, iI_lt (by omega) (by omega) (by omega) (by omega)]; omega)]
    rw [if_neg (by have := h1.1; omega)] at g1
    exact g1
