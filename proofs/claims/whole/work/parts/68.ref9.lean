/-! STAGE B, 38: halves -/
section R9
variable {M : St} {A : Ab} {g : Nat} {L : List Pl} {i j : Nat} {p q : Pl}
theorem w_lit {α : Type} (M : St) {z : Int32} {i : Nat} (hz : z = iI (i : Int)) (hi : i < 886) (k : Int32 → Option α) : arr (M.2 0) (mlen 0) z k = k (M.2 0 i) := by
  rw [hz, ml0, arr_i hi (by omega)]
theorem rd0 {α : Type} (M : St) (k : Int32 → Option α) : arr (M.2 0) (mlen 0) 0 k = k (M.2 0 0) := w_lit M (i := 0) rfl (by omega) k
theorem wr0 {α : Type} (M : St) (v : Int32) (k : St → Option α) : (sto (mlen 0) 0 <| nam (sA M 0 (Int32.toNatClampNeg 0) v) k) = k (sA M 0 0 v) := w_cell M (i := 0) rfl (by omega) v k
theorem rd1 {α : Type} (M : St) (k : Int32 → Option α) : arr (M.2 0) (mlen 0) 1 k = k (M.2 0 1) := w_lit M (i := 1) rfl (by omega) k
theorem wr1 {α : Type} (M : St) (v : Int32) (k : St → Option α) : (sto (mlen 0) 1 <| nam (sA M 0 (Int32.toNatClampNeg 1) v) k) = k (sA M 0 1 v) := w_cell M (i := 1) rfl (by omega) v k
theorem rd2 {α : Type} (M : St) (k : Int32 → Option α) : arr (M.2 0) (mlen 0) 2 k = k (M.2 0 2) := w_lit M (i := 2) rfl (by omega) k
theorem wr2 {α : Type} (M : St) (v : Int32) (k : St → Option α) : (sto (mlen 0) 2 <| nam (sA M 0 (Int32.toNatClampNeg 2) v) k) = k (sA M 0 2 v) := w_cell M (i := 2) rfl (by omega) v k
theorem rd3 {α : Type} (M : St) (k : Int32 → Option α) : arr (M.2 0) (mlen 0) 3 k = k (M.2 0 3) := w_lit M (i := 3) rfl (by omega) k
theorem wr3 {α : Type} (M : St) (v : Int32) (k : St → Option α) : (sto (mlen 0) 3 <| nam (sA M 0 (Int32.toNatClampNeg 3) v) k) = k (sA M 0 3 v) := w_cell M (i := 3) rfl (by omega) v k
theorem rd4 {α : Type} (M : St) (k : Int32 → Option α) : arr (M.2 0) (mlen 0) 4 k = k (M.2 0 4) := w_lit M (i := 4) rfl (by omega) k
theorem wr4 {α : Type} (M : St) (v : Int32) (k : St → Option α) : (sto (mlen 0) 4 <| nam (sA M 0 (Int32.toNatClampNeg 4) v) k) = k (sA M 0 4 v) := w_cell M (i := 4) rfl (by omega) v k
theorem rd5 {α : Type} (M : St) (k : Int32 → Option α) : arr (M.2 0) (mlen 0) 5 k = k (M.2 0 5) := w_lit M (i := 5) rfl (by omega) k
theorem wr5 {α : Type} (M : St) (v : Int32) (k : St → Option α) : (sto (mlen 0) 5 <| nam (sA M 0 (Int32.toNatClampNeg 5) v) k) = k (sA M 0 5 v) := w_cell M (i := 5) rfl (by omega) v k
theorem m_addH (hP : PlV (M.2 0) L) (hW : Wf L) (hl : L.length < 181) (hi : L[i]? = some p) (x y d : Nat) :
    ∃ M', f6_halves_b93 M (iI (i : Int)) (iI (y : Int)) (iI (x : Int)) (iI (d : Int)) (iI (L.length : Int)) = some M' ∧ FrM M M' ∧ PlV (M'.2 0) (L ++ [(x, y, d, pW p)]) ∧ M'.2 0 3 = M.2 0 3 + 1 ∧ (∀ j, j < 54 → j ≠ 1 → j ≠ 3 → M'.2 0 j = M.2 0 j) ∧ ∀ j, 826 ≤ j → M'.2 0 j = M.2 0 j := by
  have hlt := (List.getElem?_eq_some_iff.mp hi).1
  unfold f6_halves_b93
  obtain ⟨M1, h1, h2, h3, h4, h5, h6, h7⟩ := m_layPlot M (i := L.length) (by omega) (iI (d : Int)) (iI (x : Int)) (iI (y : Int)) (iI (pW p : Int))
  rw [m_w hP hW hi, bnd_s, h1, bnd_s, rd1, wr1, rd3, wr3]
  have e1 : M1.2 0 1 = iI (L.length : Int) := by rw [h7 _ (by omega)]; exact hP.1
  refine ⟨_, rfl, (h2.tr (FrM.sA _ _ _)).tr (FrM.sA _ _ _), ⟨?_, fun j r hj => ?_⟩, ?_, fun j hj hj1 hj3 => ?_, fun j hj => ?_⟩
  · rw [sA_eq, upd_n (by omega), sA_eq, upd_s, e1, q1, iI_s, List.length_append]; rfl
  · rw [sA_eq, upd_n (by omega), upd_n (by omega), upd_n (by omega), upd_n (by omega), sA_eq, upd_n (by omega), upd_n (by omega), upd_n (by omega), upd_n (by omega)]
    by_cases e : j = L.length
    · subst e
      rw [List.getElem?_append_right (Nat.le_refl _), Nat.sub_self] at hj
      cases hj
      exact ⟨h3, h4, h5, h6⟩
    · have hj2 : L[j]? = some r := by
        by_cases hlt : j < L.length
        · rw [List.getElem?_append_left hlt] at hj; exact hj
        · rw [List.getElem?_append_right (by omega)] at hj
          have := (List.getElem?_eq_some_iff.mp hj).1
          simp at this
          omega
      have := (List.getElem?_eq_some_iff.mp hj2).1
      rw [h7 _ (by omega), h7 _ (by omega), h7 _ (by omega), h7 _ (by omega)]
      exact hP.2 j r hj2
  · rw [sA_eq, upd_s, sA_eq, upd_n (by omega), h7 _ (by omega)]
  · rw [sA_eq, upd_n hj3, sA_eq, upd_n hj1, h7 _ (by omega)]
  · rw [sA_eq, upd_n (by omega), sA_eq, upd_n (by omega), h7 _ (by omega)]
theorem m_halves (hP : PlV (M.2 0) L) (hW : Wf L) (hl : L.length < 181) (hi : L[i]? = some p) (hd : pD p < 12) :
    ∃ M', f6_halves M (iI (i : Int)) = some M' ∧ FrM M M' ∧ PlV (M'.2 0) (L.set i (loH p) ++ [hiH p]) ∧ M'.2 0 3 = M.2 0 3 + 1 ∧ (∀ j, j < 54 → j ≠ 1 → j ≠ 3 → M'.2 0 j = M.2 0 j) ∧ ∀ j, 826 ≤ j → M'.2 0 j = M.2 0 j := by
  have hlt := (List.getElem?_eq_some_iff.mp hi).1
  have hOk := hW.at hi
  have hO := hOk.b
  have hdv := wid_dvd (pD p) (by omega) (pD p + 1) (by omega) (by omega)
  obtain ⟨M1, h1, h2, h3, h4⟩ := m_set hP (by omega) hlt (pX p) (pY p) (pD p + 1) (pW p)
  have h3' : PlV (M1.2 0) (L.set i (loH p)) := h3
  have hOl : OkP (loH p) := by
    refine ⟨by show pD p + 1 ≤ 12; omega, hOk.2.1, hOk.2.2.1, ?_, ?_, hOk.2.2.2.2.2⟩
    · show pX p % wid (pD p + 1) = 0
      have := hOk.2.2.2.1
      rw [hdv.1] at this
      exact Nat.mod_eq_zero_of_dvd (Nat.dvd_trans (Nat.dvd_mul_right _ _) (Nat.dvd_of_mod_eq_zero this))
    · show pY p % hei (pD p + 1) = 0
      have := hOk.2.2.2.2.1
      rw [hdv.2] at this
      exact Nat.mod_eq_zero_of_dvd (Nat.dvd_trans (Nat.dvd_mul_right _ _) (Nat.dvd_of_mod_eq_zero this))
  have hW1 : Wf (L.set i (loH p)) := by
    refine ⟨by rw [List.length_set]; omega, fun r hr => ?_⟩
    rcases List.mem_or_eq_of_mem_set hr with h | h
    · exact hW.2 r h
    · rw [h]; exact hOl
  have hi1 : (L.set i (loH p))[i]? = some (loH p) := by rw [List.getElem?_set, if_pos rfl, if_pos hlt]
  have hlen1 : (L.set i (loH p)).length = L.length := List.length_set
  have e1 : M1.2 0 1 = iI (L.length : Int) := by rw [h4 _ (by omega)]; exact hP.1
  have fin : ∀ x y, hiH p = (x, y, pD p + 1, pW p) → ∃ M', f6_halves_b93 M1 (iI (i : Int)) (iI (y : Int)) (iI (x : Int)) (iI ((pD p + 1 : Nat) : Int)) (iI (L.length : Int)) = some M' ∧ FrM M M' ∧ PlV (M'.2 0) (L.set i (loH p) ++ [hiH p]) ∧ M'.2 0 3 = M.2 0 3 + 1 ∧ (∀ j, j < 54 → j ≠ 1 → j ≠ 3 → M'.2 0 j = M.2 0 j) ∧ ∀ j, 826 ≤ j → M'.2 0 j = M.2 0 j := by
    intro x y e
    obtain ⟨M', g1, g2, g3, g4, g5, g6⟩ := m_addH (M := M1) h3' hW1 (by rw [hlen1]; exact hl) hi1 x y (pD p + 1)
    rw [hlen1] at g1
    refine ⟨M', g1, h2.tr g2, by rw [e]; exact g3, by rw [g4, h4 _ (by omega)], fun j hj hj1 hj3 => by rw [g5 j hj hj1 hj3, h4 _ (by omega)], fun j hj => by rw [g6 j hj, h4 _ (by omega)]⟩
  unfold f6_halves
  rw [m_d hP hW hi, bnd_s, nam_r, m_x hP hW hi, bnd_s, m_y hP hW hi, bnd_s]
  have es : (iI (pD p : Int) + 1 : Int32) = iI ((pD p + 1 : Nat) : Int) := by rw [q1, iI_s]
  rw [es]
  unfold f6_halves_b36 f6_halves_b76
  rw [m_w hP hW hi, bnd_s, h1, bnd_s, rd1, e1, bnd_s, h1, bnd_s, rd1, e1, wide_t _ (by omega), bnd_s, high_t _ (by omega), bnd_s]
  by_cases ho : (pD p + 1) % 2 = 1
  · rw [if_pos ((odd_t _ (by omega)).mpr ho), if_neg (by decide), if_neg (by decide), iI_add, show (pX p : Int) + (wid (pD p + 1) : Int) = ((pX p + wid (pD p + 1) : Nat) : Int) by omega]
    exact fin _ _ (by unfold hiH; rw [if_pos ho, if_pos ho])
  · rw [if_neg (fun h => ho ((odd_t _ (by omega)).mp h)), if_pos rfl, if_pos rfl, iI_add, show (pY p : Int) + (hei (pD p + 1) : Int) = ((pY p + hei (pD p + 1) : Nat) : Int) by omega]
    exact fin _ _ (by unfold hiH; rw [if_neg ho, if_neg ho])
end R9
