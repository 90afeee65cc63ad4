/-! STAGE B, 37: the reference halves a plot on the way down -/
theorem spX : ∀ e, e < 12 → (e + 1) % 2 = 1 → ∀ x, x < 64 →
    ((x / wid (e + 1) * wid (e + 1) = x / wid e * wid e ∧ sibX (e + 1) (x / wid (e + 1) * wid (e + 1)) / wid (e + 1) * wid (e + 1) = x / wid e * wid e + wid (e + 1)) ∨
     (x / wid (e + 1) * wid (e + 1) = x / wid e * wid e + wid (e + 1) ∧ sibX (e + 1) (x / wid (e + 1) * wid (e + 1)) / wid (e + 1) * wid (e + 1) = x / wid e * wid e)) := by decide +kernel
theorem spY : ∀ e, e < 12 → (e + 1) % 2 = 0 → ∀ x, x < 64 →
    ((x / hei (e + 1) * hei (e + 1) = x / hei e * hei e ∧ sibY (e + 1) (x / hei (e + 1) * hei (e + 1)) / hei (e + 1) * hei (e + 1) = x / hei e * hei e + hei (e + 1)) ∨
     (x / hei (e + 1) * hei (e + 1) = x / hei e * hei e + hei (e + 1) ∧ sibY (e + 1) (x / hei (e + 1) * hei (e + 1)) / hei (e + 1) * hei (e + 1) = x / hei e * hei e)) := by decide +kernel
/-- the low half and the high half of a plot -/
def loH (p : Pl) : Pl := (pX p, pY p, pD p + 1, pW p)
def hiH (p : Pl) : Pl := (if (pD p + 1) % 2 = 1 then pX p + wid (pD p + 1) else pX p, if (pD p + 1) % 2 = 1 then pY p else pY p + hei (pD p + 1), pD p + 1, pW p)
theorem halves_part {x y e w : Nat} (he : e < 12) (hx : x < 64) (hy : y < 64) (K : List Pl) :
    (loH (prt x y e w) :: hiH (prt x y e w) :: K).Perm (prt x y (e + 1) w :: prt (sibX (e + 1) (x / wid (e + 1) * wid (e + 1))) (sibY (e + 1) (y / hei (e + 1) * hei (e + 1))) (e + 1) w :: K) := by
  have w1 := (wid_in (e + 1) (by omega)).1
  have w2 := (hei_in (e + 1) (by omega)).1
  by_cases h : (e + 1) % 2 = 1
  · have hs := wid_step1 e (by omega) h
    have eY : y / hei (e + 1) * hei (e + 1) = y / hei e * hei e := by rw [hs.2]
    have eS : sibY (e + 1) (y / hei (e + 1) * hei (e + 1)) / hei (e + 1) * hei (e + 1) = y / hei e * hei e := by rw [sibY_0 h, Nat.mul_div_cancel _ w2, eY]
    have el : loH (prt x y e w) = (x / wid e * wid e, y / hei e * hei e, e + 1, w) := rfl
    have eh : hiH (prt x y e w) = (x / wid e * wid e + wid (e + 1), y / hei e * hei e, e + 1, w) := by
      show (if (e + 1) % 2 = 1 then x / wid e * wid e + wid (e + 1) else x / wid e * wid e, if (e + 1) % 2 = 1 then y / hei e * hei e else y / hei e * hei e + hei (e + 1), e + 1, w) = _
      rw [if_pos h, if_pos h]
    rw [el, eh]
    unfold prt
    rw [eS, eY]
    rcases spX e he h x hx with ⟨a, b⟩ | ⟨a, b⟩
    · rw [b, a]
    · rw [b, a]; exact List.Perm.swap _ _ _
  · have hs := wid_step0 e (by omega) (by omega)
    have eX : x / wid (e + 1) * wid (e + 1) = x / wid e * wid e := by rw [hs.1]
    have eS : sibX (e + 1) (x / wid (e + 1) * wid (e + 1)) / wid (e + 1) * wid (e + 1) = x / wid e * wid e := by rw [sibX_0 (by omega), Nat.mul_div_cancel _ w1, eX]
    have el : loH (prt x y e w) = (x / wid e * wid e, y / hei e * hei e, e + 1, w) := rfl
    have eh : hiH (prt x y e w) = (x / wid e * wid e, y / hei e * hei e + hei (e + 1), e + 1, w) := by
      show (if (e + 1) % 2 = 1 then x / wid e * wid e + wid (e + 1) else x / wid e * wid e, if (e + 1) % 2 = 1 then y / hei e * hei e else y / hei e * hei e + hei (e + 1), e + 1, w) = _
      rw [if_neg h, if_neg h]
    rw [el, eh]
    unfold prt
    rw [eS, eX]
    rcases spY e he (by omega) y hy with ⟨a, b⟩ | ⟨a, b⟩
    · rw [b, a]
    · rw [b, a]; exact List.Perm.swap _ _ _
theorem VmV.fr {v v' : Nat → Int32} {A : Ab} (h : VmV v A) (h16 : aN A ≤ 16) (h1 : ∀ j, j < 54 → j ≠ 1 → v' j = v j) (h2 : ∀ j, 826 ≤ j → v' j = v j) : VmV v' A := by
  obtain ⟨a, b, c, d, e, f, g, i⟩ := h
  refine ⟨by rw [h1 _ (by omega) (by omega)]; exact a, by rw [h1 _ (by omega) (by omega)]; exact b, by rw [h1 _ (by omega) (by omega)]; exact c, by rw [h1 _ (by omega) (by omega)]; exact d, by rw [h1 _ (by omega) (by omega)]; exact e, fun k hk => ?_, fun k hk hk2 => ?_, fun j hj => ?_⟩
  · rw [h1 _ (by omega) (by omega), h1 _ (by omega) (by omega), h1 _ (by omega) (by omega)]; exact f k hk
  · rw [h1 _ (by omega) (by omega)]; exact g k hk hk2
  · rw [h2 _ (by omega), h2 _ (by omega), h2 _ (by omega)]; exact i j hj
section R8
variable {M : St} {A : Ab} {g : Nat} {L : List Pl} {i j : Nat} {p q : Pl}
theorem m_set (hP : PlV (M.2 0) L) (hl : L.length ≤ 181) (hi : i < L.length) (x y d w : Nat) : ∃ M', f6_layPlot M (iI (i : Int)) (iI (d : Int)) (iI (x : Int)) (iI (y : Int)) (iI (w : Int)) = some M' ∧ FrM M M' ∧ PlV (M'.2 0) (L.set i (x, y, d, w)) ∧ ∀ j, (j < 54 + 4 * i ∨ 54 + 4 * i + 4 ≤ j) → M'.2 0 j = M.2 0 j := by
  obtain ⟨M', h1, h2, h3, h4, h5, h6, h7⟩ := m_layPlot M (i := i) (by omega) (iI (d : Int)) (iI (x : Int)) (iI (y : Int)) (iI (w : Int))
  refine ⟨M', h1, h2, ⟨by rw [h7 _ (by omega), List.length_set]; exact hP.1, fun j p hj => ?_⟩, h7⟩
  rw [List.getElem?_set] at hj
  by_cases e : i = j
  · subst e
    rw [if_pos rfl, if_pos hi] at hj
    cases hj
    exact ⟨h3, h4, h5, h6⟩
  · rw [if_neg e] at hj
    rw [h7 _ (by omega), h7 _ (by omega), h7 _ (by omega), h7 _ (by omega)]
    exact hP.2 j p hj
end R8
