/-! STAGE B, 10: parts inside parts; the depth for a newcomer -/
theorem wid_dvd : ∀ d, d < 13 → ∀ l, l < 13 → d ≤ l → wid d = wid l * (wid d / wid l) ∧ hei d = hei l * (hei d / hei l) := by decide
theorem div_iff {a w x : Nat} (hw : 0 < w) (ha : a % w = 0) : (a ≤ x ∧ x < a + w) ↔ x / w = a / w := by
  obtain ⟨k, rfl⟩ : ∃ k, a = w * k := ⟨a / w, by have := Nat.div_add_mod a w; omega⟩
  rw [Nat.mul_div_cancel_left _ hw]
  constructor
  · intro h
    exact Nat.div_eq_of_lt_le (by rw [Nat.mul_comm]; exact h.1) (by rw [Nat.succ_mul, Nat.mul_comm]; exact h.2)
  · intro h
    subst h
    exact ⟨Nat.mul_div_le x w, Nat.lt_mul_div_succ x hw⟩
theorem inP_iff {p : Pl} (h : OkP p) {x y : Nat} : inP p x y = true ↔ (x / wid (pD p) = pX p / wid (pD p) ∧ y / hei (pD p) = pY p / hei (pD p)) := by
  have hb := h.b
  unfold inP
  rw [decide_eq_true_iff, ← div_iff (by omega) h.2.2.2.1, ← div_iff (by omega) h.2.2.2.2.1]
  constructor
  · rintro ⟨h1, h2, h3, h4⟩; exact ⟨⟨h1, h2⟩, h3, h4⟩
  · rintro ⟨⟨h1, h2⟩, h3, h4⟩; exact ⟨h1, h2, h3, h4⟩
theorem smP_iff {a b x y d : Nat} : smP a b x y d = true ↔ (a / wid d = x / wid d ∧ b / hei d = y / hei d) := by unfold smP; exact decide_eq_true_iff
theorem smP_mono {a b x y d l : Nat} (hd : d ≤ l) (hl : l ≤ 12) (h : smP a b x y l = true) : smP a b x y d = true := by
  rw [smP_iff] at *
  have e := wid_dvd d (by omega) l (by omega) hd
  rw [e.1, e.2, ← Nat.div_div_eq_div_mul, ← Nat.div_div_eq_div_mul, ← Nat.div_div_eq_div_mul, ← Nat.div_div_eq_div_mul, h.1, h.2]
  exact ⟨rfl, rfl⟩
theorem inP_sm {p : Pl} (h : OkP p) {x y a b : Nat} (hi : inP p x y = true) : inP p a b = smP a b x y (pD p) := by
  rw [inP_iff h] at hi
  rw [Bool.eq_iff_iff, inP_iff h, smP_iff, hi.1, hi.2]
section CS
variable {S : St} {c : Nat} {A : Ab} {L : List Pl}
theorem Inv.here {A : Ab} (hI : Inv A) {p : Pl} (hp : p ∈ aL A) (h0 : pW p ≠ 0) : Here A (pW p - 1) := by
  rcases hI.2.2.2.2.2.1 p hp with h | h | h
  · exact absurd h h0
  · exact h
  · exact absurd h h0
/-- where the newcomer's part begins to lack the tent: t levels below the plot -/
def Nw (A : Ab) (p : Pl) (x y t : Nat) : Prop := 0 < t ∧ pD p + t ≤ 12 ∧ smP (aX A (pW p - 1)) (aY A (pW p - 1)) x y (pD p + t) = false ∧ ∀ s, 0 < s → s < t → smP (aX A (pW p - 1)) (aY A (pW p - 1)) x y (pD p + s) = true
def Nn (A : Ab) (p : Pl) (x y : Nat) : Prop := ∀ s, 0 < s → pD p + s ≤ 12 → smP (aX A (pW p - 1)) (aY A (pW p - 1)) x y (pD p + s) = true
theorem r_depthF (hC : CmC S c A) {x y : Nat} (h16 : aN A = 16) : f0_depthForNewcomer S c (iI (x : Int)) (iI (y : Int)) = some (iI (-3)) := by
  unfold f0_depthForNewcomer
  rw [hC.1, h16, if_neg (by decide)]
  rfl
theorem r_depth (hP : PlC S c L) (hp : L.Perm (aL A)) (hC : CmC S c A) (hI : Inv A) {x y : Nat} (hx : x < 64) (hy : y < 64) (h16 : aN A < 16) :
    (pW (plAt (aL A) x y) = 0 ∧ f0_depthForNewcomer S c (iI (x : Int)) (iI (y : Int)) = some (iI (pD (plAt (aL A) x y) : Int))) ∨
    (pW (plAt (aL A) x y) ≠ 0 ∧ ∃ t, Nw A (plAt (aL A) x y) x y t ∧ f0_depthForNewcomer S c (iI (x : Int)) (iI (y : Int)) = some (iI ((pD (plAt (aL A) x y) + t : Nat) : Int))) ∨
    (pW (plAt (aL A) x y) ≠ 0 ∧ Nn A (plAt (aL A) x y) x y ∧ f0_depthForNewcomer S c (iI (x : Int)) (iI (y : Int)) = some (iI (-4))) := by
  obtain ⟨j, hj, hf⟩ := r_at hP hp hI hx hy
  have hW := hI.wf.perm hp
  have hq := plAt_in hI.til hx hy
  obtain ⟨p, ep⟩ : ∃ p, p = plAt (aL A) x y := ⟨_, rfl⟩
  rw [← ep] at hj hq ⊢
  have hOk := hW.at hj
  have hO := hOk.b
  have hq2 := hq.2
  unfold f0_depthForNewcomer
  rw [hC.1, q16, if_pos (by rw [iI_lt (by omega) (by omega) (by omega) (by omega)]; omega), hf, bnd_s, r_ownerOf hP hW hj, bnd_s, r_depthOf hP hW hj, bnd_s]
  by_cases h0 : pW p = 0
  · exact Or.inl ⟨h0, by rw [h0]; rfl⟩
  · refine Or.inr ?_
    have hh := hI.here hq.1 h0
    rw [if_neg (by rw [iI_m1, iI_eq (by omega) (by omega) (by omega) (by omega)]; omega), r_isTentIn hP hp hC hI hj, bnd_s, nam_r, q1, iI_s]
    have et : tnt A p = inP p (aX A (pW p - 1)) (aY A (pW p - 1)) := by
      unfold tnt
      rw [hh.2, decide_eq_true hh.1]
      simp [h0]
    have hxy := hI.2.2.2.2.1 _ hh.1
    have a1 := at_tx hC hI hh.1
    have a2 := at_ty hC hI hh.1
    rw [show ((pW p - 1 : Nat) : Int) = (pW p : Int) - 1 by omega] at a1 a2
    rw [et, inP_sm hOk hq2]
    obtain ⟨tx, etx⟩ : ∃ tx, tx = aX A (pW p - 1) := ⟨_, rfl⟩
    obtain ⟨ty, ety⟩ : ∃ ty, ty = aY A (pW p - 1) := ⟨_, rfl⟩
    unfold Nw Nn
    rw [← etx] at a1 hxy ⊢
    rw [← ety] at a2 hxy ⊢
    have key : ∀ (m s N : Nat), pD p + s + m = 13 → 0 < s → (∀ r, 0 < r → r < s → smP tx ty x y (pD p + r) = true) → m < N →
      (∃ t, (0 < t ∧ pD p + t ≤ 12 ∧ smP tx ty x y (pD p + t) = false ∧ ∀ s, 0 < s → s < t → smP tx ty x y (pD p + s) = true) ∧ f0_depthForNewcomer_b66 S c (iI (x : Int)) (iI (y : Int)) (iI ((pW p : Int) - 1)) (b2i (smP tx ty x y (pD p))) N (iI ((pD p + s : Nat) : Int)) = some (iI ((pD p + t : Nat) : Int))) ∨
      ((∀ s, 0 < s → pD p + s ≤ 12 → smP tx ty x y (pD p + s) = true) ∧ f0_depthForNewcomer_b66 S c (iI (x : Int)) (iI (y : Int)) (iI ((pW p : Int) - 1)) (b2i (smP tx ty x y (pD p))) N (iI ((pD p + s : Nat) : Int)) = some (iI (-4))) := by
      intro m
      induction m with
      | zero =>
        intro s N hs h0s hr hN
        obtain ⟨N, rfl⟩ : ∃ N', N = N' + 1 := ⟨N - 1, by omega⟩
        refine Or.inr ⟨fun r h1 h2 => hr r h1 (by omega), ?_⟩
        rw [f0_depthForNewcomer_b66, q12, if_pos (by rw [iI_lt (by omega) (by omega) (by omega) (by omega)]; omega)]
        rfl
      | succ m ih =>
        intro s N hs h0s hr hN
        obtain ⟨N, rfl⟩ : ∃ N', N = N' + 1 := ⟨N - 1, by omega⟩
        rw [f0_depthForNewcomer_b66, q12, if_neg (by rw [iI_lt (by omega) (by omega) (by omega) (by omega)]; omega)]
        unfold f0_depthForNewcomer_b106
        by_cases e0 : smP tx ty x y (pD p) = true
        · rw [e0, if_neg (by decide), a1, bnd_s, a2, bnd_s, r_isInPart hxy.2.1 hxy.2.2 hx hy (by omega), bnd_s]
          by_cases e1 : smP tx ty x y (pD p + s) = true
          · rw [e1, if_neg (by decide), q1, iI_s]
            have := ih (s + 1) N (by omega) (by omega) (fun r h1 h2 => by
              by_cases e : r = s
              · rw [e]; exact e1
              · exact hr r h1 (by omega)) (by omega)
            rw [e0] at this
            exact this
          · have e2 : smP tx ty x y (pD p + s) = false := by simpa using e1
            rw [e2, if_pos b2i_f]
            exact Or.inl ⟨s, ⟨h0s, by omega, e2, hr⟩, rfl⟩
        · have e2 : smP tx ty x y (pD p) = false := by simpa using e0
          rw [e2, if_pos b2i_f]
          refine Or.inl ⟨s, ⟨h0s, by omega, ?_, hr⟩, rfl⟩
          cases e3 : smP tx ty x y (pD p + s)
          · rfl
          · rw [smP_mono (by omega) (by omega) e3] at e2; cases e2
    rcases key (12 - pD p) 1 fuelN (by omega) (by omega) (fun r h1 h2 => absurd h2 (by omega)) (fuel_lt (by omega)) with ⟨t, h1, h2⟩ | ⟨h1, h2⟩
    · exact Or.inl ⟨h0, t, h1, h2⟩
    · exact Or.inr ⟨h0, h1, h2⟩
end CS
