/-! STAGE B, 12: the other half; who has least; giving away -/
def isHalf (p q : Pl) : Bool := pD p != 0 && pD q == pD p && pX q == sibX (pD p) (pX p) && pY q == sibY (pD p) (pY p)
theorem isHalf_iff {p q : Pl} : isHalf p q = true ↔ (pD p ≠ 0 ∧ pD q = pD p ∧ pX q = sibX (pD p) (pX p) ∧ pY q = sibY (pD p) (pY p)) := by
  unfold isHalf
  simp only [Bool.and_eq_true, bne_iff_ne, beq_iff_eq, and_assoc]
theorem sib_in {p : Pl} (h : OkP p) (h0 : pD p ≠ 0) : sibX (pD p) (pX p) < 64 ∧ sibY (pD p) (pY p) < 64 ∧ sibX (pD p) (pX p) % wid (pD p) = 0 ∧ sibY (pD p) (pY p) % hei (pD p) = 0 := by
  have hb := h.b
  have sx := sibX_t (pD p) (by omega) (by omega) (pX p) (by omega) h.2.2.2.1
  have sy := sibY_t (pD p) (by omega) (by omega) (pY p) (by omega) h.2.2.2.2.1
  exact ⟨sx.2.1, sy.2.1, sx.2.2, sy.2.2⟩
/-- a plot of that depth at the other half's corner is the other half -/
theorem half_of_in {p q : Pl} (hp : OkP p) (hq : OkP q) (h0 : pD p ≠ 0) (hd : pD q = pD p) (hi : inP q (sibX (pD p) (pX p)) (sibY (pD p) (pY p)) = true) : isHalf p q = true := by
  have hs := sib_in hp h0
  rw [inP_iff hq, hd] at hi
  have a1 := hq.2.2.2.1
  have a2 := hq.2.2.2.2.1
  rw [hd] at a1 a2
  have e1 := Nat.div_add_mod (sibX (pD p) (pX p)) (wid (pD p))
  have e2 := Nat.div_add_mod (sibY (pD p) (pY p)) (hei (pD p))
  have e3 := Nat.div_add_mod (pX q) (wid (pD p))
  have e4 := Nat.div_add_mod (pY q) (hei (pD p))
  rw [isHalf_iff]
  refine ⟨h0, hd, ?_, ?_⟩
  · rw [hs.2.2.1, hi.1] at e1; rw [a1] at e3; omega
  · rw [hs.2.2.2, hi.2] at e2; rw [a2] at e4; omega
theorem in_of_half {p q : Pl} (hp : OkP p) (hq : OkP q) (h : isHalf p q = true) : inP q (sibX (pD p) (pX p)) (sibY (pD p) (pY p)) = true := by
  rw [isHalf_iff] at h
  have hb := hq.b
  unfold inP
  rw [decide_eq_true_iff, ← h.2.2.1, ← h.2.2.2]
  omega
theorem half_one {L : List Pl} (hT : Til L) (hO : ∀ p ∈ L, OkP p) {p q r : Pl} (hp : p ∈ L) (hq : q ∈ L) (hr : r ∈ L) (h1 : isHalf p q = true) (h2 : isHalf p r = true) : q = r := by
  have hs := sib_in (hO p hp) (isHalf_iff.mp h1).1
  exact cnt_one (hT _ _ hs.1 hs.2.1) hq (in_of_half (hO p hp) (hO q hq) h1) hr (in_of_half (hO p hp) (hO r hr) h2)
theorem sibX_ne : ∀ d, d < 13 → d % 2 = 1 → ∀ x, x < 64 → x % wid d = 0 → sibX d x ≠ x := by decide +kernel
theorem sibY_ne : ∀ d, d < 13 → d ≠ 0 → d % 2 = 0 → ∀ x, x < 64 → x % hei d = 0 → sibY d x ≠ x := by decide +kernel
theorem half_ne {p q : Pl} (hp : OkP p) (h : isHalf p q = true) : p ≠ q := by
  intro e
  subst e
  rw [isHalf_iff] at h
  have hb := hp.b
  by_cases h2 : pD p % 2 = 1
  · exact sibX_ne _ (by omega) h2 _ (by omega) hp.2.2.2.1 h.2.2.1.symm
  · exact sibY_ne _ (by omega) h.1 (by omega) _ (by omega) hp.2.2.2.2.1 h.2.2.2.symm
def area (L : List Pl) (k : Nat) : Nat := (L.map (fun p => if pW p == k + 1 then wid (pD p) * hei (pD p) else 0)).sum
theorem area_perm {L L' : List Pl} (h : L.Perm L') (k : Nat) : area L k = area L' k := (h.map _).sum_nat
/-- a camper here whose plot touches p -/
def Bes (A : Ab) (p : Pl) (w : Nat) : Prop := Here A w ∧ ∃ q ∈ aL A, tch p q = true ∧ pW q = w + 1
def Least (A : Ab) (p : Pl) (w : Nat) : Prop := Bes A p w ∧ ∀ v, Bes A p v → area (aL A) w < area (aL A) v ∨ area (aL A) w = area (aL A) v ∧ w ≤ v
theorem Least.one {A : Ab} {p : Pl} {v w : Nat} (h1 : Least A p v) (h2 : Least A p w) : v = w := by
  have a := h1.2 w h2.1
  have b := h2.2 v h1.1
  omega
theorem wh_le {d : Nat} (h : d ≤ 12) : wid d * hei d ≤ 4096 := by
  have a := wid_in d (by omega)
  have b := hei_in d (by omega)
  exact Nat.mul_le_mul a.2 b.2
theorem area_le {L : List Pl} (h : ∀ p ∈ L, OkP p) (k : Nat) : area L k ≤ 4096 * L.length := by
  induction L with
  | nil => exact Nat.le_refl _
  | cons p L ih =>
    have h1 := wh_le (h p List.mem_cons_self).1
    have h2 := ih (fun q hq => h q (List.mem_cons_of_mem _ hq))
    unfold area at *
    rw [List.map_cons, List.sum_cons, List.length_cons]
    split <;> omega
section CU
variable {S : St} {c g : Nat} {A : Ab} {L : List Pl}
theorem r_oth (hP : PlC S c L) (hp : L.Perm (aL A)) (hI : InvG g A) {i : Nat} {p : Pl} (hi : L[i]? = some p) :
    (∃ (j : Nat) (q : Pl), L[j]? = some q ∧ isHalf p q = true ∧ f3_otherHalf S c (iI (i : Int)) = some (iI (j : Int))) ∨ ((∀ q ∈ aL A, isHalf p q = false) ∧ f3_otherHalf S c (iI (i : Int)) = some (iI (-1))) := by
  have hW := hI.wf.perm hp
  have hOk := hW.at hi
  by_cases h0 : pD p = 0
  · refine Or.inr ⟨fun q _ => ?_, r_otherHalf0 hP hW hi h0⟩
    cases h : isHalf p q
    · rfl
    · exact absurd h0 (isHalf_iff.mp h).1
  · have hs := sib_in hOk h0
    have hT := hI.til.perm hp
    obtain ⟨q, hq, hin⟩ := hT.ex hs.1 hs.2.1
    obtain ⟨j, hj⟩ := List.getElem?_of_mem hq
    have := r_otherHalf hP hW hi (by omega) hj hin (fun j2 q2 h1 h2 => idx_one (hT _ _ hs.1 hs.2.1) h1 h2 hj hin)
    by_cases hd : pD q = pD p
    · rw [if_pos hd] at this
      exact Or.inl ⟨j, q, hj, half_of_in hOk (hW.at hj) h0 hd hin, this⟩
    · rw [if_neg hd] at this
      refine Or.inr ⟨fun r hr => ?_, this⟩
      cases h : isHalf p r
      · rfl
      · have hr2 := hp.mem_iff.mpr hr
        have := cnt_one (hT _ _ hs.1 hs.2.1) hr2 (in_of_half hOk (hW.2 r hr2) h) hq hin
        subst this
        exact absurd (isHalf_iff.mp h).2.1 hd
theorem r_leastOf (hP : PlC S c L) (hp : L.Perm (aL A)) (hC : CmC S c A) (hI : InvG g A) {p : Pl} {m : Nat} (hm : m < 65536) (hmk : ∀ k, k < 16 → m.testBit k = L.any (fun q => tch p q && pW q == k + 1)) {w : Nat} (hw : Least A p w) : f0_leastOf S c (iI (m : Int)) = some (iI (w : Int)) := by
  have hW := hI.wf.perm hp
  have h16 := hI.1.1
  have hB : ∀ k, k < 16 → aH A k = 1 → k < aN A → m.testBit k = true → Bes A p k := by
    intro k hk h1 h2 h3
    rw [hmk k hk] at h3
    obtain ⟨q, hq, h4⟩ := List.any_eq_true.mp h3
    rw [Bool.and_eq_true, beq_iff_eq] at h4
    exact ⟨⟨h2, h1⟩, q, hp.mem_iff.mp hq, h4.1, h4.2⟩
  have hB2 : ∀ k, Bes A p k → m.testBit k = true ∧ k < 16 := by
    rintro k ⟨⟨h1, h2⟩, q, hq, h3, h4⟩
    refine ⟨?_, by omega⟩
    rw [hmk k (by omega)]
    exact List.any_eq_true.mpr ⟨q, hp.mem_iff.mpr hq, by rw [h3, h4]; simp⟩
  have hae : ∀ k, area L k = area (aL A) k := fun k => area_perm hp k
  have hal : ∀ k, area (aL A) k ≤ 4096 * 181 := fun k => by
    have := area_le hI.wf.2 k
    have := hI.wf.1
    omega
  unfold f0_leastOf
  have := loop_inv0 (σ := Int32 × Int32) (aN A) (fun n i acc => f0_leastOf_b7 S c (iI (m : Int)) n acc.1 acc.2 i) (fun i acc => (acc.1 = iI (-1) ∧ ∀ k, k < i → ¬ Bes A p k) ∨ ∃ b : Nat, b < i ∧ Bes A p b ∧ acc.1 = iI (b : Int) ∧ acc.2 = iI (area (aL A) b : Int) ∧ ∀ v, v < i → Bes A p v → area (aL A) b < area (aL A) v ∨ area (aL A) b = area (aL A) v ∧ b ≤ v) (fun acc => some acc.1) fuelN (fuel_lt (by omega)) ?_ ?_ (-1, 0) (Or.inl ⟨rfl, fun k hk => absurd hk (by omega)⟩)
  · obtain ⟨acc, h1, h2⟩ := this
    rw [show f0_leastOf_b7 S c (iI (m : Int)) fuelN (-1) 0 0 = some acc.1 from h2]
    rcases h1 with ⟨-, h1⟩ | ⟨b, h1, h3, h4, h5, h6⟩
    · exact absurd hw.1 (h1 w hw.1.1.1)
    · rw [h4]
      have a := h6 w hw.1.1.1 hw.1
      have b2 := hw.2 b h3
      rw [show b = w by omega]
  · intro n i acc hi hJ
    show ∃ acc', _ ∧ f0_leastOf_b7 S c _ (n + 1) _ _ _ = f0_leastOf_b7 S c _ n _ _ _
    rw [f0_leastOf_b7, hC.1, if_neg (by rw [iI_le (by omega) (by omega) (by omega) (by omega)]; omega), r_isHereK hC hI hi, bnd_s]
    unfold f0_leastOf_b56 f0_leastOf_b62
    have skip : ¬ Bes A p i → ∃ acc' : Int32 × Int32, ((acc'.1 = iI (-1) ∧ ∀ k, k < i + 1 → ¬ Bes A p k) ∨ ∃ b : Nat, b < i + 1 ∧ Bes A p b ∧ acc'.1 = iI (b : Int) ∧ acc'.2 = iI (area (aL A) b : Int) ∧ ∀ v, v < i + 1 → Bes A p v → area (aL A) b < area (aL A) v ∨ area (aL A) b = area (aL A) v ∧ b ≤ v) ∧ f0_leastOf_b7 S c (iI (m : Int)) n acc.1 acc.2 (iI (i : Int) + 1) = f0_leastOf_b7 S c (iI (m : Int)) n acc'.1 acc'.2 (iI ((i + 1 : Nat) : Int)) := by
      intro hn
      refine ⟨acc, ?_, by rw [q1, iI_s]⟩
      rcases hJ with ⟨h1, h2⟩ | ⟨b, h1, h3, h4, h5, h6⟩
      · refine Or.inl ⟨h1, fun k hk => ?_⟩
        by_cases e : k = i
        · subst e; exact hn
        · exact h2 k (by omega)
      · refine Or.inr ⟨b, by omega, h3, h4, h5, fun v hv hb => ?_⟩
        by_cases e : v = i
        · subst e; exact absurd hb hn
        · exact h6 v (by omega) hb
    by_cases e1 : aH A i = 1
    · rw [(by simpa using e1 : (aH A i == 1) = true), if_neg (by decide), r_isMarked hm (by omega), bnd_s]
      cases e2 : m.testBit i
      · rw [if_pos b2i_f]
        exact skip (fun hb => by rw [(hB2 i hb).1] at e2; cases e2)
      · rw [if_neg (by decide), r_pointsOf hP hW (by omega), bnd_s]
        have hbi := hB i (by omega) e1 hi e2
        have ha : (L.map (fun p => if pW p == i + 1 then wid (pD p) * hei (pD p) else 0)).sum = area (aL A) i := hae i
        rw [ha]
        have l1 := hal i
        rcases hJ with ⟨h1, h2⟩ | ⟨b, h1, h3, h4, h5, h6⟩
        · rw [h1, if_pos (show iI (-1) = -1 from rfl), q1, iI_s]
          refine ⟨(iI (i : Int), iI (area (aL A) i : Int)), Or.inr ⟨i, by omega, hbi, rfl, rfl, fun v hv hb => ?_⟩, rfl⟩
          by_cases e : v = i
          · subst e; omega
          · exact absurd hb (h2 v (by omega))
        · have l2 := hal b
          rw [h4, h5, if_neg (by rw [iI_m1, iI_eq (by omega) (by omega) (by omega) (by omega)]; omega), q1, iI_s]
          by_cases e : area (aL A) b ≤ area (aL A) i
          · rw [if_pos (by rw [iI_le (by omega) (by omega) (by omega) (by omega)]; omega)]
            refine ⟨(iI (b : Int), iI (area (aL A) b : Int)), Or.inr ⟨b, by omega, h3, rfl, rfl, fun v hv hb => ?_⟩, rfl⟩
            by_cases e3 : v = i
            · subst e3; omega
            · exact h6 v (by omega) hb
          · rw [if_neg (by rw [iI_le (by omega) (by omega) (by omega) (by omega)]; omega)]
            refine ⟨(iI (i : Int), iI (area (aL A) i : Int)), Or.inr ⟨i, by omega, hbi, rfl, rfl, fun v hv hb => ?_⟩, rfl⟩
            by_cases e3 : v = i
            · subst e3; omega
            · have := h6 v (by omega) hb
              omega
    · rw [(by simpa using e1 : (aH A i == 1) = false), if_pos b2i_f]
      exact skip (fun hb => e1 hb.1.2)
  · intro n acc hJ
    show f0_leastOf_b7 S c _ (n + 1) _ _ _ = _
    rw [f0_leastOf_b7, hC.1, if_pos (by rw [iI_le (by omega) (by omega) (by omega) (by omega)]; omega)]
end CU
