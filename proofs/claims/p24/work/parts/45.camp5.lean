/-! STAGE B, 13: giving away, handing over, sending away -/
def plA (A : Ab) (L : List Pl) (c2 c3 : Int32) : Ab := (L, A.2.1, A.2.2.1, (aC1 A, c2, c3))
/-- p is the first that camper k gives away -/
def IsBest (L : List Pl) (k : Nat) (p : Pl) : Prop := p ∈ L ∧ pW p = k + 1 ∧ ∀ q ∈ L, pW q = k + 1 → gvb q p = false
theorem IsBest.perm {L L' : List Pl} {k : Nat} {p : Pl} (h : IsBest L k p) (hp : L.Perm L') : IsBest L' k p := ⟨hp.mem_iff.mp h.1, h.2.1, fun q hq => h.2.2 q (hp.mem_iff.mpr hq)⟩
theorem IsBest.one {L : List Pl} {k : Nat} {p q : Pl} (h1 : IsBest L k p) (h2 : IsBest L k q) : p = q := by
  have a := h1.2.2 q h2.1 h2.2.1
  have b := h2.2.2 p h1.1 h1.2.1
  rw [Bool.eq_false_iff, Ne, gvb_iff] at a b
  have e1 := h1.2.1
  have e2 := h2.2.1
  obtain ⟨x, y, d, w⟩ := p
  obtain ⟨x2, y2, d2, w2⟩ := q
  dsimp only [pX, pY, pD, pW] at a b e1 e2
  rw [Prod.mk.injEq, Prod.mk.injEq, Prod.mk.injEq]
  omega
theorem at_of_mem {α : Type} {L L' : List α} (h : L.Perm L') {p : α} (hp : p ∈ L') : ∃ i : Nat, L[i]? = some p := List.getElem?_of_mem (h.mem_iff.mpr hp)
theorem perm2 {L : List Pl} {p q : Pl} (hp : p ∈ L) (hq : q ∈ L) (hn : p ≠ q) : L.Perm (p :: q :: (L.erase p).erase q) := by
  refine (List.perm_cons_erase hp).trans (List.Perm.cons _ ?_)
  exact List.perm_cons_erase ((List.mem_erase_of_ne (fun e => hn e.symm)).mpr hq)
section CV
variable {S : St} {c g : Nat} {A : Ab} {L : List Pl}
theorem CmC.pl {S S' : St} {c : Nat} {A : Ab} (h : CmC S c A) (hf : FrP S S' c) (L : List Pl) : CmC S' c (plA A L (aC2 A) (aC3 A)) := h.fr hf
theorem r_first (hP : PlC S c L) (hp : L.Perm (aL A)) (hI : InvG g A) {k : Nat} (hk : k < 100) : (∃ (i : Nat) (p : Pl), L[i]? = some p ∧ IsBest (aL A) k p ∧ f3_firstToGive S c (iI (k : Int)) = some (iI (i : Int))) ∨ ((∀ p ∈ aL A, pW p ≠ k + 1) ∧ f3_firstToGive S c (iI (k : Int)) = some (iI (-1))) := by
  have hW := hI.wf.perm hp
  obtain ⟨acc, h1, h2⟩ := r_firstToGive hP hW hk
  rcases h1 with ⟨h3, h4⟩ | ⟨i, p, h3, h4, h5, h6, h7⟩
  · refine Or.inr ⟨fun p hm e => ?_, by rw [h2, h3]⟩
    obtain ⟨j, hj⟩ := at_of_mem hp hm
    have : (pW p == k + 1) = false := h4 j p (List.getElem?_eq_some_iff.mp hj).1 hj
    rw [e] at this
    simp at this
  · refine Or.inl ⟨i, p, h5, ⟨hp.mem_iff.mp (List.mem_of_getElem? h5), by simpa using h6, fun q hq e => ?_⟩, by rw [h2, h4]⟩
    obtain ⟨j, hj⟩ := at_of_mem hp hq
    exact h7 j q (List.getElem?_eq_some_iff.mp hj).1 hj (by show (pW q == k + 1) = true; rw [e]; simp)
/-- both halves are one plot -/
def joinA (A : Ab) (p q : Pl) (w : Nat) : Ab := plA A (par1 q w :: ((aL A).erase p).erase q) (aC2 A + 1) (aC3 A)
def giveA (A : Ab) (p : Pl) (w : Nat) : Ab := plA A ((pX p, pY p, pD p, w) :: (aL A).erase p) (aC2 A) (aC3 A)
def takeA (A : Ab) (p : Pl) (w : Nat) : Ab := plA A ((pX p, pY p, pD p, w) :: (aL A).erase p) (aC2 A) (aC3 A + 1)
theorem r_give (hP : PlC S c L) (hp : L.Perm (aL A)) (hC : CmC S c A) (hI : InvG g A) {i : Nat} {p : Pl} (hi : L[i]? = some p) (w : Nat) : ∃ S', f3_giveTo S c (iI (i : Int)) (iI ((w : Int) - 1)) = some S' ∧ FrP S S' c ∧ PlC S' c (L.set i (pX p, pY p, pD p, w)) ∧ (L.set i (pX p, pY p, pD p, w)).Perm (aL (giveA A p w)) ∧ CmC S' c (giveA A p w) := by
  obtain ⟨S', h1, h2, h3⟩ := r_giveTo hP (hI.wf.perm hp).1 (w := w) hi
  refine ⟨S', h1, h2, h3, ?_, hC.pl h2 _⟩
  obtain ⟨K, k1, k2⟩ := set_perm hi (pX p, pY p, pD p, w)
  refine k2.trans (List.Perm.cons _ ?_)
  have hm : p ∈ aL A := hp.mem_iff.mp (List.mem_of_getElem? hi)
  exact List.Perm.cons_inv (k1.symm.trans (hp.trans (List.perm_cons_erase hm)))
theorem CmC.c4 {S : St} {c : Nat} {A : Ab} (h : CmC S c A) (L : List Pl) : CmC (sI S (6 * c + 4) (S.1 (6 * c + 4) + 1)) c (plA A L (aC2 A + 1) (aC3 A)) := by
  obtain ⟨h1, h2, h3, h4, h5, h6, h7⟩ := h
  refine ⟨by rw [sI_ne _ _ (by omega)]; exact h1, by rw [sI_ne _ _ (by omega)]; exact h2, by rw [sI_ne _ _ (by omega)]; exact h3, by rw [sI_eq, h4]; rfl, by rw [sI_ne _ _ (by omega)]; exact h5, h6, h7⟩
theorem CmC.c5 {S : St} {c : Nat} {A : Ab} (h : CmC S c A) (L : List Pl) : CmC (sI S (6 * c + 5) (S.1 (6 * c + 5) + 1)) c (plA A L (aC2 A) (aC3 A + 1)) := by
  obtain ⟨h1, h2, h3, h4, h5, h6, h7⟩ := h
  refine ⟨by rw [sI_ne _ _ (by omega)]; exact h1, by rw [sI_ne _ _ (by omega)]; exact h2, by rw [sI_ne _ _ (by omega)]; exact h3, by rw [sI_ne _ _ (by omega)]; exact h4, by rw [sI_eq, h5]; rfl, h6, h7⟩
theorem r_joinC (hP : PlC S c L) (hp : L.Perm (aL A)) (hC : CmC S c A) (hI : InvG g A) {i j w : Nat} {p q : Pl} (hi : L[i]? = some p) (hj : L[j]? = some q) (hh : isHalf p q = true) (hw : w ≤ 16) :
    ∃ S', f3_join S c (iI (i : Int)) (iI (j : Int)) (iI ((w : Int) - 1)) = some S' ∧ FrP S S' c ∧ CampC (sI S' (6 * c + 4) (S'.1 (6 * c + 4) + 1)) c (joinA A p q w) := by
  have hW := hI.wf.perm hp
  have hn := half_ne (hW.at hi) hh
  have hd := isHalf_iff.mp hh
  have hm : p ∈ aL A := hp.mem_iff.mp (List.mem_of_getElem? hi)
  have hm2 : q ∈ aL A := hp.mem_iff.mp (List.mem_of_getElem? hj)
  obtain ⟨S', L', h1, h2, h3, h4⟩ := r_join hP hW hi hj (by intro e; subst e; rw [hi] at hj; cases hj; exact hn rfl) (by omega) hw (hp.trans (perm2 hm hm2 hn))
  exact ⟨S', h1, h2, ⟨L', h4, h3.fr (sI_ne _ _ (by omega)) (fun k hk => rfl)⟩, (hC.fr h2).c4 _⟩
theorem r_giveAway (hP : PlC S c L) (hp : L.Perm (aL A)) (hC : CmC S c A) (hI : InvG g A) {i : Nat} {p : Pl} (hi : L[i]? = some p) :
    (∃ q ∈ aL A, isHalf p q = true ∧ ∃ S', f0_giveAway S c (iI (i : Int)) = some S' ∧ FrC S S' c ∧ CampC S' c (joinA A p q (pW q))) ∨
    ((∀ q ∈ aL A, isHalf p q = false) ∧ ∀ w, Least A p w → ∃ S', f0_giveAway S c (iI (i : Int)) = some S' ∧ FrC S S' c ∧ CampC S' c (takeA A p (w + 1))) := by
  have hW := hI.wf.perm hp
  unfold f0_giveAway f0_giveAway_b74
  rcases r_oth hP hp hI hi with ⟨j, q, h1, h2, h3⟩ | ⟨h1, h2⟩
  · refine Or.inl ⟨q, hp.mem_iff.mp (List.mem_of_getElem? h1), h2, ?_⟩
    have hO := (hW.at h1).b
    have hlt := hW.lt h1
    obtain ⟨S', g1, g2, g3⟩ := r_joinC hP hp hC hI hi h1 h2 (w := pW q) (by omega)
    rw [h3, bnd_s, if_neg (by rw [iI_m1, iI_eq (by omega) (by omega) (by omega) (by omega)]; omega), r_ownerOf hP hW h1, bnd_s, g1, bnd_s, nam_r]
    exact ⟨_, rfl, g2.C.tr (FrC.sI _ c 4 _ (by omega)), g3⟩
  · refine Or.inr ⟨h1, fun w hw => ?_⟩
    obtain ⟨acc, ⟨m, m1, m2, m3⟩, g4⟩ := r_ownersBeside hP hW hi
    rw [h2, bnd_s, if_pos (show iI (-1) = -1 from rfl), g4, bnd_s, m2, r_leastOf hP hp hC hI m1 m3 hw, bnd_s]
    obtain ⟨S', g1, g2, g3, g5, g6⟩ := r_give hP hp hC hI hi (w + 1)
    rw [show (((w + 1 : Nat) : Int) - 1) = (w : Int) by omega] at g1
    rw [g1, bnd_s, nam_r]
    exact ⟨_, rfl, g2.C.tr (FrC.sI _ c 5 _ (by omega)), ⟨_, g5, g3.fr (sI_ne _ _ (by omega)) (fun k hk => rfl)⟩, g6.c5 _⟩
end CV
