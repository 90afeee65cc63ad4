/-! STAGE B, 9: the class's camp, what it tells -/
/-- the plot at a point -/
def plAt (L : List Pl) (x y : Nat) : Pl := (L.find? (fun p => inP p x y)).getD (0, 0, 0, 0)
theorem plAt_in {L : List Pl} (h : Til L) {x y : Nat} (hx : x < 64) (hy : y < 64) : plAt L x y ∈ L ∧ inP (plAt L x y) x y = true := by
  obtain ⟨p, hp, h2⟩ := h.ex hx hy
  unfold plAt
  cases e : L.find? (fun p => inP p x y) with
  | none => exact absurd h2 (List.find?_eq_none.mp e p hp)
  | some q => exact ⟨List.mem_of_find?_eq_some e, List.find?_some (p := fun p => inP p x y) e⟩
theorem plAt_eq {L : List Pl} (h : Til L) {x y : Nat} (hx : x < 64) (hy : y < 64) {p : Pl} (hp : p ∈ L) (hi : inP p x y = true) : p = plAt L x y :=
  cnt_one (h x y hx hy) hp hi (plAt_in h hx hy).1 (plAt_in h hx hy).2
theorem InvG.til {g : Nat} {A : Ab} (h : InvG g A) : Til (aL A) := h.2.2.1
section CR
variable {S : St} {c g : Nat} {A : Ab} {L : List Pl}
theorem r_at (hP : PlC S c L) (hp : L.Perm (aL A)) (hI : InvG g A) {x y : Nat} (hx : x < 64) (hy : y < 64) : ∃ j : Nat, L[j]? = some (plAt (aL A) x y) ∧ f3_find S c (iI (x : Int)) (iI (y : Int)) = some (iI (j : Int)) := by
  rcases r_find hP (hI.wf.perm hp) hx hy with ⟨j, p, h1, h2, h3⟩ | ⟨h1, -⟩
  · have e := plAt_eq hI.til hx hy (hp.mem_iff.mp (List.mem_of_getElem? h1)) h2
    exact ⟨j, by rw [← e]; exact h1, h3⟩
  · obtain ⟨p, h2, h3⟩ := hI.til.ex hx hy
    rw [h1 p (hp.mem_iff.mpr h2)] at h3
    cases h3
theorem r_ownerAt (hP : PlC S c L) (hp : L.Perm (aL A)) (hI : InvG g A) {x y : Nat} (hx : x < 64) (hy : y < 64) : f3_ownerAt S c (iI (x : Int)) (iI (y : Int)) = some (iI ((pW (plAt (aL A) x y) : Int) - 1)) := by
  obtain ⟨j, h1, h2⟩ := r_at hP hp hI hx hy
  unfold f3_ownerAt
  rw [h2, bnd_s, at_o hP (hI.wf.perm hp) h1]
  rfl
/-- the owner's tent is in the plot -/
def tnt (A : Ab) (p : Pl) : Bool := pW p != 0 && decide (pW p - 1 < aN A) && aH A (pW p - 1) == 1 && inP p (aX A (pW p - 1)) (aY A (pW p - 1))
theorem r_isTentIn (hP : PlC S c L) (hp : L.Perm (aL A)) (hC : CmC S c A) (hI : InvG g A) {j : Nat} {p : Pl} (hj : L[j]? = some p) : f0_isTentIn S c (iI (j : Int)) (iI ((pW p : Int) - 1)) = some (b2i (tnt A p)) := by
  have hW := hI.wf.perm hp
  have hO := (hW.at hj).b
  have h16 := hI.1.1
  unfold f0_isTentIn f0_isTentIn_b39 f0_isTentIn_b40 tnt
  by_cases h0 : pW p = 0
  · rw [r_isHereO hC hI (by omega) (by omega) (Or.inl (by omega)), bnd_s, if_pos rfl, isz_0]
    simp [h0]; rfl
  · obtain ⟨w, hw⟩ : ∃ w, pW p = w + 1 := ⟨pW p - 1, by omega⟩
    rw [hw, show (((w + 1 : Nat) : Int) - 1) = (w : Int) by omega, Nat.add_sub_cancel]
    by_cases h1 : w < aN A
    · rw [r_isHereK hC hI h1, bnd_s, at_tx hC hI h1, bnd_s, at_ty hC hI h1, bnd_s]
      have hxy := hI.2.2.2.2.1 w h1
      rw [r_has hP hW hj hxy.2.1 hxy.2.2, bnd_s]
      cases e1 : aH A w == 1
      · simp [b2i, isz_0]
      · cases e2 : inP p (aX A w) (aY A w)
        · simp [b2i, isz_0]
        · simp [b2i, isz_1, h1]
    · rw [r_isHereO hC hI (by omega) (by omega) (Or.inr (by omega)), bnd_s, if_pos rfl, isz_0]
      simp [h1]; rfl
/-- two points in one part of a depth -/
def smP (a b x y d : Nat) : Bool := decide (a / wid d = x / wid d ∧ b / hei d = y / hei d)
theorem r_isInPart {a b x y d : Nat} (ha : a < 64) (hb : b < 64) (hx : x < 64) (hy : y < 64) (hd : d ≤ 12) : f0_isInPart (iI (a : Int)) (iI (b : Int)) (iI (x : Int)) (iI (y : Int)) (iI (d : Int)) = some (b2i (smP a b x y d)) := by
  unfold f0_isInPart f0_isInPart_b34 f0_isInPart_b35
  rw [partX_t d (by omega) a ha, bnd_s, partX_t d (by omega) x hx, bnd_s, partY_t d (by omega) b hb, bnd_s, partY_t d (by omega) y hy, bnd_s]
  have l1 : a / wid d * wid d ≤ a := Nat.div_mul_le_self _ _
  have l2 : x / wid d * wid d ≤ x := Nat.div_mul_le_self _ _
  have l3 : b / hei d * hei d ≤ b := Nat.div_mul_le_self _ _
  have l4 : y / hei d * hei d ≤ y := Nat.div_mul_le_self _ _
  have w1 := (wid_in d (by omega)).1
  have w2 := (hei_in d (by omega)).1
  have e1 : (iI ((a / wid d * wid d : Nat) : Int) = iI ((x / wid d * wid d : Nat) : Int)) ↔ a / wid d = x / wid d := by
    rw [iI_eq (by omega) (by omega) (by omega) (by omega), Int.ofNat_inj]
    exact ⟨fun h => Nat.eq_of_mul_eq_mul_right w1 h, fun h => by rw [h]⟩
  have e2 : (iI ((b / hei d * hei d : Nat) : Int) = iI ((y / hei d * hei d : Nat) : Int)) ↔ b / hei d = y / hei d := by
    rw [iI_eq (by omega) (by omega) (by omega) (by omega), Int.ofNat_inj]
    exact ⟨fun h => Nat.eq_of_mul_eq_mul_right w2 h, fun h => by rw [h]⟩
  unfold smP
  by_cases h1 : a / wid d = x / wid d
  · rw [if_pos (e1.mpr h1)]
    by_cases h2 : b / hei d = y / hei d
    · rw [if_pos (e2.mpr h2), isz_1, decide_eq_true ⟨h1, h2⟩]; rfl
    · rw [if_neg (fun q => h2 (e2.mp q)), isz_0, decide_eq_false (fun q => h2 q.2)]; rfl
  · rw [if_neg (fun q => h1 (e1.mp q)), isz_0, decide_eq_false (fun q => h1 q.1)]; rfl
end CR
