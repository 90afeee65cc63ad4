/-! STAGE B, 8: the state that both sides are pictures of; the class's picture -/
abbrev Nf : Type := Nat → Nat
abbrev Ab : Type := List Pl × (Nat × Nf × Nf × Nf) × (Nat × Nf × Nf × Nf) × (Int32 × Int32 × Int32)
abbrev aL (A : Ab) : List Pl := A.1
abbrev aN (A : Ab) : Nat := A.2.1.1
abbrev aH (A : Ab) : Nf := A.2.1.2.1
abbrev aX (A : Ab) : Nf := A.2.1.2.2.1
abbrev aY (A : Ab) : Nf := A.2.1.2.2.2
abbrev aS (A : Ab) : Nat := A.2.2.1.1
abbrev aU (A : Ab) : Nf := A.2.2.1.2.1
abbrev aV (A : Ab) : Nf := A.2.2.1.2.2.1
abbrev aT (A : Ab) : Nf := A.2.2.1.2.2.2
abbrev aC1 (A : Ab) : Int32 := A.2.2.2.1
abbrev aC2 (A : Ab) : Int32 := A.2.2.2.2.1
abbrev aC3 (A : Ab) : Int32 := A.2.2.2.2.2
def Til (L : List Pl) : Prop := ∀ x y, x < 64 → y < 64 → L.countP (fun p => inP p x y) = 1
def Here (A : Ab) (k : Nat) : Prop := k < aN A ∧ aH A k = 1
def InvG (g : Nat) (A : Ab) : Prop :=
  (aN A ≤ 16 ∧ aS A ≤ 20) ∧ (∀ p ∈ aL A, OkP p) ∧ Til (aL A) ∧ (aL A).length ≤ 1 + 12 * (aN A - 1) ∧
  (∀ k, k < aN A → aH A k ≤ 1 ∧ aX A k < 64 ∧ aY A k < 64) ∧
  (∀ p ∈ aL A, pW p = 0 ∨ Here A (pW p - 1) ∨ pW p = g) ∧
  ((∀ k, ¬ Here A k) → aL A = [(0, 0, 0, 0)]) ∧ ((∃ k, Here A k) → ∀ p ∈ aL A, pW p ≠ 0) ∧
  (∀ k, Here A k → ∀ p ∈ aL A, inP p (aX A k) (aY A k) = true → pW p = k + 1) ∧
  (∀ j, j < aS A → aU A j < 64 ∧ aV A j < 64 ∧ 1 ≤ aT A j ∧ aT A j ≤ 999)
abbrev Inv (A : Ab) : Prop := InvG 0 A
theorem InvG.wf {g : Nat} {A : Ab} (h : InvG g A) : Wf (aL A) := ⟨by have h1 := h.1.1; have h2 := h.2.2.2.1; omega, h.2.1⟩
theorem cnt_one {α : Type} {f : α → Bool} {L : List α} (h : L.countP f = 1) {p q : α} (hp : p ∈ L) (fp : f p = true) (hq : q ∈ L) (fq : f q = true) : p = q := by
  obtain ⟨A, B, rfl⟩ := List.append_of_mem hp
  rw [List.countP_append, List.countP_cons_of_pos fp] at h
  rcases List.mem_append.mp hq with h1 | h1
  · have := List.countP_pos_iff.mpr ⟨q, h1, fq⟩
    omega
  · rcases List.mem_cons.mp h1 with h2 | h2
    · exact h2.symm
    · have := List.countP_pos_iff.mpr ⟨q, h2, fq⟩
      omega
theorem idx_one {α : Type} {f : α → Bool} {L : List α} (h : L.countP f = 1) {i j : Nat} {p q : α} (hp : L[i]? = some p) (fp : f p = true) (hq : L[j]? = some q) (fq : f q = true) : i = j := by
  induction L generalizing i j with
  | nil => simp at hp
  | cons x L ih =>
    cases i with
    | zero =>
      rw [List.getElem?_cons_zero] at hp; cases hp
      rw [List.countP_cons_of_pos fp] at h
      cases j with
      | zero => rfl
      | succ j =>
        rw [List.getElem?_cons_succ] at hq
        have := List.countP_pos_iff.mpr ⟨q, List.mem_of_getElem? hq, fq⟩
        omega
    | succ i =>
      rw [List.getElem?_cons_succ] at hp
      have h2 := List.countP_pos_iff.mpr ⟨p, List.mem_of_getElem? hp, fp⟩
      cases j with
      | zero =>
        rw [List.getElem?_cons_zero] at hq; cases hq
        rw [List.countP_cons_of_pos fq] at h
        omega
      | succ j =>
        rw [List.getElem?_cons_succ] at hq
        by_cases fx : f x = true
        · rw [List.countP_cons_of_pos fx] at h; omega
        · rw [List.countP_cons_of_neg fx] at h
          rw [ih h hp hq]
theorem Til.perm {L L' : List Pl} (h : Til L) (hp : L'.Perm L) : Til L' := fun x y hx hy => by rw [hp.countP_eq]; exact h x y hx hy
theorem Til.ex {L : List Pl} (h : Til L) {x y : Nat} (hx : x < 64) (hy : y < 64) : ∃ p ∈ L, inP p x y = true := by
  have := List.countP_pos_iff.mp (show 0 < L.countP (fun p => inP p x y) by rw [h x y hx hy]; omega)
  exact this
/-- everything of camp c but its plots -/
def CmC (S : St) (c : Nat) (A : Ab) : Prop := S.1 (6 * c + 1) = iI (aN A : Int) ∧ S.1 (6 * c + 2) = iI (aS A : Int) ∧ S.1 (6 * c + 3) = aC1 A ∧ S.1 (6 * c + 4) = aC2 A ∧ S.1 (6 * c + 5) = aC3 A ∧
  (∀ k, k < aN A → S.2 (10 * c + 4) k = iI (aX A k : Int) ∧ S.2 (10 * c + 5) k = iI (aY A k : Int) ∧ S.2 (10 * c + 6) k = iI (aH A k : Int)) ∧
  (∀ j, j < aS A → S.2 (10 * c + 7) j = iI (aU A j : Int) ∧ S.2 (10 * c + 8) j = iI (aV A j : Int) ∧ S.2 (10 * c + 9) j = iI (aT A j : Int))
def CampC (S : St) (c : Nat) (A : Ab) : Prop := (∃ L : List Pl, L.Perm (aL A) ∧ PlC S c L) ∧ CmC S c A
/-- nothing but camp c differs -/
def FrC (S S' : St) (c : Nat) : Prop := (∀ i, (i < 6 * c ∨ 6 * c + 6 ≤ i) → S'.1 i = S.1 i) ∧ ∀ r, (r < 10 * c ∨ 10 * c + 10 ≤ r) → S'.2 r = S.2 r
theorem FrP.C {S S' : St} {c : Nat} (h : FrP S S' c) : FrC S S' c := ⟨fun i hi => h.1 i (by omega), fun r hr => h.2 r (by omega)⟩
theorem FrC.rf (S : St) (c : Nat) : FrC S S c := ⟨fun _ _ => rfl, fun _ _ => rfl⟩
theorem FrC.tr {S S' S'' : St} {c : Nat} (h1 : FrC S S' c) (h2 : FrC S' S'' c) : FrC S S'' c := ⟨fun i hi => (h2.1 i hi).trans (h1.1 i hi), fun r hr => (h2.2 r hr).trans (h1.2 r hr)⟩
theorem FrC.sI (S : St) (c k : Nat) (v : Int32) (hk : k < 6) : FrC S (sI S (6 * c + k) v) c := ⟨fun i hi => sI_ne S v (by omega), fun _ _ => rfl⟩
theorem FrC.sA (S : St) (c k i : Nat) (v : Int32) (hk : k < 10) : FrC S (sA S (10 * c + k) i v) c := ⟨fun _ _ => rfl, fun r hr => sA_ne S i v (by omega)⟩
theorem CmC.fr {S S' : St} {c : Nat} {A : Ab} (h : CmC S c A) (hf : FrP S S' c) : CmC S' c A := by
  obtain ⟨h1, h2, h3, h4, h5, h6, h7⟩ := h
  refine ⟨by rw [hf.1 _ (by omega)]; exact h1, by rw [hf.1 _ (by omega)]; exact h2, by rw [hf.1 _ (by omega)]; exact h3, by rw [hf.1 _ (by omega)]; exact h4, by rw [hf.1 _ (by omega)]; exact h5, fun k hk => ?_, fun j hj => ?_⟩
  · rw [hf.2 _ (by omega), hf.2 _ (by omega), hf.2 _ (by omega)]; exact h6 k hk
  · rw [hf.2 _ (by omega), hf.2 _ (by omega), hf.2 _ (by omega)]; exact h7 j hj
theorem CampC.fr {S S' : St} {c d : Nat} {A : Ab} (h : CampC S d A) (hf : FrC S S' c) (hcd : d ≠ c) : CampC S' d A := by
  obtain ⟨⟨L, hp, h0, h0'⟩, h1, h2, h3, h4, h5, h6, h7⟩ := h
  refine ⟨⟨L, hp, by rw [hf.1 _ (by omega)]; exact h0, fun i p hi => ?_⟩, by rw [hf.1 _ (by omega)]; exact h1, by rw [hf.1 _ (by omega)]; exact h2, by rw [hf.1 _ (by omega)]; exact h3, by rw [hf.1 _ (by omega)]; exact h4, by rw [hf.1 _ (by omega)]; exact h5, fun k hk => ?_, fun j hj => ?_⟩
  · rw [hf.2 _ (by omega), hf.2 _ (by omega), hf.2 _ (by omega), hf.2 _ (by omega)]; exact h0' i p hi
  · rw [hf.2 _ (by omega), hf.2 _ (by omega), hf.2 _ (by omega)]; exact h6 k hk
  · rw [hf.2 _ (by omega), hf.2 _ (by omega), hf.2 _ (by omega)]; exact h7 j hj
theorem loop_range {σ ρ : Type} (m : Nat) (F : Nat → Int32 → σ → Option ρ) (g : σ → Nat → σ) (fin : σ → Option ρ) (N : Nat) (hN : m < N)
    (hs : ∀ (n i : Nat) (acc : σ), i < m → F (n + 1) (iI (i : Int)) acc = F n (iI ((i + 1 : Nat) : Int)) (g acc i))
    (he : ∀ (n : Nat) (acc : σ), F (n + 1) (iI (m : Int)) acc = fin acc) (acc : σ) : F N 0 acc = fin ((List.range m).foldl g acc) := by
  refine loop_fold0 (List.range m) F g fin N (by rw [List.length_range]; exact hN) (fun n i p acc hp => ?_) (fun n acc => by rw [List.length_range]; exact he n acc) acc
  have hi : i < m := by have := (List.getElem?_eq_some_iff.mp hp).1; rwa [List.length_range] at this
  rw [List.getElem?_range hi] at hp
  cases hp
  exact hs n i acc hi
section CQ
variable {S : St} {c g : Nat} {A : Ab}
theorem at_tx (h : CmC S c A) (hI : InvG g A) {k : Nat} (hk : k < aN A) : f4_at S (10 * c + 4) (iI (k : Int)) = some (iI (aX A k : Int)) := by
  have := hI.1.1
  rw [at_in (by rw [rlen_4]; omega), (h.2.2.2.2.2.1 k hk).1]
theorem at_ty (h : CmC S c A) (hI : InvG g A) {k : Nat} (hk : k < aN A) : f4_at S (10 * c + 5) (iI (k : Int)) = some (iI (aY A k : Int)) := by
  have := hI.1.1
  rw [at_in (by rw [rlen_5]; omega), (h.2.2.2.2.2.1 k hk).2.1]
theorem at_th (h : CmC S c A) (hI : InvG g A) {k : Nat} (hk : k < aN A) : f4_at S (10 * c + 6) (iI (k : Int)) = some (iI (aH A k : Int)) := by
  have := hI.1.1
  rw [at_in (by rw [rlen_6]; omega), (h.2.2.2.2.2.1 k hk).2.2]
theorem at_su (h : CmC S c A) (hI : InvG g A) {k : Nat} (hk : k < aS A) : f4_at S (10 * c + 7) (iI (k : Int)) = some (iI (aU A k : Int)) := by
  have := hI.1.2
  rw [at_in (by rw [rlen_7]; omega), (h.2.2.2.2.2.2 k hk).1]
theorem at_sv (h : CmC S c A) (hI : InvG g A) {k : Nat} (hk : k < aS A) : f4_at S (10 * c + 8) (iI (k : Int)) = some (iI (aV A k : Int)) := by
  have := hI.1.2
  rw [at_in (by rw [rlen_8]; omega), (h.2.2.2.2.2.2 k hk).2.1]
theorem at_st (h : CmC S c A) (hI : InvG g A) {k : Nat} (hk : k < aS A) : f4_at S (10 * c + 9) (iI (k : Int)) = some (iI (aT A k : Int)) := by
  have := hI.1.2
  rw [at_in (by rw [rlen_9]; omega), (h.2.2.2.2.2.2 k hk).2.2]
theorem r_isHereK (h : CmC S c A) (hI : InvG g A) {k : Nat} (hk : k < aN A) : f0_isHere S c (iI (k : Int)) = some (b2i (aH A k == 1)) := by
  have h16 := hI.1.1
  have hh := (hI.2.2.2.2.1 k hk).1
  unfold f0_isHere f0_isHere_b28 f0_isHere_b29
  rw [if_neg (by rw [iI_0, iI_lt (by omega) (by omega) (by omega) (by omega)]; omega), h.1, if_neg (by rw [iI_le (by omega) (by omega) (by omega) (by omega)]; omega), at_th h hI hk, bnd_s, isz_1, isz_0, q1]
  by_cases e : aH A k = 1
  · rw [if_pos (by rw [e]; rfl), e]; rfl
  · rw [if_neg (by rw [iI_eq (by omega) (by omega) (by omega) (by omega)]; omega), (by simpa using e : (aH A k == 1) = false)]; rfl
theorem r_isHereO (h : CmC S c A) (hI : InvG g A) {t : Int} (h1 : -2147483648 ≤ t) (h2 : t < 2147483648) (ht : t < 0 ∨ (aN A : Int) ≤ t) : f0_isHere S c (iI t) = some 0 := by
  have h16 := hI.1.1
  unfold f0_isHere f0_isHere_b28 f0_isHere_b29
  by_cases e : t < 0
  · rw [if_pos (by rw [iI_0, iI_lt (by omega) (by omega) (by omega) (by omega)]; omega), isz_0]
  · rw [if_neg (by rw [iI_0, iI_lt (by omega) (by omega) (by omega) (by omega)]; omega), h.1, if_pos (by rw [iI_le (by omega) (by omega) (by omega) (by omega)]; omega), isz_0]
theorem r_isHere (h : CmC S c A) (hI : InvG g A) (z : Int32) : (∃ k, Here A k ∧ z = iI (k : Int) ∧ f0_isHere S c z = some 1) ∨ ((∀ k, Here A k → z ≠ iI (k : Int)) ∧ f0_isHere S c z = some 0) := by
  have h16 := hI.1.1
  obtain ⟨t, h1, h2, rfl⟩ := iI_of z
  by_cases e : t < 0 ∨ (aN A : Int) ≤ t
  · refine Or.inr ⟨fun k hk q => ?_, r_isHereO h hI h1 h2 e⟩
    have := hk.1
    rw [iI_eq (by omega) (by omega) (by omega) (by omega)] at q
    omega
  · obtain ⟨k, rfl⟩ : ∃ k : Nat, t = (k : Int) := ⟨t.toNat, by omega⟩
    have hk : k < aN A := by omega
    rw [r_isHereK h hI hk]
    by_cases e2 : aH A k = 1
    · exact Or.inl ⟨k, ⟨hk, e2⟩, rfl, by rw [e2]; rfl⟩
    · refine Or.inr ⟨fun k2 hk2 q => ?_, by rw [(by simpa using e2 : (aH A k == 1) = false)]; rfl⟩
      have := hk2.1
      rw [iI_eq (by omega) (by omega) (by omega) (by omega)] at q
      have : k2 = k := by omega
      subst this
      exact e2 hk2.2
/-- how many campers are here -/
def nH (A : Ab) : Nat := ((List.range (aN A)).map (aH A)).sum
theorem r_campersHere (h : CmC S c A) (hI : InvG g A) : f0_campersHere S c = some (iI (nH A : Int)) := by
  have h16 := hI.1.1
  unfold f0_campersHere
  rw [loop_range (aN A) (fun n i acc => f0_campersHere_b4 S c n acc i) (fun acc i => acc + iI (aH A i : Int)) (fun acc => some acc) fuelN (fuel_lt (by omega)) ?_ ?_ 0, q0, foldl_sum, Int.zero_add]
  · rfl
  · intro n i acc hi
    show f0_campersHere_b4 S c (n + 1) _ _ = f0_campersHere_b4 S c n _ _
    rw [f0_campersHere_b4, h.1, if_neg (by rw [iI_le (by omega) (by omega) (by omega) (by omega)]; omega), at_th h hI hi, bnd_s, nam_r, q1, iI_s]
  · intro n acc
    show f0_campersHere_b4 S c (n + 1) _ _ = _
    rw [f0_campersHere_b4, h.1, if_pos (by rw [iI_le (by omega) (by omega) (by omega) (by omega)]; omega)]
end CQ
