/-! STAGE B, 20: the class's songs; refusals; who has more plots; copies -/
/-- why a newcomer is refused, or 0 -/
def Rf (A : Ab) (x y : Nat) : Int :=
  if aN A = 16 then -3 else if pW (plAt (aL A) x y) ≠ 0 ∧ ((aX A (pW (plAt (aL A) x y) - 1) = x ∧ aY A (pW (plAt (aL A) x y) - 1) = y) ∨ pD (plAt (aL A) x y) = 12) then -4 else 0
theorem smP_12 {a b x y : Nat} : smP a b x y 12 = true ↔ (a = x ∧ b = y) := by
  rw [smP_iff, show wid 12 = 1 from rfl, show hei 12 = 1 from rfl, Nat.div_one, Nat.div_one, Nat.div_one, Nat.div_one]
theorem Nn_iff {A : Ab} {p : Pl} (hd : pD p ≤ 12) {x y : Nat} : Nn A p x y ↔ ((aX A (pW p - 1) = x ∧ aY A (pW p - 1) = y) ∨ pD p = 12) := by
  unfold Nn
  constructor
  · intro h
    by_cases e : pD p = 12
    · exact Or.inr e
    · have := h (12 - pD p) (by omega) (by omega)
      rw [show pD p + (12 - pD p) = 12 by omega, smP_12] at this
      exact Or.inl this
  · rintro (h | h) s h0 hs
    · rw [h.1, h.2]; exact smP_rf _ _ _
    · omega
section CY
variable {S : St} {c g : Nat} {A : Ab} {L : List Pl}
theorem r_dep (hK : CampC S c A) (hI : Inv A) {x y : Nat} (hx : x < 64) (hy : y < 64) :
    ((Rf A x y = -3 ∨ Rf A x y = -4) ∧ f0_depthForNewcomer S c (iI (x : Int)) (iI (y : Int)) = some (iI (Rf A x y))) ∨
    (Rf A x y = 0 ∧ aN A < 16 ∧ ∃ t, Cm A x y t ∧ f0_depthForNewcomer S c (iI (x : Int)) (iI (y : Int)) = some (iI ((pD (plAt (aL A) x y) + t : Nat) : Int))) := by
  obtain ⟨⟨L, hp, hP⟩, hC⟩ := hK
  have h16 := hI.1.1
  have hd := (hI.2.1 _ (plAt_in hI.til hx hy).1).1
  unfold Rf
  by_cases e : aN A = 16
  · rw [if_pos e]
    exact Or.inl ⟨Or.inl rfl, r_depthF hC e⟩
  · rw [if_neg e]
    rcases r_depth hP hp hC hI hx hy (by omega) with ⟨h1, h2⟩ | ⟨h1, t, h2, h3⟩ | ⟨h1, h2, h3⟩
    · rw [if_neg (fun h => h.1 h1)]
      exact Or.inr ⟨rfl, by omega, 0, Or.inl ⟨h1, rfl⟩, h2⟩
    · rw [if_neg (fun h => by
        have h4 := (Nn_iff hd).mpr h.2 t h2.1 h2.2.1
        rw [h2.2.2.1] at h4; cases h4)]
      exact Or.inr ⟨rfl, by omega, t, Or.inr ⟨h1, h2⟩, h3⟩
    · rw [if_pos ⟨h1, (Nn_iff hd).mp h2⟩]
      exact Or.inl ⟨Or.inr rfl, h3⟩
/-- who stands at song j: owner + 1 -/
def sgW (A : Ab) (j : Nat) : Nat := pW (plAt (aL A) (aU A j) (aV A j))
theorem r_ownerOfSong (hP : PlC S c L) (hp : L.Perm (aL A)) (hC : CmC S c A) (hI : InvG g A) {j : Nat} (hj : j < aS A) : f0_ownerOfSong S c (iI (j : Int)) = some (iI ((sgW A j : Int) - 1)) := by
  have hs := hI.song hj
  unfold f0_ownerOfSong
  rw [at_su hC hI hj, bnd_s, at_sv hC hI hj, bnd_s, r_ownerAt hP hp hI hs.1 hs.2.1]
  rfl
theorem sgW_le (hI : InvG g A) {j : Nat} (hj : j < aS A) : sgW A j ≤ 16 := by
  have hs := hI.song hj
  exact (hI.2.1 _ (plAt_in hI.til hs.1 hs.2.1).1).b.2.2.2.2.2.2.2
def sgN (A : Ab) (k : Nat) : Nat := (List.range (aS A)).countP (fun j => sgW A j == k + 1)
theorem r_songsOf (hP : PlC S c L) (hp : L.Perm (aL A)) (hC : CmC S c A) (hI : InvG g A) {k : Nat} (hk : k < 100) : f0_songsOf S c (iI (k : Int)) = some (iI (sgN A k : Int)) := by
  have h20 := hI.1.2
  unfold f0_songsOf
  rw [loop_range (aS A) (fun n i acc => f0_songsOf_b4 S c (iI (k : Int)) n acc i) (fun acc i => if sgW A i == k + 1 then acc + 1 else acc) (fun acc => some acc) fuelN (fuel_lt (by omega)) ?_ ?_ 0, q0, foldl_cnt, Int.zero_add]
  · rfl
  · intro n i acc hi
    have hle := sgW_le hI hi
    show f0_songsOf_b4 S c _ (n + 1) _ _ = f0_songsOf_b4 S c _ n _ _
    rw [f0_songsOf_b4, hC.2.1, if_neg (by rw [iI_le (by omega) (by omega) (by omega) (by omega)]; omega), r_ownerOfSong hP hp hC hI hi, bnd_s]
    unfold f0_songsOf_b24
    by_cases h : sgW A i = k + 1
    · rw [if_pos (by rw [h]; congr 1; omega), if_pos (by simpa using h), q1, iI_s]
    · rw [if_neg (by rw [iI_eq (by omega) (by omega) (by omega) (by omega)]; omega), if_neg (by simpa using h), q1, iI_s]
  · intro n acc
    show f0_songsOf_b4 S c _ (n + 1) _ _ = _
    rw [f0_songsOf_b4, hC.2.1, if_pos (by rw [iI_le (by omega) (by omega) (by omega) (by omega)]; omega)]
/-- a song's loudness -/
def ldS (t : Nat) : UInt32 := FP.fdiv (FP.i2f (iI (t : Int))) 1092616192
theorem LG.nn {lo hi : Nat} {x : UInt32} (h : LG lo hi x) (hh : hi ≤ 254) {α : Type} (k : UInt32 → Option α) : fnn x k = k x := by
  obtain ⟨E, T, h1, h2, h3, rfl⟩ := h
  exact fnn_E (by omega) h3 k
theorem r_loudSong (hC : CmC S c A) (hI : InvG g A) {j : Nat} (hj : j < aS A) : f0_loudnessOfSong S c (iI (j : Int)) = some (ldS (aT A j)) := by
  have hs := hI.song hj
  unfold f0_loudnessOfSong
  rw [at_st hC hI hj, bnd_s, (loud_E hs.2.2.1 hs.2.2.2).nn (by omega)]
  rfl
/-- what camper k's songs are together, of the first m -/
def ldN (A : Ab) (k : Nat) : Nat → UInt32
  | 0 => FP.fconst0
  | m + 1 => if sgW A m = k + 1 then FP.fadd (ldN A k m) (ldS (aT A m)) else ldN A k m
theorem ldN_G (hI : InvG g A) (k : Nat) : ∀ m, m ≤ aS A → ldN A k m = FP.fconst0 ∨ LG 123 (133 + 2 * m) (ldN A k m)
  | 0, _ => Or.inl rfl
  | m + 1, hm => by
    have h20 := hI.1.2
    have ih := ldN_G hI k m (by omega)
    have hs := hI.song (show m < aS A by omega)
    have hl := loud_E hs.2.2.1 hs.2.2.2
    rw [ldN]
    by_cases e : sgW A m = k + 1
    · rw [if_pos e]
      refine Or.inr ?_
      obtain ⟨E2, T2, g1, g2, g3, g4⟩ := hl
      have g4' : ldS (aT A m) = fE E2 T2 := g4
      rw [g4']
      rcases ih with h | h
      · rw [h, fadd_0 (by omega) (by omega) g3]
        exact ⟨E2, T2, g1, by omega, g3, rfl⟩
      · obtain ⟨E, T, h1, h2, h3, h4⟩ := h
        rw [h4]
        exact (fadd_E (by omega) (by omega) h3 (by omega) (by omega) g3).mono (by omega) (by omega)
    · rw [if_neg e]
      rcases ih with h | h
      · exact Or.inl h
      · exact Or.inr (h.mono (by omega) (by omega))
theorem ldN_nn (hI : InvG g A) (k : Nat) {m : Nat} (hm : m ≤ aS A) {α : Type} (f : UInt32 → Option α) : fnn (ldN A k m) f = f (ldN A k m) := by
  have h20 := hI.1.2
  rcases ldN_G hI k m hm with h | h
  · rw [h]; rfl
  · exact h.nn (by omega) f
theorem r_loudnessOf (hP : PlC S c L) (hp : L.Perm (aL A)) (hC : CmC S c A) (hI : InvG g A) {k : Nat} (hk : k < 100) : f0_loudnessOf S c (iI (k : Int)) = some (ldN A k (aS A)) := by
  have h20 := hI.1.2
  unfold f0_loudnessOf
  have := loop_inv0 (aS A) (fun n i acc => f0_loudnessOf_b4 S c (iI (k : Int)) n acc i) (fun i acc => acc = ldN A k i) (fun acc => some acc) fuelN (fuel_lt (by omega)) ?_ ?_ FP.fconst0 rfl
  · obtain ⟨acc, h1, h2⟩ := this
    rw [h2, h1]
  · intro n i acc hi hJ
    have hle := sgW_le hI hi
    show ∃ acc', _ ∧ f0_loudnessOf_b4 S c _ (n + 1) _ _ = f0_loudnessOf_b4 S c _ n _ _
    rw [f0_loudnessOf_b4, hC.2.1, if_neg (by rw [iI_le (by omega) (by omega) (by omega) (by omega)]; omega), r_ownerOfSong hP hp hC hI hi, bnd_s]
    unfold f0_loudnessOf_b29
    refine ⟨ldN A k (i + 1), rfl, ?_⟩
    by_cases h : sgW A i = k + 1
    · rw [if_pos (by rw [h]; congr 1; omega), r_loudSong hC hI hi, bnd_s, hJ]
      have e : FP.fadd (ldN A k i) (ldS (aT A i)) = ldN A k (i + 1) := by rw [ldN, if_pos h]
      rw [e, ldN_nn hI k (by omega), q1, iI_s]
    · have e : ldN A k i = ldN A k (i + 1) := by rw [ldN, if_neg h]
      rw [if_neg (by rw [iI_eq (by omega) (by omega) (by omega) (by omega)]; omega), hJ, q1, iI_s, e]
  · intro n acc hJ
    show f0_loudnessOf_b4 S c _ (n + 1) _ _ = _
    rw [f0_loudnessOf_b4, hC.2.1, if_pos (by rw [iI_le (by omega) (by omega) (by omega) (by omega)]; omega)]
def moreN (A : Ab) : Nat := (List.range (aN A)).countP (fun k => decide (1 < cntW (aL A) k))
theorem r_more (hP : PlC S c L) (hp : L.Perm (aL A)) (hC : CmC S c A) (hI : InvG g A) : f0_campersWithMorePlots S c = some (iI (moreN A : Int)) := by
  have h16 := hI.1.1
  have hW := hI.wf.perm hp
  have hlen := hW.1
  unfold f0_campersWithMorePlots
  rw [loop_range (aN A) (fun n i acc => f0_campersWithMorePlots_b4 S c n acc i) (fun acc i => if decide (1 < cntW (aL A) i) then acc + 1 else acc) (fun acc => some acc) fuelN (fuel_lt (by omega)) ?_ ?_ 0, q0, foldl_cnt, Int.zero_add]
  · rfl
  · intro n i acc hi
    have e : L.countP (fun p => pW p == i + 1) = cntW (aL A) i := cntW_perm hp i
    have hle := cntW_le (aL A) i
    have := hp.length_eq
    show f0_campersWithMorePlots_b4 S c (n + 1) _ _ = f0_campersWithMorePlots_b4 S c n _ _
    rw [f0_campersWithMorePlots_b4, hC.1, if_neg (by rw [iI_le (by omega) (by omega) (by omega) (by omega)]; omega), r_manyOf hP hW (by omega), bnd_s, e]
    unfold f0_campersWithMorePlots_b27
    by_cases h : 1 < cntW (aL A) i
    · rw [if_neg (by rw [q1, iI_le (by omega) (by omega) (by omega) (by omega)]; omega), if_pos (by simpa using h), q1, iI_s]
    · rw [if_pos (by rw [q1, iI_le (by omega) (by omega) (by omega) (by omega)]; omega), if_neg (by simpa using h), q1, iI_s]
  · intro n acc
    show f0_campersWithMorePlots_b4 S c (n + 1) _ _ = _
    rw [f0_campersWithMorePlots_b4, hC.1, if_pos (by rw [iI_le (by omega) (by omega) (by omega) (by omega)]; omega)]
/-- a row copied -/
theorem r_copyRow {S : St} {r r1 m : Nat} (hr : r ≠ r1) (hm : m ≤ rlen r) (hm1 : m ≤ rlen r1) : ∃ S', f4_copyFrom S r r1 (iI (m : Int)) = some S' ∧ S'.1 = S.1 ∧ (∀ q, q ≠ r → S'.2 q = S.2 q) ∧ ∀ i, i < m → S'.2 r i = S.2 r1 i := by
  have h2 := rlen_le r
  have h3 := rlen_le r1
  unfold f4_copyFrom
  have := loop_inv0 (σ := St) m (fun n i U => f4_copyFrom_b2 r r1 (iI (m : Int)) n U i) (fun i U => U.1 = S.1 ∧ (∀ q, q ≠ r → U.2 q = S.2 q) ∧ ∀ j, j < i → U.2 r j = S.2 r1 j) (fun U => some U) fuelN (fuel_lt (by omega)) ?_ ?_ S ⟨rfl, fun _ _ => rfl, fun j hj => absurd hj (Nat.not_lt_zero _)⟩
  · obtain ⟨U, h4, h5⟩ := this
    exact ⟨U, h5, h4⟩
  · rintro n i U hi ⟨g1, g2, g3⟩
    show ∃ U', _ ∧ f4_copyFrom_b2 r r1 _ (n + 1) _ _ = f4_copyFrom_b2 r r1 _ n _ _
    rw [f4_copyFrom_b2, if_neg (by rw [iI_le (by omega) (by omega) (by omega) (by omega)]; omega), iI_ofNat, if_neg (by rw [iI_le (by omega) (by omega) (by omega) (by omega)]; omega), iI_ofNat, if_neg (by rw [iI_le (by omega) (by omega) (by omega) (by omega)]; omega), arr_i (by omega) (by omega), sto_i (by omega) (by omega), nam_r, iI_cl (by omega), q1, iI_s]
    refine ⟨_, ⟨by rw [sA_1]; exact g1, fun q hq => by rw [sA_ne _ _ _ hq]; exact g2 q hq, fun j hj => ?_⟩, rfl⟩
    rw [sA_eq]
    by_cases e : j = i
    · subst e; rw [upd_s, g2 r1 (fun h => hr h.symm)]
    · rw [upd_n e]; exact g3 j (by omega)
  · rintro n U -
    show f4_copyFrom_b2 r r1 _ (n + 1) _ _ = _
    rw [f4_copyFrom_b2, if_pos (by rw [iI_le (by omega) (by omega) (by omega) (by omega)]; omega)]
    rfl
end CY
