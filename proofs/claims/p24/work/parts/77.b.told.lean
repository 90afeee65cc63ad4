/-! p24, 3: told ends, and tells by the camp alone -/
section TE
variable {S S' : St}
theorem te76 (hm : f5_camper S = f5_camper S') (hp : f5_plotOf S = f5_plotOf S') (l3 : Int32) (k : Int64 → Int32 → Option Int64) : ∀ (n : Nat) (l1 : Int64) (l4 : Int32), fL_told_b76 S l3 k n l1 l4 = fL_told_b76 S' l3 k n l1 l4 := by
  intro n
  induction n with
  | zero => intro l1 l4; rfl
  | succ n ih =>
    intro l1 l4
    rw [fL_told_b76, fL_told_b76, hm, hp]
    simp only [ih]
theorem te45 (hm : f5_camper S = f5_camper S') (hp : f5_plotOf S = f5_plotOf S') (l3 : Int32) (k : Int64 → Int32 → Option Int64) : ∀ (n : Nat) (l1 : Int64) (l4 : Int32), fL_told_b45 S l3 k n l1 l4 = fL_told_b45 S' l3 k n l1 l4 := by
  intro n
  induction n with
  | zero => intro l1 l4; rfl
  | succ n ih =>
    intro l1 l4
    rw [fL_told_b45, fL_told_b45, hm, te76 hm hp]
    simp only [ih]
theorem te157 (hs : f5_song S = f5_song S') (l3 : Int32) (k : Int64 → Int32 → Option Int64) : ∀ (n : Nat) (l1 : Int64) (l4 : Int32), fL_told_b157 S l3 k n l1 l4 = fL_told_b157 S' l3 k n l1 l4 := by
  intro n
  induction n with
  | zero => intro l1 l4; rfl
  | succ n ih =>
    intro l1 l4
    rw [fL_told_b157, fL_told_b157, hs]
    simp only [ih]
theorem te145 (hc : f5_count S 3 = f5_count S' 3) (hs : f5_song S = f5_song S') : ∀ (n : Nat), fL_told_b145 S n = fL_told_b145 S' n := by
  intro n
  induction n with
  | zero => funext l1 l3; rfl
  | succ n ih =>
    funext l1 l3
    rw [fL_told_b145, fL_told_b145, hc, ih]
    simp only [te157 hs]
theorem te33 (hc1 : f5_count S 1 = f5_count S' 1) (hc3 : f5_count S 3 = f5_count S' 3) (hm : f5_camper S = f5_camper S') (hp : f5_plotOf S = f5_plotOf S') (hs : f5_song S = f5_song S') : ∀ (n : Nat), fL_told_b33 S n = fL_told_b33 S' n := by
  intro n
  induction n with
  | zero => funext l1 l3; rfl
  | succ n ih =>
    funext l1 l3
    rw [fL_told_b33, fL_told_b33, hc1, ih, te145 hc3 hs]
    simp only [te45 hm hp]
theorem te6 (hc : ∀ w : Int32, ¬ (10 : Int32) ≤ w → f5_count S w = f5_count S' w) (hm : f5_camper S = f5_camper S') (hp : f5_plotOf S = f5_plotOf S') (hs : f5_song S = f5_song S') : ∀ (n : Nat) (l1 : Int64) (l3 : Int32), fL_told_b6 S n l1 l3 = fL_told_b6 S' n l1 l3 := by
  intro n
  induction n with
  | zero => intro l1 l3; rfl
  | succ n ih =>
    intro l1 l3
    rw [fL_told_b6, fL_told_b6]
    by_cases h : (10 : Int32) ≤ l3
    · rw [if_pos h, if_pos h, te33 (hc 1 (by decide)) (hc 3 (by decide)) hm hp hs]
    · rw [if_neg h, if_neg h, hc _ h]
      simp only [ih]
end TE
theorem told_eq {S S' : St} {A : Ab} (hC : CampC S 0 A) (hC' : CampC S' 0 A) (hI : Inv A) : fL_told S = fL_told S' := by
  have hm : f5_camper S = f5_camper S' := by
    funext z w
    obtain ⟨r, h⟩ := cam_det hI z w
    rw [h S hC, h S' hC']
  have hp : f5_plotOf S = f5_plotOf S' := by
    funext z r w
    obtain ⟨v, h⟩ := plotOf_det hI z r w
    rw [h S hC, h S' hC']
  have hs : f5_song S = f5_song S' := by
    funext z w
    obtain ⟨r, h⟩ := song_det hI z w
    rw [h S hC, h S' hC']
  refine te6 (fun w hw => ?_) hm hp hs _ _ _
  obtain ⟨a, a1, a2, rfl⟩ := iI_of w
  rw [q10, iI_le (by omega) (by omega) (by omega) (by omega)] at hw
  by_cases h0 : a < 0
  · have hd : ((iI a).toInt < 0 ∨ 11 < (iI a).toInt) := by rw [iI_toInt a1 a2]; exact Or.inl h0
    unfold f5_count
    rw [if_pos hd, if_pos hd]
  · obtain ⟨i, rfl⟩ : ∃ i : Nat, a = (i : Int) := ⟨a.toNat, by omega⟩
    obtain ⟨r, h1, h2⟩ := cnt_same hC hC' hI i (by omega)
    rw [h1, h2]
theorem tt76 {S : St} {l3 : Int32} {m : Nat} (hm : m < 1000) {c : Int32} (hc : f5_camper S l3 2 = some c) (h1 : c ≤ iI (m : Int)) (h2 : ∀ i : Nat, i < m → ¬ c ≤ iI (i : Int)) (hp : ∀ r w, ∃ v, f5_plotOf S l3 r w = some v) (k : Int64 → Int32 → Option Int64) (l1 : Int64) : ∃ v, fL_told_b76 S l3 k fuelN l1 0 = k v (l3 + 1) := by
  have := loop_inv0 (σ := Int64) m (fun n i acc => fL_told_b76 S l3 k n acc i) (fun _ _ => True) (fun acc => k acc (l3 + 1)) fuelN (fuel_lt (by omega)) ?_ ?_ l1 trivial
  · obtain ⟨acc, -, h⟩ := this
    exact ⟨acc, h⟩
  · intro n i acc hi _
    obtain ⟨v0, e0⟩ := hp (iI (i : Int)) 0
    obtain ⟨v1, e1⟩ := hp (iI (i : Int)) 1
    obtain ⟨v2, e2⟩ := hp (iI (i : Int)) 2
    refine ⟨31 * (31 * (31 * acc + Int32.toInt64 v0) + Int32.toInt64 v1) + Int32.toInt64 v2, trivial, ?_⟩
    show fL_told_b76 S l3 k (n + 1) acc (iI (i : Int)) = fL_told_b76 S l3 k n _ _
    rw [fL_told_b76, hc, bnd_s, if_neg (h2 i hi), e0, bnd_s, e1, bnd_s, e2, bnd_s, nam_r, q1, iI_s]
  · intro n acc _
    show fL_told_b76 S l3 k (n + 1) acc (iI (m : Int)) = _
    rw [fL_told_b76, hc, bnd_s, if_pos h1]
theorem tt45 {S : St} {A : Ab} (hC : CampC S 0 A) (hI : Inv A) (i : Nat) (k : Int64 → Int32 → Option Int64) (l1 : Int64) : ∃ v, fL_told_b45 S (iI (i : Int)) k fuelN l1 0 = k v (iI (i : Int) + 1) := by
  have hp : ∀ r w, ∃ v, f5_plotOf S (iI (i : Int)) r w = some v := fun r w => by
    obtain ⟨v, h⟩ := plotOf_det hI (iI (i : Int)) r w
    exact ⟨v, h S hC⟩
  have h76 : ∀ l1, ∃ v, fL_told_b76 S (iI (i : Int)) k fuelN l1 0 = k v (iI (i : Int) + 1) := by
    intro l1
    by_cases hz : ∃ j, Here A j ∧ iI (i : Int) = iI (j : Int)
    · obtain ⟨j, hj, e⟩ := hz
      have hc := cam_2 hC hI hj
      rw [← e] at hc
      have hle : cntW (aL A) j ≤ 181 := Nat.le_trans (cntW_le _ _) hI.wf.1
      exact tt76 (m := cntW (aL A) j) (by omega) hc (Int32.le_refl _) (fun q hq => by rw [iI_le (by omega) (by omega) (by omega) (by omega)]; omega) hp k l1
    · have hc := cam_n (w := 2) hC hI hz
      exact tt76 (m := 0) (by omega) hc (by decide) (fun q hq => absurd hq (Nat.not_lt_zero _)) hp k l1
  have := loop_inv0 (σ := Int64) 7 (fun n q acc => fL_told_b45 S (iI (i : Int)) k n acc q) (fun _ _ => True) (fun acc => fL_told_b76 S (iI (i : Int)) k fuelN acc 0) fuelN (fuel_lt (by omega)) ?_ ?_ l1 trivial
  · obtain ⟨acc, -, h⟩ := this
    obtain ⟨v, hv⟩ := h76 acc
    exact ⟨v, h.trans hv⟩
  · intro n q acc hq _
    obtain ⟨r, hr⟩ := cam_det hI (iI (i : Int)) (iI (q : Int))
    refine ⟨31 * acc + Int32.toInt64 r, trivial, ?_⟩
    show fL_told_b45 S _ k (n + 1) acc (iI (q : Int)) = fL_told_b45 S _ k n _ _
    rw [fL_told_b45, if_neg (by rw [q7, iI_le (by omega) (by omega) (by omega) (by omega)]; omega), hr S hC, bnd_s, nam_r, q1, iI_s]
  · intro n acc _
    show fL_told_b45 S _ k (n + 1) acc (iI ((7 : Nat) : Int)) = _
    have : (7 : Int32) ≤ iI ((7 : Nat) : Int) := by decide
    rw [fL_told_b45, if_pos this]
theorem tt157 {S : St} {A : Ab} (hC : CampC S 0 A) (hI : Inv A) (i : Nat) (k : Int64 → Int32 → Option Int64) (l1 : Int64) : ∃ v, fL_told_b157 S (iI (i : Int)) k fuelN l1 0 = k v (iI (i : Int) + 1) := by
  have := loop_inv0 (σ := Int64) 4 (fun n q acc => fL_told_b157 S (iI (i : Int)) k n acc q) (fun _ _ => True) (fun acc => k acc (iI (i : Int) + 1)) fuelN (fuel_lt (by omega)) ?_ ?_ l1 trivial
  · obtain ⟨acc, -, h⟩ := this
    exact ⟨acc, h⟩
  · intro n q acc hq _
    obtain ⟨r, hr⟩ := song_det hI (iI (i : Int)) (iI (q : Int))
    refine ⟨31 * acc + Int32.toInt64 r, trivial, ?_⟩
    show fL_told_b157 S _ k (n + 1) acc (iI (q : Int)) = fL_told_b157 S _ k n _ _
    rw [fL_told_b157, if_neg (by rw [q4, iI_le (by omega) (by omega) (by omega) (by omega)]; omega), hr S hC, bnd_s, nam_r, q1, iI_s]
  · intro n acc _
    show fL_told_b157 S _ k (n + 1) acc (iI ((4 : Nat) : Int)) = _
    have : (4 : Int32) ≤ iI ((4 : Nat) : Int) := by decide
    rw [fL_told_b157, if_pos this]
theorem told_tot {S : St} {A : Ab} (hC : CampC S 0 A) (hI : Inv A) : ∃ h, fL_told S = some h := by
  have h16 := hI.1.1
  have h20 := hI.1.2
  have h145 : ∀ l1, ∃ h, fL_told_b145 S fuelN l1 0 = some h := by
    intro l1
    have := loop_inv0 (σ := Int64) (aS A) (fun n q acc => fL_told_b145 S n acc q) (fun _ _ => True) (fun acc => some acc) fuelN (fuel_lt (by omega)) ?_ ?_ l1 trivial
    · obtain ⟨acc, -, h⟩ := this
      exact ⟨acc, h⟩
    · intro n q acc hq _
      obtain ⟨v, hv⟩ := tt157 hC hI q (fL_told_b145 S n) acc
      refine ⟨v, trivial, ?_⟩
      show fL_told_b145 S (n + 1) acc (iI (q : Int)) = fL_told_b145 S n _ _
      rw [fL_told_b145, cnt_3 hC hI, bnd_s, if_neg (by rw [iI_le (by omega) (by omega) (by omega) (by omega)]; omega), hv, q1, iI_s]
    · intro n acc _
      show fL_told_b145 S (n + 1) acc _ = _
      rw [fL_told_b145, cnt_3 hC hI, bnd_s, if_pos (Int32.le_refl _)]
  have h33 : ∀ l1, ∃ h, fL_told_b33 S fuelN l1 0 = some h := by
    intro l1
    have := loop_inv0 (σ := Int64) (aN A) (fun n q acc => fL_told_b33 S n acc q) (fun _ _ => True) (fun acc => fL_told_b145 S fuelN acc 0) fuelN (fuel_lt (by omega)) ?_ ?_ l1 trivial
    · obtain ⟨acc, -, h⟩ := this
      obtain ⟨v, hv⟩ := h145 acc
      exact ⟨v, h.trans hv⟩
    · intro n q acc hq _
      obtain ⟨v, hv⟩ := tt45 hC hI q (fL_told_b33 S n) acc
      refine ⟨v, trivial, ?_⟩
      show fL_told_b33 S (n + 1) acc (iI (q : Int)) = fL_told_b33 S n _ _
      rw [fL_told_b33, cnt_1 hC hI, bnd_s, if_neg (by rw [iI_le (by omega) (by omega) (by omega) (by omega)]; omega), hv, q1, iI_s]
    · intro n acc _
      show fL_told_b33 S (n + 1) acc _ = _
      rw [fL_told_b33, cnt_1 hC hI, bnd_s, if_pos (Int32.le_refl _)]
  have := loop_inv0 (σ := Int64) 10 (fun n q acc => fL_told_b6 S n acc q) (fun _ _ => True) (fun acc => fL_told_b33 S fuelN acc 0) fuelN (fuel_lt (by omega)) ?_ ?_ 3 trivial
  · obtain ⟨acc, -, h⟩ := this
    obtain ⟨v, hv⟩ := h33 acc
    exact ⟨v, h.trans hv⟩
  · intro n q acc hq _
    obtain ⟨r, hr, -⟩ := cnt_same hC hC hI q hq
    refine ⟨31 * acc + Int32.toInt64 r, trivial, ?_⟩
    show fL_told_b6 S (n + 1) acc (iI (q : Int)) = fL_told_b6 S n _ _
    rw [fL_told_b6, if_neg (by rw [q10, iI_le (by omega) (by omega) (by omega) (by omega)]; omega), hr, bnd_s, nam_r, q1, iI_s]
  · intro n acc _
    show fL_told_b6 S (n + 1) acc (iI ((10 : Nat) : Int)) = _
    have : (10 : Int32) ≤ iI ((10 : Nat) : Int) := by decide
    rw [fL_told_b6, if_pos this]
/-- what is told of a camp -/
theorem tld {A : Ab} (hI : Inv A) : ∃ h, ∀ S, CampC S 0 A → fL_told S = some h := by
  by_cases hex : ∃ S, CampC S 0 A
  · obtain ⟨S0, hC0⟩ := hex
    obtain ⟨h, hh⟩ := told_tot hC0 hI
    exact ⟨h, fun S hC => (told_eq hC hC0 hI).trans hh⟩
  · exact ⟨0, fun S hC => absurd ⟨S, hC⟩ hex⟩
