/-! STAGE B, 33: the reference's campers -/
def hereB (A : Ab) (k : Nat) : Bool := decide (k < aN A) && aH A k == 1
theorem hereB_iff {A : Ab} {k : Nat} : hereB A k = true ↔ Here A k := by unfold hereB Here; simp
theorem range_sum (f : Nat → Nat) (n : Nat) : ∀ m, n ≤ m → (∀ k, n ≤ k → k < m → f k = 0) → ((List.range m).map f).sum = ((List.range n).map f).sum
  | 0, h, _ => by rw [show n = 0 by omega]
  | m + 1, h, h0 => by
    by_cases e : n = m + 1
    · rw [e]
    · rw [List.range_succ, List.map_append, List.sum_append, range_sum f n m (by omega) (fun k h1 h2 => h0 k h1 (by omega)), List.map_singleton, List.sum_singleton, h0 m (by omega) (by omega), Nat.add_zero]
theorem range_cnt (f : Nat → Bool) (n : Nat) : ∀ m, n ≤ m → (∀ k, n ≤ k → k < m → f k = false) → (List.range m).countP f = (List.range n).countP f
  | 0, h, _ => by rw [show n = 0 by omega]
  | m + 1, h, h0 => by
    by_cases e : n = m + 1
    · rw [e]
    · rw [List.range_succ, List.countP_append, range_cnt f n m (by omega) (fun k h1 h2 => h0 k h1 (by omega)), List.countP_singleton, h0 m (by omega) (by omega)]
      rfl
section R4
variable {M : St} {A : Ab} {g : Nat} {L : List Pl}
theorem m_h (hC : VmV (M.2 0) A) {k : Nat} (hk : k < 16) : f6_ofCamper M (iI (k : Int)) 0 = some (iI ((if k < aN A then aH A k else 0 : Nat) : Int)) := by
  rw [show f6_ofCamper M (iI (k : Int)) 0 = f6_ofCamper M (iI (k : Int)) (iI ((0 : Nat) : Int)) from rfl, m_cm M (by omega), Nat.add_zero]
  by_cases h : k < aN A
  · rw [if_pos h, (hC.2.2.2.2.2.1 k h).1]
  · rw [if_neg h, hC.2.2.2.2.2.2.1 k (by omega) hk]; rfl
theorem m_tx (hC : VmV (M.2 0) A) (h16 : aN A ≤ 16) {k : Nat} (hk : k < aN A) : f6_ofCamper M (iI (k : Int)) 1 = some (iI (aX A k : Int)) := by
  rw [show f6_ofCamper M (iI (k : Int)) 1 = f6_ofCamper M (iI (k : Int)) (iI ((1 : Nat) : Int)) from rfl, m_cm M (by omega), (hC.2.2.2.2.2.1 k hk).2.1]
theorem m_ty (hC : VmV (M.2 0) A) (h16 : aN A ≤ 16) {k : Nat} (hk : k < aN A) : f6_ofCamper M (iI (k : Int)) 2 = some (iI (aY A k : Int)) := by
  rw [show f6_ofCamper M (iI (k : Int)) 2 = f6_ofCamper M (iI (k : Int)) (iI ((2 : Nat) : Int)) from rfl, m_cm M (by omega), (hC.2.2.2.2.2.1 k hk).2.2]
theorem m_isHereK (hC : VmV (M.2 0) A) (hI : InvG g A) {k : Nat} (hk : k < 16) : f6_isHere M (iI (k : Int)) = some (b2i (hereB A k)) := by
  unfold f6_isHere f6_isHere_b24 f6_isHere_b25
  rw [show f6_in (iI (k : Int)) 0 15 = f6_in (iI (k : Int)) (iI 0) (iI 15) from rfl, m_in (by omega) (by omega) (by omega) (by omega) (by omega) (by omega), bnd_s, decide_eq_true (by omega), if_neg (by decide), m_h hC hk, bnd_s, isz_0, isz_1]
  unfold hereB
  by_cases h : k < aN A
  · have := hI.xy h
    rw [if_pos h, decide_eq_true h]
    by_cases e : aH A k = 1
    · rw [e]; rfl
    · rw [if_neg (by rw [q1, iI_eq (by omega) (by omega) (by omega) (by omega)]; omega), (by simpa using e : (aH A k == 1) = false)]; rfl
  · rw [if_neg h, decide_eq_false h]; rfl
theorem m_isHere (hC : VmV (M.2 0) A) (hI : InvG g A) (z : Int32) : (∃ k, Here A k ∧ z = iI (k : Int) ∧ f6_isHere M z = some 1) ∨ ((∀ k, Here A k → z ≠ iI (k : Int)) ∧ f6_isHere M z = some 0) := by
  have h16 := hI.1.1
  obtain ⟨t, h1, h2, rfl⟩ := iI_of z
  by_cases e : 0 ≤ t ∧ t ≤ 15
  · obtain ⟨k, rfl⟩ : ∃ k : Nat, t = (k : Int) := ⟨t.toNat, by omega⟩
    rw [m_isHereK hC hI (by omega)]
    cases h : hereB A k
    · refine Or.inr ⟨fun k2 hk2 q => ?_, rfl⟩
      have := hk2.1
      rw [iI_eq (by omega) (by omega) (by omega) (by omega)] at q
      have e2 : k = k2 := by omega
      subst e2
      rw [hereB_iff.mpr hk2] at h; cases h
    · exact Or.inl ⟨k, hereB_iff.mp h, rfl, rfl⟩
  · refine Or.inr ⟨fun k hk q => ?_, ?_⟩
    · have := hk.1
      rw [iI_eq (by omega) (by omega) (by omega) (by omega)] at q
      omega
    · unfold f6_isHere f6_isHere_b24 f6_isHere_b25
      rw [show f6_in (iI t) 0 15 = f6_in (iI t) (iI 0) (iI 15) from rfl, m_in (by omega) (by omega) (by omega) (by omega) (by omega) (by omega), bnd_s, decide_eq_false e, if_pos b2i_f, isz_0]
theorem m_onField (hC : VmV (M.2 0) A) (h16 : aN A ≤ 16) : f6_onField M = some (iI (nH A : Int)) := by
  unfold f6_onField
  rw [loop_range 16 (fun n i acc => f6_onField_b4 M n acc i) (fun acc i => acc + iI ((if i < aN A then aH A i else 0 : Nat) : Int)) (fun acc => some acc) fuelN (fuel_lt (by omega)) ?_ ?_ 0, q0, foldl_sum, Int.zero_add, range_sum _ (aN A) 16 h16 (fun k h1 h2 => if_neg (by omega))]
  · congr 3
    unfold nH
    congr 1
    refine List.map_congr_left fun k hk => ?_
    rw [if_pos (List.mem_range.mp hk)]
  · intro n i acc hi
    show f6_onField_b4 M (n + 1) _ _ = f6_onField_b4 M n _ _
    rw [f6_onField_b4, if_neg (by rw [q16, iI_le (by omega) (by omega) (by omega) (by omega)]; omega), m_h hC hi, bnd_s, nam_r, q1, iI_s]
  · intro n acc
    show f6_onField_b4 M (n + 1) _ _ = _
    rw [f6_onField_b4, if_pos (by decide)]
theorem m_withMore (hP : PlV (M.2 0) L) (hp : L.Perm (aL A)) (hC : VmV (M.2 0) A) (hI : Inv A) : f6_withMore M = some (iI (moreN A : Int)) := by
  have h16 := hI.1.1
  have hW := hI.wf.perm hp
  have hlen := hW.1
  have own : ∀ k, 1 < cntW (aL A) k → Here A k := fun k hk => by
    obtain ⟨p, h1, h2⟩ := List.countP_pos_iff.mp (show 0 < (aL A).countP (fun p => pW p == k + 1) by unfold cntW at hk; omega)
    have h3 : pW p = k + 1 := by simpa using h2
    have := hI.here h1 (by omega)
    rw [h3, Nat.add_sub_cancel] at this
    exact this
  unfold f6_withMore
  rw [loop_range 16 (fun n i acc => f6_withMore_b4 M n acc i) (fun acc i => if hereB A i && decide (1 < cntW (aL A) i) then acc + 1 else acc) (fun acc => some acc) fuelN (fuel_lt (by omega)) ?_ ?_ 0, q0, foldl_cnt, Int.zero_add]
  · congr 3
    unfold moreN
    rw [← range_cnt (fun k => decide (1 < cntW (aL A) k)) (aN A) 16 h16 (fun k h1 h2 => decide_eq_false (fun h => by have := (own k h).1; omega))]
    refine List.countP_congr fun k hk => ?_
    rw [Bool.and_eq_true, decide_eq_true_iff, hereB_iff]
    exact ⟨fun h => h.2, fun h => ⟨own k h, h⟩⟩
  · intro n i acc hi
    have e : cntW L i = cntW (aL A) i := cntW_perm hp i
    have hle := cntW_le (aL A) i
    have := hp.length_eq
    show f6_withMore_b4 M (n + 1) _ _ = f6_withMore_b4 M n _ _
    rw [f6_withMore_b4, if_neg (by rw [q16, iI_le (by omega) (by omega) (by omega) (by omega)]; omega), m_isHereK hC hI hi, bnd_s]
    unfold f6_withMore_b32 f6_withMore_b33
    cases h1 : hereB A i
    · rw [if_pos b2i_f, Bool.false_and, if_neg (by decide), nam_r, q1, iI_s, Int32.add_zero]
    · rw [if_neg (by decide), Bool.true_and, m_plotsOf hP hW (by omega), bnd_s, e]
      by_cases h : 1 < cntW (aL A) i
      · rw [if_neg (by rw [q1, iI_le (by omega) (by omega) (by omega) (by omega)]; omega), if_pos (by simpa using h), nam_r, q1, iI_s]
      · rw [if_pos (by rw [q1, iI_le (by omega) (by omega) (by omega) (by omega)]; omega), if_neg (by simpa using h), nam_r, q1, iI_s, Int32.add_zero]
  · intro n acc
    show f6_withMore_b4 M (n + 1) _ _ = _
    rw [f6_withMore_b4, if_pos (by decide)]
theorem nbr_perm {L L' : List Pl} (h : L.Perm L') (k o : Nat) : nbr L k o = nbr L' k o := by
  unfold nbr
  rw [Bool.eq_iff_iff, List.any_eq_true, List.any_eq_true]
  constructor
  · rintro ⟨p, h1, h2⟩
    refine ⟨p, h.mem_iff.mp h1, ?_⟩
    rw [Bool.and_eq_true] at h2 ⊢
    refine ⟨h2.1, ?_⟩
    obtain ⟨q, h3, h4⟩ := List.any_eq_true.mp h2.2
    exact List.any_eq_true.mpr ⟨q, h.mem_iff.mp h3, h4⟩
  · rintro ⟨p, h1, h2⟩
    refine ⟨p, h.mem_iff.mpr h1, ?_⟩
    rw [Bool.and_eq_true] at h2 ⊢
    refine ⟨h2.1, ?_⟩
    obtain ⟨q, h3, h4⟩ := List.any_eq_true.mp h2.2
    exact List.any_eq_true.mpr ⟨q, h.mem_iff.mpr h3, h4⟩
theorem m_neighbours (hP : PlV (M.2 0) L) (hp : L.Perm (aL A)) (hC : VmV (M.2 0) A) (hI : Inv A) {k : Nat} (hk : k < 16) : f6_neighbours M (iI (k : Int)) = some (iI ((List.range 16).countP (fun o => o != k && nbr (aL A) k o) : Nat)) := by
  have h16 := hI.1.1
  have hW := hI.wf.perm hp
  have own : ∀ o, nbr (aL A) k o = true → Here A o := fun o ho => by
    unfold nbr at ho
    obtain ⟨p, h1, h2⟩ := List.any_eq_true.mp ho
    rw [Bool.and_eq_true] at h2
    obtain ⟨q, h3, h4⟩ := List.any_eq_true.mp h2.2
    rw [Bool.and_eq_true] at h4
    have h5 : pW q = o + 1 := by simpa using h4.2
    have := hI.here h3 (by omega)
    rw [h5, Nat.add_sub_cancel] at this
    exact this
  unfold f6_neighbours
  rw [loop_range 16 (fun n i acc => f6_neighbours_b4 M (iI (k : Int)) n acc i) (fun acc i => if i != k && (hereB A i && nbr (aL A) k i) then acc + 1 else acc) (fun acc => some acc) fuelN (fuel_lt (by omega)) ?_ ?_ 0, q0, foldl_cnt, Int.zero_add]
  · congr 3
    refine List.countP_congr fun o ho => ?_
    rw [Bool.and_eq_true, Bool.and_eq_true, Bool.and_eq_true, hereB_iff]
    exact ⟨fun h => ⟨h.1, h.2.2⟩, fun h => ⟨h.1, own o h.2, h.2⟩⟩
  · intro n i acc hi
    show f6_neighbours_b4 M _ (n + 1) _ _ = f6_neighbours_b4 M _ n _ _
    rw [f6_neighbours_b4, if_neg (by rw [q16, iI_le (by omega) (by omega) (by omega) (by omega)]; omega)]
    unfold f6_neighbours_b37 f6_neighbours_b38
    by_cases e : i = k
    · rw [if_pos (by rw [e]), if_neg (by simp [e]), nam_r, q1, iI_s, Int32.add_zero]
    · rw [if_neg (by rw [iI_eq (by omega) (by omega) (by omega) (by omega)]; omega), m_isHereK hC hI hi, bnd_s, (by simpa using e : (i != k) = true), Bool.true_and]
      cases h1 : hereB A i
      · rw [if_pos b2i_f, Bool.false_and, if_neg (by decide), nam_r, q1, iI_s, Int32.add_zero]
      · rw [if_neg (by decide), Bool.true_and, m_areBeside hP hW (by omega) (by omega), bnd_s, nbr_perm hp]
        cases h2 : nbr (aL A) k i
        · rw [if_pos b2i_f, if_neg (by decide), nam_r, q1, iI_s, Int32.add_zero]
        · rw [if_neg (by decide), if_pos rfl, nam_r, q1, iI_s]
  · intro n acc
    show f6_neighbours_b4 M _ (n + 1) _ _ = _
    rw [f6_neighbours_b4, if_pos (by decide)]
end R4
