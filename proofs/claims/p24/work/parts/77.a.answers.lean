/-! p24, 2: what is told, by the state alone -/
theorem sw7 (z : Int32) : (z.toInt < 0 ∨ 6 < z.toInt) ∨ z = 0 ∨ z = 1 ∨ z = 2 ∨ z = 3 ∨ z = 4 ∨ z = 5 ∨ z = 6 := by
  obtain ⟨a, a1, a2, rfl⟩ := iI_of z
  rw [iI_toInt a1 a2, q0, q1, q2, q3, q4, q5, q6]
  by_cases h : a < 0 ∨ 6 < a
  · exact Or.inl h
  · refine Or.inr ?_
    obtain rfl | rfl | rfl | rfl | rfl | rfl | rfl : a = 0 ∨ a = 1 ∨ a = 2 ∨ a = 3 ∨ a = 4 ∨ a = 5 ∨ a = 6 := by omega
    all_goals simp
theorem sw4 (z : Int32) : (z.toInt < 0 ∨ 3 < z.toInt) ∨ z = 0 ∨ z = 1 ∨ z = 2 ∨ z = 3 := by
  obtain ⟨a, a1, a2, rfl⟩ := iI_of z
  rw [iI_toInt a1 a2, q0, q1, q2, q3]
  by_cases h : a < 0 ∨ 3 < a
  · exact Or.inl h
  · refine Or.inr ?_
    obtain rfl | rfl | rfl | rfl : a = 0 ∨ a = 1 ∨ a = 2 ∨ a = 3 := by omega
    all_goals simp
theorem orNone_t {w : Nat} (hw : w ≤ 16) : f5_orNone (iI ((w : Int) - 1)) = some (if w = 0 then -5 else iI ((w : Int) - 1)) := by
  unfold f5_orNone f5_orNone_b11
  rw [iI_m1]
  by_cases h : w = 0
  · rw [if_pos (by rw [h]; rfl), if_pos h]
  · rw [if_neg (by rw [iI_eq (by omega) (by omega) (by omega) (by omega)]; omega), if_neg h]
/-- of plots of one camper in one tiling, their ranks are unlike -/
theorem rank_one {L : List Pl} (hT : Til L) (hO : ∀ p ∈ L, OkP p) {p q : Pl} (hp : p ∈ L) (hq : q ∈ L) (hw : pW p = pW q) (hc : L.countP (fun r => pW r == pW p && low r p) = L.countP (fun r => pW r == pW q && low r q)) : p = q := by
  have key : ∀ p q : Pl, p ∈ L → pW p = pW q → low p q = true → L.countP (fun r => pW r == pW p && low r p) < L.countP (fun r => pW r == pW q && low r q) := by
    intro p q hp hw hl
    obtain ⟨X, Y, rfl⟩ := List.append_of_mem hp
    have hl' := (low_iff p q).mp hl
    have m : ∀ Z : List Pl, Z.countP (fun r => pW r == pW p && low r p) ≤ Z.countP (fun r => pW r == pW q && low r q) := fun Z => by
      refine List.countP_mono_left (fun r _ h => ?_)
      rw [Bool.and_eq_true] at h ⊢
      refine ⟨by rw [← hw]; exact h.1, ?_⟩
      have := (low_iff r p).mp h.2
      exact (low_iff r q).mpr (by omega)
    have n1 : ¬ ((fun r => pW r == pW p && low r p) p = true) := by
      intro h
      rw [Bool.and_eq_true, low_iff] at h
      omega
    have n2 : (fun r => pW r == pW q && low r q) p = true := by
      show (pW p == pW q && low p q) = true
      rw [hl, hw]; simp
    rw [List.countP_append, List.countP_append, List.countP_cons_of_neg (p := fun r => pW r == pW p && low r p) n1, List.countP_cons_of_pos (p := fun r => pW r == pW q && low r q) n2]
    have a := m X
    have b := m Y
    omega
  by_cases h1 : low p q = true
  · have := key p q hp hw h1; omega
  · by_cases h2 : low q p = true
    · have := key q p hq hw.symm h2; omega
    · have h3 := mt (low_iff p q).mpr h1
      have h4 := mt (low_iff q p).mpr h2
      exact low_eq (by omega) (by omega) (hO p hp) (hO q hq) hT hp hq
def nbC (A : Ab) (k : Nat) : Nat := (List.range 16).countP (fun o => o != k && nbr (aL A) k o)
theorem bitsD {x : UInt32} (h : x = FP.fconst0 ∨ ∃ lo hi, 100 ≤ lo ∧ hi ≤ 250 ∧ LG lo hi x) : ∃ r, f5_bitsOf x = some r := by
  rcases h with h | ⟨lo, hi, h1, h2, E, t, h3, h4, h5, h6⟩
  · rw [h]; exact ⟨_, r_bitsOf0⟩
  · rw [h6]; exact ⟨_, r_bitsOf (by omega) (by omega) h5⟩
section T1
variable {S : St} {A : Ab}
theorem told (hC : CampC S 0 A) (hI : Inv A) {j : Nat} (hj : j < aS A) : f5_toldOwnerOf S (iI (j : Int)) = some (iI (tldW (sgW A j))) := by
  obtain ⟨⟨L, hp, hP⟩, hK⟩ := hC
  have hle := sgW_le hI hj
  unfold f5_toldOwnerOf f5_toldOwnerOf_b20 tldW
  rw [r_ownerOfSong hP hp hK hI hj, bnd_s, iI_m1]
  by_cases h : sgW A j = 0
  · rw [if_pos (by rw [h]; rfl), if_pos h]; rfl
  · rw [if_neg (by rw [iI_eq (by omega) (by omega) (by omega) (by omega)]; omega), if_neg h]
theorem cam_0 (hC : CampC S 0 A) (hI : Inv A) {k : Nat} (hk : Here A k) : f5_camper S (iI (k : Int)) 0 = some (iI (aX A k : Int)) := by
  obtain ⟨⟨L, hp, hP⟩, hK⟩ := hC
  have hW := hI.wf.perm hp
  have h16 := hI.1.1
  have hk1 := hk.1
  unfold f5_camper
  rw [hereY hK hI hk, bnd_s, if_neg n10, if_neg (by decide), if_pos rfl, at_tx hK hI hk.1, bnd_s]
theorem cam_1 (hC : CampC S 0 A) (hI : Inv A) {k : Nat} (hk : Here A k) : f5_camper S (iI (k : Int)) 1 = some (iI (aY A k : Int)) := by
  obtain ⟨⟨L, hp, hP⟩, hK⟩ := hC
  have hW := hI.wf.perm hp
  have h16 := hI.1.1
  have hk1 := hk.1
  unfold f5_camper
  rw [hereY hK hI hk, bnd_s, if_neg n10, if_neg (by decide), if_neg (by decide), if_pos rfl, at_ty hK hI hk.1, bnd_s]
theorem cam_2 (hC : CampC S 0 A) (hI : Inv A) {k : Nat} (hk : Here A k) : f5_camper S (iI (k : Int)) 2 = some (iI (cntW (aL A) k : Int)) := by
  obtain ⟨⟨L, hp, hP⟩, hK⟩ := hC
  have hW := hI.wf.perm hp
  have h16 := hI.1.1
  have hk1 := hk.1
  unfold f5_camper
  rw [hereY hK hI hk, bnd_s, if_neg n10, if_neg (by decide), if_neg (by decide), if_neg (by decide), if_pos rfl, r_manyOf hP hW (by omega), bnd_s]
  exact congrArg (fun z : Nat => some (iI (z : Int))) (hp.countP_eq _)
theorem cam_3 (hC : CampC S 0 A) (hI : Inv A) {k : Nat} (hk : Here A k) : f5_camper S (iI (k : Int)) 3 = some (iI (area (aL A) k : Int)) := by
  obtain ⟨⟨L, hp, hP⟩, hK⟩ := hC
  have hW := hI.wf.perm hp
  have h16 := hI.1.1
  have hk1 := hk.1
  unfold f5_camper
  rw [hereY hK hI hk, bnd_s, if_neg n10, if_neg (by decide), if_neg (by decide), if_neg (by decide), if_neg (by decide), if_pos rfl, r_pointsOf hP hW (by omega), bnd_s]
  exact congrArg (fun z : Nat => some (iI (z : Int))) (area_perm hp k)
theorem cam_4 (hC : CampC S 0 A) (hI : Inv A) {k : Nat} (hk : Here A k) : f5_camper S (iI (k : Int)) 4 = some (iI (sgN A k : Int)) := by
  obtain ⟨⟨L, hp, hP⟩, hK⟩ := hC
  have hW := hI.wf.perm hp
  have h16 := hI.1.1
  have hk1 := hk.1
  unfold f5_camper
  rw [hereY hK hI hk, bnd_s, if_neg n10, if_neg (by decide), if_neg (by decide), if_neg (by decide), if_neg (by decide), if_neg (by decide), if_pos rfl, r_songsOf hP hp hK hI (by omega), bnd_s]
theorem cam_5 (hC : CampC S 0 A) (hI : Inv A) {k : Nat} (hk : Here A k) : f5_camper S (iI (k : Int)) 5 = some (iI (nbC A k : Int)) := by
  obtain ⟨⟨L, hp, hP⟩, hK⟩ := hC
  have hW := hI.wf.perm hp
  have h16 := hI.1.1
  have hk1 := hk.1
  unfold f5_camper
  rw [hereY hK hI hk, bnd_s, if_neg n10, if_neg (by decide), if_neg (by decide), if_neg (by decide), if_neg (by decide), if_neg (by decide), if_neg (by decide), if_pos rfl, r_neighboursOf hP hW (by omega), bnd_s]
  have e : ((List.range 16).filter (fun o => o != k && nbr L k o)).length = nbC A k := by
    unfold nbC
    rw [← List.countP_eq_length_filter]
    congr 1
    funext o
    rw [nbr_perm hp k o]
  rw [e]
theorem cam_n (hC : CampC S 0 A) (hI : Inv A) {z w : Int32} (h : ¬ ∃ k, Here A k ∧ z = iI (k : Int)) : f5_camper S z w = some (-1) := by
  unfold f5_camper
  rw [hereN hC.2 hI h, bnd_s, if_pos y00]
end T1
theorem cam_det {A : Ab} (hI : Inv A) (z w : Int32) : ∃ r, ∀ S, CampC S 0 A → f5_camper S z w = some r := by
  by_cases hz : ∃ k, Here A k ∧ z = iI (k : Int)
  · obtain ⟨k, hk, rfl⟩ := hz
    rcases sw7 w with h | rfl | rfl | rfl | rfl | rfl | rfl | rfl
    · refine ⟨-2, fun S hC => ?_⟩
      unfold f5_camper
      rw [hereY hC.2 hI hk, bnd_s, if_neg n10, if_pos h]
    · exact ⟨_, fun S hC => cam_0 hC hI hk⟩
    · exact ⟨_, fun S hC => cam_1 hC hI hk⟩
    · exact ⟨_, fun S hC => cam_2 hC hI hk⟩
    · exact ⟨_, fun S hC => cam_3 hC hI hk⟩
    · exact ⟨_, fun S hC => cam_4 hC hI hk⟩
    · exact ⟨_, fun S hC => cam_5 hC hI hk⟩
    · have h20 := hI.1.2
      obtain ⟨r, b1⟩ := bitsD (x := ldN A k (aS A)) (by
        rcases ldN_G hI k (aS A) (Nat.le_refl _) with h | h
        · exact Or.inl h
        · exact Or.inr ⟨123, 133 + 2 * aS A, by omega, by omega, h⟩)
      refine ⟨r, fun S hC => ?_⟩
      have h16 := hI.1.1
      have hk1 := hk.1
      obtain ⟨⟨L, hp, hP⟩, hK⟩ := hC
      unfold f5_camper
      rw [hereY hK hI hk, bnd_s, if_neg n10, if_neg (by decide), if_neg (by decide), if_neg (by decide), if_neg (by decide), if_neg (by decide), if_neg (by decide), if_neg (by decide), if_pos rfl, r_loudnessOf hP hp hK hI (by omega), bnd_s, b1, bnd_s]
  · exact ⟨_, fun S hC => cam_n hC hI hz⟩
theorem song_det {A : Ab} (hI : Inv A) (z w : Int32) : ∃ r, ∀ S, CampC S 0 A → f5_song S z w = some r := by
  by_cases hz : ∃ k, k < aS A ∧ z = iI (k : Int)
  · obtain ⟨k, hk, rfl⟩ := hz
    have hso := hI.song hk
    rcases sw4 w with h | rfl | rfl | rfl | rfl
    · refine ⟨-2, fun S hC => ?_⟩
      unfold f5_song
      rw [songY hC.2 hI hk, bnd_s, if_neg n10, if_pos h]
    · refine ⟨iI (aU A k : Int), fun S hC => ?_⟩
      unfold f5_song
      rw [songY hC.2 hI hk, bnd_s, if_neg n10, if_neg (by decide), if_pos rfl, at_su hC.2 hI hk, bnd_s]
    · refine ⟨iI (aV A k : Int), fun S hC => ?_⟩
      unfold f5_song
      rw [songY hC.2 hI hk, bnd_s, if_neg n10, if_neg (by decide), if_neg (by decide), if_pos rfl, at_sv hC.2 hI hk, bnd_s]
    · obtain ⟨r, b1⟩ := bitsD (x := ldS (aT A k)) (Or.inr ⟨123, 133, by omega, by omega, loud_E hso.2.2.1 hso.2.2.2⟩)
      refine ⟨r, fun S hC => ?_⟩
      unfold f5_song
      rw [songY hC.2 hI hk, bnd_s, if_neg n10, if_neg (by decide), if_neg (by decide), if_neg (by decide), if_pos rfl, r_loudSong hC.2 hI hk, bnd_s, b1, bnd_s]
    · refine ⟨iI (tldW (sgW A k)), fun S hC => ?_⟩
      unfold f5_song
      rw [songY hC.2 hI hk, bnd_s, if_neg n10, if_neg (by decide), if_neg (by decide), if_neg (by decide), if_neg (by decide), if_pos rfl, told hC hI hk, bnd_s]
  · refine ⟨-1, fun S hC => ?_⟩
    unfold f5_song
    rw [songN hC.2 hI hz, bnd_s, if_pos y00]
theorem rk_e {L L' : List Pl} (h : L.Perm L') (p : Pl) : L.countP (fun q => pW q == pW p && low q p) = L'.countP (fun q => pW q == pW p && low q p) := h.countP_eq _
theorem plotOf_det {A : Ab} (hI : Inv A) (z r w : Int32) : ∃ v, ∀ S, CampC S 0 A → f5_plotOf S z r w = some v := by
  by_cases hz : ∃ k, Here A k ∧ z = iI (k : Int)
  · obtain ⟨k, hk, rfl⟩ := hz
    have h16 := hI.1.1
    have hk1 := hk.1
    obtain ⟨ri, r1, r2, rfl⟩ := iI_of r
    by_cases h0 : ri < 0
    · refine ⟨-2, fun S hC => ?_⟩
      have : iI ri < 0 := by rw [q0, iI_lt (by omega) (by omega) (by omega) (by omega)]; exact h0
      unfold f5_plotOf f5_plotOf_b26
      rw [hereY hC.2 hI hk, bnd_s, if_neg n10, if_pos this]
    · have hr : ¬ iI ri < 0 := by rw [q0, iI_lt (by omega) (by omega) (by omega) (by omega)]; exact h0
      by_cases w0 : w < 0
      · refine ⟨-2, fun S hC => ?_⟩
        unfold f5_plotOf f5_plotOf_b26
        rw [hereY hC.2 hI hk, bnd_s, if_neg n10, if_neg hr, if_pos w0]
      · by_cases w2 : w ≤ 2
        · by_cases hex : ∃ S, CampC S 0 A
          · obtain ⟨S0, ⟨L0, hp0, hP0⟩, hK0⟩ := hex
            have hW0 := hI.wf.perm hp0
            rcases r_ranked hP0 hW0 (k := k) (by omega) (r := ri) (by omega) r2 with ⟨j, p, j1, j2, j3⟩ | ⟨j1, j2⟩
            · rw [Bool.and_eq_true, decide_eq_true_iff] at j2
              refine ⟨if w = 0 then iI (pX p : Int) else if w = 1 then iI (pY p : Int) else iI (pD p : Int), fun S hC => ?_⟩
              obtain ⟨⟨L, hp, hP⟩, hK⟩ := hC
              have hW := hI.wf.perm hp
              rcases r_ranked hP hW (k := k) (by omega) (r := ri) (by omega) r2 with ⟨j', p', l1, l2, l3⟩ | ⟨l1, l2⟩
              · rw [Bool.and_eq_true, decide_eq_true_iff] at l2
                have ep : p' = p := by
                  refine rank_one hI.til hI.2.1 (hp.mem_iff.mp (List.mem_of_getElem? l1)) (hp0.mem_iff.mp (List.mem_of_getElem? j1)) ?_ ?_
                  · have a := j2.1
                    have b := l2.1
                    simp at a b
                    omega
                  · rw [← rk_e hp, ← rk_e hp0]
                    omega
                subst ep
                have hjl := hW.lt l1
                have c1 : ¬ iI (j' : Int) = -1 := by rw [iI_m1, iI_eq (by omega) (by omega) (by omega) (by omega)]; omega
                unfold f5_plotOf f5_plotOf_b101
                rw [hereY hK hI hk, bnd_s, if_neg n10, if_neg hr, if_neg w0, if_pos w2, l3, bnd_s, if_neg c1]
                by_cases e0 : w = 0
                · rw [if_pos e0, if_pos e0, r_x0Of hP hW l1, bnd_s]
                · rw [if_neg e0, if_neg e0]
                  by_cases e1 : w = 1
                  · rw [if_pos e1, if_pos e1, r_y0Of hP hW l1, bnd_s]
                  · rw [if_neg e1, if_neg e1, r_depthOf hP hW l1, bnd_s]
              · have := l1 p (hp.mem_iff.mpr (hp0.mem_iff.mp (List.mem_of_getElem? j1)))
                rw [Bool.and_eq_false_iff, decide_eq_false_iff_not] at this
                exfalso
                rcases this with h | h
                · rw [j2.1] at h; cases h
                · rw [rk_e hp, ← rk_e hp0] at h; exact h j2.2
            · refine ⟨-5, fun S hC => ?_⟩
              obtain ⟨⟨L, hp, hP⟩, hK⟩ := hC
              have hW := hI.wf.perm hp
              rcases r_ranked hP hW (k := k) (by omega) (r := ri) (by omega) r2 with ⟨j', p', l1, l2, l3⟩ | ⟨l1, l2⟩
              · have := j1 p' (hp0.mem_iff.mpr (hp.mem_iff.mp (List.mem_of_getElem? l1)))
                rw [Bool.and_eq_true, decide_eq_true_iff] at l2
                rw [Bool.and_eq_false_iff, decide_eq_false_iff_not] at this
                exfalso
                rcases this with h | h
                · rw [l2.1] at h; cases h
                · rw [rk_e hp0, ← rk_e hp] at h; exact h l2.2
              · unfold f5_plotOf
                rw [hereY hK hI hk, bnd_s, if_neg n10, if_neg hr, if_neg w0, if_pos w2, l2, bnd_s, if_pos (show iI (-1) = -1 from rfl)]
          · exact ⟨0, fun S hC => absurd ⟨S, hC⟩ hex⟩
        · refine ⟨-2, fun S hC => ?_⟩
          unfold f5_plotOf f5_plotOf_b26
          rw [hereY hC.2 hI hk, bnd_s, if_neg n10, if_neg hr, if_neg w0, if_neg w2]
  · refine ⟨-1, fun S hC => ?_⟩
    unfold f5_plotOf
    rw [hereN hC.2 hI hz, bnd_s, if_pos y00]
section T2
variable {S : St} {A : Ab}
theorem cnt_0 (hC : CampC S 0 A) (hI : Inv A) : f5_count S 0 = some (iI (nH A : Int)) := by
  obtain ⟨⟨L, hp, hP⟩, hK⟩ := hC
  have hW := hI.wf.perm hp
  unfold f5_count
  rw [if_neg (by decide), if_pos rfl, r_campersHere hK hI, bnd_s]
theorem cnt_1 (hC : CampC S 0 A) (hI : Inv A) : f5_count S 1 = some (iI (aN A : Int)) := by
  obtain ⟨⟨L, hp, hP⟩, hK⟩ := hC
  have hW := hI.wf.perm hp
  unfold f5_count
  rw [if_neg (by decide), if_neg (by decide), if_pos rfl, hK.1]
theorem cnt_2 (hC : CampC S 0 A) (hI : Inv A) : f5_count S 2 = some (iI ((aL A).length : Int)) := by
  obtain ⟨⟨L, hp, hP⟩, hK⟩ := hC
  have hW := hI.wf.perm hp
  unfold f5_count
  rw [if_neg (by decide), if_neg (by decide), if_neg (by decide), if_pos rfl, hP.1, hp.length_eq]
theorem cnt_3 (hC : CampC S 0 A) (hI : Inv A) : f5_count S 3 = some (iI (aS A : Int)) := by
  obtain ⟨⟨L, hp, hP⟩, hK⟩ := hC
  have hW := hI.wf.perm hp
  unfold f5_count
  rw [if_neg (by decide), if_neg (by decide), if_neg (by decide), if_neg (by decide), if_pos rfl, hK.2.1]
theorem cnt_4 (hC : CampC S 0 A) (hI : Inv A) : f5_count S 4 = some (iI ((List.foldl (fun b p => max b (pD p)) 0 (aL A) : Nat) : Int)) := by
  obtain ⟨⟨L, hp, hP⟩, hK⟩ := hC
  have hW := hI.wf.perm hp
  unfold f5_count
  rw [if_neg (by decide), if_neg (by decide), if_neg (by decide), if_neg (by decide), if_neg (by decide), if_pos rfl, r_greatest hP hW, bnd_s, foldl_max_perm hp]
theorem cnt_5 (hC : CampC S 0 A) (hI : Inv A) : f5_count S 5 = some (iI ((List.foldl (fun b p => min b (pD p)) 12 (aL A) : Nat) : Int)) := by
  obtain ⟨⟨L, hp, hP⟩, hK⟩ := hC
  have hW := hI.wf.perm hp
  unfold f5_count
  rw [if_neg (by decide), if_neg (by decide), if_neg (by decide), if_neg (by decide), if_neg (by decide), if_neg (by decide), if_pos rfl, r_least hP hW, bnd_s, foldl_min_perm hp]
theorem cnt_6 (hC : CampC S 0 A) (hI : Inv A) : f5_count S 6 = some (iI (moreN A : Int)) := by
  obtain ⟨⟨L, hp, hP⟩, hK⟩ := hC
  have hW := hI.wf.perm hp
  unfold f5_count
  rw [if_neg (by decide), if_neg (by decide), if_neg (by decide), if_neg (by decide), if_neg (by decide), if_neg (by decide), if_neg (by decide), if_pos rfl, r_more hP hp hK hI, bnd_s]
theorem cnt_7 (hC : CampC S 0 A) (hI : Inv A) : f5_count S 7 = some (aC1 A) := by
  obtain ⟨⟨L, hp, hP⟩, hK⟩ := hC
  have hW := hI.wf.perm hp
  unfold f5_count
  rw [if_neg (by decide), if_neg (by decide), if_neg (by decide), if_neg (by decide), if_neg (by decide), if_neg (by decide), if_neg (by decide), if_neg (by decide), if_pos rfl, hK.2.2.1]
theorem cnt_8 (hC : CampC S 0 A) (hI : Inv A) : f5_count S 8 = some (aC2 A) := by
  obtain ⟨⟨L, hp, hP⟩, hK⟩ := hC
  have hW := hI.wf.perm hp
  unfold f5_count
  rw [if_neg (by decide), if_neg (by decide), if_neg (by decide), if_neg (by decide), if_neg (by decide), if_neg (by decide), if_neg (by decide), if_neg (by decide), if_neg (by decide), if_pos rfl, hK.2.2.2.1]
theorem cnt_9 (hC : CampC S 0 A) (hI : Inv A) : f5_count S 9 = some (aC3 A) := by
  obtain ⟨⟨L, hp, hP⟩, hK⟩ := hC
  have hW := hI.wf.perm hp
  unfold f5_count
  rw [if_neg (by decide), if_neg (by decide), if_neg (by decide), if_neg (by decide), if_neg (by decide), if_neg (by decide), if_neg (by decide), if_neg (by decide), if_neg (by decide), if_neg (by decide), if_pos rfl, hK.2.2.2.2.1]
theorem cnt_10 {H : List Ab} (h : HistC S H) : f5_count S 10 = some (iI (H.length : Int)) := by
  unfold f5_count
  rw [if_neg (by decide), if_neg (by decide), if_neg (by decide), if_neg (by decide), if_neg (by decide), if_neg (by decide), if_neg (by decide), if_neg (by decide), if_neg (by decide), if_neg (by decide), if_neg (by decide), if_pos rfl, h.2.1]
end T2
/-- two states of one camp tell alike -/
theorem cnt_same {S S' : St} {A : Ab} (hC : CampC S 0 A) (hC' : CampC S' 0 A) (hI : Inv A) (i : Nat) (hi : i < 10) : ∃ r, f5_count S (iI (i : Int)) = some r ∧ f5_count S' (iI (i : Int)) = some r := by
  obtain rfl | rfl | rfl | rfl | rfl | rfl | rfl | rfl | rfl | rfl : i = 0 ∨ i = 1 ∨ i = 2 ∨ i = 3 ∨ i = 4 ∨ i = 5 ∨ i = 6 ∨ i = 7 ∨ i = 8 ∨ i = 9 := by omega
  · exact ⟨_, cnt_0 hC hI, cnt_0 hC' hI⟩
  · exact ⟨_, cnt_1 hC hI, cnt_1 hC' hI⟩
  · exact ⟨_, cnt_2 hC hI, cnt_2 hC' hI⟩
  · exact ⟨_, cnt_3 hC hI, cnt_3 hC' hI⟩
  · exact ⟨_, cnt_4 hC hI, cnt_4 hC' hI⟩
  · exact ⟨_, cnt_5 hC hI, cnt_5 hC' hI⟩
  · exact ⟨_, cnt_6 hC hI, cnt_6 hC' hI⟩
  · exact ⟨_, cnt_7 hC hI, cnt_7 hC' hI⟩
  · exact ⟨_, cnt_8 hC hI, cnt_8 hC' hI⟩
  · exact ⟨_, cnt_9 hC hI, cnt_9 hC' hI⟩
section T3
variable {S : St} {A : Ab} {x y : Nat}
theorem plo_0 (hC : CampC S 0 A) (hI : Inv A) (hx : x < 64) (hy : y < 64) : f5_plot S (iI (x : Int)) (iI (y : Int)) 0 = some (if pW (plAt (aL A) x y) = 0 then -5 else iI ((pW (plAt (aL A) x y) : Int) - 1)) := by
  obtain ⟨⟨L, hp, hP⟩, hK⟩ := hC
  have hW := hI.wf.perm hp
  obtain ⟨j, hj, hf⟩ := r_at hP hp hI hx hy
  have hO := (hW.at hj).b
  unfold f5_plot
  rw [isptY hx hy, bnd_s, if_neg n10, hf, bnd_s, if_neg (by decide), if_pos rfl, r_ownerOf hP hW hj, bnd_s, orNone_t (by omega), bnd_s]
theorem plo_1 (hC : CampC S 0 A) (hI : Inv A) (hx : x < 64) (hy : y < 64) : f5_plot S (iI (x : Int)) (iI (y : Int)) 1 = some (iI (pD (plAt (aL A) x y) : Int)) := by
  obtain ⟨⟨L, hp, hP⟩, hK⟩ := hC
  have hW := hI.wf.perm hp
  obtain ⟨j, hj, hf⟩ := r_at hP hp hI hx hy
  have hO := (hW.at hj).b
  unfold f5_plot
  rw [isptY hx hy, bnd_s, if_neg n10, hf, bnd_s, if_neg (by decide), if_neg (by decide), if_pos rfl, r_depthOf hP hW hj, bnd_s]
theorem plo_2 (hC : CampC S 0 A) (hI : Inv A) (hx : x < 64) (hy : y < 64) : f5_plot S (iI (x : Int)) (iI (y : Int)) 2 = some (iI (pX (plAt (aL A) x y) : Int)) := by
  obtain ⟨⟨L, hp, hP⟩, hK⟩ := hC
  have hW := hI.wf.perm hp
  obtain ⟨j, hj, hf⟩ := r_at hP hp hI hx hy
  have hO := (hW.at hj).b
  unfold f5_plot
  rw [isptY hx hy, bnd_s, if_neg n10, hf, bnd_s, if_neg (by decide), if_neg (by decide), if_neg (by decide), if_pos rfl, r_x0Of hP hW hj, bnd_s]
theorem plo_3 (hC : CampC S 0 A) (hI : Inv A) (hx : x < 64) (hy : y < 64) : f5_plot S (iI (x : Int)) (iI (y : Int)) 3 = some (iI (pY (plAt (aL A) x y) : Int)) := by
  obtain ⟨⟨L, hp, hP⟩, hK⟩ := hC
  have hW := hI.wf.perm hp
  obtain ⟨j, hj, hf⟩ := r_at hP hp hI hx hy
  have hO := (hW.at hj).b
  unfold f5_plot
  rw [isptY hx hy, bnd_s, if_neg n10, hf, bnd_s, if_neg (by decide), if_neg (by decide), if_neg (by decide), if_neg (by decide), if_pos rfl, r_y0Of hP hW hj, bnd_s]
theorem plo_4 (hC : CampC S 0 A) (hI : Inv A) (hx : x < 64) (hy : y < 64) : f5_plot S (iI (x : Int)) (iI (y : Int)) 4 = some (iI ((pX (plAt (aL A) x y) : Int) + wid (pD (plAt (aL A) x y)) - 1)) := by
  obtain ⟨⟨L, hp, hP⟩, hK⟩ := hC
  have hW := hI.wf.perm hp
  obtain ⟨j, hj, hf⟩ := r_at hP hp hI hx hy
  have hO := (hW.at hj).b
  unfold f5_plot
  rw [isptY hx hy, bnd_s, if_neg n10, hf, bnd_s, if_neg (by decide), if_neg (by decide), if_neg (by decide), if_neg (by decide), if_neg (by decide), if_pos rfl, r_x1Of hP hW hj, bnd_s]
theorem plo_5 (hC : CampC S 0 A) (hI : Inv A) (hx : x < 64) (hy : y < 64) : f5_plot S (iI (x : Int)) (iI (y : Int)) 5 = some (iI ((pY (plAt (aL A) x y) : Int) + hei (pD (plAt (aL A) x y)) - 1)) := by
  obtain ⟨⟨L, hp, hP⟩, hK⟩ := hC
  have hW := hI.wf.perm hp
  obtain ⟨j, hj, hf⟩ := r_at hP hp hI hx hy
  have hO := (hW.at hj).b
  unfold f5_plot
  rw [isptY hx hy, bnd_s, if_neg n10, hf, bnd_s, if_neg (by decide), if_neg (by decide), if_neg (by decide), if_neg (by decide), if_neg (by decide), if_neg (by decide), if_pos rfl, r_y1Of hP hW hj, bnd_s]
end T3
