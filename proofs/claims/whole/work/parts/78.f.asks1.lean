/-! STAGE B, 53: what is told: plots, campers, songs -/
theorem sw7 (z : Int32) : (z.toInt < 0 ∨ 6 < z.toInt) ∨ z = 0 ∨ z = 1 ∨ z = 2 ∨ z = 3 ∨ z = 4 ∨ z = 5 ∨ z = 6 := by
  obtain ⟨a, a1, a2, rfl⟩ := iI_of z
  rw [iI_toInt a1 a2, q0, q1, q2, q3, q4, q5, q6]
  by_cases h : a < 0 ∨ 6 < a
  · exact Or.inl h
  · refine Or.inr ?_
    obtain rfl | rfl | rfl | rfl | rfl | rfl | rfl : a = 0 ∨ a = 1 ∨ a = 2 ∨ a = 3 ∨ a = 4 ∨ a = 5 ∨ a = 6 := by omega
    all_goals simp
theorem sw4 (z : Int32) : (z.toInt < 0 ∨ 3 < z.toInt) ∨ z = 0 ∨ z = 1 ∨ z = 2 ∨ z = 3 := by
  obtain ⟨a, a1, a2, rfl⟩ := iI_of z
  rw [iI_toInt a1 a2, q0, q1, q2, q3]
  by_cases h : a < 0 ∨ 3 < a
  · exact Or.inl h
  · refine Or.inr ?_
    obtain rfl | rfl | rfl | rfl : a = 0 ∨ a = 1 ∨ a = 2 ∨ a = 3 := by omega
    all_goals simp
theorem sw3 (z : Int32) : ((z < 0 ∨ (0 ≤ z ∧ 2 < z)) ∧ ¬ (0 ≤ z ∧ z ≤ 2) ∧ f6_in z 0 2 = some 0) ∨ ((z = 0 ∨ z = 1 ∨ z = 2) ∧ ¬ z < 0 ∧ z ≤ 2 ∧ f6_in z 0 2 = some 1) := by
  obtain ⟨a, a1, a2, rfl⟩ := iI_of z
  have e : f6_in (iI a) 0 2 = some (b2i (decide (0 ≤ a ∧ a ≤ 2))) := m_in (b := 0) (c := 2) a1 a2 (by omega) (by omega) (by omega) (by omega)
  rw [e, q0, q1, q2]
  by_cases h : 0 ≤ a ∧ a ≤ 2
  · refine Or.inr ⟨?_, by rw [iI_lt (by omega) (by omega) (by omega) (by omega)]; omega, by rw [iI_le (by omega) (by omega) (by omega) (by omega)]; omega, by rw [decide_eq_true h]; rfl⟩
    obtain rfl | rfl | rfl : a = 0 ∨ a = 1 ∨ a = 2 := by omega
    · exact Or.inl rfl
    · exact Or.inr (Or.inl rfl)
    · exact Or.inr (Or.inr rfl)
  · refine Or.inl ⟨?_, ?_, by rw [decide_eq_false h]; rfl⟩
    · rw [iI_lt (by omega) (by omega) (by omega) (by omega), iI_lt (by omega) (by omega) (by omega) (by omega), iI_le (by omega) (by omega) (by omega) (by omega)]; omega
    · rw [iI_le (by omega) (by omega) (by omega) (by omega), iI_le (by omega) (by omega) (by omega) (by omega)]; omega
theorem orNone_t {w : Nat} (hw : w ≤ 16) : f5_orNone (iI ((w : Int) - 1)) = some (if w = 0 then -5 else iI ((w : Int) - 1)) := by
  unfold f5_orNone f5_orNone_b11
  rw [iI_m1]
  by_cases h : w = 0
  · rw [if_pos (by rw [h]; rfl), if_pos h]
  · rw [if_neg (by rw [iI_eq (by omega) (by omega) (by omega) (by omega)]; omega), if_neg h]
section A5
variable {S M : St} {A : Ab} {H : List Ab} {sn : Option Ab} {T : List Nat}
theorem q_plot (hI : GI A H sn T) (hC : GC S A H sn T) (hM : GM M A H sn T) (x y w : Int32) : QQ (f5_plot S x y w) (f6_plot M x y w) S := by
  have hM1 := hM.t0
  obtain ⟨M1, e1⟩ : ∃ M1, M1 = sI M 0 0 := ⟨_, rfl⟩
  unfold f5_plot f6_plot f6_plot_b92
  rw [nam_r, ← e1]
  rw [← e1] at hM1
  have fin : ∀ r : Int32, QQ (some r) (some (r, M1)) S := fun r => ⟨_, _, rfl, rfl, A, H, sn, T, hI, hC, hM1⟩
  rcases isPoint2 x y with ⟨a, b, ha, hb, rfl, rfl, p5, p6⟩ | ⟨p5, p6⟩
  · rw [p5, p6, bnd_s, bnd_s, if_neg n10, if_neg n10]
    obtain ⟨⟨L, hp, hP⟩, hK⟩ := hC.1
    obtain ⟨⟨L2, hp2, hP2⟩, hV⟩ := hM1.1
    have hW := hI.1.wf.perm hp
    have hW2 := hI.1.wf.perm hp2
    obtain ⟨j, hj, hf⟩ := r_at hP hp hI.1 ha hb
    obtain ⟨j2, hj2, hf2⟩ := m_at hP2 hp2 hI.1 ha hb
    have hO := (hW.at hj).b
    rw [hf, bnd_s, hf2, bnd_s]
    rcases sw7 w with h | rfl | rfl | rfl | rfl | rfl | rfl | rfl
    · rw [if_pos h, if_pos h]; exact fin _
    · rw [if_neg (by decide), if_pos rfl, if_neg (by decide), if_pos rfl, r_ownerOf hP hW hj, bnd_s, orNone_t (by omega), bnd_s, m_w hP2 hW2 hj2, bnd_s, bnd_s]
      by_cases h0 : pW (plAt (aL A) a b) = 0
      · rw [if_pos h0, if_pos (by rw [h0]; rfl)]; exact fin _
      · rw [if_neg h0, if_neg (by rw [q0, iI_eq (by omega) (by omega) (by omega) (by omega)]; omega), q1, iI_sub]; exact fin _
    · rw [if_neg (by decide), if_neg (by decide), if_pos rfl, if_neg (by decide), if_neg (by decide), if_pos rfl, r_depthOf hP hW hj, bnd_s, m_d hP2 hW2 hj2, bnd_s]; exact fin _
    · rw [if_neg (by decide), if_neg (by decide), if_neg (by decide), if_pos rfl, if_neg (by decide), if_neg (by decide), if_neg (by decide), if_pos rfl, r_x0Of hP hW hj, bnd_s, m_x hP2 hW2 hj2, bnd_s]; exact fin _
    · rw [if_neg (by decide), if_neg (by decide), if_neg (by decide), if_neg (by decide), if_pos rfl, if_neg (by decide), if_neg (by decide), if_neg (by decide), if_neg (by decide), if_pos rfl, r_y0Of hP hW hj, bnd_s, m_y hP2 hW2 hj2, bnd_s]; exact fin _
    · rw [if_neg (by decide), if_neg (by decide), if_neg (by decide), if_neg (by decide), if_neg (by decide), if_pos rfl, if_neg (by decide), if_neg (by decide), if_neg (by decide), if_neg (by decide), if_neg (by decide), if_pos rfl, r_x1Of hP hW hj, bnd_s, m_lastX hP2 hW2 hj2, bnd_s]; exact fin _
    · rw [if_neg (by decide), if_neg (by decide), if_neg (by decide), if_neg (by decide), if_neg (by decide), if_neg (by decide), if_pos rfl, if_neg (by decide), if_neg (by decide), if_neg (by decide), if_neg (by decide), if_neg (by decide), if_neg (by decide), if_pos rfl, r_y1Of hP hW hj, bnd_s, m_lastY hP2 hW2 hj2, bnd_s]; exact fin _
    · rw [if_neg (by decide), if_neg (by decide), if_neg (by decide), if_neg (by decide), if_neg (by decide), if_neg (by decide), if_neg (by decide), if_pos rfl, if_neg (by decide), if_neg (by decide), if_neg (by decide), if_neg (by decide), if_neg (by decide), if_neg (by decide), if_neg (by decide), if_pos rfl, r_manyBeside hP hW hj, bnd_s, m_touching hP2 hW2 hj2, bnd_s, (hp.trans hp2.symm).countP_eq]; exact fin _
  · rw [p5, p6, bnd_s, bnd_s, if_pos y00, if_pos y00]; exact fin _
theorem bits2 (hI : Inv A) {x : UInt32} (h : x = FP.fconst0 ∨ ∃ lo hi, 100 ≤ lo ∧ hi ≤ 250 ∧ LG lo hi x) : ∃ r, f5_bitsOf x = some r ∧ fJxf58ca_floatToIntBits_5c35a x = some r := by
  rcases h with h | ⟨lo, hi, h1, h2, E, t, h3, h4, h5, h6⟩
  · rw [h]; exact ⟨_, r_bitsOf0, r_fbits0⟩
  · rw [h6]; exact ⟨_, r_bitsOf (by omega) (by omega) h5, r_fbits (by omega) (by omega) h5⟩
theorem q_camper (hI : GI A H sn T) (hC : GC S A H sn T) (hM : GM M A H sn T) (z w : Int32) : QQ (f5_camper S z w) (f6_camper M z w) S := by
  have hM1 := hM.t0
  obtain ⟨M1, e1⟩ : ∃ M1, M1 = sI M 0 0 := ⟨_, rfl⟩
  unfold f5_camper f6_camper
  rw [nam_r, ← e1]
  rw [← e1] at hM1
  have fin : ∀ r : Int32, QQ (some r) (some (r, M1)) S := fun r => ⟨_, _, rfl, rfl, A, H, sn, T, hI, hC, hM1⟩
  rcases isHere2 hC.1.2 hM1.1.2 hI.1 z with ⟨k, hk, rfl, h5, h6⟩ | ⟨h5, h6⟩
  · rw [h5, h6, bnd_s, bnd_s, if_neg n10, if_neg n10]
    obtain ⟨⟨L, hp, hP⟩, hK⟩ := hC.1
    obtain ⟨⟨L2, hp2, hP2⟩, hV⟩ := hM1.1
    have hW := hI.1.wf.perm hp
    have hW2 := hI.1.wf.perm hp2
    have h16 := hI.1.1.1
    have h20 := hI.1.1.2
    have hk1 := hk.1
    rcases sw7 w with h | rfl | rfl | rfl | rfl | rfl | rfl | rfl
    · rw [if_pos h, if_pos h]; exact fin _
    · rw [if_neg (by decide), if_pos rfl, if_neg (by decide), if_pos rfl, at_tx hK hI.1 hk1, bnd_s, show ((1 : Int32) + 0) = 1 from rfl, m_tx hV h16 hk1, bnd_s]; exact fin _
    · rw [if_neg (by decide), if_neg (by decide), if_pos rfl, if_neg (by decide), if_neg (by decide), if_pos rfl, at_ty hK hI.1 hk1, bnd_s, show ((1 : Int32) + 1) = 2 from rfl, m_ty hV h16 hk1, bnd_s]; exact fin _
    · rw [if_neg (by decide), if_neg (by decide), if_neg (by decide), if_pos rfl, if_neg (by decide), if_neg (by decide), if_neg (by decide), if_pos rfl, r_manyOf hP hW (by omega), bnd_s, m_plotsOf hP2 hW2 (by omega), bnd_s, (hp.trans hp2.symm).countP_eq]; exact fin _
    · rw [if_neg (by decide), if_neg (by decide), if_neg (by decide), if_neg (by decide), if_pos rfl, if_neg (by decide), if_neg (by decide), if_neg (by decide), if_neg (by decide), if_pos rfl, r_pointsOf hP hW (by omega), bnd_s, m_areaOf hP2 hW2 (by omega), bnd_s, ← area_perm (hp.trans hp2.symm) k]; exact fin _
    · rw [if_neg (by decide), if_neg (by decide), if_neg (by decide), if_neg (by decide), if_neg (by decide), if_pos rfl, if_neg (by decide), if_neg (by decide), if_neg (by decide), if_neg (by decide), if_neg (by decide), if_pos rfl, r_songsOf hP hp hK hI.1 (by omega), bnd_s, m_songsOf hP2 hp2 hV hI.1 (by omega), bnd_s]; exact fin _
    · rw [if_neg (by decide), if_neg (by decide), if_neg (by decide), if_neg (by decide), if_neg (by decide), if_neg (by decide), if_pos rfl, if_neg (by decide), if_neg (by decide), if_neg (by decide), if_neg (by decide), if_neg (by decide), if_neg (by decide), if_pos rfl, r_neighboursOf hP hW (by omega), bnd_s, m_neighbours hP2 hp2 hV hI.1 (by omega), bnd_s]
      have e : ((List.range 16).filter (fun o => o != k && nbr L k o)).length = (List.range 16).countP (fun o => o != k && nbr (aL A) k o) := by
        rw [← List.countP_eq_length_filter]
        congr 1
        funext o
        rw [nbr_perm hp k o]
      rw [e]; exact fin _
    · obtain ⟨r, b1, b2⟩ := bits2 (x := ldN A k (aS A)) hI.1 (by
        rcases ldN_G hI.1 k (aS A) (Nat.le_refl _) with h | h
        · exact Or.inl h
        · exact Or.inr ⟨123, 133 + 2 * aS A, by omega, by omega, h⟩)
      rw [if_neg (by decide), if_neg (by decide), if_neg (by decide), if_neg (by decide), if_neg (by decide), if_neg (by decide), if_neg (by decide), if_pos rfl, if_neg (by decide), if_neg (by decide), if_neg (by decide), if_neg (by decide), if_neg (by decide), if_neg (by decide), if_neg (by decide), if_pos rfl, r_loudnessOf hP hp hK hI.1 (by omega), bnd_s, b1, bnd_s, m_loudness hP2 hp2 hV hI.1 (by omega), bnd_s, b2, bnd_s]; exact fin _
  · rw [h5, h6, bnd_s, bnd_s, if_pos y00, if_pos y00]; exact fin _
theorem q_song (hI : GI A H sn T) (hC : GC S A H sn T) (hM : GM M A H sn T) (z w : Int32) : QQ (f5_song S z w) (f6_song M z w) S := by
  have hM1 := hM.t0
  obtain ⟨M1, e1⟩ : ∃ M1, M1 = sI M 0 0 := ⟨_, rfl⟩
  unfold f5_song f6_song
  rw [nam_r, ← e1]
  rw [← e1] at hM1
  have fin : ∀ r : Int32, QQ (some r) (some (r, M1)) S := fun r => ⟨_, _, rfl, rfl, A, H, sn, T, hI, hC, hM1⟩
  rcases isSong2 hC.1.2 hM1.1.2 hI.1 z with ⟨k, hk, rfl, h5, h6⟩ | ⟨h5, h6⟩
  · rw [h5, h6, bnd_s, bnd_s, if_neg n10, if_neg n10]
    have hK := hC.1.2
    have hV := hM1.1.2
    have h20 := hI.1.1.2
    have hso := hI.1.song hk
    rcases sw4 w with h | rfl | rfl | rfl | rfl
    · rw [if_pos h, if_pos h]; exact fin _
    · rw [if_neg (by decide), if_pos rfl, if_neg (by decide), if_pos rfl, at_su hK hI.1 hk, bnd_s, m_su hV h20 hk, bnd_s]; exact fin _
    · rw [if_neg (by decide), if_neg (by decide), if_pos rfl, if_neg (by decide), if_neg (by decide), if_pos rfl, at_sv hK hI.1 hk, bnd_s, m_sv hV h20 hk, bnd_s]; exact fin _
    · obtain ⟨r, b1, b2⟩ := bits2 (x := ldS (aT A k)) hI.1 (Or.inr ⟨123, 133, by omega, by omega, loud_E hso.2.2.1 hso.2.2.2⟩)
      rw [if_neg (by decide), if_neg (by decide), if_neg (by decide), if_pos rfl, if_neg (by decide), if_neg (by decide), if_neg (by decide), if_pos rfl, r_loudSong hK hI.1 hk, bnd_s, b1, bnd_s, m_st hV h20 hk, bnd_s, m_loud hso.2.2.1 hso.2.2.2, bnd_s, b2, bnd_s]; exact fin _
    · obtain ⟨⟨L2, hp2, hP2⟩, hV2⟩ := hM1.1
      rw [if_neg (by decide), if_neg (by decide), if_neg (by decide), if_neg (by decide), if_pos rfl, if_neg (by decide), if_neg (by decide), if_neg (by decide), if_neg (by decide), if_pos rfl, told hC.1 hI.1 hk, bnd_s, m_singer hP2 hp2 hV2 hI.1 hk, bnd_s]; exact fin _
  · rw [h5, h6, bnd_s, bnd_s, if_pos y00, if_pos y00]; exact fin _
/-- of plots of one camper in one tiling, their ranks are unlike -/
theorem rank_one {L : List Pl} (hT : Til L) (hO : ∀ p ∈ L, OkP p) {p q : Pl} (hp : p ∈ L) (hq : q ∈ L) (hw : pW p = pW q) (hc : L.countP (fun r => pW r == pW p && low r p) = L.countP (fun r => pW r == pW q && low r q)) : p = q := by
  have key : ∀ p q : Pl, p ∈ L → pW p = pW q → low p q = true → L.countP (fun r => pW r == pW p && low r p) < L.countP (fun r => pW r == pW q && low r q) := by
    intro p q hp hw hl
    obtain ⟨X, Y, rfl⟩ := List.append_of_mem hp
    have hl' := (low_iff p q).mp hl
    have m : ∀ Z : List Pl, Z.countP (fun r => pW r == pW p && low r p) ≤ Z.countP (fun r => pW r == pW q && low r q) := fun Z => by
      refine List.countP_mono_left (fun r _ h => ?_)
      rw [Bool.and_eq_true] at h ⊢
      refine ⟨by rw [← hw]; exact h.1, ?_⟩
      have := (low_iff r p).mp h.2
      exact (low_iff r q).mpr (by omega)
    have n1 : ¬ ((fun r => pW r == pW p && low r p) p = true) := by
      intro h
      rw [Bool.and_eq_true, low_iff] at h
      omega
    have n2 : (fun r => pW r == pW q && low r q) p = true := by
      show (pW p == pW q && low p q) = true
      rw [hl, hw]; simp
    rw [List.countP_append, List.countP_append, List.countP_cons_of_neg (p := fun r => pW r == pW p && low r p) n1, List.countP_cons_of_pos (p := fun r => pW r == pW q && low r q) n2]
    have a := m X
    have b := m Y
    omega
  by_cases h1 : low p q = true
  · have := key p q hp hw h1; omega
  · by_cases h2 : low q p = true
    · have := key q p hq hw.symm h2; omega
    · have h3 := mt (low_iff p q).mpr h1
      have h4 := mt (low_iff q p).mpr h2
      exact low_eq (by omega) (by omega) (hO p hp) (hO q hq) hT hp hq
theorem q_plotOf (hI : GI A H sn T) (hC : GC S A H sn T) (hM : GM M A H sn T) (z r w : Int32) : QQ (f5_plotOf S z r w) (f6_plotOf M z r w) S := by
  have hM1 := hM.t0
  obtain ⟨M1, e1⟩ : ∃ M1, M1 = sI M 0 0 := ⟨_, rfl⟩
  unfold f5_plotOf f6_plotOf f5_plotOf_b26 f6_plotOf_b28 f5_plotOf_b101
  rw [nam_r, ← e1]
  rw [← e1] at hM1
  have fin : ∀ r : Int32, QQ (some r) (some (r, M1)) S := fun r => ⟨_, _, rfl, rfl, A, H, sn, T, hI, hC, hM1⟩
  rcases isHere2 hC.1.2 hM1.1.2 hI.1 z with ⟨k, hk, rfl, h5, h6⟩ | ⟨h5, h6⟩
  · rw [h5, h6, bnd_s, bnd_s, if_neg n10, if_neg n10]
    obtain ⟨⟨L, hp, hP⟩, hK⟩ := hC.1
    obtain ⟨⟨L2, hp2, hP2⟩, hV⟩ := hM1.1
    have hW := hI.1.wf.perm hp
    have hW2 := hI.1.wf.perm hp2
    have h16 := hI.1.1.1
    have hk1 := hk.1
    have hlen := hW2.1
    obtain ⟨ri, r1, r2, rfl⟩ := iI_of r
    by_cases h0 : ri < 0
    · have : iI ri < 0 := by rw [q0, iI_lt (by omega) (by omega) (by omega) (by omega)]; exact h0
      rw [if_pos this, if_pos this]; exact fin _
    · have : ¬ iI ri < 0 := by rw [q0, iI_lt (by omega) (by omega) (by omega) (by omega)]; exact h0
      rw [if_neg this, if_neg this]
      rcases sw3 w with ⟨g1, g2, g3⟩ | ⟨g1, g2, g3, g4⟩
      · rw [g3, bnd_s, if_pos (show (0 : Int32) = 0 from rfl)]
        rcases g1 with g1 | ⟨g0, g1⟩
        · rw [if_pos g1]; exact fin _
        · rw [if_neg (Int32.not_lt.mpr g0), if_neg (fun h => g2 ⟨g0, h⟩)]; exact fin _
      · rw [g4, bnd_s, if_neg (show ¬ (1 : Int32) = 0 by decide), if_neg g2, if_pos g3]
        have lp := loop_find0 L2 (fun n i => f6_plotOf_b34 M1 (iI (k : Int)) (iI ri) w n i) (fun p => pW p == k + 1 && decide ((L2.countP (fun q => pW q == pW p && low q p) : Int) = ri)) (fun j => if w = 2 then f6_plotOf_b83 M1 0 (iI (j : Int)) else f6_plotOf_b83 M1 (1 + w) (iI (j : Int))) (some (-5, M1)) fuelN (fuel_lt (by omega)) ?_ ?_
        · rcases r_ranked hP hW (k := k) (by omega) (r := ri) (by omega) r2 with ⟨j, p, j1, j2, j3⟩ | ⟨j1, j2⟩
          · have hjl := hW.lt j1
            rw [Bool.and_eq_true, decide_eq_true_iff] at j2
            rcases lp with ⟨j', p', l1, l2, l3⟩ | ⟨l1, l2⟩
            · rw [Bool.and_eq_true, decide_eq_true_iff] at l2
              have hw1 : pW p = k + 1 := by simpa using j2.1
              have hw2 : pW p' = k + 1 := by simpa using l2.1
              have hcp : L2.countP (fun q => pW q == pW p && low q p) = L2.countP (fun q => pW q == pW p' && low q p') := by
                have e := (hp.trans hp2.symm).countP_eq (fun q => pW q == pW p && low q p)
                have a := j2.2
                have b := l2.2
                rw [e] at a
                omega
              have e := rank_one (hI.1.til.perm hp2) hW2.2 (hp2.mem_iff.mpr (hp.mem_iff.mp (List.mem_of_getElem? j1))) (List.mem_of_getElem? l1) (by omega) hcp
              subst e
              rw [j3, bnd_s, if_neg (by rw [iI_m1, iI_eq (by omega) (by omega) (by omega) (by omega)]; omega)]
              rw [l3]
              unfold f6_plotOf_b83
              rcases g1 with rfl | rfl | rfl
              · rw [if_pos rfl, if_neg (by decide), show ((1 : Int32) + 0) = 1 from rfl, r_x0Of hP hW j1, bnd_s, m_x hP2 hW2 l1, bnd_s]; exact fin _
              · rw [if_neg (by decide), if_pos rfl, if_neg (by decide), show ((1 : Int32) + 1) = 2 from rfl, r_y0Of hP hW j1, bnd_s, m_y hP2 hW2 l1, bnd_s]; exact fin _
              · rw [if_neg (by decide), if_neg (by decide), if_pos rfl, r_depthOf hP hW j1, bnd_s, m_d hP2 hW2 l1, bnd_s]; exact fin _
            · have := l1 p (hp2.mem_iff.mpr (hp.mem_iff.mp (List.mem_of_getElem? j1)))
              rw [← (hp.trans hp2.symm).countP_eq, j2.1, Bool.true_and, decide_eq_false_iff_not] at this
              exact absurd j2.2 this
          · rcases lp with ⟨j', p', l1, l2, l3⟩ | ⟨l1, l2⟩
            · have := j1 p' (hp.mem_iff.mpr (hp2.mem_iff.mp (List.mem_of_getElem? l1)))
              rw [(hp.trans hp2.symm).countP_eq, l2] at this
              cases this
            · rw [j2, bnd_s, if_pos (show iI (-1) = -1 from rfl), l2]; exact fin _
        · intro n i p hp'
          have hi := (List.getElem?_eq_some_iff.mp hp').1
          have hOp := (hW2.at hp').b
          have hc := List.countP_le_length (p := fun q => pW q == pW p && low q p) (l := L2)
          show f6_plotOf_b34 M1 _ _ _ (n + 1) _ = _
          rw [f6_plotOf_b34, m_n hP2, if_neg (by rw [iI_le (by omega) (by omega) (by omega) (by omega)]; omega), m_w hP2 hW2 hp', bnd_s, m_rankOf hP2 hW2 hp', bnd_s]
          unfold f6_plotOf_b87
          by_cases h : pW p = k + 1
          · rw [if_pos ((w1_e p k (by omega) (by omega)).mpr h)]
            by_cases h2 : ((L2.countP (fun q => pW q == pW p && low q p) : Nat) : Int) = ri
            · have cnd : (pW p == k + 1 && decide ((L2.countP (fun q => pW q == pW p && low q p) : Int) = ri)) = true := by rw [decide_eq_true h2, Bool.and_true]; simpa using h
              rw [if_pos (by rw [h2]), if_pos cnd]
            · rw [if_neg (by rw [iI_eq (by omega) (by omega) (by omega) (by omega)]; exact h2), if_neg (by simp [h2]), q1, iI_s]
          · rw [if_neg (fun e => h ((w1_e p k (by omega) (by omega)).mp e)), if_neg (by simp [h]), q1, iI_s]
        · intro n
          show f6_plotOf_b34 M1 _ _ _ (n + 1) _ = _
          rw [f6_plotOf_b34, m_n hP2, if_pos (by rw [iI_le (by omega) (by omega) (by omega) (by omega)]; omega)]
  · rw [h5, h6, bnd_s, bnd_s, if_pos y00, if_pos y00]; exact fin _
end A5
