/-! p24, 8: what holds -/
theorem and_2 {a b : Bool} (h : (a && b) = true) : a = true ∧ b = true := by
  rw [Bool.and_eq_true] at h
  exact h
theorem not_own {A : Ab} (hI : Inv A) {k : Nat} (h : ¬ Here A k) : ∀ p ∈ aL A, pW p ≠ k + 1 := by
  intro p hp e
  rcases hI.own hp with q | q | q
  · omega
  · rw [e] at q; exact h q
  · omega
theorem area_0 {L : List Pl} {k : Nat} (h : ∀ p ∈ L, pW p ≠ k + 1) : area L k = 0 := by
  unfold area
  have : L.map (fun p => if pW p == k + 1 then wid (pD p) * hei (pD p) else 0) = L.map (fun _ => 0) := by
    refine List.map_congr_left (fun p hp => ?_)
    rw [if_neg (by have := h p hp; simpa using this)]
  rw [this]
  clear this h
  induction L with
  | nil => rfl
  | cons p L ih => rw [List.map_cons, List.sum_cons, ih]
theorem cntW_0 {L : List Pl} {k : Nat} (h : ∀ p ∈ L, pW p ≠ k + 1) : cntW L k = 0 := by
  unfold cntW
  rw [List.countP_eq_zero]
  intro p hp
  have := h p hp
  simpa using this
theorem sgN_0 {A : Ab} (hI : Inv A) {k : Nat} (h : ¬ Here A k) : sgN A k = 0 := by
  unfold sgN
  rw [List.countP_eq_zero]
  intro j hj
  have hj := List.mem_range.mp hj
  have hso := hI.song hj
  have := not_own hI h _ (plAt_in hI.til hso.1 hso.2.1).1
  have : sgW A j ≠ k + 1 := this
  simpa using this
theorem here_0 {A : Ab} (hI : Inv A) {k : Nat} (hk : k < aN A) (h : ¬ Here A k) : aH A k = 0 := by
  have h1 := (hI.xy hk).1
  have : aH A k ≠ 1 := fun e => h ⟨hk, e⟩
  omega
theorem tent_pl {A : Ab} (hI : Inv A) {k : Nat} (hk : Here A k) : plAt (aL A) (aX A k) (aY A k) ∈ aL A ∧ inP (plAt (aL A) (aX A k) (aY A k)) (aX A k) (aY A k) = true ∧ pW (plAt (aL A) (aX A k) (aY A k)) = k + 1 := by
  have hxy := hI.xy hk.1
  have h := plAt_in hI.til hxy.2.1 hxy.2.2
  exact ⟨h.1, h.2, hI.tent hk h.1 h.2⟩
theorem many_1 {A : Ab} (hI : Inv A) {k : Nat} (hk : Here A k) : 1 ≤ cntW (aL A) k := by
  obtain ⟨h1, -, h3⟩ := tent_pl hI hk
  exact List.countP_pos_iff.mpr ⟨_, h1, by simpa using h3⟩
theorem nbC_lt {A : Ab} (hI : Inv A) {k : Nat} (hk : Here A k) : nbC A k < nH A := by
  have h16 := hI.1.1
  have hk1 := hk.1
  have e1 : nbC A k = sm (fun o => if (o != k && nbr (aL A) k o) = true then 1 else 0) 16 := cnt_sum _ _
  have e2 : nH A = sm (fun o => if hereB A o = true then 1 else 0) 16 := by
    have a : nH A = sm (aH A) (aN A) := rfl
    have b : sm (fun o => if hereB A o = true then 1 else 0) (aN A + (16 - aN A)) = sm (fun o => if hereB A o = true then 1 else 0) (aN A) := sm_tail _ (fun i hi => if_neg (fun q => by have := (hereB_iff.mp q).1; omega))
    rw [show aN A + (16 - aN A) = 16 by omega] at b
    rw [a, b]
    refine sm_cong (fun i hi => ?_)
    by_cases h : Here A i
    · rw [if_pos (hereB_iff.mpr h)]; exact h.2
    · rw [if_neg (fun q => h (hereB_iff.mp q))]; exact here_0 hI hi h
  rw [e1, e2]
  refine sm_lt (k := k) (by omega) (fun o _ => ?_) ?_
  · by_cases h : (o != k && nbr (aL A) k o) = true
    · rw [if_pos h]
      have hn := (and_2 h).2
      unfold nbr at hn
      obtain ⟨p, hp, h2⟩ := List.any_eq_true.mp hn
      have h3 := (and_2 h2).2
      obtain ⟨q, hq, h4⟩ := List.any_eq_true.mp h3
      have h5 := (and_2 h4).2
      have h6 : pW q = o + 1 := by simpa using h5
      have h7 := (pw_of hI hk hq).2.1
      rw [h6, Nat.add_sub_cancel] at h7
      rw [if_pos (hereB_iff.mpr h7)]
      exact Nat.le_refl _
    · rw [if_neg h]; exact Nat.zero_le _
  · rw [if_neg (by simp), if_pos (hereB_iff.mpr hk)]; omega
section HO
variable {S : St} {A : Ab}
theorem po_many (hC : CampC S 0 A) (hI : Inv A) {k : Nat} (hk : Here A k) : f5_plotOf S (iI (k : Int)) (iI (cntW (aL A) k : Int)) 0 = some (-5) := by
  obtain ⟨⟨L, hp, hP⟩, hK⟩ := hC
  have hW := hI.wf.perm hp
  have h16 := hI.1.1
  have hk1 := hk.1
  have hle : cntW (aL A) k ≤ 181 := Nat.le_trans (cntW_le _ _) hI.wf.1
  have ce := cntW_perm hp k
  have hr : ¬ iI (cntW (aL A) k : Int) < 0 := n_neg (by omega)
  rcases r_ranked hP hW (k := k) (by omega) (r := (cntW (aL A) k : Int)) (by omega) (by omega) with ⟨j, p, j1, j2, j3⟩ | ⟨j1, j2⟩
  · exfalso
    rw [Bool.and_eq_true, decide_eq_true_iff] at j2
    have hm := List.mem_of_getElem? j1
    have hw : pW p = k + 1 := by simpa using j2.1
    have lt : L.countP (fun q => pW q == pW p && low q p) < L.countP (fun q => pW q == k + 1) := by
      refine cnt_lt hm (fun x hx => ?_) ?_ ?_
      · have := (and_2 hx).1
        rw [hw] at this
        exact this
      · have : low p p = false := by rw [Bool.eq_false_iff, Ne, low_iff]; omega
        rw [this, Bool.and_false]
      · rw [hw]; simp
    have ce2 : L.countP (fun q => pW q == k + 1) = cntW (aL A) k := ce
    have := j2.2
    omega
  · unfold f5_plotOf
    rw [hereY hK hI hk, bnd_s, if_neg n10, if_neg hr, if_neg (by decide), if_pos (by decide), j2, bnd_s, if_pos (show iI (-1) = -1 from rfl)]
theorem wa_own (hC : CampC S 0 A) (hI : Inv A) {k : Nat} (hk : Here A k) : f5_way S (iI (k : Int)) (iI (aX A k : Int)) (iI (aY A k : Int)) 1 0 = some (-5) := by
  obtain ⟨⟨L, hp, hP⟩, hK⟩ := hC
  have hxy := hI.xy hk.1
  have ht := tent_pl hI hk
  have hw : f0_plotOnWay S 0 (iI (k : Int)) (iI (aX A k : Int)) (iI (aY A k : Int)) 1 = some (iI (-1)) := by
    rcases r_plotOnWay hP hp hK hI hk.1 hxy.2.1 hxy.2.2 (st := 1) (by omega) (by omega) with ⟨j, q, j1, j2, j3⟩ | ⟨j1, j2⟩
    · exfalso
      have j2 : Way (aL A) (aX A k) (aY A k) 1 (plAt (aL A) (aX A k) (aY A k)) q := j2
      have := j2.1
      rw [ht.2.1] at this
      cases this
    · exact j2
  unfold f5_way
  rw [hereY hK hI hk, bnd_s, if_neg n10, isptY hxy.2.1 hxy.2.2, bnd_s, if_neg n10, if_neg (by decide), if_neg (by decide), if_pos (by decide), hw, bnd_s, if_pos (show iI (-1) = -1 from rfl)]
theorem lo_none (hC : CampC S 0 A) (hI : Inv A) (h : ∀ k, ¬ Here A k) : f5_loudest S = some (-5) := by
  have h16 := hI.1.1
  have := loop_inv0 (σ := Int32 × UInt32) (aN A) (fun n i acc => f5_loudest_b8 S n acc.1 acc.2 i) (fun _ acc => acc = (-5, 3212836864)) (fun acc => some acc.1) fuelN (fuel_lt (by omega)) ?_ ?_ (-5, 3212836864) rfl
  · obtain ⟨acc, g1, g2⟩ := this
    rw [g1] at g2
    exact g2
  · rintro n i acc hi rfl
    refine ⟨_, rfl, ?_⟩
    show f5_loudest_b8 S (n + 1) _ _ _ = f5_loudest_b8 S n _ _ _
    have hn : ¬ ∃ k, Here A k ∧ iI (i : Int) = iI (k : Int) := fun ⟨k, hk, _⟩ => h k hk
    rw [f5_loudest_b8, hC.2.1, if_neg (by rw [iI_le (by omega) (by omega) (by omega) (by omega)]; omega), hereN hC.2 hI hn, bnd_s, if_pos y00]
    unfold f5_loudest_b52
    rw [q1, iI_s]
  · rintro n acc rfl
    show f5_loudest_b8 S (n + 1) _ _ _ = _
    rw [f5_loudest_b8, hC.2.1, if_pos (Int32.le_refl _)]
/-- one camper's turn -/
theorem ho86 (hC : CampC S 0 A) (hI : Inv A) {i : Nat} (hi : Here A i) (k : Int32 → Int32 → Int32 → Int32 → Int32 → Int32 → Option Int32) (w a h pl so k0 k1 : Int32) : fL_holds_b86 S k w a h pl so (iI (i : Int)) (iI (cntW (aL A) i : Int)) k0 k1 = k a h pl so (k1 + k0) (iI ((i + 1 : Nat) : Int)) := by
  have h16 := hI.1.1
  have hi1 := hi.1
  have hxy := hI.xy hi1
  have ht := tent_pl hI hi
  have hm := many_1 hI hi
  have hle : cntW (aL A) i ≤ 181 := Nat.le_trans (cntW_le _ _) hI.wf.1
  have hnb := nbC_lt hI hi
  have hnl := nH_le hI
  have c1 : ¬ iI (cntW (aL A) i : Int) < 1 := by rw [q1, iI_lt (by omega) (by omega) (by omega) (by omega)]; omega
  have c2 : (if pW (plAt (aL A) (aX A i) (aY A i)) = 0 then (-5 : Int32) else iI ((pW (plAt (aL A) (aX A i) (aY A i)) : Int) - 1)) = iI (i : Int) := by
    rw [if_neg (by omega), ht.2.2]
    congr 1
    omega
  have c3 : ¬ iI (nH A : Int) ≤ iI (nbC A i : Int) := by rw [iI_le (by omega) (by omega) (by omega) (by omega)]; omega
  unfold fL_holds_b86 fL_holds_b177
  rw [nam_r, if_neg c1, cam_0 hC hI hi, bnd_s, cam_1 hC hI hi, bnd_s, plo_0 hC hI hxy.2.1 hxy.2.2, bnd_s, if_pos c2, cam_5 hC hI hi, bnd_s, cnt_0 hC hI, bnd_s, if_neg c3, po_many hC hI hi, bnd_s, if_pos rfl, bnd_s, bnd_s, wa_own hC hI hi, bnd_s, if_pos rfl, q1, iI_s]
theorem wh_t : ∀ d : Nat, d < 13 → iI (wid d : Int) * iI (hei d : Int) = (4096 : Int32) >>> ((iI (d : Int) : Int32) &&& 31) ∧ (iI (wid d : Int) = iI (hei d : Int) ∨ 2 * iI (wid d : Int) = iI (hei d : Int)) := by decide +kernel
theorem ho428 (hC : CampC S 0 A) (hA : Inv2 A) {p : Pl} (hp : p ∈ aL A) : fL_holds_b428 S (iI (nH A : Int)) (iI (moreN A : Int)) (iI (pD p : Int)) 1 1 = some 1 := by
  have hI := hA.1
  obtain ⟨h, a, b, c⟩ := hA.2
  have h16 := hI.1.1
  have hl := hI.wf.1
  have hO := hI.2.1
  have hp12 := (hO p hp).1
  have g1 := foldl_max_le (L := aL A) (m := 12) 0 (by omega) (fun q hq => (hO q hq).1)
  have g2 := (foldl_max_ge (L := aL A) 0).2 p hp
  have g3 := (foldl_min_le (L := aL A) 12).2 p hp
  have c1 : ¬ (aC1 A + 1 : Int32) < iI ((aL A).length : Int) := by rw [a, q1, iI_s, iI_lt (by omega) (by omega) (by omega) (by omega)]; omega
  have c2 : ¬ (12 : Int32) < iI ((List.foldl (fun b p => max b (pD p)) 0 (aL A) : Nat) : Int) := by rw [q12, iI_lt (by omega) (by omega) (by omega) (by omega)]; omega
  have c3 : ¬ iI (pD p : Int) < iI ((List.foldl (fun b p => min b (pD p)) 12 (aL A) : Nat) : Int) := by rw [iI_lt (by omega) (by omega) (by omega) (by omega)]; omega
  have c4 : ¬ iI ((List.foldl (fun b p => max b (pD p)) 0 (aL A) : Nat) : Int) < iI (pD p : Int) := by rw [iI_lt (by omega) (by omega) (by omega) (by omega)]; omega
  unfold fL_holds_b428 fL_holds_b511
  rw [if_neg n10, if_neg n10, cnt_0 hC hI, bnd_s, if_pos rfl, cnt_6 hC hI, bnd_s, if_pos rfl, cnt_2 hC hI, bnd_s, cnt_7 hC hI, bnd_s, if_neg c1, cnt_4 hC hI, bnd_s, if_neg c2, cnt_5 hC hI, bnd_s, if_neg c3, bnd_s, if_neg c4, isz_1]
theorem ho_tail (hC : CampC S 0 A) (hA : Inv2 A) (w : Int32) (n : Nat) {l2 l4 l5 : Int32} (hs : (∃ k, Here A k) → l2 = 4096 ∧ l4 = iI ((aL A).length : Int) ∧ l5 = iI (aS A : Int)) : fL_holds_b16 S w (n + 1) l2 (iI (nH A : Int)) l4 l5 (iI (moreN A : Int)) (iI (aN A : Int)) = some 1 := by
  have hI := hA.1
  have hnl := nH_le hI
  obtain ⟨x, hx, ex⟩ := low_64 w
  obtain ⟨y, hy, ey⟩ := low_64 (w >>> ((6 : Int32) &&& 31))
  have hm := plAt_in hI.til hx hy
  obtain ⟨p, ep⟩ : ∃ p, p = plAt (aL A) x y := ⟨_, rfl⟩
  have p0 := plo_0 hC hI hx hy
  have p1 := plo_1 hC hI hx hy
  have p2 := plo_2 hC hI hx hy
  have p3 := plo_3 hC hI hx hy
  have p4 := plo_4 hC hI hx hy
  have p5 := plo_5 hC hI hx hy
  rw [← ep] at hm p0 p1 p2 p3 p4 p5
  have hO := hI.2.1 p hm.1
  have hb := hO.b
  have hin := inP_d.mp hm.2
  have wh := wh_t (pD p) (by omega)
  have e1 : (iI ((pX p : Int) + wid (pD p) - 1) - iI (pX p : Int) + 1 : Int32) = iI (wid (pD p) : Int) := by rw [iI_sub, q1, iI_add]; congr 1; omega
  have e2 : (iI ((pY p : Int) + hei (pD p) - 1) - iI (pY p : Int) + 1 : Int32) = iI (hei (pD p) : Int) := by rw [iI_sub, q1, iI_add]; congr 1; omega
  have c1 : ¬ iI (x : Int) < iI (pX p : Int) := by rw [iI_lt (by omega) (by omega) (by omega) (by omega)]; omega
  have c2 : ¬ iI ((pX p : Int) + wid (pD p) - 1) < iI (x : Int) := by rw [iI_lt (by omega) (by omega) (by omega) (by omega)]; omega
  have c3 : ¬ iI (y : Int) < iI (pY p : Int) := by rw [iI_lt (by omega) (by omega) (by omega) (by omega)]; omega
  have c4 : ¬ iI ((pY p : Int) + hei (pD p) - 1) < iI (y : Int) := by rw [iI_lt (by omega) (by omega) (by omega) (by omega)]; omega
  have k428 := ho428 hC hA hm.1
  have k350 : fL_holds_b350 S l2 (iI (nH A : Int)) l4 l5 (iI (moreN A : Int)) (iI (x : Int)) (iI (y : Int)) (iI (pD p : Int)) 1 = some 1 := by
    unfold fL_holds_b350
    by_cases h0 : ∃ k, Here A k
    · obtain ⟨k, hk⟩ := h0
      obtain ⟨s1, s2, s3⟩ := hs ⟨k, hk⟩
      have hn : ¬ iI (nH A : Int) = 0 := by
        have := mt (nH_0 hI).mp (fun q => q k hk)
        rw [q0, iI_eq (by omega) (by omega) (by omega) (by omega)]; omega
      rw [if_neg hn, if_pos s1, cnt_2 hC hI, bnd_s, if_pos s2, cnt_3 hC hI, bnd_s, if_pos s3]
      exact k428
    · have h1 : ∀ k, ¬ Here A k := fun k hk => h0 ⟨k, hk⟩
      have hn : iI (nH A : Int) = 0 := by rw [(nH_0 hI).mpr h1]; rfl
      have hL := hI.none h1
      have hw : pW p = 0 := by
        have := hm.1
        rw [hL, List.mem_singleton] at this
        rw [this]
      have e0 : f5_plot S (iI (x : Int)) (iI (y : Int)) 0 = some (-5) := by rw [p0, if_pos hw]
      have e2 : f5_count S 2 = some 1 := by rw [cnt_2 hC hI, hL]; rfl
      rw [if_pos hn, e2, bnd_s, if_pos rfl, e0, bnd_s, if_pos rfl, lo_none hC hI h1, bnd_s, if_pos rfl]
      exact k428
  have k289 : fL_holds_b289 S l2 (iI (nH A : Int)) l4 l5 (iI (moreN A : Int)) (iI (x : Int)) (iI (y : Int)) (iI (pD p : Int)) = some 1 := by
    unfold fL_holds_b289
    rw [p2, bnd_s, if_neg c1, p4, bnd_s, if_neg c2, p3, bnd_s, if_neg c3, p5, bnd_s, if_neg c4]
    exact k350
  rw [fL_holds_b16, cnt_1 hC hI, bnd_s, if_pos (Int32.le_refl _), ex, bnd_s, ey, bnd_s, p1, bnd_s, p4, bnd_s, p2, bnd_s, nam_r, p5, bnd_s, p3, bnd_s, nam_r, e1, e2, if_pos wh.1]
  by_cases c : iI (wid (pD p) : Int) = iI (hei (pD p) : Int)
  · rw [if_pos c]; exact k289
  · rw [if_neg c, if_pos (wh.2.resolve_left c)]; exact k289
/-- what holds, holds -/
theorem holds_1 (hC : CampC S 0 A) (hA : Inv2 A) (w : Int32) : fL_holds S w = some 1 := by
  have hI := hA.1
  have h16 := hI.1.1
  have h20 := hI.1.2
  have hl := hI.wf.1
  have key := loop_inv0 (σ := Int32 × Int32 × Int32 × Int32 × Int32) (aN A) (fun n i acc => fL_holds_b16 S w n acc.1 acc.2.1 acc.2.2.1 acc.2.2.2.1 acc.2.2.2.2 i)
    (fun i acc => acc = (iI (sm (area (aL A)) i : Int), iI (sm (aH A) i : Int), iI (sm (cntW (aL A)) i : Int), iI (sm (sgN A) i : Int), iI (sm (fun k => if 1 < cntW (aL A) k then 1 else 0) i : Int))) (fun _ => some 1) fuelN (fuel_lt (by omega)) ?_ ?_ (0, 0, 0, 0, 0) rfl
  · obtain ⟨acc, -, g2⟩ := key
    exact g2
  · rintro n i acc hi rfl
    refine ⟨_, rfl, ?_⟩
    show fL_holds_b16 S w (n + 1) _ _ _ _ _ _ = fL_holds_b16 S w n _ _ _ _ _ _
    have c0 : ¬ iI (aN A : Int) ≤ iI (i : Int) := by rw [iI_le (by omega) (by omega) (by omega) (by omega)]; omega
    rw [sm_s, sm_s, sm_s, sm_s, sm_s, fL_holds_b16, cnt_1 hC hI, bnd_s, if_neg c0]
    by_cases h : Here A i
    · have hle : cntW (aL A) i ≤ 181 := Nat.le_trans (cntW_le _ _) hI.wf.1
      have c1 : ¬ iI (cntW (aL A) i : Int) = -1 := by rw [iI_m1, iI_eq (by omega) (by omega) (by omega) (by omega)]; omega
      have ad : ∀ a b : Nat, (iI (a : Int) + iI (b : Int) : Int32) = iI ((a + b : Nat) : Int) := fun a b => by rw [iI_add]; rfl
      rw [cam_2 hC hI h, bnd_s, if_neg c1, cam_3 hC hI h, bnd_s, nam_r, nam_r, cam_4 hC hI h, bnd_s, nam_r, h.2]
      by_cases c2 : iI (cntW (aL A) i : Int) ≤ 1
      · have c3 : ¬ 1 < cntW (aL A) i := by
          rw [q1, iI_le (by omega) (by omega) (by omega) (by omega)] at c2; omega
        rw [if_pos c2, if_neg c3, ho86 hC hI h, ad, ad, ad, show (1 : Int32) = iI ((1 : Nat) : Int) from rfl, ad, show (0 : Int32) = iI ((0 : Nat) : Int) from rfl, ad]
      · have c3 : 1 < cntW (aL A) i := by
          rw [q1, iI_le (by omega) (by omega) (by omega) (by omega)] at c2; omega
        rw [if_neg c2, if_pos c3, ho86 hC hI h, ad, ad, ad, show (1 : Int32) = iI ((1 : Nat) : Int) from rfl, ad, ad]
    · have hn : ¬ ∃ k, Here A k ∧ iI (i : Int) = iI (k : Int) := by
        rintro ⟨k, hk, e⟩
        have := hk.1
        rw [iI_eq (by omega) (by omega) (by omega) (by omega)] at e
        have : i = k := by omega
        subst this
        exact h hk
      have no := not_own hI h
      rw [cam_n hC hI hn, bnd_s, if_pos rfl, area_0 no, cntW_0 no, sgN_0 hI h, here_0 hI hi h, if_neg (by omega)]
      unfold fL_holds_b177
      rw [q1, iI_s] <;> rfl
  · rintro n acc rfl
    show fL_holds_b16 S w (n + 1) _ _ _ _ _ _ = _
    have em : sm (fun k => if 1 < cntW (aL A) k then 1 else 0) (aN A) = moreN A := by
      unfold moreN
      rw [cnt_sum]
      unfold sm
      congr 1
      refine List.map_congr_left (fun k _ => ?_)
      by_cases c : 1 < cntW (aL A) k
      · rw [if_pos c, if_pos (decide_eq_true c)]
      · rw [if_neg c, if_neg (by rw [decide_eq_false c]; decide)]
    have eh : sm (aH A) (aN A) = nH A := rfl
    rw [em, eh]
    refine ho_tail hC hA w n (fun ⟨k, hk⟩ => ?_)
    have hown : ∀ p ∈ aL A, 1 ≤ pW p ∧ pW p ≤ aN A := by
      intro p hp
      have := pw_of hI hk hp
      have := this.2.1.1
      omega
    refine ⟨?_, ?_, ?_⟩
    · show iI (sm (area (aL A)) (aN A) : Int) = 4096
      rw [sm_area _ _ hown, til_area hI.til hI.2.1]
      rfl
    · show iI (sm (cntW (aL A)) (aN A) : Int) = _
      congr 2
      exact sm_cnt (aL A) (fun p => pW p) (aN A) hown
    · show iI (sm (sgN A) (aN A) : Int) = _
      congr 2
      have := sm_cnt (List.range (aS A)) (fun j => sgW A j) (aN A) (fun j hj => by
        have hj := List.mem_range.mp hj
        have hso := hI.song hj
        exact hown _ (plAt_in hI.til hso.1 hso.2.1).1)
      rw [List.length_range] at this
      exact this
end HO
