/-! STAGE B, 51: songs, texts, history -/
theorem cell_s0 (i : Nat) : (826 + (3 : Int32) * iI (i : Int)) + 0 = iI ((826 + 3 * i : Nat) : Int) := by
  rw [show (0 : Int32) = iI 0 from rfl, cell_s]; congr 1
theorem cell_s1 (i : Nat) : (826 + (3 : Int32) * iI (i : Int)) + 1 = iI ((826 + 3 * i + 1 : Nat) : Int) := by
  rw [show (1 : Int32) = iI 1 from rfl, cell_s]; congr 1
theorem cell_s2 (i : Nat) : (826 + (3 : Int32) * iI (i : Int)) + 2 = iI ((826 + 3 * i + 2 : Nat) : Int) := by
  rw [show (2 : Int32) = iI 2 from rfl, cell_s]; congr 1
section A3
variable {S M : St} {A : Ab} {H : List Ab} {sn : Option Ab} {T : List Nat}
/-- song cells written -/
theorem m_songW {v v' : Nat → Int32} (hV : VecV v A) (hI : Inv A) {B : Ab} (h1 : aL B = aL A) (h2 : B.2.1 = A.2.1) (h3 : B.2.2.2 = A.2.2.2) (he : ∀ j, j < 826 → j ≠ 2 → v' j = v j) (hs : v' 2 = iI (aS B : Int)) (hj : ∀ j, j < aS B → v' (826 + 3 * j) = iI (aU B j : Int) ∧ v' (826 + 3 * j + 1) = iI (aV B j : Int) ∧ v' (826 + 3 * j + 2) = iI (aT B j : Int)) : VecV v' B := by
  obtain ⟨⟨L, hp, hP⟩, a, b, c, d, e, f, g, h⟩ := hV
  have hl := (hI.wf.perm hp).1
  have h16 := hI.1.1
  have eN : aN B = aN A := congrArg (fun q => q.1) h2
  have eH : aH B = aH A := congrArg (fun q => q.2.1) h2
  have eX : aX B = aX A := congrArg (fun q => q.2.2.1) h2
  have eY : aY B = aY A := congrArg (fun q => q.2.2.2) h2
  have e1 : aC1 B = aC1 A := congrArg (fun q => q.1) h3
  have e2 : aC2 B = aC2 A := congrArg (fun q => q.2.1) h3
  have e3 : aC3 B = aC3 A := congrArg (fun q => q.2.2) h3
  refine ⟨⟨L, by rw [h1]; exact hp, hP.fr hl (he _ (by omega) (by omega)) (fun j h1 h2 => he _ (by omega) (by omega))⟩, by rw [he _ (by omega) (by omega), eN]; exact a, hs, by rw [he _ (by omega) (by omega), e1]; exact c, by rw [he _ (by omega) (by omega), e2]; exact d, by rw [he _ (by omega) (by omega), e3]; exact e, fun k hk => ?_, fun k hk hk2 => ?_, hj⟩
  · rw [eN] at hk
    rw [he _ (by omega) (by omega), he _ (by omega) (by omega), he _ (by omega) (by omega), eH, eX, eY]; exact f k hk
  · rw [eN] at hk
    rw [he _ (by omega) (by omega)]; exact g k hk hk2
theorem a_lay (hI : GI A H sn T) (hC : GC S A H sn T) (hM : GM M A H sn T) (x y t : Int32) : QA (f5_lay S x y t) (f6_lay M x y t) := by
  have hM1 := hM.t0
  obtain ⟨M1, e1⟩ : ∃ M1, M1 = sI M 0 0 := ⟨_, rfl⟩
  unfold f5_lay f6_lay f5_lay_b22
  rw [nam_r, ← e1]
  rw [← e1] at hM1
  have bad : ∀ r : Int32, QA (some (r, S)) (some (r, M1)) := fun r => ⟨_, _, _, rfl, rfl, A, H, sn, T, hI, hC, hM1⟩
  rcases isPoint2 x y with ⟨a, b, ha, hb, rfl, rfl, p5, p6⟩ | ⟨p5, p6⟩
  · rw [p5, p6, bnd_s, bnd_s, if_neg n10, if_neg n10]
    obtain ⟨u, u1, u2, rfl⟩ := iI_of t
    have h20 := hI.1.1.2
    have em : f6_in (iI u) 1 999 = some (b2i (decide (1 ≤ u ∧ u ≤ 999))) := m_in (b := 1) (c := 999) u1 u2 (by omega) (by omega) (by omega) (by omega)
    rw [em, q999, q20, bnd_s, m_s hM1.1.2, hC.1.2.2.1]
    by_cases hu : 1 ≤ u ∧ u ≤ 999
    · obtain ⟨n, rfl⟩ : ∃ n : Nat, u = (n : Int) := ⟨u.toNat, by omega⟩
      rw [decide_eq_true hu, if_neg (by rw [q1, iI_lt (by omega) (by omega) (by omega) (by omega)]; omega), if_pos (by rw [iI_le (by omega) (by omega) (by omega) (by omega)]; omega), if_neg (show ¬ b2i true = 0 by decide)]
      by_cases hs : aS A < 20
      · rw [if_pos (by rw [iI_lt (by omega) (by omega) (by omega) (by omega)]; omega), if_neg (by rw [iI_eq (by omega) (by omega) (by omega) (by omega)]; omega)]
        obtain ⟨S1, g1, g2, g3, g4⟩ := hC.push hI
        obtain ⟨M2, k1, k2, k3, k4⟩ := hM1.rec hI
        obtain ⟨S', d1, d2, d3⟩ := r_addSong g2.1 hI.1 (x := a) (y := b) (t := n) hs
        rw [g1, bnd_s, d1, bd2_s, k1, bnd_s, m_s k2.1.2, w_cell M2 (i := 826 + 3 * aS A) (cell_s0 _) (by omega), w_cell _ (i := 826 + 3 * aS A + 1) (cell_s1 _) (by omega), w_cell _ (i := 826 + 3 * aS A + 2) (cell_s2 _) (by omega), rd2, wr2]
        refine ⟨_, _, _, rfl, rfl, layA A a b n, (A :: H).take 4, sn, T, hI.act (lay_inv hI.1 ha hb (by omega) (by omega) hs), g2.fr0 d2 d3, k2.fr ((((FrM.sA _ _ _).tr (FrM.sA _ _ _)).tr (FrM.sA _ _ _)).tr (FrM.sA _ _ _)) ?_⟩
        obtain ⟨M5, e5⟩ : ∃ M5, M5 = sA (sA (sA M2 0 (826 + 3 * aS A) (iI (a : Int))) 0 (826 + 3 * aS A + 1) (iI (b : Int))) 0 (826 + 3 * aS A + 2) (iI (n : Int)) := ⟨_, rfl⟩
        rw [← e5]
        have hc : ∀ j, M5.2 0 j = if j = 826 + 3 * aS A + 2 then iI (n : Int) else if j = 826 + 3 * aS A + 1 then iI (b : Int) else if j = 826 + 3 * aS A then iI (a : Int) else M2.2 0 j := by
          intro j
          rw [e5, sA_eq]
          by_cases e1 : j = 826 + 3 * aS A + 2
          · rw [if_pos e1, e1, upd_s]
          · rw [if_neg e1, upd_n e1, sA_eq]
            by_cases e2 : j = 826 + 3 * aS A + 1
            · rw [if_pos e2, e2, upd_s]
            · rw [if_neg e2, upd_n e2, sA_eq]
              by_cases e3 : j = 826 + 3 * aS A
              · rw [if_pos e3, e3, upd_s]
              · rw [if_neg e3, upd_n e3]
        have hv := k2.1.2
        refine m_songW (B := layA A a b n) k2.1 hI.1 rfl rfl rfl (fun j hj hj2 => ?_) ?_ (fun j hj => ?_)
        · rw [sA_eq, upd_n hj2, hc, if_neg (by omega), if_neg (by omega), if_neg (by omega)]
        · rw [sA_eq, upd_s, hc, if_neg (by omega), if_neg (by omega), if_neg (by omega), hv.2.1, q1, iI_s]; rfl
        · have hj' : j < aS A + 1 := hj
          rw [sA_eq, upd_n (by omega), upd_n (by omega), upd_n (by omega)]
          show _ = iI (updN (aU A) (aS A) a j : Nat) ∧ _ = iI (updN (aV A) (aS A) b j : Nat) ∧ _ = iI (updN (aT A) (aS A) n j : Nat)
          by_cases e : j = aS A
          · rw [e, updN_s, updN_s, updN_s]
            refine ⟨?_, ?_, ?_⟩
            · rw [hc, if_neg (by omega), if_neg (by omega), if_pos rfl]
            · rw [hc, if_neg (by omega), if_pos rfl]
            · rw [hc, if_pos rfl]
          · rw [updN_n _ _ e, updN_n _ _ e, updN_n _ _ e]
            have h8 := hv.2.2.2.2.2.2.2 j (by omega)
            refine ⟨?_, ?_, ?_⟩
            · rw [hc, if_neg (by omega), if_neg (by omega), if_neg (by omega)]; exact h8.1
            · rw [hc, if_neg (by omega), if_neg (by omega), if_neg (by omega)]; exact h8.2.1
            · rw [hc, if_neg (by omega), if_neg (by omega), if_neg (by omega)]; exact h8.2.2
      · rw [if_neg (by rw [iI_lt (by omega) (by omega) (by omega) (by omega)]; omega), if_pos (by rw [show aS A = 20 by omega]; rfl)]; exact bad _
    · rw [decide_eq_false hu, if_pos b2i_f]
      by_cases h1 : u < 1
      · rw [if_pos (by rw [q1, iI_lt (by omega) (by omega) (by omega) (by omega)]; omega)]; exact bad _
      · rw [if_neg (by rw [q1, iI_lt (by omega) (by omega) (by omega) (by omega)]; omega), if_neg (by rw [iI_le (by omega) (by omega) (by omega) (by omega)]; omega)]; exact bad _
  · rw [p5, p6, bnd_s, bnd_s, if_pos y00, if_pos y00]; exact bad _
theorem told (hC : CampC S 0 A) (hI : Inv A) {j : Nat} (hj : j < aS A) : f5_toldOwnerOf S (iI (j : Int)) = some (iI (tldW (sgW A j))) := by
  obtain ⟨⟨L, hp, hP⟩, hK⟩ := hC
  have hle := sgW_le hI hj
  unfold f5_toldOwnerOf f5_toldOwnerOf_b20 tldW
  rw [r_ownerOfSong hP hp hK hI hj, bnd_s, iI_m1]
  by_cases h : sgW A j = 0
  · rw [if_pos (by rw [h]; rfl), if_pos h]; rfl
  · rw [if_neg (by rw [iI_eq (by omega) (by omega) (by omega) (by omega)]; omega), if_neg h]
theorem a_carry (hI : GI A H sn T) (hC : GC S A H sn T) (hM : GM M A H sn T) (z x y : Int32) : QA (f5_carry S z x y) (f6_carry M z x y) := by
  have hM1 := hM.t0
  obtain ⟨M1, e1⟩ : ∃ M1, M1 = sI M 0 0 := ⟨_, rfl⟩
  unfold f5_carry f6_carry f5_carry_b19 f6_carry_b21
  rw [nam_r, ← e1]
  rw [← e1] at hM1
  have bad : ∀ r : Int32, QA (some (r, S)) (some (r, M1)) := fun r => ⟨_, _, _, rfl, rfl, A, H, sn, T, hI, hC, hM1⟩
  rcases isSong2 hC.1.2 hM1.1.2 hI.1 z with ⟨k, hk, rfl, h5, h6⟩ | ⟨h5, h6⟩
  · rw [h5, h6, bnd_s, bnd_s, if_neg n10, if_neg n10]
    rcases isPoint2 x y with ⟨a, b, ha, hb, rfl, rfl, p5, p6⟩ | ⟨p5, p6⟩
    · rw [p5, p6, bnd_s, bnd_s, if_neg n10, if_neg n10]
      have h20 := hI.1.1.2
      have hso := hI.1.song hk
      rw [at_su hC.1.2 hI.1 hk, bnd_s, at_sv hC.1.2 hI.1 hk, bnd_s, m_su hM1.1.2 h20 hk, bnd_s, m_sv hM1.1.2 h20 hk, bnd_s]
      have go : QA (f5_carry_b54 S (iI (k : Int)) (iI (a : Int)) (iI (b : Int))) (f6_carry_b46 M1 (iI (k : Int)) (iI (a : Int)) (iI (b : Int))) := by
        unfold f5_carry_b54 f6_carry_b46
        obtain ⟨S1, g1, g2, g3, g4⟩ := hC.push hI
        obtain ⟨M2, k1, k2, k3, k4⟩ := hM1.rec hI
        obtain ⟨S', d1, d2, d3⟩ := r_putSong g2.1 hI.1 (x := a) (y := b) hk
        have hA : Inv (songA A k a b) := song_inv hI.1 ha hb
        have hv := k2.1.2
        have hVS : VecV ((sA (sA M2 0 (826 + 3 * k) (iI (a : Int))) 0 (826 + 3 * k + 1) (iI (b : Int))).2 0) (songA A k a b) := by
          rw [sA_eq, sA_eq]
          refine m_songW (B := songA A k a b) k2.1 hI.1 rfl rfl rfl (fun j hj hj2 => ?_) ?_ (fun j hj => ?_)
          · rw [upd_n (by omega), upd_n (by omega)]
          · rw [upd_n (by omega), upd_n (by omega)]; exact hv.2.1
          · have hj' : j < aS A := hj
            have h8 := hv.2.2.2.2.2.2.2 j hj'
            show _ = iI (updN (aU A) k a j : Nat) ∧ _ = iI (updN (aV A) k b j : Nat) ∧ _
            by_cases e : j = k
            · subst e
              rw [updN_s, updN_s, upd_s, upd_n (show 826 + 3 * j ≠ 826 + 3 * j + 1 by omega), upd_s, upd_n (show 826 + 3 * j + 2 ≠ 826 + 3 * j + 1 by omega), upd_n (show 826 + 3 * j + 2 ≠ 826 + 3 * j by omega)]
              exact ⟨rfl, rfl, h8.2.2⟩
            · rw [updN_n _ _ e, updN_n _ _ e, upd_n (show 826 + 3 * j ≠ 826 + 3 * k + 1 by omega), upd_n (show 826 + 3 * j ≠ 826 + 3 * k by omega), upd_n (show 826 + 3 * j + 1 ≠ 826 + 3 * k + 1 by omega), upd_n (show 826 + 3 * j + 1 ≠ 826 + 3 * k by omega), upd_n (show 826 + 3 * j + 2 ≠ 826 + 3 * k + 1 by omega), upd_n (show 826 + 3 * j + 2 ≠ 826 + 3 * k by omega)]
              exact h8
        obtain ⟨⟨L2, hp2, hP2⟩, hV2⟩ := hVS
        have hk2 : k < aS (songA A k a b) := hk
        rw [g1, bnd_s, d1, bnd_s, told d3 hA hk2, bnd_s, k1, bnd_s, w_cell M2 (i := 826 + 3 * k) (cell_s0 _) (by omega), w_cell _ (i := 826 + 3 * k + 1) (cell_s1 _) (by omega), m_singer hP2 hp2 hV2 hA hk2, bnd_s]
        exact ⟨_, _, _, rfl, rfl, songA A k a b, (A :: H).take 4, sn, T, hI.act hA, g2.fr0 d2 d3, k2.fr ((FrM.sA _ _ _).tr (FrM.sA _ _ _)) ⟨⟨L2, hp2, hP2⟩, hV2⟩⟩
      by_cases c1 : aU A k = a
      · have u1 : iI (aU A k : Int) = iI (a : Int) := by rw [c1]
        rw [if_pos u1, if_pos u1]
        by_cases c2 : aV A k = b
        · have u2 : iI (aV A k : Int) = iI (b : Int) := by rw [c2]
          rw [if_pos u2, if_pos u2]; exact bad _
        · have : ¬ iI (aV A k : Int) = iI (b : Int) := by rw [iI_eq (by omega) (by omega) (by omega) (by omega)]; omega
          rw [if_neg this, if_neg this]
          exact go
      · have : ¬ iI (aU A k : Int) = iI (a : Int) := by rw [iI_eq (by omega) (by omega) (by omega) (by omega)]; omega
        rw [if_neg this, if_neg this]
        exact go
    · rw [p5, p6, bnd_s, bnd_s, if_pos y00, if_pos y00]; exact bad _
  · rw [h5, h6, bnd_s, bnd_s, if_pos y00, if_pos y00]; exact bad _
theorem a_type (hI : GI A H sn T) (hC : GC S A H sn T) (hM : GM M A H sn T) {c : Nat} (hc : c < 65536) : QA (f5_type S (iI (c : Int))) (f6_type M (iI (c : Int))) := by
  have hM1 := hM.t0
  obtain ⟨M1, e1⟩ : ∃ M1, M1 = sI M 0 0 := ⟨_, rfl⟩
  have hT := hI.2.2.2
  have h60 := hT.1
  unfold f6_type
  rw [nam_r, ← e1]
  unfold f5_type f5_type_b23 f1_append f1_append_b19
  rw [← e1] at hM1
  have t1 := hC.2.2.2.1
  have t2 := hM1.2.2.2.1
  rw [t1, t2, iI_ofNat, q60, q0, if_neg (by rw [iI_lt (by omega) (by omega) (by omega) (by omega)]; omega)]
  by_cases h : T.length < 60
  · have ev : vp_nar .char (iI (c : Int)) = iI (c : Int) := by rw [vp_nar_char, char_rt hc]
    rw [if_pos (by rw [iI_lt (by omega) (by omega) (by omega) (by omega)]; omega), if_neg (by rw [iI_eq (by omega) (by omega) (by omega) (by omega)]; omega), sto_i h (by omega), nam_r, nam_r, bd2_s, if_neg (show ¬ (1 : Int32) = iI 0 by decide), ev, iI_cl (by omega), ml4, sto_i h (by omega), nam_r, nam_r, sA_1, t1, sA_1, t2, q1, iI_s, sI_eq, sI_eq]
    have hlen : (T ++ [c]).length = T.length + 1 := by rw [List.length_append]; rfl
    have hat : ∀ (f : Nat → Int32), (∀ (i d : Nat), T[i]? = some d → f i = iI (d : Int)) → ∀ (i d : Nat), (T ++ [c])[i]? = some d → upd f T.length (iI (c : Int)) i = iI (d : Int) := by
      intro f hf i d hi
      by_cases e : i = T.length
      · rw [e, upd_s]
        rw [e, List.getElem?_append_right (Nat.le_refl _), Nat.sub_self] at hi
        cases hi; rfl
      · have hl := (List.getElem?_eq_some_iff.mp hi).1
        rw [hlen] at hl
        rw [upd_n e]
        rw [List.getElem?_append_left (by omega)] at hi
        exact hf i d hi
    refine ⟨_, _, _, rfl, rfl, A, H, sn, T ++ [c], ⟨hI.1, hI.2.1, hI.2.2.1, by rw [hlen]; omega, fun d hd => ?_⟩, ⟨?_, ?_, ?_, ?_⟩, ?_⟩
    · rcases List.mem_append.mp hd with q | q
      · exact hT.2 d q
      · rw [List.mem_singleton] at q; rw [q]; exact hc
    · exact (hC.1.cg (fun i a b => by rw [sI_ne _ _ (by omega)]; rfl) (fun r a b => by rw [sI_2, sA_ne _ _ _ (by omega)]))
    · obtain ⟨a1, a2, lat, a3, a4, a5⟩ := hC.2.1
      refine ⟨a1, by rw [sI_ne _ _ (by omega)]; exact a2, lat, a3, by rw [sI_ne _ _ (by omega)]; exact a4, fun i B hB => (a5 i B hB).cg (fun i a b => by rw [sI_ne _ _ (by omega)]; rfl) (fun r a b => by rw [sI_2, sA_ne _ _ _ (by omega)])⟩
    · exact hC.2.2.1.cg (by rw [sI_ne _ _ (by omega)]; rfl) (fun B hB => hB.cg (fun i a b => by rw [sI_ne _ _ (by omega)]; rfl) (fun r a b => by rw [sI_2, sA_ne _ _ _ (by omega)]))
    · refine ⟨by rw [sI_eq, hlen], fun i d hi => ?_⟩
      rw [sI_2, sA_eq]
      exact hat _ hC.2.2.2.2 i d hi
    · refine ⟨by rw [sI_2, sA_ne _ _ _ (by omega)]; exact hM1.1, hM1.2.1.cg (by rw [sI_ne _ _ (by omega)]; rfl) (by rw [sI_2, sA_ne _ _ _ (by omega)]), hM1.2.2.1.cg (by rw [sI_ne _ _ (by omega)]; rfl) (by rw [sI_2, sA_ne _ _ _ (by omega)]), by rw [sI_eq, hlen], fun i d hi => ?_⟩
      rw [sI_2, sA_eq]
      exact hat _ hM1.2.2.2.2 i d hi
  · have e6 : T.length = 60 := by omega
    rw [if_neg (by rw [iI_lt (by omega) (by omega) (by omega) (by omega)]; omega), if_pos (by rw [e6]; rfl), bd2_s, if_pos (show iI 0 = iI 0 from rfl)]
    exact ⟨_, _, _, rfl, rfl, A, H, sn, T, hI, hC, hM1⟩
theorem a_clearText (hI : GI A H sn T) (hC : GC S A H sn T) (hM : GM M A H sn T) : QA (f5_clearText S) (f6_clearText M) := by
  have hM1 := hM.t0
  obtain ⟨M1, e1⟩ : ∃ M1, M1 = sI M 0 0 := ⟨_, rfl⟩
  unfold f5_clearText f6_clearText
  rw [nam_r, nam_r, nam_r, ← e1, nam_r, nam_r]
  rw [← e1] at hM1
  rw [hC.2.2.2.1, hM1.2.2.2.1]
  refine ⟨_, _, _, rfl, rfl, A, H, sn, [], ⟨hI.1, hI.2.1, hI.2.2.1, by rw [List.length_nil]; omega, fun d hd => by cases hd⟩, ⟨hC.1.sI (by omega), ?_, hC.2.2.1.cg (sI_ne _ _ (by omega)) (fun B hB => hB.sI (by omega)), sI_eq _ _ _, fun i d hi => by cases hi⟩, hM1.1, hM1.2.1.cg (sI_ne _ _ (by omega)) rfl, hM1.2.2.1.cg (sI_ne _ _ (by omega)) rfl, sI_eq _ _ _, fun i d hi => by cases hi⟩
  obtain ⟨a1, a2, lat, a3, a4, a5⟩ := hC.2.1
  exact ⟨a1, by rw [sI_ne _ _ (by omega)]; exact a2, lat, a3, by rw [sI_ne _ _ (by omega)]; exact a4, fun i B hB => (a5 i B hB).sI (by omega)⟩
theorem a_undo (hI : GI A H sn T) (hC : GC S A H sn T) (hM : GM M A H sn T) : QA (f5_undo S) (f6_undo M) := by
  have hM1 := hM.t0
  obtain ⟨M1, e1⟩ : ∃ M1, M1 = sI M 0 0 := ⟨_, rfl⟩
  unfold f5_undo f6_undo
  rw [nam_r, ← e1]
  rw [← e1] at hM1
  have t1 := hC.2.1.2.1
  have t2 := hM1.2.1.2.1
  have h4 := hC.2.1.1
  rw [t1, t2]
  cases H with
  | nil =>
    have u0 : iI (([] : List Ab).length : Int) = (0 : Int32) := rfl
    rw [if_pos u0, if_pos u0]
    exact ⟨_, _, _, rfl, rfl, A, [], sn, T, hI, hC, hM1⟩
  | cons B K =>
    have hB := hI.2.1 B List.mem_cons_self
    rw [List.length_cons] at h4 t1 t2 ⊢
    have hne : ¬ iI ((K.length + 1 : Nat) : Int) = (0 : Int32) := by rw [q0, iI_eq (by omega) (by omega) (by omega) (by omega)]; omega
    have es : (iI ((K.length + 1 : Nat) : Int) - 1 : Int32) = iI (K.length : Int) := by rw [q1, iI_sub]; congr 1; omega
    obtain ⟨S', g1, g2, g3, g4, g5⟩ := r_pop hC.2.1 hB
    rw [if_neg hne, if_neg hne, g1, bnd_s, g2.2.1, es, nam_r]
    obtain ⟨M2, e2⟩ : ∃ M2, M2 = sI M1 1 (iI (K.length : Int)) := ⟨_, rfl⟩
    rw [← e2]
    obtain ⟨U, k1, k2, k3, k4⟩ := m_undoLoop M2 (n := K.length) (by omega) (by rw [e2, sI_eq])
    rw [k1]
    have n1 : ∀ i, i ≠ 1 → U.1 i = M1.1 i := fun i hi => by rw [k2, e2, sI_ne _ _ hi]
    have n2 : ∀ r, r ≠ 0 → U.2 r = M1.2 r := fun r hr => by rw [k3 r hr, e2, sI_2]
    refine ⟨_, _, _, rfl, rfl, B, K, sn, T, ⟨hB, fun C hC => hI.2.1 C (List.mem_cons_of_mem _ hC), hI.2.2⟩, ⟨g3, g2, hC.2.2.1.cg (g4 42 (by omega)) (fun C hC => hC.cg (fun i a b => g4 i (by omega)) (fun r a b => g5 r (by omega))), hC.2.2.2.cg (g4 45 (by omega)) (g5 70 (by omega))⟩, ?_, ⟨by omega, by rw [k2, e2, sI_eq], fun i C hi => ?_⟩, hM1.2.2.1.cg (n1 2 (by omega)) (n2 3 (by omega)), hM1.2.2.2.cg (n1 3 (by omega)) (n2 4 (by omega))⟩
    · have hb := hM1.2.1.2.2 0 B List.getElem?_cons_zero
      refine hb.cg hB (fun j hj => ?_)
      show U.2 0 j = M1.2 2 (886 * ((B :: K).length - 1 - 0) + j)
      rw [k4 j hj, e2, sI_2, List.length_cons, show K.length + 1 - 1 - 0 = K.length by omega]
    · have hl := (List.getElem?_eq_some_iff.mp hi).1
      have hb := hM1.2.1.2.2 (i + 1) C (by rw [List.getElem?_cons_succ]; exact hi)
      rw [List.length_cons, show K.length + 1 - 1 - (i + 1) = K.length - 1 - i by omega] at hb
      rw [n2 2 (by omega)]
      exact hb
theorem a_keep (hI : GI A H sn T) (hC : GC S A H sn T) (hM : GM M A H sn T) : QA (f5_keep S) (f6_keep M) := by
  have hM1 := hM.t0
  obtain ⟨M1, e1⟩ : ∃ M1, M1 = sI M 0 0 := ⟨_, rfl⟩
  unfold f5_keep f6_keep
  rw [nam_r, ← e1]
  rw [← e1] at hM1
  obtain ⟨S1, g1, g2, g3⟩ := r_copyCamp (c := 2) hC.1 hI.1 (by omega)
  obtain ⟨U, k1, k2, k3, k4⟩ := m_keepLoop M1
  have hV : VecV ((sI U 2 1).2 0) A := by rw [sI_2, k3 0 (by omega)]; exact hM1.1
  have hK : CampC (sI S1 42 1) 0 A := (hC.1.fr g2 (by omega)).sI (by omega)
  rw [g1, bnd_s, nam_r, r_campersHere hK.2 hI.1, bnd_s, k1, nam_r, m_onField hV.2 hI.1.1.1, bnd_s]
  refine ⟨_, _, _, rfl, rfl, A, H, some A, T, ⟨hI.1, hI.2.1, fun B hB => by cases hB; exact hI.1, hI.2.2.2⟩, ⟨hK, ?_, ⟨sI_eq _ _ _, g3.sI (by omega)⟩, ?_⟩, hV, hM1.2.1.cg (by rw [sI_ne _ _ (by omega), k2]) (by rw [sI_2, k3 2 (by omega)]), ⟨sI_eq _ _ _, ?_⟩, hM1.2.2.2.cg (by rw [sI_ne _ _ (by omega), k2]) (by rw [sI_2, k3 4 (by omega)])⟩
  · obtain ⟨a1, a2, lat, a3, a4, a5⟩ := hC.2.1.fr g2 (by omega)
    exact ⟨a1, by rw [sI_ne _ _ (by omega)]; exact a2, lat, a3, by rw [sI_ne _ _ (by omega)]; exact a4, fun i B hB => (a5 i B hB).sI (by omega)⟩
  · exact hC.2.2.2.cg (by rw [sI_ne _ _ (by omega), g2.1 _ (by omega)]) (by rw [sI_2, g2.2 _ (by omega)])
  · exact hM1.1.cg hI.1 (fun j hj => by rw [sI_2, k4 j hj])
theorem a_restore (hI : GI A H sn T) (hC : GC S A H sn T) (hM : GM M A H sn T) : QA (f5_restore S) (f6_restore M) := by
  have hM1 := hM.t0
  obtain ⟨M1, e1⟩ : ∃ M1, M1 = sI M 0 0 := ⟨_, rfl⟩
  unfold f5_restore f6_restore
  rw [nam_r, ← e1]
  rw [← e1] at hM1
  cases sn with
  | none =>
    have t1 : S.1 42 = 0 := hC.2.2.1
    have t2 : M1.1 2 = 0 := hM1.2.2.1
    rw [if_pos t1, if_pos t2]
    exact ⟨_, _, _, rfl, rfl, A, H, none, T, hI, hC, hM1⟩
  | some B =>
    have hB := hI.2.2.1 B rfl
    have t1 : S.1 42 = 1 := hC.2.2.1.1
    have t2 : M1.1 2 = 1 := hM1.2.2.1.1
    obtain ⟨S1, g1, g2, g3, g4⟩ := hC.push hI
    obtain ⟨M2, k1, k2, k3, k4⟩ := hM1.rec hI
    obtain ⟨S2, d1, d2, d3⟩ := r_copyCamp (c := 0) g2.2.2.1.2 hB (by omega)
    obtain ⟨U, c1, c2, c3, c4⟩ := m_restLoop M2
    have hV : VecV (U.2 0) B := (k2.2.2.1.2).cg hB c4
    rw [if_neg (by rw [t1]; decide), if_neg (by rw [t2]; decide), g1, bnd_s, d1, bnd_s, r_campersHere d3.2 hB, bnd_s, k1, bnd_s, c1, m_onField hV.2 hB.1.1, bnd_s]
    exact ⟨_, _, _, rfl, rfl, B, (A :: H).take 4, some B, T, hI.act hB, g2.fr0 d2 d3, k2.fr ⟨c2, c3⟩ hV⟩
end A3
