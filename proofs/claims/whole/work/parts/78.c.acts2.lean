/-! STAGE B, 50: moveTent, handOver -/
theorem at_cg {S S' : St} {r : Nat} {z : Int32} (h : S'.2 r = S.2 r) : f4_at S' r z = f4_at S r z := by
  unfold f4_at f4_at_b22 f4_at_b23; rw [h]
theorem Inv.pw {A : Ab} (hI : Inv A) {k : Nat} (hk : Here A k) {p : Pl} (hp : p ∈ aL A) : 1 ≤ pW p ∧ Here A (pW p - 1) ∧ pW p ≤ 16 := by
  have h0 := hI.some hk hp
  have := (hI.2.1 p hp).b
  rcases hI.own hp with h | h | h
  · exact absurd h h0
  · exact ⟨by omega, h, by omega⟩
  · exact absurd h h0
theorem tnt_here {A : Ab} {p : Pl} (h0 : 1 ≤ pW p) (h : Here A (pW p - 1)) : tnt A p = inP p (aX A (pW p - 1)) (aY A (pW p - 1)) := by
  unfold tnt
  rw [decide_eq_true h.1, h.2]
  cases e : (pW p != 0)
  · simp at e; omega
  · simp
theorem any_perm {α : Type} {L L' : List α} (h : L.Perm L') (f : α → Bool) : L.any f = L'.any f := by
  rw [Bool.eq_iff_iff, List.any_eq_true, List.any_eq_true]
  exact ⟨fun ⟨x, h1, h2⟩ => ⟨x, h.mem_iff.mp h1, h2⟩, fun ⟨x, h1, h2⟩ => ⟨x, h.mem_iff.mpr h1, h2⟩⟩
section A2
variable {S M : St} {A : Ab} {H : List Ab} {sn : Option Ab} {T : List Nat}
theorem m_pitch {L : List Pl} (hP : PlV (M.2 0) L) (hl : L.length ≤ 181) (hV : VmV (M.2 0) A) (h16 : aN A ≤ 16) {k x y : Nat} (hk : k < aN A) :
    PlV ((sA (sA M 0 (6 + 3 * k + 1) (iI (x : Int))) 0 (6 + 3 * k + 2) (iI (y : Int))).2 0) L ∧ VmV ((sA (sA M 0 (6 + 3 * k + 1) (iI (x : Int))) 0 (6 + 3 * k + 2) (iI (y : Int))).2 0) (tentA A k x y) := by
  rw [sA_eq, sA_eq]
  obtain ⟨a, b, c, d, e, f, g, h⟩ := hV
  refine ⟨hP.fr hl (by rw [upd_n (by omega), upd_n (by omega)]) (fun j h1 h2 => by rw [upd_n (by omega), upd_n (by omega)]), by rw [upd_n (by omega), upd_n (by omega)]; exact a, by rw [upd_n (by omega), upd_n (by omega)]; exact b, by rw [upd_n (by omega), upd_n (by omega)]; exact c, by rw [upd_n (by omega), upd_n (by omega)]; exact d, by rw [upd_n (by omega), upd_n (by omega)]; exact e, fun j hj => ?_, fun j hj hj2 => ?_, fun j hj => ?_⟩
  · have hj' : j < aN A := hj
    show _ ∧ _ = iI (updN (aX A) k x j : Nat) ∧ _ = iI (updN (aY A) k y j : Nat)
    by_cases e2 : j = k
    · subst e2
      rw [updN_s, updN_s, upd_s, upd_n (show 6 + 3 * j + 1 ≠ 6 + 3 * j + 2 by omega), upd_s, upd_n (show 6 + 3 * j ≠ 6 + 3 * j + 2 by omega), upd_n (show 6 + 3 * j ≠ 6 + 3 * j + 1 by omega)]
      exact ⟨(f j hj).1, rfl, rfl⟩
    · rw [updN_n _ _ e2, updN_n _ _ e2]
      rw [upd_n (show 6 + 3 * j ≠ 6 + 3 * k + 2 by omega), upd_n (show 6 + 3 * j ≠ 6 + 3 * k + 1 by omega), upd_n (show 6 + 3 * j + 1 ≠ 6 + 3 * k + 2 by omega), upd_n (show 6 + 3 * j + 1 ≠ 6 + 3 * k + 1 by omega), upd_n (show 6 + 3 * j + 2 ≠ 6 + 3 * k + 2 by omega), upd_n (show 6 + 3 * j + 2 ≠ 6 + 3 * k + 1 by omega)]
      exact f j hj
  · rw [upd_n (by omega), upd_n (by omega)]; exact g j hj hj2
  · have hj' : j < aS A := hj
    rw [upd_n (show 826 + 3 * j ≠ 6 + 3 * k + 2 by omega), upd_n (show 826 + 3 * j ≠ 6 + 3 * k + 1 by omega), upd_n (show 826 + 3 * j + 1 ≠ 6 + 3 * k + 2 by omega), upd_n (show 826 + 3 * j + 1 ≠ 6 + 3 * k + 1 by omega), upd_n (show 826 + 3 * j + 2 ≠ 6 + 3 * k + 2 by omega), upd_n (show 826 + 3 * j + 2 ≠ 6 + 3 * k + 1 by omega)]
    exact h j hj
theorem r_pitchE (hI : Inv A) {c k x y : Nat} (hk : k < aN A) : f0_pitch S c (iI (k : Int)) (iI (x : Int)) (iI (y : Int)) = some (sA (sA S (10 * c + 4) k (iI (x : Int))) (10 * c + 5) k (iI (y : Int))) := by
  have h16 := hI.1.1
  unfold f0_pitch
  rw [put_in (by rw [rlen_4]; omega), bnd_s, put_in (by rw [rlen_5]; omega), bnd_s]
theorem a_moveTent (hI : GI A H sn T) (hC : GC S A H sn T) (hM : GM M A H sn T) (z x y : Int32) : QA (f5_moveTent S z x y) (f6_moveTent M z x y) := by
  have hM1 := hM.t0
  obtain ⟨M1, e1⟩ : ∃ M1, M1 = sI M 0 0 := ⟨_, rfl⟩
  unfold f5_moveTent f6_moveTent f5_moveTent_b19 f6_moveTent_b21
  rw [nam_r, ← e1]
  rw [← e1] at hM1
  have bad : QA (some (-1, S)) (some (-1, M1)) := ⟨_, _, _, rfl, rfl, A, H, sn, T, hI, hC, hM1⟩
  rcases isHere2 hC.1.2 hM1.1.2 hI.1 z with ⟨k, hk, rfl, h5, h6⟩ | ⟨h5, h6⟩
  · rw [h5, h6, bnd_s, bnd_s, if_neg n10, if_neg n10]
    rcases isPoint2 x y with ⟨a, b, ha, hb, rfl, rfl, p5, p6⟩ | ⟨p5, p6⟩
    · rw [p5, p6, bnd_s, bnd_s, if_neg n10, if_neg n10]
      have h16 := hI.1.1.1
      have hk16 := hk.1
      obtain ⟨⟨L, hp, hP⟩, hK⟩ := hC.1
      obtain ⟨⟨L2, hp2, hP2⟩, hV⟩ := hM1.1
      have hW := hI.1.wf.perm hp
      have hW2 := hI.1.wf.perm hp2
      obtain ⟨j, hj, hf⟩ := r_at hP hp hI.1 ha hb
      obtain ⟨j2, hj2, hf2⟩ := m_at hP2 hp2 hI.1 ha hb
      have hm := plAt_in hI.1.til ha hb
      have hpw := hI.1.pw hk hm.1
      obtain ⟨p, ep⟩ : ∃ p, p = plAt (aL A) a b := ⟨_, rfl⟩
      rw [← ep] at hj hj2 hm hpw
      have hjl := hW.lt hj
      have hjl2 := hW2.lt hj2
      have hxy := hI.1.xy hk16
      rw [hf, bnd_s, r_ownerOf hP hW hj, bnd_s, hf2, bnd_s, m_w hP2 hW2 hj2, bnd_s]
      by_cases ho : pW p = k + 1
      · rw [if_pos (by rw [ho]; congr 1; omega), if_pos ((w1_e p k (by omega) (by omega)).mpr ho), at_tx hK hI.1 hk16, bnd_s, at_ty hK hI.1 hk16, bnd_s, m_tx hV h16 hk16, bnd_s, m_ty hV h16 hk16, bnd_s]
        have go : QA (f5_moveTent_b87 S (iI (k : Int)) (iI (a : Int)) (iI (b : Int)) (iI (j : Int))) (f6_moveTent_b70 M1 (iI (k : Int)) (iI (a : Int)) (iI (b : Int)) (iI (j2 : Int))) := by
          unfold f5_moveTent_b87 f6_moveTent_b70
          obtain ⟨S1, g1, g2, g3, g4⟩ := hC.push hI
          obtain ⟨M2, k1, k2, k3, k4⟩ := hM1.rec hI
          have e0 : M2.2 0 = M1.2 0 := k4 0 (by omega)
          have hP3 : PlV (M2.2 0) L2 := by rw [e0]; exact hP2
          have hV3 : VmV (M2.2 0) A := k2.1.2
          have hpm := m_pitch hP3 hW2.1 hV3 h16 (x := a) (y := b) hk16
          obtain ⟨S2, d1, d2, d3⟩ := r_pitch g2.1 hI.1 (x := a) (y := b) hk16
          have d1' := d1
          rw [r_pitchE hI.1 hk16] at d1'
          have e2 : S2 = sA (sA S1 (10 * 0 + 4) k (iI (a : Int))) (10 * 0 + 5) k (iI (b : Int)) := (Option.some.inj d1').symm
          have ed : f3_depthOf S2 0 (iI (j : Int)) = f3_depthOf S 0 (iI (j : Int)) := by
            unfold f3_depthOf
            rw [at_cg (S := S) (S' := S2) (r := 10 * 0 + 2)]
            rw [e2, sA_ne _ _ _ (by omega), sA_ne _ _ _ (by omega), g4 _ (by omega)]
          rw [g1, bnd_s, d1, bnd_s, ed, r_depthOf hP hW hj, bnd_s, k1, bnd_s, m_layC1 _ (by omega), bnd_s, m_layC2 _ (by omega), bnd_s, m_d hpm.1 hW2 hj2, bnd_s]
          refine ⟨_, _, _, rfl, rfl, tentA A k a b, (A :: H).take 4, sn, T, hI.act (tent_inv hI.1 ha hb hk (by rw [← ep]; exact ho)), g2.fr0 d2 d3, k2.fr ((FrM.sA _ _ _).tr (FrM.sA _ _ _)) ⟨⟨L2, hp2, hpm.1⟩, hpm.2⟩⟩
        by_cases c1 : aX A k = a
        · have u1 : iI (aX A k : Int) = iI (a : Int) := by rw [c1]
          rw [if_pos u1, if_pos u1]
          by_cases c2 : aY A k = b
          · have u2 : iI (aY A k : Int) = iI (b : Int) := by rw [c2]
            rw [if_pos u2, if_pos u2]
            exact ⟨_, _, _, rfl, rfl, A, H, sn, T, hI, hC, hM1⟩
          · have : ¬ iI (aY A k : Int) = iI (b : Int) := by rw [iI_eq (by omega) (by omega) (by omega) (by omega)]; omega
            rw [if_neg this, if_neg this]
            exact go
        · have : ¬ iI (aX A k : Int) = iI (a : Int) := by rw [iI_eq (by omega) (by omega) (by omega) (by omega)]; omega
          rw [if_neg this, if_neg this]
          exact go
      · rw [if_neg (by rw [iI_eq (by omega) (by omega) (by omega) (by omega)]; omega), if_neg (fun e => ho ((w1_e p k (by omega) (by omega)).mp e))]
        exact ⟨_, _, _, rfl, rfl, A, H, sn, T, hI, hC, hM1⟩
    · rw [p5, p6, bnd_s, bnd_s, if_pos y00, if_pos y00]; exact bad
  · rw [h5, h6, bnd_s, bnd_s, if_pos y00, if_pos y00]; exact bad
theorem a_handOver (hI : GI A H sn T) (hC : GC S A H sn T) (hM : GM M A H sn T) (x y z : Int32) : QA (f5_handOver S x y z) (f6_handOver M x y z) := by
  have hM1 := hM.t0
  obtain ⟨M1, e1⟩ : ∃ M1, M1 = sI M 0 0 := ⟨_, rfl⟩
  unfold f5_handOver f6_handOver f5_handOver_b19 f6_handOver_b21 f5_handOver_b82 f6_handOver_b75
  rw [nam_r, ← e1]
  rw [← e1] at hM1
  have bad : ∀ r : Int32, QA (some (r, S)) (some (r, M1)) := fun r => ⟨_, _, _, rfl, rfl, A, H, sn, T, hI, hC, hM1⟩
  rcases isPoint2 x y with ⟨a, b, ha, hb, rfl, rfl, p5, p6⟩ | ⟨p5, p6⟩
  · rw [p5, p6, bnd_s, bnd_s, if_neg n10, if_neg n10]
    rcases isHere2 hC.1.2 hM1.1.2 hI.1 z with ⟨k, hk, rfl, h5, h6⟩ | ⟨h5, h6⟩
    · rw [h5, h6, bnd_s, bnd_s, if_neg n10, if_neg n10]
      have h16 := hI.1.1.1
      have hk16 := hk.1
      obtain ⟨⟨L, hp, hP⟩, hK⟩ := hC.1
      obtain ⟨⟨L2, hp2, hP2⟩, hV⟩ := hM1.1
      have hW := hI.1.wf.perm hp
      have hW2 := hI.1.wf.perm hp2
      obtain ⟨j, hj, hf⟩ := r_at hP hp hI.1 ha hb
      obtain ⟨j2, hj2, hf2⟩ := m_at hP2 hp2 hI.1 ha hb
      have hm := plAt_in hI.1.til ha hb
      have hpw := hI.1.pw hk hm.1
      obtain ⟨p, ep⟩ : ∃ p, p = plAt (aL A) a b := ⟨_, rfl⟩
      rw [← ep] at hj hj2 hm hpw
      have hxy := hI.1.xy hpw.2.1.1
      have es : (iI (pW p : Int) - 1 : Int32) = iI ((pW p : Int) - 1) := by rw [q1, iI_sub]
      have tx := m_tx hV h16 hpw.2.1.1
      have ty := m_ty hV h16 hpw.2.1.1
      rw [show ((pW p - 1 : Nat) : Int) = (pW p : Int) - 1 by omega] at tx ty
      rw [hf, bnd_s, r_ownerOf hP hW hj, bnd_s, r_isTentIn hP hp hK hI.1 hj, bnd_s, hf2, bnd_s, m_w hP2 hW2 hj2, bnd_s, nam_r, es, tx, bnd_s, ty, bnd_s, m_has hP2 hW2 hj2 hxy.2.1 hxy.2.2, bnd_s, tnt_here hpw.1 hpw.2.1]
      cases ht : inP p (aX A (pW p - 1)) (aY A (pW p - 1))
      · rw [if_pos b2i_f, if_pos b2i_f]
        obtain ⟨acc, ⟨m, m1, m2, m3⟩, g4⟩ := r_ownersBeside hP hW hj
        have ea : m.testBit k = L2.any (fun q => tch p q && pW q == k + 1) := by
          rw [m3 k (by omega)]
          exact any_perm (hp.trans hp2.symm) _
        rw [g4, bnd_s, m2, r_isMarked m1 (by omega), bnd_s, m_touches hP2 hW2 hj2 (by omega), bnd_s, ea]
        cases hb2 : L2.any (fun q => tch p q && pW q == k + 1)
        · rw [if_pos b2i_f, if_pos b2i_f]; exact bad _
        · have bt : ¬ b2i true = 0 := by decide
          rw [if_neg bt, if_neg bt]
          by_cases ho : pW p = k + 1
          · have : iI ((pW p : Int) - 1) = iI (k : Int) := by rw [ho]; congr 1; omega
            rw [if_pos this, if_pos this]; exact bad _
          · have : ¬ iI ((pW p : Int) - 1) = iI (k : Int) := by rw [iI_eq (by omega) (by omega) (by omega) (by omega)]; omega
            rw [if_neg this, if_neg this]
            obtain ⟨S1, g1, g2, g3, g5⟩ := hC.push hI
            obtain ⟨M2, k1, k2, k3, k4⟩ := hM1.rec hI
            have e0 : M2.2 0 = M1.2 0 := k4 0 (by omega)
            have hP3 : PlV (M2.2 0) L2 := by rw [e0]; exact hP2
            have hP4 : PlC S1 0 L := hP.fr (g3 _ (by omega)) (fun q hq => g5 _ (by omega))
            obtain ⟨A', hO⟩ := ov_ex A p k
            have ht2 : ∀ i, Here A i → inP p (aX A i) (aY A i) = true → k = i := fun i hi h => by
              have := hI.1.tent hi hm.1 h
              rw [show i = pW p - 1 by omega] at h
              rw [ht] at h; cases h
            obtain ⟨hA', S', d1, d2, d3⟩ := r_passOn hP4 hp g2.1.2 hI.1 hj hk ht2 hO
            obtain ⟨M', c1, c2, c3⟩ := m_passOn hP3 hp2 k2.1.2 hI.1 hj2 hk ht2 hO (iI ((pW p : Int) - 1))
            rw [g1, bnd_s, d1, bnd_s, k1, bnd_s]
            show QA _ (tOv M2 (iI (j2 : Int)) (iI (k : Int)) (iI ((pW p : Int) - 1)))
            rw [c1]
            exact ⟨_, _, _, rfl, rfl, A', (A :: H).take 4, sn, T, hI.act hA', g2.fr0 d2 d3, k2.fr c2 c3⟩
      · rw [if_neg (by decide), if_neg (by decide)]; exact bad _
    · rw [h5, h6, bnd_s, bnd_s, if_pos y00, if_pos y00]; exact bad _
  · rw [p5, p6, bnd_s, bnd_s, if_pos y00, if_pos y00]; exact bad _
end A2
