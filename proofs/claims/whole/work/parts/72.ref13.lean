/-! STAGE B, 42: the reference: who leaves gives away; hands over -/
section R13
variable {M : St} {A : Ab} {g : Nat} {L : List Pl} {i j : Nat} {p q : Pl}
theorem m_leaveLoop {k j : Nat} (hk16 : k < 16) : ∀ (m : Nat) (M : St) (A A' : Ab) (N : Nat), Lv k m A A' → InvG (k + 1) A → ¬ Here A k → Here A j → VecV (M.2 0) A → m < N →
    ∃ z M', f6_firstToGive M (iI (k : Int)) = some z ∧ f6_leave_b57 (iI (k : Int)) N M z = some (iI (nH A' : Int), M') ∧ FrM M M' ∧ VecV (M'.2 0) A'
  | 0, M, A, A', N, hL, hI, hk, hj, hV, hN => by
    obtain ⟨N, rfl⟩ : ∃ N', N = N' + 1 := ⟨N - 1, by omega⟩
    rw [hL.2]
    obtain ⟨⟨L, hp, hP⟩, hC⟩ := id hV
    have hW := hI.wf.perm hp
    rcases m_first hP hW (k := k) (by omega) with ⟨i, p, -, h2, -⟩ | ⟨-, h2⟩
    · exact absurd h2.2.1 (hL.1 p (hp.mem_iff.mp h2.1))
    · refine ⟨_, M, h2, ?_, FrM.rf _, hV⟩
      rw [f6_leave_b57, if_pos (show iI (-5) = -5 from rfl), m_onField hC hI.1.1, bnd_s]
  | m + 1, M, A, A', N, hL, hI, hk, hj, ⟨⟨L, hp, hP⟩, hC⟩, hN => by
    obtain ⟨N, rfl⟩ : ∃ N', N = N' + 1 := ⟨N - 1, by omega⟩
    obtain ⟨p, hb, hL⟩ := hL
    have hW := hI.wf.perm hp
    have nt : ∀ i, Here A i → inP p (aX A i) (aY A i) = true → False := fun i hi h => by
      have := hI.tent hi hb.1 h
      have e : i = k := by rw [hb.2.1] at this; omega
      subst e; exact hk hi
    rcases m_first hP hW (k := k) (by omega) with ⟨i, p2, h1, h2, h3⟩ | ⟨h2, -⟩
    · have e := (h2.perm hp).one hb
      subst e
      have hlt := hW.lt h1
      have hne : ¬ iI (i : Int) = -5 := by rw [show (-5 : Int32) = iI (-5) from rfl, iI_eq (by omega) (by omega) (by omega) (by omega)]; omega
      rcases hL with ⟨q, hq, hh, hL⟩ | ⟨hn, w, hw, hL⟩
      · rcases m_givesAway hP hp hC hI h1 hk16 hk with ⟨q2, hq2, hh2, M', g1, g2, g3⟩ | ⟨hn, -⟩
        · have e := half_one hI.til hI.2.1 hb.1 hq hq2 hh hh2
          subst e
          have hJ := join_inv hI hj hb.1 hq hh (fun i hi h => absurd h (fun h => nt i hi h))
          obtain ⟨z, M'', k0, k1, k2, k3⟩ := m_leaveLoop hk16 m M' _ A' N hL hJ hk hj g3 (by omega)
          refine ⟨_, M'', h3, ?_, g2.tr k2, k3⟩
          rw [f6_leave_b57, if_neg hne, g1, bnd_s, k0, bnd_s]
          exact k1
        · rw [hn q hq] at hh; cases hh
      · rcases m_givesAway hP hp hC hI h1 hk16 hk with ⟨q2, hq2, hh2, -⟩ | ⟨-, h4⟩
        · rw [hn q2 hq2] at hh2; cases hh2
        · obtain ⟨M', g1, g2, g3⟩ := h4 w hw
          have hG := give_inv hI hw.1.1 hb.1 (fun i hi h => absurd h (fun h => nt i hi h)) (aC2 A) (aC3 A + 1)
          obtain ⟨z, M'', k0, k1, k2, k3⟩ := m_leaveLoop hk16 m M' _ A' N hL hG hk hj g3 (by omega)
          refine ⟨_, M'', h3, ?_, g2.tr k2, k3⟩
          rw [f6_leave_b57, if_neg hne, g1, bnd_s, k0, bnd_s]
          exact k1
    · exact absurd hb.2.1 (h2 p (hp.mem_iff.mpr hb.1))
theorem VecV.gone {v : Nat → Int32} {k : Nat} (hV : VecV v A) (h16 : aN A ≤ 16) (hl : (aL A).length ≤ 181) (hk : k < 16) : VecV (upd v (6 + 3 * k) 0) (goneA A k) := by
  obtain ⟨⟨L, hp, hP⟩, a, b, c, d, e, f, g, h⟩ := hV
  refine ⟨⟨L, hp, hP.fr (by rw [hp.length_eq]; exact hl) (upd_n (by omega)) (fun j h1 h2 => upd_n (by omega))⟩, by rw [upd_n (by omega)]; exact a, by rw [upd_n (by omega)]; exact b, by rw [upd_n (by omega)]; exact c, by rw [upd_n (by omega)]; exact d, by rw [upd_n (by omega)]; exact e, fun j hj => ?_, fun j hj hj2 => ?_, fun j hj => ?_⟩
  · have hj' : j < aN A := hj
    show upd v (6 + 3 * k) 0 (6 + 3 * j) = iI (updN (aH A) k 0 j : Nat) ∧ _
    rw [upd_n (show 6 + 3 * j + 1 ≠ 6 + 3 * k by omega), upd_n (show 6 + 3 * j + 2 ≠ 6 + 3 * k by omega)]
    refine ⟨?_, (f j hj).2⟩
    by_cases e : j = k
    · subst e; rw [upd_s, updN_s]; rfl
    · rw [upd_n (by omega), updN_n _ _ e]; exact (f j hj).1
  · by_cases e : j = k
    · subst e; rw [upd_s]
    · rw [upd_n (by omega)]; exact g j hj hj2
  · have hj' : j < aS A := hj
    rw [upd_n (by omega), upd_n (by omega), upd_n (by omega)]; exact h j hj
/-- the end of leave, after the state was recorded -/
def tLv (M : St) (z : Int32) : Option (Int32 × St) := (f6_layCamper M z 0 0).bind fun M_4 => (f6_onField M_4).bind fun r_5 => if (r_5 : Int32) = 0 then (sto (mlen 0) 1 <| nam (sA M_4 0 (Int32.toNatClampNeg 1) 1) fun M_7 => (f6_layPlot M_7 0 0 0 0 0).bind fun M_8 => some (0, M_8)) else ((f6_firstToGive M_4 z).bind fun r_6 => f6_leave_b57 z fuelN M_4 r_6)
theorem m_leaveAll (hV : VecV (M.2 0) A) (hI : Inv A) {k : Nat} (hk : Here A k) (h0 : ∀ j, ¬ Here (goneA A k) j) : ∃ M', tLv M (iI (k : Int)) = some (0, M') ∧ FrM M M' ∧ VecV (M'.2 0) (allA A k) := by
  have h16 := hI.1.1
  have hk16 : k < 16 := by have := hk.1; omega
  have hg := hV.gone h16 hI.wf.1 hk16
  unfold tLv
  rw [m_layC0 M hk16 0, bnd_s]
  obtain ⟨M4, e4⟩ : ∃ M4, M4 = sA M 0 (6 + 3 * k) 0 := ⟨_, rfl⟩
  rw [← e4]
  have hg4 : VecV (M4.2 0) (goneA A k) := by rw [e4, sA_eq]; exact hg
  have f4 : FrM M M4 := by rw [e4]; exact FrM.sA _ _ _
  have hn := (gone_nH hI k).1.mpr h0
  rw [m_onField hg4.2 h16, hn, bnd_s, if_pos (show iI ((0 : Nat) : Int) = 0 from rfl), wr1]
  obtain ⟨M8, h1, h2, h3, h4, h5, h6, h7⟩ := m_layPlot (sA M4 0 1 1) (i := 0) (by omega) 0 0 0 0
  rw [show (iI ((0 : Nat) : Int)) = (0 : Int32) from rfl] at h1
  rw [h1, bnd_s]
  refine ⟨M8, rfl, (f4.tr (FrM.sA _ _ _)).tr h2, ⟨[(0, 0, 0, 0)], List.Perm.refl _, ?_, fun i p hi => ?_⟩, ?_⟩
  · rw [h7 _ (by omega), sA_eq, upd_s]; rfl
  · cases i with
    | zero => rw [List.getElem?_cons_zero] at hi; cases hi; exact ⟨h3, h4, h5, h6⟩
    | succ i => rw [List.getElem?_cons_succ] at hi; cases hi
  · obtain ⟨-, a, b, c, d, e, f, g, h⟩ := hg4
    refine ⟨by rw [h7 _ (by omega), sA_eq, upd_n (by omega)]; exact a, by rw [h7 _ (by omega), sA_eq, upd_n (by omega)]; exact b, by rw [h7 _ (by omega), sA_eq, upd_n (by omega)]; exact c, by rw [h7 _ (by omega), sA_eq, upd_n (by omega)]; exact d, by rw [h7 _ (by omega), sA_eq, upd_n (by omega)]; exact e, fun j hj => ?_, fun j hj hj2 => ?_, fun j hj => ?_⟩
    · have hj' : j < aN A := hj
      rw [h7 _ (by omega), h7 _ (by omega), h7 _ (by omega), sA_eq, upd_n (by omega), upd_n (by omega), upd_n (by omega)]; exact f j hj
    · rw [h7 _ (by omega), sA_eq, upd_n (by omega)]; exact g j hj hj2
    · rw [h7 _ (by omega), h7 _ (by omega), h7 _ (by omega), sA_eq, upd_n (by omega), upd_n (by omega), upd_n (by omega)]; exact h j hj
theorem m_leaveSome (hV : VecV (M.2 0) A) (hI : Inv A) {k j m : Nat} (hk : Here A k) (hj : Here A j) (hjk : j ≠ k) {A' : Ab} (hL : Lv k m (goneA A k) A') (hm : m ≤ 181) : ∃ M', tLv M (iI (k : Int)) = some (iI (nH A' : Int), M') ∧ FrM M M' ∧ VecV (M'.2 0) A' := by
  have h16 := hI.1.1
  have hk16 : k < 16 := by have := hk.1; omega
  have hg := hV.gone h16 hI.wf.1 hk16
  have hG := gone_inv hI hk hj hjk
  unfold tLv
  rw [m_layC0 M hk16 0, bnd_s]
  obtain ⟨M4, e4⟩ : ∃ M4, M4 = sA M 0 (6 + 3 * k) 0 := ⟨_, rfl⟩
  rw [← e4]
  have hg4 : VecV (M4.2 0) (goneA A k) := by rw [e4, sA_eq]; exact hg
  have f4 : FrM M M4 := by rw [e4]; exact FrM.sA _ _ _
  have hn := gone_nH hI k
  have hn0 : ¬ nH (goneA A k) = 0 := fun e => hn.1.mp e j (here_gone hj hjk)
  obtain ⟨z, M', g1, g2, g3, g4⟩ := m_leaveLoop hk16 m M4 _ A' fuelN hL hG (fun h => (gone_here h).2 rfl) (here_gone hj hjk) hg4 (fuel_lt (by omega))
  rw [m_onField hg4.2 h16, bnd_s, if_neg (by rw [q0, iI_eq (by omega) (by omega) (by omega) (by omega)]; omega), g1, bnd_s, g2]
  exact ⟨M', rfl, f4.tr g3, g4⟩
/-- the end of handOver, after the state was recorded -/
def tOv (M : St) (z c b : Int32) : Option (Int32 × St) := sto (mlen 0) (((54 + (4 * z)) + 3)) <| nam (sA M 0 (Int32.toNatClampNeg (((54 + (4 * z)) + 3))) ((c + 1))) fun M_12 => (f6_otherHalf M_12 z).bind fun r_13 => if (r_13 : Int32) = (-5) then (f6_handOver_b147 M_12 b) else ((f6_ofPlot M_12 r_13 3).bind fun r_14 => if (r_14 : Int32) = (c + 1) then ((f6_joins M_12 z r_13 ((c + 1))).bind fun M_15 => f6_handOver_b147 M_15 b) else (f6_handOver_b147 M_12 b))
theorem m_passOn (hP : PlV (M.2 0) L) (hp : L.Perm (aL A)) (hC : VmV (M.2 0) A) (hI : Inv A) {i w : Nat} {p : Pl} (hi : L[i]? = some p) (hw : Here A w) (ht : ∀ k, Here A k → inP p (aX A k) (aY A k) = true → w = k) {A' : Ab} (hO : Ov A p w A') (b : Int32) :
    ∃ M', tOv M (iI (i : Int)) (iI (w : Int)) b = some (b, M') ∧ FrM M M' ∧ VecV (M'.2 0) A' := by
  have hW := hI.wf.perm hp
  have hil := hW.lt hi
  have h16 := hI.1.1
  have hw16 := hw.1
  have hm : p ∈ aL A := hp.mem_iff.mp (List.mem_of_getElem? hi)
  have hG : InvG 0 (giveA A p (w + 1)) := give_inv hI hw hm ht (aC2 A) (aC3 A)
  obtain ⟨g1, g2, g3⟩ := m_give hP hp hC hI hi (w + 1)
  unfold tOv f6_handOver_b147
  have ew : (iI (w : Int) + 1 : Int32) = iI ((w + 1 : Nat) : Int) := by rw [q1, iI_s]
  rw [ew, w_cell M (i := 54 + 4 * i + 3) (cell_p3 i) (by omega)]
  obtain ⟨M5, e5⟩ : ∃ M5, M5 = sA M 0 (54 + 4 * i + 3) (iI ((w + 1 : Nat) : Int)) := ⟨_, rfl⟩
  have f5 : FrM M M5 := by rw [e5]; exact FrM.sA _ _ _
  rw [← e5] at g1 g3 ⊢
  have hW2 := hG.wf.perm g2
  have hi2 : (L.set i (pX p, pY p, pD p, w + 1))[i]? = some (pX p, pY p, pD p, w + 1) := by
    rw [List.getElem?_set, if_pos rfl, if_pos (List.getElem?_eq_some_iff.mp hi).1]
  rcases m_otherHalf g1 hW2 hi2 with ⟨j, q, h1, h2, h3⟩ | ⟨h1, h2⟩
  · have hjl := hW2.lt h1
    have hOq := (hW2.at h1).b
    rw [h3, bnd_s, if_neg (by rw [show (-5 : Int32) = iI (-5) from rfl, iI_eq (by omega) (by omega) (by omega) (by omega)]; omega), m_w g1 hW2 h1, bnd_s]
    have hmq : q ∈ aL (giveA A p (w + 1)) := g2.mem_iff.mp (List.mem_of_getElem? h1)
    rcases hO with ⟨q2, o1, o2, o3, o4⟩ | ⟨o1, o2⟩
    · have e := half_one hG.til hG.2.1 (g2.mem_iff.mp (List.mem_of_getElem? hi2)) hmq o1 h2 o2
      subst e
      obtain ⟨M', k1, k2, k3⟩ := m_joinV g1 g2 g3 hG hi2 h1 h2 (w + 1)
      rw [if_pos (by rw [o3]), k1, bnd_s, o4]
      exact ⟨M', rfl, f5.tr k2, k3⟩
    · have hne := o1 q hmq h2
      rw [if_neg (by rw [iI_eq (by omega) (by omega) (by omega) (by omega)]; omega), o2]
      exact ⟨M5, rfl, f5, ⟨_, g2, g1⟩, g3⟩
  · rw [h2, bnd_s, if_pos (show iI (-5) = -5 from rfl)]
    rcases hO with ⟨q2, o1, o2, o3, o4⟩ | ⟨o1, o2⟩
    · rw [h1 q2 (g2.mem_iff.mpr o1)] at o2; cases o2
    · rw [o2]
      exact ⟨M5, rfl, f5, ⟨_, g2, g1⟩, g3⟩
end R13
