/-! STAGE B, 18: the class sends away, hands over; songs -/
theorem IsBest.wlt {A : Ab} {g k : Nat} (hI : InvG g A) {p : Pl} (h : IsBest (aL A) k p) : k < 16 := by
  have := (hI.2.1 p h.1).b
  have := h.2.1
  omega
section CX
variable {S : St} {c g : Nat} {A : Ab} {L : List Pl}
theorem r_sendLoop {k j : Nat} (hk16 : k < 16) : ∀ (m : Nat) (S : St) (A A' : Ab) (s N : Nat), Lv k m A A' → InvG (k + 1) A → ¬ Here A k → Here A j → CampC S c A → s + m ≤ 181 → m < N →
    ∃ S', f0_sendAway_b26 c (iI (k : Int)) N S (iI (s : Int)) = some S' ∧ FrC S S' c ∧ CampC S' c A'
  | 0, S, A, A', s, N, hL, hI, hk, hj, ⟨⟨L, hp, hP⟩, hC⟩, hs, hN => by
    obtain ⟨N, rfl⟩ : ∃ N', N = N' + 1 := ⟨N - 1, by omega⟩
    rw [hL.2]
    refine ⟨S, ?_, FrC.rf _ _, ⟨⟨L, hp, hP⟩, hC⟩⟩
    rw [f0_sendAway_b26, q181]
    by_cases h : s < 181
    · rw [if_neg (by rw [iI_le (by omega) (by omega) (by omega) (by omega)]; omega)]
      rcases r_first hP hp hI (k := k) (by omega) with ⟨i, p, -, h2, -⟩ | ⟨-, h2⟩
      · exact absurd h2.2.1 (hL.1 p h2.1)
      · rw [h2, bnd_s, if_pos (show iI (-1) = -1 from rfl)]
    · rw [if_pos (by rw [iI_le (by omega) (by omega) (by omega) (by omega)]; omega)]
  | m + 1, S, A, A', s, N, hL, hI, hk, hj, ⟨⟨L, hp, hP⟩, hC⟩, hs, hN => by
    obtain ⟨N, rfl⟩ : ∃ N', N = N' + 1 := ⟨N - 1, by omega⟩
    obtain ⟨p, hb, hL⟩ := hL
    rw [f0_sendAway_b26, q181, if_neg (by rw [iI_le (by omega) (by omega) (by omega) (by omega)]; omega)]
    have nt : ∀ i, Here A i → inP p (aX A i) (aY A i) = true → False := fun i hi h => by
      have := hI.tent hi hb.1 h
      have e : i = k := by rw [hb.2.1] at this; omega
      subst e; exact hk hi
    rcases r_first hP hp hI (k := k) (by omega) with ⟨i, p2, h1, h2, h3⟩ | ⟨h2, -⟩
    · have e := h2.one hb
      subst e
      have hlt := (hI.wf.perm hp).lt h1
      rw [h3, bnd_s, if_neg (by rw [iI_m1, iI_eq (by omega) (by omega) (by omega) (by omega)]; omega)]
      rcases hL with ⟨q, hq, hh, hL⟩ | ⟨hn, w, hw, hL⟩
      · rcases r_giveAway hP hp hC hI h1 with ⟨q2, hq2, hh2, S', g1, g2, g3⟩ | ⟨hn, -⟩
        · have e := half_one hI.til hI.2.1 hb.1 hq hq2 hh hh2
          subst e
          have hJ := join_inv hI hj hb.1 hq hh (fun i hi h => absurd h (fun h => nt i hi h))
          obtain ⟨S'', k1, k2, k3⟩ := r_sendLoop hk16 m S' _ A' (s + 1) N hL hJ hk hj g3 (by omega) (by omega)
          rw [g1, bnd_s, q1, iI_s]
          exact ⟨S'', k1, g2.tr k2, k3⟩
        · rw [hn q hq] at hh; cases hh
      · rcases r_giveAway hP hp hC hI h1 with ⟨q2, hq2, hh2, -⟩ | ⟨-, h4⟩
        · rw [hn q2 hq2] at hh2; cases hh2
        · obtain ⟨S', g1, g2, g3⟩ := h4 w hw
          have hG := give_inv hI hw.1.1 hb.1 (fun i hi h => absurd h (fun h => nt i hi h)) (aC2 A) (aC3 A + 1)
          obtain ⟨S'', k1, k2, k3⟩ := r_sendLoop hk16 m S' _ A' (s + 1) N hL hG hk hj g3 (by omega) (by omega)
          rw [g1, bnd_s, q1, iI_s]
          exact ⟨S'', k1, g2.tr k2, k3⟩
    · exact absurd hb.2.1 (h2 p hb.1)
theorem CampC.gone {k : Nat} (hK : CampC S c A) : CampC (sA S (10 * c + 6) k 0) c (goneA A k) := by
  obtain ⟨⟨L, hp, hP⟩, h1, h2, h3, h4, h5, h6, h7⟩ := hK
  refine ⟨⟨L, hp, hP.fr rfl (fun k hk => sA_ne _ _ _ (by omega))⟩, h1, h2, h3, h4, h5, fun j hj => ?_, fun j hj => ?_⟩
  · rw [sA_ne _ _ _ (show 10 * c + 4 ≠ 10 * c + 6 by omega), sA_ne _ _ _ (show 10 * c + 5 ≠ 10 * c + 6 by omega), sA_eq]
    refine ⟨(h6 j hj).1, (h6 j hj).2.1, ?_⟩
    show upd _ _ _ j = iI (updN (aH A) k 0 j : Nat)
    by_cases e : j = k
    · subst e; rw [upd_s, updN_s]; rfl
    · rw [upd_n e, updN_n _ _ e]; exact (h6 j hj).2.2
  · rw [sA_ne _ _ _ (by omega), sA_ne _ _ _ (by omega), sA_ne _ _ _ (by omega)]
    exact h7 j hj
theorem sum_le {L : List Nat} (h : ∀ a ∈ L, a ≤ 1) : L.sum ≤ L.length := by
  induction L with
  | nil => exact Nat.le_refl _
  | cons a L ih =>
    have h1 := h a List.mem_cons_self
    have h2 := ih (fun b hb => h b (List.mem_cons_of_mem _ hb))
    rw [List.sum_cons, List.length_cons]; omega
theorem nH_le (hI : InvG g A) : nH A ≤ 16 := by
  have h16 := hI.1.1
  have := sum_le (L := (List.range (aN A)).map (aH A)) (fun a ha => by
    obtain ⟨k, hk, rfl⟩ := List.mem_map.mp ha
    exact (hI.xy (List.mem_range.mp hk)).1)
  rw [List.length_map, List.length_range] at this
  unfold nH; omega
theorem sum_pos {L : List Nat} {a : Nat} (h : a ∈ L) : a ≤ L.sum := by
  induction L with
  | nil => cases h
  | cons b L ih =>
    rw [List.sum_cons]
    rcases List.mem_cons.mp h with h1 | h1
    · omega
    · have := ih h1; omega
theorem sum_zero {L : List Nat} (h : ∀ a ∈ L, a = 0) : L.sum = 0 := by
  induction L with
  | nil => rfl
  | cons b L ih => rw [List.sum_cons, h b List.mem_cons_self, ih (fun a ha => h a (List.mem_cons_of_mem _ ha))]
theorem nH_0 (hI : InvG g A) : nH A = 0 ↔ ∀ k, ¬ Here A k := by
  constructor
  · intro h k hk
    have := sum_pos (L := (List.range (aN A)).map (aH A)) (a := 1) (List.mem_map.mpr ⟨k, List.mem_range.mpr hk.1, hk.2⟩)
    unfold nH at h; omega
  · intro h
    refine sum_zero fun a ha => ?_
    obtain ⟨k, hk, rfl⟩ := List.mem_map.mp ha
    have h1 := (hI.xy (List.mem_range.mp hk)).1
    have h2 := h k
    by_cases e : aH A k = 1
    · exact absurd ⟨List.mem_range.mp hk, e⟩ h2
    · omega
theorem gone_inv0 {A : Ab} (hI : Inv A) (k : Nat) {S : St} (hC : CmC S c (goneA A k)) : f0_campersHere S c = some (iI (nH (goneA A k) : Int)) := by
  have h16 := hI.1.1
  have hC1 : S.1 (6 * c + 1) = iI (aN A : Int) := hC.1
  unfold f0_campersHere
  rw [loop_range (aN A) (fun n i acc => f0_campersHere_b4 S c n acc i) (fun acc i => acc + iI (aH (goneA A k) i : Int)) (fun acc => some acc) fuelN (fuel_lt (by omega)) ?_ ?_ 0, q0, foldl_sum, Int.zero_add]
  · rfl
  · intro n i acc hi
    have := (hC.2.2.2.2.2.1 i hi).2.2
    show f0_campersHere_b4 S c (n + 1) _ _ = f0_campersHere_b4 S c n _ _
    rw [f0_campersHere_b4, hC1, if_neg (by rw [iI_le (by omega) (by omega) (by omega) (by omega)]; omega), at_in (by rw [rlen_6]; omega), this, bnd_s, nam_r, q1, iI_s]
  · intro n acc
    show f0_campersHere_b4 S c (n + 1) _ _ = _
    rw [f0_campersHere_b4, hC1, if_pos (by rw [iI_le (by omega) (by omega) (by omega) (by omega)]; omega)]
theorem gone_nH {A : Ab} (hI : Inv A) (k : Nat) : (nH (goneA A k) = 0 ↔ ∀ j, ¬ Here (goneA A k) j) ∧ nH (goneA A k) ≤ 16 := by
  have h16 := hI.1.1
  have hb : ∀ j, j < aN A → aH (goneA A k) j ≤ 1 := fun j hj => (gone_xy hI k hj).1
  refine ⟨⟨fun h j hj => ?_, fun h => ?_⟩, ?_⟩
  · have := sum_pos (L := (List.range (aN A)).map (aH (goneA A k))) (a := 1) (List.mem_map.mpr ⟨j, List.mem_range.mpr hj.1, hj.2⟩)
    unfold nH at h; have h2 : ((List.range (aN A)).map (aH (goneA A k))).sum = 0 := h; omega
  · refine sum_zero fun a ha => ?_
    obtain ⟨j, hj, rfl⟩ := List.mem_map.mp ha
    have hj2 : j < aN A := List.mem_range.mp hj
    have h1 := hb j hj2
    by_cases e : aH (goneA A k) j = 1
    · exact absurd ⟨hj2, e⟩ (h j)
    · omega
  · have := sum_le (L := (List.range (aN A)).map (aH (goneA A k))) (fun a ha => by
      obtain ⟨j, hj, rfl⟩ := List.mem_map.mp ha
      exact hb j (List.mem_range.mp hj))
    rw [List.length_map, List.length_range] at this
    show ((List.range (aN A)).map (aH (goneA A k))).sum ≤ 16
    omega
theorem cntW_le (L : List Pl) (k : Nat) : cntW L k ≤ L.length := List.countP_le_length
theorem r_sendAll (hK : CampC S c A) (hI : Inv A) {k : Nat} (hk : Here A k) (h0 : ∀ j, ¬ Here (goneA A k) j) : ∃ S', f0_sendAway S c (iI (k : Int)) = some S' ∧ FrC S S' c ∧ CampC S' c (allA A k) := by
  have h16 := hI.1.1
  have hk1 := hk.1
  have hG := hK.gone (k := k)
  unfold f0_sendAway
  rw [put_in (by rw [rlen_6]; omega), bnd_s, gone_inv0 hI k hG.2, bnd_s, (gone_nH hI k).1.mpr h0, if_pos (show iI ((0 : Nat) : Int) = 0 from rfl)]
  obtain ⟨S', h1, h2, h3⟩ := r_joinAll (sA S (10 * c + 6) k 0) c
  rw [h1, bnd_s]
  exact ⟨S', rfl, (FrC.sA S c 6 _ _ (by omega)).tr h2.C, ⟨[(0, 0, 0, 0)], List.Perm.refl _, h3⟩, hG.2.fr h2⟩
theorem r_sendSome (hK : CampC S c A) (hI : Inv A) {k j m : Nat} (hk : Here A k) (hj : Here A j) (hjk : j ≠ k) {A' : Ab} (hL : Lv k m (goneA A k) A') (hm : m ≤ 181) : ∃ S', f0_sendAway S c (iI (k : Int)) = some S' ∧ FrC S S' c ∧ CampC S' c A' := by
  have h16 := hI.1.1
  have hk1 := hk.1
  have hG := hK.gone (k := k)
  have hN := gone_nH hI k
  have hn0 : nH (goneA A k) ≠ 0 := fun e => hN.1.mp e j (here_gone hj hjk)
  unfold f0_sendAway
  rw [put_in (by rw [rlen_6]; omega), bnd_s, gone_inv0 hI k hG.2, bnd_s, if_neg (by rw [iI_0, iI_eq (by omega) (by omega) (by omega) (by omega)]; omega)]
  obtain ⟨S', h1, h2, h3⟩ := r_sendLoop (by omega) m _ _ A' 0 fuelN hL (gone_inv hI hk hj hjk) (fun h => (gone_here h).2 rfl) (here_gone hj hjk) hG (by omega) (fuel_lt (by omega))
  exact ⟨S', h1, (FrC.sA S c 6 _ _ (by omega)).tr h2, h3⟩
/-- handing over: what comes of it -/
def Ov (A : Ab) (p : Pl) (w : Nat) (A' : Ab) : Prop :=
  (∃ q ∈ aL (giveA A p (w + 1)), isHalf (pX p, pY p, pD p, w + 1) q = true ∧ pW q = w + 1 ∧ A' = joinA (giveA A p (w + 1)) (pX p, pY p, pD p, w + 1) q (w + 1)) ∨
  ((∀ q ∈ aL (giveA A p (w + 1)), isHalf (pX p, pY p, pD p, w + 1) q = true → pW q ≠ w + 1) ∧ A' = giveA A p (w + 1))
theorem ov_ex (A : Ab) (p : Pl) (w : Nat) : ∃ A', Ov A p w A' := by
  by_cases e : ∃ q ∈ aL (giveA A p (w + 1)), isHalf (pX p, pY p, pD p, w + 1) q = true ∧ pW q = w + 1
  · obtain ⟨q, h1, h2, h3⟩ := e
    exact ⟨_, Or.inl ⟨q, h1, h2, h3, rfl⟩⟩
  · exact ⟨_, Or.inr ⟨fun q h1 h2 h3 => e ⟨q, h1, h2, h3⟩, rfl⟩⟩
theorem r_passOn (hP : PlC S c L) (hp : L.Perm (aL A)) (hC : CmC S c A) (hI : Inv A) {i w : Nat} {p : Pl} (hi : L[i]? = some p) (hw : Here A w) (ht : ∀ k, Here A k → inP p (aX A k) (aY A k) = true → w = k) {A' : Ab} (hO : Ov A p w A') :
    Inv A' ∧ ∃ S', f0_passOn S c (iI (i : Int)) (iI (w : Int)) = some S' ∧ FrC S S' c ∧ CampC S' c A' := by
  have hm : p ∈ aL A := hp.mem_iff.mp (List.mem_of_getElem? hi)
  have hIG : Inv (giveA A p (w + 1)) := give_inv hI hw hm ht _ _
  obtain ⟨S1, g1, g2, g3, g4, g5⟩ := r_give hP hp hC hI hi (w + 1)
  have h16 := hI.1.1
  have hw1 := hw.1
  have hin : (L.set i (pX p, pY p, pD p, w + 1))[i]? = some (pX p, pY p, pD p, w + 1) := by
    rw [List.getElem?_set, if_pos rfl, if_pos (List.getElem?_eq_some_iff.mp hi).1]
  have hpm : (pX p, pY p, pD p, w + 1) ∈ aL (giveA A p (w + 1)) := List.mem_cons_self
  rw [show (((w + 1 : Nat) : Int) - 1) = (w : Int) by omega] at g1
  unfold f0_passOn f0_passOn_b55
  rw [g1, bnd_s]
  have hhw : Here (giveA A p (w + 1)) w := hw
  rcases r_oth g3 g4 hIG hin with ⟨j, q, h1, h2, h3⟩ | ⟨h1, h2⟩
  · have hqm : q ∈ aL (giveA A p (w + 1)) := g4.mem_iff.mp (List.mem_of_getElem? h1)
    have hlt := (hIG.wf.perm g4).lt h1
    have hOq := (hIG.2.1 q hqm).b
    rw [h3, bnd_s, if_neg (by rw [iI_m1, iI_eq (by omega) (by omega) (by omega) (by omega)]; omega), r_ownerOf g3 (hIG.wf.perm g4) h1, bnd_s]
    rcases hO with ⟨q2, k1, k2, k3, rfl⟩ | ⟨k1, rfl⟩
    · have e := half_one hIG.til hIG.2.1 hpm hqm k1 h2 k2
      subst e
      rw [if_pos (by rw [k3]; congr 1; omega)]
      obtain ⟨S2, m1, m2, m3⟩ := r_joinC g3 g4 g5 hIG hin h1 h2 (w := w + 1) (by omega)
      rw [show (((w + 1 : Nat) : Int) - 1) = (w : Int) by omega] at m1
      rw [m1, bnd_s, nam_r]
      refine ⟨?_, _, rfl, (g2.C.tr m2.C).tr (FrC.sI _ c 4 _ (by omega)), m3⟩
      have hJ := join_inv hIG hhw hpm hqm h2 (fun k hk h => by rw [k3, ht k hk h])
      rw [k3] at hJ
      exact hJ
    · have hne := k1 q hqm h2
      rw [if_neg (by rw [iI_eq (by omega) (by omega) (by omega) (by omega)]; omega)]
      exact ⟨hIG, S1, rfl, g2.C, ⟨_, g4, g3⟩, g5⟩
  · rw [h2, bnd_s, if_pos (show iI (-1) = -1 from rfl)]
    rcases hO with ⟨q2, k1, k2, k3, rfl⟩ | ⟨k1, rfl⟩
    · rw [h1 q2 k1] at k2; cases k2
    · exact ⟨hIG, S1, rfl, g2.C, ⟨_, g4, g3⟩, g5⟩
end CX
