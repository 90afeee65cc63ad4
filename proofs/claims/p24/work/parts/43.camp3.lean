/-! STAGE B, 11: what the class's camp does: settle, pitch, songs -/
def updN (f : Nf) (k v : Nat) : Nf := fun j => if j = k then v else f j
theorem updN_s (f : Nf) (k v : Nat) : updN f k v k = v := if_pos rfl
theorem updN_n (f : Nf) {k j : Nat} (v : Nat) (h : j ≠ k) : updN f k v j = f j := if_neg h
def comeA (A : Ab) (x y t : Nat) : Ab :=
  (prt x y (pD (plAt (aL A) x y) + t) (aN A + 1) :: (hlv x y (pD (plAt (aL A) x y)) (pW (plAt (aL A) x y)) t ++ (aL A).erase (plAt (aL A) x y)),
   (aN A + 1, updN (aH A) (aN A) 1, updN (aX A) (aN A) x, updN (aY A) (aN A) y), A.2.2.1, (aC1 A + iI (t : Int), aC2 A, aC3 A))
def tentA (A : Ab) (k x y : Nat) : Ab := (aL A, (aN A, aH A, updN (aX A) k x, updN (aY A) k y), A.2.2)
def songA (A : Ab) (j x y : Nat) : Ab := (aL A, A.2.1, (aS A, updN (aU A) j x, updN (aV A) j y, aT A), A.2.2.2)
def layA (A : Ab) (x y t : Nat) : Ab := (aL A, A.2.1, (aS A + 1, updN (aU A) (aS A) x, updN (aV A) (aS A) y, updN (aT A) (aS A) t), A.2.2.2)
section CT
variable {S : St} {c : Nat} {A : Ab} {L : List Pl}
theorem PlC.fr {S S' : St} {c : Nat} {L : List Pl} (h : PlC S c L) (h1 : S'.1 (6 * c + 0) = S.1 (6 * c + 0)) (h2 : ∀ k, k < 4 → S'.2 (10 * c + k) = S.2 (10 * c + k)) : PlC S' c L :=
  ⟨h1.trans h.1, fun i p hp => by rw [h2 0 (by omega), h2 1 (by omega), h2 2 (by omega), h2 3 (by omega)]; exact h.2 i p hp⟩
theorem r_settle (hP : PlC S c L) (hp : L.Perm (aL A)) (hC : CmC S c A) (hI : Inv A) {x y t : Nat} (hx : x < 64) (hy : y < 64) (h16 : aN A < 16) (ht : pD (plAt (aL A) x y) + t ≤ 12) (hlen : (aL A).length + t ≤ 181) :
    ∃ S', f0_settle S c (iI (x : Int)) (iI (y : Int)) (iI ((pD (plAt (aL A) x y) + t : Nat) : Int)) = some (iI (aN A : Int), S') ∧ FrC S S' c ∧ CampC S' c (comeA A x y t) := by
  obtain ⟨j, hj, hf⟩ := r_at hP hp hI hx hy
  have hW := hI.wf.perm hp
  have hO := (hW.at hj).b
  obtain ⟨p, ep⟩ : ∃ p, p = plAt (aL A) x y := ⟨_, rfl⟩
  unfold comeA
  rw [← ep] at hj ht hO ⊢
  unfold f0_settle f0_pitch
  rw [hC.1, nam_r, hf, bnd_s, r_depthOf hP hW hj, bnd_s, nam_r, hC.2.2.1, iI_sub, show ((pD p + t : Nat) : Int) - (pD p : Int) = (t : Int) by omega]
  have hP4 : PlC (sI S (6 * c + 3) (aC1 A + iI (t : Int))) c L := hP.fr (sI_ne _ _ (by omega)) (fun k _ => rfl)
  obtain ⟨S5, g1, g2, g3⟩ := r_halveDown (S := sI S (6 * c + 3) (aC1 A + iI (t : Int))) hP4 hW (wn := aN A + 1) hj hx hy ht (by rw [hp.length_eq]; exact hlen) (by omega)
  rw [show (((aN A + 1 : Nat) : Int) - 1) = (aN A : Int) by omega] at g1
  rw [g1, bnd_s, put_in (by rw [rlen_6]; omega), bnd_s, put_in (by rw [rlen_4]; omega), bnd_s, put_in (by rw [rlen_5]; omega), bnd_s, bnd_s, nam_r]
  refine ⟨_, rfl, ?_, ⟨_, ?_, g3.fr ?_ (fun k hk => ?_)⟩, ?_⟩
  · exact ((FrC.sI S c 3 _ (by omega)).tr g2.C).tr ((((FrC.sA _ c 6 _ _ (by omega)).tr (FrC.sA _ c 4 _ _ (by omega))).tr (FrC.sA _ c 5 _ _ (by omega))).tr (FrC.sI _ c 1 _ (by omega)))
  · obtain ⟨K, k1, k2⟩ := set_perm (show (L ++ hlv x y (pD p) (pW p) t)[j]? = some p by rw [List.getElem?_append_left (List.getElem?_eq_some_iff.mp hj).1]; exact hj) (prt x y (pD p + t) (aN A + 1))
    refine k2.trans (List.Perm.cons _ ?_)
    have hm : p ∈ aL A := hp.mem_iff.mp (List.mem_of_getElem? hj)
    have e1 : (p :: K).Perm (p :: ((aL A).erase p ++ hlv x y (pD p) (pW p) t)) := by
      rw [← List.cons_append]
      exact k1.symm.trans ((hp.trans (List.perm_cons_erase hm)).append_right _)
    exact (List.Perm.cons_inv e1).trans List.perm_append_comm
  · rw [sI_ne _ _ (by omega)]; rfl
  · rw [sI_2, sA_ne _ _ _ (by omega), sA_ne _ _ _ (by omega), sA_ne _ _ _ (by omega)]
  · obtain ⟨h1, h2, h3, h4, h5, h6, h7⟩ := hC
    refine ⟨?_, ?_, ?_, ?_, ?_, fun k hk => ?_, fun k hk => ?_⟩
    · rw [sI_eq, q1, iI_add]; rfl
    · rw [sI_ne _ _ (by omega), sA_1, sA_1, sA_1, g2.1 _ (by omega), sI_ne _ _ (by omega)]; exact h2
    · rw [sI_ne _ _ (by omega), sA_1, sA_1, sA_1, g2.1 _ (by omega), sI_eq]
    · rw [sI_ne _ _ (by omega), sA_1, sA_1, sA_1, g2.1 _ (by omega), sI_ne _ _ (by omega)]; exact h4
    · rw [sI_ne _ _ (by omega), sA_1, sA_1, sA_1, g2.1 _ (by omega), sI_ne _ _ (by omega)]; exact h5
    · have hk2 : k < aN A + 1 := hk
      rw [sI_2]
      rw [sA_ne _ _ _ (show 10 * c + 4 ≠ 10 * c + 5 by omega), sA_eq, sA_ne _ _ _ (show 10 * c + 4 ≠ 10 * c + 6 by omega), g2.2 _ (by omega)]
      rw [sA_eq, sA_ne _ _ _ (show 10 * c + 5 ≠ 10 * c + 4 by omega), sA_ne _ _ _ (show 10 * c + 5 ≠ 10 * c + 6 by omega), g2.2 _ (by omega)]
      rw [sA_ne _ _ _ (show 10 * c + 6 ≠ 10 * c + 5 by omega), sA_ne _ _ _ (show 10 * c + 6 ≠ 10 * c + 4 by omega), sA_eq, g2.2 _ (by omega)]
      show upd _ _ _ k = iI (updN (aX A) (aN A) x k : Nat) ∧ upd _ _ _ k = iI (updN (aY A) (aN A) y k : Nat) ∧ upd _ _ _ k = iI (updN (aH A) (aN A) 1 k : Nat)
      by_cases e : k = aN A
      · subst e
        rw [upd_s, upd_s, upd_s, updN_s, updN_s, updN_s]; exact ⟨rfl, rfl, rfl⟩
      · rw [upd_n e, upd_n e, upd_n e, updN_n _ _ e, updN_n _ _ e, updN_n _ _ e]
        exact h6 k (by omega)
    · rw [sI_2, sA_ne _ _ _ (by omega), sA_ne _ _ _ (by omega), sA_ne _ _ _ (by omega), g2.2 _ (by omega), sA_ne _ _ _ (by omega), sA_ne _ _ _ (by omega), sA_ne _ _ _ (by omega), g2.2 _ (by omega), sA_ne _ _ _ (by omega), sA_ne _ _ _ (by omega), sA_ne _ _ _ (by omega), g2.2 _ (by omega)]
      exact h7 k hk
theorem r_pitch (hK : CampC S c A) (hI : Inv A) {k x y : Nat} (hk : k < aN A) : ∃ S', f0_pitch S c (iI (k : Int)) (iI (x : Int)) (iI (y : Int)) = some S' ∧ FrC S S' c ∧ CampC S' c (tentA A k x y) := by
  have h16 := hI.1.1
  obtain ⟨⟨L, hp, hP⟩, h1, h2, h3, h4, h5, h6, h7⟩ := hK
  unfold f0_pitch
  rw [put_in (by rw [rlen_4]; omega), bnd_s, put_in (by rw [rlen_5]; omega), bnd_s]
  refine ⟨_, rfl, (FrC.sA _ c 4 _ _ (by omega)).tr (FrC.sA _ c 5 _ _ (by omega)), ⟨L, hp, hP.fr rfl (fun k hk => by rw [sA_ne _ _ _ (by omega), sA_ne _ _ _ (by omega)])⟩, h1, h2, h3, h4, h5, fun j hj => ?_, fun j hj => ?_⟩
  · rw [sA_ne _ _ _ (show 10 * c + 4 ≠ 10 * c + 5 by omega), sA_eq, sA_eq, sA_ne _ _ _ (show 10 * c + 5 ≠ 10 * c + 4 by omega), sA_ne _ _ _ (show 10 * c + 6 ≠ 10 * c + 5 by omega), sA_ne _ _ _ (show 10 * c + 6 ≠ 10 * c + 4 by omega)]
    show upd _ _ _ j = iI (updN (aX A) k x j : Nat) ∧ upd _ _ _ j = iI (updN (aY A) k y j : Nat) ∧ _
    by_cases e : j = k
    · subst e
      rw [upd_s, upd_s, updN_s, updN_s]
      exact ⟨rfl, rfl, (h6 j hj).2.2⟩
    · rw [upd_n e, upd_n e, updN_n _ _ e, updN_n _ _ e]
      exact h6 j hj
  · rw [sA_ne _ _ _ (by omega), sA_ne _ _ _ (by omega), sA_ne _ _ _ (by omega), sA_ne _ _ _ (by omega), sA_ne _ _ _ (by omega), sA_ne _ _ _ (by omega)]
    exact h7 j hj
theorem r_putSong (hK : CampC S c A) (hI : Inv A) {k x y : Nat} (hk : k < aS A) : ∃ S', f0_putSong S c (iI (k : Int)) (iI (x : Int)) (iI (y : Int)) = some S' ∧ FrC S S' c ∧ CampC S' c (songA A k x y) := by
  have h16 := hI.1.2
  obtain ⟨⟨L, hp, hP⟩, h1, h2, h3, h4, h5, h6, h7⟩ := hK
  unfold f0_putSong
  rw [put_in (by rw [rlen_7]; omega), bnd_s, put_in (by rw [rlen_8]; omega), bnd_s]
  refine ⟨_, rfl, (FrC.sA _ c 7 _ _ (by omega)).tr (FrC.sA _ c 8 _ _ (by omega)), ⟨L, hp, hP.fr rfl (fun k hk => by rw [sA_ne _ _ _ (by omega), sA_ne _ _ _ (by omega)])⟩, h1, h2, h3, h4, h5, fun j hj => ?_, fun j hj => ?_⟩
  · rw [sA_ne _ _ _ (by omega), sA_ne _ _ _ (by omega), sA_ne _ _ _ (by omega), sA_ne _ _ _ (by omega), sA_ne _ _ _ (by omega), sA_ne _ _ _ (by omega)]
    exact h6 j hj
  · rw [sA_ne _ _ _ (show 10 * c + 7 ≠ 10 * c + 8 by omega), sA_eq, sA_eq, sA_ne _ _ _ (show 10 * c + 8 ≠ 10 * c + 7 by omega), sA_ne _ _ _ (show 10 * c + 9 ≠ 10 * c + 8 by omega), sA_ne _ _ _ (show 10 * c + 9 ≠ 10 * c + 7 by omega)]
    show upd _ _ _ j = iI (updN (aU A) k x j : Nat) ∧ upd _ _ _ j = iI (updN (aV A) k y j : Nat) ∧ _
    by_cases e : j = k
    · subst e
      rw [upd_s, upd_s, updN_s, updN_s]
      exact ⟨rfl, rfl, (h7 j hj).2.2⟩
    · rw [upd_n e, upd_n e, updN_n _ _ e, updN_n _ _ e]
      exact h7 j hj
theorem r_addSong (hK : CampC S c A) (hI : Inv A) {x y t : Nat} (hk : aS A < 20) : ∃ S', f0_addSong S c (iI (x : Int)) (iI (y : Int)) (iI (t : Int)) = some (iI (aS A : Int), S') ∧ FrC S S' c ∧ CampC S' c (layA A x y t) := by
  obtain ⟨⟨L, hp, hP⟩, h1, h2, h3, h4, h5, h6, h7⟩ := hK
  unfold f0_addSong f0_putSong
  rw [h2, nam_r, put_in (by rw [rlen_9]; omega), bnd_s, put_in (by rw [rlen_7]; omega), bnd_s, put_in (by rw [rlen_8]; omega), bnd_s, bnd_s, nam_r]
  refine ⟨_, rfl, (((FrC.sA _ c 9 _ _ (by omega)).tr (FrC.sA _ c 7 _ _ (by omega))).tr (FrC.sA _ c 8 _ _ (by omega))).tr (FrC.sI _ c 2 _ (by omega)), ⟨L, hp, hP.fr (sI_ne _ _ (by omega)) (fun k hk => by rw [sI_2, sA_ne _ _ _ (by omega), sA_ne _ _ _ (by omega), sA_ne _ _ _ (by omega)])⟩, ?_, ?_, ?_, ?_, ?_, fun j hj => ?_, fun j hj => ?_⟩
  · rw [sI_ne _ _ (by omega)]; exact h1
  · rw [sI_eq, q1, iI_add]; rfl
  · rw [sI_ne _ _ (by omega)]; exact h3
  · rw [sI_ne _ _ (by omega)]; exact h4
  · rw [sI_ne _ _ (by omega)]; exact h5
  · rw [sI_2, sA_ne _ _ _ (by omega), sA_ne _ _ _ (by omega), sA_ne _ _ _ (by omega), sA_ne _ _ _ (by omega), sA_ne _ _ _ (by omega), sA_ne _ _ _ (by omega), sA_ne _ _ _ (by omega), sA_ne _ _ _ (by omega), sA_ne _ _ _ (by omega)]
    exact h6 j hj
  · have hj2 : j < aS A + 1 := hj
    rw [sI_2]
    rw [sA_ne _ _ _ (show 10 * c + 7 ≠ 10 * c + 8 by omega), sA_eq, sA_ne _ _ _ (show 10 * c + 7 ≠ 10 * c + 9 by omega), sA_eq, sA_ne _ _ _ (show 10 * c + 8 ≠ 10 * c + 7 by omega), sA_ne _ _ _ (show 10 * c + 8 ≠ 10 * c + 9 by omega), sA_ne _ _ _ (show 10 * c + 9 ≠ 10 * c + 8 by omega), sA_ne _ _ _ (show 10 * c + 9 ≠ 10 * c + 7 by omega), sA_eq]
    show upd _ _ _ j = iI (updN (aU A) (aS A) x j : Nat) ∧ upd _ _ _ j = iI (updN (aV A) (aS A) y j : Nat) ∧ upd _ _ _ j = iI (updN (aT A) (aS A) t j : Nat)
    by_cases e : j = aS A
    · subst e
      rw [upd_s, upd_s, upd_s, updN_s, updN_s, updN_s]
      exact ⟨rfl, rfl, rfl⟩
    · rw [upd_n e, upd_n e, upd_n e, updN_n _ _ e, updN_n _ _ e, updN_n _ _ e]
      exact h7 j (by omega)
end CT
