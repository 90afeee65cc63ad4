/-! STAGE B, 39: comes -/
section R10
variable {M : St} {A : Ab} {g : Nat} {L : List Pl} {i j : Nat} {p q : Pl}
theorem m_whose (hP : PlV (M.2 0) L) (hl : L.length ≤ 181) (hi : L[i]? = some p) (w : Nat) : PlV ((sA M 0 (54 + 4 * i + 3) (iI (w : Int))).2 0) (L.set i (pX p, pY p, pD p, w)) := by
  have hlt := (List.getElem?_eq_some_iff.mp hi).1
  rw [sA_eq]
  refine ⟨by rw [upd_n (by omega), List.length_set]; exact hP.1, fun j q hj => ?_⟩
  rw [List.getElem?_set] at hj
  by_cases e : i = j
  · subst e
    rw [if_pos rfl, if_pos hlt] at hj
    cases hj
    have := hP.2 i p hi
    rw [upd_n (by omega), upd_n (by omega), upd_n (by omega), upd_s]
    exact ⟨this.1, this.2.1, this.2.2.1, rfl⟩
  · rw [if_neg e] at hj
    rw [upd_n (by omega), upd_n (by omega), upd_n (by omega), upd_n (by omega)]
    exact hP.2 j q hj
theorem VmV.cell {v : Nat → Int32} {A : Ab} (h : VmV v A) (h16 : aN A ≤ 16) {i : Nat} (hi : i < 181) {k : Nat} (hk : k < 4) (z : Int32) : VmV (upd v (54 + 4 * i + k) z) A :=
  h.fr h16 (fun j hj _ => upd_n (by omega)) (fun j hj => upd_n (by omega))
/-- the plots after n halvings on the way down to (x, y) -/
def dwn (A : Ab) (x y n wn : Nat) : List Pl := prt x y (pD (plAt (aL A) x y) + n) wn :: (hlv x y (pD (plAt (aL A) x y)) (pW (plAt (aL A) x y)) n ++ (aL A).erase (plAt (aL A) x y))
theorem dwn_ok (hI : Inv A) {x y n wn : Nat} (hx : x < 64) (hy : y < 64) (hwn : wn ≤ 16) (hn : pD (plAt (aL A) x y) + n ≤ 12) : Til (dwn A x y n wn) ∧ (∀ q ∈ dwn A x y n wn, OkP q) ∧ (dwn A x y n wn).length = (aL A).length + n := by
  have hm := plAt_in hI.til hx hy
  have hOp := hI.2.1 _ hm.1
  have hOb := hOp.b
  refine ⟨til_come hI.til hm.1 hOp hx hy (by omega) hwn hn hm.2, fun q hq => ?_, ?_⟩
  · unfold dwn at hq
    rw [List.mem_cons, List.mem_append] at hq
    rcases hq with h1 | h1 | h1
    · rw [h1]; exact prt_ok hx hy hn hwn
    · exact (hlv_mem hx hy (by omega) hn h1).1
    · exact hI.2.1 q (List.mem_of_mem_erase h1)
  · unfold dwn
    have := List.length_pos_of_mem hm.1
    rw [List.length_cons, List.length_append, hlv_len, List.length_erase_of_mem hm.1]
    omega
theorem dwn_step {x y n : Nat} {L : List Pl} {j : Nat} (hx : x < 64) (hy : y < 64) (hn : pD (plAt (aL A) x y) + n < 12) (hL : L.Perm (dwn A x y n (pW (plAt (aL A) x y)))) (hj : L[j]? = some (prt x y (pD (plAt (aL A) x y) + n) (pW (plAt (aL A) x y)))) :
    (L.set j (loH (prt x y (pD (plAt (aL A) x y) + n) (pW (plAt (aL A) x y)))) ++ [hiH (prt x y (pD (plAt (aL A) x y) + n) (pW (plAt (aL A) x y)))]).Perm (dwn A x y (n + 1) (pW (plAt (aL A) x y))) := by
  obtain ⟨K2, k1, k2⟩ := set_perm hj (loH (prt x y (pD (plAt (aL A) x y) + n) (pW (plAt (aL A) x y))))
  have e1 : K2.Perm (hlv x y (pD (plAt (aL A) x y)) (pW (plAt (aL A) x y)) n ++ (aL A).erase (plAt (aL A) x y)) := List.Perm.cons_inv (k1.symm.trans hL)
  refine (k2.append_right _).trans ?_
  refine (List.perm_append_comm).trans ?_
  show (hiH _ :: loH _ :: K2).Perm _
  refine (List.Perm.swap _ _ _).trans ?_
  refine (halves_part hn hx hy K2).trans ?_
  unfold dwn
  rw [hlv, show pD (plAt (aL A) x y) + (n + 1) = pD (plAt (aL A) x y) + n + 1 by omega]
  refine List.Perm.cons _ ?_
  refine (e1.cons _).trans ?_
  rw [List.append_assoc]
  exact List.perm_middle.symm
theorem m_comesLoop (hI : Inv A) {x y t : Nat} (hx : x < 64) (hy : y < 64) (h16 : aN A < 16) (hC : Cm A x y t) : ∀ (m n : Nat) (M : St) (L : List Pl) (j N : Nat), n + m = t → m < N → PlV (M.2 0) L → L.Perm (dwn A x y n (pW (plAt (aL A) x y))) → L[j]? = some (prt x y (pD (plAt (aL A) x y) + n) (pW (plAt (aL A) x y))) → VmV (M.2 0) (comeA A x y n) →
    ∃ M', f6_comes_b69 (iI (x : Int)) (iI (y : Int)) (iI (aN A : Int)) (iI ((pW (plAt (aL A) x y) : Int) - 1)) N M (iI (j : Int)) (if m = 0 then 0 else 1) = some (iI (aN A : Int), M') ∧ FrM M M' ∧ VecV (M'.2 0) (comeA A x y t) := by
  have hm := plAt_in hI.til hx hy
  have hOp := hI.2.1 _ hm.1
  have hOb := hOp.b
  have hle := hC.le hI hx hy
  have hlen := hC.len hI hx hy h16
  intro m
  induction m with
  | zero =>
    intro n M L j N hn hN hP hL hj hV
    obtain ⟨N, rfl⟩ : ∃ N', N = N' + 1 := ⟨N - 1, by omega⟩
    have e : n = t := by omega
    subst e
    have ho := dwn_ok hI hx hy (wn := pW (plAt (aL A) x y)) (by omega) hle
    have hll : L.length ≤ 181 := by rw [hL.length_eq, ho.2.2]; omega
    have hjl := (List.getElem?_eq_some_iff.mp hj).1
    rw [f6_comes_b69, if_pos rfl, if_pos rfl, w_cell M (i := 54 + 4 * j + 3) (cell_p3 j) (by omega)]
    have ew : (iI (aN A : Int) + 1 : Int32) = iI ((aN A + 1 : Nat) : Int) := by rw [q1, iI_s]
    rw [ew]
    refine ⟨_, rfl, FrM.sA _ _ _, ⟨_, ?_, m_whose hP hll hj (aN A + 1)⟩, ?_⟩
    · obtain ⟨K2, k1, k2⟩ := set_perm hj (prt x y (pD (plAt (aL A) x y) + n) (aN A + 1))
      exact k2.trans (List.Perm.cons _ (List.Perm.cons_inv (k1.symm.trans hL)))
    · rw [sA_eq]
      exact hV.cell (by show aN A + 1 ≤ 16; omega) (by omega) (by omega) _
  | succ m ih =>
    intro n M L j N hn hN hP hL hj hV
    obtain ⟨N, rfl⟩ : ∃ N', N = N' + 1 := ⟨N - 1, by omega⟩
    rcases hC with ⟨-, h⟩ | ⟨h0, hNw⟩
    · omega
    have hh := hI.here hm.1 h0
    have hxy := hI.xy hh.1
    have ho := dwn_ok hI hx hy (n := n) (wn := pW (plAt (aL A) x y)) (by omega) (by omega)
    have hW : Wf L := ⟨by rw [hL.length_eq, ho.2.2]; omega, fun q hq => ho.2.1 q (hL.mem_iff.mp hq)⟩
    obtain ⟨M2, g1, g2, g3, g4, g5, g6⟩ := m_halves hP hW (by rw [hL.length_eq, ho.2.2]; omega) hj (show pD (plAt (aL A) x y) + n < 12 by omega)
    have hL2 := dwn_step hx hy (show pD (plAt (aL A) x y) + n < 12 by omega) hL hj
    have ho2 := dwn_ok hI hx hy (n := n + 1) (wn := pW (plAt (aL A) x y)) (by omega) (by omega)
    have hT2 := ho2.1.perm hL2
    have hW2 : Wf (L.set j (loH (prt x y (pD (plAt (aL A) x y) + n) (pW (plAt (aL A) x y)))) ++ [hiH (prt x y (pD (plAt (aL A) x y) + n) (pW (plAt (aL A) x y)))]) := ⟨by rw [hL2.length_eq, ho2.2.2]; omega, fun q hq => ho2.2.1 q (hL2.mem_iff.mp hq)⟩
    obtain ⟨j2, q2, m1, m2, m3⟩ := m_plotAt g3 hW2 hT2 hx hy
    have hin : inP (prt x y (pD (plAt (aL A) x y) + (n + 1)) (pW (plAt (aL A) x y))) x y = true := by rw [prt_in _ _ _ _ _ _ (by omega) hx hy (by omega)]; exact smP_rf _ _ _
    have e2 : q2 = prt x y (pD (plAt (aL A) x y) + (n + 1)) (pW (plAt (aL A) x y)) := cnt_one (hT2 x y hx hy) (List.mem_of_getElem? m1) m2 (hL2.mem_iff.mpr List.mem_cons_self) hin
    subst e2
    have hV2 : VmV (M2.2 0) (comeA A x y (n + 1)) := by
      obtain ⟨v1, v2, v3, v4, v5, v6, v7, v8⟩ := hV
      refine ⟨by rw [g5 _ (by omega) (by omega) (by omega)]; exact v1, by rw [g5 _ (by omega) (by omega) (by omega)]; exact v2, ?_, by rw [g5 _ (by omega) (by omega) (by omega)]; exact v4, by rw [g5 _ (by omega) (by omega) (by omega)]; exact v5, fun k hk => ?_, fun k hk hk2 => ?_, fun k hk => ?_⟩
      · rw [g4, v3]
        show aC1 A + iI (n : Int) + 1 = aC1 A + iI ((n + 1 : Nat) : Int)
        rw [Int32.add_assoc, q1, iI_s]
      · have hk2 : k < aN A + 1 := hk
        rw [g5 _ (by omega) (by omega) (by omega), g5 _ (by omega) (by omega) (by omega), g5 _ (by omega) (by omega) (by omega)]
        exact v6 k hk
      · rw [g5 _ (by omega) (by omega) (by omega)]; exact v7 k hk hk2
      · rw [g6 _ (by omega), g6 _ (by omega), g6 _ (by omega)]; exact v8 k hk
    have hN16 : aN (comeA A x y (n + 1)) ≤ 16 := by show aN A + 1 ≤ 16; omega
    have hkw : pW (plAt (aL A) x y) - 1 < aN (comeA A x y (n + 1)) := by show _ < aN A + 1; have := hh.1; omega
    have tx := m_tx hV2 hN16 hkw
    have ty := m_ty hV2 hN16 hkw
    have ex : aX (comeA A x y (n + 1)) (pW (plAt (aL A) x y) - 1) = aX A (pW (plAt (aL A) x y) - 1) := updN_n _ _ (by have := hh.1; omega)
    have ey : aY (comeA A x y (n + 1)) (pW (plAt (aL A) x y) - 1) = aY A (pW (plAt (aL A) x y) - 1) := updN_n _ _ (by have := hh.1; omega)
    rw [ex] at tx
    rw [ey] at ty
    rw [show ((pW (plAt (aL A) x y) - 1 : Nat) : Int) = (pW (plAt (aL A) x y) : Int) - 1 by omega] at tx ty
    rw [f6_comes_b69, if_neg (by rw [if_neg (by omega)]; decide), g1, bnd_s, m3, bnd_s, tx, bnd_s, ty, bnd_s, m_has g3 hW2 m1 hxy.2.1 hxy.2.2, bnd_s, prt_in _ _ _ _ _ _ (by omega) hx hy (by omega)]
    have hsm : b2i (smP (aX A (pW (plAt (aL A) x y) - 1)) (aY A (pW (plAt (aL A) x y) - 1)) x y (pD (plAt (aL A) x y) + (n + 1))) = if m = 0 then 0 else 1 := by
      by_cases e : m = 0
      · rw [if_pos e, show n + 1 = t by omega, hNw.2.2.1]; rfl
      · rw [if_neg e, hNw.2.2.2 (n + 1) (by omega) (by omega)]; rfl
    rw [hsm]
    obtain ⟨M', k1, k2, k3⟩ := ih (n + 1) M2 _ j2 N (by omega) (by omega) g3 hL2 m1 hV2
    exact ⟨M', k1, g2.tr k2, k3⟩
end R10
