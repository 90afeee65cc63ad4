/-! STAGE B, 7: put together, halved -/
theorem Wf.perm {L L' : List Pl} (h : Wf L) (hp : L'.Perm L) : Wf L' := ⟨by rw [hp.length_eq]; exact h.1, fun p hm => h.2 p (hp.mem_iff.mp hm)⟩
/-- what a plot and its other half come from -/
def par1 (q : Pl) (w : Nat) : Pl := prt (pX q) (pY q) (pD q - 1) w
theorem prt_ok {x y d w : Nat} (hx : x < 64) (hy : y < 64) (hd : d ≤ 12) (hw : w ≤ 16) : OkP (prt x y d w) := by
  have h1 : x / wid d * wid d ≤ x := Nat.div_mul_le_self _ _
  have h2 : y / hei d * hei d ≤ y := Nat.div_mul_le_self _ _
  exact ⟨hd, by show x / wid d * wid d < 64; omega, by show y / hei d * hei d < 64; omega, Nat.mul_mod_left _ _, Nat.mul_mod_left _ _, hw⟩
section M2
variable {S : St} {c : Nat} {L : List Pl}
theorem r_join (hP : PlC S c L) (hW : Wf L) {i j w : Nat} {p q : Pl} (hp : L[i]? = some p) (hq : L[j]? = some q) (hij : i ≠ j) (hd : 0 < pD q) (hw : w ≤ 16) {K : List Pl} (hK : L.Perm (p :: q :: K)) : ∃ S' L', f3_join S c (iI (i : Int)) (iI (j : Int)) (iI ((w : Int) - 1)) = some S' ∧ FrP S S' c ∧ PlC S' c L' ∧ L'.Perm (par1 q w :: K) := by
  have hlen := hW.1
  have hO := (hW.at hq).b
  have hi := (List.getElem?_eq_some_iff.mp hp).1
  have hj := (List.getElem?_eq_some_iff.mp hq).1
  unfold f3_join
  rw [at_x hP hW hq, bnd_s, at_y hP hW hq, bnd_s, at_d hP hW hq, bnd_s, q1, iI_sub, show ((pD q : Int) - 1) = ((pD q - 1 : Nat) : Int) by omega]
  obtain ⟨S1, h1, h2, h3⟩ := r_putSet hP hlen (w := w) hj (by omega : pX q < 64) (by omega : pY q < 64) (by omega : pD q - 1 ≤ 12)
  rw [h1, bnd_s]
  have hL1 : (L.set j (par1 q w)).length = L.length := List.length_set
  have hW1 : Wf (L.set j (par1 q w)) := by
    refine ⟨by rw [hL1]; exact hlen, fun r hr => ?_⟩
    rcases List.mem_or_eq_of_mem_set hr with h | h
    · exact hW.2 r h
    · rw [h]; exact prt_ok (by omega) (by omega) (by omega) hw
  have hp1 : (L.set j (par1 q w))[i]? = some p := by rw [List.getElem?_set_ne (fun e => hij e.symm)]; exact hp
  obtain ⟨z, hz⟩ : ∃ z, (L.set j (par1 q w))[(L.set j (par1 q w)).length - 1]? = some z := ⟨_, List.getElem?_eq_getElem (by rw [hL1]; omega)⟩
  obtain ⟨S2, g1, g2, g3⟩ := r_remove (L := L.set j (par1 q w)) h3 hW1 (by rw [hL1]; exact hi) hz
  rw [g1, bnd_s]
  refine ⟨S2, _, rfl, h2.tr g2, g3, ?_⟩
  have e1 := remove_perm hp1 hz
  obtain ⟨K2, k1, k2⟩ := set_perm hq (par1 q w)
  -- p :: rest ~ L.set j par ~ par :: K2, q :: K2 ~ L ~ p :: q :: K
  have e2 : (q :: K2).Perm (q :: p :: K) := k1.symm.trans (hK.trans (List.Perm.swap q p K))
  have e3 : K2.Perm (p :: K) := List.Perm.cons_inv e2
  have e4 : (p :: _).Perm (p :: par1 q w :: K) := e1.symm.trans (k2.trans ((e3.cons _).trans (List.Perm.swap p (par1 q w) K)))
  exact List.Perm.cons_inv e4
/-- the other halves on the way down to (x, y), below depth d -/
def hlv (x y d w : Nat) : Nat → List Pl
  | 0 => []
  | n + 1 => hlv x y d w n ++ [prt (sibX (d + n + 1) (x / wid (d + n + 1) * wid (d + n + 1))) (sibY (d + n + 1) (y / hei (d + n + 1) * hei (d + n + 1))) (d + n + 1) w]
theorem hlv_len (x y d w n : Nat) : (hlv x y d w n).length = n := by
  induction n with
  | zero => rfl
  | succ n ih => rw [hlv, List.length_append, ih]; rfl
theorem sib_part {d x y : Nat} (hd : d < 13) (h0 : 0 < d) (hx : x < 64) (hy : y < 64) : sibX d (x / wid d * wid d) < 64 ∧ sibY d (y / hei d * hei d) < 64 := by
  have h1 : x / wid d * wid d ≤ x := Nat.div_mul_le_self _ _
  have h2 : y / hei d * hei d ≤ y := Nat.div_mul_le_self _ _
  exact ⟨(sibX_t d hd h0 _ (by omega) (Nat.mul_mod_left _ _)).2.1, (sibY_t d hd h0 _ (by omega) (Nat.mul_mod_left _ _)).2.1⟩
theorem r_halveDown (hP : PlC S c L) (hW : Wf L) {i x y t wn : Nat} {p : Pl} (hp : L[i]? = some p) (hx : x < 64) (hy : y < 64) (ht : pD p + t ≤ 12) (hlen : L.length + t ≤ 181) (hwn : wn ≤ 16) : ∃ S', f3_halveDown S c (iI (i : Int)) (iI (x : Int)) (iI (y : Int)) (iI ((pD p + t : Nat) : Int)) (iI ((wn : Int) - 1)) = some S' ∧ FrP S S' c ∧ PlC S' c ((L ++ hlv x y (pD p) (pW p) t).set i (prt x y (pD p + t) wn)) := by
  have hO := (hW.at hp).b
  have hi := (List.getElem?_eq_some_iff.mp hp).1
  unfold f3_halveDown
  rw [at_o hP hW hp, bnd_s, at_d hP hW hp, bnd_s, nam_r, q1, iI_s]
  -- after n levels
  have key : ∀ (m n : Nat) (S1 : St) (N : Nat), n + m = t → PlC S1 c (L ++ hlv x y (pD p) (pW p) n) → FrP S S1 c → m < N → ∃ S', f3_halveDown_b22 c (iI (i : Int)) (iI (x : Int)) (iI (y : Int)) (iI ((pD p + t : Nat) : Int)) (iI ((wn : Int) - 1)) (iI ((pW p : Int) - 1)) N S1 (iI ((pD p + 1 + n : Nat) : Int)) = some S' ∧ FrP S S' c ∧ PlC S' c ((L ++ hlv x y (pD p) (pW p) t).set i (prt x y (pD p + t) wn)) := by
    intro m
    induction m with
    | zero =>
      intro n S1 N hn h1 h2 hN
      obtain ⟨N, rfl⟩ : ∃ N', N = N' + 1 := ⟨N - 1, by omega⟩
      have e : n = t := by omega
      subst e
      rw [f3_halveDown_b22, if_pos (by rw [iI_lt (by omega) (by omega) (by omega) (by omega)]; omega)]
      obtain ⟨S2, g1, g2, g3⟩ := r_putSet h1 (by rw [List.length_append, hlv_len]; omega) (i := i) (w := wn) (by rw [List.length_append]; omega) hx hy ht
      rw [g1, bnd_s]
      exact ⟨S2, rfl, h2.tr g2, g3⟩
    | succ m ih =>
      intro n S1 N hn h1 h2 hN
      obtain ⟨N, rfl⟩ : ∃ N', N = N' + 1 := ⟨N - 1, by omega⟩
      have sp := sib_part (d := pD p + 1 + n) (by omega) (by omega) hx hy
      have l1 : x / wid (pD p + 1 + n) * wid (pD p + 1 + n) ≤ x := Nat.div_mul_le_self _ _
      have l2 : y / hei (pD p + 1 + n) * hei (pD p + 1 + n) ≤ y := Nat.div_mul_le_self _ _
      rw [f3_halveDown_b22, if_neg (by rw [iI_lt (by omega) (by omega) (by omega) (by omega)]; omega), partX_t _ (by omega) x hx, bnd_s, (sibX_t _ (by omega) (by omega) _ (by omega) (Nat.mul_mod_left _ _)).1, bnd_s, partY_t _ (by omega) y hy, bnd_s, (sibY_t _ (by omega) (by omega) _ (by omega) (Nat.mul_mod_left _ _)).1, bnd_s]
      obtain ⟨S2, g1, g2, g3⟩ := r_add h1 (by rw [List.length_append, hlv_len]; omega) (w := pW p) sp.1 sp.2 (show pD p + 1 + n ≤ 12 by omega)
      rw [g1, bnd_s, q1, iI_s]
      refine ih (n + 1) S2 N (by omega) ?_ (h2.tr g2) (by omega)
      rw [hlv, ← List.append_assoc, show pD p + n + 1 = pD p + 1 + n by omega]
      exact g3
  have := key t 0 S fuelN (by omega) (by rw [hlv, List.append_nil]; exact hP) (FrP.rf S c) (fuel_lt (by omega))
  rwa [show pD p + 1 + 0 = pD p + 1 by omega] at this
end M2
