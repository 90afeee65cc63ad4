/-! STAGE B, 6: what the class writes into the plots -/
theorem put_in {S : St} {r i : Nat} {v : Int32} (h : i < rlen r) : f4_put S r (iI (i : Int)) v = some (sA S r i v) := by
  have h2 := rlen_le r
  unfold f4_put f4_put_b20
  rw [iI_ofNat, q0, if_neg (by rw [iI_lt (by omega) (by omega) (by omega) (by omega)]; omega), if_neg (by rw [iI_le (by omega) (by omega) (by omega) (by omega)]; omega), sto_i h (by omega), nam_r, iI_cl (by omega)]
/-- nothing but the plots of camp c differs -/
def FrP (S S' : St) (c : Nat) : Prop := (∀ i, i ≠ 6 * c + 0 → S'.1 i = S.1 i) ∧ ∀ r, (r < 10 * c ∨ 10 * c + 4 ≤ r) → S'.2 r = S.2 r
theorem FrP.rf (S : St) (c : Nat) : FrP S S c := ⟨fun _ _ => rfl, fun _ _ => rfl⟩
theorem FrP.tr {S S' S'' : St} {c : Nat} (h1 : FrP S S' c) (h2 : FrP S' S'' c) : FrP S S'' c := ⟨fun i hi => (h2.1 i hi).trans (h1.1 i hi), fun r hr => (h2.2 r hr).trans (h1.2 r hr)⟩
theorem FrP.sI (S : St) (c : Nat) (v : Int32) : FrP S (sI S (6 * c + 0) v) c := ⟨fun i hi => sI_ne S v hi, fun _ _ => rfl⟩
def prt (x y d w : Nat) : Pl := (x / wid d * wid d, y / hei d * hei d, d, w)
theorem r_put {S : St} {c i x y d : Nat} {o : Int32} (hi : i < 181) (hx : x < 64) (hy : y < 64) (hd : d ≤ 12) : ∃ S', f3_put S c (iI (i : Int)) (iI (x : Int)) (iI (y : Int)) (iI (d : Int)) o = some S' ∧ FrP S S' c ∧ S'.1 = S.1 ∧
    S'.2 (10 * c + 0) = upd (S.2 (10 * c + 0)) i (iI ((x / wid d * wid d : Nat) : Int)) ∧ S'.2 (10 * c + 1) = upd (S.2 (10 * c + 1)) i (iI ((y / hei d * hei d : Nat) : Int)) ∧ S'.2 (10 * c + 2) = upd (S.2 (10 * c + 2)) i (iI (d : Int)) ∧ S'.2 (10 * c + 3) = upd (S.2 (10 * c + 3)) i o := by
  unfold f3_put
  rw [partX_t d (by omega) x hx, bnd_s, put_in (by rw [rlen_0]; exact hi), bnd_s, partY_t d (by omega) y hy, bnd_s, put_in (by rw [rlen_1]; exact hi), bnd_s, put_in (by rw [rlen_2]; exact hi), bnd_s, put_in (by rw [rlen_3]; exact hi), bnd_s]
  refine ⟨_, rfl, ⟨fun _ _ => rfl, fun r hr => ?_⟩, rfl, ?_, ?_, ?_, ?_⟩
  · rw [sA_ne _ _ _ (by omega), sA_ne _ _ _ (by omega), sA_ne _ _ _ (by omega), sA_ne _ _ _ (by omega)]
  · rw [sA_ne _ _ _ (by omega), sA_ne _ _ _ (by omega), sA_ne _ _ _ (by omega), sA_eq]
  · rw [sA_ne _ _ _ (by omega), sA_ne _ _ _ (by omega), sA_eq, sA_ne _ _ _ (by omega)]
  · rw [sA_ne _ _ _ (by omega), sA_eq, sA_ne _ _ _ (by omega), sA_ne _ _ _ (by omega)]
  · rw [sA_eq, sA_ne _ _ _ (by omega), sA_ne _ _ _ (by omega), sA_ne _ _ _ (by omega)]
theorem sA4 (S : St) (c i : Nat) (a b d o : Int32) : FrP S (sA (sA (sA (sA S (10 * c + 0) i a) (10 * c + 1) i b) (10 * c + 2) i d) (10 * c + 3) i o) c ∧ (sA (sA (sA (sA S (10 * c + 0) i a) (10 * c + 1) i b) (10 * c + 2) i d) (10 * c + 3) i o).1 = S.1 ∧
    (sA (sA (sA (sA S (10 * c + 0) i a) (10 * c + 1) i b) (10 * c + 2) i d) (10 * c + 3) i o).2 (10 * c + 0) = upd (S.2 (10 * c + 0)) i a ∧ (sA (sA (sA (sA S (10 * c + 0) i a) (10 * c + 1) i b) (10 * c + 2) i d) (10 * c + 3) i o).2 (10 * c + 1) = upd (S.2 (10 * c + 1)) i b ∧
    (sA (sA (sA (sA S (10 * c + 0) i a) (10 * c + 1) i b) (10 * c + 2) i d) (10 * c + 3) i o).2 (10 * c + 2) = upd (S.2 (10 * c + 2)) i d ∧ (sA (sA (sA (sA S (10 * c + 0) i a) (10 * c + 1) i b) (10 * c + 2) i d) (10 * c + 3) i o).2 (10 * c + 3) = upd (S.2 (10 * c + 3)) i o := by
  refine ⟨⟨fun _ _ => rfl, fun r hr => ?_⟩, rfl, ?_, ?_, ?_, ?_⟩
  · rw [sA_ne _ _ _ (by omega), sA_ne _ _ _ (by omega), sA_ne _ _ _ (by omega), sA_ne _ _ _ (by omega)]
  · rw [sA_ne _ _ _ (by omega), sA_ne _ _ _ (by omega), sA_ne _ _ _ (by omega), sA_eq]
  · rw [sA_ne _ _ _ (by omega), sA_ne _ _ _ (by omega), sA_eq, sA_ne _ _ _ (by omega)]
  · rw [sA_ne _ _ _ (by omega), sA_eq, sA_ne _ _ _ (by omega), sA_ne _ _ _ (by omega)]
  · rw [sA_eq, sA_ne _ _ _ (by omega), sA_ne _ _ _ (by omega), sA_ne _ _ _ (by omega)]
theorem own_I (w : Nat) : iI ((w : Int) - 1) = iI ((w : Int) - 1) := rfl
section M1
variable {S : St} {c : Nat} {L : List Pl}
/-- a plot written over another -/
theorem r_putSet (hP : PlC S c L) (hl : L.length ≤ 181) {i x y d w : Nat} (hi : i < L.length) (hx : x < 64) (hy : y < 64) (hd : d ≤ 12) : ∃ S', f3_put S c (iI (i : Int)) (iI (x : Int)) (iI (y : Int)) (iI (d : Int)) (iI ((w : Int) - 1)) = some S' ∧ FrP S S' c ∧ PlC S' c (L.set i (prt x y d w)) := by
  obtain ⟨S', h1, h2, h3, h4, h5, h6, h7⟩ := r_put (S := S) (c := c) (o := iI ((w : Int) - 1)) (show i < 181 by omega) hx hy hd
  refine ⟨S', h1, h2, by rw [h3, List.length_set]; exact hP.1, fun j p hj => ?_⟩
  rw [List.getElem?_set] at hj
  by_cases e : i = j
  · subst e
    rw [if_pos rfl, if_pos hi] at hj
    cases hj
    rw [h4, h5, h6, h7, upd_s, upd_s, upd_s, upd_s]
    exact ⟨rfl, rfl, rfl, rfl⟩
  · rw [if_neg e] at hj
    rw [h4, h5, h6, h7, upd_n (fun q => e q.symm), upd_n (fun q => e q.symm), upd_n (fun q => e q.symm), upd_n (fun q => e q.symm)]
    exact hP.2 j p hj
theorem r_add (hP : PlC S c L) (hl : L.length < 181) {x y d w : Nat} (hx : x < 64) (hy : y < 64) (hd : d ≤ 12) : ∃ S', f3_add S c (iI (x : Int)) (iI (y : Int)) (iI (d : Int)) (iI ((w : Int) - 1)) = some S' ∧ FrP S S' c ∧ PlC S' c (L ++ [prt x y d w]) := by
  obtain ⟨S', h1, h2, h3, h4, h5, h6, h7⟩ := r_put (S := S) (c := c) (o := iI ((w : Int) - 1)) hl hx hy hd
  unfold f3_add f3_add_b33
  rw [hP.1, q181, if_neg (by rw [iI_le (by omega) (by omega) (by omega) (by omega)]; omega), h1, bnd_s, nam_r, h3, hP.1, q1, iI_s]
  refine ⟨_, rfl, h2.tr (FrP.sI _ _ _), ?_, fun j p hj => ?_⟩
  · rw [sI_eq, List.length_append]; rfl
  · rw [sI_2, h4, h5, h6, h7]
    by_cases e : j = L.length
    · subst e
      rw [List.getElem?_append_right (Nat.le_refl _), Nat.sub_self] at hj
      cases hj
      rw [upd_s, upd_s, upd_s, upd_s]
      exact ⟨rfl, rfl, rfl, rfl⟩
    · have hj2 : L[j]? = some p := by
        by_cases hlt : j < L.length
        · rw [List.getElem?_append_left hlt] at hj; exact hj
        · rw [List.getElem?_append_right (by omega)] at hj
          have := (List.getElem?_eq_some_iff.mp hj).1
          simp at this
          omega
      rw [upd_n e, upd_n e, upd_n e, upd_n e]
      exact hP.2 j p hj2
theorem r_giveTo (hP : PlC S c L) (hl : L.length ≤ 181) {i w : Nat} {p : Pl} (hp : L[i]? = some p) : ∃ S', f3_giveTo S c (iI (i : Int)) (iI ((w : Int) - 1)) = some S' ∧ FrP S S' c ∧ PlC S' c (L.set i (pX p, pY p, pD p, w)) := by
  have hi := (List.getElem?_eq_some_iff.mp hp).1
  unfold f3_giveTo
  rw [put_in (by rw [rlen_3]; omega), bnd_s]
  refine ⟨_, rfl, ⟨fun _ _ => rfl, fun r hr => sA_ne _ _ _ (by omega)⟩, by rw [sA_1, List.length_set]; exact hP.1, fun j q hj => ?_⟩
  rw [sA_ne _ _ _ (show 10 * c + 0 ≠ 10 * c + 3 by omega), sA_ne _ _ _ (show 10 * c + 1 ≠ 10 * c + 3 by omega), sA_ne _ _ _ (show 10 * c + 2 ≠ 10 * c + 3 by omega), sA_eq]
  rw [List.getElem?_set] at hj
  by_cases e : i = j
  · subst e
    rw [if_pos rfl, if_pos hi] at hj
    cases hj
    have := hP.2 i p hp
    rw [upd_s]
    exact ⟨this.1, this.2.1, this.2.2.1, rfl⟩
  · rw [if_neg e] at hj
    rw [upd_n (fun q => e q.symm)]
    exact hP.2 j q hj
theorem prt_self {p : Pl} (h : OkP p) : prt (pX p) (pY p) (pD p) (pW p) = p := by
  obtain ⟨h1, h2, h3, h4, h5, h6⟩ := h
  have e1 : pX p / wid (pD p) * wid (pD p) = pX p := Nat.div_mul_cancel (Nat.dvd_of_mod_eq_zero h4)
  have e2 : pY p / hei (pD p) * hei (pD p) = pY p := Nat.div_mul_cancel (Nat.dvd_of_mod_eq_zero h5)
  unfold prt
  rw [e1, e2]
theorem r_remove (hP : PlC S c L) (hW : Wf L) {i : Nat} (hi : i < L.length) {z : Pl} (hz : L[L.length - 1]? = some z) : ∃ S', f3_remove S c (iI (i : Int)) = some S' ∧ FrP S S' c ∧ PlC S' c ((L.set i z).take (L.length - 1)) := by
  have hlen := hW.1
  obtain ⟨z0, z1, z2, z3⟩ := hP.2 _ z hz
  unfold f3_remove
  rw [hP.1, q1, iI_sub, nam_r, show ((L.length : Int) - 1) = ((L.length - 1 : Nat) : Int) by omega]
  rw [at_in (by rw [rlen_0]; omega), bnd_s, z0, put_in (by rw [rlen_0]; omega), bnd_s]
  rw [at_in (by rw [rlen_1]; omega), bnd_s, sA_ne _ _ _ (by omega), z1, put_in (by rw [rlen_1]; omega), bnd_s]
  rw [at_in (by rw [rlen_2]; omega), bnd_s, sA_ne _ _ _ (by omega), sA_ne _ _ _ (by omega), z2, put_in (by rw [rlen_2]; omega), bnd_s]
  rw [at_in (by rw [rlen_3]; omega), bnd_s, sA_ne _ _ _ (by omega), sA_ne _ _ _ (by omega), sA_ne _ _ _ (by omega), z3, put_in (by rw [rlen_3]; omega), bnd_s, nam_r]
  obtain ⟨h2, h3, h4, h5, h6, h7⟩ := sA4 S c i (iI (pX z : Int)) (iI (pY z : Int)) (iI (pD z : Int)) (iI ((pW z : Int) - 1))
  refine ⟨_, rfl, h2.tr (FrP.sI _ _ _), ?_, fun j p hj => ?_⟩
  · rw [sI_eq, List.length_take, List.length_set]
    congr 2
    omega
  · rw [sI_2]
    rw [List.getElem?_take] at hj
    split at hj
    · rw [List.getElem?_set] at hj
      rw [h4, h5, h6, h7]
      by_cases e : i = j
      · subst e
        rw [if_pos rfl, if_pos hi] at hj
        cases hj
        rw [upd_s, upd_s, upd_s, upd_s]
        exact ⟨rfl, rfl, rfl, rfl⟩
      · rw [if_neg e] at hj
        rw [upd_n (fun q => e q.symm), upd_n (fun q => e q.symm), upd_n (fun q => e q.symm), upd_n (fun q => e q.symm)]
        exact hP.2 j p hj
    · cases hj
theorem r_joinAll (S : St) (c : Nat) : ∃ S', f3_joinAll S c = some S' ∧ FrP S S' c ∧ PlC S' c [(0, 0, 0, 0)] := by
  obtain ⟨S', h1, h2, h3, h4, h5, h6, h7⟩ := r_put (S := S) (c := c) (o := iI (-1)) (show 0 < 181 by omega) (show 0 < 64 by omega) (show 0 < 64 by omega) (show 0 ≤ 12 by omega)
  unfold f3_joinAll
  rw [show f3_put S c 0 0 0 0 (-1) = some S' from h1, bnd_s, nam_r]
  refine ⟨_, rfl, h2.tr (FrP.sI _ _ _), by rw [sI_eq]; rfl, fun j p hj => ?_⟩
  have := (List.getElem?_eq_some_iff.mp hj).1
  have e : j = 0 := by simp at this; exact this
  subst e
  cases hj
  rw [sI_2, h4, h5, h6, h7, upd_s, upd_s, upd_s, upd_s]
  exact ⟨rfl, rfl, rfl, rfl⟩
end M1
/-! lists up to order -/
theorem set_perm {α : Type} {L : List α} {i : Nat} {p : α} (hp : L[i]? = some p) (a : α) : ∃ K, L.Perm (p :: K) ∧ (L.set i a).Perm (a :: K) := by
  induction L generalizing i with
  | nil => simp at hp
  | cons x L ih =>
    cases i with
    | zero => rw [List.getElem?_cons_zero] at hp; cases hp; exact ⟨L, List.Perm.refl _, List.Perm.refl _⟩
    | succ i =>
      rw [List.getElem?_cons_succ] at hp
      obtain ⟨K, h1, h2⟩ := ih hp
      exact ⟨x :: K, (h1.cons x).trans (List.Perm.swap p x K), by rw [List.set_cons_succ]; exact (h2.cons x).trans (List.Perm.swap a x K)⟩
theorem remove_perm {α : Type} {L : List α} {i : Nat} {p z : α} (hp : L[i]? = some p) (hz : L[L.length - 1]? = some z) : L.Perm (p :: ((L.set i z).take (L.length - 1))) := by
  have hi := (List.getElem?_eq_some_iff.mp hp).1
  have hne : L ≠ [] := by intro e; rw [e] at hi; simp at hi
  obtain ⟨A, e⟩ : ∃ A, L = A ++ [z] := by
    refine ⟨L.dropLast, ?_⟩
    have h1 : L.getLast hne = z := by
      rw [List.getLast_eq_getElem]
      exact (List.getElem?_eq_some_iff.mp hz).2
    rw [← h1]
    exact (List.dropLast_concat_getLast hne).symm
  subst e
  rw [List.length_append, List.length_singleton, Nat.add_sub_cancel]
  by_cases h : i < A.length
  · rw [List.getElem?_append_left h] at hp
    obtain ⟨K, h1, h2⟩ := set_perm hp z
    rw [List.set_append_left _ _ h, List.take_left' (by simp)]
    exact (List.perm_append_singleton z A).trans ((h1.cons z).trans ((List.Perm.swap p z K).trans (h2.symm.cons p)))
  · have h3 : i = A.length := by simp at hi; omega
    subst h3
    rw [List.getElem?_append_right (Nat.le_refl _), Nat.sub_self] at hp
    cases hp
    rw [List.set_append_right _ _ (Nat.le_refl _), List.take_left' rfl]
    exact List.perm_append_singleton _ _
