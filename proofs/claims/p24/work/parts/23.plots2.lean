/-! STAGE B, 4: the best plot, halves, marks -/
def sibX (d X : Nat) : Nat := if d % 2 = 1 then (if X / wid d % 2 = 0 then X + wid d else X - wid d) else X
def sibY (d Y : Nat) : Nat := if d % 2 = 0 then (if Y / hei d % 2 = 0 then Y + hei d else Y - hei d) else Y
theorem sibX_t0 : ∀ d, d < 12 → ∀ x, x < 64 → x % wid (d + 1) = 0 → f5_otherHalfX0 (iI ((x : Nat) : Int)) (iI ((d + 1 : Nat) : Int)) = some (iI ((sibX (d + 1) x : Nat) : Int)) := by decide +kernel
theorem sibX_t1 : ∀ d, d < 12 → ∀ x, x < 64 → x % wid (d + 1) = 0 → sibX (d + 1) x < 64 ∧ sibX (d + 1) x % wid (d + 1) = 0 := by decide +kernel
theorem sibX_t (d : Nat) (h : d < 13) (h0 : 0 < d) (x : Nat) (hx : x < 64) (hm : x % wid d = 0) : f5_otherHalfX0 (iI ((x : Nat) : Int)) (iI ((d : Nat) : Int)) = some (iI ((sibX d x : Nat) : Int)) ∧ sibX d x < 64 ∧ sibX d x % wid d = 0 := by
  obtain ⟨e, rfl⟩ : ∃ e, d = e + 1 := ⟨d - 1, by omega⟩
  exact ⟨sibX_t0 e (by omega) x hx hm, sibX_t1 e (by omega) x hx hm⟩
theorem sibY_t0 : ∀ d, d < 12 → ∀ x, x < 64 → x % hei (d + 1) = 0 → f5_otherHalfY0 (iI ((x : Nat) : Int)) (iI ((d + 1 : Nat) : Int)) = some (iI ((sibY (d + 1) x : Nat) : Int)) := by decide +kernel
theorem sibY_t1 : ∀ d, d < 12 → ∀ x, x < 64 → x % hei (d + 1) = 0 → sibY (d + 1) x < 64 ∧ sibY (d + 1) x % hei (d + 1) = 0 := by decide +kernel
theorem sibY_t (d : Nat) (h : d < 13) (h0 : 0 < d) (x : Nat) (hx : x < 64) (hm : x % hei d = 0) : f5_otherHalfY0 (iI ((x : Nat) : Int)) (iI ((d : Nat) : Int)) = some (iI ((sibY d x : Nat) : Int)) ∧ sibY d x < 64 ∧ sibY d x % hei d = 0 := by
  obtain ⟨e, rfl⟩ : ∃ e, d = e + 1 := ⟨d - 1, by omega⟩
  exact ⟨sibY_t0 e (by omega) x hx hm, sibY_t1 e (by omega) x hx hm⟩
theorem partX_t : ∀ d, d < 13 → ∀ x, x < 64 → f5_partX0 (iI ((x : Nat) : Int)) (iI ((d : Nat) : Int)) = some (iI ((x / wid d * wid d : Nat) : Int)) := by decide +kernel
theorem partY_t : ∀ d, d < 13 → ∀ x, x < 64 → f5_partY0 (iI ((x : Nat) : Int)) (iI ((d : Nat) : Int)) = some (iI ((x / hei d * hei d : Nat) : Int)) := by decide +kernel
/-- the plot at the other half's corner, and whether it is that half -/
def isOth (p q : Pl) : Bool := inP q (sibX (pD p) (pX p)) (sibY (pD p) (pY p)) && pD q == pD p
/-- p is given away before q -/
def gvb (p q : Pl) : Bool := decide (pD q < pD p ∨ pD p = pD q ∧ low p q = true)
def nrb (x y : Nat) (p q : Pl) : Bool := decide (dst p x y < dst q x y ∨ dst p x y = dst q x y ∧ low p q = true)
theorem low_iff (p q : Pl) : low p q = true ↔ (pX p < pX q ∨ pX p = pX q ∧ pY p < pY q) := by unfold low; exact decide_eq_true_iff
theorem gvb_iff (p q : Pl) : gvb p q = true ↔ (pD q < pD p ∨ pD p = pD q ∧ (pX p < pX q ∨ pX p = pX q ∧ pY p < pY q)) := by unfold gvb; rw [decide_eq_true_iff, low_iff]
theorem nrb_iff (x y : Nat) (p q : Pl) : nrb x y p q = true ↔ (dst p x y < dst q x y ∨ dst p x y = dst q x y ∧ (pX p < pX q ∨ pX p = pX q ∧ pY p < pY q)) := by unfold nrb; rw [decide_eq_true_iff, low_iff]
theorem gvb_tr {p q r : Pl} (h1 : gvb p q = true) (h2 : gvb q r = true) : gvb p r = true := by rw [gvb_iff] at *; omega
theorem nrb_tr {x y : Nat} {p q r : Pl} (h1 : nrb x y p q = true) (h2 : nrb x y q r = true) : nrb x y p r = true := by rw [nrb_iff] at *; omega
theorem gvb_ir (p : Pl) : gvb p p = false := by rw [Bool.eq_false_iff, Ne, gvb_iff]; omega
theorem nrb_ir (x y : Nat) (p : Pl) : nrb x y p p = false := by rw [Bool.eq_false_iff, Ne, nrb_iff]; omega
/-- the best element of a list so far, under 'better' b, of those with e; acc: its place, or -1 -/
def Best (L : List Pl) (e : Pl → Bool) (b : Pl → Pl → Bool) (n : Nat) (acc : Int32) : Prop :=
  (acc = iI (-1) ∧ ∀ (j : Nat) (q : Pl), j < n → L[j]? = some q → e q = false) ∨ ∃ (k : Nat) (p : Pl), k < n ∧ acc = iI (k : Int) ∧ L[k]? = some p ∧ e p = true ∧ ∀ (j : Nat) (q : Pl), j < n → L[j]? = some q → e q = true → b q p = false
theorem Best.skip {L : List Pl} {e : Pl → Bool} {b : Pl → Pl → Bool} {n : Nat} {acc : Int32} (h : Best L e b n acc) {p : Pl} (hp : L[n]? = some p) (he : e p = false) : Best L e b (n + 1) acc := by
  rcases h with ⟨h1, h2⟩ | ⟨k, r, h1, h2, h3, h4, h5⟩
  · refine Or.inl ⟨h1, fun j q hj hq => ?_⟩
    by_cases e1 : j = n
    · subst e1; rw [hp] at hq; cases hq; exact he
    · exact h2 j q (by omega) hq
  · refine Or.inr ⟨k, r, by omega, h2, h3, h4, fun j q hj hq hq2 => ?_⟩
    by_cases e1 : j = n
    · subst e1; rw [hp] at hq; cases hq; rw [he] at hq2; cases hq2
    · exact h5 j q (by omega) hq hq2
theorem Best.keep {L : List Pl} {e : Pl → Bool} {b : Pl → Pl → Bool} {n k : Nat} {p r : Pl} (h : Best L e b n (iI (k : Int))) (hk : L.length < 1000000) (hr : L[k]? = some r) (hp : L[n]? = some p) (hb : b p r = false) : Best L e b (n + 1) (iI (k : Int)) := by
  have hl0 := (List.getElem?_eq_some_iff.mp hr).1
  rcases h with ⟨h1, h2⟩ | ⟨k2, r2, h1, h2, h3, h4, h5⟩
  · rw [iI_eq (by omega) (by omega) (by omega) (by omega)] at h1; omega
  · refine Or.inr ⟨k2, r2, by omega, h2, h3, h4, fun j q hj hq hq2 => ?_⟩
    have hl := (List.getElem?_eq_some_iff.mp h3).1
    by_cases e1 : j = n
    · subst e1; rw [hp] at hq; cases hq
      have hl2 := (List.getElem?_eq_some_iff.mp hr).1
      have : k = k2 := by
        rw [iI_eq (by omega) (by omega) (by omega) (by omega)] at h2; omega
      subst this
      rw [hr] at h3; cases h3; exact hb
    · exact h5 j q (by omega) hq hq2
theorem Best.take {L : List Pl} {e : Pl → Bool} {b : Pl → Pl → Bool} {n : Nat} {acc : Int32} {p : Pl} (h : Best L e b n acc) (hp : L[n]? = some p) (he : e p = true) (hir : b p p = false) (htr : ∀ {p q r : Pl}, b p q = true → b q r = true → b p r = true)
    (hb : acc = iI (-1) ∨ ∃ (k : Nat) (r : Pl), k < n ∧ acc = iI (k : Int) ∧ L[k]? = some r ∧ b p r = true) (hn : n < 1000000) : Best L e b (n + 1) (iI (n : Int)) := by
  refine Or.inr ⟨n, p, by omega, rfl, hp, he, fun j q hj hq hq2 => ?_⟩
  by_cases e1 : j = n
  · subst e1; rw [hp] at hq; cases hq; exact hir
  · rcases h with ⟨h1, h2⟩ | ⟨k2, r2, h1, h2, h3, h4, h5⟩
    · rw [h2 j q (by omega) hq] at hq2; cases hq2
    · rcases hb with hb | ⟨k, r, g1, g2, g3, g4⟩
      · rw [h2, iI_eq (by omega) (by omega) (by omega) (by omega)] at hb; omega
      · rw [h2, iI_eq (by omega) (by omega) (by omega) (by omega)] at g2
        have : k2 = k := by omega
        subst this
        rw [h3] at g3; cases g3
        have h6 := h5 j q (by omega) hq hq2
        cases h7 : b q p
        · rfl
        · rw [htr h7 g4] at h6; cases h6
section C3
variable {S : St} {c : Nat} {L : List Pl} {i j : Nat} {p q : Pl}
theorem r_isGivenBefore (hP : PlC S c L) (hW : Wf L) (hp : L[i]? = some p) (hq : L[j]? = some q) : f3_isGivenBefore S c (iI (i : Int)) (iI (j : Int)) = some (b2i (gvb p q)) := by
  have hO := (hW.at hp).b
  have hO2 := (hW.at hq).b
  unfold f3_isGivenBefore f3_isGivenBefore_b43
  simp only [at_d hP hW hp, at_d hP hW hq, bnd_s, isz_0, isz_1, r_isCornerLower hP hW hp hq, isz_b]
  simp (disch := omega) only [iI_le, iI_eq]
  unfold gvb
  by_cases h : (pD p : Int) = pD q
  · rw [if_pos h]
    have e : decide (pD q < pD p ∨ pD p = pD q ∧ low p q = true) = low p q := by
      cases low p q
      · exact decide_eq_false (by simp; omega)
      · exact decide_eq_true (by simp; omega)
    rw [e]
  · rw [if_neg h]
    by_cases h2 : (pD p : Int) ≤ pD q
    · rw [if_pos h2, decide_eq_false (by omega)]; rfl
    · rw [if_neg h2, decide_eq_true (by omega)]; rfl
theorem r_firstToGive (hP : PlC S c L) (hW : Wf L) {k : Nat} (hk : k < 100) : ∃ acc, Best L (fun p => pW p == k + 1) gvb L.length acc ∧ f3_firstToGive S c (iI (k : Int)) = some acc := by
  have hlen := hW.1
  unfold f3_firstToGive
  refine loop_inv0 L.length (fun n i acc => f3_firstToGive_b4 S c (iI (k : Int)) n acc i) (Best L (fun p => pW p == k + 1) gvb) (fun acc => some acc) fuelN (fuel_lt (by omega)) ?_ ?_ (-1) (Or.inl ⟨rfl, fun j q hj => absurd hj (Nat.not_lt_zero _)⟩)
  · intro n i acc hi hI
    obtain ⟨p, hp⟩ : ∃ p, L[i]? = some p := ⟨_, List.getElem?_eq_getElem hi⟩
    have hO := (hW.at hp).b
    show ∃ acc', _ ∧ f3_firstToGive_b4 S c _ (n + 1) _ _ = f3_firstToGive_b4 S c _ n _ _
    rw [f3_firstToGive_b4, hP.1, if_neg (by rw [iI_le (by omega) (by omega) (by omega) (by omega)]; omega), at_o hP hW hp, bnd_s]
    unfold f3_firstToGive_b38 f3_firstToGive_b40
    by_cases h : pW p = k + 1
    · rw [if_pos (by rw [h]; congr 1; omega)]
      by_cases h1 : acc = -1
      · rw [if_pos h1, q1, iI_s]
        exact ⟨_, hI.take hp (by simpa using h) (gvb_ir p) (fun a b => gvb_tr a b) (Or.inl h1) (by omega), rfl⟩
      · rw [if_neg h1]
        rcases id hI with ⟨g1, -⟩ | ⟨k2, r, g1, g2, g3, g4, g5⟩
        · exact absurd g1 h1
        · rw [g2, r_isGivenBefore hP hW hp g3, bnd_s]
          cases h2 : gvb p r
          · rw [if_pos b2i_f, q1, iI_s]
            rw [g2] at hI
            exact ⟨_, hI.keep (by omega) g3 hp h2, rfl⟩
          · rw [if_neg (by decide), q1, iI_s]
            exact ⟨_, hI.take hp (by simpa using h) (gvb_ir p) (fun a b => gvb_tr a b) (Or.inr ⟨k2, r, g1, g2, g3, h2⟩) (by omega), rfl⟩
    · rw [if_neg (by rw [iI_eq (by omega) (by omega) (by omega) (by omega)]; omega), q1, iI_s]
      exact ⟨_, hI.skip hp (by simpa using h), rfl⟩
  · intro n acc hI
    show f3_firstToGive_b4 S c _ (n + 1) _ _ = _
    rw [f3_firstToGive_b4, hP.1, if_pos (by rw [iI_le (by omega) (by omega) (by omega) (by omega)]; omega)]
theorem r_isBetterStep (hP : PlC S c L) (hW : Wf L) (hp : L[i]? = some p) (hq : L[j]? = some q) {x y : Nat} (hx : x < 64) (hy : y < 64) : f3_isBetterStep S c (iI (i : Int)) (iI (j : Int)) (iI (x : Int)) (iI (y : Int)) = some (b2i (nrb x y p q)) := by
  have hO := (hW.at hp).b
  have hO2 := (hW.at hq).b
  have d1 : dst p x y ≤ 128 := by have := outs_le (v := x) (a := pX p) (w := wid (pD p)) hx (by omega); have := outs_le (v := y) (a := pY p) (w := hei (pD p)) hy (by omega); unfold dst; omega
  have d2 : dst q x y ≤ 128 := by have := outs_le (v := x) (a := pX q) (w := wid (pD q)) hx (by omega); have := outs_le (v := y) (a := pY q) (w := hei (pD q)) hy (by omega); unfold dst; omega
  unfold f3_isBetterStep f3_isBetterStep_b48
  simp only [r_distance hP hW hp hx hy, r_distance hP hW hq hx hy, bnd_s, isz_0, isz_1, r_isCornerLower hP hW hp hq, isz_b]
  simp (disch := omega) only [iI_le, iI_eq]
  unfold nrb
  by_cases h : (dst p x y : Int) = dst q x y
  · rw [if_pos h]
    have e : decide (dst p x y < dst q x y ∨ dst p x y = dst q x y ∧ low p q = true) = low p q := by
      cases low p q
      · exact decide_eq_false (by simp; omega)
      · exact decide_eq_true (by simp; omega)
    rw [e]
  · rw [if_neg h]
    by_cases h2 : (dst q x y : Int) ≤ dst p x y
    · rw [if_pos h2, decide_eq_false (by omega)]; rfl
    · rw [if_neg h2, decide_eq_true (by omega)]; rfl
theorem r_nextToward (hP : PlC S c L) (hW : Wf L) (hq : L[j]? = some q) {x y : Nat} (hx : x < 64) (hy : y < 64) : ∃ acc, Best L (fun p => tch q p) (nrb x y) L.length acc ∧ f3_nextToward S c (iI (j : Int)) (iI (x : Int)) (iI (y : Int)) = some acc := by
  have hlen := hW.1
  unfold f3_nextToward
  refine loop_inv0 L.length (fun n i acc => f3_nextToward_b6 S c (iI (j : Int)) (iI (x : Int)) (iI (y : Int)) n acc i) (Best L (fun p => tch q p) (nrb x y)) (fun acc => some acc) fuelN (fuel_lt (by omega)) ?_ ?_ (-1) (Or.inl ⟨rfl, fun j q hj => absurd hj (Nat.not_lt_zero _)⟩)
  · intro n i acc hi hI
    obtain ⟨p, hp⟩ : ∃ p, L[i]? = some p := ⟨_, List.getElem?_eq_getElem hi⟩
    show ∃ acc', _ ∧ f3_nextToward_b6 S c _ _ _ (n + 1) _ _ = f3_nextToward_b6 S c _ _ _ n _ _
    rw [f3_nextToward_b6, hP.1, if_neg (by rw [iI_le (by omega) (by omega) (by omega) (by omega)]; omega), r_areBeside hP hW hq hp, bnd_s]
    unfold f3_nextToward_b44 f3_nextToward_b48
    cases h : tch q p
    · rw [if_pos b2i_f, q1, iI_s]
      exact ⟨_, hI.skip hp h, rfl⟩
    · rw [if_neg (by decide)]
      by_cases h1 : acc = -1
      · rw [if_pos h1, q1, iI_s]
        exact ⟨_, hI.take hp h (nrb_ir x y p) (fun a b => nrb_tr a b) (Or.inl h1) (by omega), rfl⟩
      · rw [if_neg h1]
        rcases id hI with ⟨g1, -⟩ | ⟨k2, r, g1, g2, g3, g4, g5⟩
        · exact absurd g1 h1
        · rw [g2, r_isBetterStep hP hW hp g3 hx hy, bnd_s]
          cases h2 : nrb x y p r
          · rw [if_pos b2i_f, q1, iI_s]
            rw [g2] at hI
            exact ⟨_, hI.keep (by omega) g3 hp h2, rfl⟩
          · rw [if_neg (by decide), q1, iI_s]
            exact ⟨_, hI.take hp h (nrb_ir x y p) (fun a b => nrb_tr a b) (Or.inr ⟨k2, r, g1, g2, g3, h2⟩) (by omega), rfl⟩
  · intro n acc hI
    show f3_nextToward_b6 S c _ _ _ (n + 1) _ _ = _
    rw [f3_nextToward_b6, hP.1, if_pos (by rw [iI_le (by omega) (by omega) (by omega) (by omega)]; omega)]
theorem r_otherHalf0 (hP : PlC S c L) (hW : Wf L) (hp : L[i]? = some p) (hd : pD p = 0) : f3_otherHalf S c (iI (i : Int)) = some (iI (-1)) := by
  unfold f3_otherHalf
  rw [at_d hP hW hp, bnd_s, hd, if_pos (show iI ((0 : Nat) : Int) = 0 from rfl)]
  rfl
theorem r_otherHalf (hP : PlC S c L) (hW : Wf L) (hp : L[i]? = some p) (hd : 0 < pD p) {j : Nat} {q : Pl} (hq : L[j]? = some q) (hin : inP q (sibX (pD p) (pX p)) (sibY (pD p) (pY p)) = true)
    (hun : ∀ (j2 : Nat) (q2 : Pl), L[j2]? = some q2 → inP q2 (sibX (pD p) (pX p)) (sibY (pD p) (pY p)) = true → j2 = j) : f3_otherHalf S c (iI (i : Int)) = some (if pD q = pD p then iI (j : Int) else iI (-1)) := by
  have hOk := hW.at hp
  have hO := hOk.b
  have hO2 := (hW.at hq).b
  have sx := sibX_t (pD p) (by omega) hd (pX p) (by omega) hOk.2.2.2.1
  have sy := sibY_t (pD p) (by omega) hd (pY p) (by omega) hOk.2.2.2.2.1
  unfold f3_otherHalf f3_otherHalf_b61
  rw [at_d hP hW hp, bnd_s, q0, if_neg (by rw [iI_eq (by omega) (by omega) (by omega) (by omega)]; omega), at_x hP hW hp, bnd_s, sx.1, bnd_s, at_y hP hW hp, bnd_s, sy.1, bnd_s]
  rcases r_find hP hW sx.2.1 sy.2.1 with ⟨j2, q2, h1, h2, h3⟩ | ⟨h1, h2⟩
  · have e := hun j2 q2 h1 h2
    subst e
    rw [h1] at hq; cases hq
    rw [h3, bnd_s, at_d hP hW h1, bnd_s]
    by_cases h : pD q = pD p
    · rw [if_pos (by rw [h]), if_pos h]
    · rw [if_neg (by rw [iI_eq (by omega) (by omega) (by omega) (by omega)]; omega), if_neg h]; rfl
  · rw [h1 q (List.mem_of_getElem? hq)] at hin; cases hin
end C3
