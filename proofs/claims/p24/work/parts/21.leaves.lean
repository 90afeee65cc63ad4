/-! STAGE B, 2: plots as pairs of numbers; what the class's leaves answer -/
theorem q0 : (0 : Int32) = iI 0 := rfl
theorem q1 : (1 : Int32) = iI 1 := rfl
theorem q2 : (2 : Int32) = iI 2 := rfl
theorem q3 : (3 : Int32) = iI 3 := rfl
theorem q4 : (4 : Int32) = iI 4 := rfl
theorem q5 : (5 : Int32) = iI 5 := rfl
theorem q6 : (6 : Int32) = iI 6 := rfl
theorem q7 : (7 : Int32) = iI 7 := rfl
theorem q8 : (8 : Int32) = iI 8 := rfl
theorem q9 : (9 : Int32) = iI 9 := rfl
theorem q10 : (10 : Int32) = iI 10 := rfl
theorem q11 : (11 : Int32) = iI 11 := rfl
theorem q12 : (12 : Int32) = iI 12 := rfl
theorem q16 : (16 : Int32) = iI 16 := rfl
theorem q20 : (20 : Int32) = iI 20 := rfl
theorem q44 : (44 : Int32) = iI 44 := rfl
theorem q48 : (48 : Int32) = iI 48 := rfl
theorem q54 : (54 : Int32) = iI 54 := rfl
theorem q57 : (57 : Int32) = iI 57 := rfl
theorem q59 : (59 : Int32) = iI 59 := rfl
theorem q60 : (60 : Int32) = iI 60 := rfl
theorem q64 : (64 : Int32) = iI 64 := rfl
theorem q96 : (96 : Int32) = iI 96 := rfl
theorem q100 : (100 : Int32) = iI 100 := rfl
theorem q127 : (127 : Int32) = iI 127 := rfl
theorem q181 : (181 : Int32) = iI 181 := rfl
theorem q826 : (826 : Int32) = iI 826 := rfl
theorem q886 : (886 : Int32) = iI 886 := rfl
theorem q999 : (999 : Int32) = iI 999 := rfl
theorem q2658 : (2658 : Int32) = iI 2658 := rfl
theorem q3544 : (3544 : Int32) = iI 3544 := rfl
theorem q100000 : (100000 : Int32) = iI 100000 := rfl
abbrev Pl : Type := Nat × Nat × Nat × Nat
abbrev pX (p : Pl) : Nat := p.1
abbrev pY (p : Pl) : Nat := p.2.1
abbrev pD (p : Pl) : Nat := p.2.2.1
abbrev pW (p : Pl) : Nat := p.2.2.2
def wid (d : Nat) : Nat := 64 / 2 ^ ((d + 1) / 2)
def hei (d : Nat) : Nat := 64 / 2 ^ (d / 2)
def inP (p : Pl) (x y : Nat) : Bool := decide (pX p ≤ x ∧ x < pX p + wid (pD p) ∧ pY p ≤ y ∧ y < pY p + hei (pD p))
def OkP (p : Pl) : Prop := pD p ≤ 12 ∧ pX p < 64 ∧ pY p < 64 ∧ pX p % wid (pD p) = 0 ∧ pY p % hei (pD p) = 0 ∧ pW p ≤ 16
/-- two plots touch by a side -/
def tch (p q : Pl) : Bool := decide (((pX p + wid (pD p) = pX q ∨ pX q + wid (pD q) = pX p) ∧ pY p < pY q + hei (pD q) ∧ pY q < pY p + hei (pD p)) ∨ ((pY p + hei (pD p) = pY q ∨ pY q + hei (pD q) = pY p) ∧ pX p < pX q + wid (pD q) ∧ pX q < pX p + wid (pD p)))
/-- one's corner is lower -/
def low (p q : Pl) : Bool := decide (pX p < pX q ∨ pX p = pX q ∧ pY p < pY q)
def outs (v a w : Nat) : Nat := if v < a then a - v else if a + w ≤ v then v - (a + w) + 1 else 0
def dst (p : Pl) (x y : Nat) : Nat := outs x (pX p) (wid (pD p)) + outs y (pY p) (hei (pD p))
theorem wid_in : ∀ d, d < 13 → 1 ≤ wid d ∧ wid d ≤ 64 := by decide
theorem hei_in : ∀ d, d < 13 → 1 ≤ hei d ∧ hei d ≤ 64 := by decide
theorem wid_64 : ∀ d, d < 13 → ∀ x, x < 64 → x % wid d = 0 → x + wid d ≤ 64 := by decide +kernel
theorem hei_64 : ∀ d, d < 13 → ∀ x, x < 64 → x % hei d = 0 → x + hei d ≤ 64 := by decide +kernel
theorem OkP.b {p : Pl} (h : OkP p) : pD p ≤ 12 ∧ pX p < 64 ∧ pY p < 64 ∧ 1 ≤ wid (pD p) ∧ 1 ≤ hei (pD p) ∧ pX p + wid (pD p) ≤ 64 ∧ pY p + hei (pD p) ≤ 64 ∧ pW p ≤ 16 := by
  obtain ⟨h1, h2, h3, h4, h5, h6⟩ := h
  exact ⟨h1, h2, h3, (wid_in _ (by omega)).1, (hei_in _ (by omega)).1, wid_64 _ (by omega) _ h2 h4, hei_64 _ (by omega) _ h3 h5, h6⟩
theorem fuel_lt {n : Nat} (h : n < 99999) : n < fuelN := by unfold fuelN; omega
/-- the plots of camp c, in the order of the class's rows -/
def PlC (S : St) (c : Nat) (L : List Pl) : Prop := S.1 (6 * c + 0) = iI (L.length : Int) ∧ ∀ (i : Nat) (p : Pl), L[i]? = some p → S.2 (10 * c + 0) i = iI (pX p : Int) ∧ S.2 (10 * c + 1) i = iI (pY p : Int) ∧ S.2 (10 * c + 2) i = iI (pD p : Int) ∧ S.2 (10 * c + 3) i = iI ((pW p : Int) - 1)
def Wf (L : List Pl) : Prop := L.length ≤ 181 ∧ ∀ p ∈ L, OkP p
theorem Wf.at {L : List Pl} (h : Wf L) {i : Nat} {p : Pl} (hp : L[i]? = some p) : OkP p := h.2 p (List.mem_of_getElem? hp)
theorem Wf.lt {L : List Pl} (h : Wf L) {i : Nat} {p : Pl} (hp : L[i]? = some p) : i < 181 := by
  have := (List.getElem?_eq_some_iff.mp hp).1
  have := h.1
  omega
theorem rlen_le (r : Nat) : rlen r ≤ 181 := by unfold rlen; split <;> (try split) <;> omega
theorem at_in {S : St} {r i : Nat} (h : i < rlen r) : f4_at S r (iI (i : Int)) = some (S.2 r i) := by
  have h2 := rlen_le r
  unfold f4_at
  rw [iI_ofNat, q0, if_neg (by rw [iI_lt (by omega) (by omega) (by omega) (by omega)]; omega), if_neg (by rw [iI_le (by omega) (by omega) (by omega) (by omega)]; omega), arr_i h (by omega)]
  rfl
theorem at_out {S : St} {r : Nat} {z : Int} (h1 : -2147483648 ≤ z) (h2 : z < 2147483648) (h : z < 0 ∨ rlen r ≤ z) : f4_at S r (iI z) = some 0 := by
  have h3 := rlen_le r
  unfold f4_at
  rw [iI_ofNat, q0]
  by_cases c : z < 0
  · rw [if_pos (by rw [iI_lt (by omega) (by omega) (by omega) (by omega)]; omega)]; rfl
  · rw [if_neg (by rw [iI_lt (by omega) (by omega) (by omega) (by omega)]; omega), if_pos (by rw [iI_le (by omega) (by omega) (by omega) (by omega)]; omega)]; rfl
theorem rlen_0 (c : Nat) : rlen (10 * c + 0) = 181 := by unfold rlen; simp [show (10 * c + 0) % 10 = 0 by omega]
theorem rlen_1 (c : Nat) : rlen (10 * c + 1) = 181 := by unfold rlen; simp [show (10 * c + 1) % 10 = 1 by omega]
theorem rlen_2 (c : Nat) : rlen (10 * c + 2) = 181 := by unfold rlen; simp [show (10 * c + 2) % 10 = 2 by omega]
theorem rlen_3 (c : Nat) : rlen (10 * c + 3) = 181 := by unfold rlen; simp [show (10 * c + 3) % 10 = 3 by omega]
theorem rlen_4 (c : Nat) : rlen (10 * c + 4) = 16 := by unfold rlen; simp [show (10 * c + 4) % 10 = 4 by omega]
theorem rlen_5 (c : Nat) : rlen (10 * c + 5) = 16 := by unfold rlen; simp [show (10 * c + 5) % 10 = 5 by omega]
theorem rlen_6 (c : Nat) : rlen (10 * c + 6) = 16 := by unfold rlen; simp [show (10 * c + 6) % 10 = 6 by omega]
theorem rlen_7 (c : Nat) : rlen (10 * c + 7) = 20 := by unfold rlen; simp [show (10 * c + 7) % 10 = 7 by omega]
theorem rlen_8 (c : Nat) : rlen (10 * c + 8) = 20 := by unfold rlen; simp [show (10 * c + 8) % 10 = 8 by omega]
theorem rlen_9 (c : Nat) : rlen (10 * c + 9) = 20 := by unfold rlen; simp [show (10 * c + 9) % 10 = 9 by omega]
theorem wid_t : ∀ d, d < 13 → f5_widthAt (iI ((d : Nat) : Int)) = some (iI (wid d : Int)) := by decide +kernel
theorem hei_t : ∀ d, d < 13 → f5_heightAt (iI ((d : Nat) : Int)) = some (iI (hei d : Int)) := by decide +kernel
section C1
variable {S : St} {c : Nat} {L : List Pl} {i j : Nat} {p q : Pl}
theorem at_x (hP : PlC S c L) (hW : Wf L) (hp : L[i]? = some p) : f4_at S (10 * c + 0) (iI (i : Int)) = some (iI (pX p : Int)) := by
  rw [at_in (by rw [rlen_0]; exact hW.lt hp), (hP.2 i p hp).1]
theorem at_y (hP : PlC S c L) (hW : Wf L) (hp : L[i]? = some p) : f4_at S (10 * c + 1) (iI (i : Int)) = some (iI (pY p : Int)) := by
  rw [at_in (by rw [rlen_1]; exact hW.lt hp), (hP.2 i p hp).2.1]
theorem at_d (hP : PlC S c L) (hW : Wf L) (hp : L[i]? = some p) : f4_at S (10 * c + 2) (iI (i : Int)) = some (iI (pD p : Int)) := by
  rw [at_in (by rw [rlen_2]; exact hW.lt hp), (hP.2 i p hp).2.2.1]
theorem at_o (hP : PlC S c L) (hW : Wf L) (hp : L[i]? = some p) : f4_at S (10 * c + 3) (iI (i : Int)) = some (iI ((pW p : Int) - 1)) := by
  rw [at_in (by rw [rlen_3]; exact hW.lt hp), (hP.2 i p hp).2.2.2]
theorem r_x0Of (hP : PlC S c L) (hW : Wf L) (hp : L[i]? = some p) : f3_x0Of S c (iI (i : Int)) = some (iI (pX p : Int)) := by
  unfold f3_x0Of; rw [at_x hP hW hp]; rfl
theorem r_y0Of (hP : PlC S c L) (hW : Wf L) (hp : L[i]? = some p) : f3_y0Of S c (iI (i : Int)) = some (iI (pY p : Int)) := by
  unfold f3_y0Of; rw [at_y hP hW hp]; rfl
theorem r_depthOf (hP : PlC S c L) (hW : Wf L) (hp : L[i]? = some p) : f3_depthOf S c (iI (i : Int)) = some (iI (pD p : Int)) := by
  unfold f3_depthOf; rw [at_d hP hW hp]; rfl
theorem r_ownerOf (hP : PlC S c L) (hW : Wf L) (hp : L[i]? = some p) : f3_ownerOf S c (iI (i : Int)) = some (iI ((pW p : Int) - 1)) := by
  unfold f3_ownerOf; rw [at_o hP hW hp]; rfl
theorem r_x1Of (hP : PlC S c L) (hW : Wf L) (hp : L[i]? = some p) : f3_x1Of S c (iI (i : Int)) = some (iI ((pX p : Int) + wid (pD p) - 1)) := by
  have hO := (hW.at hp).b
  unfold f3_x1Of; rw [at_x hP hW hp, bnd_s, at_d hP hW hp, bnd_s, wid_t _ (by omega), bnd_s, q1, iI_add, iI_sub]
theorem r_y1Of (hP : PlC S c L) (hW : Wf L) (hp : L[i]? = some p) : f3_y1Of S c (iI (i : Int)) = some (iI ((pY p : Int) + hei (pD p) - 1)) := by
  have hO := (hW.at hp).b
  unfold f3_y1Of; rw [at_y hP hW hp, bnd_s, at_d hP hW hp, bnd_s, hei_t _ (by omega), bnd_s, q1, iI_add, iI_sub]
theorem r_has (hP : PlC S c L) (hW : Wf L) (hp : L[i]? = some p) {x y : Nat} (hx : x < 64) (hy : y < 64) : f3_has S c (iI (i : Int)) (iI (x : Int)) (iI (y : Int)) = some (b2i (inP p x y)) := by
  have hO := (hW.at hp).b
  unfold f3_has f3_has_b68 f3_has_b69
  simp only [at_x hP hW hp, at_y hP hW hp, at_d hP hW hp, bnd_s, nam_r, wid_t (pD p) (by omega), hei_t (pD p) (by omega), iI_sub, q0, q1]
  simp (disch := omega) only [iI_lt, iI_le]
  by_cases c1 : inP p x y = true
  · have h := of_decide_eq_true c1
    rw [c1, if_neg (by omega), if_neg (by omega), if_neg (by omega), if_neg (by omega)]
    rfl
  · have h : ¬ _ := fun q => c1 (decide_eq_true q)
    rw [(by simpa using c1 : inP p x y = false)]
    repeat' split
    all_goals first | rfl | omega
theorem r_isCornerLower (hP : PlC S c L) (hW : Wf L) (hp : L[i]? = some p) (hq : L[j]? = some q) : f3_isCornerLower S c (iI (i : Int)) (iI (j : Int)) = some (b2i (low p q)) := by
  have hO := (hW.at hp).b
  have hO2 := (hW.at hq).b
  unfold f3_isCornerLower f3_isCornerLower_b43 f3_isCornerLower_b68
  simp only [at_x hP hW hp, at_y hP hW hp, at_x hP hW hq, at_y hP hW hq, bnd_s, isz_0, isz_1]
  simp (disch := omega) only [iI_lt, iI_le, iI_eq]
  by_cases c1 : low p q = true
  · have h := of_decide_eq_true c1
    rw [c1]
    repeat' split
    all_goals first | rfl | omega
  · have h : ¬ _ := fun q => c1 (decide_eq_true q)
    rw [(by simpa using c1 : low p q = false)]
    repeat' split
    all_goals first | rfl | omega
theorem r_areBeside (hP : PlC S c L) (hW : Wf L) (hp : L[i]? = some p) (hq : L[j]? = some q) : f3_areBeside S c (iI (i : Int)) (iI (j : Int)) = some (b2i (tch p q)) := by
  have hO := (hW.at hp).b
  have hO2 := (hW.at hq).b
  have e149 : ∀ l3 l6 : Bool, f3_areBeside_b149 S c (b2i l3) (b2i l6) = some (b2i (l6 && l3)) := by
    intro l3 l6; cases l3 <;> cases l6 <;> rfl
  have e137 : ∀ l3 l4 l5 k0 : Bool, f3_areBeside_b137 S c (b2i l3) (b2i l4) (b2i l5) (b2i k0) = some (b2i (l5 && l4 || k0 && l3)) := by
    intro l3 l4 l5 k0; cases l3 <;> cases l4 <;> cases l5 <;> cases k0 <;> rfl
  have e100 : ∀ l3 l4 k0 : Bool, f3_areBeside_b100 S c (iI (i : Int)) (iI (j : Int)) (b2i l3) (b2i l4) (b2i k0) = some (b2i (k0 && l4 || decide (pY p + hei (pD p) = pY q ∨ pY q + hei (pD q) = pY p) && l3)) := by
    intro l3 l4 k0
    unfold f3_areBeside_b100 f3_areBeside_b132
    simp only [r_y0Of hP hW hp, r_y1Of hP hW hp, r_y0Of hP hW hq, r_y1Of hP hW hq, bnd_s, q1, iI_add]
    simp (disch := omega) only [iI_eq]
    rw [show iI 1 = b2i true from rfl, show (0 : Int32) = b2i false from rfl, e137, e137]
    split
    · rw [decide_eq_true (by omega)]
    · split
      · rw [decide_eq_true (by omega)]
      · rw [decide_eq_false (by omega)]
  have e63 : ∀ l3 k0 : Bool, f3_areBeside_b63 S c (iI (i : Int)) (iI (j : Int)) (b2i l3) (b2i k0) = some (b2i (decide (pX p + wid (pD p) = pX q ∨ pX q + wid (pD q) = pX p) && k0 || decide (pY p + hei (pD p) = pY q ∨ pY q + hei (pD q) = pY p) && l3)) := by
    intro l3 k0
    unfold f3_areBeside_b63 f3_areBeside_b95
    simp only [r_x0Of hP hW hp, r_x1Of hP hW hp, r_x0Of hP hW hq, r_x1Of hP hW hq, bnd_s, q1, iI_add]
    simp (disch := omega) only [iI_eq]
    rw [show iI 1 = b2i true from rfl, show (0 : Int32) = b2i false from rfl, e100, e100]
    split
    · rw [decide_eq_true (p := pX p + wid (pD p) = pX q ∨ pX q + wid (pD q) = pX p) (by omega)]
    · split
      · rw [decide_eq_true (p := pX p + wid (pD p) = pX q ∨ pX q + wid (pD q) = pX p) (by omega)]
      · rw [decide_eq_false (p := pX p + wid (pD p) = pX q ∨ pX q + wid (pD q) = pX p) (by omega)]
  have e31 : ∀ k0 : Bool, f3_areBeside_b31 S c (iI (i : Int)) (iI (j : Int)) (b2i k0) = some (b2i (decide (pX p + wid (pD p) = pX q ∨ pX q + wid (pD q) = pX p) && decide (pY p < pY q + hei (pD q) ∧ pY q < pY p + hei (pD p)) || decide (pY p + hei (pD p) = pY q ∨ pY q + hei (pD q) = pY p) && k0)) := by
    intro k0
    unfold f3_areBeside_b31 f3_areBeside_b62
    simp only [r_y0Of hP hW hp, r_y1Of hP hW hp, r_y0Of hP hW hq, r_y1Of hP hW hq, bnd_s]
    simp (disch := omega) only [iI_lt]
    rw [show (1 : Int32) = b2i true from rfl, show (0 : Int32) = b2i false from rfl, e63, e63]
    split
    · rw [decide_eq_false (p := pY p < pY q + hei (pD q) ∧ pY q < pY p + hei (pD p)) (by omega)]
    · split
      · rw [decide_eq_false (p := pY p < pY q + hei (pD q) ∧ pY q < pY p + hei (pD p)) (by omega)]
      · rw [decide_eq_true (p := pY p < pY q + hei (pD q) ∧ pY q < pY p + hei (pD p)) (by omega)]
  have key : tch p q = (decide (pX p + wid (pD p) = pX q ∨ pX q + wid (pD q) = pX p) && decide (pY p < pY q + hei (pD q) ∧ pY q < pY p + hei (pD p)) || decide (pY p + hei (pD p) = pY q ∨ pY q + hei (pD q) = pY p) && decide (pX p < pX q + wid (pD q) ∧ pX q < pX p + wid (pD p))) := by
    unfold tch
    rw [Bool.eq_iff_iff]
    simp only [Bool.or_eq_true, Bool.and_eq_true, decide_eq_true_eq]
  rw [key]
  unfold f3_areBeside f3_areBeside_b30
  simp only [r_x0Of hP hW hp, r_x1Of hP hW hp, r_x0Of hP hW hq, r_x1Of hP hW hq, bnd_s]
  simp (disch := omega) only [iI_lt]
  rw [show (1 : Int32) = b2i true from rfl, show (0 : Int32) = b2i false from rfl, e31, e31]
  split
  · rw [decide_eq_false (p := pX p < pX q + wid (pD q) ∧ pX q < pX p + wid (pD p)) (by omega)]
  · split
    · rw [decide_eq_false (p := pX p < pX q + wid (pD q) ∧ pX q < pX p + wid (pD p)) (by omega)]
    · rw [decide_eq_true (p := pX p < pX q + wid (pD q) ∧ pX q < pX p + wid (pD p)) (by omega)]
theorem r_outside {v a w : Nat} (hv : v < 64) (ha : a < 64) (hw : 1 ≤ w) (hw2 : a + w ≤ 64) : f3_outside (iI (v : Int)) (iI (a : Int)) (iI ((a : Int) + w - 1)) = some (iI (outs v a w : Int)) := by
  unfold f3_outside f3_outside_b21 outs
  simp only [iI_sub, q0]
  simp (disch := omega) only [iI_lt, iI_le]
  repeat' split
  all_goals first | omega | rfl | (congr 2 <;> omega)
theorem outs_le {v a w : Nat} (hv : v < 64) (ha : a < 64) : outs v a w ≤ 64 := by
  unfold outs; repeat' split
  all_goals omega
theorem r_distance (hP : PlC S c L) (hW : Wf L) (hp : L[i]? = some p) {x y : Nat} (hx : x < 64) (hy : y < 64) : f3_distance S c (iI (i : Int)) (iI (x : Int)) (iI (y : Int)) = some (iI (dst p x y : Int)) := by
  have hO := (hW.at hp).b
  unfold f3_distance
  simp only [r_x0Of hP hW hp, r_x1Of hP hW hp, r_y0Of hP hW hp, r_y1Of hP hW hp, bnd_s]
  rw [r_outside hx (by omega) (by omega) (by omega), bnd_s, r_outside hy (by omega) (by omega) (by omega), bnd_s, iI_add]
  rfl
end C1
