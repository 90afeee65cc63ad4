/-! STAGE B, 30: the reference: its plots, its leaves -/
theorem ml0 : mlen 0 = 886 := rfl
theorem ml1 : mlen 1 = 886 := rfl
theorem ml2 : mlen 2 = 3544 := rfl
theorem ml3 : mlen 3 = 886 := rfl
theorem ml4 : mlen 4 = 60 := rfl
theorem ml5 : mlen 5 = 16 := rfl
theorem ml6 : mlen 6 = 16 := rfl
/-- the plots of a state of the reference -/
def PlV (v : Nat → Int32) (L : List Pl) : Prop := v 1 = iI (L.length : Int) ∧ ∀ (i : Nat) (p : Pl), L[i]? = some p → v (54 + 4 * i) = iI (pD p : Int) ∧ v (54 + 4 * i + 1) = iI (pX p : Int) ∧ v (54 + 4 * i + 2) = iI (pY p : Int) ∧ v (54 + 4 * i + 3) = iI (pW p : Int)
def VmV (v : Nat → Int32) (A : Ab) : Prop := v 0 = iI (aN A : Int) ∧ v 2 = iI (aS A : Int) ∧ v 3 = aC1 A ∧ v 4 = aC2 A ∧ v 5 = aC3 A ∧
  (∀ k, k < aN A → v (6 + 3 * k) = iI (aH A k : Int) ∧ v (6 + 3 * k + 1) = iI (aX A k : Int) ∧ v (6 + 3 * k + 2) = iI (aY A k : Int)) ∧
  (∀ k, aN A ≤ k → k < 16 → v (6 + 3 * k) = 0) ∧
  (∀ j, j < aS A → v (826 + 3 * j) = iI (aU A j : Int) ∧ v (826 + 3 * j + 1) = iI (aV A j : Int) ∧ v (826 + 3 * j + 2) = iI (aT A j : Int))
def VecV (v : Nat → Int32) (A : Ab) : Prop := (∃ L : List Pl, L.Perm (aL A) ∧ PlV v L) ∧ VmV v A
theorem m_in {a b c : Int} (ha : -2147483648 ≤ a) (ha2 : a < 2147483648) (hb : -2147483648 ≤ b) (hb2 : b < 2147483648) (hc : -2147483648 ≤ c) (hc2 : c < 2147483648) : f6_in (iI a) (iI b) (iI c) = some (b2i (decide (b ≤ a ∧ a ≤ c))) := by
  unfold f6_in f6_in_b14 f6_in_b15
  by_cases h1 : a < b
  · rw [if_pos (by rw [iI_lt (by omega) (by omega) (by omega) (by omega)]; omega), isz_0, decide_eq_false (by omega)]; rfl
  · rw [if_neg (by rw [iI_lt (by omega) (by omega) (by omega) (by omega)]; omega)]
    by_cases h2 : c < a
    · rw [if_pos (by rw [iI_lt (by omega) (by omega) (by omega) (by omega)]; omega), isz_0, decide_eq_false (by omega)]; rfl
    · rw [if_neg (by rw [iI_lt (by omega) (by omega) (by omega) (by omega)]; omega), isz_1, decide_eq_true (by omega)]; rfl
theorem cell_c {k : Int} (i : Int) : (54 + (4 : Int32) * iI i) + iI k = iI (54 + 4 * i + k) := by
  rw [show (54 : Int32) = iI 54 from rfl, show (4 : Int32) = iI 4 from rfl, iI_mul, iI_add, iI_add]
theorem cell_k {k : Int} (i : Int) : (6 + (3 : Int32) * iI i) + iI k = iI (6 + 3 * i + k) := by
  rw [show (6 : Int32) = iI 6 from rfl, show (3 : Int32) = iI 3 from rfl, iI_mul, iI_add, iI_add]
theorem cell_s {k : Int} (i : Int) : (826 + (3 : Int32) * iI i) + iI k = iI (826 + 3 * i + k) := by
  rw [show (826 : Int32) = iI 826 from rfl, show (3 : Int32) = iI 3 from rfl, iI_mul, iI_add, iI_add]
theorem m_pl (M : St) {i k : Nat} (h : 54 + 4 * i + k < 886) : f6_ofPlot M (iI (i : Int)) (iI (k : Int)) = some (M.2 0 (54 + 4 * i + k)) := by
  unfold f6_ofPlot
  rw [cell_c, show (54 : Int) + 4 * (i : Int) + (k : Int) = ((54 + 4 * i + k : Nat) : Int) by omega, ml0, arr_i h (by omega)]
theorem m_cm (M : St) {i k : Nat} (h : 6 + 3 * i + k < 886) : f6_ofCamper M (iI (i : Int)) (iI (k : Int)) = some (M.2 0 (6 + 3 * i + k)) := by
  unfold f6_ofCamper
  rw [cell_k, show (6 : Int) + 3 * (i : Int) + (k : Int) = ((6 + 3 * i + k : Nat) : Int) by omega, ml0, arr_i h (by omega)]
theorem m_sg (M : St) {i k : Nat} (h : 826 + 3 * i + k < 886) : f6_ofSong M (iI (i : Int)) (iI (k : Int)) = some (M.2 0 (826 + 3 * i + k)) := by
  unfold f6_ofSong
  rw [cell_s, show (826 : Int) + 3 * (i : Int) + (k : Int) = ((826 + 3 * i + k : Nat) : Int) by omega, ml0, arr_i h (by omega)]
theorem wide_t : ∀ d, d < 13 → f6_wide (iI ((d : Nat) : Int)) = some (iI (wid d : Int)) := by decide +kernel
theorem high_t : ∀ d, d < 13 → f6_high (iI ((d : Nat) : Int)) = some (iI (hei d : Int)) := by decide +kernel
section R1
variable {M : St} {L : List Pl} {i j : Nat} {p q : Pl}
theorem m_d (hP : PlV (M.2 0) L) (hW : Wf L) (hp : L[i]? = some p) : f6_ofPlot M (iI (i : Int)) 0 = some (iI (pD p : Int)) := by
  have := hW.lt hp
  have h := m_pl M (i := i) (k := 0) (by omega)
  rw [show f6_ofPlot M (iI (i : Int)) 0 = f6_ofPlot M (iI (i : Int)) (iI ((0 : Nat) : Int)) from rfl, h, Nat.add_zero, (hP.2 i p hp).1]
theorem m_x (hP : PlV (M.2 0) L) (hW : Wf L) (hp : L[i]? = some p) : f6_ofPlot M (iI (i : Int)) 1 = some (iI (pX p : Int)) := by
  have := hW.lt hp
  rw [show f6_ofPlot M (iI (i : Int)) 1 = f6_ofPlot M (iI (i : Int)) (iI ((1 : Nat) : Int)) from rfl, m_pl M (by omega), (hP.2 i p hp).2.1]
theorem m_y (hP : PlV (M.2 0) L) (hW : Wf L) (hp : L[i]? = some p) : f6_ofPlot M (iI (i : Int)) 2 = some (iI (pY p : Int)) := by
  have := hW.lt hp
  rw [show f6_ofPlot M (iI (i : Int)) 2 = f6_ofPlot M (iI (i : Int)) (iI ((2 : Nat) : Int)) from rfl, m_pl M (by omega), (hP.2 i p hp).2.2.1]
theorem m_w (hP : PlV (M.2 0) L) (hW : Wf L) (hp : L[i]? = some p) : f6_ofPlot M (iI (i : Int)) 3 = some (iI (pW p : Int)) := by
  have := hW.lt hp
  rw [show f6_ofPlot M (iI (i : Int)) 3 = f6_ofPlot M (iI (i : Int)) (iI ((3 : Nat) : Int)) from rfl, m_pl M (by omega), (hP.2 i p hp).2.2.2]
theorem m_n {α : Type} (hP : PlV (M.2 0) L) (k : Int32 → Option α) : arr (M.2 0) (mlen 0) 1 k = k (iI (L.length : Int)) := by
  rw [show (1 : Int32) = iI ((1 : Nat) : Int) from rfl, ml0, arr_i (by omega) (by omega), hP.1]
theorem m_lastX (hP : PlV (M.2 0) L) (hW : Wf L) (hp : L[i]? = some p) : f6_lastX M (iI (i : Int)) = some (iI ((pX p : Int) + wid (pD p) - 1)) := by
  have hO := (hW.at hp).b
  unfold f6_lastX; rw [m_x hP hW hp, bnd_s, m_d hP hW hp, bnd_s, wide_t _ (by omega), bnd_s, q1, iI_add, iI_sub]
theorem m_lastY (hP : PlV (M.2 0) L) (hW : Wf L) (hp : L[i]? = some p) : f6_lastY M (iI (i : Int)) = some (iI ((pY p : Int) + hei (pD p) - 1)) := by
  have hO := (hW.at hp).b
  unfold f6_lastY; rw [m_y hP hW hp, bnd_s, m_d hP hW hp, bnd_s, high_t _ (by omega), bnd_s, q1, iI_add, iI_sub]
theorem m_area (hP : PlV (M.2 0) L) (hW : Wf L) (hp : L[i]? = some p) : f6_area M (iI (i : Int)) = some (iI ((wid (pD p) * hei (pD p) : Nat) : Int)) := by
  have hO := (hW.at hp).b
  unfold f6_area; rw [m_d hP hW hp, bnd_s, wide_t _ (by omega), bnd_s, bnd_s, high_t _ (by omega), bnd_s, iI_mul]; rfl
theorem m_has (hP : PlV (M.2 0) L) (hW : Wf L) (hp : L[i]? = some p) {x y : Nat} (hx : x < 64) (hy : y < 64) : f6_has M (iI (i : Int)) (iI (x : Int)) (iI (y : Int)) = some (b2i (inP p x y)) := by
  have hO := (hW.at hp).b
  unfold f6_has f6_has_b40 f6_has_b41
  rw [m_x hP hW hp, bnd_s, m_lastX hP hW hp, bnd_s, m_in (by omega) (by omega) (by omega) (by omega) (by omega) (by omega), bnd_s]
  by_cases c1 : (pX p : Int) ≤ x ∧ (x : Int) ≤ (pX p : Int) + wid (pD p) - 1
  · rw [decide_eq_true c1, if_neg (by decide), m_y hP hW hp, bnd_s, m_lastY hP hW hp, bnd_s, m_in (by omega) (by omega) (by omega) (by omega) (by omega) (by omega), bnd_s]
    by_cases c2 : (pY p : Int) ≤ y ∧ (y : Int) ≤ (pY p : Int) + hei (pD p) - 1
    · rw [decide_eq_true c2, if_neg (by decide), isz_1, inP_d.mpr (by omega)]; rfl
    · rw [decide_eq_false c2, if_pos b2i_f, isz_0, (Bool.eq_false_iff.mpr (fun h => by rw [inP_d] at h; omega) : inP p x y = false)]; rfl
  · rw [decide_eq_false c1, if_pos b2i_f, isz_0, (Bool.eq_false_iff.mpr (fun h => by rw [inP_d] at h; omega) : inP p x y = false)]; rfl
theorem loop_hit {α ρ : Type} (L : List α) (F : Nat → Int32 → Option ρ) (c : α → Bool) (hit : Nat → Option ρ)
    (hs : ∀ (n i : Nat) (p : α), L[i]? = some p → F (n + 1) (iI (i : Int)) = if c p then hit i else F n (iI ((i + 1 : Nat) : Int))) : ∀ (m n i j : Nat) (p : α), j = i + m → L[j]? = some p → c p = true → m < n → ∃ (j : Nat) (p : α), L[j]? = some p ∧ c p = true ∧ F n (iI (i : Int)) = hit j
  | 0, n, i, j, p, hj, hp, hc, hn => by
    obtain ⟨n, rfl⟩ : ∃ n', n = n' + 1 := ⟨n - 1, by omega⟩
    have e : j = i := by omega
    subst e
    exact ⟨j, p, hp, hc, by rw [hs n j p hp, if_pos hc]⟩
  | m + 1, n, i, j, p, hj, hp, hc, hn => by
    obtain ⟨n, rfl⟩ : ∃ n', n = n' + 1 := ⟨n - 1, by omega⟩
    have hlt := (List.getElem?_eq_some_iff.mp hp).1
    obtain ⟨q, hq⟩ : ∃ q, L[i]? = some q := ⟨_, List.getElem?_eq_getElem (by omega)⟩
    by_cases h : c q = true
    · exact ⟨i, q, hq, h, by rw [hs n i q hq, if_pos h]⟩
    · obtain ⟨j2, p2, g1, g2, g3⟩ := loop_hit L F c hit hs m n (i + 1) j p (by omega) hp hc (by omega)
      exact ⟨j2, p2, g1, g2, by rw [hs n i q hq, if_neg h, g3]⟩
theorem m_plotAt (hP : PlV (M.2 0) L) (hW : Wf L) (hT : Til L) {x y : Nat} (hx : x < 64) (hy : y < 64) : ∃ (j : Nat) (p : Pl), L[j]? = some p ∧ inP p x y = true ∧ f6_plotAt M (iI (x : Int)) (iI (y : Int)) = some (iI (j : Int)) := by
  have hlen := hW.1
  unfold f6_plotAt
  obtain ⟨p, hp, hi⟩ := hT.ex hx hy
  obtain ⟨j, hj⟩ := List.getElem?_of_mem hp
  have hlt := hW.lt hj
  refine loop_hit L (fun n i => f6_plotAt_b2 M (iI (x : Int)) (iI (y : Int)) n i) (fun p => inP p x y) (fun j => some (iI (j : Int))) ?_ j fuelN 0 j p (by omega) hj hi (fuel_lt (by omega))
  intro n i p hp
  show f6_plotAt_b2 M _ _ (n + 1) _ = _
  rw [f6_plotAt_b2, m_has hP hW hp hx hy, bnd_s]
  cases h : inP p x y
  · rw [if_pos b2i_f, if_neg (by decide), q1, iI_s]
  · rw [if_neg (by decide), if_pos rfl]
theorem m_overlap {a b c d : Int} (ha : -2147483648 ≤ a) (ha2 : a < 2147483648) (hb : -2147483648 ≤ b) (hb2 : b < 2147483648) (hc : -2147483648 ≤ c) (hc2 : c < 2147483648) (hd : -2147483648 ≤ d) (hd2 : d < 2147483648) : f6_overlap (iI a) (iI b) (iI c) (iI d) = some (b2i (decide (a ≤ d ∧ c ≤ b))) := by
  unfold f6_overlap f6_overlap_b14 f6_overlap_b15
  by_cases h1 : d < a
  · rw [if_pos (by rw [iI_lt (by omega) (by omega) (by omega) (by omega)]; omega), isz_0, decide_eq_false (by omega)]; rfl
  · rw [if_neg (by rw [iI_lt (by omega) (by omega) (by omega) (by omega)]; omega)]
    by_cases h2 : b < c
    · rw [if_pos (by rw [iI_lt (by omega) (by omega) (by omega) (by omega)]; omega), isz_0, decide_eq_false (by omega)]; rfl
    · rw [if_neg (by rw [iI_lt (by omega) (by omega) (by omega) (by omega)]; omega), isz_1, decide_eq_true (by omega)]; rfl
theorem m_touch (hP : PlV (M.2 0) L) (hW : Wf L) (hp : L[i]? = some p) (hq : L[j]? = some q) : f6_touch M (iI (i : Int)) (iI (j : Int)) = some (b2i (tch p q)) := by
  have hO := (hW.at hp).b
  have hO2 := (hW.at hq).b
  have e140 : ∀ a b : Bool, f6_touch_b140 M (b2i a) (b2i b) = some (b2i (a && b)) := by
    intro a b; cases a <;> cases b <;> rfl
  have e75 : ∀ a b : Bool, f6_touch_b75 M (iI (i : Int)) (iI (j : Int)) (b2i a) (b2i b) = some (b2i (a && decide (pY p < pY q + hei (pD q) ∧ pY q < pY p + hei (pD p)) || b && decide (pX p < pX q + wid (pD q) ∧ pX q < pX p + wid (pD p)))) := by
    intro a b
    unfold f6_touch_b75
    rw [m_y hP hW hp, bnd_s, m_lastY hP hW hp, bnd_s, m_y hP hW hq, bnd_s, m_lastY hP hW hq, bnd_s, m_overlap (by omega) (by omega) (by omega) (by omega) (by omega) (by omega) (by omega) (by omega), bnd_s]
    rw [m_x hP hW hp, bnd_s, m_lastX hP hW hp, bnd_s, m_x hP hW hq, bnd_s, m_lastX hP hW hq, bnd_s, m_overlap (by omega) (by omega) (by omega) (by omega) (by omega) (by omega) (by omega) (by omega), bnd_s]
    rw [e140]
    have d1 : decide ((pY p : Int) ≤ (pY q : Int) + hei (pD q) - 1 ∧ (pY q : Int) ≤ (pY p : Int) + hei (pD p) - 1) = decide (pY p < pY q + hei (pD q) ∧ pY q < pY p + hei (pD p)) := decide_eq_decide.mpr (by omega)
    have d2 : decide ((pX p : Int) ≤ (pX q : Int) + wid (pD q) - 1 ∧ (pX q : Int) ≤ (pX p : Int) + wid (pD p) - 1) = decide (pX p < pX q + wid (pD q) ∧ pX q < pX p + wid (pD p)) := decide_eq_decide.mpr (by omega)
    rw [d1, d2]
    generalize decide (pY p < pY q + hei (pD q) ∧ pY q < pY p + hei (pD p)) = u
    generalize decide (pX p < pX q + wid (pD q) ∧ pX q < pX p + wid (pD p)) = v
    cases a <;> cases b <;> cases u <;> cases v <;> rfl
  have e37 : ∀ a : Bool, f6_touch_b37 M (iI (i : Int)) (iI (j : Int)) (b2i a) = some (b2i (a && decide (pY p < pY q + hei (pD q) ∧ pY q < pY p + hei (pD p)) || decide (pY p + hei (pD p) = pY q ∨ pY q + hei (pD q) = pY p) && decide (pX p < pX q + wid (pD q) ∧ pX q < pX p + wid (pD p)))) := by
    intro a
    unfold f6_touch_b37 f6_touch_b70
    rw [m_lastY hP hW hp, bnd_s, m_y hP hW hq, bnd_s, m_lastY hP hW hq, bnd_s, m_y hP hW hp, bnd_s, q1, q0, iI_add, iI_add, show iI 1 = b2i true from rfl, show iI 0 = b2i false from rfl, e75, e75]
    by_cases c1 : pY p + hei (pD p) = pY q
    · rw [if_pos (by rw [iI_eq (by omega) (by omega) (by omega) (by omega)]; omega), decide_eq_true (p := pY p + hei (pD p) = pY q ∨ pY q + hei (pD q) = pY p) (Or.inl c1)]
    · rw [if_neg (by rw [iI_eq (by omega) (by omega) (by omega) (by omega)]; omega)]
      by_cases c2 : pY q + hei (pD q) = pY p
      · rw [if_pos (by rw [iI_eq (by omega) (by omega) (by omega) (by omega)]; omega), decide_eq_true (p := pY p + hei (pD p) = pY q ∨ pY q + hei (pD q) = pY p) (Or.inr c2)]
      · rw [if_neg (by rw [iI_eq (by omega) (by omega) (by omega) (by omega)]; omega), decide_eq_false (p := pY p + hei (pD p) = pY q ∨ pY q + hei (pD q) = pY p) (by omega)]
  have key : tch p q = (decide (pX p + wid (pD p) = pX q ∨ pX q + wid (pD q) = pX p) && decide (pY p < pY q + hei (pD q) ∧ pY q < pY p + hei (pD p)) || decide (pY p + hei (pD p) = pY q ∨ pY q + hei (pD q) = pY p) && decide (pX p < pX q + wid (pD q) ∧ pX q < pX p + wid (pD p))) := by
    unfold tch
    rw [Bool.eq_iff_iff]
    simp only [Bool.or_eq_true, Bool.and_eq_true, decide_eq_true_eq]
  rw [key]
  unfold f6_touch f6_touch_b32
  rw [m_lastX hP hW hp, bnd_s, m_x hP hW hq, bnd_s, m_lastX hP hW hq, bnd_s, m_x hP hW hp, bnd_s, q1, q0, iI_add, iI_add, show iI 1 = b2i true from rfl, show iI 0 = b2i false from rfl, e37, e37]
  by_cases c1 : pX p + wid (pD p) = pX q
  · rw [if_pos (by rw [iI_eq (by omega) (by omega) (by omega) (by omega)]; omega), decide_eq_true (p := pX p + wid (pD p) = pX q ∨ pX q + wid (pD q) = pX p) (Or.inl c1)]
  · rw [if_neg (by rw [iI_eq (by omega) (by omega) (by omega) (by omega)]; omega)]
    by_cases c2 : pX q + wid (pD q) = pX p
    · rw [if_pos (by rw [iI_eq (by omega) (by omega) (by omega) (by omega)]; omega), decide_eq_true (p := pX p + wid (pD p) = pX q ∨ pX q + wid (pD q) = pX p) (Or.inr c2)]
    · rw [if_neg (by rw [iI_eq (by omega) (by omega) (by omega) (by omega)]; omega), decide_eq_false (p := pX p + wid (pD p) = pX q ∨ pX q + wid (pD q) = pX p) (by omega)]
theorem m_isAhead (hP : PlV (M.2 0) L) (hW : Wf L) (hp : L[i]? = some p) (hq : L[j]? = some q) : f6_isAhead M (iI (i : Int)) (iI (j : Int)) = some (b2i (low p q)) := by
  have hO := (hW.at hp).b
  have hO2 := (hW.at hq).b
  unfold f6_isAhead f6_isAhead_b50
  rw [m_x hP hW hp, bnd_s, m_x hP hW hq, bnd_s, nam_r, iI_sub, m_y hP hW hp, bnd_s, m_y hP hW hq, bnd_s, isz_0, isz_1, q0]
  unfold low
  by_cases c1 : pX p = pX q
  · rw [if_pos (by rw [iI_eq (by omega) (by omega) (by omega) (by omega)]; omega)]
    by_cases c2 : pY q ≤ pY p
    · rw [if_pos (by rw [iI_le (by omega) (by omega) (by omega) (by omega)]; omega), decide_eq_false (by omega)]; rfl
    · rw [if_neg (by rw [iI_le (by omega) (by omega) (by omega) (by omega)]; omega), decide_eq_true (by omega)]; rfl
  · rw [if_neg (by rw [iI_eq (by omega) (by omega) (by omega) (by omega)]; omega)]
    by_cases c2 : pX q ≤ pX p
    · rw [if_pos (by rw [iI_le (by omega) (by omega) (by omega) (by omega)]; omega), decide_eq_false (by omega)]; rfl
    · rw [if_neg (by rw [iI_le (by omega) (by omega) (by omega) (by omega)]; omega), decide_eq_true (by omega)]; rfl
end R1
