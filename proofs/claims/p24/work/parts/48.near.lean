/-! STAGE B, 16: who touches: a taker is there, a way comes nearer -/
theorem tch_comm (p q : Pl) : tch p q = tch q p := by unfold tch; rw [Bool.eq_iff_iff, decide_eq_true_iff, decide_eq_true_iff]; omega
theorem tch_self {p : Pl} (h : OkP p) : tch p p = false := by
  have hb := h.b
  rw [Bool.eq_false_iff]
  unfold tch
  rw [Ne, decide_eq_true_iff]
  omega
theorem inP_d {p : Pl} {x y : Nat} : inP p x y = true ↔ (pX p ≤ x ∧ x < pX p + wid (pD p) ∧ pY p ≤ y ∧ y < pY p + hei (pD p)) := by unfold inP; exact decide_eq_true_iff
theorem adj_x {L : List Pl} (hT : Til L) {p q : Pl} (hp : p ∈ L) (hq : q ∈ L) (hn : p ≠ q) {a b : Nat} (ha : a + 1 < 64) (hb : b < 64) (h1 : inP p a b = true) (h2 : inP q (a + 1) b = true) : tch p q = true := by
  have n1 : ¬ inP p (a + 1) b = true := fun h => hn (cnt_one (hT (a + 1) b ha hb) hp h hq h2)
  have n2 : ¬ inP q a b = true := fun h => hn (cnt_one (hT a b (by omega) hb) hp h1 hq h)
  rw [inP_d] at h1 h2 n1 n2
  unfold tch
  rw [decide_eq_true_iff]
  omega
theorem adj_y {L : List Pl} (hT : Til L) {p q : Pl} (hp : p ∈ L) (hq : q ∈ L) (hn : p ≠ q) {a b : Nat} (ha : a < 64) (hb : b + 1 < 64) (h1 : inP p a b = true) (h2 : inP q a (b + 1) = true) : tch p q = true := by
  have n1 : ¬ inP p a (b + 1) = true := fun h => hn (cnt_one (hT a (b + 1) ha hb) hp h hq h2)
  have n2 : ¬ inP q a b = true := fun h => hn (cnt_one (hT a b ha (by omega)) hp h1 hq h)
  rw [inP_d] at h1 h2 n1 n2
  unfold tch
  rw [decide_eq_true_iff]
  omega
theorem least_ex {A : Ab} {p : Pl} (h : ∃ w, Bes A p w) : ∃ w, Least A p w := by
  have key : ∀ n, (∃ w, w < n ∧ Bes A p w) → ∃ w, w < n ∧ Bes A p w ∧ ∀ v, v < n → Bes A p v → area (aL A) w < area (aL A) v ∨ area (aL A) w = area (aL A) v ∧ w ≤ v := by
    intro n
    induction n with
    | zero => rintro ⟨w, h, -⟩; omega
    | succ n ih =>
      intro h
      by_cases e : ∃ w, w < n ∧ Bes A p w
      · obtain ⟨w, h1, h2, h3⟩ := ih e
        by_cases en : Bes A p n ∧ area (aL A) n < area (aL A) w
        · refine ⟨n, by omega, en.1, fun v hv hb => ?_⟩
          by_cases e2 : v = n
          · subst e2; omega
          · have := h3 v (by omega) hb; omega
        · refine ⟨w, by omega, h2, fun v hv hb => ?_⟩
          by_cases e2 : v = n
          · subst e2
            have : ¬ area (aL A) v < area (aL A) w := fun h => en ⟨hb, h⟩
            omega
          · exact h3 v (by omega) hb
      · obtain ⟨w, h1, h2⟩ := h
        have e2 : w = n := by
          by_cases e3 : w = n
          · exact e3
          · exact absurd ⟨w, by omega, h2⟩ e
        subst e2
        refine ⟨w, h1, h2, fun v hv hb => ?_⟩
        by_cases e3 : v = w
        · subst e3; omega
        · exact absurd ⟨v, by omega, hb⟩ e
  obtain ⟨w, hw⟩ := h
  obtain ⟨v, h1, h2, h3⟩ := key (aN A) ⟨w, hw.1.1, hw⟩
  exact ⟨v, h2, fun u hu => h3 u hu.1.1 hu⟩
/-- beside a plot without its other half lies a deeper one, inside of the other half -/
theorem beside_half {L : List Pl} (hT : Til L) (hO : ∀ p ∈ L, OkP p) {p : Pl} (hp : p ∈ L) (h0 : pD p ≠ 0) (hn : ∀ q ∈ L, isHalf p q = false) : ∃ q ∈ L, tch p q = true ∧ pD p < pD q := by
  have hOp := hO p hp
  have hb := hOp.b
  have hs := sib_in hOp h0
  -- a point of the other half, beside a point of p
  have key : ∀ (a b : Nat), a < 64 → b < 64 → a / wid (pD p) = sibX (pD p) (pX p) / wid (pD p) → b / hei (pD p) = sibY (pD p) (pY p) / hei (pD p) → ∃ q ∈ L, inP q a b = true ∧ p ≠ q ∧ pD p < pD q := by
    intro a b ha hb2 e1 e2
    obtain ⟨q, hq, hi⟩ := hT.ex ha hb2
    have hOq := hO q hq
    have hk := sm_half (d := pD p) (a := a) (b := b) (x := pX p) (y := pY p) (by omega) (by omega)
    have np : ¬ inP p a b = true := by
      intro h
      rw [inP_iff hOp] at h
      exact hk.2 ⟨smP_iff.mpr h, e1, e2⟩
    refine ⟨q, hq, hi, fun e => np (by rw [e]; exact hi), ?_⟩
    by_cases c : pD q = pD p
    · have : isHalf p q = true := by
        refine half_of_in hOp hOq h0 c ?_
        rw [inP_iff hOq] at hi ⊢
        rw [c] at hi ⊢
        rw [← e1, ← e2]
        exact hi
      rw [hn q hq] at this; cases this
    · by_cases c2 : pD p < pD q
      · exact c2
      · exfalso
        have h1 : smP a b (pX p) (pY p) (pD p - 1) = true := hk.1.mpr (Or.inr ⟨e1, e2⟩)
        have h2 : smP a b (pX p) (pY p) (pD q) = true := smP_mono (by omega) (by omega) h1
        have h3 : inP q (pX p) (pY p) = true := by
          rw [inP_iff hOq] at hi ⊢
          rw [smP_iff] at h2
          rw [← h2.1, ← h2.2]
          exact hi
        have h4 : inP p (pX p) (pY p) = true := by rw [inP_d]; omega
        have := cnt_one (hT (pX p) (pY p) (by omega) (by omega)) hq h3 hp h4
        subst this
        exact c rfl
  have w1 : 0 < wid (pD p) := by omega
  have w2 : 0 < hei (pD p) := by omega
  by_cases hd : pD p % 2 = 1
  · have eX := sibX_div (X := pX p) w1 hd
    have eY : sibY (pD p) (pY p) = pY p := sibY_0 hd
    have dX : sibX (pD p) (pX p) = if pX p / wid (pD p) % 2 = 0 then pX p + wid (pD p) else pX p - wid (pD p) := by unfold sibX; rw [if_pos hd]
    by_cases hu : pX p / wid (pD p) % 2 = 0
    · rw [if_pos hu] at dX eX
      obtain ⟨q, hq, hi, hne, hdp⟩ := key (pX p + wid (pD p)) (pY p) (by rw [← dX]; exact hs.1) (by omega) (by rw [dX]) (by rw [eY])
      refine ⟨q, hq, ?_, hdp⟩
      refine adj_x hT hp hq hne (a := pX p + wid (pD p) - 1) (b := pY p) ?_ (by omega) ?_ ?_
      · rw [show pX p + wid (pD p) - 1 + 1 = pX p + wid (pD p) by omega, ← dX]; exact hs.1
      · rw [inP_d]; omega
      · rw [show pX p + wid (pD p) - 1 + 1 = pX p + wid (pD p) by omega]; exact hi
    · rw [if_neg hu] at dX eX
      have hge : wid (pD p) ≤ pX p := by
        have h1 := Nat.div_add_mod (pX p) (wid (pD p))
        have h2 : 1 ≤ pX p / wid (pD p) := Nat.pos_of_ne_zero (fun e => hu (by rw [e]))
        have h3 := Nat.mul_le_mul_left (wid (pD p)) h2
        omega
      have e1 : (pX p - 1) / wid (pD p) = sibX (pD p) (pX p) / wid (pD p) := by
        rw [eX]
        have h1 := Nat.div_add_mod (pX p) (wid (pD p))
        rw [hOp.2.2.2.1] at h1
        refine Nat.div_eq_of_lt_le ?_ ?_
        · rw [Nat.sub_mul, Nat.mul_comm]; omega
        · rw [Nat.sub_add_cancel (Nat.pos_of_ne_zero (fun e => hu (by rw [e]))), Nat.mul_comm]; omega
      obtain ⟨q, hq, hi, hne, hdp⟩ := key (pX p - 1) (pY p) (by omega) (by omega) e1 (by rw [eY])
      refine ⟨q, hq, ?_, hdp⟩
      rw [tch_comm]
      refine adj_x hT hq hp (fun e => hne e.symm) (a := pX p - 1) (b := pY p) (by omega) (by omega) hi ?_
      rw [show pX p - 1 + 1 = pX p by omega, inP_d]; omega
  · have eY := sibY_div (Y := pY p) w2 (show pD p % 2 = 0 by omega)
    have eX : sibX (pD p) (pX p) = pX p := sibX_0 (by omega)
    have dY : sibY (pD p) (pY p) = if pY p / hei (pD p) % 2 = 0 then pY p + hei (pD p) else pY p - hei (pD p) := by unfold sibY; rw [if_pos (by omega)]
    by_cases hu : pY p / hei (pD p) % 2 = 0
    · rw [if_pos hu] at dY eY
      obtain ⟨q, hq, hi, hne, hdp⟩ := key (pX p) (pY p + hei (pD p)) (by omega) (by rw [← dY]; exact hs.2.1) (by rw [eX]) (by rw [dY])
      refine ⟨q, hq, ?_, hdp⟩
      refine adj_y hT hp hq hne (a := pX p) (b := pY p + hei (pD p) - 1) (by omega) ?_ ?_ ?_
      · rw [show pY p + hei (pD p) - 1 + 1 = pY p + hei (pD p) by omega, ← dY]; exact hs.2.1
      · rw [inP_d]; omega
      · rw [show pY p + hei (pD p) - 1 + 1 = pY p + hei (pD p) by omega]; exact hi
    · rw [if_neg hu] at dY eY
      have hge : hei (pD p) ≤ pY p := by
        have h1 := Nat.div_add_mod (pY p) (hei (pD p))
        have h2 : 1 ≤ pY p / hei (pD p) := Nat.pos_of_ne_zero (fun e => hu (by rw [e]))
        have h3 := Nat.mul_le_mul_left (hei (pD p)) h2
        omega
      have e1 : (pY p - 1) / hei (pD p) = sibY (pD p) (pY p) / hei (pD p) := by
        rw [eY]
        have h1 := Nat.div_add_mod (pY p) (hei (pD p))
        rw [hOp.2.2.2.2.1] at h1
        refine Nat.div_eq_of_lt_le ?_ ?_
        · rw [Nat.sub_mul, Nat.mul_comm]; omega
        · rw [Nat.sub_add_cancel (Nat.pos_of_ne_zero (fun e => hu (by rw [e]))), Nat.mul_comm]; omega
      obtain ⟨q, hq, hi, hne, hdp⟩ := key (pX p) (pY p - 1) (by omega) (by omega) (by rw [eX]) e1
      refine ⟨q, hq, ?_, hdp⟩
      rw [tch_comm]
      refine adj_y hT hq hp (fun e => hne e.symm) (a := pX p) (b := pY p - 1) (by omega) (by omega) hi ?_
      rw [show pY p - 1 + 1 = pY p by omega, inP_d]; omega
/-- somebody takes the deepest plot of the one who leaves -/
theorem taker {A : Ab} {k j : Nat} (hI : InvG (k + 1) A) (hk : ¬ Here A k) (hj : Here A j) {p : Pl} (hp : IsBest (aL A) k p) (hn : ∀ q ∈ aL A, isHalf p q = false) : ∃ w, Least A p w := by
  apply least_ex
  by_cases h0 : pD p = 0
  · exfalso
    have hOp := hI.2.1 p hp.1
    obtain ⟨h1, h2, h3, h4, h5, h6⟩ := hOp
    rw [h0] at h4 h5
    rw [show wid 0 = 64 from rfl] at h4
    rw [show hei 0 = 64 from rfl] at h5
    have hxy := hI.xy hj.1
    have hi : inP p (aX A j) (aY A j) = true := by
      rw [inP_d, h0, show wid 0 = 64 from rfl, show hei 0 = 64 from rfl]; omega
    have := hI.tent hj hp.1 hi
    rw [hp.2.1] at this
    have e : k = j := by omega
    subst e
    exact hk hj
  · obtain ⟨q, hq, ht, hd⟩ := beside_half hI.til hI.2.1 hp.1 h0 hn
    have h1 := hI.some hj hq
    have h2 : pW q ≠ k + 1 := fun e => by
      have h3 := hp.2.2 q hq e
      rw [Bool.eq_false_iff, Ne, gvb_iff] at h3
      omega
    rcases hI.own hq with h3 | h3 | h3
    · exact absurd h3 h1
    · exact ⟨pW q - 1, h3, q, hq, ht, by omega⟩
    · exact absurd h3 h2
theorem outs_in {v a w x : Nat} (h1 : a ≤ x) (h2 : x < a + w) : outs v a w ≤ (if v < x then x - v else v - x) := by
  unfold outs; repeat' split
  all_goals omega
/-- from a plot that lacks the point there is one beside it that is nearer -/
theorem nearer {L : List Pl} (hT : Til L) (hO : ∀ p ∈ L, OkP p) {p : Pl} (hp : p ∈ L) {x y : Nat} (hx : x < 64) (hy : y < 64) (hn : inP p x y = false) : ∃ q ∈ L, tch p q = true ∧ dst q x y < dst p x y := by
  have hb := (hO p hp).b
  have hn2 : ¬ _ := fun h => by rw [inP_d.mpr h] at hn; cases hn
  -- the point of p that is nearest
  obtain ⟨b, hbb⟩ : ∃ b, b = (if y < pY p then pY p else if pY p + hei (pD p) ≤ y then pY p + hei (pD p) - 1 else y) := ⟨_, rfl⟩
  obtain ⟨a, haa⟩ : ∃ a, a = (if x < pX p then pX p else if pX p + wid (pD p) ≤ x then pX p + wid (pD p) - 1 else x) := ⟨_, rfl⟩
  have b1 : pY p ≤ b ∧ b < pY p + hei (pD p) ∧ outs y (pY p) (hei (pD p)) = (if y < b then b - y else y - b) := by
    rw [hbb]; unfold outs; repeat' split
    all_goals omega
  have a1 : pX p ≤ a ∧ a < pX p + wid (pD p) ∧ outs x (pX p) (wid (pD p)) = (if x < a then a - x else x - a) := by
    rw [haa]; unfold outs; repeat' split
    all_goals omega
  have hpi : inP p a b = true := by rw [inP_d]; omega
  have fin : ∀ q ∈ L, ∀ a' b', inP q a' b' = true → (if x < a' then a' - x else x - a') + (if y < b' then b' - y else y - b') < dst p x y → dst q x y < dst p x y := by
    intro q _ a' b' hi hlt
    rw [inP_d] at hi
    have o1 := outs_in (v := x) hi.1 hi.2.1
    have o2 := outs_in (v := y) hi.2.2.1 hi.2.2.2
    have : dst q x y = outs x (pX q) (wid (pD q)) + outs y (pY q) (hei (pD q)) := rfl
    omega
  have hdp : dst p x y = outs x (pX p) (wid (pD p)) + outs y (pY p) (hei (pD p)) := rfl
  rw [a1.2.2, b1.2.2] at hdp
  by_cases c1 : x < pX p
  · have ea : a = pX p := by rw [haa, if_pos c1]
    obtain ⟨q, hq, hi⟩ := hT.ex (show a - 1 < 64 by omega) (show b < 64 by omega)
    have hne : q ≠ p := by intro e; rw [e, inP_d] at hi; omega
    refine ⟨q, hq, ?_, fin q hq _ _ hi ?_⟩
    · rw [tch_comm]
      exact adj_x hT hq hp hne (a := a - 1) (b := b) (by omega) (by omega) hi (by rw [show a - 1 + 1 = a by omega]; exact hpi)
    · rw [hdp]; clear hdp hbb haa; ((repeat' split) <;> omega)
  · by_cases c2 : pX p + wid (pD p) ≤ x
    · have ea : a = pX p + wid (pD p) - 1 := by rw [haa, if_neg c1, if_pos c2]
      obtain ⟨q, hq, hi⟩ := hT.ex (show a + 1 < 64 by omega) (show b < 64 by omega)
      have hne : p ≠ q := by intro e; rw [← e, inP_d] at hi; omega
      refine ⟨q, hq, adj_x hT hp hq hne (a := a) (b := b) (by omega) (by omega) hpi hi, fin q hq _ _ hi ?_⟩
      rw [hdp]; clear hdp hbb haa; ((repeat' split) <;> omega)
    · by_cases c3 : y < pY p
      · have eb : b = pY p := by rw [hbb, if_pos c3]
        obtain ⟨q, hq, hi⟩ := hT.ex (show a < 64 by omega) (show b - 1 < 64 by omega)
        have hne : q ≠ p := by intro e; rw [e, inP_d] at hi; omega
        refine ⟨q, hq, ?_, fin q hq _ _ hi ?_⟩
        · rw [tch_comm]
          exact adj_y hT hq hp hne (a := a) (b := b - 1) (by omega) (by omega) hi (by rw [show b - 1 + 1 = b by omega]; exact hpi)
        · rw [hdp]; clear hdp hbb haa; ((repeat' split) <;> omega)
      · have c4 : pY p + hei (pD p) ≤ y := by omega
        have eb : b = pY p + hei (pD p) - 1 := by rw [hbb, if_neg c3, if_pos c4]
        obtain ⟨q, hq, hi⟩ := hT.ex (show a < 64 by omega) (show b + 1 < 64 by omega)
        have hne : p ≠ q := by intro e; rw [← e, inP_d] at hi; omega
        refine ⟨q, hq, adj_y hT hp hq hne (a := a) (b := b) (by omega) (by omega) hpi hi, fin q hq _ _ hi ?_⟩
        rw [hdp]; clear hdp hbb haa; ((repeat' split) <;> omega)
