/-! STAGE B, 14: halves tile what they come from -/
theorem wid_step1 : ∀ d, d < 12 → (d + 1) % 2 = 1 → wid d = wid (d + 1) * 2 ∧ hei d = hei (d + 1) := by decide
theorem wid_step0 : ∀ d, d < 12 → (d + 1) % 2 = 0 → wid d = wid (d + 1) ∧ hei d = hei (d + 1) * 2 := by decide
theorem half_div (u v : Nat) : u / 2 = v / 2 ↔ (u = v ∨ u = if v % 2 = 0 then v + 1 else v - 1) := by split <;> omega
theorem sibX_div {d X : Nat} (hw : 0 < wid d) (hd : d % 2 = 1) : sibX d X / wid d = if X / wid d % 2 = 0 then X / wid d + 1 else X / wid d - 1 := by
  unfold sibX
  rw [if_pos hd]
  split
  · exact Nat.add_div_right X hw
  · rw [show X - wid d = X - wid d * 1 by rw [Nat.mul_one], Nat.sub_mul_div]
theorem sibY_div {d Y : Nat} (hw : 0 < hei d) (hd : d % 2 = 0) : sibY d Y / hei d = if Y / hei d % 2 = 0 then Y / hei d + 1 else Y / hei d - 1 := by
  unfold sibY
  rw [if_pos hd]
  split
  · exact Nat.add_div_right Y hw
  · rw [show Y - hei d = Y - hei d * 1 by rw [Nat.mul_one], Nat.sub_mul_div]
theorem sibX_0 {d X : Nat} (hd : d % 2 = 0) : sibX d X = X := by unfold sibX; rw [if_neg (by omega)]
theorem sibY_0 {d Y : Nat} (hd : d % 2 = 1) : sibY d Y = Y := by unfold sibY; rw [if_neg (by omega)]
theorem prt_in (x y d w a b : Nat) (hd : d ≤ 12) (hx : x < 64) (hy : y < 64) (hw : w ≤ 16) : inP (prt x y d w) a b = smP a b x y d := by
  have h := prt_ok hx hy hd hw
  have w1 := (wid_in d (by omega)).1
  have w2 := (hei_in d (by omega)).1
  rw [Bool.eq_iff_iff, inP_iff h, smP_iff]
  show (a / wid d = x / wid d * wid d / wid d ∧ b / hei d = y / hei d * hei d / hei d) ↔ _
  rw [Nat.mul_div_cancel _ w1, Nat.mul_div_cancel _ w2]
/-- x and its other half, in quotients of the deeper depth -/
theorem sm_half {d a b x y : Nat} (h1 : 0 < d) (h2 : d ≤ 12) : (smP a b x y (d - 1) = true ↔ (smP a b x y d = true ∨ (a / wid d = sibX d x / wid d ∧ b / hei d = sibY d y / hei d))) ∧ ¬ (smP a b x y d = true ∧ (a / wid d = sibX d x / wid d ∧ b / hei d = sibY d y / hei d)) := by
  obtain ⟨e, rfl⟩ : ∃ e, d = e + 1 := ⟨d - 1, by omega⟩
  have w1 := (wid_in (e + 1) (by omega)).1
  have w2 := (hei_in (e + 1) (by omega)).1
  rw [Nat.add_sub_cancel, smP_iff, smP_iff]
  by_cases hp : (e + 1) % 2 = 1
  · have hs := wid_step1 e (by omega) hp
    rw [hs.1, hs.2, ← Nat.div_div_eq_div_mul, ← Nat.div_div_eq_div_mul, sibX_div (by omega) hp, sibY_0 hp, half_div]
    generalize a / wid (e + 1) = u
    generalize x / wid (e + 1) = v
    generalize b / hei (e + 1) = u2
    generalize y / hei (e + 1) = v2
    split <;> omega
  · have hs := wid_step0 e (by omega) (by omega)
    rw [hs.1, hs.2, ← Nat.div_div_eq_div_mul, ← Nat.div_div_eq_div_mul, sibY_div (by omega) (by omega), sibX_0 (by omega), half_div]
    generalize a / wid (e + 1) = u
    generalize x / wid (e + 1) = v
    generalize b / hei (e + 1) = u2
    generalize y / hei (e + 1) = v2
    split <;> omega
/-- how often a point lies in plots -/
def cov (L : List Pl) (a b : Nat) : Nat := L.countP (fun p => inP p a b)
theorem cov_cons (p : Pl) (L : List Pl) (a b : Nat) : cov (p :: L) a b = (if inP p a b = true then 1 else 0) + cov L a b := by
  unfold cov; rw [List.countP_cons]; omega
theorem cov_app (K L : List Pl) (a b : Nat) : cov (K ++ L) a b = cov K a b + cov L a b := List.countP_append
theorem half_cov {p q : Pl} (hp : OkP p) (hq : OkP q) (h : isHalf p q = true) {w : Nat} (hw : w ≤ 16) (L : List Pl) (a b : Nat) : cov (par1 q w :: L) a b = cov (p :: q :: L) a b := by
  have hi := isHalf_iff.mp h
  have hb := hp.b
  have hb2 := hq.b
  have k := sm_half (d := pD p) (a := a) (b := b) (x := pX p) (y := pY p) (by omega) (by omega)
  have e0 : inP p a b = true ↔ smP a b (pX p) (pY p) (pD p) = true := by rw [inP_iff hp, smP_iff]
  have e1 : inP q a b = true ↔ (a / wid (pD p) = sibX (pD p) (pX p) / wid (pD p) ∧ b / hei (pD p) = sibY (pD p) (pY p) / hei (pD p)) := by
    rw [inP_iff hq, hi.2.1, hi.2.2.1, hi.2.2.2]
  have kk := sm_half (d := pD p) (a := pX q) (b := pY q) (x := pX p) (y := pY p) (by omega) (by omega)
  have e3 : smP (pX q) (pY q) (pX p) (pY p) (pD p - 1) = true := kk.1.mpr (Or.inr (by rw [hi.2.2.1, hi.2.2.2]; exact ⟨rfl, rfl⟩))
  have e2 : inP (par1 q w) a b = true ↔ smP a b (pX p) (pY p) (pD p - 1) = true := by
    unfold par1
    rw [prt_in _ _ _ _ _ _ (by omega) (by omega) (by omega) hw, hi.2.1, smP_iff, smP_iff, (smP_iff.mp e3).1, (smP_iff.mp e3).2]
  rw [cov_cons, cov_cons, cov_cons]
  rw [← e0, ← e1, ← e2] at k
  by_cases c1 : inP p a b = true
  · have c2 : ¬ inP q a b = true := fun c2 => k.2 ⟨c1, c2⟩
    rw [if_pos c1, if_neg c2, if_pos (k.1.mpr (Or.inl c1))]
    omega
  · by_cases c2 : inP q a b = true
    · rw [if_neg c1, if_pos c2, if_pos (k.1.mpr (Or.inr c2))]; omega
    · rw [if_neg c1, if_neg c2, if_neg (fun q => by rcases k.1.mp q with h | h; exact c1 h; exact c2 h)]; omega
theorem hlv_cov {x y d w wn : Nat} (hx : x < 64) (hy : y < 64) (hw : w ≤ 16) (hwn : wn ≤ 16) (K : List Pl) (a b : Nat) : ∀ t, d + t ≤ 12 → cov (prt x y (d + t) wn :: (hlv x y d w t ++ K)) a b = (if smP a b x y d = true then 1 else 0) + cov K a b
  | 0, h => by rw [cov_cons, Nat.add_zero, prt_in _ _ _ _ _ _ (by omega) hx hy hwn]; rfl
  | t + 1, h => by
    have ih := hlv_cov (d := d) hx hy hw hwn K a b t (by omega)
    rw [cov_cons, cov_app, prt_in _ _ _ _ _ _ (by omega) hx hy hwn] at ih
    have sp := sib_part (d := d + t + 1) (by omega) (by omega) hx hy
    rw [cov_cons, cov_app, hlv, cov_app, cov_cons, show cov [] a b = 0 from rfl, prt_in _ _ _ _ _ _ (by omega) hx hy hwn, prt_in _ _ _ _ _ _ (by omega) sp.1 sp.2 hw]
    have k := sm_half (d := d + t + 1) (a := a) (b := b) (x := x / wid (d + t + 1) * wid (d + t + 1)) (y := y / hei (d + t + 1) * hei (d + t + 1)) (by omega) (by omega)
    rw [← smP_iff] at k
    have w1 := (wid_in (d + t + 1) (by omega)).1
    have w2 := (hei_in (d + t + 1) (by omega)).1
    have e1 : smP a b (x / wid (d + t + 1) * wid (d + t + 1)) (y / hei (d + t + 1) * hei (d + t + 1)) (d + t + 1) = smP a b x y (d + t + 1) := by
      rw [Bool.eq_iff_iff, smP_iff, smP_iff, Nat.mul_div_cancel _ w1, Nat.mul_div_cancel _ w2]
    have e2 : smP a b (x / wid (d + t + 1) * wid (d + t + 1)) (y / hei (d + t + 1) * hei (d + t + 1)) (d + t + 1 - 1) = smP a b x y (d + t) := by
      rw [Nat.add_sub_cancel, Bool.eq_iff_iff]
      have hdv := wid_dvd (d + t) (by omega) (d + t + 1) (by omega) (by omega)
      have c1 : x / wid (d + t + 1) * wid (d + t + 1) / wid (d + t) = x / wid (d + t) := by
        rw [hdv.1, ← Nat.div_div_eq_div_mul, Nat.mul_div_cancel _ w1, Nat.div_div_eq_div_mul]
      have c2 : y / hei (d + t + 1) * hei (d + t + 1) / hei (d + t) = y / hei (d + t) := by
        rw [hdv.2, ← Nat.div_div_eq_div_mul, Nat.mul_div_cancel _ w2, Nat.div_div_eq_div_mul]
      rw [smP_iff, smP_iff, c1, c2]
    rw [e1, e2] at k
    rw [show d + (t + 1) = d + t + 1 by omega]
    generalize smP a b (sibX (d + t + 1) (x / wid (d + t + 1) * wid (d + t + 1))) (sibY (d + t + 1) (y / hei (d + t + 1) * hei (d + t + 1))) (d + t + 1) = m2 at k ⊢
    generalize smP a b x y (d + t + 1) = m1 at k ⊢
    generalize smP a b x y (d + t) = m0 at k ih
    rw [← ih]
    obtain ⟨k1, k2⟩ := k
    cases m0 <;> cases m1 <;> cases m2 <;> simp at k1 k2 ⊢ <;> omega
theorem til_iff {L : List Pl} : Til L ↔ ∀ x y, x < 64 → y < 64 → cov L x y = 1 := Iff.rfl
theorem cov_perm {L K : List Pl} (h : L.Perm K) (a b : Nat) : cov L a b = cov K a b := h.countP_eq _
theorem til_set {L : List Pl} (h : Til L) {p q : Pl} (hp : p ∈ L) (hg : ∀ a b, inP q a b = inP p a b) : Til (q :: L.erase p) := by
  rw [til_iff] at *
  intro x y hx hy
  rw [cov_cons, hg, ← cov_cons, ← cov_perm (List.perm_cons_erase hp)]
  exact h x y hx hy
theorem til_join {L : List Pl} (h : Til L) (hO : ∀ p ∈ L, OkP p) {p q : Pl} {w : Nat} (hp : p ∈ L) (hq : q ∈ L) (hh : isHalf p q = true) (hw : w ≤ 16) : Til (par1 q w :: (L.erase p).erase q) := by
  rw [til_iff] at *
  intro x y hx hy
  rw [half_cov (hO p hp) (hO q hq) hh hw, ← cov_perm (perm2 hp hq (half_ne (hO p hp) hh))]
  exact h x y hx hy
theorem til_come {L : List Pl} (h : Til L) {p : Pl} (hp : p ∈ L) (hO : OkP p) {x y t w wn : Nat} (hx : x < 64) (hy : y < 64) (hw : w ≤ 16) (hwn : wn ≤ 16) (ht : pD p + t ≤ 12) (hin : inP p x y = true) : Til (prt x y (pD p + t) wn :: (hlv x y (pD p) w t ++ L.erase p)) := by
  rw [til_iff] at *
  intro a b ha hb
  rw [hlv_cov hx hy hw hwn _ _ _ _ ht, ← inP_sm hO hin, ← cov_cons, ← cov_perm (List.perm_cons_erase hp)]
  exact h a b ha hb
