/-! STAGE B, 34: the reference: who takes, ways, depths -/
section R5
variable {M : St} {A : Ab} {g : Nat} {L : List Pl} {i j : Nat} {p q : Pl}
theorem bes_iff (hp : L.Perm (aL A)) {k : Nat} : (hereB A k = true ∧ L.any (fun q => tch p q && pW q == k + 1) = true) ↔ Bes A p k := by
  rw [hereB_iff, List.any_eq_true]
  constructor
  · rintro ⟨h1, q, h2, h3⟩
    rw [Bool.and_eq_true, beq_iff_eq] at h3
    exact ⟨h1, q, hp.mem_iff.mp h2, h3.1, h3.2⟩
  · rintro ⟨h1, q, h2, h3, h4⟩
    exact ⟨h1, q, hp.mem_iff.mpr h2, by rw [h3, h4]; simp⟩
theorem m_smallest (hP : PlV (M.2 0) L) (hp : L.Perm (aL A)) (hC : VmV (M.2 0) A) (hI : InvG g A) (hj : L[j]? = some p) {b : Nat} (hb : b < 16) (hnb : ¬ Here A b) : ∃ z, f6_smallestBeside M (iI (j : Int)) (iI (b : Int)) = some z ∧ ∀ w, Least A p w → z = iI (w : Int) := by
  have hW := hI.wf.perm hp
  have h16 := hI.1.1
  have hae : ∀ k, area L k = area (aL A) k := fun k => area_perm hp k
  have hal : ∀ k, area (aL A) k ≤ 4096 * 181 := fun k => by
    have := area_le hI.wf.2 k
    have := hI.wf.1
    omega
  have hlt := hW.lt hj
  unfold f6_smallestBeside
  have := loop_inv0 (σ := Int32) 16 (fun n i acc => f6_smallestBeside_b6 M (iI (j : Int)) (iI (b : Int)) n acc i) (fun i acc => (acc = iI (-5) ∧ ∀ k, k < i → ¬ Bes A p k) ∨ ∃ w : Nat, w < i ∧ Bes A p w ∧ acc = iI (w : Int) ∧ ∀ v, v < i → Bes A p v → area (aL A) w < area (aL A) v ∨ area (aL A) w = area (aL A) v ∧ w ≤ v) (fun acc => some acc) fuelN (fuel_lt (by omega)) ?_ ?_ (-5) (Or.inl ⟨rfl, fun k hk => absurd hk (by omega)⟩)
  · obtain ⟨acc, h1, h2⟩ := this
    refine ⟨acc, h2, fun w hw => ?_⟩
    rcases h1 with ⟨-, h1⟩ | ⟨v, h1, h3, h4, h6⟩
    · exact absurd hw.1 (h1 w (by have := hw.1.1.1; omega))
    · have a := h6 w (by have := hw.1.1.1; omega) hw.1
      have b2 := hw.2 v h3
      rw [h4, show v = w by omega]
  · intro n i acc hi hJ
    show ∃ acc', _ ∧ f6_smallestBeside_b6 M _ _ (n + 1) _ _ = f6_smallestBeside_b6 M _ _ n _ _
    rw [f6_smallestBeside_b6, if_neg (by rw [q16, iI_le (by omega) (by omega) (by omega) (by omega)]; omega)]
    unfold f6_smallestBeside_b42 f6_smallestBeside_b43 f6_smallestBeside_b70 f6_smallestBeside_b75 f6_smallestBeside_b76
    have skip : ¬ Bes A p i → ∃ acc' : Int32, ((acc' = iI (-5) ∧ ∀ k, k < i + 1 → ¬ Bes A p k) ∨ ∃ w : Nat, w < i + 1 ∧ Bes A p w ∧ acc' = iI (w : Int) ∧ ∀ v, v < i + 1 → Bes A p v → area (aL A) w < area (aL A) v ∨ area (aL A) w = area (aL A) v ∧ w ≤ v) ∧ f6_smallestBeside_b6 M (iI (j : Int)) (iI (b : Int)) n acc (iI (i : Int) + 1) = f6_smallestBeside_b6 M (iI (j : Int)) (iI (b : Int)) n acc' (iI ((i + 1 : Nat) : Int)) := by
      intro hn
      refine ⟨acc, ?_, by rw [q1, iI_s]⟩
      rcases hJ with ⟨h1, h2⟩ | ⟨w, h1, h3, h4, h6⟩
      · refine Or.inl ⟨h1, fun k hk => ?_⟩
        by_cases e : k = i
        · subst e; exact hn
        · exact h2 k (by omega)
      · refine Or.inr ⟨w, by omega, h3, h4, fun v hv hb => ?_⟩
        by_cases e : v = i
        · subst e; exact absurd hb hn
        · exact h6 v (by omega) hb
    by_cases e0 : i = b
    · subst e0
      rw [if_pos rfl, if_pos rfl]
      exact skip (fun h => hnb h.1)
    · rw [if_neg (by rw [iI_eq (by omega) (by omega) (by omega) (by omega)]; omega), m_isHereK hC hI hi, bnd_s]
      cases e1 : hereB A i
      · rw [if_pos b2i_f, if_pos rfl]
        exact skip (fun h => by rw [hereB_iff.mpr h.1] at e1; cases e1)
      · rw [if_neg (by decide), m_touches hP hW hj (by omega), bnd_s]
        cases e2 : L.any (fun q => tch p q && pW q == i + 1)
        · rw [if_pos b2i_f, if_pos rfl]
          exact skip (fun h => by rw [((bes_iff hp).mpr h).2] at e2; cases e2)
        · have hbi : Bes A p i := (bes_iff hp).mp ⟨e1, e2⟩
          rw [if_neg (by decide), if_neg (by decide)]
          have l1 := hal i
          rcases hJ with ⟨h1, h2⟩ | ⟨w, h1, h3, h4, h6⟩
          · rw [h1, if_pos (show iI (-5) = -5 from rfl), q1, iI_s]
            refine ⟨iI (i : Int), Or.inr ⟨i, by omega, hbi, rfl, fun v hv hb => ?_⟩, rfl⟩
            by_cases e : v = i
            · subst e; omega
            · exact absurd hb (h2 v (by omega))
          · have l2 := hal w
            rw [h4, if_neg (by rw [show (-5 : Int32) = iI (-5) from rfl, iI_eq (by omega) (by omega) (by omega) (by omega)]; omega), m_areaOf hP hW (by omega), bnd_s, m_areaOf hP hW (by omega), bnd_s, hae, hae, q1, iI_s]
            by_cases e : area (aL A) w ≤ area (aL A) i
            · rw [if_pos (by rw [iI_le (by omega) (by omega) (by omega) (by omega)]; omega)]
              refine ⟨iI (w : Int), Or.inr ⟨w, by omega, h3, rfl, fun v hv hb => ?_⟩, rfl⟩
              by_cases e3 : v = i
              · subst e3; omega
              · exact h6 v (by omega) hb
            · rw [if_neg (by rw [iI_le (by omega) (by omega) (by omega) (by omega)]; omega)]
              refine ⟨iI (i : Int), Or.inr ⟨i, by omega, hbi, rfl, fun v hv hb => ?_⟩, rfl⟩
              by_cases e3 : v = i
              · subst e3; omega
              · have := h6 v (by omega) hb
                omega
  · intro n acc hJ
    show f6_smallestBeside_b6 M _ _ (n + 1) _ _ = _
    rw [f6_smallestBeside_b6, if_pos (by decide)]
theorem m_next (hP : PlV (M.2 0) L) (hW : Wf L) (hT : Til L) (hp : L[j]? = some p) {x y : Nat} (hx : x < 64) (hy : y < 64) (hn : inP p x y = false) : ∃ (k : Nat) (q : Pl), L[k]? = some q ∧ IsNext L x y p q ∧ f6_nextOnWay M (iI (j : Int)) (iI (x : Int)) (iI (y : Int)) = some (iI (k : Int)) := by
  have hlen := hW.1
  have hj := hW.lt hp
  have dle : ∀ {k : Nat} {q : Pl}, L[k]? = some q → dst q x y ≤ 128 := fun h => dst_le (hW.at h) hx hy
  have := loop_inv0 (σ := Int32 × Int32) L.length (fun n i acc => f6_nextOnWay_b11 M (iI (j : Int)) (iI (x : Int)) (iI (y : Int)) n acc.1 acc.2 i) (fun i acc => ∃ a, Best L (fun q => tch p q) (nrb x y) i a ∧ ((a = iI (-1) ∧ acc = (iI (-5), iI 100000)) ∨ ∃ (k : Nat) (r : Pl), a = iI (k : Int) ∧ L[k]? = some r ∧ acc = (iI (k : Int), iI (dst r x y : Int)))) (fun acc => some acc.1) fuelN (fuel_lt (by omega)) ?_ ?_ (-5, 100000) ⟨iI (-1), Or.inl ⟨rfl, fun j q hj => absurd hj (Nat.not_lt_zero _)⟩, Or.inl ⟨rfl, rfl⟩⟩
  · obtain ⟨acc, ⟨a, h1, h2⟩, h3⟩ := this
    unfold f6_nextOnWay
    rw [show f6_nextOnWay_b11 M (iI (j : Int)) (iI (x : Int)) (iI (y : Int)) fuelN (-5) 100000 0 = some acc.1 from h3]
    rcases h1 with ⟨h4, h5⟩ | ⟨k, q, h4, h5, h6, h7, h8⟩
    · obtain ⟨q, hq, ht, -⟩ := nearer hT hW.2 (List.mem_of_getElem? hp) hx hy hn
      obtain ⟨k, hk⟩ := List.getElem?_of_mem hq
      have : tch p q = false := h5 k q (List.getElem?_eq_some_iff.mp hk).1 hk
      rw [ht] at this; cases this
    · refine ⟨k, q, h6, ⟨List.mem_of_getElem? h6, h7, fun r hr ht => ?_⟩, ?_⟩
      · obtain ⟨k2, hk2⟩ := List.getElem?_of_mem hr
        exact h8 k2 r (List.getElem?_eq_some_iff.mp hk2).1 hk2 ht
      · have hkl := hW.lt h6
        rcases h2 with ⟨g1, -⟩ | ⟨k2, r, g1, g2, g3⟩
        · rw [h5, iI_eq (by omega) (by omega) (by omega) (by omega)] at g1; omega
        · rw [g3, ← g1, h5]
  · rintro n i acc hi ⟨a, hI, hacc⟩
    obtain ⟨q, hq⟩ : ∃ q, L[i]? = some q := ⟨_, List.getElem?_eq_getElem hi⟩
    have hi2 := hW.lt hq
    have dq := dle hq
    show ∃ acc', _ ∧ f6_nextOnWay_b11 M _ _ _ (n + 1) _ _ _ = f6_nextOnWay_b11 M _ _ _ n _ _ _
    rw [f6_nextOnWay_b11, m_n hP, if_neg (by rw [iI_le (by omega) (by omega) (by omega) (by omega)]; omega)]
    unfold f6_nextOnWay_b73 f6_nextOnWay_b77 f6_nextOnWay_b78 f6_nextOnWay_b92 f6_nextOnWay_b106 f6_nextOnWay_b108
    have kp : Best L (fun q => tch p q) (nrb x y) (i + 1) a → ∃ acc' : Int32 × Int32, (∃ a, Best L (fun q => tch p q) (nrb x y) (i + 1) a ∧ ((a = iI (-1) ∧ acc' = (iI (-5), iI 100000)) ∨ ∃ (k : Nat) (r : Pl), a = iI (k : Int) ∧ L[k]? = some r ∧ acc' = (iI (k : Int), iI (dst r x y : Int)))) ∧ f6_nextOnWay_b11 M (iI (j : Int)) (iI (x : Int)) (iI (y : Int)) n acc.1 acc.2 (iI (i : Int) + 1) = f6_nextOnWay_b11 M (iI (j : Int)) (iI (x : Int)) (iI (y : Int)) n acc'.1 acc'.2 (iI ((i + 1 : Nat) : Int)) :=
      fun h => ⟨acc, ⟨a, h, hacc⟩, by rw [q1, iI_s]⟩
    have tk : Best L (fun q => tch p q) (nrb x y) (i + 1) (iI (i : Int)) → ∃ acc' : Int32 × Int32, (∃ a, Best L (fun q => tch p q) (nrb x y) (i + 1) a ∧ ((a = iI (-1) ∧ acc' = (iI (-5), iI 100000)) ∨ ∃ (k : Nat) (r : Pl), a = iI (k : Int) ∧ L[k]? = some r ∧ acc' = (iI (k : Int), iI (dst r x y : Int)))) ∧ f6_nextOnWay_b11 M (iI (j : Int)) (iI (x : Int)) (iI (y : Int)) n (iI (i : Int)) (iI (dst q x y : Int)) (iI (i : Int) + 1) = f6_nextOnWay_b11 M (iI (j : Int)) (iI (x : Int)) (iI (y : Int)) n acc'.1 acc'.2 (iI ((i + 1 : Nat) : Int)) :=
      fun h => ⟨(iI (i : Int), iI (dst q x y : Int)), ⟨_, h, Or.inr ⟨i, q, rfl, hq, rfl⟩⟩, by rw [q1, iI_s]⟩
    by_cases e : i = j
    · subst e
      rw [hq] at hp; cases hp
      rw [if_pos rfl]
      exact kp (hI.skip hq (tch_self (hW.at hq)))
    · rw [if_neg (fun h => e ((at_ne hi2 hj).mp h)), m_touch hP hW hp hq, bnd_s]
      cases h2 : tch p q
      · rw [if_pos b2i_f]
        exact kp (hI.skip hq h2)
      · rw [if_neg (by decide), m_distance hP hW hq hx hy, bnd_s]
        rcases hacc with ⟨g1, g2⟩ | ⟨k, r, g1, g2, g3⟩
        · rw [g2]
          rw [if_pos (show iI (dst q x y : Int) < iI 100000 by rw [iI_lt (by omega) (by omega) (by omega) (by omega)]; omega), if_neg (show ¬ (1 : Int32) = 0 by decide), if_neg (show ¬ (1 : Int32) = 0 by decide)]
          exact tk (hI.take hq h2 (nrb_ir x y q) (fun a b => nrb_tr a b) (Or.inl g1) (by omega))
        · have hkl := hW.lt g2
          have dr := dle g2
          have yes : nrb x y q r = true → Best L (fun q => tch p q) (nrb x y) (i + 1) (iI (i : Int)) := fun hb => by
            refine hI.take hq h2 (nrb_ir x y q) (fun a b => nrb_tr a b) ?_ (by omega)
            rcases id hI with ⟨m1, -⟩ | ⟨k2, r2, m1, m2, m3, -, -⟩
            · exact Or.inl m1
            · refine Or.inr ⟨k2, r2, m1, m2, m3, ?_⟩
              have hk2 := hW.lt m3
              rw [g1] at m2
              have := (at_ne hkl hk2).mp m2
              subst this
              rw [g2] at m3; cases m3
              exact hb
          have no : nrb x y q r = false → Best L (fun q => tch p q) (nrb x y) (i + 1) a := fun hb => by
            rw [g1] at hI ⊢
            exact hI.keep (by omega) g2 hq hb
          rw [g3] at kp ⊢
          by_cases d1 : dst q x y < dst r x y
          · rw [if_pos (show iI (dst q x y : Int) < iI (dst r x y : Int) by rw [iI_lt (by omega) (by omega) (by omega) (by omega)]; omega), if_neg (show ¬ (1 : Int32) = 0 by decide), if_neg (show ¬ (1 : Int32) = 0 by decide)]
            exact tk (yes ((nrb_iff x y q r).mpr (Or.inl d1)))
          · rw [if_neg (show ¬ iI (dst q x y : Int) < iI (dst r x y : Int) by rw [iI_lt (by omega) (by omega) (by omega) (by omega)]; omega)]
            by_cases d2 : dst q x y = dst r x y
            · rw [if_pos (show iI (dst q x y : Int) = iI (dst r x y : Int) by rw [d2]), m_isAhead hP hW hq g2, bnd_s]
              cases h3 : low q r
              · rw [if_pos b2i_f, if_pos rfl, if_pos rfl]
                exact kp (no (by rw [Bool.eq_false_iff, Ne, nrb_iff]; rw [Bool.eq_false_iff, Ne, low_iff] at h3; omega))
              · rw [if_neg (by decide), if_neg (by decide), if_neg (by decide)]
                exact tk (yes ((nrb_iff x y q r).mpr (Or.inr ⟨d2, (low_iff q r).mp h3⟩)))
            · rw [if_neg (show ¬ iI (dst q x y : Int) = iI (dst r x y : Int) by rw [iI_eq (by omega) (by omega) (by omega) (by omega)]; omega), if_pos rfl, if_pos rfl]
              exact kp (no (by rw [Bool.eq_false_iff, Ne, nrb_iff]; omega))
  · rintro n acc -
    show f6_nextOnWay_b11 M _ _ _ (n + 1) _ _ _ = _
    rw [f6_nextOnWay_b11, m_n hP, if_pos (by rw [iI_le (by omega) (by omega) (by omega) (by omega)]; omega)]
theorem m_wayLoop (hP : PlV (M.2 0) L) (hW : Wf L) (hT : Til L) {x y : Nat} (hx : x < 64) (hy : y < 64) {st : Int} (hst : st < 2147483648) : ∀ (d s N i : Nat) (p : Pl), (s : Int) ≤ st → s + d ≤ 200 → dst p x y ≤ d → d < N → L[i]? = some p →
    (∃ (j : Nat) (q : Pl), L[j]? = some q ∧ Way L x y (st - s).toNat p q ∧ f6_onWay_b21 M (iI (x : Int)) (iI (y : Int)) (iI st) N (iI (i : Int)) (iI (s : Int)) = some (iI (j : Int))) ∨ ((∀ q, ¬ Way L x y (st - s).toNat p q) ∧ f6_onWay_b21 M (iI (x : Int)) (iI (y : Int)) (iI st) N (iI (i : Int)) (iI (s : Int)) = some (iI (-5))) := by
  intro d
  induction d with
  | zero =>
    intro s N i p hs hsd hd hN hi
    obtain ⟨N, rfl⟩ : ∃ N', N = N' + 1 := ⟨N - 1, by omega⟩
    rw [f6_onWay_b21]
    unfold f6_onWay_b55 f6_onWay_b69
    by_cases e : (s : Int) = st
    · rw [← e, if_pos (by rw [iI_le (by omega) (by omega) (by omega) (by omega)]; omega), if_pos rfl]
      exact Or.inl ⟨i, p, hi, by rw [Int.sub_self]; rfl, rfl⟩
    · rw [if_neg (by rw [iI_le (by omega) (by omega) (by omega) (by omega)]; omega), m_has hP hW hi hx hy, bnd_s]
      have hin : inP p x y = true := by
        cases h : inP p x y
        · obtain ⟨r, h1, h2, h3⟩ := nearer hT hW.2 (List.mem_of_getElem? hi) hx hy h
          omega
        · rfl
      rw [hin, if_neg (by decide), if_neg (by rw [iI_eq (by omega) (by omega) (by omega) (by omega)]; omega)]
      refine Or.inr ⟨fun q h => ?_, rfl⟩
      obtain ⟨n, hn⟩ : ∃ n, (st - (s : Int)).toNat = n + 1 := ⟨(st - (s : Int)).toNat - 1, by omega⟩
      rw [hn] at h
      rw [h.1] at hin; cases hin
  | succ d ih =>
    intro s N i p hs hsd hd hN hi
    obtain ⟨N, rfl⟩ : ∃ N', N = N' + 1 := ⟨N - 1, by omega⟩
    rw [f6_onWay_b21]
    unfold f6_onWay_b55 f6_onWay_b69
    by_cases e : (s : Int) = st
    · rw [← e, if_pos (by rw [iI_le (by omega) (by omega) (by omega) (by omega)]; omega), if_pos rfl]
      exact Or.inl ⟨i, p, hi, by rw [Int.sub_self]; rfl, rfl⟩
    · rw [if_neg (by rw [iI_le (by omega) (by omega) (by omega) (by omega)]; omega), m_has hP hW hi hx hy, bnd_s]
      obtain ⟨n, hn⟩ : ∃ n, (st - (s : Int)).toNat = n + 1 := ⟨(st - (s : Int)).toNat - 1, by omega⟩
      cases hin : inP p x y
      · obtain ⟨k, q, h1, h2, h3⟩ := m_next hP hW hT hi hx hy hin
        have hl := h2.less hT hW.2 hx hy (List.mem_of_getElem? hi) hin
        rw [if_pos b2i_f, h3, bnd_s, q1, iI_s]
        have hn2 : (st - ((s + 1 : Nat) : Int)).toNat = n := by omega
        rcases ih (s + 1) N k q (by omega) (by omega) (by omega) (by omega) h1 with ⟨j2, q2, g1, g2, g3⟩ | ⟨g1, g2⟩
        · rw [hn2] at g2
          exact Or.inl ⟨j2, q2, g1, by rw [hn]; exact ⟨hin, q, h2, g2⟩, g3⟩
        · rw [hn2] at g1
          refine Or.inr ⟨fun q2 h4 => ?_, g2⟩
          rw [hn] at h4
          obtain ⟨-, r, h5, h6⟩ := h4
          rw [h5.one hT hW.2 h2] at h6
          exact g1 q2 h6
      · rw [if_neg (by decide), if_neg (by rw [iI_eq (by omega) (by omega) (by omega) (by omega)]; omega)]
        refine Or.inr ⟨fun q h => ?_, rfl⟩
        rw [hn] at h
        rw [h.1] at hin; cases hin
end R5
