/-! STAGE B, 17: the class's way, leaving, handing over -/
def IsNext (L : List Pl) (x y : Nat) (p q : Pl) : Prop := q ∈ L ∧ tch p q = true ∧ ∀ r ∈ L, tch p r = true → nrb x y r q = false
theorem low_eq {p q : Pl} (hx : pX p = pX q) (hy : pY p = pY q) (hp : OkP p) (hq : OkP q) {L : List Pl} (hT : Til L) (h1 : p ∈ L) (h2 : q ∈ L) : p = q := by
  have a := hp.b
  have b := hq.b
  exact cnt_one (hT (pX p) (pY p) (by omega) (by omega)) h1 (by rw [inP_d]; omega) h2 (by rw [inP_d]; omega)
theorem IsNext.one {L : List Pl} (hT : Til L) (hO : ∀ p ∈ L, OkP p) {x y : Nat} {p q r : Pl} (h1 : IsNext L x y p q) (h2 : IsNext L x y p r) : q = r := by
  have a := h1.2.2 r h2.1 h2.2.1
  have b := h2.2.2 q h1.1 h1.2.1
  rw [Bool.eq_false_iff, Ne, nrb_iff] at a b
  exact low_eq (by omega) (by omega) (hO q h1.1) (hO r h2.1) hT h1.1 h2.1
theorem IsNext.perm {L L' : List Pl} {x y : Nat} {p q : Pl} (h : IsNext L x y p q) (hp : L.Perm L') : IsNext L' x y p q := ⟨hp.mem_iff.mp h.1, h.2.1, fun r hr => h.2.2 r (hp.mem_iff.mpr hr)⟩
theorem IsNext.less {L : List Pl} (hT : Til L) (hO : ∀ p ∈ L, OkP p) {x y : Nat} (hx : x < 64) (hy : y < 64) {p q : Pl} (hp : p ∈ L) (hn : inP p x y = false) (h : IsNext L x y p q) : dst q x y < dst p x y := by
  obtain ⟨r, h1, h2, h3⟩ := nearer hT hO hp hx hy hn
  have := h.2.2 r h1 h2
  rw [Bool.eq_false_iff, Ne, nrb_iff] at this
  omega
/-- from p in n steps to q -/
def Way (L : List Pl) (x y : Nat) : Nat → Pl → Pl → Prop
  | 0, p, q => q = p
  | n + 1, p, q => inP p x y = false ∧ ∃ r, IsNext L x y p r ∧ Way L x y n r q
theorem Way.mem {L : List Pl} {x y : Nat} : ∀ {n : Nat} {p q : Pl}, p ∈ L → Way L x y n p q → q ∈ L
  | 0, p, q, hp, h => by rw [show q = p from h]; exact hp
  | n + 1, p, q, hp, h => by obtain ⟨-, r, h1, h2⟩ := h; exact Way.mem h1.1 h2
theorem Way.one {L : List Pl} (hT : Til L) (hO : ∀ p ∈ L, OkP p) {x y : Nat} : ∀ {n : Nat} {p q r : Pl}, Way L x y n p q → Way L x y n p r → q = r
  | 0, p, q, r, h1, h2 => by rw [show q = p from h1, show r = p from h2]
  | n + 1, p, q, r, h1, h2 => by
    obtain ⟨-, a, h3, h4⟩ := h1
    obtain ⟨-, b, h5, h6⟩ := h2
    rw [h3.one hT hO h5] at h4
    exact Way.one hT hO h4 h6
theorem Way.perm {L L' : List Pl} {x y : Nat} (hp : L.Perm L') : ∀ {n : Nat} {p q : Pl}, Way L x y n p q → Way L' x y n p q
  | 0, p, q, h => h
  | n + 1, p, q, h => by obtain ⟨h0, r, h1, h2⟩ := h; exact ⟨h0, r, h1.perm hp, Way.perm hp h2⟩
theorem Way.le {L : List Pl} (hT : Til L) (hO : ∀ p ∈ L, OkP p) {x y : Nat} (hx : x < 64) (hy : y < 64) : ∀ {n : Nat} {p q : Pl}, p ∈ L → Way L x y n p q → n ≤ dst p x y
  | 0, p, q, _, h => Nat.zero_le _
  | n + 1, p, q, hp, h => by
    obtain ⟨h0, r, h1, h2⟩ := h
    have := h1.less hT hO hx hy hp h0
    have := Way.le hT hO hx hy h1.1 h2
    omega
theorem dst_le {p : Pl} (h : OkP p) {x y : Nat} (hx : x < 64) (hy : y < 64) : dst p x y ≤ 128 := by
  have hb := h.b
  have := outs_le (v := x) (a := pX p) (w := wid (pD p)) hx (by omega)
  have := outs_le (v := y) (a := pY p) (w := hei (pD p)) hy (by omega)
  unfold dst; omega
section CW
variable {S : St} {c g : Nat} {A : Ab} {L : List Pl}
theorem r_next (hP : PlC S c L) (hW : Wf L) (hT : Til L) {i : Nat} {p : Pl} (hi : L[i]? = some p) {x y : Nat} (hx : x < 64) (hy : y < 64) (hn : inP p x y = false) : ∃ (j : Nat) (q : Pl), L[j]? = some q ∧ IsNext L x y p q ∧ f3_nextToward S c (iI (i : Int)) (iI (x : Int)) (iI (y : Int)) = some (iI (j : Int)) := by
  obtain ⟨acc, h1, h2⟩ := r_nextToward hP hW hi hx hy
  rcases h1 with ⟨h3, h4⟩ | ⟨j, q, h3, h4, h5, h6, h7⟩
  · obtain ⟨q, hq, ht, -⟩ := nearer hT hW.2 (List.mem_of_getElem? hi) hx hy hn
    obtain ⟨j, hj⟩ := List.getElem?_of_mem hq
    have : tch p q = false := h4 j q (List.getElem?_eq_some_iff.mp hj).1 hj
    rw [ht] at this; cases this
  · refine ⟨j, q, h5, ⟨List.mem_of_getElem? h5, h6, fun r hr ht => ?_⟩, by rw [h2, h4]⟩
    obtain ⟨j2, hj2⟩ := List.getElem?_of_mem hr
    exact h7 j2 r (List.getElem?_eq_some_iff.mp hj2).1 hj2 ht
theorem r_wayLoop (hP : PlC S c L) (hW : Wf L) (hT : Til L) {x y st : Nat} (hx : x < 64) (hy : y < 64) (hst : st < 181) : ∀ (m s N i : Nat) (p : Pl), s + m = st → m < N → L[i]? = some p →
    (∃ (j : Nat) (q : Pl), L[j]? = some q ∧ Way L x y m p q ∧ f0_plotOnWay_b38 S c (iI (x : Int)) (iI (y : Int)) (iI (st : Int)) N (iI (i : Int)) (iI (s : Int)) = some (iI (j : Int))) ∨ ((∀ q, ¬ Way L x y m p q) ∧ f0_plotOnWay_b38 S c (iI (x : Int)) (iI (y : Int)) (iI (st : Int)) N (iI (i : Int)) (iI (s : Int)) = some (iI (-1)))
  | 0, s, N, i, p, hs, hN, hi => by
    obtain ⟨N, rfl⟩ : ∃ N', N = N' + 1 := ⟨N - 1, by omega⟩
    refine Or.inl ⟨i, p, hi, rfl, ?_⟩
    rw [f0_plotOnWay_b38, if_pos (by rw [iI_le (by omega) (by omega) (by omega) (by omega)]; omega)]
  | m + 1, s, N, i, p, hs, hN, hi => by
    obtain ⟨N, rfl⟩ : ∃ N', N = N' + 1 := ⟨N - 1, by omega⟩
    have hlt := hW.lt hi
    rw [f0_plotOnWay_b38, if_neg (by rw [iI_le (by omega) (by omega) (by omega) (by omega)]; omega), if_neg (by rw [iI_m1, iI_eq (by omega) (by omega) (by omega) (by omega)]; omega), r_has hP hW hi hx hy, bnd_s]
    unfold f0_plotOnWay_b65
    cases e : inP p x y
    · obtain ⟨j, q, h1, h2, h3⟩ := r_next hP hW hT hi hx hy e
      rw [if_pos b2i_f, h3, bnd_s, q1, iI_s]
      rcases r_wayLoop hP hW hT hx hy hst m (s + 1) N j q (by omega) (by omega) h1 with ⟨j2, q2, g1, g2, g3⟩ | ⟨g1, g2⟩
      · exact Or.inl ⟨j2, q2, g1, ⟨e, q, h2, g2⟩, g3⟩
      · refine Or.inr ⟨fun q2 h4 => ?_, g2⟩
        obtain ⟨-, r, h5, h6⟩ := h4
        rw [h5.one hT hW.2 h2] at h6
        exact g1 q2 h6
    · rw [if_neg (by decide)]
      refine Or.inr ⟨fun q2 h4 => ?_, rfl⟩
      rw [h4.1] at e; cases e
theorem r_plotOnWay (hP : PlC S c L) (hp : L.Perm (aL A)) (hC : CmC S c A) (hI : InvG g A) {k x y : Nat} (hk : k < aN A) (hx : x < 64) (hy : y < 64) {st : Int} (h0 : 0 ≤ st) (h1 : st < 2147483648) :
    (∃ (j : Nat) (q : Pl), L[j]? = some q ∧ Way (aL A) x y st.toNat (plAt (aL A) (aX A k) (aY A k)) q ∧ f0_plotOnWay S c (iI (k : Int)) (iI (x : Int)) (iI (y : Int)) (iI st) = some (iI (j : Int))) ∨
    ((∀ q, ¬ Way (aL A) x y st.toNat (plAt (aL A) (aX A k) (aY A k)) q) ∧ f0_plotOnWay S c (iI (k : Int)) (iI (x : Int)) (iI (y : Int)) (iI st) = some (iI (-1))) := by
  have hW := hI.wf.perm hp
  have hxy := hI.xy hk
  obtain ⟨i, hi, hf⟩ := r_at hP hp hI hxy.2.1 hxy.2.2
  obtain ⟨s, rfl⟩ : ∃ s : Nat, st = (s : Int) := ⟨st.toNat, by omega⟩
  rw [Int.toNat_natCast]
  unfold f0_plotOnWay
  rw [q181]
  by_cases hs : s < 181
  · rw [if_pos (by rw [iI_lt (by omega) (by omega) (by omega) (by omega)]; omega), at_tx hC hI hk, bnd_s, at_ty hC hI hk, bnd_s, hf, bnd_s]
    rcases r_wayLoop hP hW (hI.til.perm hp) hx hy hs s 0 fuelN i _ (by omega) (fuel_lt (by omega)) hi with ⟨j, q, g1, g2, g3⟩ | ⟨g1, g2⟩
    · exact Or.inl ⟨j, q, g1, g2.perm hp, g3⟩
    · exact Or.inr ⟨fun q h => g1 q (h.perm hp.symm), g2⟩
  · rw [if_neg (by rw [iI_lt (by omega) (by omega) (by omega) (by omega)]; omega)]
    refine Or.inr ⟨fun q h => ?_, rfl⟩
    have hm := plAt_in hI.til hxy.2.1 hxy.2.2
    have := h.le hI.til hI.2.1 hx hy hm.1
    have := dst_le (hI.2.1 _ hm.1) hx hy
    omega
/-- camper k, who leaves, is without plots after m turns -/
def Lv (k : Nat) : Nat → Ab → Ab → Prop
  | 0, A, A' => (∀ p ∈ aL A, pW p ≠ k + 1) ∧ A' = A
  | m + 1, A, A' => ∃ p, IsBest (aL A) k p ∧ ((∃ q ∈ aL A, isHalf p q = true ∧ Lv k m (joinA A p q (pW q)) A') ∨ ((∀ q ∈ aL A, isHalf p q = false) ∧ ∃ w, Least A p w ∧ Lv k m (takeA A p (w + 1)) A'))
theorem best_ex {L : List Pl} {k : Nat} (h : ∃ p ∈ L, pW p = k + 1) : ∃ p, IsBest L k p := by
  induction L with
  | nil => obtain ⟨p, hp, -⟩ := h; cases hp
  | cons r L ih =>
    by_cases e : ∃ p ∈ L, pW p = k + 1
    · obtain ⟨p, h1, h2, h3⟩ := ih e
      by_cases e2 : pW r = k + 1 ∧ gvb r p = true
      · refine ⟨r, List.mem_cons_self, e2.1, fun q hq hw => ?_⟩
        rcases List.mem_cons.mp hq with h4 | h4
        · rw [h4]; exact gvb_ir r
        · cases h5 : gvb q r
          · rfl
          · have := h3 q h4 hw
            rw [gvb_tr h5 e2.2] at this; cases this
      · refine ⟨p, List.mem_cons_of_mem _ h1, h2, fun q hq hw => ?_⟩
        rcases List.mem_cons.mp hq with h4 | h4
        · subst h4
          cases h5 : gvb q p
          · rfl
          · exact absurd ⟨hw, h5⟩ e2
        · exact h3 q h4 hw
    · obtain ⟨p, hp, hw⟩ := h
      rcases List.mem_cons.mp hp with h4 | h4
      · subst h4
        refine ⟨p, List.mem_cons_self, hw, fun q hq hw2 => ?_⟩
        rcases List.mem_cons.mp hq with h5 | h5
        · rw [h5]; exact gvb_ir p
        · exact absurd ⟨q, h5, hw2⟩ e
      · exact absurd ⟨p, h4, hw⟩ e
def cntW (L : List Pl) (k : Nat) : Nat := L.countP (fun p => pW p == k + 1)
theorem cntW_cons (p : Pl) (L : List Pl) (k : Nat) : cntW (p :: L) k = (if pW p = k + 1 then 1 else 0) + cntW L k := by
  unfold cntW; rw [List.countP_cons, Nat.add_comm]; simp
theorem cntW_perm {L K : List Pl} (h : L.Perm K) (k : Nat) : cntW L k = cntW K k := h.countP_eq _
theorem lv_ex {k j : Nat} : ∀ (m : Nat) (A : Ab), cntW (aL A) k = m → InvG (k + 1) A → ¬ Here A k → Here A j → ∃ A', Lv k m A A' ∧ Inv A'
  | 0, A, hm, hI, hk, hj => by
    have h0 : ∀ p ∈ aL A, pW p ≠ k + 1 := fun p hp e => by
      have := List.countP_pos_iff (p := fun p : Pl => pW p == k + 1) |>.mpr ⟨p, hp, by show (pW p == k + 1) = true; rw [e]; simp⟩
      unfold cntW at hm; omega
    exact ⟨A, ⟨h0, rfl⟩, gone_end hI h0⟩
  | m + 1, A, hm, hI, hk, hj => by
    obtain ⟨p, hp⟩ : ∃ p, IsBest (aL A) k p := best_ex (by
      have := List.countP_pos_iff.mp (show 0 < (aL A).countP (fun p => pW p == k + 1) by unfold cntW at hm; omega)
      obtain ⟨p, h1, h2⟩ := this
      exact ⟨p, h1, by simpa using h2⟩)
    have nt : ∀ i, Here A i → inP p (aX A i) (aY A i) = true → False := fun i hi h => by
      have := hI.tent hi hp.1 h
      have e : i = k := by rw [hp.2.1] at this; omega
      subst e; exact hk hi
    by_cases e : ∃ q ∈ aL A, isHalf p q = true
    · obtain ⟨q, hq, hh⟩ := e
      have hJ := join_inv hI hj hp.1 hq hh (fun i hi h => absurd h (fun h => nt i hi h))
      have hc : cntW (aL (joinA A p q (pW q))) k = m := by
        have e1 := cntW_perm (perm2 hp.1 hq (half_ne (hI.2.1 p hp.1) hh)) k
        show cntW (par1 q (pW q) :: ((aL A).erase p).erase q) k = m
        rw [cntW_cons, cntW_cons, if_pos hp.2.1] at e1
        rw [cntW_cons, show pW (par1 q (pW q)) = pW q from rfl]
        omega
      obtain ⟨A', h1, h2⟩ := lv_ex m _ hc hJ hk hj
      exact ⟨A', ⟨p, hp, Or.inl ⟨q, hq, hh, h1⟩⟩, h2⟩
    · have hn : ∀ q ∈ aL A, isHalf p q = false := fun q hq => by
        cases h : isHalf p q
        · rfl
        · exact absurd ⟨q, hq, h⟩ e
      obtain ⟨w, hw⟩ := taker hI hk hj hp hn
      have hwk : w ≠ k := fun e => hk (by rw [← e]; exact hw.1.1)
      have hG := give_inv hI hw.1.1 hp.1 (fun i hi h => absurd h (fun h => nt i hi h)) (aC2 A) (aC3 A + 1)
      have hc : cntW (aL (takeA A p (w + 1))) k = m := by
        have e1 := cntW_perm (List.perm_cons_erase hp.1) k
        show cntW ((pX p, pY p, pD p, w + 1) :: (aL A).erase p) k = m
        rw [cntW_cons, if_pos hp.2.1] at e1
        rw [cntW_cons, if_neg (show ¬ w + 1 = k + 1 by omega)]
        omega
      obtain ⟨A', h1, h2⟩ := lv_ex m _ hc hG hk hj
      exact ⟨A', ⟨p, hp, Or.inr ⟨hn, w, hw, h1⟩⟩, h2⟩
end CW
