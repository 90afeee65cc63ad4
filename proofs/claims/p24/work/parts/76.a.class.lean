/-! p24, 1: the class alone: what it holds beside its camp -/
theorem n10 : ¬ (1 : Int32) = 0 := by decide
theorem y00 : (0 : Int32) = 0 := rfl
def tldW (w : Nat) : Int := if w = 0 then 100 else (w : Int) - 1
def hereB (A : Ab) (k : Nat) : Bool := decide (k < aN A) && aH A k == 1
theorem hereB_iff {A : Ab} {k : Nat} : hereB A k = true ↔ Here A k := by unfold hereB Here; simp
theorem any_perm {α : Type} {L L' : List α} (h : L.Perm L') (f : α → Bool) : L.any f = L'.any f := by
  rw [Bool.eq_iff_iff, List.any_eq_true, List.any_eq_true]
  exact ⟨fun ⟨x, h1, h2⟩ => ⟨x, h.mem_iff.mp h1, h2⟩, fun ⟨x, h1, h2⟩ => ⟨x, h.mem_iff.mpr h1, h2⟩⟩
theorem nbr_perm {L L' : List Pl} (h : L.Perm L') (k o : Nat) : nbr L k o = nbr L' k o := by
  unfold nbr
  rw [any_perm h]
  congr 1
  funext p
  rw [any_perm h]
theorem foldl_max_perm {L L' : List Pl} (h : L.Perm L') (a : Nat) : L.foldl (fun b p => max b (pD p)) a = L'.foldl (fun b p => max b (pD p)) a :=
  h.foldl_eq' (fun x _ y _ z => by omega) a
theorem foldl_min_perm {L L' : List Pl} (h : L.Perm L') (a : Nat) : L.foldl (fun b p => min b (pD p)) a = L'.foldl (fun b p => min b (pD p)) a :=
  h.foldl_eq' (fun x _ y _ z => by omega) a
theorem ispt (x y : Int32) : (∃ a b : Nat, a < 64 ∧ b < 64 ∧ x = iI (a : Int) ∧ y = iI (b : Int) ∧ f5_isPoint x y = some 1) ∨ f5_isPoint x y = some 0 := by
  obtain ⟨a, a1, a2, rfl⟩ := iI_of x
  obtain ⟨b, b1, b2, rfl⟩ := iI_of y
  unfold f5_isPoint f5_isPoint_b24 f5_isPoint_b25
  rw [q0, q64]
  by_cases ha : 0 ≤ a ∧ a ≤ 63
  · rw [if_neg (by rw [iI_lt (by omega) (by omega) (by omega) (by omega)]; omega), if_neg (by rw [iI_le (by omega) (by omega) (by omega) (by omega)]; omega)]
    by_cases hb : 0 ≤ b ∧ b ≤ 63
    · rw [if_neg (by rw [iI_lt (by omega) (by omega) (by omega) (by omega)]; omega), if_neg (by rw [iI_le (by omega) (by omega) (by omega) (by omega)]; omega), isz_1]
      refine Or.inl ⟨a.toNat, b.toNat, by omega, by omega, ?_, ?_, rfl⟩
      · congr 1; omega
      · congr 1; omega
    · refine Or.inr ?_
      by_cases h1 : b < 0
      · rw [if_pos (by rw [iI_lt (by omega) (by omega) (by omega) (by omega)]; omega)]; first | rfl | exact isz_0 _
      · rw [if_neg (by rw [iI_lt (by omega) (by omega) (by omega) (by omega)]; omega), if_pos (by rw [iI_le (by omega) (by omega) (by omega) (by omega)]; omega)]; first | rfl | exact isz_0 _
  · refine Or.inr ?_
    by_cases h1 : a < 0
    · rw [if_pos (by rw [iI_lt (by omega) (by omega) (by omega) (by omega)]; omega)]; first | rfl | exact isz_0 _
    · rw [if_neg (by rw [iI_lt (by omega) (by omega) (by omega) (by omega)]; omega), if_pos (by rw [iI_le (by omega) (by omega) (by omega) (by omega)]; omega)]; first | rfl | exact isz_0 _
theorem isptY {x y : Nat} (hx : x < 64) (hy : y < 64) : f5_isPoint (iI (x : Int)) (iI (y : Int)) = some 1 := by
  unfold f5_isPoint f5_isPoint_b24 f5_isPoint_b25
  rw [q0, q64, if_neg (by rw [iI_lt (by omega) (by omega) (by omega) (by omega)]; omega), if_neg (by rw [iI_le (by omega) (by omega) (by omega) (by omega)]; omega), if_neg (by rw [iI_lt (by omega) (by omega) (by omega) (by omega)]; omega), if_neg (by rw [iI_le (by omega) (by omega) (by omega) (by omega)]; omega), isz_1]
section H1
variable {S : St} {c : Nat} {A : Ab}
theorem hereY (hC : CmC S c A) (hI : Inv A) {k : Nat} (hk : Here A k) : f0_isHere S c (iI (k : Int)) = some 1 := by
  rw [r_isHereK hC hI hk.1, hk.2]; rfl
theorem hereN (hC : CmC S c A) (hI : Inv A) {z : Int32} (h : ¬ ∃ k, Here A k ∧ z = iI (k : Int)) : f0_isHere S c z = some 0 := by
  rcases r_isHere hC hI z with ⟨k, h1, h2, h3⟩ | ⟨h1, h2⟩
  · exact absurd ⟨k, h1, h2⟩ h
  · exact h2
theorem songY (hC : CmC S c A) (hI : Inv A) {k : Nat} (hk : k < aS A) : f0_isSong S c (iI (k : Int)) = some 1 := by
  have h20 := hI.1.2
  unfold f0_isSong f0_isSong_b16 f0_isSong_b17
  rw [hC.2.1, q0, if_neg (by rw [iI_lt (by omega) (by omega) (by omega) (by omega)]; omega), if_neg (by rw [iI_le (by omega) (by omega) (by omega) (by omega)]; omega), isz_1]
theorem songN (hC : CmC S c A) (hI : Inv A) {z : Int32} (h : ¬ ∃ k, k < aS A ∧ z = iI (k : Int)) : f0_isSong S c z = some 0 := by
  have h20 := hI.1.2
  obtain ⟨a, a1, a2, rfl⟩ := iI_of z
  unfold f0_isSong f0_isSong_b16 f0_isSong_b17
  rw [hC.2.1, q0]
  by_cases h1 : a < 0
  · rw [if_pos (by rw [iI_lt (by omega) (by omega) (by omega) (by omega)]; omega)]; first | rfl | exact isz_0 _
  · rw [if_neg (by rw [iI_lt (by omega) (by omega) (by omega) (by omega)]; omega)]
    have h2 : (aS A : Int) ≤ a := by
      refine Int.not_lt.mp fun q => h ⟨a.toNat, by omega, by congr 1; omega⟩
    rw [if_pos (by rw [iI_le (by omega) (by omega) (by omega) (by omega)]; omega)]; first | rfl | exact isz_0 _
end H1
def SnC (S : St) : Option Ab → Prop
  | none => S.1 42 = 0
  | some B => S.1 42 = 1 ∧ CampC S 2 B
def GI (A : Ab) (H : List Ab) (sn : Option Ab) (T : List Nat) : Prop := Inv A ∧ (∀ B ∈ H, Inv B) ∧ (∀ B, sn = some B → Inv B) ∧ TxI T
def GC (S : St) (A : Ab) (H : List Ab) (sn : Option Ab) (T : List Nat) : Prop := CampC S 0 A ∧ HistC S H ∧ SnC S sn ∧ TxC S T
section G1
variable {S S' : St} {A A' : Ab} {H : List Ab} {sn : Option Ab} {T : List Nat}
theorem GI.act (h : GI A H sn T) (hA : Inv A') : GI A' ((A :: H).take 4) sn T := ⟨hA, fun B hB => by
  rcases List.mem_cons.mp (List.mem_of_mem_take hB) with e | e
  · rw [e]; exact h.1
  · exact h.2.1 B e, h.2.2.1, h.2.2.2⟩
theorem SnC.cg (h : SnC S sn) (h1 : S'.1 42 = S.1 42) (h2 : ∀ B, CampC S 2 B → CampC S' 2 B) : SnC S' sn := by
  cases sn with
  | none => exact h1.trans h
  | some B => exact ⟨h1.trans h.1, h2 B h.2⟩
theorem TxC.cg (h : TxC S T) (h1 : S'.1 45 = S.1 45) (h2 : S'.2 70 = S.2 70) : TxC S' T := ⟨h1.trans h.1, fun i c hi => by rw [h2]; exact h.2 i c hi⟩
theorem GC.fr0 (h : GC S A H sn T) (hf : FrC S S' 0) (hA : CampC S' 0 A') : GC S' A' H sn T :=
  ⟨hA, h.2.1.fr hf (by omega), h.2.2.1.cg (hf.1 42 (by omega)) (fun B hB => hB.fr hf (by omega)), h.2.2.2.cg (hf.1 45 (by omega)) (hf.2 70 (by omega))⟩
theorem GC.fr1 (h : GC S A H sn T) (hf : FrC S S' 1) : GC S' A H sn T :=
  ⟨h.1.fr hf (by omega), h.2.1.fr hf (by omega), h.2.2.1.cg (hf.1 42 (by omega)) (fun B hB => hB.fr hf (by omega)), h.2.2.2.cg (hf.1 45 (by omega)) (hf.2 70 (by omega))⟩
theorem CampC.cg {c : Nat} (h : CampC S c A) (h1 : ∀ i, 6 * c ≤ i → i < 6 * c + 6 → S'.1 i = S.1 i) (h2 : ∀ r, 10 * c ≤ r → r < 10 * c + 10 → S'.2 r = S.2 r) : CampC S' c A := by
  obtain ⟨⟨L, hp, hP⟩, a, b, d, e, f, g, k⟩ := h
  refine ⟨⟨L, hp, hP.fr (h1 _ (by omega) (by omega)) (fun k hk => h2 _ (by omega) (by omega))⟩, by rw [h1 _ (by omega) (by omega)]; exact a, by rw [h1 _ (by omega) (by omega)]; exact b, by rw [h1 _ (by omega) (by omega)]; exact d, by rw [h1 _ (by omega) (by omega)]; exact e, by rw [h1 _ (by omega) (by omega)]; exact f, fun j hj => ?_, fun j hj => ?_⟩
  · rw [h2 _ (by omega) (by omega), h2 _ (by omega) (by omega), h2 _ (by omega) (by omega)]; exact g j hj
  · rw [h2 _ (by omega) (by omega), h2 _ (by omega) (by omega), h2 _ (by omega) (by omega)]; exact k j hj
theorem GC.push (h : GC S A H sn T) (hI : GI A H sn T) : ∃ S1, f2_push S 0 = some S1 ∧ GC S1 A ((A :: H).take 4) sn T ∧ (∀ i, (i < 18 ∨ 45 ≤ i ∨ i = 42) → S1.1 i = S.1 i) ∧ ∀ r, (r < 30 ∨ 70 ≤ r) → S1.2 r = S.2 r := by
  obtain ⟨S1, h1, h2, h3, h4⟩ := r_push h.2.1 h.1 hI.1
  exact ⟨S1, h1, ⟨h.1.cg (fun i a b => h3 i (by omega)) (fun r a b => h4 r (by omega)), h2, h.2.2.1.cg (h3 42 (by omega)) (fun B hB => hB.cg (fun i a b => h3 i (by omega)) (fun r a b => h4 r (by omega))), h.2.2.2.cg (h3 45 (by omega)) (h4 70 (by omega))⟩, h3, h4⟩
end G1
/-- as many plots as halvings and one, at most -/
def HV (A : Ab) : Prop := ∃ h : Nat, aC1 A = iI (h : Int) ∧ h ≤ 12 * aN A ∧ (aL A).length ≤ h + 1
abbrev Inv2 (A : Ab) : Prop := Inv A ∧ HV A
theorem HV.of {A B : Ab} (h : HV A) (h1 : aC1 B = aC1 A) (h2 : aN B = aN A) (h3 : (aL B).length ≤ (aL A).length) : HV B := by
  obtain ⟨n, a, b, c⟩ := h
  exact ⟨n, by rw [h1]; exact a, by rw [h2]; exact b, by omega⟩
theorem HV.come {A : Ab} (hI : Inv A) (h : HV A) {x y t : Nat} (hx : x < 64) (hy : y < 64) (h16 : aN A < 16) (ht : Cm A x y t) : HV (comeA A x y t) := by
  obtain ⟨n, a, b, c⟩ := h
  have hle := ht.le hI hx hy
  have hm := (plAt_in hI.til hx hy).1
  have hl : ((aL A).erase (plAt (aL A) x y)).length = (aL A).length - 1 := List.length_erase_of_mem hm
  have hpos := List.length_pos_of_mem hm
  refine ⟨n + t, ?_, ?_, ?_⟩
  · show aC1 A + iI (t : Int) = _
    rw [a, iI_add]; rfl
  · show n + t ≤ 12 * (aN A + 1)
    omega
  · show (_ :: (hlv _ _ _ _ t ++ (aL A).erase (plAt (aL A) x y))).length ≤ _
    rw [List.length_cons, List.length_append, hlv_len, hl]
    omega
theorem perm_len2 {L : List Pl} {p q : Pl} (hp : p ∈ L) (hq : q ∈ L) (hn : p ≠ q) : ((L.erase p).erase q).length + 2 = L.length := by
  have h := (perm2 hp hq hn).length_eq
  rw [List.length_cons, List.length_cons] at h
  omega
theorem HV.join {A : Ab} (h : HV A) {p q : Pl} (hp : p ∈ aL A) (hq : q ∈ aL A) (hn : p ≠ q) (w : Nat) : HV (joinA A p q w) := by
  refine h.of rfl rfl ?_
  have := perm_len2 hp hq hn
  show (_ :: ((aL A).erase p).erase q).length ≤ _
  rw [List.length_cons]
  omega
theorem HV.set {A : Ab} (h : HV A) {p : Pl} (hp : p ∈ aL A) (w : Nat) (c2 c3 : Int32) : HV (plA A ((pX p, pY p, pD p, w) :: (aL A).erase p) c2 c3) := by
  refine h.of rfl rfl ?_
  have hl := List.length_erase_of_mem hp
  have hpos := List.length_pos_of_mem hp
  show (_ :: (aL A).erase p).length ≤ _
  rw [List.length_cons, hl]
  omega
theorem HV.lv {k : Nat} : ∀ (m : Nat) (A A' : Ab), (∀ p ∈ aL A, OkP p) → Lv k m A A' → HV A → HV A'
  | 0, A, A', _, h, hv => by
    have h : (∀ p ∈ aL A, pW p ≠ k + 1) ∧ A' = A := h
    rw [h.2]; exact hv
  | m + 1, A, A', hO, h, hv => by
    obtain ⟨p, hb, h | h⟩ := h
    · obtain ⟨q, hq, hh, h2⟩ := h
      have hn := half_ne (hO p hb.1) hh
      refine HV.lv m _ _ ?_ h2 (hv.join hb.1 hq hn _)
      intro r hr
      have hr2 : r = par1 q (pW q) ∨ r ∈ ((aL A).erase p).erase q := List.mem_cons.mp hr
      rcases hr2 with e | e
      · have hqo := hO q hq
        have hqb := hqo.b
        rw [e]
        exact prt_ok (by omega) (by omega) (by omega) (by omega)
      · exact hO r (List.mem_of_mem_erase (List.mem_of_mem_erase e))
    · obtain ⟨-, w, hw, h2⟩ := h
      refine HV.lv m _ _ ?_ h2 (hv.set hb.1 _ _ _)
      intro r hr
      have hr2 : r = (pX p, pY p, pD p, w + 1) ∨ r ∈ (aL A).erase p := List.mem_cons.mp hr
      rcases hr2 with e | e
      · have hpo := hO p hb.1
        rw [e]
        have : w < 16 ∨ 16 ≤ w := by omega
        rcases this with h9 | h9
        · exact ⟨hpo.1, hpo.2.1, hpo.2.2.1, hpo.2.2.2.1, hpo.2.2.2.2.1, by show w + 1 ≤ 16; omega⟩
        · obtain ⟨-, q, hq, -, h8⟩ := hw.1
          have := (hO q hq).b
          omega
      · exact hO r (List.mem_of_mem_erase e)
