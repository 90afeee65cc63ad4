/-! STAGE B, 48: class and reference side by side -/
theorem n10 : ¬ (1 : Int32) = 0 := by decide
theorem y00 : (0 : Int32) = 0 := rfl
theorem isPoint2 (x y : Int32) : (∃ a b : Nat, a < 64 ∧ b < 64 ∧ x = iI (a : Int) ∧ y = iI (b : Int) ∧ f5_isPoint x y = some 1 ∧ f6_isPoint x y = some 1) ∨ (f5_isPoint x y = some 0 ∧ f6_isPoint x y = some 0) := by
  obtain ⟨a, a1, a2, rfl⟩ := iI_of x
  obtain ⟨b, b1, b2, rfl⟩ := iI_of y
  unfold f5_isPoint f5_isPoint_b24 f5_isPoint_b25 f6_isPoint f6_isPoint_b24 f6_isPoint_b25
  rw [show (63 : Int32) = iI 63 from rfl, q0, q64, m_in a1 a2 (by omega) (by omega) (by omega) (by omega), bnd_s, m_in b1 b2 (by omega) (by omega) (by omega) (by omega), bnd_s]
  by_cases ha : 0 ≤ a ∧ a ≤ 63
  · rw [decide_eq_true ha, if_neg (by rw [iI_lt (by omega) (by omega) (by omega) (by omega)]; omega), if_neg (by rw [iI_le (by omega) (by omega) (by omega) (by omega)]; omega), if_neg (show ¬ b2i true = iI 0 by decide)]
    by_cases hb : 0 ≤ b ∧ b ≤ 63
    · rw [decide_eq_true hb, if_neg (by rw [iI_lt (by omega) (by omega) (by omega) (by omega)]; omega), if_neg (by rw [iI_le (by omega) (by omega) (by omega) (by omega)]; omega), if_neg (show ¬ b2i true = iI 0 by decide), isz_1]
      refine Or.inl ⟨a.toNat, b.toNat, by omega, by omega, ?_, ?_, rfl, rfl⟩
      · congr 1; omega
      · congr 1; omega
    · refine Or.inr ?_
      rw [decide_eq_false hb, if_pos (show b2i false = iI 0 from rfl)]
      refine ⟨?_, by first | rfl | exact isz_0 _⟩
      by_cases h1 : b < 0
      · rw [if_pos (by rw [iI_lt (by omega) (by omega) (by omega) (by omega)]; omega)]; first | rfl | exact isz_0 _
      · rw [if_neg (by rw [iI_lt (by omega) (by omega) (by omega) (by omega)]; omega), if_pos (by rw [iI_le (by omega) (by omega) (by omega) (by omega)]; omega)]; first | rfl | exact isz_0 _
  · refine Or.inr ?_
    rw [decide_eq_false ha, if_pos (show b2i false = iI 0 from rfl)]
    refine ⟨?_, by first | rfl | exact isz_0 _⟩
    by_cases h1 : a < 0
    · rw [if_pos (by rw [iI_lt (by omega) (by omega) (by omega) (by omega)]; omega)]; first | rfl | exact isz_0 _
    · rw [if_neg (by rw [iI_lt (by omega) (by omega) (by omega) (by omega)]; omega), if_pos (by rw [iI_le (by omega) (by omega) (by omega) (by omega)]; omega)]; first | rfl | exact isz_0 _
theorem isHere2 {S M : St} {A : Ab} {g : Nat} (hC : CmC S 0 A) (hV : VmV (M.2 0) A) (hI : InvG g A) (z : Int32) : (∃ k, Here A k ∧ z = iI (k : Int) ∧ f0_isHere S 0 z = some 1 ∧ f6_isHere M z = some 1) ∨ (f0_isHere S 0 z = some 0 ∧ f6_isHere M z = some 0) := by
  have h16 := hI.1.1
  rcases r_isHere hC hI z with ⟨k, h1, h2, h3⟩ | ⟨h1, h2⟩
  · rcases m_isHere hV hI z with ⟨k2, g1, g2, g3⟩ | ⟨g1, g2⟩
    · exact Or.inl ⟨k, h1, h2, h3, g3⟩
    · exact absurd h2 (g1 k h1)
  · rcases m_isHere hV hI z with ⟨k2, g1, g2, g3⟩ | ⟨g1, g2⟩
    · exact absurd g2 (h1 k2 g1)
    · exact Or.inr ⟨h2, g2⟩
theorem isSong2 {S M : St} {A : Ab} {g : Nat} (hC : CmC S 0 A) (hV : VmV (M.2 0) A) (hI : InvG g A) (z : Int32) : (∃ k, k < aS A ∧ z = iI (k : Int) ∧ f0_isSong S 0 z = some 1 ∧ f6_isSong M z = some 1) ∨ (f0_isSong S 0 z = some 0 ∧ f6_isSong M z = some 0) := by
  have h20 := hI.1.2
  obtain ⟨a, a1, a2, rfl⟩ := iI_of z
  unfold f0_isSong f0_isSong_b16 f0_isSong_b17 f6_isSong
  have e : (iI (aS A : Int) - 1 : Int32) = iI ((aS A : Int) - 1) := by rw [q1, iI_sub]
  rw [m_s hV, e, hC.2.1, q0, m_in a1 a2 (by omega) (by omega) (by omega) (by omega), bnd_s, isz_b]
  by_cases ha : 0 ≤ a ∧ a ≤ (aS A : Int) - 1
  · refine Or.inl ⟨a.toNat, by omega, by congr 1; omega, ?_, by rw [decide_eq_true ha]; rfl⟩
    rw [if_neg (by rw [iI_lt (by omega) (by omega) (by omega) (by omega)]; omega), if_neg (by rw [iI_le (by omega) (by omega) (by omega) (by omega)]; omega), isz_1]
  · refine Or.inr ⟨?_, by rw [decide_eq_false ha]; rfl⟩
    by_cases h1 : a < 0
    · rw [if_pos (by rw [iI_lt (by omega) (by omega) (by omega) (by omega)]; omega)]; first | rfl | exact isz_0 _
    · rw [if_neg (by rw [iI_lt (by omega) (by omega) (by omega) (by omega)]; omega), if_pos (by rw [iI_le (by omega) (by omega) (by omega) (by omega)]; omega)]; first | rfl | exact isz_0 _
def SnC (S : St) : Option Ab → Prop
  | none => S.1 42 = 0
  | some B => S.1 42 = 1 ∧ CampC S 2 B
def SnM (M : St) : Option Ab → Prop
  | none => M.1 2 = 0
  | some B => M.1 2 = 1 ∧ VecV (M.2 3) B
def GI (A : Ab) (H : List Ab) (sn : Option Ab) (T : List Nat) : Prop := Inv A ∧ (∀ B ∈ H, Inv B) ∧ (∀ B, sn = some B → Inv B) ∧ TxI T
def GC (S : St) (A : Ab) (H : List Ab) (sn : Option Ab) (T : List Nat) : Prop := CampC S 0 A ∧ HistC S H ∧ SnC S sn ∧ TxC S T
def GM (M : St) (A : Ab) (H : List Ab) (sn : Option Ab) (T : List Nat) : Prop := VecV (M.2 0) A ∧ HistM M H ∧ SnM M sn ∧ TxM M T
def Rel (S M : St) : Prop := ∃ A H sn T, GI A H sn T ∧ GC S A H sn T ∧ GM M A H sn T
section G1
variable {S S' M M' : St} {A A' : Ab} {H : List Ab} {sn : Option Ab} {T : List Nat}
theorem GI.act (h : GI A H sn T) (hA : Inv A') : GI A' ((A :: H).take 4) sn T := ⟨hA, fun B hB => by
  rcases List.mem_cons.mp (List.mem_of_mem_take hB) with e | e
  · rw [e]; exact h.1
  · exact h.2.1 B e, h.2.2.1, h.2.2.2⟩
theorem SnC.cg (h : SnC S sn) (h1 : S'.1 42 = S.1 42) (h2 : ∀ B, CampC S 2 B → CampC S' 2 B) : SnC S' sn := by
  cases sn with
  | none => exact h1.trans h
  | some B => exact ⟨h1.trans h.1, h2 B h.2⟩
theorem SnM.cg (h : SnM M sn) (h1 : M'.1 2 = M.1 2) (h2 : M'.2 3 = M.2 3) : SnM M' sn := by
  cases sn with
  | none => exact h1.trans h
  | some B => exact ⟨h1.trans h.1, by rw [h2]; exact h.2⟩
theorem TxC.cg (h : TxC S T) (h1 : S'.1 45 = S.1 45) (h2 : S'.2 70 = S.2 70) : TxC S' T := ⟨h1.trans h.1, fun i c hi => by rw [h2]; exact h.2 i c hi⟩
theorem TxM.cg (h : TxM M T) (h1 : M'.1 3 = M.1 3) (h2 : M'.2 4 = M.2 4) : TxM M' T := ⟨h1.trans h.1, fun i c hi => by rw [h2]; exact h.2 i c hi⟩
theorem GC.fr0 (h : GC S A H sn T) (hf : FrC S S' 0) (hA : CampC S' 0 A') : GC S' A' H sn T :=
  ⟨hA, h.2.1.fr hf (by omega), h.2.2.1.cg (hf.1 42 (by omega)) (fun B hB => hB.fr hf (by omega)), h.2.2.2.cg (hf.1 45 (by omega)) (hf.2 70 (by omega))⟩
theorem GC.fr1 (h : GC S A H sn T) (hf : FrC S S' 1) : GC S' A H sn T :=
  ⟨h.1.fr hf (by omega), h.2.1.fr hf (by omega), h.2.2.1.cg (hf.1 42 (by omega)) (fun B hB => hB.fr hf (by omega)), h.2.2.2.cg (hf.1 45 (by omega)) (hf.2 70 (by omega))⟩
theorem CampC.cg {c : Nat} (h : CampC S c A) (h1 : ∀ i, 6 * c ≤ i → i < 6 * c + 6 → S'.1 i = S.1 i) (h2 : ∀ r, 10 * c ≤ r → r < 10 * c + 10 → S'.2 r = S.2 r) : CampC S' c A := by
  obtain ⟨⟨L, hp, hP⟩, a, b, d, e, f, g, k⟩ := h
  refine ⟨⟨L, hp, hP.fr (h1 _ (by omega) (by omega)) (fun k hk => h2 _ (by omega) (by omega))⟩, by rw [h1 _ (by omega) (by omega)]; exact a, by rw [h1 _ (by omega) (by omega)]; exact b, by rw [h1 _ (by omega) (by omega)]; exact d, by rw [h1 _ (by omega) (by omega)]; exact e, by rw [h1 _ (by omega) (by omega)]; exact f, fun j hj => ?_, fun j hj => ?_⟩
  · rw [h2 _ (by omega) (by omega), h2 _ (by omega) (by omega), h2 _ (by omega) (by omega)]; exact g j hj
  · rw [h2 _ (by omega) (by omega), h2 _ (by omega) (by omega), h2 _ (by omega) (by omega)]; exact k j hj
/-- recorded, on both sides -/
theorem GC.push (h : GC S A H sn T) (hI : GI A H sn T) : ∃ S1, f2_push S 0 = some S1 ∧ GC S1 A ((A :: H).take 4) sn T ∧ (∀ i, (i < 18 ∨ 45 ≤ i ∨ i = 42) → S1.1 i = S.1 i) ∧ ∀ r, (r < 30 ∨ 70 ≤ r) → S1.2 r = S.2 r := by
  obtain ⟨S1, h1, h2, h3, h4⟩ := r_push h.2.1 h.1 hI.1
  exact ⟨S1, h1, ⟨h.1.cg (fun i a b => h3 i (by omega)) (fun r a b => h4 r (by omega)), h2, h.2.2.1.cg (h3 42 (by omega)) (fun B hB => hB.cg (fun i a b => h3 i (by omega)) (fun r a b => h4 r (by omega))), h.2.2.2.cg (h3 45 (by omega)) (h4 70 (by omega))⟩, h3, h4⟩
theorem GM.rec (h : GM M A H sn T) (hI : GI A H sn T) : ∃ M1, f6_records M = some M1 ∧ GM M1 A ((A :: H).take 4) sn T ∧ (∀ i, i ≠ 1 → M1.1 i = M.1 i) ∧ ∀ r, r ≠ 2 → M1.2 r = M.2 r := by
  obtain ⟨M1, h1, h2, h3, h4⟩ := m_records h.2.1 hI.2.1 h.1 hI.1
  exact ⟨M1, h1, ⟨by rw [h4 0 (by omega)]; exact h.1, h2, h.2.2.1.cg (h3 2 (by omega)) (h4 3 (by omega)), h.2.2.2.cg (h3 3 (by omega)) (h4 4 (by omega))⟩, h3, h4⟩
theorem GM.cg (h : GM M A H sn T) (h1 : M'.1 1 = M.1 1) (h2 : M'.1 2 = M.1 2) (h3 : M'.1 3 = M.1 3) (g2 : M'.2 2 = M.2 2) (g3 : M'.2 3 = M.2 3) (g4 : M'.2 4 = M.2 4) (hA : VecV (M'.2 0) A') : GM M' A' H sn T :=
  ⟨hA, h.2.1.cg h1 g2, h.2.2.1.cg h2 g3, h.2.2.2.cg h3 g4⟩
theorem GM.fr (h : GM M A H sn T) (hf : FrM M M') (hA : VecV (M'.2 0) A') : GM M' A' H sn T :=
  h.cg (by rw [hf.1]) (by rw [hf.1]) (by rw [hf.1]) (hf.2 2 (by omega)) (hf.2 3 (by omega)) (hf.2 4 (by omega)) hA
theorem GM.t0 (h : GM M A H sn T) : GM (sI M 0 0) A H sn T :=
  h.cg (sI_ne _ _ (by omega)) (sI_ne _ _ (by omega)) (sI_ne _ _ (by omega)) rfl rfl rfl h.1
theorem GM.frR (h : GM M A H sn T) (hf : FrR M M') : GM M' A H sn T :=
  h.cg (hf.1 1 (by omega) (by omega) (by omega)) (hf.1 2 (by omega) (by omega) (by omega)) (hf.1 3 (by omega) (by omega) (by omega)) (hf.2 2 (by omega) (by omega)) (hf.2 3 (by omega) (by omega)) (hf.2 4 (by omega) (by omega)) (by rw [hf.2 0 (by omega) (by omega)]; exact h.1)
end G1
/-- both answer alike, and stay alike -/
def QA (o5 : Option (Int32 × St)) (o6 : Option (Int32 × St)) : Prop := ∃ r S' M', o5 = some (r, S') ∧ o6 = some (r, M') ∧ Rel S' M'
def QQ (o5 : Option Int32) (o6 : Option (Int32 × St)) (S : St) : Prop := ∃ r M', o5 = some r ∧ o6 = some (r, M') ∧ Rel S M'
