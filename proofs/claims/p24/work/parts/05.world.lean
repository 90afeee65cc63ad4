/-! THE WORLD: every object that a TentFields holds, in one list of cells, out of a state
(numbers by place, arrays by place) S; M is not used. -/
abbrev St : Type := (Nat → Int32) × (Nat → Nat → Int32)
def sI (S : St) (i : Nat) (v : Int32) : St := (upd S.1 i v, S.2)
def sA (S : St) (r : Nat) (k : Nat) (v : Int32) : St := (S.1, va_up S.2 r (upd (S.2 r) k v))
abbrev WG : Type := va_G × (Nat → Nat) × ClassId × ClassId × ClassId
abbrev gad (G : WG) : Nat → Nat := G.2.1
abbrev gI (G : WG) : ClassId := G.2.2.1
abbrev gC (G : WG) : ClassId := G.2.2.2.1
abbrev gR (G : WG) : ClassId := G.2.2.2.2
def rlen (r : Nat) : Nat := if r % 10 < 4 then 181 else if r % 10 < 7 then 16 else 20
abbrev eCamp (G : WG) (S : St) (c : Nat) : va_E := .inr (0, [.ref (gad G (7 + c)), .ref (gad G (14 + (10 * c + 4))), .ref (gad G (14 + (10 * c + 5))), .ref (gad G (14 + (10 * c + 6))), .ref (gad G (14 + (10 * c + 7))), .ref (gad G (14 + (10 * c + 8))), .ref (gad G (14 + (10 * c + 9))), .int (S.1 (6 * c + 1)), .int (S.1 (6 * c + 2)), .int (S.1 (6 * c + 3)), .int (S.1 (6 * c + 4)), .int (S.1 (6 * c + 5))])
abbrev ePlots (G : WG) (S : St) (c : Nat) : va_E := .inr (3, [.ref (gad G (14 + (10 * c + 0))), .ref (gad G (14 + (10 * c + 1))), .ref (gad G (14 + (10 * c + 2))), .ref (gad G (14 + (10 * c + 3))), .int (S.1 (6 * c + 0))])
abbrev eRow (G : WG) (r : Nat) : va_E := .inr (4, [.ref (gad G (84 + r))])
abbrev eArr (G : WG) (S : St) (r : Nat) : va_E := .inl (gI G, (rlen r, .inl (S.2 r)))
abbrev eTent (G : WG) (S : St) : va_E := .inr (5, [.ref (gad G 0), .ref (gad G 1), .ref (gad G 2), .ref (gad G 155), .ref (gad G 157), .int (S.1 42)])
abbrev eHist (G : WG) (S : St) : va_E := .inr (2, [.ref (gad G 156), .int (S.1 43), .int (S.1 44)])
abbrev eStates (G : WG) : va_E := .inl (gR G, (4, .inr (.inr (.inr (.inr (fun j => some (gad G (3 + j))))))))
abbrev eText (G : WG) (S : St) : va_E := .inr (1, [.ref (gad G 158), .int (S.1 45)])
abbrev eChars (G : WG) (S : St) : va_E := .inl (gC G, (60, .inl (S.2 70)))
def wcell (G : WG) (S M : St) (k : Nat) : va_E :=
  if k < 7 then eCamp G S k
  else if k < 14 then ePlots G S (k - 7)
  else if k < 84 then eRow G (k - 14)
  else if k < 154 then eArr G S (k - 84)
  else if k = 154 then eTent G S
  else if k = 155 then eHist G S
  else if k = 156 then eStates G
  else if k = 157 then eText G S
  else if k = 158 then eChars G S
  else eRow G 0
def wL (G : WG) (S M : St) : va_W := (List.range 159).map (fun k => (gad G k, wcell G S M k))
theorem wL_get (G : WG) (S M : St) {k : Nat} (h : k < 159) : (wL G S M)[k]? = some (gad G k, wcell G S M k) := by
  simp [wL, List.getElem?_map, List.getElem?_range h]
theorem wL_set (G : WG) (S M S' M' : St) {k : Nat} {e : va_E} (h : k < 159) (he : wcell G S' M' k = e) (hne : ∀ j, j < 159 → j ≠ k → wcell G S' M' j = wcell G S M j) : (wL G S M).set k (gad G k, e) = wL G S' M' := by
  apply List.ext_getElem?
  intro j
  rw [List.getElem?_set]
  by_cases hj : k = j
  · subst hj
    rw [if_pos rfl, wL_get G S' M' h, he]
    simp [wL, h]
  · rw [if_neg hj]
    by_cases h2 : j < 159
    · rw [wL_get G S M h2, wL_get G S' M' h2, hne j h2 (fun q => hj q.symm)]
    · simp [wL, h2]
def Aw (G : WG) : Nat → Prop := fun q => ∃ k, k < 159 ∧ q = gad G k
def WD (G : WG) (S M : St) (H : Heap) : Prop := va_P G.1 vwCl (wL G S M) H ∧ ∀ i j, i < 159 → j < 159 → gad G i = gad G j → i = j
theorem WD.D {G : WG} {S M : St} {H : Heap} (h : WD G S M H) {A : Nat → Prop} (hA : ∀ q, Aw G q → A q) : va_D A (wL G S M) := by
  have key : ∀ (k : Nat) (q : Nat × va_E), (wL G S M)[k]? = some q → k < 159 ∧ q.1 = gad G k := by
    intro k q hk
    have hl : k < (wL G S M).length := (List.getElem?_eq_some_iff.mp hk).1
    have h1 : k < 159 := by simpa [wL] using hl
    rw [wL_get G S M h1] at hk
    exact ⟨h1, by rw [← Option.some.inj hk]⟩
  refine ⟨fun i j p q hi hj hpq => ?_, fun k q hk => ?_⟩
  · obtain ⟨h1, h2⟩ := key i p hi
    obtain ⟨h3, h4⟩ := key j q hj
    exact h.2 i j h1 h3 (by rw [← h2, ← h4]; exact hpq)
  · obtain ⟨h1, h2⟩ := key k q hk
    exact hA _ ⟨k, h1, h2⟩
section LK
variable {G : WG} {S M : St} {c r j : Nat}
theorem lkC (hc : c < 7) : (wL G S M)[c]? = some (gad G c, eCamp G S c) := by
  rw [wL_get G S M (by omega)]
  simp only [wcell, if_pos hc]
theorem lkP (hc : c < 7) : (wL G S M)[7 + c]? = some (gad G (7 + c), ePlots G S c) := by
  rw [wL_get G S M (by omega)]
  simp only [wcell, if_neg (show ¬ 7 + c < 7 by omega), if_pos (show 7 + c < 14 by omega), Nat.add_sub_cancel_left]
theorem lkR (hr : r < 70) : (wL G S M)[14 + r]? = some (gad G (14 + r), eRow G r) := by
  rw [wL_get G S M (by omega)]
  simp only [wcell, if_neg (show ¬ 14 + r < 7 by omega), if_neg (show ¬ 14 + r < 14 by omega), if_pos (show 14 + r < 84 by omega), Nat.add_sub_cancel_left]
theorem lkA (hr : r < 70) : (wL G S M)[84 + r]? = some (gad G (84 + r), eArr G S r) := by
  rw [wL_get G S M (by omega)]
  simp only [wcell, if_neg (show ¬ 84 + r < 7 by omega), if_neg (show ¬ 84 + r < 14 by omega), if_neg (show ¬ 84 + r < 84 by omega), if_pos (show 84 + r < 154 by omega), Nat.add_sub_cancel_left]
theorem lkT : (wL G S M)[154]? = some (gad G 154, eTent G S) := by
  rw [wL_get G S M (by omega)]
  simp [wcell]
theorem lkH : (wL G S M)[155]? = some (gad G 155, eHist G S) := by
  rw [wL_get G S M (by omega)]
  simp [wcell]
theorem lkS : (wL G S M)[156]? = some (gad G 156, eStates G) := by
  rw [wL_get G S M (by omega)]
  simp [wcell]
theorem lkX : (wL G S M)[157]? = some (gad G 157, eText G S) := by
  rw [wL_get G S M (by omega)]
  simp [wcell]
theorem lkXa : (wL G S M)[158]? = some (gad G 158, eChars G S) := by
  rw [wL_get G S M (by omega)]
  simp [wcell]
end LK
/-- which cell a number of the class lies in; which one a number of the reference -/
def ownI (i : Nat) : Nat := if i < 42 then (if i % 6 = 0 then 7 + i / 6 else i / 6) else if i = 42 then 154 else if i < 45 then 155 else 157
def ownA (r : Nat) : Nat := if r < 70 then 84 + r else 158
theorem sI_ne (S : St) {i q : Nat} (v : Int32) (h : q ≠ i) : (sI S i v).1 q = S.1 q := pk_un h
theorem sI_eq (S : St) (i : Nat) (v : Int32) : (sI S i v).1 i = v := pk_us
theorem sI_2 (S : St) (i : Nat) (v : Int32) : (sI S i v).2 = S.2 := rfl
theorem sA_1 (S : St) (r k : Nat) (v : Int32) : (sA S r k v).1 = S.1 := rfl
theorem sA_ne (S : St) {r q : Nat} (k : Nat) (v : Int32) (h : q ≠ r) : (sA S r k v).2 q = S.2 q := va_up_ne _ _ h
theorem sA_eq (S : St) (r k : Nat) (v : Int32) : (sA S r k v).2 r = upd (S.2 r) k v := va_up_self _ _ _
theorem wcell_sI (G : WG) (S M : St) {i j : Nat} (v : Int32) (hi : i < 46) (hj : j ≠ ownI i) : wcell G (sI S i v) M j = wcell G S M j := by
  have hne : ∀ q, ownI q = j → (sI S i v).1 q = S.1 q := fun q hq => sI_ne S v (fun e => hj (by rw [← e, hq]))
  unfold wcell
  by_cases h1 : j < 7
  · rw [if_pos h1, if_pos h1]
    have e : ∀ a, a < 6 → 0 < a → (sI S i v).1 (6 * j + a) = S.1 (6 * j + a) := fun a ha h0 => hne _ (by
      unfold ownI
      rw [if_pos (by omega), if_neg (by omega)]
      omega)
    unfold eCamp
    rw [e 1 (by omega) (by omega), e 2 (by omega) (by omega), e 3 (by omega) (by omega), e 4 (by omega) (by omega), e 5 (by omega) (by omega)]
  · rw [if_neg h1, if_neg h1]
    by_cases h2 : j < 14
    · rw [if_pos h2, if_pos h2]
      unfold ePlots
      rw [hne (6 * (j - 7) + 0) (by unfold ownI; rw [if_pos (by omega), if_pos (by omega)]; omega)]
    · rw [if_neg h2, if_neg h2]
      by_cases h3 : j < 84
      · rw [if_pos h3, if_pos h3]
      · rw [if_neg h3, if_neg h3]
        by_cases h4 : j < 154
        · rw [if_pos h4, if_pos h4]
          rfl
        · rw [if_neg h4, if_neg h4]
          by_cases h5 : j = 154
          · rw [if_pos h5, if_pos h5]
            unfold eTent
            rw [hne 42 (by rw [h5]; rfl)]
          · rw [if_neg h5, if_neg h5]
            by_cases h6 : j = 155
            · rw [if_pos h6, if_pos h6]
              unfold eHist
              rw [hne 43 (by rw [h6]; rfl), hne 44 (by rw [h6]; rfl)]
            · rw [if_neg h6, if_neg h6]
              by_cases h7 : j = 156
              · rw [if_pos h7, if_pos h7]
              · rw [if_neg h7, if_neg h7]
                by_cases h8 : j = 157
                · rw [if_pos h8, if_pos h8]
                  unfold eText
                  rw [hne 45 (by rw [h8]; rfl)]
                · rw [if_neg h8, if_neg h8]
                  rfl
theorem wcell_sA (G : WG) (S M : St) {r k j : Nat} (v : Int32) (hr : r < 71) (hj : j ≠ ownA r) : wcell G (sA S r k v) M j = wcell G S M j := by
  have hne : ∀ q, ownA q = j → (sA S r k v).2 q = S.2 q := fun q hq => sA_ne S k v (fun e => hj (by rw [← e, hq]))
  unfold wcell
  by_cases h1 : j < 7
  · rw [if_pos h1, if_pos h1]; rfl
  · rw [if_neg h1, if_neg h1]
    by_cases h2 : j < 14
    · rw [if_pos h2, if_pos h2]; rfl
    · rw [if_neg h2, if_neg h2]
      by_cases h3 : j < 84
      · rw [if_pos h3, if_pos h3]
      · rw [if_neg h3, if_neg h3]
        by_cases h4 : j < 154
        · rw [if_pos h4, if_pos h4]
          unfold eArr
          rw [hne (j - 84) (by unfold ownA; rw [if_pos (by omega)]; omega)]
        · rw [if_neg h4, if_neg h4]
          by_cases h9 : j = 158
          · subst h9
            show eChars G (sA S r k v) = eChars G S
            unfold eChars
            rw [hne 70 rfl]
          · by_cases h5 : j = 154
            · rw [if_pos h5, if_pos h5]; rfl
            · rw [if_neg h5, if_neg h5]
              by_cases h6 : j = 155
              · rw [if_pos h6, if_pos h6]; rfl
              · rw [if_neg h6, if_neg h6]
                by_cases h7 : j = 156
                · rw [if_pos h7, if_pos h7]
                · rw [if_neg h7, if_neg h7]
                  by_cases h8 : j = 157
                  · rw [if_pos h8, if_pos h8]; rfl
                  · rw [if_neg h8, if_neg h8, if_neg h9, if_neg h9]
theorem ite_c {α : Sort _} {c : Prop} [Decidable c] {a b b' : α} (h : ¬ c → b = b') : (if c then a else b) = if c then a else b' := by
  by_cases hc : c
  · rw [if_pos hc, if_pos hc]
  · rw [if_neg hc, if_neg hc]; exact h hc
/-- what a change of one cell makes of the world -/
theorem WD.upS {G : WG} {S S' M : St} {H : Heap} {H0 : Heap} {k : Nat} {e : va_E} (hW : WD G S M H0) (hk : k < 159) (he : wcell G S' M k = e) (hne : ∀ j, j < 159 → j ≠ k → wcell G S' M j = wcell G S M j) (hP : va_P G.1 vwCl ((wL G S M).set k (gad G k, e)) H) : WD G S' M H := by
  rw [wL_set G S M S' M hk he hne] at hP
  exact ⟨hP, hW.2⟩
theorem wc_of {G : WG} {S M : St} {k : Nat} {e : va_E} (hk : k < 159) (h : (wL G S M)[k]? = some (gad G k, e)) : wcell G S M k = e := by
  rw [wL_get G S M hk] at h
  exact congrArg Prod.snd (Option.some.inj h)
section UP
variable {G : WG} {S M : St} {H H0 : Heap} {c r k j : Nat} {v : Int32}
theorem upP0 (hc : c < 7) (hW : WD G S M H0) (hP : va_P G.1 vwCl ((wL G S M).set (7 + c) (gad G (7 + c), .inr (3, [.ref (gad G (14 + (10 * c + 0))), .ref (gad G (14 + (10 * c + 1))), .ref (gad G (14 + (10 * c + 2))), .ref (gad G (14 + (10 * c + 3))), .int v]))) H) : WD G (sI S (6 * c + 0) v) M H := by
  refine hW.upS (by omega) ?_ (fun j h1 h2 => wcell_sI G S M v (by omega) ?_) hP
  · rw [wc_of (by omega) (lkP hc)]
    unfold ePlots
    rw [sI_eq]
  · unfold ownI
    rw [if_pos (by omega), if_pos (by omega)]
    omega
theorem upC1 (hc : c < 7) (hW : WD G S M H0) (hP : va_P G.1 vwCl ((wL G S M).set c (gad G c, .inr (0, [.ref (gad G (7 + c)), .ref (gad G (14 + (10 * c + 4))), .ref (gad G (14 + (10 * c + 5))), .ref (gad G (14 + (10 * c + 6))), .ref (gad G (14 + (10 * c + 7))), .ref (gad G (14 + (10 * c + 8))), .ref (gad G (14 + (10 * c + 9))), .int v, .int (S.1 (6 * c + 2)), .int (S.1 (6 * c + 3)), .int (S.1 (6 * c + 4)), .int (S.1 (6 * c + 5))]))) H) : WD G (sI S (6 * c + 1) v) M H := by
  refine hW.upS (by omega) ?_ (fun j h1 h2 => wcell_sI G S M v (by omega) ?_) hP
  · rw [wc_of (by omega) (lkC hc)]
    unfold eCamp
    rw [sI_eq, sI_ne S v (show 6 * c + 2 ≠ 6 * c + 1 by omega), sI_ne S v (show 6 * c + 3 ≠ 6 * c + 1 by omega), sI_ne S v (show 6 * c + 4 ≠ 6 * c + 1 by omega), sI_ne S v (show 6 * c + 5 ≠ 6 * c + 1 by omega)]
  · unfold ownI
    rw [if_pos (by omega), if_neg (by omega)]
    omega
theorem upC2 (hc : c < 7) (hW : WD G S M H0) (hP : va_P G.1 vwCl ((wL G S M).set c (gad G c, .inr (0, [.ref (gad G (7 + c)), .ref (gad G (14 + (10 * c + 4))), .ref (gad G (14 + (10 * c + 5))), .ref (gad G (14 + (10 * c + 6))), .ref (gad G (14 + (10 * c + 7))), .ref (gad G (14 + (10 * c + 8))), .ref (gad G (14 + (10 * c + 9))), .int (S.1 (6 * c + 1)), .int v, .int (S.1 (6 * c + 3)), .int (S.1 (6 * c + 4)), .int (S.1 (6 * c + 5))]))) H) : WD G (sI S (6 * c + 2) v) M H := by
  refine hW.upS (by omega) ?_ (fun j h1 h2 => wcell_sI G S M v (by omega) ?_) hP
  · rw [wc_of (by omega) (lkC hc)]
    unfold eCamp
    rw [sI_eq, sI_ne S v (show 6 * c + 1 ≠ 6 * c + 2 by omega), sI_ne S v (show 6 * c + 3 ≠ 6 * c + 2 by omega), sI_ne S v (show 6 * c + 4 ≠ 6 * c + 2 by omega), sI_ne S v (show 6 * c + 5 ≠ 6 * c + 2 by omega)]
  · unfold ownI
    rw [if_pos (by omega), if_neg (by omega)]
    omega
theorem upC3 (hc : c < 7) (hW : WD G S M H0) (hP : va_P G.1 vwCl ((wL G S M).set c (gad G c, .inr (0, [.ref (gad G (7 + c)), .ref (gad G (14 + (10 * c + 4))), .ref (gad G (14 + (10 * c + 5))), .ref (gad G (14 + (10 * c + 6))), .ref (gad G (14 + (10 * c + 7))), .ref (gad G (14 + (10 * c + 8))), .ref (gad G (14 + (10 * c + 9))), .int (S.1 (6 * c + 1)), .int (S.1 (6 * c + 2)), .int v, .int (S.1 (6 * c + 4)), .int (S.1 (6 * c + 5))]))) H) : WD G (sI S (6 * c + 3) v) M H := by
  refine hW.upS (by omega) ?_ (fun j h1 h2 => wcell_sI G S M v (by omega) ?_) hP
  · rw [wc_of (by omega) (lkC hc)]
    unfold eCamp
    rw [sI_eq, sI_ne S v (show 6 * c + 1 ≠ 6 * c + 3 by omega), sI_ne S v (show 6 * c + 2 ≠ 6 * c + 3 by omega), sI_ne S v (show 6 * c + 4 ≠ 6 * c + 3 by omega), sI_ne S v (show 6 * c + 5 ≠ 6 * c + 3 by omega)]
  · unfold ownI
    rw [if_pos (by omega), if_neg (by omega)]
    omega
theorem upC4 (hc : c < 7) (hW : WD G S M H0) (hP : va_P G.1 vwCl ((wL G S M).set c (gad G c, .inr (0, [.ref (gad G (7 + c)), .ref (gad G (14 + (10 * c + 4))), .ref (gad G (14 + (10 * c + 5))), .ref (gad G (14 + (10 * c + 6))), .ref (gad G (14 + (10 * c + 7))), .ref (gad G (14 + (10 * c + 8))), .ref (gad G (14 + (10 * c + 9))), .int (S.1 (6 * c + 1)), .int (S.1 (6 * c + 2)), .int (S.1 (6 * c + 3)), .int v, .int (S.1 (6 * c + 5))]))) H) : WD G (sI S (6 * c + 4) v) M H := by
  refine hW.upS (by omega) ?_ (fun j h1 h2 => wcell_sI G S M v (by omega) ?_) hP
  · rw [wc_of (by omega) (lkC hc)]
    unfold eCamp
    rw [sI_eq, sI_ne S v (show 6 * c + 1 ≠ 6 * c + 4 by omega), sI_ne S v (show 6 * c + 2 ≠ 6 * c + 4 by omega), sI_ne S v (show 6 * c + 3 ≠ 6 * c + 4 by omega), sI_ne S v (show 6 * c + 5 ≠ 6 * c + 4 by omega)]
  · unfold ownI
    rw [if_pos (by omega), if_neg (by omega)]
    omega
theorem upC5 (hc : c < 7) (hW : WD G S M H0) (hP : va_P G.1 vwCl ((wL G S M).set c (gad G c, .inr (0, [.ref (gad G (7 + c)), .ref (gad G (14 + (10 * c + 4))), .ref (gad G (14 + (10 * c + 5))), .ref (gad G (14 + (10 * c + 6))), .ref (gad G (14 + (10 * c + 7))), .ref (gad G (14 + (10 * c + 8))), .ref (gad G (14 + (10 * c + 9))), .int (S.1 (6 * c + 1)), .int (S.1 (6 * c + 2)), .int (S.1 (6 * c + 3)), .int (S.1 (6 * c + 4)), .int v]))) H) : WD G (sI S (6 * c + 5) v) M H := by
  refine hW.upS (by omega) ?_ (fun j h1 h2 => wcell_sI G S M v (by omega) ?_) hP
  · rw [wc_of (by omega) (lkC hc)]
    unfold eCamp
    rw [sI_eq, sI_ne S v (show 6 * c + 1 ≠ 6 * c + 5 by omega), sI_ne S v (show 6 * c + 2 ≠ 6 * c + 5 by omega), sI_ne S v (show 6 * c + 3 ≠ 6 * c + 5 by omega), sI_ne S v (show 6 * c + 4 ≠ 6 * c + 5 by omega)]
  · unfold ownI
    rw [if_pos (by omega), if_neg (by omega)]
    omega
theorem upA (hr : r < 70) (hW : WD G S M H0) (hP : va_P G.1 vwCl ((wL G S M).set (84 + r) (gad G (84 + r), .inl (gI G, (rlen r, .inl (upd (S.2 r) k v))))) H) : WD G (sA S r k v) M H := by
  refine hW.upS (by omega) ?_ (fun j h1 h2 => wcell_sA G S M v (by omega) ?_) hP
  · rw [wc_of (by omega) (lkA hr)]
    unfold eArr
    rw [sA_eq]
  · unfold ownA
    rw [if_pos hr]
    exact h2
theorem upT (hW : WD G S M H0) (hP : va_P G.1 vwCl ((wL G S M).set 154 (gad G 154, .inr (5, [.ref (gad G 0), .ref (gad G 1), .ref (gad G 2), .ref (gad G 155), .ref (gad G 157), .int v]))) H) : WD G (sI S 42 v) M H := by
  refine hW.upS (k := 154) (by omega) ?_ (fun j h1 h2 => wcell_sI G S M v (by omega) (show j ≠ ownI 42 from h2)) hP
  rw [wc_of (by omega) lkT]
  unfold eTent
  rw [sI_eq]
theorem upH0 (hW : WD G S M H0) (hP : va_P G.1 vwCl ((wL G S M).set 155 (gad G 155, .inr (2, [.ref (gad G 156), .int v, .int (S.1 44)]))) H) : WD G (sI S 43 v) M H := by
  refine hW.upS (k := 155) (by omega) ?_ (fun j h1 h2 => wcell_sI G S M v (by omega) (show j ≠ ownI 43 from h2)) hP
  rw [wc_of (by omega) lkH]
  unfold eHist
  rw [sI_eq, sI_ne S v (show 44 ≠ 43 by omega)]
theorem upH1 (hW : WD G S M H0) (hP : va_P G.1 vwCl ((wL G S M).set 155 (gad G 155, .inr (2, [.ref (gad G 156), .int (S.1 43), .int v]))) H) : WD G (sI S 44 v) M H := by
  refine hW.upS (k := 155) (by omega) ?_ (fun j h1 h2 => wcell_sI G S M v (by omega) (show j ≠ ownI 44 from h2)) hP
  rw [wc_of (by omega) lkH]
  unfold eHist
  rw [sI_eq, sI_ne S v (show 43 ≠ 44 by omega)]
theorem upX (hW : WD G S M H0) (hP : va_P G.1 vwCl ((wL G S M).set 157 (gad G 157, .inr (1, [.ref (gad G 158), .int v]))) H) : WD G (sI S 45 v) M H := by
  refine hW.upS (k := 157) (by omega) ?_ (fun j h1 h2 => wcell_sI G S M v (by omega) (show j ≠ ownI 45 from h2)) hP
  rw [wc_of (by omega) lkX]
  unfold eText
  rw [sI_eq]
theorem upXa (hW : WD G S M H0) (hP : va_P G.1 vwCl ((wL G S M).set 158 (gad G 158, .inl (gC G, (60, .inl (upd (S.2 70) k v))))) H) : WD G (sA S 70 k v) M H := by
  refine hW.upS (k := 158) (by omega) ?_ (fun j h1 h2 => wcell_sA G S M v (by omega) (show j ≠ ownA 70 from h2)) hP
  rw [wc_of (by omega) lkXa]
  unfold eChars
  rw [sA_eq]
end UP
