/-! STAGE B, 46: texts: what the reference reads -/
def TxM (M : St) (T : List Nat) : Prop := M.1 3 = iI (T.length : Int) ∧ ∀ (i c : Nat), T[i]? = some c → M.2 4 i = iI (c : Int)
def FrR (M M' : St) : Prop := (∀ i, i ≠ 4 → i ≠ 5 → i ≠ 6 → M'.1 i = M.1 i) ∧ ∀ r, r ≠ 5 → r ≠ 6 → M'.2 r = M.2 r
theorem FrR.tr {M M' M'' : St} (h1 : FrR M M') (h2 : FrR M' M'') : FrR M M'' := ⟨fun i a b c => (h2.1 i a b c).trans (h1.1 i a b c), fun r a b => (h2.2 r a b).trans (h1.2 r a b)⟩
theorem TxM.fr {M M' : St} {T : List Nat} (h : TxM M T) (hf : FrR M M') : TxM M' T := ⟨by rw [hf.1 3 (by omega) (by omega) (by omega)]; exact h.1, fun i c hi => by rw [hf.2 4 (by omega) (by omega)]; exact h.2 i c hi⟩
theorem FrR.sI (M : St) {i : Nat} (v : Int32) (h : i = 4 ∨ i = 5 ∨ i = 6) : FrR M (sI M i v) := ⟨fun j a b c => sI_ne _ _ (by omega), fun _ _ _ => rfl⟩
theorem FrR.sA (M : St) {r : Nat} (i : Nat) (v : Int32) (h : r = 5 ∨ r = 6) : FrR M (sA M r i v) := ⟨fun _ _ _ _ => rfl, fun q a b => sA_ne _ _ _ (by omega)⟩
/-- numbers read leave the rows -/
def FrN (M M' : St) : Prop := (∀ i, i ≠ 4 → i ≠ 5 → M'.1 i = M.1 i) ∧ M'.2 = M.2
theorem FrN.R {M M' : St} (h : FrN M M') : FrR M M' := ⟨fun i a b _ => h.1 i a b, fun r _ _ => by rw [h.2]⟩
section T3
variable {M : St} {T : List Nat}
theorem m_sign (hT : TxM M T) (hI : TxI T) {a : Nat} (ha : a < 1000) (h4 : M.1 4 = iI (a : Int)) : f6_sign M = some (iI (ch T a : Int)) := by
  have h60 := hI.1
  unfold f6_sign f6_sign_b24
  rw [hT.1, h4]
  by_cases h : a < T.length
  · rw [if_neg (by rw [iI_le (by omega) (by omega) (by omega) (by omega)]; omega), ml4, arr_i (by omega) (by omega), hT.2 a _ (ch_at h)]
  · rw [if_pos (by rw [iI_le (by omega) (by omega) (by omega) (by omega)]; omega), ch_end (by omega)]; rfl
theorem m_dig {c : Nat} (h : c < 65536) : f6_in (iI (c : Int)) 48 57 = some (b2i (dgt c)) := by
  rw [q48, q57, m_in (by omega) (by omega) (by omega) (by omega) (by omega) (by omega)]
  congr 2
  unfold dgt
  by_cases e : 48 ≤ c ∧ c ≤ 57
  · rw [decide_eq_true e, decide_eq_true (by omega)]
  · rw [decide_eq_false e, decide_eq_false (by omega)]
theorem m_num26 (hT : TxM M T) (hI : TxI T) {a : Nat} (ha : a < 1000) (h4 : M.1 4 = iI (a : Int)) : ∃ z M', f6_number_b26 M = some (z, M') ∧ M'.1 4 = iI (a : Int) ∧ M'.1 5 = 0 ∧ FrN M M' := by
  unfold f6_number_b26 f6_number_b27 f6_number_b55 f6_number_b124
  have f1 : FrR M (sI M 5 0) := FrR.sI M 0 (by omega)
  have e4 : (sI M 5 0).1 4 = iI (a : Int) := by rw [sI_ne _ _ (by omega)]; exact h4
  rw [isz_0, nam_r, m_sign (hT.fr f1) hI ha e4, bnd_s, nam_r, if_pos (sI_eq _ _ _), nam_r, if_pos (by rw [sI_ne _ _ (by omega), sI_eq])]
  refine ⟨_, _, rfl, ?_, ?_, fun i a b => ?_, rfl⟩
  · rw [sI_eq, e4]; exact Int32.add_zero _
  · rw [sI_ne _ _ (by omega), sI_eq]
  · rw [sI_ne _ _ a, sI_ne _ _ b]
theorem m_numBad (hT : TxM M T) (hI : TxI T) {a : Nat} (ha : a < 1000) (h4 : M.1 4 = iI (a : Int)) (h : M.1 5 = 0 ∨ (M.1 5 = 1 ∧ dgt (ch T a) = false)) : ∃ z M', f6_number M = some (z, M') ∧ M'.1 4 = iI (a : Int) ∧ M'.1 5 = 0 ∧ FrN M M' := by
  unfold f6_number
  rcases h with h | ⟨h, hd⟩
  · rw [if_pos h]; exact m_num26 hT hI ha h4
  · rw [if_neg (by rw [h]; decide), m_sign hT hI ha h4, bnd_s, m_dig (ch_lt hI a), bnd_s, hd, if_pos b2i_f]
    exact m_num26 hT hI ha h4
theorem m_numOk (hT : TxM M T) (hI : TxI T) {a : Nat} (h4 : M.1 4 = iI (a : Int)) (h5 : M.1 5 = 1) (hd : dgt (ch T a) = true) : ∃ M', f6_number M = some (iI (nmV T a : Int), M') ∧ M'.1 4 = iI ((a + nmL T a : Nat) : Int) ∧ M'.1 5 = 1 ∧ FrN M M' := by
  have hd2 := dgt_iff.mp hd
  have hin := dgt_in hd
  have h60 := hI.1
  have f1 : FrR M (sI M 5 1) := FrR.sI M 1 (by omega)
  have e4 : (sI M 5 1).1 4 = iI (a : Int) := by rw [sI_ne _ _ (by omega)]; exact h4
  have ev : (iI (ch T a : Int) - 48 : Int32) = iI ((ch T a - 48 : Nat) : Int) := by rw [q48, iI_sub]; congr 1; omega
  unfold f6_number f6_number_b27 f6_number_b55 f6_number_b124
  rw [if_neg (by rw [h5]; decide), m_sign hT hI (by omega) h4, bnd_s, m_dig (ch_lt hI a), bnd_s, hd, if_neg (by decide), isz_1, nam_r, m_sign (hT.fr f1) hI (by omega) e4, bnd_s, ev, nam_r, if_neg (by rw [sI_eq]; decide), nam_r]
  obtain ⟨M2, e2⟩ : ∃ M2, M2 = sI (sI M 5 1) 4 ((sI M 5 1).1 4 + 1) := ⟨_, rfl⟩
  have f2 : FrN M M2 := by rw [e2]; exact ⟨fun i a b => by rw [sI_ne _ _ a, sI_ne _ _ b], rfl⟩
  have g4 : M2.1 4 = iI ((a + 1 : Nat) : Int) := by rw [e2, sI_eq, e4, q1, iI_s]
  have g5 : M2.1 5 = 1 := by rw [e2, sI_ne _ _ (by omega), sI_eq]
  rw [← e2, if_neg (by rw [g5]; decide)]
  have one : two T a = false → ∃ M', (some (iI ((ch T a - 48 : Nat) : Int), M2) : Option (Int32 × St)) = some (iI (nmV T a : Int), M') ∧ M'.1 4 = iI ((a + nmL T a : Nat) : Int) ∧ M'.1 5 = 1 ∧ FrN M M' := fun h => by
    unfold nmV nmL
    rw [h, if_neg (by decide), if_neg (by decide)]
    exact ⟨M2, rfl, g4, g5, f2⟩
  by_cases c1 : 48 < ch T a
  · rw [if_neg (by rw [q0, iI_le (by omega) (by omega) (by omega) (by omega)]; omega), m_sign (hT.fr f2.R) hI (by omega) g4, bnd_s, m_dig (ch_lt hI _), bnd_s]
    by_cases c2 : dgt (ch T (a + 1)) = true
    · have c3 := dgt_iff.mp c2
      have es : ((10 : Int32) * iI ((ch T a - 48 : Nat) : Int) + iI (ch T (a + 1) : Int) - 48) = iI ((10 * (ch T a - 48) + (ch T (a + 1) - 48) : Nat) : Int) := by rw [q48, q10, iI_mul, iI_add, iI_sub]; congr 1; omega
      rw [c2, if_neg (by decide), bnd_s, bnd_s, es, q64]
      by_cases c4 : 10 * (ch T a - 48) + (ch T (a + 1) - 48) < 64
      · have ht : two T a = true := two_iff.mpr ⟨c1, c2, c4⟩
        rw [if_neg (by rw [iI_le (by omega) (by omega) (by omega) (by omega)]; omega), nam_r, nam_r]
        unfold nmV nmL
        rw [if_pos ht, if_pos ht]
        refine ⟨_, rfl, by rw [sI_eq, g4, q1, iI_s], by rw [sI_ne _ _ (by omega)]; exact g5, fun i a b => by rw [sI_ne _ _ a]; exact f2.1 i a b, f2.2⟩
      · rw [if_pos (by rw [iI_le (by omega) (by omega) (by omega) (by omega)]; omega)]
        exact one (Bool.eq_false_iff.mpr (fun h => c4 (two_iff.mp h).2.2))
    · rw [(by simpa using c2 : dgt (ch T (a + 1)) = false), if_pos b2i_f]
      exact one (Bool.eq_false_iff.mpr (fun h => c2 (two_iff.mp h).2.1))
  · rw [if_pos (by rw [q0, iI_le (by omega) (by omega) (by omega) (by omega)]; omega)]
    exact one (Bool.eq_false_iff.mpr (fun h => c1 (two_iff.mp h).1))
theorem m_want20 {a : Nat} (h4 : M.1 4 = iI (a : Int)) : ∃ M', f6_wants_b20 M = some M' ∧ M'.1 4 = iI (a : Int) ∧ M'.1 5 = 0 ∧ FrN M M' := by
  unfold f6_wants_b20 f6_wants_b21 f6_wants_b41
  rw [isz_0, nam_r, if_pos (sI_eq _ _ _), nam_r]
  refine ⟨_, rfl, ?_, ?_, fun i a b => ?_, rfl⟩
  · rw [sI_eq, sI_ne _ _ (by omega), h4]; exact Int32.add_zero _
  · rw [sI_ne _ _ (by omega), sI_eq]
  · rw [sI_ne _ _ a, sI_ne _ _ b]
theorem m_wantBad (hT : TxM M T) (hI : TxI T) {a c : Nat} (ha : a < 1000) (hc : c < 65536) (h4 : M.1 4 = iI (a : Int)) (h : M.1 5 = 0 ∨ (M.1 5 = 1 ∧ ch T a ≠ c)) : ∃ M', f6_wants M (iI (c : Int)) = some M' ∧ M'.1 4 = iI (a : Int) ∧ M'.1 5 = 0 ∧ FrN M M' := by
  have hl := ch_lt hI a
  unfold f6_wants
  rcases h with h | ⟨h, hd⟩
  · rw [if_pos h]; exact m_want20 h4
  · rw [if_neg (by rw [h]; decide), m_sign hT hI ha h4, bnd_s, if_neg (by rw [iI_eq (by omega) (by omega) (by omega) (by omega)]; omega)]
    exact m_want20 h4
theorem m_wantOk (hT : TxM M T) (hI : TxI T) {a c : Nat} (ha : a < 1000) (h4 : M.1 4 = iI (a : Int)) (h5 : M.1 5 = 1) (h : ch T a = c) : ∃ M', f6_wants M (iI (c : Int)) = some M' ∧ M'.1 4 = iI ((a + 1 : Nat) : Int) ∧ M'.1 5 = 1 ∧ FrN M M' := by
  unfold f6_wants f6_wants_b21 f6_wants_b41
  rw [if_neg (by rw [h5]; decide), m_sign hT hI ha h4, bnd_s, if_pos (by rw [h]), isz_1, nam_r, if_neg (by rw [sI_eq]; decide), nam_r]
  refine ⟨_, rfl, ?_, ?_, fun i a b => ?_, rfl⟩
  · rw [sI_eq, sI_ne _ _ (by omega), h4, q1, iI_s]
  · rw [sI_ne _ _ (by omega), sI_eq]
  · rw [sI_ne _ _ a, sI_ne _ _ b]
theorem m_rpOk (hT : TxM M T) (hI : TxI T) {a x y e m : Nat} (h : Pt T a x y e) (hm : m < 16) (h4 : M.1 4 = iI (a : Int)) (h5 : M.1 5 = 1) (h6 : M.1 6 = iI (m : Int)) :
    ∃ M', f6_readsPoint M = some M' ∧ M'.1 4 = iI (e : Int) ∧ M'.1 5 = 1 ∧ M'.1 6 = iI ((m + 1 : Nat) : Int) ∧ FrR M M' ∧ M'.2 5 = upd (M.2 5) m (iI (x : Int)) ∧ M'.2 6 = upd (M.2 6) m (iI (y : Int)) := by
  have hb := h.b
  have h60 := hI.1
  obtain ⟨h1, hx, h3, h7, hy, he⟩ := h
  have n1 := nm_end h1
  have n2 := nm_end h7
  obtain ⟨M2, a1, a2, a3, a4⟩ := m_numOk hT hI h4 h5 h1
  unfold f6_readsPoint
  rw [a1, bd2_s, h6, ml5, sto_i hm (by omega), nam_r, iI_cl (by omega)]
  have f3 : FrR M (sA M2 5 m (iI (nmV T a : Int))) := a4.R.tr (FrR.sA _ _ _ (by omega))
  obtain ⟨M4, b1, b2, b3, b4⟩ := m_wantOk (hT.fr f3) hI (a := a + nmL T a) (by omega) (by rw [sA_1]; exact a2) (by rw [sA_1]; exact a3) h3
  rw [show (44 : Int32) = iI ((44 : Nat) : Int) from rfl, b1, bnd_s]
  have f4 : FrR M M4 := f3.tr b4.R
  obtain ⟨M6, c1, c2, c3, c4⟩ := m_numOk (hT.fr f4) hI b2 b3 h7
  have e6 : M4.1 6 = iI (m : Int) := by rw [b4.1 6 (by omega) (by omega), sA_1, a4.1 6 (by omega) (by omega), h6]
  rw [c1, bd2_s, e6, ml6, sto_i hm (by omega), nam_r, iI_cl (by omega), if_neg (by rw [sA_1, c3]; decide)]
  unfold f6_readsPoint_b49
  rw [nam_r, sA_1]
  have g6 : M6.1 6 = iI (m : Int) := by rw [c4.1 6 (by omega) (by omega), e6]
  refine ⟨_, rfl, ?_, ?_, ?_, ((f4.tr c4.R).tr (FrR.sA _ _ _ (by omega))).tr (FrR.sI _ _ (by omega)), ?_, ?_⟩
  · rw [sI_ne _ _ (by omega), sA_1, c2, he]
  · rw [sI_ne _ _ (by omega), sA_1, c3]
  · rw [sI_eq, g6, q1, iI_s]
  · rw [sI_2, sA_ne _ _ _ (by omega), c4.2, b4.2, sA_eq, a4.2, hx]
  · rw [sI_2, sA_eq, c4.2, b4.2, sA_ne _ _ _ (by omega), a4.2, hy]
theorem m_rpBad (hT : TxM M T) (hI : TxI T) {a f m : Nat} (ha : a ≤ T.length) (h : Bad T a f) (hm : m < 16) (h4 : M.1 4 = iI (a : Int)) (h5 : M.1 5 = 1) (h6 : M.1 6 = iI (m : Int)) :
    ∃ M', f6_readsPoint M = some M' ∧ M'.1 4 = iI (f : Int) ∧ M'.1 5 = 0 ∧ M'.1 6 = iI (m : Int) ∧ FrR M M' := by
  have h60 := hI.1
  have hf := h.le ha
  -- the end, from a state whose point failed at f before the last number
  have fin : ∀ (M4 : St), FrR M M4 → M4.1 4 = iI (f : Int) → M4.1 6 = iI (m : Int) → (M4.1 5 = 0 ∨ (M4.1 5 = 1 ∧ dgt (ch T f) = false)) → ∃ M', (bd2 (f6_number M4) fun r_5 M_6 => sto (mlen 6) (M4.1 6) <| nam (sA M_6 6 (Int32.toNatClampNeg (M4.1 6)) r_5) fun M_7 => if (M_7.1 5 : Int32) = 0 then (f6_readsPoint_b49 M_7 0 (M_7.1 6)) else (f6_readsPoint_b49 M_7 1 (M_7.1 6))) = some M' ∧ M'.1 4 = iI (f : Int) ∧ M'.1 5 = 0 ∧ M'.1 6 = iI (m : Int) ∧ FrR M M' := by
    intro M4 f4 e4 e6 e5
    obtain ⟨z, M6, c1, c2, c3, c4⟩ := m_numBad (hT.fr f4) hI (by omega) e4 e5
    rw [c1, bd2_s, e6, ml6, sto_i hm (by omega), nam_r, iI_cl (by omega), if_pos (by rw [sA_1, c3])]
    unfold f6_readsPoint_b49
    rw [nam_r, sA_1]
    have g6 : M6.1 6 = iI (m : Int) := by rw [c4.1 6 (by omega) (by omega), e6]
    refine ⟨_, rfl, ?_, ?_, ?_, ((f4.tr c4.R).tr (FrR.sA _ _ _ (by omega))).tr (FrR.sI _ _ (by omega))⟩
    · rw [sI_ne _ _ (by omega), sA_1, c2]
    · rw [sI_ne _ _ (by omega), sA_1, c3]
    · rw [sI_eq, g6]; exact Int32.add_zero _
  unfold f6_readsPoint
  by_cases hd : dgt (ch T a) = true
  · have n1 := nm_end hd
    obtain ⟨M2, a1, a2, a3, a4⟩ := m_numOk hT hI h4 h5 hd
    rw [a1, bd2_s, h6, ml5, sto_i hm (by omega), nam_r, iI_cl (by omega)]
    have f3 : FrR M (sA M2 5 m (iI (nmV T a : Int))) := a4.R.tr (FrR.sA _ _ _ (by omega))
    have e6 : M2.1 6 = iI (m : Int) := by rw [a4.1 6 (by omega) (by omega), h6]
    rcases h with ⟨g1, -⟩ | ⟨-, g2, g3⟩ | ⟨-, g2, g3, g4⟩
    · rw [hd] at g1; cases g1
    · obtain ⟨M4, b1, b2, b3, b4⟩ := m_wantBad (hT.fr f3) hI (a := a + nmL T a) (c := 44) (by omega) (by omega) (by rw [sA_1]; exact a2) (Or.inr ⟨by rw [sA_1]; exact a3, g2⟩)
      rw [show (44 : Int32) = iI ((44 : Nat) : Int) from rfl, b1, bnd_s]
      exact fin M4 (f3.tr b4.R) (by rw [b2, g3]) (by rw [b4.1 6 (by omega) (by omega), sA_1, e6]) (Or.inl b3)
    · obtain ⟨M4, b1, b2, b3, b4⟩ := m_wantOk (hT.fr f3) hI (a := a + nmL T a) (by omega) (by rw [sA_1]; exact a2) (by rw [sA_1]; exact a3) g2
      rw [show (44 : Int32) = iI ((44 : Nat) : Int) from rfl, b1, bnd_s]
      exact fin M4 (f3.tr b4.R) (by rw [b2, g4]) (by rw [b4.1 6 (by omega) (by omega), sA_1, e6]) (Or.inr ⟨b3, by rw [g4]; exact g3⟩)
  · have hd' : dgt (ch T a) = false := by simpa using hd
    have hfa : f = a := by
      rcases h with ⟨-, g⟩ | ⟨g, -⟩ | ⟨g, -⟩
      · exact g
      · exact absurd g hd
      · exact absurd g hd
    obtain ⟨z, M2, a1, a2, a3, a4⟩ := m_numBad hT hI (by omega) h4 (Or.inr ⟨h5, hd'⟩)
    rw [a1, bd2_s, h6, ml5, sto_i hm (by omega), nam_r, iI_cl (by omega)]
    have f3 : FrR M (sA M2 5 m z) := a4.R.tr (FrR.sA _ _ _ (by omega))
    have e6 : M2.1 6 = iI (m : Int) := by rw [a4.1 6 (by omega) (by omega), h6]
    obtain ⟨M4, b1, b2, b3, b4⟩ := m_wantBad (hT.fr f3) hI (a := a) (c := 44) (by omega) (by omega) (by rw [sA_1]; exact a2) (Or.inl (by rw [sA_1]; exact a3))
    rw [show (44 : Int32) = iI ((44 : Nat) : Int) from rfl, b1, bnd_s]
    exact fin M4 (f3.tr b4.R) (by rw [b2, hfa]) (by rw [b4.1 6 (by omega) (by omega), sA_1, e6]) (Or.inl b3)
/-- the fault as the reference tells it -/
def flt5 (r : Option Nat) : Int := match r with | none => -5 | some f => (f : Int)
end T3
theorem m_rdLoop {T : List Nat} (hI : TxI T) : ∀ (K : List (Nat × Nat)) (a m N : Nat) (r : Option Nat) (M : St), Prs T K a r → a ≤ T.length → TxM M T → M.1 4 = iI (a : Int) → M.1 5 = 1 → M.1 6 = iI (m : Int) → m + K.length ≤ 15 → K.length + 2 ≤ N →
    ∃ M', ((f6_readsPoint M).bind fun M_4 => f6_reads_b19 N M_4) = some (iI (flt5 r), M') ∧ FrR M M' ∧ (r = none → M'.1 6 = iI ((m + K.length : Nat) : Int) ∧ (∀ (j : Nat) (q : Nat × Nat), K[j]? = some q → M'.2 5 (m + j) = iI (q.1 : Int) ∧ M'.2 6 (m + j) = iI (q.2 : Int)) ∧ ∀ j, j < m → M'.2 5 j = M.2 5 j ∧ M'.2 6 j = M.2 6 j)
  | [], a, m, N, r, M, ⟨f, hB, hr⟩, ha, hT, h4, h5, h6, hm, hN => by
    rw [List.length_nil] at hm
    obtain ⟨N, rfl⟩ : ∃ N', N = N' + 1 := ⟨N - 1, by omega⟩
    obtain ⟨M1, a1, a2, a3, a4, a5⟩ := m_rpBad hT hI ha hB (by omega) h4 h5 h6
    rw [a1, bnd_s, f6_reads_b19, if_pos a3]
    unfold f6_reads_b57 f6_reads_b73
    rw [if_pos a3, a2, hr]
    exact ⟨M1, rfl, a5, fun h => by cases h⟩
  | p :: K, a, m, N, r, M, ⟨e, hP, h2⟩, ha, hT, h4, h5, h6, hm, hN => by
    rw [List.length_cons] at hm hN
    have hb := hP.b
    have h60 := hI.1
    obtain ⟨N, rfl⟩ : ∃ N', N = N' + 1 := ⟨N - 1, by omega⟩
    obtain ⟨M1, a1, a2, a3, a4, a5, a6, a7⟩ := m_rpOk hT hI hP (by omega) h4 h5 h6
    have hT1 := hT.fr a5
    rw [a1, bnd_s, f6_reads_b19, if_neg (by rw [a3]; decide), hT1.1, a2]
    rcases h2 with ⟨k1, k2, k3⟩ | ⟨k1, k2, k3, k4⟩ | ⟨k1, k2, k3⟩
    · rw [if_pos (by rw [k1]; exact Int32.le_refl _)]
      unfold f6_reads_b57 f6_reads_b73
      rw [if_neg (by rw [a3]; decide), k3]
      refine ⟨M1, rfl, a5, fun _ => ⟨by rw [a4, k2]; rfl, fun j q hj => ?_, fun j hj => ?_⟩⟩
      · rw [k2] at hj
        cases j with
        | zero =>
          rw [List.getElem?_cons_zero] at hj; cases hj
          rw [a6, a7, Nat.add_zero, upd_s, upd_s]; exact ⟨rfl, rfl⟩
        | succ j => rw [List.getElem?_cons_succ] at hj; cases hj
      · rw [a6, a7, upd_n (by omega), upd_n (by omega)]; exact ⟨rfl, rfl⟩
    · rw [if_neg (by rw [iI_le (by omega) (by omega) (by omega) (by omega)]; omega)]
      obtain ⟨M2, b1, b2, b3, b4⟩ := m_wantBad hT1 hI (c := 59) (by omega) (by omega) a2 (Or.inr ⟨a3, k2⟩)
      obtain ⟨N, rfl⟩ : ∃ N', N = N' + 1 := ⟨N - 1, by omega⟩
      rw [show (59 : Int32) = iI ((59 : Nat) : Int) from rfl, b1, bnd_s, if_pos b3, f6_reads_b19, if_pos b3]
      unfold f6_reads_b57 f6_reads_b73
      rw [if_pos b3, b2, k4]
      exact ⟨M2, rfl, a5.tr b4.R, fun h => by cases h⟩
    · rw [if_neg (by rw [iI_le (by omega) (by omega) (by omega) (by omega)]; omega)]
      obtain ⟨M2, b1, b2, b3, b4⟩ := m_wantOk hT1 hI (c := 59) (by omega) a2 a3 k2
      rw [show (59 : Int32) = iI ((59 : Nat) : Int) from rfl, b1, bnd_s, if_neg (by rw [b3]; decide)]
      obtain ⟨M', c1, c2, c3⟩ := m_rdLoop hI K (e + 1) (m + 1) N r M2 k3 (by omega) (hT1.fr b4.R) b2 b3 (by rw [b4.1 6 (by omega) (by omega), a4]) (by omega) (by omega)
      refine ⟨M', c1, (a5.tr b4.R).tr c2, fun hr => ?_⟩
      obtain ⟨d1, d2, d3⟩ := c3 hr
      refine ⟨by rw [d1, List.length_cons, show m + 1 + K.length = m + (K.length + 1) by omega], fun j q hj => ?_, fun j hj => ?_⟩
      · cases j with
        | zero =>
          rw [List.getElem?_cons_zero] at hj; cases hj
          have := d3 m (by omega)
          rw [Nat.add_zero, this.1, this.2, b4.2, a6, a7, upd_s, upd_s]; exact ⟨rfl, rfl⟩
        | succ j =>
          rw [List.getElem?_cons_succ] at hj
          have := d2 j q hj
          rw [show m + 1 + j = m + (j + 1) by omega] at this
          exact this
      · have := d3 j (by omega)
        rw [this.1, this.2, b4.2, a6, a7, upd_n (by omega), upd_n (by omega)]; exact ⟨rfl, rfl⟩
theorem m_reads {M : St} {T : List Nat} (hT : TxM M T) (hI : TxI T) {K : List (Nat × Nat)} {r : Option Nat} (h : Prs T K 0 r) :
    ∃ M', f6_reads M = some (iI (flt5 r), M') ∧ FrR M M' ∧ (r = none → M'.1 6 = iI (K.length : Int) ∧ ∀ (j : Nat) (q : Nat × Nat), K[j]? = some q → M'.2 5 j = iI (q.1 : Int) ∧ M'.2 6 j = iI (q.2 : Int)) := by
  have h60 := hI.1
  have hl := h.len (Nat.zero_le _)
  unfold f6_reads
  rw [nam_r, nam_r, nam_r]
  obtain ⟨M3, e3⟩ : ∃ M3, M3 = sI (sI (sI M 4 0) 5 1) 6 0 := ⟨_, rfl⟩
  rw [← e3]
  have f3 : FrR M M3 := by rw [e3]; exact ((FrR.sI _ _ (by omega)).tr (FrR.sI _ _ (by omega))).tr (FrR.sI _ _ (by omega))
  obtain ⟨M', c1, c2, c3⟩ := m_rdLoop hI K 0 0 fuelN r M3 h (Nat.zero_le _) (hT.fr f3) (by rw [e3, sI_ne _ _ (by omega), sI_ne _ _ (by omega), sI_eq]; rfl) (by rw [e3, sI_ne _ _ (by omega), sI_eq]) (by rw [e3, sI_eq]; rfl) (by omega) (by unfold fuelN; omega)
  refine ⟨M', c1, f3.tr c2, fun hr => ?_⟩
  obtain ⟨d1, d2, -⟩ := c3 hr
  rw [Nat.zero_add] at d1
  refine ⟨d1, fun j q hj => ?_⟩
  have := d2 j q hj
  rwa [Nat.zero_add] at this
