/-! STAGE B, 45: texts: how many campers, and their numbers, as the class reads them -/
section T2
variable {S : St} {T : List Nat}
/-- the class's count of campers, from a place -/
def CR (S : St) (T : List Nat) (c i r : Nat) : Prop := ∀ N, T.length < N + i → f1_campers_b4 S N (iI (c : Int)) (iI (i : Int)) = some (iI (r : Int))
theorem cr_end (hT : TxC S T) (c : Nat) : CR S T c T.length c := by
  intro N hN
  obtain ⟨N, rfl⟩ : ∃ N', N = N' + 1 := ⟨N - 1, by omega⟩
  rw [f1_campers_b4, hT.1, if_pos (Int32.le_refl _)]
theorem cr_step (hT : TxC S T) (hI : TxI T) {c i r : Nat} (hi : i < T.length) (h : CR S T (if ch T i = 59 then c + 1 else c) (i + 1) r) : CR S T c i r := by
  intro N hN
  obtain ⟨N, rfl⟩ : ∃ N', N = N' + 1 := ⟨N - 1, by omega⟩
  have h60 := hI.1
  have hc := ch_lt hI i
  have := h N (by omega)
  rw [f1_campers_b4, hT.1, if_neg (by rw [iI_le (by omega) (by omega) (by omega) (by omega)]; omega), r_chAt hT hI hi, bnd_s, q59]
  unfold f1_campers_b25
  rw [q1, iI_s, iI_s]
  by_cases e : ch T i = 59
  · rw [if_pos e] at this
    rw [if_pos (by rw [e]; rfl)]; exact this
  · rw [if_neg e] at this
    rw [if_neg (by rw [iI_eq (by omega) (by omega) (by omega) (by omega)]; omega)]; exact this
theorem cr_num (hT : TxC S T) (hI : TxI T) {c a r : Nat} (hd : dgt (ch T a) = true) (h : CR S T c (a + nmL T a) r) : CR S T c a r := by
  have hd2 := dgt_iff.mp hd
  have hin := dgt_in hd
  have st1 : CR S T c (a + 1) r → CR S T c a r := fun h => cr_step hT hI hin (by rw [if_neg (by omega)]; exact h)
  unfold nmL at h
  by_cases c2 : two T a = true
  · rw [if_pos c2] at h
    obtain ⟨g1, g2, g3⟩ := two_iff.mp c2
    have g4 := dgt_iff.mp g2
    exact st1 (cr_step hT hI (dgt_in g2) (by rw [if_neg (by omega)]; exact h))
  · rw [if_neg c2] at h
    exact st1 h
theorem cr_pt (hT : TxC S T) (hI : TxI T) {c a x y e r : Nat} (h : Pt T a x y e) (hr : CR S T c e r) : CR S T c a r := by
  obtain ⟨h1, h2, h3, h4, h5, h6⟩ := h
  have hin := dgt_in h4
  rw [h6] at hr
  exact cr_num hT hI h1 (cr_step hT hI (by omega) (by rw [if_neg (by omega)]; exact cr_num hT hI h4 hr))
theorem cr_prs (hT : TxC S T) (hI : TxI T) : ∀ {K : List (Nat × Nat)} {a c : Nat}, Prs T K a none → CR S T c a (c + K.length - 1)
  | [], a, c, ⟨f, h, h2⟩ => by cases h2
  | q :: K, a, c, ⟨e, h, h2⟩ => by
    refine cr_pt hT hI h ?_
    rcases h2 with ⟨k1, k2, k3⟩ | ⟨k1, k2, k3, k4⟩ | ⟨k1, k2, k3⟩
    · rw [k2, k1]
      have := cr_end hT c
      rwa [show c = c + [q].length - 1 by rw [List.length_singleton]; omega] at this
    · cases k4
    · refine cr_step hT hI k1 ?_
      rw [if_pos k2]
      have := cr_prs hT hI (c := c + 1) k3
      rw [List.length_cons]
      rwa [show c + 1 + K.length - 1 = c + (K.length + 1) - 1 by omega] at this
theorem r_campersT (hT : TxC S T) (hI : TxI T) {K : List (Nat × Nat)} (h : Prs T K 0 none) : f1_campers S = some (iI (K.length : Int)) := by
  have h60 := hI.1
  have := cr_prs hT hI (c := 1) h fuelN (by unfold fuelN; omega)
  rw [show 1 + K.length - 1 = K.length by omega] at this
  exact this
/-- the class's number of a rank, from a state of the search -/
def NR (S : St) (T : List Nat) (k s v i r : Nat) : Prop := ∀ N, T.length < N + i → f1_number_b7 S (iI (k : Int)) N (iI (s : Int)) (iI (v : Int)) (iI (i : Int)) = some (iI (r : Int))
theorem nr_end (hT : TxC S T) (k s v : Nat) : NR S T k s v T.length v := by
  intro N hN
  obtain ⟨N, rfl⟩ : ∃ N', N = N' + 1 := ⟨N - 1, by omega⟩
  rw [f1_number_b7, hT.1, if_pos (Int32.le_refl _)]
theorem nr_dig (hT : TxC S T) (hI : TxI T) {k s v i r : Nat} (hk : k < 1000) (hs : s < 1000) (hd : dgt (ch T i) = true) (h : NR S T k s (if s = k then 10 * v + (ch T i - 48) else v) (i + 1) r) : NR S T k s v i r := by
  intro N hN
  have hi := dgt_in hd
  obtain ⟨N, rfl⟩ : ∃ N', N = N' + 1 := ⟨N - 1, by omega⟩
  have h60 := hI.1
  have hd2 := dgt_iff.mp hd
  have := h N (by omega)
  have e : (iI (v : Int) * 10 + (iI (ch T i : Int) - 48) : Int32) = iI ((10 * v + (ch T i - 48) : Nat) : Int) := by rw [q48, q10, iI_sub, iI_mul, iI_add]; congr 1; omega
  rw [f1_number_b7, hT.1, if_neg (by rw [iI_le (by omega) (by omega) (by omega) (by omega)]; omega), r_chAt hT hI hi, bnd_s, r_isDigit (ch_lt hI i), bnd_s, hd, if_neg (by decide), e]
  unfold f1_number_b54
  rw [q1, iI_s]
  by_cases c : s = k
  · rw [if_pos c] at this
    rw [if_pos (by rw [c]), nam_r]; exact this
  · rw [if_neg c] at this
    rw [if_neg (by rw [iI_eq (by omega) (by omega) (by omega) (by omega)]; omega)]; exact this
theorem nr_not (hT : TxC S T) (hI : TxI T) {k s v i r : Nat} (hi : i < T.length) (hd : dgt (ch T i) = false) (h : NR S T k (s + 1) v (i + 1) r) : NR S T k s v i r := by
  intro N hN
  obtain ⟨N, rfl⟩ : ∃ N', N = N' + 1 := ⟨N - 1, by omega⟩
  have h60 := hI.1
  have := h N (by omega)
  rw [f1_number_b7, hT.1, if_neg (by rw [iI_le (by omega) (by omega) (by omega) (by omega)]; omega), r_chAt hT hI hi, bnd_s, r_isDigit (ch_lt hI i), bnd_s, hd, if_pos b2i_f]
  unfold f1_number_b54
  rw [q1, iI_s, iI_s]
  exact this
theorem nr_take (hT : TxC S T) (hI : TxI T) {k a r : Nat} (hk : k < 1000) (hd : dgt (ch T a) = true) (h : NR S T k k (nmV T a) (a + nmL T a) r) : NR S T k k 0 a r := by
  unfold nmL nmV at h
  by_cases c2 : two T a = true
  · rw [if_pos c2, if_pos c2] at h
    obtain ⟨g1, g2, g3⟩ := two_iff.mp c2
    refine nr_dig hT hI hk hk hd ?_
    rw [if_pos rfl]
    refine nr_dig hT hI hk hk g2 ?_
    rw [if_pos rfl, show 10 * (10 * 0 + (ch T a - 48)) + (ch T (a + 1) - 48) = 10 * (ch T a - 48) + (ch T (a + 1) - 48) by omega]
    exact h
  · rw [if_neg c2, if_neg c2] at h
    refine nr_dig hT hI hk hk hd ?_
    rw [if_pos rfl, show 10 * 0 + (ch T a - 48) = ch T a - 48 by omega]
    exact h
theorem nr_skip (hT : TxC S T) (hI : TxI T) {k s v a r : Nat} (hk : k < 1000) (hs : s < 1000) (hsk : s ≠ k) (hd : dgt (ch T a) = true) (h : NR S T k s v (a + nmL T a) r) : NR S T k s v a r := by
  have st1 : NR S T k s v (a + 1) r → NR S T k s v a r := fun h => nr_dig hT hI hk hs hd (by rw [if_neg hsk]; exact h)
  unfold nmL at h
  by_cases c2 : two T a = true
  · rw [if_pos c2] at h
    obtain ⟨g1, g2, g3⟩ := two_iff.mp c2
    exact st1 (nr_dig hT hI hk hs g2 (by rw [if_neg hsk]; exact h))
  · rw [if_neg c2] at h
    exact st1 h
theorem nr_pt (hT : TxC S T) (hI : TxI T) {k s v a x y e r : Nat} (hk : k < 1000) (hs : s + 1 < 1000) (h : Pt T a x y e) : (s ≠ k → s + 1 ≠ k → NR S T k (s + 1) v e r → NR S T k s v a r) ∧ (s = k → NR S T k (s + 1) x e r → NR S T k s 0 a r) ∧ (s + 1 = k → NR S T k (s + 1) y e r → NR S T k s 0 a r) := by
  obtain ⟨h1, h2, h3, h4, h5, h6⟩ := h
  have hin := dgt_in h4
  rw [h6]
  have hc : dgt (ch T (a + nmL T a)) = false := by rw [h3]; decide
  refine ⟨fun e1 e2 hr => ?_, fun e1 hr => ?_, fun e1 hr => ?_⟩
  · exact nr_skip hT hI hk (by omega) e1 h1 (nr_not hT hI (by omega) hc (nr_skip hT hI hk hs e2 h4 hr))
  · subst e1
    rw [h2] at hr
    exact nr_take hT hI hk h1 (nr_not hT hI (by omega) hc (nr_skip hT hI hk hs (by omega) h4 hr))
  · subst e1
    rw [h5] at hr
    exact nr_skip hT hI hk (by omega) (by omega) h1 (nr_not hT hI (by omega) hc (nr_take hT hI hk h4 hr))
theorem nr_after (hT : TxC S T) (hI : TxI T) {k v : Nat} (hk : k < 1000) : ∀ {K : List (Nat × Nat)} {a s : Nat}, s + 2 * K.length < 1000 → k < s → Prs T K a none → NR S T k s v a v
  | [], a, s, hs, hks, ⟨f, h, h2⟩ => by cases h2
  | q :: K, a, s, hs, hks, ⟨e, h, h2⟩ => by
    rw [List.length_cons] at hs
    refine (nr_pt hT hI hk (by omega) h).1 (by omega) (by omega) ?_
    rcases h2 with ⟨k1, k2, k3⟩ | ⟨k1, k2, k3, k4⟩ | ⟨k1, k2, k3⟩
    · rw [k1]; exact nr_end hT _ _ _
    · cases k4
    · exact nr_not hT hI k1 (by rw [k2]; decide) (nr_after hT hI hk (by omega) (by omega) k3)
theorem nr_prs (hT : TxC S T) (hI : TxI T) : ∀ {K : List (Nat × Nat)} {a s m : Nat} {q : Nat × Nat}, s + 2 * K.length < 1000 → Prs T K a none → K[m]? = some q → NR S T (s + 2 * m) s 0 a q.1 ∧ NR S T (s + 2 * m + 1) s 0 a q.2
  | [], a, s, m, q, hs, ⟨f, h, h2⟩, hm => by cases h2
  | p :: K, a, s, m, q, hs, ⟨e, h, h2⟩, hm => by
    rw [List.length_cons] at hs
    cases m with
    | zero =>
      rw [List.getElem?_cons_zero] at hm
      cases hm
      have fin : ∀ k v, k < s + 2 → NR S T k (s + 1) v e v := fun k v hk => by
        rcases h2 with ⟨k1, k2, k3⟩ | ⟨k1, k2, k3, k4⟩ | ⟨k1, k2, k3⟩
        · rw [k1]; exact nr_end hT _ _ _
        · cases k4
        · exact nr_not hT hI k1 (by rw [k2]; decide) (nr_after hT hI (by omega) (by omega) (by omega) k3)
      exact ⟨(nr_pt (v := 0) hT hI (by omega) (by omega) h).2.1 (by omega) (fin _ _ (by omega)), (nr_pt (v := 0) hT hI (by omega) (by omega) h).2.2 (by omega) (fin _ _ (by omega))⟩
    | succ m =>
      rw [List.getElem?_cons_succ] at hm
      have hml := (List.getElem?_eq_some_iff.mp hm).1
      rcases h2 with ⟨k1, k2, k3⟩ | ⟨k1, k2, k3, k4⟩ | ⟨k1, k2, k3⟩
      · rw [k2] at hml; exact absurd hml (Nat.not_lt_zero _)
      · cases k4
      · have ih := nr_prs hT hI (s := s + 1 + 1) (by omega) k3 hm
        rw [show s + 2 * (m + 1) = s + 1 + 1 + 2 * m by omega]
        have hc : dgt (ch T e) = false := by rw [k2]; decide
        exact ⟨(nr_pt hT hI (by omega) (by omega) h).1 (by omega) (by omega) (nr_not hT hI k1 hc ih.1), (nr_pt hT hI (by omega) (by omega) h).1 (by omega) (by omega) (nr_not hT hI k1 hc ih.2)⟩
theorem r_number (hT : TxC S T) (hI : TxI T) {K : List (Nat × Nat)} (h : Prs T K 0 none) {m : Nat} {q : Nat × Nat} (hm : K[m]? = some q) : f1_number S (iI ((2 * m : Nat) : Int)) = some (iI (q.1 : Int)) ∧ f1_number S (iI ((2 * m + 1 : Nat) : Int)) = some (iI (q.2 : Int)) := by
  have h60 := hI.1
  have hl := h.len (Nat.zero_le _)
  have := nr_prs hT hI (s := 0) (by omega) h hm
  rw [Nat.zero_add] at this
  exact ⟨this.1 fuelN (by unfold fuelN; omega), this.2 fuelN (by unfold fuelN; omega)⟩
end T2
