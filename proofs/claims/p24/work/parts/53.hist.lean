/-! STAGE B, 21: a camp copied; the ring -/
section CZ
variable {S : St} {c c1 : Nat} {A : Ab}
theorem r_copyPlots {n : Nat} (hn : n ≤ 181) (hc : c ≠ c1) (h0 : S.1 (6 * c1 + 0) = iI (n : Int)) : ∃ S', f3_copyFrom S c c1 = some S' ∧ S'.1 (6 * c + 0) = iI (n : Int) ∧ (∀ i, i ≠ 6 * c + 0 → S'.1 i = S.1 i) ∧ (∀ r, (r < 10 * c ∨ 10 * c + 4 ≤ r) → S'.2 r = S.2 r) ∧ ∀ k, k < 4 → ∀ i, i < n → S'.2 (10 * c + k) i = S.2 (10 * c1 + k) i := by
  unfold f3_copyFrom
  rw [nam_r, h0]
  have z0 : (sI S (6 * c + 0) (iI (n : Int))).1 (6 * c + 0) = iI (n : Int) := sI_eq _ _ _
  obtain ⟨S2, a1, a2, a3, a4⟩ := r_copyRow (S := sI S (6 * c + 0) (iI (n : Int))) (r := 10 * c + 0) (r1 := 10 * c1 + 0) (m := n) (by omega) (by rw [rlen_0]; omega) (by rw [rlen_0]; omega)
  rw [z0, a1, bnd_s, a2, z0]
  obtain ⟨S3, b1, b2, b3, b4⟩ := r_copyRow (S := S2) (r := 10 * c + 1) (r1 := 10 * c1 + 1) (m := n) (by omega) (by rw [rlen_1]; omega) (by rw [rlen_1]; omega)
  rw [b1, bnd_s, b2, a2, z0]
  obtain ⟨S4, c1', c2, c3, c4⟩ := r_copyRow (S := S3) (r := 10 * c + 2) (r1 := 10 * c1 + 2) (m := n) (by omega) (by rw [rlen_2]; omega) (by rw [rlen_2]; omega)
  rw [c1', bnd_s, c2, b2, a2, z0]
  obtain ⟨S5, d1, d2, d3, d4⟩ := r_copyRow (S := S4) (r := 10 * c + 3) (r1 := 10 * c1 + 3) (m := n) (by omega) (by rw [rlen_3]; omega) (by rw [rlen_3]; omega)
  rw [d1, bnd_s]
  refine ⟨S5, rfl, by rw [d2, c2, b2, a2]; exact z0, fun i hi => by rw [d2, c2, b2, a2]; exact sI_ne _ _ hi, fun r hr => by rw [d3 r (by omega), c3 r (by omega), b3 r (by omega), a3 r (by omega)]; rfl, fun k hk i hi => ?_⟩
  obtain rfl | rfl | rfl | rfl : k = 0 ∨ k = 1 ∨ k = 2 ∨ k = 3 := by omega
  · rw [d3 _ (by omega), c3 _ (by omega), b3 _ (by omega), a4 i hi]; rfl
  · rw [d3 _ (by omega), c3 _ (by omega), b4 i hi, a3 _ (by omega)]; rfl
  · rw [d3 _ (by omega), c4 i hi, b3 _ (by omega), a3 _ (by omega)]; rfl
  · rw [d4 i hi, c3 _ (by omega), b3 _ (by omega), a3 _ (by omega)]; rfl
theorem r_copyCamp (hK : CampC S c1 A) (hI : Inv A) (hc : c ≠ c1) : ∃ S', f0_copyFrom S c c1 = some S' ∧ FrC S S' c ∧ CampC S' c A := by
  obtain ⟨⟨L, hp, hP⟩, h1, h2, h3, h4, h5, h6, h7⟩ := hK
  have hlen := (hI.wf.perm hp).1
  have h16 := hI.1.1
  have h20 := hI.1.2
  unfold f0_copyFrom
  rw [nam_r, nam_r, nam_r, nam_r, nam_r]
  obtain ⟨S5, hS5⟩ : ∃ S5, S5 = sI (sI (sI (sI (sI S (6 * c + 1) (S.1 (6 * c1 + 1))) (6 * c + 2) (S.1 (6 * c1 + 2))) (6 * c + 3) (S.1 (6 * c1 + 3))) (6 * c + 4) (S.1 (6 * c1 + 4))) (6 * c + 5) (S.1 (6 * c1 + 5)) := ⟨_, rfl⟩
  have e1 : (sI S (6 * c + 1) (S.1 (6 * c1 + 1))).1 (6 * c1 + 2) = S.1 (6 * c1 + 2) := sI_ne _ _ (by omega)
  have e2 : (sI (sI S (6 * c + 1) (S.1 (6 * c1 + 1))) (6 * c + 2) (S.1 (6 * c1 + 2))).1 (6 * c1 + 3) = S.1 (6 * c1 + 3) := by rw [sI_ne _ _ (by omega), sI_ne _ _ (by omega)]
  have e3 : (sI (sI (sI S (6 * c + 1) (S.1 (6 * c1 + 1))) (6 * c + 2) (S.1 (6 * c1 + 2))) (6 * c + 3) (S.1 (6 * c1 + 3))).1 (6 * c1 + 4) = S.1 (6 * c1 + 4) := by rw [sI_ne _ _ (by omega), sI_ne _ _ (by omega), sI_ne _ _ (by omega)]
  have e4 : (sI (sI (sI (sI S (6 * c + 1) (S.1 (6 * c1 + 1))) (6 * c + 2) (S.1 (6 * c1 + 2))) (6 * c + 3) (S.1 (6 * c1 + 3))) (6 * c + 4) (S.1 (6 * c1 + 4))).1 (6 * c1 + 5) = S.1 (6 * c1 + 5) := by rw [sI_ne _ _ (by omega), sI_ne _ _ (by omega), sI_ne _ _ (by omega), sI_ne _ _ (by omega)]
  rw [e1, e2, e3, e4, ← hS5]
  have g2 : S5.2 = S.2 := by rw [hS5]; rfl
  have gne : ∀ i, (i < 6 * c + 1 ∨ 6 * c + 6 ≤ i) → S5.1 i = S.1 i := fun i hi => by
    rw [hS5, sI_ne _ _ (by omega), sI_ne _ _ (by omega), sI_ne _ _ (by omega), sI_ne _ _ (by omega), sI_ne _ _ (by omega)]
  have k1 : S5.1 (6 * c + 1) = S.1 (6 * c1 + 1) := by rw [hS5, sI_ne _ _ (by omega), sI_ne _ _ (by omega), sI_ne _ _ (by omega), sI_ne _ _ (by omega), sI_eq]
  have k2 : S5.1 (6 * c + 2) = S.1 (6 * c1 + 2) := by rw [hS5, sI_ne _ _ (by omega), sI_ne _ _ (by omega), sI_ne _ _ (by omega), sI_eq]
  have k3 : S5.1 (6 * c + 3) = S.1 (6 * c1 + 3) := by rw [hS5, sI_ne _ _ (by omega), sI_ne _ _ (by omega), sI_eq]
  have k4 : S5.1 (6 * c + 4) = S.1 (6 * c1 + 4) := by rw [hS5, sI_ne _ _ (by omega), sI_eq]
  have k5 : S5.1 (6 * c + 5) = S.1 (6 * c1 + 5) := by rw [hS5, sI_eq]
  clear hS5 e1 e2 e3 e4
  obtain ⟨S6, a1, a2, a3, a4, a5⟩ := r_copyPlots (S := S5) (c := c) (c1 := c1) hlen hc (by rw [gne _ (by omega)]; exact hP.1)
  have m1 : S6.1 (6 * c + 1) = iI (aN A : Int) := by rw [a3 _ (by omega), k1]; exact h1
  have m2 : S6.1 (6 * c + 2) = iI (aS A : Int) := by rw [a3 _ (by omega), k2]; exact h2
  rw [a1, bnd_s, m1]
  obtain ⟨S7, b1, b2, b3, b4⟩ := r_copyRow (S := S6) (r := 10 * c + 4) (r1 := 10 * c1 + 4) (m := aN A) (by omega) (by rw [rlen_4]; omega) (by rw [rlen_4]; omega)
  rw [b1, bnd_s, b2, m1]
  obtain ⟨S8, d1, d2, d3, d4⟩ := r_copyRow (S := S7) (r := 10 * c + 5) (r1 := 10 * c1 + 5) (m := aN A) (by omega) (by rw [rlen_5]; omega) (by rw [rlen_5]; omega)
  rw [d1, bnd_s, d2, b2, m1]
  obtain ⟨S9, p1, p2, p3, p4⟩ := r_copyRow (S := S8) (r := 10 * c + 6) (r1 := 10 * c1 + 6) (m := aN A) (by omega) (by rw [rlen_6]; omega) (by rw [rlen_6]; omega)
  rw [p1, bnd_s, p2, d2, b2, m2]
  obtain ⟨S10, q1', q2', q3', q4'⟩ := r_copyRow (S := S9) (r := 10 * c + 7) (r1 := 10 * c1 + 7) (m := aS A) (by omega) (by rw [rlen_7]; omega) (by rw [rlen_7]; omega)
  rw [q1', bnd_s, q2', p2, d2, b2, m2]
  obtain ⟨S11, s1, s2, s3, s4⟩ := r_copyRow (S := S10) (r := 10 * c + 8) (r1 := 10 * c1 + 8) (m := aS A) (by omega) (by rw [rlen_8]; omega) (by rw [rlen_8]; omega)
  rw [s1, bnd_s, s2, q2', p2, d2, b2, m2]
  obtain ⟨S12, t1, t2, t3, t4⟩ := r_copyRow (S := S11) (r := 10 * c + 9) (r1 := 10 * c1 + 9) (m := aS A) (by omega) (by rw [rlen_9]; omega) (by rw [rlen_9]; omega)
  rw [t1, bnd_s]
  have f1 : S12.1 = S6.1 := by rw [t2, s2, q2', p2, d2, b2]
  have f2 : ∀ r, (r < 10 * c + 4 ∨ 10 * c + 10 ≤ r) → S12.2 r = S6.2 r := fun r hr => by
    rw [t3 r (by omega), s3 r (by omega), q3' r (by omega), p3 r (by omega), d3 r (by omega), b3 r (by omega)]
  have f6 : ∀ r, (r < 10 * c ∨ 10 * c + 4 ≤ r) → S6.2 r = S.2 r := fun r hr => by rw [a4 r hr, g2]
  refine ⟨S12, rfl, ⟨fun i hi => ?_, fun r hr => ?_⟩, ⟨L, hp, ?_, fun i p hi => ?_⟩, ?_, ?_, ?_, ?_, ?_, fun k hk => ?_, fun k hk => ?_⟩
  · rw [f1, a3 i (by omega), gne i (by omega)]
  · rw [f2 r (by omega), f6 r (by omega)]
  · rw [f1, a2]
  · have hlt := (List.getElem?_eq_some_iff.mp hi).1
    have hh := hP.2 i p hi
    rw [f2 _ (by omega), a5 0 (by omega) i hlt, f2 _ (by omega), a5 1 (by omega) i hlt, f2 _ (by omega), a5 2 (by omega) i hlt, f2 _ (by omega), a5 3 (by omega) i hlt, g2]
    exact hh
  · rw [f1, m1]
  · rw [f1, m2]
  · rw [f1, a3 _ (by omega), k3]; exact h3
  · rw [f1, a3 _ (by omega), k4]; exact h4
  · rw [f1, a3 _ (by omega), k5]; exact h5
  · refine ⟨?_, ?_, ?_⟩
    · rw [t3 _ (by omega), s3 _ (by omega), q3' _ (by omega), p3 _ (by omega), d3 _ (by omega), b4 k hk, f6 _ (by omega)]; exact (h6 k hk).1
    · rw [t3 _ (by omega), s3 _ (by omega), q3' _ (by omega), p3 _ (by omega), d4 k hk, b3 _ (by omega), f6 _ (by omega)]; exact (h6 k hk).2.1
    · rw [t3 _ (by omega), s3 _ (by omega), q3' _ (by omega), p4 k hk, d3 _ (by omega), b3 _ (by omega), f6 _ (by omega)]; exact (h6 k hk).2.2
  · refine ⟨?_, ?_, ?_⟩
    · rw [t3 _ (by omega), s3 _ (by omega), q4' k hk, p3 _ (by omega), d3 _ (by omega), b3 _ (by omega), f6 _ (by omega)]; exact (h7 k hk).1
    · rw [t3 _ (by omega), s4 k hk, q3' _ (by omega), p3 _ (by omega), d3 _ (by omega), b3 _ (by omega), f6 _ (by omega)]; exact (h7 k hk).2.1
    · rw [t4 k hk, s3 _ (by omega), q3' _ (by omega), p3 _ (by omega), d3 _ (by omega), b3 _ (by omega), f6 _ (by omega)]; exact (h7 k hk).2.2
end CZ
/-- the ring of the latest states, the newest first -/
def HistC (S : St) (H : List Ab) : Prop := H.length ≤ 4 ∧ S.1 44 = iI (H.length : Int) ∧ ∃ lat : Nat, lat < 4 ∧ S.1 43 = iI (lat : Int) ∧ ∀ (i : Nat) (A : Ab), H[i]? = some A → CampC S (3 + (lat + 4 - i) % 4) A
theorem st_at {k : Nat} (h : k < 4) : f2_stateAt (iI (k : Int)) = some (3 + k) := by
  unfold f2_stateAt
  rw [iI_ofNat, q0, if_neg (by rw [iI_lt (by omega) (by omega) (by omega) (by omega)]; omega), if_neg (by rw [iI_le (by omega) (by omega) (by omega) (by omega)]; omega), sto_i h (by omega), iI_cl (by omega)]
theorem HistC.fr {S S' : St} {H : List Ab} {c : Nat} (h : HistC S H) (hf : FrC S S' c) (hc : c < 3) : HistC S' H := by
  obtain ⟨h1, h2, lat, h3, h4, h5⟩ := h
  exact ⟨h1, by rw [hf.1 _ (by omega)]; exact h2, lat, h3, by rw [hf.1 _ (by omega)]; exact h4, fun i A hi => (h5 i A hi).fr hf (by omega)⟩
theorem CampC.sI {S : St} {c i : Nat} {A : Ab} {v : Int32} (h : CampC S c A) (hi : i < 6 * c ∨ 6 * c + 6 ≤ i) : CampC (sI S i v) c A := by
  obtain ⟨⟨L, hp, hP⟩, h1, h2, h3, h4, h5, h6, h7⟩ := h
  exact ⟨⟨L, hp, hP.fr (sI_ne _ _ (by omega)) (fun _ _ => rfl)⟩, by rw [sI_ne _ _ (by omega)]; exact h1, by rw [sI_ne _ _ (by omega)]; exact h2, by rw [sI_ne _ _ (by omega)]; exact h3, by rw [sI_ne _ _ (by omega)]; exact h4, by rw [sI_ne _ _ (by omega)]; exact h5, h6, h7⟩
/-- pushed: the ring alone differs -/
theorem r_push {S : St} {H : List Ab} {A : Ab} (hH : HistC S H) (hK : CampC S 0 A) (hI : Inv A) : ∃ S', f2_push S 0 = some S' ∧ HistC S' ((A :: H).take 4) ∧ (∀ i, (i < 18 ∨ 45 ≤ i ∨ i = 42) → S'.1 i = S.1 i) ∧ ∀ r, (r < 30 ∨ 70 ≤ r) → S'.2 r = S.2 r := by
  obtain ⟨h1, h2, lat, h3, h4, h5⟩ := hH
  have key : ∀ nl : Nat, nl < 4 → nl = (lat + 1) % 4 → ∃ S', f2_push_b21 S 0 (iI (nl : Int)) = some S' ∧ HistC S' ((A :: H).take 4) ∧ (∀ i, (i < 18 ∨ 45 ≤ i ∨ i = 42) → S'.1 i = S.1 i) ∧ ∀ r, (r < 30 ∨ 70 ≤ r) → S'.2 r = S.2 r := by
    intro nl hn e
    unfold f2_push_b21 f2_push_b56
    rw [nam_r, nam_r, sI_ne _ _ (show 44 ≠ 43 by omega), h2, q1, iI_s, q4]
    have e44 : (if iI 4 < iI ((H.length + 1 : Nat) : Int) then iI 4 else iI ((H.length + 1 : Nat) : Int)) = iI ((((A :: H).take 4).length : Nat) : Int) := by
      rw [List.length_take, List.length_cons]
      by_cases c : 4 < H.length + 1
      · rw [if_pos (by rw [iI_lt (by omega) (by omega) (by omega) (by omega)]; omega), show min 4 (H.length + 1) = 4 by omega]; rfl
      · rw [if_neg (by rw [iI_lt (by omega) (by omega) (by omega) (by omega)]; omega), show min 4 (H.length + 1) = H.length + 1 by omega]
    rw [e44, sI_ne _ _ (show 43 ≠ 44 by omega), sI_eq, st_at hn, bnd_s]
    have hK2 : CampC (sI (sI S 43 (iI (nl : Int))) 44 (iI ((((A :: H).take 4).length : Nat) : Int))) 0 A := (hK.sI (by omega)).sI (by omega)
    obtain ⟨S', g1, g2, g3⟩ := r_copyCamp (c := 3 + nl) hK2 hI (by omega)
    rw [g1, bnd_s]
    refine ⟨S', rfl, ⟨by rw [List.length_take]; omega, ?_, nl, hn, ?_, fun i B hi => ?_⟩, fun i hi => ?_, fun r hr => ?_⟩
    · rw [g2.1 _ (by omega), sI_eq]
    · rw [g2.1 _ (by omega), sI_ne _ _ (by omega), sI_eq]
    · rw [List.getElem?_take] at hi
      split at hi
      · rename_i hi4
        cases i with
        | zero =>
          rw [List.getElem?_cons_zero] at hi
          cases hi
          rw [show 3 + (nl + 4 - 0) % 4 = 3 + nl by omega]
          exact g3
        | succ i =>
          rw [List.getElem?_cons_succ] at hi
          have hk := h5 i B hi
          rw [show 3 + (nl + 4 - (i + 1)) % 4 = 3 + (lat + 4 - i) % 4 by omega]
          have hne : 3 + (lat + 4 - i) % 4 ≠ 3 + nl := by omega
          exact ((hk.sI (i := 43) (v := iI (nl : Int)) (by omega)).sI (i := 44) (v := iI ((((A :: H).take 4).length : Nat) : Int)) (by omega)).fr g2 hne
      · cases hi
    · rw [g2.1 _ (by omega), sI_ne _ _ (by omega), sI_ne _ _ (by omega)]
    · rw [g2.2 _ (by omega)]; rfl
  unfold f2_push
  rw [h4, q1, iI_s, q4]
  by_cases c : lat = 3
  · rw [if_pos (by rw [iI_le (by omega) (by omega) (by omega) (by omega)]; omega)]
    exact key 0 (by omega) (by omega)
  · rw [if_neg (by rw [iI_le (by omega) (by omega) (by omega) (by omega)]; omega)]
    exact key (lat + 1) (by omega) (by omega)
theorem r_pop {S : St} {H : List Ab} {A : Ab} (hH : HistC S (A :: H)) (hI : Inv A) : ∃ S', f2_pop S 0 = some S' ∧ HistC S' H ∧ CampC S' 0 A ∧ (∀ i, (6 ≤ i ∧ i < 43 ∨ 45 ≤ i) → S'.1 i = S.1 i) ∧ ∀ r, 10 ≤ r → S'.2 r = S.2 r := by
  obtain ⟨h1, h2, lat, h3, h4, h5⟩ := hH
  rw [List.length_cons] at h1 h2
  have hK := h5 0 A List.getElem?_cons_zero
  rw [show 3 + (lat + 4 - 0) % 4 = 3 + lat by omega] at hK
  unfold f2_pop
  rw [h4, st_at h3, bnd_s, h2, q0, if_neg (by rw [iI_le (by omega) (by omega) (by omega) (by omega)]; omega)]
  obtain ⟨S2, g1, g2, g3⟩ := r_copyCamp (c := 0) hK hI (by omega)
  rw [g1, bnd_s, nam_r, g2.1 44 (by omega), h2, q1, iI_sub, show ((H.length + 1 : Nat) : Int) - 1 = (H.length : Int) by omega, sI_ne _ _ (show 43 ≠ 44 by omega), g2.1 43 (by omega), h4]
  have key : ∀ nl : Nat, nl < 4 → nl = (lat + 3) % 4 → ∃ S', f2_pop_b53 (sI S2 44 (iI (H.length : Int))) 0 (iI (nl : Int)) = some S' ∧ HistC S' H ∧ CampC S' 0 A ∧ (∀ i, (6 ≤ i ∧ i < 43 ∨ 45 ≤ i) → S'.1 i = S.1 i) ∧ ∀ r, 10 ≤ r → S'.2 r = S.2 r := by
    intro nl hn e
    unfold f2_pop_b53 f2_pop_b56
    rw [nam_r]
    refine ⟨_, rfl, ⟨by omega, by rw [sI_ne _ _ (by omega), sI_eq], nl, hn, by rw [sI_eq], fun i B hi => ?_⟩, (g3.sI (by omega)).sI (by omega), fun i hi => ?_, fun r hr => ?_⟩
    · have hk := h5 (i + 1) B (by rw [List.getElem?_cons_succ]; exact hi)
      have hlt := (List.getElem?_eq_some_iff.mp hi).1
      rw [show 3 + (nl + 4 - i) % 4 = 3 + (lat + 4 - (i + 1)) % 4 by omega]
      exact ((hk.fr g2 (by omega)).sI (by omega)).sI (by omega)
    · rw [sI_ne _ _ (by omega), sI_ne _ _ (by omega), g2.1 _ (by omega)]
    · rw [sI_2, sI_2, g2.2 _ (by omega)]
  by_cases c : lat = 0
  · rw [if_pos (by rw [iI_le (by omega) (by omega) (by omega) (by omega)]; omega)]
    exact key 3 (by omega) (by omega)
  · rw [if_neg (by rw [iI_le (by omega) (by omega) (by omega) (by omega)]; omega)]
    rw [iI_sub, show (lat : Int) - 1 = ((lat - 1 : Nat) : Int) by omega]
    exact key (lat - 1) (by omega) (by omega)
