/-! STAGE B, 52: comeAll -/
section A4
theorem all_loop {A : Ab} {H : List Ab} {sn : Option Ab} {T : List Nat} (hI : GI A H sn T) {K : List (Nat × Nat)} (hK : K.length ≤ 15) (hxy : ∀ q ∈ K, q.1 < 64 ∧ q.2 < 64) :
    ∀ (m i N : Nat) (S M : St) (B : Ab), i + m = K.length → m < N → Inv B → GC S A H sn T → CampC S 1 B → (∀ (j : Nat) (q : Nat × Nat), K[j]? = some q → f1_number S (iI ((2 * j : Nat) : Int)) = some (iI (q.1 : Int)) ∧ f1_number S (iI ((2 * j + 1 : Nat) : Int)) = some (iI (q.2 : Int))) →
      VecV (M.2 0) B → VecV (M.2 1) A → HistM M H → SnM M sn → TxM M T → M.1 6 = iI (K.length : Int) → (∀ (j : Nat) (q : Nat × Nat), K[j]? = some q → M.2 5 j = iI (q.1 : Int) ∧ M.2 6 j = iI (q.2 : Int)) →
      QA (f5_comeAll_b39 (iI (K.length : Int)) N S (iI (i : Int))) (f6_comeAll_b27 N M (iI (i : Int))) := by
  intro m
  induction m with
  | zero =>
    intro i N S M B hi hN hB hC hCB hnum hV hVA hH hS hTx h6 hrd
    obtain ⟨N, rfl⟩ : ∃ N', N = N' + 1 := ⟨N - 1, by omega⟩
    have e : i = K.length := by omega
    rw [f5_comeAll_b39, f6_comeAll_b27, h6, e, if_pos (Int32.le_refl _), if_pos (Int32.le_refl _)]
    obtain ⟨S1, g1, g2, g3, g4⟩ := hC.push hI
    have hCB1 : CampC S1 1 B := hCB.cg (fun i a b => g3 i (by omega)) (fun r a b => g4 r (by omega))
    obtain ⟨S2, d1, d2, d3⟩ := r_copyCamp (c := 0) hCB1 hB (by omega)
    obtain ⟨M1, k1, k2, k3, k4⟩ := m_swap M
    have hG1 : GM M1 A H sn T := ⟨hVA.cg hI.1 (fun j hj => (k4 j hj).1), hH.cg (by rw [k2]) (k3 2 (by omega) (by omega)), hS.cg (by rw [k2]) (k3 3 (by omega) (by omega)), hTx.cg (by rw [k2]) (k3 4 (by omega) (by omega))⟩
    obtain ⟨M2, c1, c2, c3, c4⟩ := hG1.rec hI
    obtain ⟨M3, b1, b2, b3, b4⟩ := m_swap M2
    rw [g1, bnd_s, d1, bnd_s, k1, bnd_s, c1, bnd_s, b1, bnd_s, b2, c3 6 (by omega), k2, h6]
    refine ⟨_, _, _, rfl, rfl, B, (A :: H).take 4, sn, T, hI.act hB, g2.fr0 d2 d3, c2.cg (by rw [b2]) (by rw [b2]) (by rw [b2]) (b3 2 (by omega) (by omega)) (b3 3 (by omega) (by omega)) (b3 4 (by omega) (by omega)) ?_⟩
    exact hV.cg hB (fun j hj => by rw [(b4 j hj).1, c4 1 (by omega), (k4 j hj).2])
  | succ m ih =>
    intro i N S M B hi hN hB hC hCB hnum hV hVA hH hS hTx h6 hrd
    obtain ⟨N, rfl⟩ : ∃ N', N = N' + 1 := ⟨N - 1, by omega⟩
    obtain ⟨q, hq⟩ : ∃ q, K[i]? = some q := ⟨_, List.getElem?_eq_getElem (show i < K.length by omega)⟩
    obtain ⟨hx, hy⟩ := hxy q (List.mem_of_getElem? hq)
    obtain ⟨n1, n2⟩ := hnum i q hq
    obtain ⟨r1, r2⟩ := hrd i q hq
    have hne : ¬ iI (K.length : Int) ≤ iI (i : Int) := by rw [iI_le (by omega) (by omega) (by omega) (by omega)]; omega
    have em : ((2 : Int32) * iI (i : Int)) = iI ((2 * i : Nat) : Int) := by rw [q2, iI_mul]; congr 1
    have em1 : (iI ((2 * i : Nat) : Int) + 1 : Int32) = iI ((2 * i + 1 : Nat) : Int) := by rw [q1, iI_s]
    obtain ⟨⟨L, hp, hP⟩, hVm⟩ := hV
    have hV' : VecV (M.2 0) B := ⟨⟨L, hp, hP⟩, hVm⟩
    rw [f5_comeAll_b39, f6_comeAll_b27, h6, if_neg hne, if_neg hne, em, n1, bnd_s, em1, n2, bnd_s, ml5, ml6, arr_i (by omega) (by omega), arr_i (by omega) (by omega), r1, r2, m_refuses hP hp hVm hB hx hy, bnd_s]
    rcases r_dep hCB hB hx hy with ⟨hr, hd⟩ | ⟨hr, h16, t, ht, hd⟩
    · rw [hd, bnd_s, q0, if_neg (by rw [iI_le (by omega) (by omega) (by omega) (by omega)]; omega), if_neg (by rw [iI_eq (by omega) (by omega) (by omega) (by omega)]; omega)]
      obtain ⟨U, k1, k2, k3, k4⟩ := m_takeBack M
      rw [k1, bnd_s]
      exact ⟨_, _, _, rfl, rfl, A, H, sn, T, hI, hC, hVA.cg hI.1 k4, hH.cg (by rw [k2]) (k3 2 (by omega)), hS.cg (by rw [k2]) (k3 3 (by omega)), hTx.cg (by rw [k2]) (k3 4 (by omega))⟩
    · have hle := ht.le hB hx hy
      have hlen := ht.len hB hx hy h16
      obtain ⟨⟨L3, hp3, hP3⟩, hCm⟩ := hCB
      obtain ⟨S7, d1, d2, d3⟩ := r_settle hP3 hp3 hCm hB hx hy h16 hle (by omega)
      obtain ⟨M10, c1, c2, c3⟩ := m_comes hV' hB hx hy h16 ht
      have e15 : ∀ k : Int32 → Option (Int32 × St), arr (M.2 5) 16 (iI (i : Int)) k = k (iI (q.1 : Int)) := fun k => by rw [arr_i (by omega) (by omega), r1]
      have e16 : ∀ k : Int32 → Option (Int32 × St), arr (M.2 6) 16 (iI (i : Int)) k = k (iI (q.2 : Int)) := fun k => by rw [arr_i (by omega) (by omega), r2]
      rw [hd, bnd_s, hr, q0, if_pos (by rw [iI_le (by omega) (by omega) (by omega) (by omega)]; omega), if_pos rfl]
      rw [d1, bd2_s, e15, e16, c1, bd2_s, q1, iI_s]
      have nm : ∀ z, f1_number S7 z = f1_number S z := by
        intro z
        have a1 : S7.1 45 = S.1 45 := d2.1 45 (by omega)
        have a2 : S7.2 70 = S.2 70 := d2.2 70 (by omega)
        unfold f1_number
        have : ∀ (n : Nat) (a b d : Int32), f1_number_b7 S7 z n a b d = f1_number_b7 S z n a b d := by
          intro n
          induction n with
          | zero => intro a b d; rfl
          | succ n ih =>
            intro a b d
            rw [f1_number_b7, f1_number_b7]
            unfold f1_number_b54 f1_at f1_at_b22 f1_at_b23
            rw [a1, a2]
            simp only [ih]
        exact this _ _ _ _
      refine ih (i + 1) N S7 M10 (comeA B q.1 q.2 t) (by omega) (by omega) (come_inv hB hx hy h16 ht) (hC.fr1 d2) d3 (fun j q' hj => by rw [nm, nm]; exact hnum j q' hj) c3 (by rw [c2.2 1 (by omega)]; exact hVA) (hH.cg (by rw [c2.1]) (c2.2 2 (by omega))) (hS.cg (by rw [c2.1]) (c2.2 3 (by omega))) (hTx.cg (by rw [c2.1]) (c2.2 4 (by omega))) (by rw [c2.1]; exact h6) (fun j q' hj => by rw [c2.2 5 (by omega), c2.2 6 (by omega)]; exact hrd j q' hj)
theorem a_comeAll {S M : St} {A : Ab} {H : List Ab} {sn : Option Ab} {T : List Nat} (hI : GI A H sn T) (hC : GC S A H sn T) (hM : GM M A H sn T) : QA (f5_comeAll S) (f6_comeAll M) := by
  have hM1 := hM.t0
  obtain ⟨M1, e1⟩ : ∃ M1, M1 = sI M 0 0 := ⟨_, rfl⟩
  have hT := hI.2.2.2
  have h60 := hT.1
  unfold f5_comeAll f6_comeAll
  rw [nam_r, ← e1]
  rw [← e1] at hM1
  obtain ⟨K, r, hK⟩ := prs_ex T T.length 0 (by omega) (by omega)
  have hl := hK.len (Nat.zero_le _)
  obtain ⟨M3, k1, k2, k3⟩ := m_reads hM1.2.2.2 hT hK
  have hM3 := hM1.frR k2
  rw [r_fault hC.2.2.2 hT hK, bnd_s, k1, bd2_s]
  cases r with
  | some f =>
    have hf := hK.fle (Nat.zero_le _)
    have e5 : flt (some f) = (f : Int) := rfl
    have e6 : flt5 (some f) = (f : Int) := rfl
    rw [e5, e6, iI_m1, if_neg (by rw [iI_eq (by omega) (by omega) (by omega) (by omega)]; omega), if_neg (by rw [show (-5 : Int32) = iI (-5) from rfl, iI_eq (by omega) (by omega) (by omega) (by omega)]; omega)]
    exact ⟨_, _, _, rfl, rfl, A, H, sn, T, hI, hC, hM3⟩
  | none =>
    obtain ⟨k4, k5⟩ := k3 rfl
    rw [if_pos (show iI (flt none) = -1 from rfl), if_pos (show iI (flt5 none) = -5 from rfl)]
    obtain ⟨S2, d1, d2, d3⟩ := r_copyCamp (c := 1) hC.1 hI.1 (by omega)
    obtain ⟨M4, c1, c2, c3, c4⟩ := m_putAside M3
    have hC2 := hC.fr1 d2
    have hM4 : GM M4 A H sn T := hM3.cg (by rw [c2]) (by rw [c2]) (by rw [c2]) (c3 2 (by omega)) (c3 3 (by omega)) (c3 4 (by omega)) (by rw [c3 0 (by omega)]; exact hM3.1)
    rw [d1, bnd_s, r_campersT hC2.2.2.2 hT hK, bnd_s, c1, bnd_s]
    exact all_loop hI (by omega) hK.xy K.length 0 fuelN S2 M4 A (by omega) (fuel_lt (by omega)) hI.1 hC2 d3 (fun j q hj => r_number hC2.2.2.2 hT hK hj) hM4.1 (hM3.1.cg hI.1 c4) hM4.2.1 hM4.2.2.1 hM4.2.2.2 (by rw [c2]; exact k4) (fun j q hj => by rw [c3 5 (by omega), c3 6 (by omega)]; exact k5 j q hj)
end A4
