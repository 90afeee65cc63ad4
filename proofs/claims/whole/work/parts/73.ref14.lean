/-! STAGE B, 43: the reference: states copied, recorded -/
theorem VecV.cg {v v' : Nat → Int32} {A : Ab} (h : VecV v A) (hI : Inv A) (he : ∀ j, j < 886 → v' j = v j) : VecV v' A := by
  obtain ⟨⟨L, hp, h1, h2⟩, a, b, c, d, e, f, g, k⟩ := h
  have hl := (hI.wf.perm hp).1
  have h16 := hI.1.1
  have h20 := hI.1.2
  refine ⟨⟨L, hp, by rw [he _ (by omega)]; exact h1, fun i p hi => ?_⟩, by rw [he _ (by omega)]; exact a, by rw [he _ (by omega)]; exact b, by rw [he _ (by omega)]; exact c, by rw [he _ (by omega)]; exact d, by rw [he _ (by omega)]; exact e, fun j hj => ?_, fun j hj hj2 => ?_, fun j hj => ?_⟩
  · have := (List.getElem?_eq_some_iff.mp hi).1
    rw [he _ (by omega), he _ (by omega), he _ (by omega), he _ (by omega)]; exact h2 i p hi
  · rw [he _ (by omega), he _ (by omega), he _ (by omega)]; exact f j hj
  · rw [he _ (by omega)]; exact g j hj hj2
  · rw [he _ (by omega), he _ (by omega), he _ (by omega)]; exact k j hj
/-- a row of 886 copied into another -/
theorem loop_cp {ρ : Type} (F : Nat → St → Int32 → Option ρ) (fin : St → Option ρ) (M : St) (s d os od : Nat) (hsd : s ≠ d)
    (hs : ∀ (n i : Nat) (U : St), i < 886 → U.1 = M.1 → F (n + 1) U (iI (i : Int)) = F n (sA U d (od + i) (U.2 s (os + i))) (iI ((i + 1 : Nat) : Int)))
    (he : ∀ (n : Nat) (U : St), F (n + 1) U (iI ((886 : Nat) : Int)) = fin U) :
    ∃ U, F fuelN M 0 = fin U ∧ U.1 = M.1 ∧ (∀ r, r ≠ d → U.2 r = M.2 r) ∧ (∀ j, j < 886 → U.2 d (od + j) = M.2 s (os + j)) ∧ ∀ j, (j < od ∨ od + 886 ≤ j) → U.2 d j = M.2 d j := by
  have := loop_inv0 (σ := St) 886 (fun n i U => F n U i) (fun i U => U.1 = M.1 ∧ (∀ r, r ≠ d → U.2 r = M.2 r) ∧ (∀ j, j < i → U.2 d (od + j) = M.2 s (os + j)) ∧ ∀ j, (j < od ∨ od + i ≤ j) → U.2 d j = M.2 d j) fin fuelN (fuel_lt (by omega)) ?_ ?_ M ⟨rfl, fun _ _ => rfl, fun j hj => absurd hj (Nat.not_lt_zero _), fun _ _ => rfl⟩
  · obtain ⟨U, ⟨h1, h2, h3, h4⟩, h5⟩ := this
    exact ⟨U, h5, h1, h2, h3, h4⟩
  · rintro n i U hi ⟨g1, g2, g3, g4⟩
    refine ⟨_, ⟨by rw [sA_1]; exact g1, fun r hr => by rw [sA_ne _ _ _ hr]; exact g2 r hr, fun j hj => ?_, fun j hj => ?_⟩, hs n i U hi g1⟩
    · rw [sA_eq]
      by_cases e : j = i
      · subst e; rw [upd_s, g2 s hsd]
      · rw [upd_n (by omega)]; exact g3 j (by omega)
    · rw [sA_eq, upd_n (by omega)]; exact g4 j (by omega)
  · rintro n U -
    exact he n U
theorem m_putAside (M : St) : ∃ U, f6_putAside M = some U ∧ U.1 = M.1 ∧ (∀ r, r ≠ 1 → U.2 r = M.2 r) ∧ ∀ j, j < 886 → U.2 1 j = M.2 0 j := by
  obtain ⟨U, h1, h2, h3, h4, -⟩ := loop_cp (fun n U i => f6_putAside_b2 n U i) (fun U => some U) M 0 1 0 0 (by omega) (fun n i U hi hU => by
    show f6_putAside_b2 (n + 1) _ _ = f6_putAside_b2 n _ _
    rw [f6_putAside_b2, if_neg (by rw [q886, iI_le (by omega) (by omega) (by omega) (by omega)]; omega), ml0, ml1, arr_i hi (by omega), sto_i hi (by omega), nam_r, iI_cl (by omega), q1, iI_s, Nat.zero_add]) (fun n U => by
    show f6_putAside_b2 (n + 1) _ _ = _
    rw [f6_putAside_b2, if_pos (by rw [q886]; exact Int32.le_refl _)])
  refine ⟨U, h1, h2, h3, fun j hj => ?_⟩
  have := h4 j hj
  rwa [Nat.zero_add] at this
theorem m_takeBack (M : St) : ∃ U, f6_takeBack M = some U ∧ U.1 = M.1 ∧ (∀ r, r ≠ 0 → U.2 r = M.2 r) ∧ ∀ j, j < 886 → U.2 0 j = M.2 1 j := by
  obtain ⟨U, h1, h2, h3, h4, -⟩ := loop_cp (fun n U i => f6_takeBack_b2 n U i) (fun U => some U) M 1 0 0 0 (by omega) (fun n i U hi hU => by
    show f6_takeBack_b2 (n + 1) _ _ = f6_takeBack_b2 n _ _
    rw [f6_takeBack_b2, if_neg (by rw [q886, iI_le (by omega) (by omega) (by omega) (by omega)]; omega), ml0, ml1, arr_i hi (by omega), sto_i hi (by omega), nam_r, iI_cl (by omega), q1, iI_s, Nat.zero_add]) (fun n U => by
    show f6_takeBack_b2 (n + 1) _ _ = _
    rw [f6_takeBack_b2, if_pos (by rw [q886]; exact Int32.le_refl _)])
  refine ⟨U, h1, h2, h3, fun j hj => ?_⟩
  have := h4 j hj
  rwa [Nat.zero_add] at this
theorem m_keepLoop (M : St) : ∃ U, f6_keep_b7 fuelN M 0 = (nam (sI U 2 1) fun M_1 => (f6_onField M_1).bind fun r_2 => some (r_2, M_1)) ∧ U.1 = M.1 ∧ (∀ r, r ≠ 3 → U.2 r = M.2 r) ∧ ∀ j, j < 886 → U.2 3 j = M.2 0 j := by
  obtain ⟨U, h1, h2, h3, h4, -⟩ := loop_cp (fun n U i => f6_keep_b7 n U i) (fun U => nam (sI U 2 1) fun M_1 => (f6_onField M_1).bind fun r_2 => some (r_2, M_1)) M 0 3 0 0 (by omega) (fun n i U hi hU => by
    show f6_keep_b7 (n + 1) _ _ = f6_keep_b7 n _ _
    rw [f6_keep_b7, if_neg (by rw [q886, iI_le (by omega) (by omega) (by omega) (by omega)]; omega), ml0, ml3, arr_i hi (by omega), sto_i hi (by omega), nam_r, iI_cl (by omega), q1, iI_s, Nat.zero_add]) (fun n U => by
    show f6_keep_b7 (n + 1) _ _ = _
    rw [f6_keep_b7, if_pos (by rw [q886]; exact Int32.le_refl _)])
  refine ⟨U, h1, h2, h3, fun j hj => ?_⟩
  have := h4 j hj
  rwa [Nat.zero_add] at this
theorem m_restLoop (M : St) : ∃ U, f6_restore_b21 fuelN M 0 = ((f6_onField U).bind fun r_1 => some (r_1, U)) ∧ U.1 = M.1 ∧ (∀ r, r ≠ 0 → U.2 r = M.2 r) ∧ ∀ j, j < 886 → U.2 0 j = M.2 3 j := by
  obtain ⟨U, h1, h2, h3, h4, -⟩ := loop_cp (fun n U i => f6_restore_b21 n U i) (fun U => (f6_onField U).bind fun r_1 => some (r_1, U)) M 3 0 0 0 (by omega) (fun n i U hi hU => by
    show f6_restore_b21 (n + 1) _ _ = f6_restore_b21 n _ _
    rw [f6_restore_b21, if_neg (by rw [q886, iI_le (by omega) (by omega) (by omega) (by omega)]; omega), ml0, ml3, arr_i hi (by omega), sto_i hi (by omega), nam_r, iI_cl (by omega), q1, iI_s, Nat.zero_add]) (fun n U => by
    show f6_restore_b21 (n + 1) _ _ = _
    rw [f6_restore_b21, if_pos (by rw [q886]; exact Int32.le_refl _)])
  refine ⟨U, h1, h2, h3, fun j hj => ?_⟩
  have := h4 j hj
  rwa [Nat.zero_add] at this
theorem blk (n i : Nat) : (886 : Int32) * iI (n : Int) + iI (i : Int) = iI ((886 * n + i : Nat) : Int) := by
  rw [q886, iI_mul, iI_add]; congr 1
theorem m_undoLoop (M : St) {n : Nat} (hn : n < 4) (h1 : M.1 1 = iI (n : Int)) : ∃ U, f6_undo_b27 fuelN M 0 = some (iI (n : Int), U) ∧ U.1 = M.1 ∧ (∀ r, r ≠ 0 → U.2 r = M.2 r) ∧ ∀ j, j < 886 → U.2 0 j = M.2 2 (886 * n + j) := by
  obtain ⟨U, g1, g2, g3, g4, -⟩ := loop_cp (fun n U i => f6_undo_b27 n U i) (fun U => some (U.1 1, U)) M 2 0 (886 * n) 0 (by omega) (fun m i U hi hU => by
    show f6_undo_b27 (m + 1) _ _ = f6_undo_b27 m _ _
    rw [f6_undo_b27, if_neg (by rw [q886, iI_le (by omega) (by omega) (by omega) (by omega)]; omega), hU, h1, blk, ml0, ml2, arr_i (by omega) (by omega), sto_i hi (by omega), nam_r, iI_cl (by omega), q1, iI_s, Nat.zero_add]) (fun m U => by
    show f6_undo_b27 (m + 1) _ _ = _
    rw [f6_undo_b27, if_pos (by rw [q886]; exact Int32.le_refl _)])
  rw [g2, h1] at g1
  refine ⟨U, g1, g2, g3, fun j hj => ?_⟩
  have := g4 j hj
  rwa [Nat.zero_add] at this
theorem m_rec49 (M : St) {n : Nat} (hn : n < 4) (h1 : M.1 1 = iI (n : Int)) : ∃ M', f6_records_b49 M = some M' ∧ M'.1 1 = iI ((n + 1 : Nat) : Int) ∧ (∀ i, i ≠ 1 → M'.1 i = M.1 i) ∧ (∀ r, r ≠ 2 → M'.2 r = M.2 r) ∧ (∀ j, j < 886 → M'.2 2 (886 * n + j) = M.2 0 j) ∧ ∀ j, j < 886 * n → M'.2 2 j = M.2 2 j := by
  obtain ⟨U, g1, g2, g3, g4, g5⟩ := loop_cp (fun n U i => f6_records_b51 n U i) (fun U => nam (sI U 1 (U.1 1 + 1)) fun M_1 => some M_1) M 0 2 0 (886 * n) (by omega) (fun m i U hi hU => by
    show f6_records_b51 (m + 1) _ _ = f6_records_b51 m _ _
    rw [f6_records_b51, if_neg (by rw [q886, iI_le (by omega) (by omega) (by omega) (by omega)]; omega), hU, h1, blk, ml0, ml2, arr_i (by omega) (by omega), sto_i (by omega) (by omega), nam_r, iI_cl (by omega), q1, iI_s, Nat.zero_add]) (fun m U => by
    show f6_records_b51 (m + 1) _ _ = _
    rw [f6_records_b51, if_pos (by rw [q886]; exact Int32.le_refl _)])
  refine ⟨sI U 1 (U.1 1 + 1), g1, ?_, fun i hi => by rw [sI_ne _ _ hi, g2], fun r hr => by rw [sI_2]; exact g3 r hr, fun j hj => ?_, fun j hj => by rw [sI_2]; exact g5 j (by omega)⟩
  · rw [sI_eq, g2, h1, q1, iI_s]
  · rw [sI_2, g4 j hj, Nat.zero_add]
theorem m_shift (M : St) : ∃ U, f6_records_b10 fuelN M 0 = (nam (sI U 1 (U.1 1 - 1)) fun M_1 => f6_records_b49 M_1) ∧ U.1 = M.1 ∧ (∀ r, r ≠ 2 → U.2 r = M.2 r) ∧ ∀ j, j < 2658 → U.2 2 j = M.2 2 (j + 886) := by
  have := loop_inv0 (σ := St) 2658 (fun n i U => f6_records_b10 n U i) (fun i U => U.1 = M.1 ∧ (∀ r, r ≠ 2 → U.2 r = M.2 r) ∧ (∀ j, j < i → U.2 2 j = M.2 2 (j + 886)) ∧ ∀ j, i ≤ j → U.2 2 j = M.2 2 j) (fun U => nam (sI U 1 (U.1 1 - 1)) fun M_1 => f6_records_b49 M_1) fuelN (fuel_lt (by omega)) ?_ ?_ M ⟨rfl, fun _ _ => rfl, fun j hj => absurd hj (Nat.not_lt_zero _), fun _ _ => rfl⟩
  · obtain ⟨U, ⟨h1, h2, h3, h4⟩, h5⟩ := this
    exact ⟨U, h5, h1, h2, h3⟩
  · rintro n i U hi ⟨g1, g2, g3, g4⟩
    have ei : (iI (i : Int) + 886 : Int32) = iI ((i + 886 : Nat) : Int) := by rw [q886, iI_add]; congr 1
    refine ⟨sA U 2 i (U.2 2 (i + 886)), ⟨by rw [sA_1]; exact g1, fun r hr => by rw [sA_ne _ _ _ hr]; exact g2 r hr, fun j hj => ?_, fun j hj => ?_⟩, ?_⟩
    · rw [sA_eq]
      by_cases e : j = i
      · subst e; rw [upd_s, g4 _ (by omega)]
      · rw [upd_n e]; exact g3 j (by omega)
    · rw [sA_eq, upd_n (by omega)]; exact g4 j (by omega)
    · show f6_records_b10 (n + 1) _ _ = f6_records_b10 n _ _
      rw [f6_records_b10, if_neg (by rw [q2658, iI_le (by omega) (by omega) (by omega) (by omega)]; omega), ei, ml2, arr_i (by omega) (by omega), sto_i (by omega) (by omega), nam_r, iI_cl (by omega), q1, iI_s]
  · rintro n U -
    show f6_records_b10 (n + 1) _ _ = _
    rw [f6_records_b10, if_pos (by rw [q2658]; exact Int32.le_refl _)]
theorem m_swap (M : St) : ∃ U, f6_swapsAside M = some U ∧ U.1 = M.1 ∧ (∀ r, r ≠ 0 → r ≠ 1 → U.2 r = M.2 r) ∧ ∀ j, j < 886 → U.2 0 j = M.2 1 j ∧ U.2 1 j = M.2 0 j := by
  unfold f6_swapsAside
  have := loop_inv0 (σ := St) 886 (fun n i U => f6_swapsAside_b2 n U i) (fun i U => U.1 = M.1 ∧ (∀ r, r ≠ 0 → r ≠ 1 → U.2 r = M.2 r) ∧ (∀ j, j < i → U.2 0 j = M.2 1 j ∧ U.2 1 j = M.2 0 j) ∧ ∀ j, i ≤ j → U.2 0 j = M.2 0 j ∧ U.2 1 j = M.2 1 j) (fun U => some U) fuelN (fuel_lt (by omega)) ?_ ?_ M ⟨rfl, fun _ _ _ => rfl, fun j hj => absurd hj (Nat.not_lt_zero _), fun _ _ => ⟨rfl, rfl⟩⟩
  · obtain ⟨U, ⟨h1, h2, h3, h4⟩, h5⟩ := this
    exact ⟨U, h5, h1, h2, h3⟩
  · rintro n i U hi ⟨g1, g2, g3, g4⟩
    refine ⟨sA (sA U 0 i (U.2 1 i)) 1 i (U.2 0 i), ⟨by rw [sA_1, sA_1]; exact g1, fun r hr hr1 => by rw [sA_ne _ _ _ hr1, sA_ne _ _ _ hr]; exact g2 r hr hr1, fun j hj => ?_, fun j hj => ?_⟩, ?_⟩
    · rw [sA_ne _ _ _ (show 0 ≠ 1 by omega), sA_eq, sA_eq, sA_ne _ _ _ (show 1 ≠ 0 by omega)]
      by_cases e : j = i
      · subst e; rw [upd_s, upd_s]; exact ⟨(g4 j (by omega)).2, (g4 j (by omega)).1⟩
      · rw [upd_n e, upd_n e]; exact g3 j (by omega)
    · rw [sA_ne _ _ _ (show 0 ≠ 1 by omega), sA_eq, sA_eq, sA_ne _ _ _ (show 1 ≠ 0 by omega), upd_n (by omega), upd_n (by omega)]; exact g4 j (by omega)
    · show f6_swapsAside_b2 (n + 1) _ _ = f6_swapsAside_b2 n _ _
      rw [f6_swapsAside_b2, if_neg (by rw [q886, iI_le (by omega) (by omega) (by omega) (by omega)]; omega), ml0, ml1, arr_i hi (by omega), arr_i hi (by omega), sto_i hi (by omega), nam_r, sto_i hi (by omega), nam_r, iI_cl (by omega), q1, iI_s]
  · rintro n U -
    show f6_swapsAside_b2 (n + 1) _ _ = _
    rw [f6_swapsAside_b2, if_pos (by rw [q886]; exact Int32.le_refl _)]
/-- the blocks of the reference's saved states, the newest first -/
def HistM (M : St) (H : List Ab) : Prop := H.length ≤ 4 ∧ M.1 1 = iI (H.length : Int) ∧ ∀ (i : Nat) (A : Ab), H[i]? = some A → VecV (fun j => M.2 2 (886 * (H.length - 1 - i) + j)) A
theorem HistM.cg {M M' : St} {H : List Ab} (h : HistM M H) (h1 : M'.1 1 = M.1 1) (h2 : M'.2 2 = M.2 2) : HistM M' H := ⟨h.1, h1.trans h.2.1, fun i A hi => by rw [h2]; exact h.2.2 i A hi⟩
theorem m_records {M : St} {H : List Ab} {A : Ab} (hH : HistM M H) (hHI : ∀ B ∈ H, Inv B) (hV : VecV (M.2 0) A) (hI : Inv A) : ∃ M', f6_records M = some M' ∧ HistM M' ((A :: H).take 4) ∧ (∀ i, i ≠ 1 → M'.1 i = M.1 i) ∧ ∀ r, r ≠ 2 → M'.2 r = M.2 r := by
  obtain ⟨h1, h2, h3⟩ := hH
  have rd : ∀ (M1 : St) (n : Nat) (K : List Ab), n < 4 → (A :: H).take 4 = A :: K → K.length = n → (∀ B ∈ K, Inv B) → M1.1 1 = iI (n : Int) → (∀ i, i ≠ 1 → M1.1 i = M.1 i) → (∀ r, r ≠ 2 → M1.2 r = M.2 r) → (∀ i B, K[i]? = some B → VecV (fun j => M1.2 2 (886 * (n - 1 - i) + j)) B) → ∃ M', f6_records_b49 M1 = some M' ∧ HistM M' ((A :: H).take 4) ∧ (∀ i, i ≠ 1 → M'.1 i = M.1 i) ∧ ∀ r, r ≠ 2 → M'.2 r = M.2 r := by
    intro M1 n K hn hK hKn hKI a1 a2 a3 a4
    obtain ⟨M', g1, g2, g3, g4, g5, g6⟩ := m_rec49 M1 hn a1
    refine ⟨M', g1, ⟨by rw [hK, List.length_cons]; omega, by rw [g2, hK, List.length_cons, hKn], fun i B hi => ?_⟩, fun i hi => by rw [g3 i hi, a2 i hi], fun r hr => by rw [g4 r hr, a3 r hr]⟩
    rw [hK] at hi ⊢
    rw [List.length_cons, hKn]
    cases i with
    | zero =>
      rw [List.getElem?_cons_zero] at hi
      cases hi
      refine hV.cg hI (fun j hj => ?_)
      show M'.2 2 (886 * (n + 1 - 1 - 0) + j) = _
      rw [show n + 1 - 1 - 0 = n by omega, g5 j hj, a3 0 (by omega)]
    | succ i =>
      rw [List.getElem?_cons_succ] at hi
      have hlt := (List.getElem?_eq_some_iff.mp hi).1
      refine (a4 i B hi).cg (hKI B (List.mem_of_getElem? hi)) (fun j hj => ?_)
      show M'.2 2 (886 * (n + 1 - 1 - (i + 1)) + j) = _
      rw [show n + 1 - 1 - (i + 1) = n - 1 - i by omega, g6 _ (by omega)]
  unfold f6_records
  rw [h2, q4]
  by_cases c : H.length = 4
  · rw [if_pos (by rw [c]; rfl)]
    obtain ⟨U, g1, g2, g3, g4⟩ := m_shift M
    have e3 : (U.1 1 - 1 : Int32) = iI ((3 : Nat) : Int) := by rw [g2, h2, c, q1, iI_sub]; rfl
    rw [g1, e3, nam_r]
    have ht : (H.take 3).length = 3 := by rw [List.length_take, c]; rfl
    refine rd _ 3 (H.take 3) (by omega) rfl ht (fun B hB => hHI B (List.mem_of_mem_take hB)) (sI_eq _ _ _) (fun i hi => by rw [sI_ne _ _ hi, g2]) (fun r hr => by rw [sI_2]; exact g3 r hr) (fun i B hi => ?_)
    rw [List.getElem?_take] at hi
    split at hi
    · rename_i hi3
      refine (h3 i B hi).cg (hHI B (List.mem_of_getElem? hi)) (fun j hj => ?_)
      show (sI U 1 (iI ((3 : Nat) : Int))).2 2 (886 * (3 - 1 - i) + j) = M.2 2 (886 * (H.length - 1 - i) + j)
      rw [sI_2, g4 _ (by omega), c, show 886 * (3 - 1 - i) + j + 886 = 886 * (4 - 1 - i) + j by omega]
    · cases hi
  · rw [if_neg (by rw [iI_eq (by omega) (by omega) (by omega) (by omega)]; omega)]
    refine rd M H.length H (by omega) (List.take_of_length_le (by rw [List.length_cons]; omega)) rfl hHI h2 (fun _ _ => rfl) (fun _ _ => rfl) h3
