/-! p24, 5: texts, history, comeAll, act -/
section TX
variable {S : St} {A : Ab} {H : List Ab} {sn : Option Ab} {T : List Nat}
theorem t_type (hI : GI A H sn T) (hC : GC S A H sn T) {c : Nat} (hc : c < 65536) (h : T.length < 60) : ∃ S', f5_type S (iI (c : Int)) = some (iI ((T.length + 1 : Nat) : Int), S') ∧ GI A H sn (T ++ [c]) ∧ GC S' A H sn (T ++ [c]) := by
  have hT := hI.2.2.2
  have t1 := hC.2.2.2.1
  have ev : vp_nar .char (iI (c : Int)) = iI (c : Int) := by rw [vp_nar_char, char_rt hc]
  have hlen : (T ++ [c]).length = T.length + 1 := by rw [List.length_append]; rfl
  have hat : ∀ (f : Nat → Int32), (∀ (i d : Nat), T[i]? = some d → f i = iI (d : Int)) → ∀ (i d : Nat), (T ++ [c])[i]? = some d → upd f T.length (iI (c : Int)) i = iI (d : Int) := by
    intro f hf i d hi
    by_cases e : i = T.length
    · rw [e, upd_s]
      rw [e, List.getElem?_append_right (Nat.le_refl _), Nat.sub_self] at hi
      cases hi; rfl
    · have hl := (List.getElem?_eq_some_iff.mp hi).1
      rw [hlen] at hl
      rw [upd_n e]
      rw [List.getElem?_append_left (by omega)] at hi
      exact hf i d hi
  unfold f5_type f5_type_b23 f1_append f1_append_b19
  rw [t1, iI_ofNat, q0, if_neg (by rw [iI_lt (by omega) (by omega) (by omega) (by omega)]; omega), if_pos (by rw [iI_lt (by omega) (by omega) (by omega) (by omega)]; omega), sto_i h (by omega), nam_r, nam_r, bd2_s, if_neg (show ¬ (1 : Int32) = iI 0 by decide), ev, iI_cl (by omega), sA_1, t1, q1, iI_s, sI_eq]
  refine ⟨_, rfl, ⟨hI.1, hI.2.1, hI.2.2.1, by rw [hlen]; omega, fun d hd => ?_⟩, ⟨?_, ?_, ?_, ?_⟩⟩
  · rcases List.mem_append.mp hd with q | q
    · exact hT.2 d q
    · rw [List.mem_singleton] at q; rw [q]; exact hc
  · exact (hC.1.cg (fun i a b => by rw [sI_ne _ _ (by omega)]; rfl) (fun r a b => by rw [sI_2, sA_ne _ _ _ (by omega)]))
  · obtain ⟨a1, a2, lat, a3, a4, a5⟩ := hC.2.1
    refine ⟨a1, by rw [sI_ne _ _ (by omega)]; exact a2, lat, a3, by rw [sI_ne _ _ (by omega)]; exact a4, fun i B hB => (a5 i B hB).cg (fun i a b => by rw [sI_ne _ _ (by omega)]; rfl) (fun r a b => by rw [sI_2, sA_ne _ _ _ (by omega)])⟩
  · exact hC.2.2.1.cg (by rw [sI_ne _ _ (by omega)]; rfl) (fun B hB => hB.cg (fun i a b => by rw [sI_ne _ _ (by omega)]; rfl) (fun r a b => by rw [sI_2, sA_ne _ _ _ (by omega)]))
  · refine ⟨by rw [sI_eq, hlen], fun i d hi => ?_⟩
    rw [sI_2, sA_eq]
    exact hat _ hC.2.2.2.2 i d hi
theorem t_clear (hI : GI A H sn T) (hC : GC S A H sn T) : ∃ S', f5_clearText S = some (iI (T.length : Int), S') ∧ GI A H sn [] ∧ GC S' A H sn [] := by
  unfold f5_clearText
  rw [nam_r, nam_r, hC.2.2.2.1]
  refine ⟨_, rfl, ⟨hI.1, hI.2.1, hI.2.2.1, by rw [List.length_nil]; omega, fun d hd => by cases hd⟩, ⟨hC.1.sI (by omega), ?_, hC.2.2.1.cg (sI_ne _ _ (by omega)) (fun B hB => hB.sI (by omega)), sI_eq _ _ _, fun i d hi => by cases hi⟩⟩
  obtain ⟨a1, a2, lat, a3, a4, a5⟩ := hC.2.1
  exact ⟨a1, by rw [sI_ne _ _ (by omega)]; exact a2, lat, a3, by rw [sI_ne _ _ (by omega)]; exact a4, fun i B hB => (a5 i B hB).sI (by omega)⟩
theorem t_undo0 (hC : GC S A [] sn T) : f5_undo S = some (-5, S) := by
  have t1 : S.1 44 = 0 := hC.2.1.2.1
  unfold f5_undo
  rw [if_pos t1]
theorem t_undo {B : Ab} (hI : GI A (B :: H) sn T) (hC : GC S A (B :: H) sn T) : ∃ S', f5_undo S = some (iI (H.length : Int), S') ∧ GI B H sn T ∧ GC S' B H sn T := by
  have t1 := hC.2.1.2.1
  have h4 := hC.2.1.1
  have hB := hI.2.1 B List.mem_cons_self
  rw [List.length_cons] at h4 t1
  have hne : ¬ S.1 44 = (0 : Int32) := by rw [t1, q0, iI_eq (by omega) (by omega) (by omega) (by omega)]; omega
  obtain ⟨S', g1, g2, g3, g4, g5⟩ := r_pop hC.2.1 hB
  unfold f5_undo
  rw [if_neg hne, g1, bnd_s, g2.2.1]
  exact ⟨S', rfl, ⟨hB, fun C hC => hI.2.1 C (List.mem_cons_of_mem _ hC), hI.2.2⟩, ⟨g3, g2, hC.2.2.1.cg (g4 42 (by omega)) (fun C hC => hC.cg (fun i a b => g4 i (by omega)) (fun r a b => g5 r (by omega))), hC.2.2.2.cg (g4 45 (by omega)) (g5 70 (by omega))⟩⟩
theorem t_keep (hI : GI A H sn T) (hC : GC S A H sn T) : ∃ S', f5_keep S = some (iI (nH A : Int), S') ∧ GI A H (some A) T ∧ GC S' A H (some A) T := by
  obtain ⟨S1, g1, g2, g3⟩ := r_copyCamp (c := 2) hC.1 hI.1 (by omega)
  have hK : CampC (sI S1 42 1) 0 A := (hC.1.fr g2 (by omega)).sI (by omega)
  unfold f5_keep
  rw [g1, bnd_s, nam_r, r_campersHere hK.2 hI.1, bnd_s]
  refine ⟨_, rfl, ⟨hI.1, hI.2.1, fun B hB => by cases hB; exact hI.1, hI.2.2.2⟩, ⟨hK, ?_, ⟨sI_eq _ _ _, g3.sI (by omega)⟩, ?_⟩⟩
  · obtain ⟨a1, a2, lat, a3, a4, a5⟩ := hC.2.1.fr g2 (by omega)
    exact ⟨a1, by rw [sI_ne _ _ (by omega)]; exact a2, lat, a3, by rw [sI_ne _ _ (by omega)]; exact a4, fun i B hB => (a5 i B hB).sI (by omega)⟩
  · exact hC.2.2.2.cg (by rw [sI_ne _ _ (by omega), g2.1 _ (by omega)]) (by rw [sI_2, g2.2 _ (by omega)])
end TX
/-- comeAll's loop, from the trial B on -/
theorem all24 {A : Ab} {sn : Option Ab} {T : List Nat} (hA : Inv2 A) {K : List (Nat × Nat)} (hK : K.length ≤ 15) (hxy : ∀ q ∈ K, q.1 < 64 ∧ q.2 < 64) :
    ∀ (m i N : Nat) (B : Ab), i + m = K.length → m < N → Inv2 B → ∃ r A', Inv2 A' ∧ (r < 0 → A' = A) ∧ ∀ S H, GI A H sn T → GC S A H sn T → CampC S 1 B → (∀ (j : Nat) (q : Nat × Nat), K[j]? = some q → f1_number S (iI ((2 * j : Nat) : Int)) = some (iI (q.1 : Int)) ∧ f1_number S (iI ((2 * j + 1 : Nat) : Int)) = some (iI (q.2 : Int))) →
      ∃ S', f5_comeAll_b39 (iI (K.length : Int)) N S (iI (i : Int)) = some (r, S') ∧ GI A' (if r < 0 then H else (A :: H).take 4) sn T ∧ GC S' A' (if r < 0 then H else (A :: H).take 4) sn T := by
  intro m
  induction m with
  | zero =>
    intro i N B hi hN hB
    obtain ⟨N, rfl⟩ : ∃ N', N = N' + 1 := ⟨N - 1, by omega⟩
    have e : i = K.length := by omega
    have hn := n_neg (n := K.length) (by omega)
    refine ⟨iI (K.length : Int), B, hB, fun q => absurd q hn, fun S H hI hC hCB _ => ?_⟩
    obtain ⟨S1, g1, g2, g3, g4⟩ := hC.push hI
    have hCB1 : CampC S1 1 B := hCB.cg (fun i a b => g3 i (by omega)) (fun r a b => g4 r (by omega))
    obtain ⟨S2, d1, d2, d3⟩ := r_copyCamp (c := 0) hCB1 hB.1 (by omega)
    rw [f5_comeAll_b39, e, if_pos (Int32.le_refl _), g1, bnd_s, d1, bnd_s, if_neg hn]
    exact ⟨S2, rfl, hI.act hB.1, g2.fr0 d2 d3⟩
  | succ m ih =>
    intro i N B hi hN hB
    obtain ⟨N, rfl⟩ : ∃ N', N = N' + 1 := ⟨N - 1, by omega⟩
    obtain ⟨q, hq⟩ : ∃ q, K[i]? = some q := ⟨_, List.getElem?_eq_getElem (show i < K.length by omega)⟩
    obtain ⟨hx, hy⟩ := hxy q (List.mem_of_getElem? hq)
    have hne : ¬ iI (K.length : Int) ≤ iI (i : Int) := by rw [iI_le (by omega) (by omega) (by omega) (by omega)]; omega
    have em : ((2 : Int32) * iI (i : Int)) = iI ((2 * i : Nat) : Int) := by rw [q2, iI_mul]; congr 1
    have em1 : (iI ((2 * i : Nat) : Int) + 1 : Int32) = iI ((2 * i + 1 : Nat) : Int) := by rw [q1, iI_s]
    by_cases hex : ∃ S, CampC S 1 B
    · obtain ⟨S0, hC0⟩ := hex
      rcases r_dep hC0 hB.1 hx hy with ⟨hr, hd⟩ | ⟨hr, h16, t, ht, hd⟩
      · have hneg : iI (Rf B q.1 q.2) < 0 := by rcases hr with h | h <;> rw [h] <;> decide
        refine ⟨iI (Rf B q.1 q.2), A, hA, fun _ => rfl, fun S H hI hC hCB hnum => ?_⟩
        obtain ⟨n1, n2⟩ := hnum i q hq
        rcases r_dep hCB hB.1 hx hy with ⟨_, hd⟩ | ⟨hr', _⟩
        · have hn : ¬ (0 : Int32) ≤ iI (Rf B q.1 q.2) := by rcases hr with h | h <;> rw [h] <;> decide
          rw [f5_comeAll_b39, if_neg hne, em, n1, bnd_s, em1, n2, bnd_s, hd, bnd_s, if_neg hn, if_pos hneg]
          exact ⟨S, rfl, hI, hC⟩
        · exfalso; rcases hr with h | h <;> omega
      · have hle := ht.le hB.1 hx hy
        have hlen := ht.len hB.1 hx hy h16
        obtain ⟨r, A', hA', hra, hgo⟩ := ih (i + 1) N (comeA B q.1 q.2 t) (by omega) (by omega) ⟨come_inv hB.1 hx hy h16 ht, hB.2.come hB.1 hx hy h16 ht⟩
        refine ⟨r, A', hA', hra, fun S H hI hC hCB hnum => ?_⟩
        obtain ⟨n1, n2⟩ := hnum i q hq
        rcases r_dep hCB hB.1 hx hy with ⟨hr', hd⟩ | ⟨_, _, t', ht', hd⟩
        · exfalso; rcases hr' with h | h <;> omega
        · obtain rfl := Cm.one ht ht'
          obtain ⟨⟨L3, hp3, hP3⟩, hCm⟩ := hCB
          obtain ⟨S7, d1, d2, d3⟩ := r_settle hP3 hp3 hCm hB.1 hx hy h16 hle (by omega)
          have hn : (0 : Int32) ≤ iI ((pD (plAt (aL B) q.1 q.2) + t : Nat) : Int) := by rw [q0, iI_le (by omega) (by omega) (by omega) (by omega)]; omega
          have nm : ∀ z, f1_number S7 z = f1_number S z := by
            intro z
            have a1 : S7.1 45 = S.1 45 := d2.1 45 (by omega)
            have a2 : S7.2 70 = S.2 70 := d2.2 70 (by omega)
            unfold f1_number
            have : ∀ (n : Nat) (a b d : Int32), f1_number_b7 S7 z n a b d = f1_number_b7 S z n a b d := by
              intro n
              induction n with
              | zero => intro a b d; rfl
              | succ n ih =>
                intro a b d
                rw [f1_number_b7, f1_number_b7]
                unfold f1_number_b54 f1_at f1_at_b22 f1_at_b23
                rw [a1, a2]
                simp only [ih]
            exact this _ _ _ _
          rw [f5_comeAll_b39, if_neg hne, em, n1, bnd_s, em1, n2, bnd_s, hd, bnd_s, if_pos hn, d1, bd2_s, q1, iI_s]
          exact hgo S7 H hI (hC.fr1 d2) d3 (fun j q' hj => by rw [nm, nm]; exact hnum j q' hj)
    · exact ⟨-1, A, hA, fun _ => rfl, fun S H _ _ hCB _ => absurd ⟨S, hCB⟩ hex⟩
theorem a_comeAll {A : Ab} {sn : Option Ab} {T : List Nat} (hA : Inv2 A) (hT : TxI T) : ∃ r A', Inv2 A' ∧ (r < 0 → A' = A) ∧ ∀ S H, GI A H sn T → GC S A H sn T → ∃ S', f5_comeAll S = some (r, S') ∧ GI A' (if r < 0 then H else (A :: H).take 4) sn T ∧ GC S' A' (if r < 0 then H else (A :: H).take 4) sn T := by
  have h60 := hT.1
  obtain ⟨K, r, hK⟩ := prs_ex T T.length 0 (by omega) (by omega)
  have hl := hK.len (Nat.zero_le _)
  cases r with
  | some f =>
    have hf := hK.fle (Nat.zero_le _)
    have e5 : flt (some f) = (f : Int) := rfl
    have ev : ((-100 : Int32) - iI (f : Int)) = iI (-100 - (f : Int)) := by rw [show (-100 : Int32) = iI (-100) from rfl, iI_sub]
    have hneg : ((-100 : Int32) - iI (f : Int)) < 0 := by rw [ev, q0, iI_lt (by omega) (by omega) (by omega) (by omega)]; omega
    refine ⟨(-100) - iI (f : Int), A, hA, fun _ => rfl, fun S H hI hC => ⟨S, ?_, by rw [if_pos hneg]; exact hI, by rw [if_pos hneg]; exact hC⟩⟩
    unfold f5_comeAll
    rw [r_fault hC.2.2.2 hT hK, bnd_s, e5, if_neg (by rw [iI_m1, iI_eq (by omega) (by omega) (by omega) (by omega)]; omega)]
  | none =>
    obtain ⟨r, A', h1, h2, h3⟩ := all24 (sn := sn) (T := T) hA (K := K) (by omega) hK.xy K.length 0 fuelN A (by omega) (fuel_lt (by omega)) hA
    refine ⟨r, A', h1, h2, fun S H hI hC => ?_⟩
    obtain ⟨S2, d1, d2, d3⟩ := r_copyCamp (c := 1) hC.1 hI.1 (by omega)
    have hC2 := hC.fr1 d2
    obtain ⟨S', e1, e2, e3⟩ := h3 S2 H hI hC2 d3 (fun j q hj => r_number hC2.2.2.2 hT hK hj)
    unfold f5_comeAll
    rw [r_fault hC.2.2.2 hT hK, bnd_s, if_pos (show iI (flt none) = -1 from rfl), d1, bnd_s, r_campersT hC2.2.2.2 hT hK, bnd_s]
    exact ⟨S', e1, e2, e3⟩
