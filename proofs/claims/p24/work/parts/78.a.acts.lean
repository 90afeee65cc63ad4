/-! p24, 4: what each call that changes does: its answer and the camp behind it come of the camp before it alone -/
def AC (f : St → Option (Int32 × St)) (A : Ab) (sn : Option Ab) (r : Int32) (A' : Ab) : Prop := ∀ S H T, GI A H sn T → GC S A H sn T → ∃ S' T', f S = some (r, S') ∧ GI A' (if r < 0 then H else (A :: H).take 4) sn T' ∧ GC S' A' (if r < 0 then H else (A :: H).take 4) sn T'
def Act (f : St → Option (Int32 × St)) (A : Ab) (sn : Option Ab) : Prop := ∃ r A', Inv2 A' ∧ (r < 0 → A' = A) ∧ AC f A sn r A'
section AB
variable {f : St → Option (Int32 × St)} {A A' : Ab} {sn : Option Ab}
theorem act_bad {r : Int32} (hA : Inv2 A) (hr : r < 0) (h : ∀ S, CampC S 0 A → SnC S sn → f S = some (r, S)) : Act f A sn :=
  ⟨r, A, hA, fun _ => rfl, fun S H T a b => ⟨S, T, h S b.1 b.2.2.1, by rw [if_pos hr]; exact a, by rw [if_pos hr]; exact b⟩⟩
theorem act_go {r : Int32} (hr : ¬ r < 0) (hA' : Inv2 A') (h : ∀ S H T, GI A H sn T → GC S A H sn T → ∀ S1, f2_push S 0 = some S1 → GC S1 A ((A :: H).take 4) sn T → (∀ i, (i < 18 ∨ 45 ≤ i ∨ i = 42) → S1.1 i = S.1 i) → (∀ r, (r < 30 ∨ 70 ≤ r) → S1.2 r = S.2 r) → ∃ S', f S = some (r, S') ∧ FrC S1 S' 0 ∧ CampC S' 0 A') : AC f A sn r A' :=
  fun S H T hI hC => by
    obtain ⟨S1, g1, g2, g3, g4⟩ := hC.push hI
    obtain ⟨S', e, d2, d3⟩ := h S H T hI hC S1 g1 g2 g3 g4
    refine ⟨S', T, e, ?_, ?_⟩
    · rw [if_neg hr]; exact hI.act hA'.1
    · rw [if_neg hr]; exact g2.fr0 d2 d3
theorem act_goA {r : Int32} (hr : ¬ r < 0) (hA' : Inv2 A') (h : ∀ S H T, GI A H sn T → GC S A H sn T → ∀ S1, f2_push S 0 = some S1 → GC S1 A ((A :: H).take 4) sn T → (∀ i, (i < 18 ∨ 45 ≤ i ∨ i = 42) → S1.1 i = S.1 i) → (∀ r, (r < 30 ∨ 70 ≤ r) → S1.2 r = S.2 r) → ∃ S', f S = some (r, S') ∧ FrC S1 S' 0 ∧ CampC S' 0 A') : Act f A sn :=
  ⟨r, A', hA', fun q => absurd q hr, act_go hr hA' h⟩
theorem act_no (hA : Inv2 A) (h : ¬ ∃ S, CampC S 0 A) : Act f A sn := ⟨-1, A, hA, fun _ => rfl, fun S H T _ b => absurd ⟨S, b.1⟩ h⟩
end AB
theorem n_neg {n : Nat} (h : n < 2147483648) : ¬ iI (n : Int) < 0 := by
  rw [q0, iI_lt (by omega) (by omega) (by omega) (by omega)]; omega
theorem m1_neg : (-1 : Int32) < 0 := by decide
theorem m2_neg : (-2 : Int32) < 0 := by decide
theorem m3_neg : (-3 : Int32) < 0 := by decide
theorem m4_neg : (-4 : Int32) < 0 := by decide
theorem m5_neg : (-5 : Int32) < 0 := by decide
theorem pw_of {A : Ab} (hI : Inv A) {k : Nat} (hk : Here A k) {p : Pl} (hp : p ∈ aL A) : 1 ≤ pW p ∧ Here A (pW p - 1) ∧ pW p ≤ 16 := by
  have h0 := hI.some hk hp
  have := (hI.2.1 p hp).b
  rcases hI.own hp with h | h | h
  · exact absurd h h0
  · exact ⟨by omega, h, by omega⟩
  · exact absurd h h0
theorem tnt_here {A : Ab} {p : Pl} (h0 : 1 ≤ pW p) (h : Here A (pW p - 1)) : tnt A p = inP p (aX A (pW p - 1)) (aY A (pW p - 1)) := by
  unfold tnt
  rw [decide_eq_true h.1, h.2]
  cases e : (pW p != 0)
  · simp at e; omega
  · simp
theorem at_cg {S S' : St} {r : Nat} {z : Int32} (h : S'.2 r = S.2 r) : f4_at S' r z = f4_at S r z := by
  unfold f4_at f4_at_b22 f4_at_b23; rw [h]
theorem r_pitchE {S : St} {A : Ab} (hI : Inv A) {c k x y : Nat} (hk : k < aN A) : f0_pitch S c (iI (k : Int)) (iI (x : Int)) (iI (y : Int)) = some (sA (sA S (10 * c + 4) k (iI (x : Int))) (10 * c + 5) k (iI (y : Int))) := by
  have h16 := hI.1.1
  unfold f0_pitch
  rw [put_in (by rw [rlen_4]; omega), bnd_s, put_in (by rw [rlen_5]; omega), bnd_s]
theorem gone_inv2 {A : Ab} (hv : HV A) (k : Nat) : HV (goneA A k) := hv.of rfl rfl (Nat.le_refl _)
section AA
variable {A : Ab} {sn : Option Ab}
theorem a_come (hA : Inv2 A) (x y : Int32) : Act (fun S => f5_come S x y) A sn := by
  rcases ispt x y with ⟨a, b, ha, hb, rfl, rfl, h5⟩ | h5
  · by_cases hex : ∃ S, CampC S 0 A
    · obtain ⟨S0, hC0⟩ := hex
      rcases r_dep hC0 hA.1 ha hb with ⟨hr, hd⟩ | ⟨hr, h16, t, ht, hd⟩
      · refine act_bad (r := iI (Rf A a b)) hA (by rcases hr with h | h <;> rw [h] <;> decide) (fun S hC _ => ?_)
        show f5_come S _ _ = _
        rcases r_dep hC hA.1 ha hb with ⟨_, hd⟩ | ⟨hr', _⟩
        · unfold f5_come
          have hn : ¬ (0 : Int32) ≤ iI (Rf A a b) := by rcases hr with h | h <;> rw [h] <;> decide
          rw [h5, bnd_s, if_neg n10, hd, bnd_s, if_neg hn]
        · exfalso; rcases hr with h | h <;> omega
      · have hle := ht.le hA.1 ha hb
        have hlen := ht.len hA.1 ha hb h16
        refine act_goA (n_neg (n := aN A) (by omega)) ⟨come_inv hA.1 ha hb h16 ht, hA.2.come hA.1 ha hb h16 ht⟩ (fun S H T hI hC S1 e1 g2 g3 g4 => ?_)
        show ∃ S', f5_come S _ _ = _ ∧ _
        rcases r_dep hC.1 hA.1 ha hb with ⟨hr', hd⟩ | ⟨_, _, t', ht', hd⟩
        · exfalso; rcases hr' with h | h <;> omega
        · obtain rfl := Cm.one ht ht'
          obtain ⟨L3, hp3, hP3⟩ := g2.1.1
          obtain ⟨S5, d1, d2, d3⟩ := r_settle hP3 hp3 g2.1.2 hA.1 ha hb h16 hle (by omega)
          have hn : (0 : Int32) ≤ iI ((pD (plAt (aL A) a b) + t : Nat) : Int) := by rw [q0, iI_le (by omega) (by omega) (by omega) (by omega)]; omega
          unfold f5_come
          rw [h5, bnd_s, if_neg n10, hd, bnd_s, if_pos hn, e1, bnd_s, d1, bd2_s]
          exact ⟨S5, rfl, d2, d3⟩
    · exact act_no hA hex
  · refine act_bad hA m1_neg (fun S hC _ => ?_)
    show f5_come S _ _ = _
    unfold f5_come
    rw [h5, bnd_s, if_pos y00]
theorem a_leave (hA : Inv2 A) (z : Int32) : Act (fun S => f5_leave S z) A sn := by
  by_cases hz : ∃ k, Here A k ∧ z = iI (k : Int)
  · obtain ⟨k, hk, rfl⟩ := hz
    by_cases h0 : ∀ j, ¬ Here (goneA A k) j
    · have hB := all_inv hA.1 h0
      have hle := nH_le hB
      have hpos : 0 < (aL A).length := List.length_pos_of_mem (plAt_in hA.1.til (x := 0) (y := 0) (by omega) (by omega)).1
      refine act_goA (A' := allA A k) (n_neg (n := nH (allA A k)) (by omega)) ⟨hB, hA.2.of rfl rfl hpos⟩ (fun S H T hI hC S1 e1 g2 g3 g4 => ?_)
      show ∃ S', f5_leave S _ = _ ∧ _
      obtain ⟨S3, d1, d2, d3⟩ := r_sendAll g2.1 hA.1 hk h0
      unfold f5_leave
      rw [hereY hC.1.2 hA.1 hk, bnd_s, if_neg n10, e1, bnd_s, d1, bnd_s, r_campersHere d3.2 hB, bnd_s]
      exact ⟨S3, rfl, d2, d3⟩
    · obtain ⟨j, hj⟩ : ∃ j, Here (goneA A k) j := Classical.byContradiction fun q => h0 fun j hj => q ⟨j, hj⟩
      have hj2 := gone_here hj
      have hG := gone_inv hA.1 hk hj2.1 hj2.2
      obtain ⟨A', hL, hB⟩ := lv_ex (cntW (aL (goneA A k)) k) (goneA A k) rfl hG (fun h => (gone_here h).2 rfl) hj
      have hm : cntW (aL (goneA A k)) k ≤ 181 := Nat.le_trans (cntW_le _ _) hA.1.wf.1
      have hle := nH_le hB
      refine act_goA (A' := A') (n_neg (n := nH A') (by omega)) ⟨hB, HV.lv _ (goneA A k) A' (show ∀ p ∈ aL (goneA A k), OkP p from hA.1.2.1) hL (gone_inv2 hA.2 k)⟩ (fun S H T hI hC S1 e1 g2 g3 g4 => ?_)
      show ∃ S', f5_leave S _ = _ ∧ _
      obtain ⟨S3, d1, d2, d3⟩ := r_sendSome g2.1 hA.1 hk hj2.1 hj2.2 hL hm
      unfold f5_leave
      rw [hereY hC.1.2 hA.1 hk, bnd_s, if_neg n10, e1, bnd_s, d1, bnd_s, r_campersHere d3.2 hB, bnd_s]
      exact ⟨S3, rfl, d2, d3⟩
  · refine act_bad hA m1_neg (fun S hC _ => ?_)
    show f5_leave S _ = _
    unfold f5_leave
    rw [hereN hC.2 hA.1 hz, bnd_s, if_pos y00]
theorem a_moveTent (hA : Inv2 A) (z x y : Int32) : Act (fun S => f5_moveTent S z x y) A sn := by
  by_cases hz : ∃ k, Here A k ∧ z = iI (k : Int)
  · obtain ⟨k, hk, rfl⟩ := hz
    rcases ispt x y with ⟨a, b, ha, hb, rfl, rfl, h5⟩ | h5
    · have h16 := hA.1.1.1
      have hk16 := hk.1
      have hm := plAt_in hA.1.til ha hb
      have hpw := pw_of hA.1 hk hm.1
      have hxy := hA.1.xy hk16
      have hob := (hA.1.2.1 _ hm.1).b
      by_cases ho : pW (plAt (aL A) a b) = k + 1
      · have eo : iI ((pW (plAt (aL A) a b) : Int) - 1) = iI (k : Int) := by rw [ho]; congr 1; omega
        by_cases hs : aX A k = a ∧ aY A k = b
        · refine act_bad hA m5_neg (fun S hC _ => ?_)
          show f5_moveTent S _ _ _ = _
          obtain ⟨⟨L, hp, hP⟩, hK⟩ := hC
          have hW := hA.1.wf.perm hp
          obtain ⟨j, hj, hf⟩ := r_at hP hp hA.1 ha hb
          unfold f5_moveTent
          rw [hereY hK hA.1 hk, bnd_s, if_neg n10, h5, bnd_s, if_neg n10, hf, bnd_s, r_ownerOf hP hW hj, bnd_s, if_pos eo, at_tx hK hA.1 hk16, bnd_s, if_pos (by rw [hs.1]), at_ty hK hA.1 hk16, bnd_s, if_pos (by rw [hs.2])]
        · have hB : Inv2 (tentA A k a b) := ⟨tent_inv hA.1 ha hb hk ho, hA.2.of rfl rfl (Nat.le_refl _)⟩
          refine act_goA (A' := tentA A k a b) (n_neg (n := pD (plAt (aL A) a b)) (by omega)) hB (fun S H T hI hC S1 e1 g2 g3 g4 => ?_)
          show ∃ S', f5_moveTent S _ _ _ = _ ∧ _
          obtain ⟨⟨L, hp, hP⟩, hK⟩ := hC.1
          have hW := hA.1.wf.perm hp
          obtain ⟨j, hj, hf⟩ := r_at hP hp hA.1 ha hb
          obtain ⟨S2, d1, d2, d3⟩ := r_pitch g2.1 hA.1 (x := a) (y := b) hk16
          have d1' := d1
          rw [r_pitchE hA.1 hk16] at d1'
          have e2 : S2 = sA (sA S1 (10 * 0 + 4) k (iI (a : Int))) (10 * 0 + 5) k (iI (b : Int)) := (Option.some.inj d1').symm
          have ed : f3_depthOf S2 0 (iI (j : Int)) = f3_depthOf S 0 (iI (j : Int)) := by
            unfold f3_depthOf
            rw [at_cg (S := S) (S' := S2) (r := 10 * 0 + 2)]
            rw [e2, sA_ne _ _ _ (by omega), sA_ne _ _ _ (by omega), g4 _ (by omega)]
          have go : f5_moveTent_b87 S (iI (k : Int)) (iI (a : Int)) (iI (b : Int)) (iI (j : Int)) = some (iI (pD (plAt (aL A) a b) : Int), S2) := by
            unfold f5_moveTent_b87
            rw [e1, bnd_s, d1, bnd_s, ed, r_depthOf hP hW hj, bnd_s]
          refine ⟨S2, ?_, d2, d3⟩
          unfold f5_moveTent
          rw [hereY hK hA.1 hk, bnd_s, if_neg n10, h5, bnd_s, if_neg n10, hf, bnd_s, r_ownerOf hP hW hj, bnd_s, if_pos eo, at_tx hK hA.1 hk16, bnd_s]
          by_cases c1 : aX A k = a
          · have c2 : ¬ aY A k = b := fun q => hs ⟨c1, q⟩
            rw [if_pos (by rw [c1]), at_ty hK hA.1 hk16, bnd_s, if_neg (by rw [iI_eq (by omega) (by omega) (by omega) (by omega)]; omega), go]
          · rw [if_neg (by rw [iI_eq (by omega) (by omega) (by omega) (by omega)]; omega), go]
      · refine act_bad hA m4_neg (fun S hC _ => ?_)
        show f5_moveTent S _ _ _ = _
        obtain ⟨⟨L, hp, hP⟩, hK⟩ := hC
        have hW := hA.1.wf.perm hp
        obtain ⟨j, hj, hf⟩ := r_at hP hp hA.1 ha hb
        unfold f5_moveTent
        rw [hereY hK hA.1 hk, bnd_s, if_neg n10, h5, bnd_s, if_neg n10, hf, bnd_s, r_ownerOf hP hW hj, bnd_s, if_neg (by rw [iI_eq (by omega) (by omega) (by omega) (by omega)]; omega)]
    · refine act_bad hA m1_neg (fun S hC _ => ?_)
      show f5_moveTent S _ _ _ = _
      unfold f5_moveTent f5_moveTent_b19
      rw [hereY hC.2 hA.1 hk, bnd_s, if_neg n10, h5, bnd_s, if_pos y00]
  · refine act_bad hA m1_neg (fun S hC _ => ?_)
    show f5_moveTent S _ _ _ = _
    unfold f5_moveTent f5_moveTent_b19
    rw [hereN hC.2 hA.1 hz, bnd_s, if_pos y00]
theorem ov_hv {p : Pl} (hA : Inv2 A) (hp : p ∈ aL A) {w : Nat} {A' : Ab} (hw : w + 1 ≤ 16) (h : Ov A p w A') : HV A' := by
  have hg : HV (giveA A p (w + 1)) := hA.2.set hp _ _ _
  rcases h with ⟨q, hq, hh, -, rfl⟩ | ⟨-, rfl⟩
  · have hpo := hA.1.2.1 p hp
    have hok : OkP (pX p, pY p, pD p, w + 1) := ⟨hpo.1, hpo.2.1, hpo.2.2.1, hpo.2.2.2.1, hpo.2.2.2.2.1, hw⟩
    exact hg.join List.mem_cons_self hq (half_ne hok hh) _
  · exact hg
theorem a_handOver (hA : Inv2 A) (x y z : Int32) : Act (fun S => f5_handOver S x y z) A sn := by
  rcases ispt x y with ⟨a, b, ha, hb, rfl, rfl, h5⟩ | h5
  · by_cases hz : ∃ k, Here A k ∧ z = iI (k : Int)
    · obtain ⟨k, hk, rfl⟩ := hz
      have h16 := hA.1.1.1
      have hk16 := hk.1
      have hm := plAt_in hA.1.til ha hb
      have hpw := pw_of hA.1 hk hm.1
      obtain ⟨p, ep⟩ : ∃ p, p = plAt (aL A) a b := ⟨_, rfl⟩
      rw [← ep] at hm hpw
      cases ht : inP p (aX A (pW p - 1)) (aY A (pW p - 1))
      · cases hb2 : (aL A).any (fun q => tch p q && pW q == k + 1)
        · refine act_bad hA m4_neg (fun S hC _ => ?_)
          show f5_handOver S _ _ _ = _
          obtain ⟨⟨L, hp, hP⟩, hK⟩ := hC
          have hW := hA.1.wf.perm hp
          obtain ⟨j, hj, hf⟩ := r_at hP hp hA.1 ha hb
          rw [← ep] at hj
          obtain ⟨acc, ⟨m, m1, m2, m3⟩, g4⟩ := r_ownersBeside hP hW hj
          have ea : m.testBit k = false := by rw [m3 k (by omega), any_perm hp, hb2]
          unfold f5_handOver f5_handOver_b82
          rw [h5, bnd_s, if_neg n10, hereY hK hA.1 hk, bnd_s, if_neg n10, hf, bnd_s, r_ownerOf hP hW hj, bnd_s, r_isTentIn hP hp hK hA.1 hj, bnd_s, tnt_here hpw.1 hpw.2.1, ht, if_pos b2i_f, g4, bnd_s, m2, r_isMarked m1 (by omega), bnd_s, ea, if_pos b2i_f]
        · by_cases ho : pW p = k + 1
          · refine act_bad hA m5_neg (fun S hC _ => ?_)
            show f5_handOver S _ _ _ = _
            obtain ⟨⟨L, hp, hP⟩, hK⟩ := hC
            have hW := hA.1.wf.perm hp
            obtain ⟨j, hj, hf⟩ := r_at hP hp hA.1 ha hb
            rw [← ep] at hj
            obtain ⟨acc, ⟨m, m1, m2, m3⟩, g4⟩ := r_ownersBeside hP hW hj
            have ea : m.testBit k = true := by rw [m3 k (by omega), any_perm hp, hb2]
            have bt : ¬ b2i true = 0 := by decide
            have eo : iI ((pW p : Int) - 1) = iI (k : Int) := by rw [ho]; congr 1; omega
            unfold f5_handOver
            rw [h5, bnd_s, if_neg n10, hereY hK hA.1 hk, bnd_s, if_neg n10, hf, bnd_s, r_ownerOf hP hW hj, bnd_s, r_isTentIn hP hp hK hA.1 hj, bnd_s, tnt_here hpw.1 hpw.2.1, ht, if_pos b2i_f, g4, bnd_s, m2, r_isMarked m1 (by omega), bnd_s, ea, if_neg bt, if_pos eo]
          · obtain ⟨A', hO⟩ := ov_ex A p k
            have ht2 : ∀ i, Here A i → inP p (aX A i) (aY A i) = true → k = i := fun i hi h => by
              have := hA.1.tent hi hm.1 h
              rw [show i = pW p - 1 by omega] at h
              rw [ht] at h; cases h
            by_cases hex : ∃ S, CampC S 0 A
            · have hAi : Inv A' := by
                obtain ⟨S0, ⟨L0, hp0, hP0⟩, hK0⟩ := hex
                obtain ⟨j0, hj0, hf0⟩ := r_at hP0 hp0 hA.1 ha hb
                rw [← ep] at hj0
                exact (r_passOn hP0 hp0 hK0 hA.1 hj0 hk ht2 hO).1
              have er : iI ((pW p : Int) - 1) = iI ((pW p - 1 : Nat) : Int) := by congr 1; omega
              refine act_goA (r := iI ((pW p : Int) - 1)) (A' := A') (by rw [er]; exact n_neg (by omega)) ⟨hAi, ov_hv hA hm.1 (by omega) hO⟩ (fun S H T hI hC S1 e1 g2 g3 g4 => ?_)
              show ∃ S', f5_handOver S _ _ _ = _ ∧ _
              obtain ⟨⟨L, hp, hP⟩, hK⟩ := hC.1
              have hW := hA.1.wf.perm hp
              obtain ⟨j, hj, hf⟩ := r_at hP hp hA.1 ha hb
              rw [← ep] at hj
              obtain ⟨acc, ⟨m, m1, m2, m3⟩, g5⟩ := r_ownersBeside hP hW hj
              have ea : m.testBit k = true := by rw [m3 k (by omega), any_perm hp, hb2]
              have bt : ¬ b2i true = 0 := by decide
              have eo : ¬ iI ((pW p : Int) - 1) = iI (k : Int) := by rw [iI_eq (by omega) (by omega) (by omega) (by omega)]; omega
              have hP4 : PlC S1 0 L := hP.fr (g3 _ (by omega)) (fun q hq => g4 _ (by omega))
              obtain ⟨-, S', d1, d2, d3⟩ := r_passOn hP4 hp g2.1.2 hA.1 hj hk ht2 hO
              unfold f5_handOver
              rw [h5, bnd_s, if_neg n10, hereY hK hA.1 hk, bnd_s, if_neg n10, hf, bnd_s, r_ownerOf hP hW hj, bnd_s, r_isTentIn hP hp hK hA.1 hj, bnd_s, tnt_here hpw.1 hpw.2.1, ht, if_pos b2i_f, g5, bnd_s, m2, r_isMarked m1 (by omega), bnd_s, ea, if_neg bt, if_neg eo, e1, bnd_s, d1, bnd_s]
              exact ⟨S', rfl, d2, d3⟩
            · exact act_no hA hex
      · refine act_bad hA m4_neg (fun S hC _ => ?_)
        show f5_handOver S _ _ _ = _
        obtain ⟨⟨L, hp, hP⟩, hK⟩ := hC
        have hW := hA.1.wf.perm hp
        obtain ⟨j, hj, hf⟩ := r_at hP hp hA.1 ha hb
        rw [← ep] at hj
        have bt : ¬ b2i true = 0 := by decide
        unfold f5_handOver f5_handOver_b82
        rw [h5, bnd_s, if_neg n10, hereY hK hA.1 hk, bnd_s, if_neg n10, hf, bnd_s, r_ownerOf hP hW hj, bnd_s, r_isTentIn hP hp hK hA.1 hj, bnd_s, tnt_here hpw.1 hpw.2.1, ht, if_neg bt]
    · refine act_bad hA m1_neg (fun S hC _ => ?_)
      show f5_handOver S _ _ _ = _
      unfold f5_handOver f5_handOver_b19
      rw [h5, bnd_s, if_neg n10, hereN hC.2 hA.1 hz, bnd_s, if_pos y00]
  · refine act_bad hA m1_neg (fun S hC _ => ?_)
    show f5_handOver S _ _ _ = _
    unfold f5_handOver f5_handOver_b19
    rw [h5, bnd_s, if_pos y00]
theorem a_lay (hA : Inv2 A) (x y t : Int32) : Act (fun S => f5_lay S x y t) A sn := by
  rcases ispt x y with ⟨a, b, ha, hb, rfl, rfl, h5⟩ | h5
  · have h20 := hA.1.1.2
    obtain ⟨u, u1, u2, rfl⟩ := iI_of t
    by_cases hu1 : u < 1
    · refine act_bad hA m2_neg (fun S hC _ => ?_)
      show f5_lay S _ _ _ = _
      have : iI u < (1 : Int32) := by rw [q1, iI_lt (by omega) (by omega) (by omega) (by omega)]; omega
      unfold f5_lay f5_lay_b22
      rw [h5, bnd_s, if_neg n10, if_pos this]
    · have g1 : ¬ iI u < (1 : Int32) := by rw [q1, iI_lt (by omega) (by omega) (by omega) (by omega)]; omega
      by_cases hu2 : u ≤ 999
      · have g2 : iI u ≤ (999 : Int32) := by rw [q999, iI_le (by omega) (by omega) (by omega) (by omega)]; omega
        obtain ⟨n, rfl⟩ : ∃ n : Nat, u = (n : Int) := ⟨u.toNat, by omega⟩
        by_cases hs : aS A < 20
        · refine act_goA (A' := layA A a b n) (n_neg (n := aS A) (by omega)) ⟨lay_inv hA.1 ha hb (by omega) (by omega) hs, hA.2.of rfl rfl (Nat.le_refl _)⟩ (fun S H T hI hC S1 e1 k2 g3 g4 => ?_)
          show ∃ S', f5_lay S _ _ _ = _ ∧ _
          obtain ⟨S', d1, d2, d3⟩ := r_addSong k2.1 hA.1 (x := a) (y := b) (t := n) hs
          have hlt : S.1 (6 * 0 + 2) < (20 : Int32) := by rw [hC.1.2.2.1, q20, iI_lt (by omega) (by omega) (by omega) (by omega)]; omega
          unfold f5_lay
          rw [h5, bnd_s, if_neg n10, if_neg g1, if_pos g2, if_pos hlt, e1, bnd_s, d1, bd2_s]
          exact ⟨S', rfl, d2, d3⟩
        · refine act_bad hA m3_neg (fun S hC _ => ?_)
          show f5_lay S _ _ _ = _
          have hlt : ¬ S.1 (6 * 0 + 2) < (20 : Int32) := by rw [hC.2.2.1, q20, iI_lt (by omega) (by omega) (by omega) (by omega)]; omega
          unfold f5_lay
          rw [h5, bnd_s, if_neg n10, if_neg g1, if_pos g2, if_neg hlt]
      · refine act_bad hA m2_neg (fun S hC _ => ?_)
        show f5_lay S _ _ _ = _
        have g2 : ¬ iI u ≤ (999 : Int32) := by rw [q999, iI_le (by omega) (by omega) (by omega) (by omega)]; omega
        unfold f5_lay f5_lay_b22
        rw [h5, bnd_s, if_neg n10, if_neg g1, if_neg g2]
  · refine act_bad hA m1_neg (fun S hC _ => ?_)
    show f5_lay S _ _ _ = _
    unfold f5_lay
    rw [h5, bnd_s, if_pos y00]
theorem a_carry (hA : Inv2 A) (z x y : Int32) : Act (fun S => f5_carry S z x y) A sn := by
  by_cases hz : ∃ k, k < aS A ∧ z = iI (k : Int)
  · obtain ⟨k, hk, rfl⟩ := hz
    rcases ispt x y with ⟨a, b, ha, hb, rfl, rfl, h5⟩ | h5
    · have h20 := hA.1.1.2
      have hso := hA.1.song hk
      by_cases hs : aU A k = a ∧ aV A k = b
      · refine act_bad hA m5_neg (fun S hC _ => ?_)
        show f5_carry S _ _ _ = _
        unfold f5_carry
        rw [songY hC.2 hA.1 hk, bnd_s, if_neg n10, h5, bnd_s, if_neg n10, at_su hC.2 hA.1 hk, bnd_s, if_pos (by rw [hs.1]), at_sv hC.2 hA.1 hk, bnd_s, if_pos (by rw [hs.2])]
      · have hB : Inv (songA A k a b) := song_inv hA.1 ha hb
        have hk2 : k < aS (songA A k a b) := hk
        have hle := sgW_le hB hk2
        have hn : ∃ n : Nat, n < 2147483648 ∧ tldW (sgW (songA A k a b) k) = (n : Int) := by
          unfold tldW
          by_cases e : sgW (songA A k a b) k = 0
          · rw [if_pos e]; exact ⟨100, by omega, rfl⟩
          · rw [if_neg e]; exact ⟨sgW (songA A k a b) k - 1, by omega, by omega⟩
        obtain ⟨n, n1, n2⟩ := hn
        refine act_goA (r := iI (n : Int)) (A' := songA A k a b) (n_neg n1) ⟨hB, hA.2.of rfl rfl (Nat.le_refl _)⟩ (fun S H T hI hC S1 e1 g2 g3 g4 => ?_)
        show ∃ S', f5_carry S _ _ _ = _ ∧ _
        obtain ⟨S', d1, d2, d3⟩ := r_putSong g2.1 hA.1 (x := a) (y := b) hk
        have go : f5_carry_b54 S (iI (k : Int)) (iI (a : Int)) (iI (b : Int)) = some (iI (n : Int), S') := by
          unfold f5_carry_b54
          rw [e1, bnd_s, d1, bnd_s, told d3 hB hk2, bnd_s, n2]
        refine ⟨S', ?_, d2, d3⟩
        unfold f5_carry
        rw [songY hC.1.2 hA.1 hk, bnd_s, if_neg n10, h5, bnd_s, if_neg n10, at_su hC.1.2 hA.1 hk, bnd_s]
        by_cases c1 : aU A k = a
        · have c2 : ¬ aV A k = b := fun q => hs ⟨c1, q⟩
          rw [if_pos (by rw [c1]), at_sv hC.1.2 hA.1 hk, bnd_s, if_neg (by rw [iI_eq (by omega) (by omega) (by omega) (by omega)]; omega), go]
        · rw [if_neg (by rw [iI_eq (by omega) (by omega) (by omega) (by omega)]; omega), go]
    · refine act_bad hA m1_neg (fun S hC _ => ?_)
      show f5_carry S _ _ _ = _
      unfold f5_carry f5_carry_b19
      rw [songY hC.2 hA.1 hk, bnd_s, if_neg n10, h5, bnd_s, if_pos y00]
  · refine act_bad hA m1_neg (fun S hC _ => ?_)
    show f5_carry S _ _ _ = _
    unfold f5_carry f5_carry_b19
    rw [songN hC.2 hA.1 hz, bnd_s, if_pos y00]
/-- restore: the snapshot's camp, if there is one -/
theorem a_restore (hA : Inv2 A) (hs : ∀ B, sn = some B → Inv2 B) : ∃ r A', Inv2 A' ∧ (r < 0 → A' = A) ∧ (¬ r < 0 → sn = some A') ∧ AC (fun S => f5_restore S) A sn r A' := by
  cases sn with
  | none =>
    refine ⟨-5, A, hA, fun _ => rfl, fun q => absurd m5_neg q, fun S H T hI hC => ⟨S, T, ?_, by rw [if_pos m5_neg]; exact hI, by rw [if_pos m5_neg]; exact hC⟩⟩
    show f5_restore S = _
    have t1 : S.1 42 = 0 := hC.2.2.1
    unfold f5_restore
    rw [if_pos t1]
  | some B =>
    have hB := hs B rfl
    have hle := nH_le hB.1
    have hn := n_neg (n := nH B) (by omega)
    refine ⟨iI (nH B : Int), B, hB, fun q => absurd q hn, fun _ => rfl, act_go hn hB (fun S H T hI hC S1 e1 g2 g3 g4 => ?_)⟩
    show ∃ S', f5_restore S = _ ∧ _
    have t1 : ¬ S.1 42 = 0 := by rw [hC.2.2.1.1]; decide
    obtain ⟨S2, d1, d2, d3⟩ := r_copyCamp (c := 0) g2.2.2.1.2 hB.1 (by omega)
    unfold f5_restore
    rw [if_neg t1, e1, bnd_s, d1, bnd_s, r_campersHere d3.2 hB.1, bnd_s]
    exact ⟨S2, rfl, d2, d3⟩
end AA
