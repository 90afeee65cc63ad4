/-! STAGE B, 54: what is told: ways, would, loudest, shares, counts -/
section A6
variable {S M : St} {A : Ab} {H : List Ab} {sn : Option Ab} {T : List Nat}
theorem q_way (hI : GI A H sn T) (hC : GC S A H sn T) (hM : GM M A H sn T) (z x y st w : Int32) : QQ (f5_way S z x y st w) (f6_way M z x y st w) S := by
  have hM1 := hM.t0
  obtain ⟨M1, e1⟩ : ∃ M1, M1 = sI M 0 0 := ⟨_, rfl⟩
  unfold f5_way f6_way f5_way_b114 f5_way_b37 f5_way_b19 f6_way_b93 f6_way_b38 f6_way_b21
  rw [nam_r, ← e1]
  rw [← e1] at hM1
  have fin : ∀ r : Int32, QQ (some r) (some (r, M1)) S := fun r => ⟨_, _, rfl, rfl, A, H, sn, T, hI, hC, hM1⟩
  rcases isHere2 hC.1.2 hM1.1.2 hI.1 z with ⟨k, hk, rfl, h5, h6⟩ | ⟨h5, h6⟩
  · rw [h5, h6, bnd_s, bnd_s, if_neg n10, if_neg n10]
    rcases isPoint2 x y with ⟨a, b, ha, hb, rfl, rfl, p5, p6⟩ | ⟨p5, p6⟩
    · rw [p5, p6, bnd_s, bnd_s, if_neg n10, if_neg n10]
      obtain ⟨si, r1, r2, rfl⟩ := iI_of st
      by_cases h0 : si < 0
      · have : iI si < 0 := by rw [q0, iI_lt (by omega) (by omega) (by omega) (by omega)]; exact h0
        rw [if_pos this, if_pos this]; exact fin _
      · have : ¬ iI si < 0 := by rw [q0, iI_lt (by omega) (by omega) (by omega) (by omega)]; exact h0
        rw [if_neg this, if_neg this]
        rcases sw3 w with ⟨g1, g2, g3⟩ | ⟨g1, g2, g3, g4⟩
        · rw [g3, bnd_s, if_pos y00]
          rcases g1 with g1 | ⟨g0, g1⟩
          · rw [if_pos g1]; exact fin _
          · rw [if_neg (Int32.not_lt.mpr g0), if_neg (fun h => g2 ⟨g0, h⟩)]; exact fin _
        · rw [g4, bnd_s, if_neg n10, if_neg g2, if_pos g3]
          obtain ⟨⟨L, hp, hP⟩, hK⟩ := hC.1
          obtain ⟨⟨L2, hp2, hP2⟩, hV⟩ := hM1.1
          have hW := hI.1.wf.perm hp
          have hW2 := hI.1.wf.perm hp2
          have hk1 := hk.1
          rcases r_plotOnWay hP hp hK hI.1 hk1 ha hb (st := si) (by omega) r2 with ⟨j, q, j1, j2, j3⟩ | ⟨j1, j2⟩
          · have hjl := hW.lt j1
            rcases m_onWay hP2 hp2 hV hI.1 hk1 ha hb (st := si) (by omega) r2 with ⟨j', q', l1, l2, l3⟩ | ⟨l1, l2⟩
            · have e := Way.one hI.1.til hI.1.2.1 j2 l2
              subst e
              have hjl' := hW2.lt l1
              have hO := (hW.at j1).b
              have c1 : ¬ iI (j : Int) = -1 := by rw [iI_m1, iI_eq (by omega) (by omega) (by omega) (by omega)]; omega
              have c2 : ¬ iI (j' : Int) = -5 := by rw [show (-5 : Int32) = iI (-5) from rfl, iI_eq (by omega) (by omega) (by omega) (by omega)]; omega
              have es : (iI (pW q : Int) - 1 : Int32) = iI ((pW q : Int) - 1) := by rw [q1, iI_sub]
              rw [j3, bnd_s, if_neg c1, l3, bnd_s, if_neg c2]
              rcases g1 with rfl | rfl | rfl
              · rw [if_pos y00, if_pos y00, r_ownerOf hP hW j1, bnd_s, m_w hP2 hW2 l1, bnd_s, es]; exact fin _
              · rw [if_neg n10, if_neg n10, if_pos rfl, show ((1 : Int32) + 1 - 1) = 1 from rfl, r_x0Of hP hW j1, bnd_s, m_x hP2 hW2 l1, bnd_s]; exact fin _
              · have n20 : ¬ (2 : Int32) = 0 := by decide
                have n21 : ¬ (2 : Int32) = 1 := by decide
                rw [if_neg n20, if_neg n20, if_neg n21, show ((1 : Int32) + 2 - 1) = 2 from rfl, r_y0Of hP hW j1, bnd_s, m_y hP2 hW2 l1, bnd_s]; exact fin _
            · exact absurd j2 (l1 q)
          · rcases m_onWay hP2 hp2 hV hI.1 hk1 ha hb (st := si) (by omega) r2 with ⟨j', q', l1, l2, l3⟩ | ⟨l1, l2⟩
            · exact absurd l2 (j1 q')
            · rw [j2, bnd_s, if_pos (show iI (-1) = -1 from rfl), l2, bnd_s, if_pos (show iI (-5) = -5 from rfl)]; exact fin _
    · rw [p5, p6, bnd_s, bnd_s, if_pos y00, if_pos y00]; exact fin _
  · rw [h5, h6, bnd_s, bnd_s, if_pos y00, if_pos y00]; exact fin _
/-- the newcomer's plot -/
theorem come_at (hI : Inv A) {x y t : Nat} (hx : x < 64) (hy : y < 64) (h16 : aN A < 16) (h : Cm A x y t) {a b : Nat} (ha : a < 64) (hb : b < 64) : pW (plAt (aL (comeA A x y t)) a b) = aN A + 1 ↔ smP a b x y (pD (plAt (aL A) x y) + t) = true := by
  have hJ := come_inv hI hx hy h16 h
  have hle := h.le hI hx hy
  have hm := plAt_in hI.til hx hy
  have hm2 := plAt_in hJ.til ha hb
  have hmem : prt x y (pD (plAt (aL A) x y) + t) (aN A + 1) ∈ aL (comeA A x y t) := List.mem_cons_self
  have hin := prt_in x y (pD (plAt (aL A) x y) + t) (aN A + 1) a b hle hx hy (by omega)
  have old : ∀ q ∈ aL A, pW q ≠ aN A + 1 := fun q hq e => by
    rcases hI.own hq with h | h | h
    · omega
    · have := h.1; omega
    · omega
  constructor
  · intro e
    have hp := hm2.1
    unfold comeA at hp
    rw [show ∀ (B : List Pl) (r : _), aL (B, r) = B from fun _ _ => rfl, List.mem_cons, List.mem_append] at hp
    rcases hp with hp | hp | hp
    · rw [← hin, ← hp]; exact hm2.2
    · have h2 := (hlv_mem hx hy (by have := (hI.2.1 _ hm.1).b; omega) hle hp).2
      have h3 := old _ hm.1
      unfold comeA at e
      rw [e] at h2
      exact absurd h2.symm h3
    · exact absurd e (old _ (List.mem_of_mem_erase hp))
  · intro e
    have := plAt_eq hJ.til ha hb hmem (by rw [hin]; exact e)
    rw [← this]
    rfl
theorem come_depth (hI : Inv A) {x y t : Nat} (hx : x < 64) (hy : y < 64) (h16 : aN A < 16) (h : Cm A x y t) : pD (plAt (aL (comeA A x y t)) x y) = pD (plAt (aL A) x y) + t := by
  have hJ := come_inv hI hx hy h16 h
  have hle := h.le hI hx hy
  have hmem : prt x y (pD (plAt (aL A) x y) + t) (aN A + 1) ∈ aL (comeA A x y t) := List.mem_cons_self
  have hin := prt_in x y (pD (plAt (aL A) x y) + t) (aN A + 1) x y hle hx hy (by omega)
  have := plAt_eq hJ.til hx hy hmem (by rw [hin]; exact smP_rf _ _ _)
  rw [← this]
  rfl
theorem come_songs (hI : Inv A) {x y t : Nat} (hx : x < 64) (hy : y < 64) (h16 : aN A < 16) (h : Cm A x y t) : sgN (comeA A x y t) (aN A) = sgP A x y (pD (plAt (aL A) x y) + t) := by
  unfold sgN sgP
  show (List.range (aS A)).countP _ = _
  refine List.countP_congr (fun j hj => ?_)
  have hj' := List.mem_range.mp hj
  have hs := hI.song hj'
  have := come_at hI hx hy h16 h hs.1 hs.2.1
  rw [← this, beq_iff_eq]
  exact Iff.rfl
theorem q_would (hI : GI A H sn T) (hC : GC S A H sn T) (hM : GM M A H sn T) (x y w : Int32) : QQ (f5_would S x y w) (f6_would M x y w) S := by
  have hM1 := hM.t0
  obtain ⟨M1, e1⟩ : ∃ M1, M1 = sI M 0 0 := ⟨_, rfl⟩
  unfold f5_would f6_would f5_would_b42 f5_would_b19 f6_would_b75 f6_would_b112
  rw [nam_r, ← e1]
  rw [← e1] at hM1
  have fin : ∀ r : Int32, QQ (some r) (some (r, M1)) S := fun r => ⟨_, _, rfl, rfl, A, H, sn, T, hI, hC, hM1⟩
  rcases isPoint2 x y with ⟨a, b, ha, hb, rfl, rfl, p5, p6⟩ | ⟨p5, p6⟩
  · rw [p5, p6, bnd_s, bnd_s, if_neg n10, if_neg n10]
    rcases sw3 w with ⟨g1, g2, g3⟩ | ⟨g1, g2, g3, g4⟩
    · rw [g3, bnd_s, if_pos y00]
      rcases g1 with g1 | ⟨g0, g1⟩
      · rw [if_pos g1]; exact fin _
      · rw [if_neg (Int32.not_lt.mpr g0), if_neg (fun h => g2 ⟨g0, h⟩)]; exact fin _
    · obtain ⟨⟨L, hp, hP⟩, hK⟩ := hC.1
      obtain ⟨⟨L2, hp2, hP2⟩, hV⟩ := hM1.1
      have hW := hI.1.wf.perm hp
      have hW2 := hI.1.wf.perm hp2
      rw [g4, bnd_s, if_neg n10, if_neg g2, if_pos g3, m_refuses hP2 hp2 hV hI.1 ha hb, bnd_s]
      rcases r_dep hC.1 hI.1 ha hb with ⟨hr, hd⟩ | ⟨hr, h16, t, ht, hd⟩
      · rw [hd, bnd_s, if_pos (by rw [q0, iI_lt (by omega) (by omega) (by omega) (by omega)]; omega), if_neg (by rw [q0, iI_eq (by omega) (by omega) (by omega) (by omega)]; omega)]
        exact fin _
      · have hle := ht.le hI.1 ha hb
        have hm := plAt_in hI.1.til ha hb
        have hO := (hI.1.2.1 _ hm.1).b
        obtain ⟨j2, hj2, hf2⟩ := m_at hP2 hp2 hI.1 ha hb
        have er : iI (Rf A a b) = (0 : Int32) := by rw [hr]; rfl
        have en : ¬ iI ((pD (plAt (aL A) a b) + t : Nat) : Int) < 0 := by rw [q0, iI_lt (by omega) (by omega) (by omega) (by omega)]; omega
        rw [hd, bnd_s, if_neg en, if_pos er, hf2, bnd_s, m_w hP2 hW2 hj2, bnd_s]
        have n20 : ¬ (2 : Int32) = 0 := by decide
        have n21 : ¬ (2 : Int32) = 1 := by decide
        have n02 : ¬ (0 : Int32) = 2 := by decide
        have n12 : ¬ (1 : Int32) = 2 := by decide
        obtain ⟨M7, k1, k2, k3, k4⟩ := m_putAside M1
        have hV7 : VecV (M7.2 0) A := by rw [k3 0 (by omega)]; exact hM1.1
        obtain ⟨M9, c1, c2, c3⟩ := m_comes hV7 hI.1 ha hb h16 ht
        have hJ := come_inv hI.1 ha hb h16 ht
        obtain ⟨U, u1, u2, u3, u4⟩ := m_takeBack M9
        have hU : GM U A H sn T := hM1.cg (by rw [u2, c2.1, k2]) (by rw [u2, c2.1, k2]) (by rw [u2, c2.1, k2]) (by rw [u3 2 (by omega), c2.2 2 (by omega), k3 2 (by omega)]) (by rw [u3 3 (by omega), c2.2 3 (by omega), k3 3 (by omega)]) (by rw [u3 4 (by omega), c2.2 4 (by omega), k3 4 (by omega)]) (hM1.1.cg hI.1 (fun j hj => by rw [u4 j hj, c2.2 1 (by omega), k4 j hj]))
        have finU : ∀ r : Int32, QQ (some r) (some (r, U)) S := fun r => ⟨_, _, rfl, rfl, A, H, sn, T, hI, hC, hU⟩
        obtain ⟨⟨L9, hp9, hP9⟩, hV9⟩ := c3
        have hW9 := hJ.wf.perm hp9
        rcases g1 with rfl | rfl | rfl
        · obtain ⟨j9, hj9, hf9⟩ := m_at hP9 hp9 hJ ha hb
          rw [if_pos y00, if_neg n02, k1, bnd_s, c1, bd2_s, if_pos y00, hf9, bnd_s, m_d hP9 hW9 hj9, bnd_s, u1, bnd_s, come_depth hI.1 ha hb h16 ht]
          exact finU _
        · rw [if_neg n10, if_pos rfl, if_neg n12, k1, bnd_s, c1, bd2_s, if_neg n10, r_songsInPart hK hI.1 ha hb hle, bnd_s, m_songsOf hP9 hp9 hV9 hJ h16, bnd_s, u1, bnd_s, come_songs hI.1 ha hb h16 ht]
          exact finU _
        · rw [if_neg n20, if_neg n21, if_pos rfl, r_ownerAt hP hp hI.1 ha hb, bnd_s, orNone_t (by omega), bnd_s]
          by_cases h0 : pW (plAt (aL A) a b) = 0
          · rw [if_pos h0, if_pos (by rw [h0]; rfl)]; exact fin _
          · rw [if_neg h0, if_neg (by rw [q0, iI_eq (by omega) (by omega) (by omega) (by omega)]; omega), q1, iI_sub]; exact fin _
  · rw [p5, p6, bnd_s, bnd_s, if_pos y00, if_pos y00]; exact fin _
/-- the loudest of the first campers -/
def lbN (A : Ab) : Nat → Option Nat
  | 0 => none
  | i + 1 => if hereB A i = true then (match lbN A i with | none => some i | some k => if ((Op.cmpValue (FP.fcmp (ldN A i (aS A)) (ldN A k (aS A))) CmpOp.l) : Int32) ≤ 0 then some k else some i) else lbN A i
theorem lbN_lt (A : Ab) : ∀ i k, lbN A i = some k → k < i ∧ k < aN A
  | 0, k, h => by cases h
  | i + 1, k, h => by
    rw [lbN] at h
    by_cases hh : hereB A i = true
    · have hn := (hereB_iff.mp hh).1
      rw [if_pos hh] at h
      cases e : lbN A i with
      | none => rw [e] at h; cases h; omega
      | some k2 =>
        have ih := lbN_lt A i k2 e
        rw [e] at h
        dsimp only at h
        split at h
        · cases h; omega
        · cases h; omega
    · rw [if_neg hh] at h
      have ih := lbN_lt A i k h
      omega
theorem lbN_end (A : Ab) : ∀ m, lbN A (aN A + m) = lbN A (aN A)
  | 0 => rfl
  | m + 1 => by
    rw [show aN A + (m + 1) = aN A + m + 1 by omega, lbN, if_neg (fun h => by have := (hereB_iff.mp h).1; omega)]
    exact lbN_end A m
def enB : Option Nat → Int32 | none => -5 | some k => iI (k : Int)
def enM (A : Ab) (z : UInt32) : Option Nat → UInt32 | none => z | some k => ldN A k (aS A)
theorem q_loudest (hI : GI A H sn T) (hC : GC S A H sn T) (hM : GM M A H sn T) : QQ (f5_loudest S) (f6_loudest M) S := by
  have hM1 := hM.t0
  obtain ⟨M1, e1⟩ : ∃ M1, M1 = sI M 0 0 := ⟨_, rfl⟩
  unfold f6_loudest
  rw [nam_r, ← e1]
  rw [← e1] at hM1
  obtain ⟨⟨L, hp, hP⟩, hK⟩ := hC.1
  obtain ⟨⟨L2, hp2, hP2⟩, hV⟩ := hM1.1
  have h16 := hI.1.1.1
  have h20 := hI.1.1.2
  have l5 : f5_loudest S = some (enB (lbN A (aN A))) := by
    unfold f5_loudest
    have := loop_inv0 (σ := Int32 × UInt32) (aN A) (fun n i acc => f5_loudest_b8 S n acc.1 acc.2 i) (fun i acc => acc = (enB (lbN A i), enM A 3212836864 (lbN A i))) (fun acc => some acc.1) fuelN (fuel_lt (by omega)) ?_ ?_ (-5, 3212836864) rfl
    · obtain ⟨acc, g1, g2⟩ := this
      rw [g1] at g2
      exact g2
    · rintro n i acc hi rfl
      show ∃ acc', _ ∧ f5_loudest_b8 S (n + 1) _ _ _ = f5_loudest_b8 S n _ _ _
      rw [f5_loudest_b8, hK.1, if_neg (by rw [iI_le (by omega) (by omega) (by omega) (by omega)]; omega), r_isHereK hK hI.1 hi, bnd_s]
      unfold f5_loudest_b52
      have hb : (aH A i == 1) = hereB A i := by unfold hereB; rw [decide_eq_true hi, Bool.true_and]
      rw [hb]
      refine ⟨_, rfl, ?_⟩
      rw [lbN]
      cases hh : hereB A i
      · rw [if_pos b2i_f, if_neg (by decide), q1, iI_s]
      · have bt : ¬ b2i true = 0 := by decide
        rw [if_neg bt, if_pos rfl, r_loudnessOf hP hp hK hI.1 (by omega), bnd_s]
        cases e : lbN A i with
        | none =>
          have hg : FP.fcmp (ldN A i (aS A)) 3212836864 = some .gt := cmp_m1 (by
            rcases ldN_G hI.1 i (aS A) (Nat.le_refl _) with h | h
            · exact Or.inl h
            · exact Or.inr ⟨123, 133 + 2 * aS A, by omega, by omega, h⟩)
          have hc : ¬ ((Op.cmpValue (FP.fcmp (ldN A i (aS A)) 3212836864) CmpOp.l) : Int32) ≤ 0 := by rw [hg]; decide
          show (if ((Op.cmpValue (FP.fcmp (ldN A i (aS A)) 3212836864) CmpOp.l) : Int32) ≤ 0 then _ else _) = _
          rw [if_neg hc, q1, iI_s]
          rfl
        | some k =>
          show (if ((Op.cmpValue (FP.fcmp (ldN A i (aS A)) (ldN A k (aS A))) CmpOp.l) : Int32) ≤ 0 then _ else _) = _
          dsimp only
          by_cases hc : ((Op.cmpValue (FP.fcmp (ldN A i (aS A)) (ldN A k (aS A))) CmpOp.l) : Int32) ≤ 0
          · rw [if_pos hc, if_pos hc, q1, iI_s]
          · rw [if_neg hc, if_neg hc, q1, iI_s]; rfl
    · rintro n acc rfl
      show f5_loudest_b8 S (n + 1) _ _ _ = _
      rw [f5_loudest_b8, hK.1, if_pos (by rw [iI_le (by omega) (by omega) (by omega) (by omega)]; omega)]
  have l6 : f6_loudest_b12 M1 fuelN (-5) FP.fconst0 0 = some (enB (lbN A 16), M1) := by
    have := loop_inv0 (σ := Int32 × UInt32) 16 (fun n i acc => f6_loudest_b12 M1 n acc.1 acc.2 i) (fun i acc => acc = (enB (lbN A i), enM A FP.fconst0 (lbN A i))) (fun acc => some (acc.1, M1)) fuelN (fuel_lt (by omega)) ?_ ?_ (-5, FP.fconst0) rfl
    · obtain ⟨acc, g1, g2⟩ := this
      rw [g1] at g2
      exact g2
    · rintro n i acc hi rfl
      show ∃ acc', _ ∧ f6_loudest_b12 M1 (n + 1) _ _ _ = f6_loudest_b12 M1 n _ _ _
      rw [f6_loudest_b12, q16, if_neg (by rw [iI_le (by omega) (by omega) (by omega) (by omega)]; omega), m_isHereK hV hI.1 hi, bnd_s]
      unfold f6_loudest_b76
      refine ⟨_, rfl, ?_⟩
      rw [lbN]
      cases hh : hereB A i
      · rw [if_pos b2i_f, if_neg (by decide), q1, iI_s]
      · have bt : ¬ b2i true = 0 := by decide
        rw [if_neg bt, if_pos rfl, m_loudness hP2 hp2 hV hI.1 hi, bnd_s]
        unfold f6_loudest_b46 f6_loudest_b51 f6_loudest_b63 f6_loudest_b75 f6_loudest_b76
        cases e : lbN A i with
        | none =>
          rw [if_pos (show enB none = -5 from rfl), if_neg n10, if_neg n10, q1, iI_s]
          rfl
        | some k =>
          have hk := lbN_lt A i k e
          have ne : ¬ enB (some k) = -5 := by
            show ¬ iI (k : Int) = -5
            rw [show (-5 : Int32) = iI (-5) from rfl, iI_eq (by omega) (by omega) (by omega) (by omega)]; omega
          rw [if_neg ne]
          show (if ((Op.cmpValue (FP.fcmp (ldN A i (aS A)) (ldN A k (aS A))) CmpOp.l) : Int32) ≤ 0 then _ else _) = _
          dsimp only
          by_cases hc : ((Op.cmpValue (FP.fcmp (ldN A i (aS A)) (ldN A k (aS A))) CmpOp.l) : Int32) ≤ 0
          · rw [if_pos hc, if_pos hc, if_pos y00, if_pos y00, q1, iI_s]
          · rw [if_neg hc, if_neg hc, if_neg n10, if_neg n10, q1, iI_s]; rfl
    · rintro n acc rfl
      show f6_loudest_b12 M1 (n + 1) _ _ _ = _
      rw [f6_loudest_b12, q16, if_pos (by rw [iI_le (by omega) (by omega) (by omega) (by omega)]; omega)]
  rw [l5, l6]
  have ee : lbN A 16 = lbN A (aN A) := by rw [show 16 = aN A + (16 - aN A) by omega]; exact lbN_end A _
  rw [ee]
  exact ⟨_, _, rfl, rfl, A, H, sn, T, hI, hC, hM1⟩
/-- a share, or -1 -/
theorem q_share (hI : GI A H sn T) (hC : GC S A H sn T) (hM : GM M A H sn T) (z : Int32) : ∃ r M', f5_share S z = some r ∧ f6_share M z = some (r, M') ∧ (∀ {α : Type} (k : UInt64 → Option α), dnn (FP.f2d r) k = k (FP.f2d r)) ∧ Rel S M' := by
  have hM1 := hM.t0
  obtain ⟨M1, e1⟩ : ∃ M1, M1 = sI M 0 0 := ⟨_, rfl⟩
  unfold f5_share f6_share f6_share_b27
  rw [nam_r, ← e1]
  rw [← e1] at hM1
  rcases isHere2 hC.1.2 hM1.1.2 hI.1 z with ⟨k, hk, rfl, h5, h6⟩ | ⟨h5, h6⟩
  · rw [h5, h6, bnd_s, bnd_s, if_neg n10, if_neg n10]
    obtain ⟨⟨L, hp, hP⟩, hK⟩ := hC.1
    obtain ⟨⟨L2, hp2, hP2⟩, hV⟩ := hM1.1
    have hW := hI.1.wf.perm hp
    have hW2 := hI.1.wf.perm hp2
    have h16 := hI.1.1.1
    have hk1 := hk.1
    have hle := area_le hI.1.2.1 k
    have hlen := hI.1.wf.1
    have ha : area (aL A) k < 2147483648 := by omega
    have e5 : f3_pointsOf S 0 (iI (k : Int)) = some (iI (area (aL A) k : Int)) := by
      rw [r_pointsOf hP hW (by omega), ← area_perm hp k]; rfl
    have e6 : f6_areaOf M1 (iI (k : Int)) = some (iI (area (aL A) k : Int)) := by
      rw [m_areaOf hP2 hW2 (by omega), ← area_perm hp2 k]
    rw [e5, e6, bnd_s, bnd_s]
    have nn : ∀ {α : Type} (f : UInt32 → Option α), fnn (FP.fdiv (FP.i2f (iI (area (aL A) k : Int))) 1166016512) f = f (shr (area (aL A) k)) := fun f => shr_nn ha f
    rw [nn, nn]
    exact ⟨_, _, rfl, rfl, fun f => shr_dd ha f, A, H, sn, T, hI, hC, hM1⟩
  · rw [h5, h6, bnd_s, bnd_s, if_pos y00, if_pos y00]
    exact ⟨_, _, rfl, rfl, fun f => m1_dd f, A, H, sn, T, hI, hC, hM1⟩
theorem foldl_max_perm {L L' : List Pl} (h : L.Perm L') (a : Nat) : L.foldl (fun b p => max b (pD p)) a = L'.foldl (fun b p => max b (pD p)) a :=
  h.foldl_eq' (fun x _ y _ z => by omega) a
theorem foldl_min_perm {L L' : List Pl} (h : L.Perm L') (a : Nat) : L.foldl (fun b p => min b (pD p)) a = L'.foldl (fun b p => min b (pD p)) a :=
  h.foldl_eq' (fun x _ y _ z => by omega) a
theorem m_depthMax {L : List Pl} (hP : PlV (M.2 0) L) (hW : Wf L) (h0 : 0 < L.length) : f6_depthOf M 1 = some (iI ((L.foldl (fun b p => max b (pD p)) 0 : Nat) : Int)) := by
  have hlen := hW.1
  obtain ⟨p, hp⟩ : ∃ p, L[0]? = some p := ⟨_, List.getElem?_eq_getElem h0⟩
  have hd := (hW.at hp).b
  unfold f6_depthOf
  rw [show f6_ofPlot M 0 0 = f6_ofPlot M (iI ((0 : Nat) : Int)) 0 from rfl, m_d hP hW hp, bnd_s]
  have := loop_fold L (fun n i acc => f6_depthOf_b9 M 1 n acc i) (fun (acc : Int32) p => if acc < iI (pD p : Int) then iI (pD p : Int) else acc) (fun acc => some acc) ?_ ?_ fuelN 1 (iI (pD p : Int)) (by unfold fuelN; omega) (by omega)
  · rw [show (1 : Int32) = iI ((1 : Nat) : Int) from rfl] at this ⊢
    rw [this, foldl_max pD (L.drop 1) (fun q hq => by have := (hW.2 q (List.mem_of_mem_drop hq)).1; omega) (pD p) (by omega)]
    congr 3
    obtain ⟨q, K, rfl⟩ : ∃ q K, L = q :: K := by
      cases L with
      | nil => exact absurd h0 (by decide)
      | cons q K => exact ⟨q, K, rfl⟩
    rw [List.getElem?_cons_zero] at hp
    cases hp
    rw [List.foldl_cons, Nat.zero_max]
    rfl
  · intro n i q acc hq
    have hi := (List.getElem?_eq_some_iff.mp hq).1
    show f6_depthOf_b9 M 1 (n + 1) _ _ = f6_depthOf_b9 M 1 n _ _
    rw [f6_depthOf_b9, m_n hP, if_neg (by rw [iI_le (by omega) (by omega) (by omega) (by omega)]; omega), m_d hP hW hq, bnd_s, if_neg n10]
    unfold f6_depthOf_b37 f6_depthOf_b47 f6_depthOf_b52 f6_depthOf_b53
    by_cases c : acc < iI (pD q : Int)
    · rw [if_pos c, if_pos c, q1, iI_s]
    · rw [if_neg c, if_neg c, if_neg n10, q1, iI_s]
  · intro n acc
    show f6_depthOf_b9 M 1 (n + 1) _ _ = _
    rw [f6_depthOf_b9, m_n hP, if_pos (Int32.le_refl _)]
theorem m_depthMin {L : List Pl} (hP : PlV (M.2 0) L) (hW : Wf L) (h0 : 0 < L.length) : f6_depthOf M 0 = some (iI ((L.foldl (fun b p => min b (pD p)) 12 : Nat) : Int)) := by
  have hlen := hW.1
  obtain ⟨p, hp⟩ : ∃ p, L[0]? = some p := ⟨_, List.getElem?_eq_getElem h0⟩
  have hd := (hW.at hp).b
  unfold f6_depthOf
  rw [show f6_ofPlot M 0 0 = f6_ofPlot M (iI ((0 : Nat) : Int)) 0 from rfl, m_d hP hW hp, bnd_s]
  have := loop_fold L (fun n i acc => f6_depthOf_b9 M 0 n acc i) (fun (acc : Int32) p => if iI (pD p : Int) < acc then iI (pD p : Int) else acc) (fun acc => some acc) ?_ ?_ fuelN 1 (iI (pD p : Int)) (by unfold fuelN; omega) (by omega)
  · rw [show (1 : Int32) = iI ((1 : Nat) : Int) from rfl]
    rw [this, foldl_min pD (L.drop 1) (fun q hq => by have := (hW.2 q (List.mem_of_mem_drop hq)).1; omega) (pD p) (by omega)]
    congr 3
    obtain ⟨q, K, rfl⟩ : ∃ q K, L = q :: K := by
      cases L with
      | nil => exact absurd h0 (by decide)
      | cons q K => exact ⟨q, K, rfl⟩
    rw [List.getElem?_cons_zero] at hp
    cases hp
    rw [List.foldl_cons, Nat.min_eq_right (by omega)]
    rfl
  · intro n i q acc hq
    have hi := (List.getElem?_eq_some_iff.mp hq).1
    show f6_depthOf_b9 M 0 (n + 1) _ _ = f6_depthOf_b9 M 0 n _ _
    rw [f6_depthOf_b9, m_n hP, if_neg (by rw [iI_le (by omega) (by omega) (by omega) (by omega)]; omega), m_d hP hW hq, bnd_s, if_pos y00]
    unfold f6_depthOf_b37 f6_depthOf_b47 f6_depthOf_b52 f6_depthOf_b53
    rw [if_pos y00]
    by_cases c : iI (pD q : Int) < acc
    · rw [if_neg (Int32.not_le.mpr c), if_pos c, q1, iI_s]
    · rw [if_pos (Int32.not_lt.mp c), if_neg c, q1, iI_s]
  · intro n acc
    show f6_depthOf_b9 M 0 (n + 1) _ _ = _
    rw [f6_depthOf_b9, m_n hP, if_pos (Int32.le_refl _)]
theorem sw12 (z : Int32) : (z.toInt < 0 ∨ 11 < z.toInt) ∨ z = 0 ∨ z = 1 ∨ z = 2 ∨ z = 3 ∨ z = 4 ∨ z = 5 ∨ z = 6 ∨ z = 7 ∨ z = 8 ∨ z = 9 ∨ z = 10 ∨ z = 11 := by
  obtain ⟨a, a1, a2, rfl⟩ := iI_of z
  rw [iI_toInt a1 a2, q0, q1, q2, q3, q4, q5, q6, q7, q8, q9, q10, q11]
  by_cases h : a < 0 ∨ 11 < a
  · exact Or.inl h
  · refine Or.inr ?_
    obtain rfl | rfl | rfl | rfl | rfl | rfl | rfl | rfl | rfl | rfl | rfl | rfl : a = 0 ∨ a = 1 ∨ a = 2 ∨ a = 3 ∨ a = 4 ∨ a = 5 ∨ a = 6 ∨ a = 7 ∨ a = 8 ∨ a = 9 ∨ a = 10 ∨ a = 11 := by omega
    all_goals simp
theorem q_count (hI : GI A H sn T) (hC : GC S A H sn T) (hM : GM M A H sn T) (w : Int32) : QQ (f5_count S w) (f6_count M w) S := by
  have hM1 := hM.t0
  obtain ⟨M1, e1⟩ : ∃ M1, M1 = sI M 0 0 := ⟨_, rfl⟩
  unfold f5_count f6_count f6_count_b105
  rw [nam_r, ← e1]
  rw [← e1] at hM1
  have fin : ∀ r : Int32, QQ (some r) (some (r, M1)) S := fun r => ⟨_, _, rfl, rfl, A, H, sn, T, hI, hC, hM1⟩
  obtain ⟨⟨L, hp, hP⟩, hK⟩ := hC.1
  obtain ⟨⟨L2, hp2, hP2⟩, hV⟩ := hM1.1
  have hW := hI.1.wf.perm hp
  have hW2 := hI.1.wf.perm hp2
  have h16 := hI.1.1.1
  have hpos : 0 < L2.length := by
    have := (plAt_in hI.1.til (x := 0) (y := 0) (by omega) (by omega)).1
    rw [hp2.length_eq]
    exact List.length_pos_of_mem this
  rcases sw12 w with h | rfl | rfl | rfl | rfl | rfl | rfl | rfl | rfl | rfl | rfl | rfl | rfl
  · rw [if_pos h, if_pos h]; exact fin _
  · rw [if_neg (by decide), if_pos rfl, if_neg (by decide), if_pos rfl, r_campersHere hK hI.1, bnd_s, m_onField hV h16, bnd_s]; exact fin _
  · rw [if_neg (by decide), if_neg (by decide), if_pos rfl, if_neg (by decide), if_neg (by decide), if_pos rfl, hK.1, m_c hV]; exact fin _
  · rw [if_neg (by decide), if_neg (by decide), if_neg (by decide), if_pos rfl, if_neg (by decide), if_neg (by decide), if_neg (by decide), if_pos rfl, hP.1, m_n hP2, hp.length_eq, hp2.length_eq]; exact fin _
  · rw [if_neg (by decide), if_neg (by decide), if_neg (by decide), if_neg (by decide), if_pos rfl, if_neg (by decide), if_neg (by decide), if_neg (by decide), if_neg (by decide), if_pos rfl, hK.2.1, m_s hV]; exact fin _
  · rw [if_neg (by decide), if_neg (by decide), if_neg (by decide), if_neg (by decide), if_neg (by decide), if_pos rfl, if_neg (by decide), if_neg (by decide), if_neg (by decide), if_neg (by decide), if_neg (by decide), if_pos rfl, r_greatest hP hW, bnd_s, if_pos rfl, m_depthMax hP2 hW2 hpos, bnd_s, foldl_max_perm (hp.trans hp2.symm)]; exact fin _
  · rw [if_neg (by decide), if_neg (by decide), if_neg (by decide), if_neg (by decide), if_neg (by decide), if_neg (by decide), if_pos rfl, if_neg (by decide), if_neg (by decide), if_neg (by decide), if_neg (by decide), if_neg (by decide), if_neg (by decide), if_pos rfl, r_least hP hW, bnd_s, if_neg (by decide), m_depthMin hP2 hW2 hpos, bnd_s, foldl_min_perm (hp.trans hp2.symm)]; exact fin _
  · rw [if_neg (by decide), if_neg (by decide), if_neg (by decide), if_neg (by decide), if_neg (by decide), if_neg (by decide), if_neg (by decide), if_pos rfl, if_neg (by decide), if_neg (by decide), if_neg (by decide), if_neg (by decide), if_neg (by decide), if_neg (by decide), if_neg (by decide), if_pos rfl, r_more hP hp hK hI.1, bnd_s, m_withMore hP2 hp2 hV hI.1, bnd_s]; exact fin _
  · rw [if_neg (by decide), if_neg (by decide), if_neg (by decide), if_neg (by decide), if_neg (by decide), if_neg (by decide), if_neg (by decide), if_neg (by decide), if_pos rfl, if_neg (by decide), if_neg (by decide), if_neg (by decide), if_neg (by decide), if_neg (by decide), if_neg (by decide), if_neg (by decide), if_neg (by decide), if_pos rfl, hK.2.2.1, w_lit M1 (i := 3) (by rfl) (by omega), hV.2.2.1]; exact fin _
  · rw [if_neg (by decide), if_neg (by decide), if_neg (by decide), if_neg (by decide), if_neg (by decide), if_neg (by decide), if_neg (by decide), if_neg (by decide), if_neg (by decide), if_pos rfl, if_neg (by decide), if_neg (by decide), if_neg (by decide), if_neg (by decide), if_neg (by decide), if_neg (by decide), if_neg (by decide), if_neg (by decide), if_neg (by decide), if_pos rfl, hK.2.2.2.1, w_lit M1 (i := 4) (by rfl) (by omega), hV.2.2.2.1]; exact fin _
  · rw [if_neg (by decide), if_neg (by decide), if_neg (by decide), if_neg (by decide), if_neg (by decide), if_neg (by decide), if_neg (by decide), if_neg (by decide), if_neg (by decide), if_neg (by decide), if_pos rfl, if_neg (by decide), if_neg (by decide), if_neg (by decide), if_neg (by decide), if_neg (by decide), if_neg (by decide), if_neg (by decide), if_neg (by decide), if_neg (by decide), if_neg (by decide), if_pos rfl, hK.2.2.2.2.1, w_lit M1 (i := 5) (by rfl) (by omega), hV.2.2.2.2.1]; exact fin _
  · rw [if_neg (by decide), if_neg (by decide), if_neg (by decide), if_neg (by decide), if_neg (by decide), if_neg (by decide), if_neg (by decide), if_neg (by decide), if_neg (by decide), if_neg (by decide), if_neg (by decide), if_pos rfl, if_neg (by decide), if_neg (by decide), if_neg (by decide), if_neg (by decide), if_neg (by decide), if_neg (by decide), if_neg (by decide), if_neg (by decide), if_neg (by decide), if_neg (by decide), if_neg (by decide), if_pos rfl, hC.2.1.2.1, hM1.2.1.2.1]; exact fin _
  · rw [if_neg (by decide), if_neg (by decide), if_neg (by decide), if_neg (by decide), if_neg (by decide), if_neg (by decide), if_neg (by decide), if_neg (by decide), if_neg (by decide), if_neg (by decide), if_neg (by decide), if_neg (by decide), if_pos rfl, if_neg (by decide), if_neg (by decide), if_neg (by decide), if_neg (by decide), if_neg (by decide), if_neg (by decide), if_neg (by decide), if_neg (by decide), if_neg (by decide), if_neg (by decide), if_neg (by decide), if_neg (by decide), if_pos rfl, hC.2.2.2.1, hM1.2.2.2.1]; exact fin _
end A6
