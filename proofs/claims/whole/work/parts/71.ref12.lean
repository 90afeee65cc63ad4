/-! STAGE B, 41: the reference puts together, gives away -/
def lowX (d x : Nat) : Bool := (decide (x < sibX d x) && decide (sibX d x / wid (d - 1) * wid (d - 1) = x)) || (decide (sibX d x < x) && decide (sibX d x / wid (d - 1) * wid (d - 1) = sibX d x))
theorem parX1b : ∀ d, d < 13 → d % 2 = 1 → ∀ x, x < 64 → x % wid d = 0 → lowX d x = true := by decide +kernel
theorem parX1 (d : Nat) (h1 : d < 13) (h2 : d % 2 = 1) (x : Nat) (h3 : x < 64) (h4 : x % wid d = 0) : (x < sibX d x ∧ sibX d x / wid (d - 1) * wid (d - 1) = x) ∨ (sibX d x < x ∧ sibX d x / wid (d - 1) * wid (d - 1) = sibX d x) := by
  have := parX1b d h1 h2 x h3 h4
  unfold lowX at this
  rwa [Bool.or_eq_true, Bool.and_eq_true, Bool.and_eq_true, decide_eq_true_iff, decide_eq_true_iff, decide_eq_true_iff, decide_eq_true_iff] at this
theorem parX0 : ∀ d, d < 13 → d ≠ 0 → d % 2 = 0 → ∀ x, x < 64 → x % wid d = 0 → x / wid (d - 1) * wid (d - 1) = x := by decide +kernel
def lowY (d x : Nat) : Bool := (decide (x < sibY d x) && decide (sibY d x / hei (d - 1) * hei (d - 1) = x)) || (decide (sibY d x < x) && decide (sibY d x / hei (d - 1) * hei (d - 1) = sibY d x))
theorem parY0b : ∀ d, d < 13 → d ≠ 0 → d % 2 = 0 → ∀ x, x < 64 → x % hei d = 0 → lowY d x = true := by decide +kernel
theorem parY0 (d : Nat) (h1 : d < 13) (h0 : d ≠ 0) (h2 : d % 2 = 0) (x : Nat) (h3 : x < 64) (h4 : x % hei d = 0) : (x < sibY d x ∧ sibY d x / hei (d - 1) * hei (d - 1) = x) ∨ (sibY d x < x ∧ sibY d x / hei (d - 1) * hei (d - 1) = sibY d x) := by
  have := parY0b d h1 h0 h2 x h3 h4
  unfold lowY at this
  rwa [Bool.or_eq_true, Bool.and_eq_true, Bool.and_eq_true, decide_eq_true_iff, decide_eq_true_iff, decide_eq_true_iff, decide_eq_true_iff] at this
theorem parY1 : ∀ d, d < 13 → d % 2 = 1 → ∀ x, x < 64 → x % hei d = 0 → x / hei (d - 1) * hei (d - 1) = x := by decide +kernel
/-- the corner of what a plot and its other half come from is that of the lower one -/
theorem par_low {p q : Pl} (hp : OkP p) (h : isHalf p q = true) (w : Nat) : (low p q = true → par1 q w = (pX p, pY p, pD p - 1, w)) ∧ (low p q = false → par1 q w = (pX q, pY q, pD q - 1, w)) := by
  obtain ⟨h0, hd, hx, hy⟩ := isHalf_iff.mp h
  obtain ⟨g1, g2, g3, g4, g5, g6⟩ := hp
  have hlo := low_iff p q
  unfold par1 prt
  rw [hx, hy, hd]
  by_cases ho : pD p % 2 = 1
  · have e1 := parX1 (pD p) (by omega) ho (pX p) g2 g4
    have e2 := parY1 (pD p) (by omega) ho (pY p) g3 g5
    have e3 : sibY (pD p) (pY p) = pY p := sibY_0 ho
    rw [e3] at hy ⊢
    rw [e2]
    constructor
    · intro hl
      have := hlo.mp hl
      rcases e1 with ⟨a, b⟩ | ⟨a, b⟩
      · rw [b]
      · omega
    · intro hl
      have := mt hlo.mpr (by rw [hl]; decide)
      rcases e1 with ⟨a, b⟩ | ⟨a, b⟩
      · omega
      · rw [b]
  · have e1 := parY0 (pD p) (by omega) h0 (by omega) (pY p) g3 g5
    have e2 := parX0 (pD p) (by omega) h0 (by omega) (pX p) g2 g4
    have e3 : sibX (pD p) (pX p) = pX p := sibX_0 (by omega)
    rw [e3] at hx ⊢
    rw [e2]
    constructor
    · intro hl
      have := hlo.mp hl
      rcases e1 with ⟨a, b⟩ | ⟨a, b⟩
      · rw [b]
      · omega
    · intro hl
      have := mt hlo.mpr (by rw [hl]; decide)
      rcases e1 with ⟨a, b⟩ | ⟨a, b⟩
      · omega
      · rw [b]
section R12
variable {M : St} {A : Ab} {g : Nat} {L : List Pl} {i j : Nat} {p q : Pl}
theorem m_joins27 (hP : PlV (M.2 0) L) (hW : Wf L) {f s w : Nat} {a b : Pl} (hf : L[f]? = some a) (hs : L[s]? = some b) (hfs : f ≠ s) (hd : 0 < pD a) {K : List Pl} (hK : L.Perm (a :: b :: K)) :
    ∃ M' L', f6_joins_b27 M (iI (w : Int)) (iI (f : Int)) (iI (s : Int)) = some M' ∧ FrM M M' ∧ PlV (M'.2 0) L' ∧ L'.Perm ((pX a, pY a, pD a - 1, w) :: K) ∧ M'.2 0 4 = M.2 0 4 + 1 ∧ (∀ j, j < 54 → j ≠ 1 → j ≠ 4 → M'.2 0 j = M.2 0 j) ∧ ∀ j, 826 ≤ j → M'.2 0 j = M.2 0 j := by
  have hlen := hW.1
  have hfl := (List.getElem?_eq_some_iff.mp hf).1
  have hsl := (List.getElem?_eq_some_iff.mp hs).1
  obtain ⟨M4, a1, a2, a3, a4⟩ := m_set hP hlen hfl (pX a) (pY a) (pD a - 1) w
  obtain ⟨L1, hL1⟩ : ∃ L1, L1 = L.set f (pX a, pY a, pD a - 1, w) := ⟨_, rfl⟩
  rw [← hL1] at a3
  have hlen1 : L1.length = L.length := by rw [hL1, List.length_set]
  obtain ⟨z, hz0⟩ : ∃ z, L1[L1.length - 1]? = some z := ⟨_, List.getElem?_eq_getElem (by omega)⟩
  obtain ⟨n, hn⟩ : ∃ n, L.length = n + 1 := ⟨L.length - 1, by omega⟩
  have hs1 : L1[s]? = some b := by rw [hL1, List.getElem?_set_ne hfs]; exact hs
  have hz : L1[n]? = some z := by rw [← hz0]; congr 1; omega
  have hzc := a3.2 n z hz
  unfold f6_joins_b27
  have es : (iI (pD a : Int) - 1 : Int32) = iI ((pD a - 1 : Nat) : Int) := by rw [q1, iI_sub]; congr 1; omega
  rw [m_d hP hW hf, bnd_s, m_x hP hW hf, bnd_s, m_y hP hW hf, bnd_s, es, a1, bnd_s, rd1, wr1]
  have en : M4.2 0 1 = iI ((n + 1 : Nat) : Int) := by rw [a3.1, hlen1, hn]
  have en2 : (iI ((n + 1 : Nat) : Int) - 1 : Int32) = iI (n : Int) := by rw [q1, iI_sub]; congr 1; omega
  rw [en, en2]
  obtain ⟨M6, h6⟩ : ∃ M6, M6 = sA M4 0 1 (iI (n : Int)) := ⟨_, rfl⟩
  rw [← h6, rd1]
  have f6 : FrM M4 M6 := by rw [h6]; exact FrM.sA _ _ _
  have e61 : M6.2 0 1 = iI (n : Int) := by rw [h6, sA_eq, upd_s]
  have e6 : ∀ j, j ≠ 1 → M6.2 0 j = M4.2 0 j := fun j hj => by rw [h6, sA_eq, upd_n hj]
  rw [e61]
  have r0 : f6_ofPlot M6 (iI (n : Int)) 0 = some (iI (pD z : Int)) := by
    have h := m_pl M6 (i := n) (k := 0) (by omega)
    rw [show f6_ofPlot M6 (iI (n : Int)) 0 = f6_ofPlot M6 (iI (n : Int)) (iI ((0 : Nat) : Int)) from rfl, h, Nat.add_zero, e6 _ (by omega), hzc.1]
  have r1 : f6_ofPlot M6 (iI (n : Int)) 1 = some (iI (pX z : Int)) := by
    rw [show f6_ofPlot M6 (iI (n : Int)) 1 = f6_ofPlot M6 (iI (n : Int)) (iI ((1 : Nat) : Int)) from rfl, m_pl M6 (i := n) (k := 1) (by omega), e6 _ (by omega), hzc.2.1]
  have r2 : f6_ofPlot M6 (iI (n : Int)) 2 = some (iI (pY z : Int)) := by
    rw [show f6_ofPlot M6 (iI (n : Int)) 2 = f6_ofPlot M6 (iI (n : Int)) (iI ((2 : Nat) : Int)) from rfl, m_pl M6 (i := n) (k := 2) (by omega), e6 _ (by omega), hzc.2.2.1]
  have r3 : f6_ofPlot M6 (iI (n : Int)) 3 = some (iI (pW z : Int)) := by
    rw [show f6_ofPlot M6 (iI (n : Int)) 3 = f6_ofPlot M6 (iI (n : Int)) (iI ((3 : Nat) : Int)) from rfl, m_pl M6 (i := n) (k := 3) (by omega), e6 _ (by omega), hzc.2.2.2]
  obtain ⟨M12, b1, b2, b3, b4, b5, b6, b7⟩ := m_layPlot M6 (i := s) (by omega) (iI (pD z : Int)) (iI (pX z : Int)) (iI (pY z : Int)) (iI (pW z : Int))
  obtain ⟨M13, c1, c2, c3, c4, c5, c6, c7⟩ := m_layPlot M12 (i := n) (by omega) 0 0 0 0
  rw [r0, bnd_s, r1, bnd_s, r2, bnd_s, r3, bnd_s, b1, bnd_s, c1, bnd_s, rd4, wr4]
  refine ⟨_, (L1.set s z).take n, rfl, (((a2.tr f6).tr b2).tr c2).tr (FrM.sA _ _ _), ⟨?_, fun i r hi => ?_⟩, ?_, ?_, fun j hj hj1 hj4 => ?_, fun j hj => ?_⟩
  · rw [sA_eq, upd_n (by omega), c7 _ (by omega), b7 _ (by omega), e61, List.length_take, List.length_set, hlen1, hn, show min n (n + 1) = n by omega]
  · rw [List.getElem?_take] at hi
    split at hi
    · rename_i hin
      rw [sA_eq, upd_n (by omega), upd_n (by omega), upd_n (by omega), upd_n (by omega), c7 _ (by omega), c7 _ (by omega), c7 _ (by omega), c7 _ (by omega)]
      rw [List.getElem?_set] at hi
      by_cases e : s = i
      · subst e
        rw [if_pos rfl, if_pos (by omega)] at hi
        cases hi
        exact ⟨b3, b4, b5, b6⟩
      · rw [if_neg e] at hi
        rw [b7 _ (by omega), b7 _ (by omega), b7 _ (by omega), b7 _ (by omega), e6 _ (by omega), e6 _ (by omega), e6 _ (by omega), e6 _ (by omega)]
        exact a3.2 i r hi
    · cases hi
  · have e1 := remove_perm hs1 hz0
    rw [show L1.length - 1 = n by omega] at e1
    obtain ⟨K2, k1, k2⟩ := set_perm hf (pX a, pY a, pD a - 1, w)
    rw [← hL1] at k2
    have e3 : K2.Perm (b :: K) := List.Perm.cons_inv (k1.symm.trans hK)
    exact List.Perm.cons_inv (e1.symm.trans (k2.trans ((e3.cons _).trans (List.Perm.swap b _ K))))
  · rw [sA_eq, upd_s, c7 _ (by omega), b7 _ (by omega), e6 _ (by omega), a4 _ (by omega)]
  · rw [sA_eq, upd_n hj4, c7 _ (by omega), b7 _ (by omega), e6 _ hj1, a4 _ (by omega)]
  · rw [sA_eq, upd_n (by omega), c7 _ (by omega), b7 _ (by omega), e6 _ (by omega), a4 _ (by omega)]
theorem m_joins (hP : PlV (M.2 0) L) (hW : Wf L) {w : Nat} (hi : L[i]? = some p) (hj : L[j]? = some q) (hh : isHalf p q = true) {K : List Pl} (hK : L.Perm (p :: q :: K)) :
    ∃ M' L', f6_joins M (iI (i : Int)) (iI (j : Int)) (iI (w : Int)) = some M' ∧ FrM M M' ∧ PlV (M'.2 0) L' ∧ L'.Perm (par1 q w :: K) ∧ M'.2 0 4 = M.2 0 4 + 1 ∧ (∀ j, j < 54 → j ≠ 1 → j ≠ 4 → M'.2 0 j = M.2 0 j) ∧ ∀ j, 826 ≤ j → M'.2 0 j = M.2 0 j := by
  have hOk := hW.at hi
  have hn := half_ne hOk hh
  have hd := isHalf_iff.mp hh
  have hij : i ≠ j := by intro e; subst e; rw [hi] at hj; cases hj; exact hn rfl
  have hil := hW.lt hi
  have hjl := hW.lt hj
  have hpl := par_low hOk hh w
  unfold f6_joins f6_joins_b14
  rw [m_isAhead hP hW hi hj, bnd_s]
  cases hl : low p q
  · rw [if_pos b2i_f, if_neg (by rw [at_ne hjl hil]; omega), hpl.2 hl]
    exact m_joins27 hP hW hj hi (fun e => hij e.symm) (by omega) (hK.trans (List.Perm.swap q p K))
  · rw [if_neg (by decide), if_pos rfl, hpl.1 hl]
    exact m_joins27 hP hW hi hj hij (by omega) hK
theorem VmV.join {v v' : Nat → Int32} (h : VmV v A) (h16 : aN A ≤ 16) (h4 : v' 4 = v 4 + 1) (h1 : ∀ j, j < 54 → j ≠ 1 → j ≠ 4 → v' j = v j) (h2 : ∀ j, 826 ≤ j → v' j = v j) (L : List Pl) : VmV v' (plA A L (aC2 A + 1) (aC3 A)) := by
  obtain ⟨a, b, c, d, e, f, g, i⟩ := h
  refine ⟨by rw [h1 _ (by omega) (by omega) (by omega)]; exact a, by rw [h1 _ (by omega) (by omega) (by omega)]; exact b, by rw [h1 _ (by omega) (by omega) (by omega)]; exact c, by rw [h4, d]; rfl, by rw [h1 _ (by omega) (by omega) (by omega)]; exact e, fun k hk => ?_, fun k hk hk2 => ?_, fun j hj => ?_⟩
  · have hk' : k < aN A := hk
    rw [h1 _ (by omega) (by omega) (by omega), h1 _ (by omega) (by omega) (by omega), h1 _ (by omega) (by omega) (by omega)]; exact f k hk
  · rw [h1 _ (by omega) (by omega) (by omega)]; exact g k hk hk2
  · rw [h2 _ (by omega), h2 _ (by omega), h2 _ (by omega)]; exact i j hj
theorem m_joinV (hP : PlV (M.2 0) L) (hp : L.Perm (aL A)) (hC : VmV (M.2 0) A) (hI : InvG g A) (hi : L[i]? = some p) (hj : L[j]? = some q) (hh : isHalf p q = true) (w : Nat) :
    ∃ M', f6_joins M (iI (i : Int)) (iI (j : Int)) (iI (w : Int)) = some M' ∧ FrM M M' ∧ VecV (M'.2 0) (joinA A p q w) := by
  have hW := hI.wf.perm hp
  have hn := half_ne (hW.at hi) hh
  have hm : p ∈ aL A := hp.mem_iff.mp (List.mem_of_getElem? hi)
  have hm2 : q ∈ aL A := hp.mem_iff.mp (List.mem_of_getElem? hj)
  obtain ⟨M', L', h1, h2, h3, h4, h5, h6, h7⟩ := m_joins hP hW (w := w) hi hj hh (hp.trans (perm2 hm hm2 hn))
  exact ⟨M', h1, h2, ⟨L', h4, h3⟩, hC.join hI.1.1 h5 h6 h7 _⟩
/-- a plot given to another camper -/
theorem m_give (hP : PlV (M.2 0) L) (hp : L.Perm (aL A)) (hC : VmV (M.2 0) A) (hI : InvG g A) (hi : L[i]? = some p) (w : Nat) :
    PlV ((sA M 0 (54 + 4 * i + 3) (iI (w : Int))).2 0) (L.set i (pX p, pY p, pD p, w)) ∧ (L.set i (pX p, pY p, pD p, w)).Perm (aL (giveA A p w)) ∧ VmV ((sA M 0 (54 + 4 * i + 3) (iI (w : Int))).2 0) (giveA A p w) := by
  have hW := hI.wf.perm hp
  refine ⟨m_whose hP hW.1 hi w, ?_, by rw [sA_eq]; exact hC.cell hI.1.1 (hW.lt hi) (by omega) _⟩
  obtain ⟨K, k1, k2⟩ := set_perm hi (pX p, pY p, pD p, w)
  refine k2.trans (List.Perm.cons _ ?_)
  have hm : p ∈ aL A := hp.mem_iff.mp (List.mem_of_getElem? hi)
  exact List.Perm.cons_inv (k1.symm.trans (hp.trans (List.perm_cons_erase hm)))
theorem m_givesAway (hP : PlV (M.2 0) L) (hp : L.Perm (aL A)) (hC : VmV (M.2 0) A) (hI : InvG g A) (hi : L[i]? = some p) {b : Nat} (hb : b < 16) (hnb : ¬ Here A b) :
    (∃ q ∈ aL A, isHalf p q = true ∧ ∃ M', f6_givesAway M (iI (i : Int)) (iI (b : Int)) = some M' ∧ FrM M M' ∧ VecV (M'.2 0) (joinA A p q (pW q))) ∨
    ((∀ q ∈ aL A, isHalf p q = false) ∧ ∀ w, Least A p w → ∃ M', f6_givesAway M (iI (i : Int)) (iI (b : Int)) = some M' ∧ FrM M M' ∧ VecV (M'.2 0) (takeA A p (w + 1))) := by
  have hW := hI.wf.perm hp
  have hil := hW.lt hi
  obtain ⟨z, z1, z2⟩ := m_smallest hP hp hC hI hi hb hnb
  unfold f6_givesAway f6_givesAway_b62
  rcases m_otherHalf hP hW hi with ⟨j, q, h1, h2, h3⟩ | ⟨h1, h2⟩
  · refine Or.inl ⟨q, hp.mem_iff.mp (List.mem_of_getElem? h1), h2, ?_⟩
    have hlt := hW.lt h1
    obtain ⟨M', g1, g2, g3⟩ := m_joinV hP hp hC hI hi h1 h2 (pW q)
    rw [h3, bnd_s, z1, bnd_s, if_neg (by rw [show (-5 : Int32) = iI (-5) from rfl, iI_eq (by omega) (by omega) (by omega) (by omega)]; omega), m_w hP hW h1, bnd_s, g1, bnd_s]
    exact ⟨_, rfl, g2, g3⟩
  · refine Or.inr ⟨fun q hq => h1 q (hp.mem_iff.mpr hq), fun w hw => ?_⟩
    have ew : (iI (w : Int) + 1 : Int32) = iI ((w + 1 : Nat) : Int) := by rw [q1, iI_s]
    rw [h2, bnd_s, z1, bnd_s, if_pos (show iI (-5) = -5 from rfl), z2 w hw, ew, w_cell M (i := 54 + 4 * i + 3) (cell_p3 i) (by omega), rd5, wr5]
    obtain ⟨g1, g2, g3⟩ := m_give hP hp hC hI hi (w + 1)
    have h16 := hI.1.1
    refine ⟨_, rfl, (FrM.sA _ _ _).tr (FrM.sA _ _ _), ⟨_, g2, g1.fr (by rw [List.length_set]; exact hW.1) ?_ (fun j h1 h2 => ?_)⟩, ?_⟩
    · rw [sA_eq (sA M 0 (54 + 4 * i + 3) (iI ((w + 1 : Nat) : Int))), upd_n (by omega)]
    · rw [sA_eq (sA M 0 (54 + 4 * i + 3) (iI ((w + 1 : Nat) : Int))), upd_n (by omega)]
    · obtain ⟨M5, e5⟩ : ∃ M5, M5 = sA M 0 (54 + 4 * i + 3) (iI ((w + 1 : Nat) : Int)) := ⟨_, rfl⟩
      rw [← e5] at g3 ⊢
      obtain ⟨a, b, c, d, e, f, g, k⟩ := g3
      rw [sA_eq]
      refine ⟨by rw [upd_n (by omega)]; exact a, by rw [upd_n (by omega)]; exact b, by rw [upd_n (by omega)]; exact c, by rw [upd_n (by omega)]; exact d, by rw [upd_s, e]; rfl, fun k hk => ?_, fun k hk hk2 => ?_, fun j hj => ?_⟩
      · rw [upd_n (by omega), upd_n (by omega), upd_n (by omega)]; exact f k hk
      · rw [upd_n (by omega)]; exact g k hk hk2
      · rw [upd_n (by omega), upd_n (by omega), upd_n (by omega)]; exact k j hj
end R12
