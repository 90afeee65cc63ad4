/-! STAGE B, 15: the invariant is kept -/
theorem hlv_mem {x y d w : Nat} (hx : x < 64) (hy : y < 64) (hw : w ≤ 16) : ∀ {t : Nat} {q : Pl}, d + t ≤ 12 → q ∈ hlv x y d w t → OkP q ∧ pW q = w
  | 0, q, _, h => by rw [hlv] at h; cases h
  | t + 1, q, ht, h => by
    rw [hlv, List.mem_append] at h
    rcases h with h | h
    · exact hlv_mem hx hy hw (by omega) h
    · rw [List.mem_singleton] at h
      have sp := sib_part (d := d + t + 1) (by omega) (by omega) hx hy
      rw [h]
      exact ⟨prt_ok sp.1 sp.2 (by omega) hw, rfl⟩
theorem cov_pos {L : List Pl} {q : Pl} {a b : Nat} (hq : q ∈ L) (hi : inP q a b = true) : 0 < cov L a b := List.countP_pos_iff.mpr ⟨q, hq, hi⟩
theorem hlv_sub {x y d w t : Nat} (hx : x < 64) (hy : y < 64) (hw : w ≤ 16) (ht : d + t ≤ 12) {q : Pl} {a b : Nat} (hq : q ∈ hlv x y d w t) (hi : inP q a b = true) : smP a b x y d = true := by
  have h := hlv_cov (d := d) (wn := 0) hx hy hw (by omega) [] a b t ht
  rw [List.append_nil] at h
  have := cov_pos (List.mem_cons_of_mem (prt x y (d + t) 0) hq) hi
  rw [h, show cov [] a b = 0 from rfl] at this
  by_cases e : smP a b x y d = true
  · exact e
  · rw [if_neg e] at this; omega
theorem InvG.len {g : Nat} {A : Ab} (h : InvG g A) : (aL A).length ≤ 1 + 12 * (aN A - 1) := h.2.2.2.1
theorem InvG.xy {g : Nat} {A : Ab} (h : InvG g A) {k : Nat} (hk : k < aN A) : aH A k ≤ 1 ∧ aX A k < 64 ∧ aY A k < 64 := h.2.2.2.2.1 k hk
theorem InvG.own {g : Nat} {A : Ab} (h : InvG g A) {p : Pl} (hp : p ∈ aL A) : pW p = 0 ∨ Here A (pW p - 1) ∨ pW p = g := h.2.2.2.2.2.1 p hp
theorem InvG.none {g : Nat} {A : Ab} (h : InvG g A) (h0 : ∀ k, ¬ Here A k) : aL A = [(0, 0, 0, 0)] := h.2.2.2.2.2.2.1 h0
theorem InvG.some {g : Nat} {A : Ab} (h : InvG g A) {k : Nat} (h0 : Here A k) {p : Pl} (hp : p ∈ aL A) : pW p ≠ 0 := h.2.2.2.2.2.2.2.1 ⟨k, h0⟩ p hp
theorem InvG.tent {g : Nat} {A : Ab} (h : InvG g A) {k : Nat} (h0 : Here A k) {p : Pl} (hp : p ∈ aL A) (hi : inP p (aX A k) (aY A k) = true) : pW p = k + 1 := h.2.2.2.2.2.2.2.2.1 k h0 p hp hi
theorem InvG.song {g : Nat} {A : Ab} (h : InvG g A) {j : Nat} (hj : j < aS A) : aU A j < 64 ∧ aV A j < 64 ∧ 1 ≤ aT A j ∧ aT A j ≤ 999 := h.2.2.2.2.2.2.2.2.2 j hj
/-- what the newcomer's depth must be -/
def Cm (A : Ab) (x y t : Nat) : Prop := (pW (plAt (aL A) x y) = 0 ∧ t = 0) ∨ (pW (plAt (aL A) x y) ≠ 0 ∧ Nw A (plAt (aL A) x y) x y t)
theorem Cm.le {A : Ab} (hI : Inv A) {x y t : Nat} (hx : x < 64) (hy : y < 64) (h : Cm A x y t) : pD (plAt (aL A) x y) + t ≤ 12 := by
  have := (hI.2.1 _ (plAt_in hI.til hx hy).1).1
  rcases h with ⟨-, h⟩ | ⟨-, h⟩
  · omega
  · exact h.2.1
theorem Cm.one {A : Ab} {x y t s : Nat} (h : Cm A x y t) (h2 : Cm A x y s) : t = s := by
  rcases h with ⟨h0, h⟩ | ⟨h0, h⟩
  · rcases h2 with ⟨-, h2⟩ | ⟨h1, -⟩
    · omega
    · exact absurd h0 h1
  · rcases h2 with ⟨h1, -⟩ | ⟨-, h2⟩
    · exact absurd h1 h0
    · by_cases c : t < s
      · exact absurd ((h2.2.2.2 t h.1 c).symm.trans h.2.2.1) (by simp)
      · by_cases c2 : s < t
        · exact absurd ((h.2.2.2 s h2.1 c2).symm.trans h2.2.2.1) (by simp)
        · omega
theorem smP_rf (x y d : Nat) : smP x y x y d = true := smP_iff.mpr ⟨rfl, rfl⟩
theorem Cm.len {A : Ab} (hI : Inv A) {x y t : Nat} (hx : x < 64) (hy : y < 64) (h16 : aN A < 16) (h : Cm A x y t) : (aL A).length + t ≤ 1 + 12 * aN A ∧ 1 ≤ (aL A).length := by
  have hl := hI.len
  have hm := (plAt_in hI.til hx hy).1
  have h1 : 0 < (aL A).length := List.length_pos_of_mem hm
  rcases h with ⟨-, h⟩ | ⟨h0, h⟩
  · omega
  · have := (hI.here hm h0).1
    have := h.2.1
    omega
theorem come_inv {A : Ab} (hI : Inv A) {x y t : Nat} (hx : x < 64) (hy : y < 64) (h16 : aN A < 16) (h : Cm A x y t) : Inv (comeA A x y t) := by
  have hm := plAt_in hI.til hx hy
  have hle := h.le hI hx hy
  have hlen := h.len hI hx hy h16
  obtain ⟨p, ep⟩ : ∃ p, p = plAt (aL A) x y := ⟨_, rfl⟩
  unfold Cm at h
  unfold comeA
  rw [← ep] at hm hle h ⊢
  have hOp := hI.2.1 p hm.1
  have hOpb := hOp.b
  have hT : Til (prt x y (pD p + t) (aN A + 1) :: (hlv x y (pD p) (pW p) t ++ (aL A).erase p)) := til_come hI.til hm.1 hOp hx hy (by omega) (by omega) hle hm.2
  have hH : ∀ k, Here A k → k < aN A + 1 ∧ updN (aH A) (aN A) 1 k = 1 := fun k hk => ⟨by have := hk.1; omega, by rw [updN_n _ _ (by have := hk.1; omega)]; exact hk.2⟩
  refine ⟨⟨by show aN A + 1 ≤ 16; omega, hI.1.2⟩, fun q hq => ?_, hT, ?_, fun k hk => ?_, fun q hq => ?_, fun h0 => ?_, fun _ q hq => ?_, fun k hk q hq hi => ?_, fun j hj => hI.song hj⟩
  · have hq2 : q ∈ prt x y (pD p + t) (aN A + 1) :: (hlv x y (pD p) (pW p) t ++ (aL A).erase p) := hq
    rw [List.mem_cons, List.mem_append] at hq2
    rcases hq2 with h1 | h1 | h1
    · rw [h1]; exact prt_ok hx hy hle (by omega)
    · exact (hlv_mem hx hy (by omega) hle h1).1
    · exact hI.2.1 q (List.mem_of_mem_erase h1)
  · show (prt x y (pD p + t) (aN A + 1) :: (hlv x y (pD p) (pW p) t ++ (aL A).erase p)).length ≤ 1 + 12 * (aN A + 1 - 1)
    rw [List.length_cons, List.length_append, hlv_len, List.length_erase_of_mem hm.1]
    omega
  · show updN (aH A) (aN A) 1 k ≤ 1 ∧ updN (aX A) (aN A) x k < 64 ∧ updN (aY A) (aN A) y k < 64
    have hk2 : k < aN A + 1 := hk
    by_cases e : k = aN A
    · subst e; rw [updN_s, updN_s, updN_s]; omega
    · rw [updN_n _ _ e, updN_n _ _ e, updN_n _ _ e]; exact hI.xy (by omega)
  · have hq2 : q ∈ prt x y (pD p + t) (aN A + 1) :: (hlv x y (pD p) (pW p) t ++ (aL A).erase p) := hq
    rw [List.mem_cons, List.mem_append] at hq2
    rcases hq2 with h1 | h1 | h1
    · refine Or.inr (Or.inl ?_)
      rw [h1]
      exact ⟨by show aN A + 1 - 1 < aN A + 1; omega, updN_s _ _ _⟩
    · rw [(hlv_mem hx hy (by omega) hle h1).2]
      rcases hI.own hm.1 with h2 | h2 | h2
      · exact Or.inl h2
      · exact Or.inr (Or.inl (hH _ h2))
      · exact Or.inl h2
    · rcases hI.own (List.mem_of_mem_erase h1) with h2 | h2 | h2
      · exact Or.inl h2
      · exact Or.inr (Or.inl (hH _ h2))
      · exact Or.inl h2
  · exact absurd ⟨by show aN A < aN A + 1; omega, updN_s _ _ _⟩ (h0 (aN A))
  · have hq2 : q ∈ prt x y (pD p + t) (aN A + 1) :: (hlv x y (pD p) (pW p) t ++ (aL A).erase p) := hq
    by_cases e : ∃ k, Here A k
    · obtain ⟨k, hk⟩ := e
      rw [List.mem_cons, List.mem_append] at hq2
      rcases hq2 with h1 | h1 | h1
      · rw [h1]; exact Nat.succ_ne_zero _
      · rw [(hlv_mem hx hy (by omega) hle h1).2]; exact hI.some hk hm.1
      · exact hI.some hk (List.mem_of_mem_erase h1)
    · have e1 := hI.none (fun k hk => e ⟨k, hk⟩)
      have e2 : p = (0, 0, 0, 0) := by have := hm.1; rw [e1, List.mem_singleton] at this; exact this
      rcases h with ⟨-, h⟩ | ⟨h, -⟩
      · subst h
        rw [e1, e2, List.erase_cons_head, hlv, List.append_nil, List.mem_singleton] at hq2
        rw [hq2]; exact Nat.succ_ne_zero _
      · rw [e2] at h; exact absurd rfl h
  · have hq2 : q ∈ prt x y (pD p + t) (aN A + 1) :: (hlv x y (pD p) (pW p) t ++ (aL A).erase p) := hq
    have hi2 : inP q (updN (aX A) (aN A) x k) (updN (aY A) (aN A) y k) = true := hi
    have hk1 : k < aN A + 1 := hk.1
    have hk2 : updN (aH A) (aN A) 1 k = 1 := hk.2
    by_cases e : k = aN A
    · subst e
      rw [updN_s, updN_s] at hi2
      have h1 : inP (prt x y (pD p + t) (aN A + 1)) x y = true := by rw [prt_in _ _ _ _ _ _ hle hx hy (by omega)]; exact smP_rf _ _ _
      rw [cnt_one (hT x y hx hy) hq2 hi2 List.mem_cons_self h1]
      rfl
    · rw [updN_n _ _ e] at hk2
      rw [updN_n _ _ e, updN_n _ _ e] at hi2
      have hk3 : Here A k := ⟨by omega, hk2⟩
      rw [List.mem_cons, List.mem_append] at hq2
      rcases hq2 with h1 | h1 | h1
      · exfalso
        rw [h1, prt_in _ _ _ _ _ _ hle hx hy (by omega)] at hi2
        have h2 := hI.tent hk3 hm.1 (by rw [inP_sm hOp hm.2]; exact smP_mono (by omega) hle hi2)
        rcases h with ⟨h3, -⟩ | ⟨-, h3⟩
        · omega
        · have h4 := h3.2.2.1
          rw [h2, Nat.add_sub_cancel, hi2] at h4
          cases h4
      · rw [(hlv_mem hx hy (by omega) hle h1).2]
        exact hI.tent hk3 hm.1 (by rw [inP_sm hOp hm.2]; exact hlv_sub hx hy (by omega) hle h1 hi2)
      · exact hI.tent hk3 (List.mem_of_mem_erase h1) hi2
/-- other plots, the rest as it was -/
theorem pl_inv {g : Nat} {A : Ab} (hI : InvG g A) {L : List Pl} {c2 c3 : Int32} {j : Nat} (hj : Here A j) (hO : ∀ p ∈ L, OkP p) (hT : Til L) (hl : L.length ≤ (aL A).length) (hw : ∀ p ∈ L, Here A (pW p - 1) ∧ pW p ≠ 0 ∨ pW p = g ∧ pW p ≠ 0) (ht : ∀ k, Here A k → ∀ p ∈ L, inP p (aX A k) (aY A k) = true → pW p = k + 1) : InvG g (plA A L c2 c3) := by
  refine ⟨hI.1, hO, hT, ?_, fun k hk => hI.xy hk, fun p hp => ?_, fun h0 => absurd hj (h0 j), fun _ p hp => ?_, ht, fun j hj => hI.song hj⟩
  · have := hI.len
    show L.length ≤ 1 + 12 * (aN A - 1)
    omega
  · rcases hw p hp with h | h
    · exact Or.inr (Or.inl h.1)
    · exact Or.inr (Or.inr h.1)
  · rcases hw p hp with h | h
    · exact h.2
    · exact h.2
theorem InvG.ow {g : Nat} {A : Ab} (h : InvG g A) {k : Nat} (h0 : Here A k) {p : Pl} (hp : p ∈ aL A) : Here A (pW p - 1) ∧ pW p ≠ 0 ∨ pW p = g ∧ pW p ≠ 0 := by
  have h1 := h.some h0 hp
  rcases h.own hp with h2 | h2 | h2
  · exact absurd h2 h1
  · exact Or.inl ⟨h2, h1⟩
  · exact Or.inr ⟨h2, h1⟩
theorem join_inv {g : Nat} {A : Ab} (hI : InvG g A) {j : Nat} (hj : Here A j) {p q : Pl} (hp : p ∈ aL A) (hq : q ∈ aL A) (hh : isHalf p q = true) (ht : ∀ k, Here A k → inP p (aX A k) (aY A k) = true → pW q = k + 1) : InvG g (joinA A p q (pW q)) := by
  have hOp := hI.2.1 p hp
  have hOq := hI.2.1 q hq
  have hOqb := hOq.b
  have hn := half_ne hOp hh
  have hpm := perm2 hp hq hn
  refine pl_inv hI hj (fun r hr => ?_) (til_join hI.til hI.2.1 hp hq hh (by omega)) ?_ (fun r hr => ?_) (fun k hk r hr hi => ?_)
  · rcases List.mem_cons.mp hr with h | h
    · rw [h]; exact prt_ok (by omega) (by omega) (by omega) (by omega)
    · exact hI.2.1 r (List.mem_of_mem_erase (List.mem_of_mem_erase h))
  · rw [hpm.length_eq, List.length_cons, List.length_cons, List.length_cons]; omega
  · rcases List.mem_cons.mp hr with h | h
    · have e : pW (par1 q (pW q)) = pW q := rfl
      rw [h, e]; exact hI.ow hj hq
    · exact hI.ow hj (List.mem_of_mem_erase (List.mem_of_mem_erase h))
  · rcases List.mem_cons.mp hr with h | h
    · rw [h] at hi ⊢
      show pW q = k + 1
      have hc := half_cov hOp hOq hh (w := pW q) (by omega) [] (aX A k) (aY A k)
      rw [cov_cons, if_pos hi, cov_cons, cov_cons] at hc
      by_cases c1 : inP p (aX A k) (aY A k) = true
      · exact ht k hk c1
      · by_cases c2 : inP q (aX A k) (aY A k) = true
        · exact hI.tent hk hq c2
        · rw [if_neg c1, if_neg c2] at hc; omega
    · exact hI.tent hk (List.mem_of_mem_erase (List.mem_of_mem_erase h)) hi
theorem give_inv {g : Nat} {A : Ab} (hI : InvG g A) {w : Nat} (hw : Here A w) {p : Pl} (hp : p ∈ aL A) (ht : ∀ k, Here A k → inP p (aX A k) (aY A k) = true → w = k) (c2 c3 : Int32) : InvG g (plA A ((pX p, pY p, pD p, w + 1) :: (aL A).erase p) c2 c3) := by
  have hOp := hI.2.1 p hp
  have h16 := hI.1.1
  have hw2 := hw.1
  refine pl_inv hI hw (fun r hr => ?_) (til_set hI.til hp (fun a b => rfl)) ?_ (fun r hr => ?_) (fun k hk r hr hi => ?_)
  · rcases List.mem_cons.mp hr with h | h
    · rw [h]
      obtain ⟨h1, h2, h3, h4, h5, h6⟩ := hOp
      exact ⟨h1, h2, h3, h4, h5, by show w + 1 ≤ 16; omega⟩
    · exact hI.2.1 r (List.mem_of_mem_erase h)
  · have := List.length_pos_of_mem hp
    rw [List.length_cons, List.length_erase_of_mem hp]; omega
  · rcases List.mem_cons.mp hr with h | h
    · rw [h]; exact Or.inl ⟨hw, Nat.succ_ne_zero _⟩
    · exact hI.ow hw (List.mem_of_mem_erase h)
  · rcases List.mem_cons.mp hr with h | h
    · rw [h] at hi ⊢
      show w + 1 = k + 1
      rw [ht k hk hi]
    · exact hI.tent hk (List.mem_of_mem_erase h) hi
def goneA (A : Ab) (k : Nat) : Ab := (aL A, (aN A, updN (aH A) k 0, aX A, aY A), A.2.2)
def allA (A : Ab) (k : Nat) : Ab := ([(0, 0, 0, 0)], (aN A, updN (aH A) k 0, aX A, aY A), A.2.2)
theorem gone_here {A : Ab} {k j : Nat} (h : Here (goneA A k) j) : Here A j ∧ j ≠ k := by
  have h1 : j < aN A := h.1
  have h2 : updN (aH A) k 0 j = 1 := h.2
  by_cases e : j = k
  · subst e; rw [updN_s] at h2; cases h2
  · rw [updN_n _ _ e] at h2; exact ⟨⟨h1, h2⟩, e⟩
theorem here_gone {A : Ab} {k j : Nat} (h : Here A j) (e : j ≠ k) : Here (goneA A k) j := ⟨h.1, by show updN (aH A) k 0 j = 1; rw [updN_n _ _ e]; exact h.2⟩
theorem gone_xy {A : Ab} (hI : Inv A) (k : Nat) {j : Nat} (hj : j < aN A) : updN (aH A) k 0 j ≤ 1 ∧ aX A j < 64 ∧ aY A j < 64 := by
  have := hI.xy hj
  by_cases e : j = k
  · subst e; rw [updN_s]; omega
  · rw [updN_n _ _ e]; exact this
theorem gone_inv {A : Ab} (hI : Inv A) {k : Nat} (hk : Here A k) {j : Nat} (hj : Here A j) (hjk : j ≠ k) : InvG (k + 1) (goneA A k) := by
  refine ⟨hI.1, hI.2.1, hI.til, hI.len, fun j hj => gone_xy hI k hj, fun p hp => ?_, fun h0 => absurd (here_gone hj hjk) (h0 j), fun _ p hp => hI.some hk hp, fun j hj p hp hi => hI.tent (gone_here hj).1 hp hi, fun j hj => hI.song hj⟩
  have h0 := hI.some hk hp
  by_cases e : pW p = k + 1
  · exact Or.inr (Or.inr e)
  · exact Or.inr (Or.inl (here_gone (hI.here hp h0) (by omega)))
theorem gone_end {A : Ab} {k : Nat} (hI : InvG (k + 1) A) (h : ∀ p ∈ aL A, pW p ≠ k + 1) : Inv A := by
  refine ⟨hI.1, hI.2.1, hI.til, hI.len, hI.2.2.2.2.1, fun p hp => ?_, hI.2.2.2.2.2.2⟩
  rcases hI.own hp with h1 | h1 | h1
  · exact Or.inl h1
  · exact Or.inr (Or.inl h1)
  · exact absurd h1 (h p hp)
theorem til_one (w : Nat) : Til [(0, 0, 0, w)] := by
  intro x y hx hy
  have : inP (0, 0, 0, w) x y = true := by
    show decide (0 ≤ x ∧ x < 0 + wid 0 ∧ 0 ≤ y ∧ y < 0 + hei 0) = true
    rw [decide_eq_true_iff, show wid 0 = 64 from rfl, show hei 0 = 64 from rfl]
    omega
  rw [List.countP_cons, this]
  rfl
theorem ok_one : OkP (0, 0, 0, 0) := ⟨by decide, by decide, by decide, by decide, by decide, by decide⟩
theorem all_inv {A : Ab} (hI : Inv A) {k : Nat} (h : ∀ j, ¬ Here (goneA A k) j) : Inv (allA A k) := by
  refine ⟨hI.1, fun p hp => ?_, til_one 0, by show 1 ≤ 1 + 12 * (aN A - 1); omega, fun j hj => gone_xy hI k hj, fun p hp => ?_, fun _ => rfl, fun ⟨j, hj⟩ => absurd hj (h j), fun j hj => absurd hj (h j), fun j hj => hI.song hj⟩
  · rw [show aL (allA A k) = [(0, 0, 0, 0)] from rfl, List.mem_singleton] at hp
    rw [hp]; exact ok_one
  · rw [show aL (allA A k) = [(0, 0, 0, 0)] from rfl, List.mem_singleton] at hp
    rw [hp]; exact Or.inl rfl
theorem tent_inv {A : Ab} (hI : Inv A) {k x y : Nat} (hx : x < 64) (hy : y < 64) (hk : Here A k) (hw : pW (plAt (aL A) x y) = k + 1) : Inv (tentA A k x y) := by
  refine ⟨hI.1, hI.2.1, hI.til, hI.len, fun j hj => ?_, hI.2.2.2.2.2.1, hI.2.2.2.2.2.2.1, hI.2.2.2.2.2.2.2.1, fun j hj p hp hi => ?_, fun j hj => hI.song hj⟩
  · have := hI.xy (show j < aN A from hj)
    show aH A j ≤ 1 ∧ updN (aX A) k x j < 64 ∧ updN (aY A) k y j < 64
    by_cases e : j = k
    · subst e; rw [updN_s, updN_s]; omega
    · rw [updN_n _ _ e, updN_n _ _ e]; exact this
  · have hi2 : inP p (updN (aX A) k x j) (updN (aY A) k y j) = true := hi
    by_cases e : j = k
    · subst e
      rw [updN_s, updN_s] at hi2
      rw [plAt_eq hI.til hx hy hp hi2]; exact hw
    · rw [updN_n _ _ e, updN_n _ _ e] at hi2
      exact hI.tent hj hp hi2
theorem lay_inv {A : Ab} (hI : Inv A) {x y t : Nat} (hx : x < 64) (hy : y < 64) (h1 : 1 ≤ t) (h2 : t ≤ 999) (hs : aS A < 20) : Inv (layA A x y t) := by
  refine ⟨⟨hI.1.1, hs⟩, hI.2.1, hI.til, hI.len, hI.2.2.2.2.1, hI.2.2.2.2.2.1, hI.2.2.2.2.2.2.1, hI.2.2.2.2.2.2.2.1, hI.2.2.2.2.2.2.2.2.1, fun j hj => ?_⟩
  have hj2 : j < aS A + 1 := hj
  show updN (aU A) (aS A) x j < 64 ∧ updN (aV A) (aS A) y j < 64 ∧ 1 ≤ updN (aT A) (aS A) t j ∧ updN (aT A) (aS A) t j ≤ 999
  by_cases e : j = aS A
  · subst e; rw [updN_s, updN_s, updN_s]; omega
  · rw [updN_n _ _ e, updN_n _ _ e, updN_n _ _ e]; exact hI.song (by omega)
theorem song_inv {A : Ab} (hI : Inv A) {k x y : Nat} (hx : x < 64) (hy : y < 64) : Inv (songA A k x y) := by
  refine ⟨hI.1, hI.2.1, hI.til, hI.len, hI.2.2.2.2.1, hI.2.2.2.2.2.1, hI.2.2.2.2.2.2.1, hI.2.2.2.2.2.2.2.1, hI.2.2.2.2.2.2.2.2.1, fun j hj => ?_⟩
  have := hI.song (show j < aS A from hj)
  show updN (aU A) k x j < 64 ∧ updN (aV A) k y j < 64 ∧ 1 ≤ aT A j ∧ aT A j ≤ 999
  by_cases e : j = k
  · subst e; rw [updN_s, updN_s]; omega
  · rw [updN_n _ _ e, updN_n _ _ e]; exact this
