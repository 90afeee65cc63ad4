/-! STAGE B, 35: the reference: ways, songs, refusals -/
section R6
variable {M : St} {A : Ab} {g : Nat} {L : List Pl} {i j : Nat} {p q : Pl}
theorem m_at (hP : PlV (M.2 0) L) (hp : L.Perm (aL A)) (hI : InvG g A) {x y : Nat} (hx : x < 64) (hy : y < 64) : ∃ j : Nat, L[j]? = some (plAt (aL A) x y) ∧ f6_plotAt M (iI (x : Int)) (iI (y : Int)) = some (iI (j : Int)) := by
  obtain ⟨j, p, h1, h2, h3⟩ := m_plotAt hP (hI.wf.perm hp) (hI.til.perm hp) hx hy
  have e := plAt_eq hI.til hx hy (hp.mem_iff.mp (List.mem_of_getElem? h1)) h2
  exact ⟨j, by rw [← e]; exact h1, h3⟩
theorem m_onWay (hP : PlV (M.2 0) L) (hp : L.Perm (aL A)) (hC : VmV (M.2 0) A) (hI : InvG g A) {k x y : Nat} (hk : k < aN A) (hx : x < 64) (hy : y < 64) {st : Int} (h0 : 0 ≤ st) (h1 : st < 2147483648) :
    (∃ (j : Nat) (q : Pl), L[j]? = some q ∧ Way (aL A) x y st.toNat (plAt (aL A) (aX A k) (aY A k)) q ∧ f6_onWay M (iI (k : Int)) (iI (x : Int)) (iI (y : Int)) (iI st) = some (iI (j : Int))) ∨
    ((∀ q, ¬ Way (aL A) x y st.toNat (plAt (aL A) (aX A k) (aY A k)) q) ∧ f6_onWay M (iI (k : Int)) (iI (x : Int)) (iI (y : Int)) (iI st) = some (iI (-5))) := by
  have hW := hI.wf.perm hp
  have hxy := hI.xy hk
  have h16 := hI.1.1
  obtain ⟨i, hi, hf⟩ := m_at hP hp hI hxy.2.1 hxy.2.2
  unfold f6_onWay
  rw [m_tx hC h16 hk, bnd_s, m_ty hC h16 hk, bnd_s, hf, bnd_s]
  have hd := dst_le (hW.at hi) hx hy
  rcases m_wayLoop hP hW (hI.til.perm hp) hx hy h1 128 0 fuelN i _ (by omega) (by omega) hd (fuel_lt (by omega)) hi with ⟨j, q, g1, g2, g3⟩ | ⟨g1, g2⟩
  · rw [show (st - ((0 : Nat) : Int)) = st by omega] at g2
    exact Or.inl ⟨j, q, g1, g2.perm hp, g3⟩
  · rw [show (st - ((0 : Nat) : Int)) = st by omega] at g1
    exact Or.inr ⟨fun q h => g1 q (h.perm hp.symm), g2⟩
theorem m_su (hC : VmV (M.2 0) A) (h20 : aS A ≤ 20) {k : Nat} (hk : k < aS A) : f6_ofSong M (iI (k : Int)) 0 = some (iI (aU A k : Int)) := by
  rw [show f6_ofSong M (iI (k : Int)) 0 = f6_ofSong M (iI (k : Int)) (iI ((0 : Nat) : Int)) from rfl, m_sg M (by omega), Nat.add_zero, (hC.2.2.2.2.2.2.2 k hk).1]
theorem m_sv (hC : VmV (M.2 0) A) (h20 : aS A ≤ 20) {k : Nat} (hk : k < aS A) : f6_ofSong M (iI (k : Int)) 1 = some (iI (aV A k : Int)) := by
  rw [show f6_ofSong M (iI (k : Int)) 1 = f6_ofSong M (iI (k : Int)) (iI ((1 : Nat) : Int)) from rfl, m_sg M (by omega), (hC.2.2.2.2.2.2.2 k hk).2.1]
theorem m_st (hC : VmV (M.2 0) A) (h20 : aS A ≤ 20) {k : Nat} (hk : k < aS A) : f6_ofSong M (iI (k : Int)) 2 = some (iI (aT A k : Int)) := by
  rw [show f6_ofSong M (iI (k : Int)) 2 = f6_ofSong M (iI (k : Int)) (iI ((2 : Nat) : Int)) from rfl, m_sg M (by omega), (hC.2.2.2.2.2.2.2 k hk).2.2]
theorem m_s {α : Type} (hC : VmV (M.2 0) A) (k : Int32 → Option α) : arr (M.2 0) (mlen 0) 2 k = k (iI (aS A : Int)) := by
  rw [show (2 : Int32) = iI ((2 : Nat) : Int) from rfl, ml0, arr_i (by omega) (by omega), hC.2.1]
theorem m_c {α : Type} (hC : VmV (M.2 0) A) (k : Int32 → Option α) : arr (M.2 0) (mlen 0) 0 k = k (iI (aN A : Int)) := by
  rw [show (0 : Int32) = iI ((0 : Nat) : Int) from rfl, ml0, arr_i (by omega) (by omega), hC.1]
/-- what is told of a song's camper -/
def tldW (w : Nat) : Int := if w = 0 then 100 else (w : Int) - 1
theorem m_singer (hP : PlV (M.2 0) L) (hp : L.Perm (aL A)) (hC : VmV (M.2 0) A) (hI : InvG g A) {k : Nat} (hk : k < aS A) : f6_singer M (iI (k : Int)) = some (iI (tldW (sgW A k))) := by
  have hs := hI.song hk
  have h20 := hI.1.2
  have hW := hI.wf.perm hp
  obtain ⟨j, hj, hf⟩ := m_at hP hp hI hs.1 hs.2.1
  have hO := (hW.at hj).b
  unfold f6_singer f6_singer_b34
  rw [m_su hC h20 hk, bnd_s, m_sv hC h20 hk, bnd_s, hf, bnd_s, m_w hP hW hj, bnd_s]
  unfold tldW sgW
  by_cases h : pW (plAt (aL A) (aU A k) (aV A k)) = 0
  · rw [if_pos (by rw [h]; rfl), if_pos h]; rfl
  · rw [if_neg (by rw [q0, iI_eq (by omega) (by omega) (by omega) (by omega)]; omega), if_neg h, q1, iI_sub]
theorem tld_k {w k : Nat} (hw : w ≤ 16) (hk : k < 16) : (iI (tldW w) = iI (k : Int)) ↔ w = k + 1 := by
  unfold tldW
  split
  · rw [iI_eq (by omega) (by omega) (by omega) (by omega)]; omega
  · rw [iI_eq (by omega) (by omega) (by omega) (by omega)]; omega
theorem m_songsOf (hP : PlV (M.2 0) L) (hp : L.Perm (aL A)) (hC : VmV (M.2 0) A) (hI : InvG g A) {k : Nat} (hk : k < 16) : f6_songsOf M (iI (k : Int)) = some (iI (sgN A k : Int)) := by
  have h20 := hI.1.2
  unfold f6_songsOf
  rw [loop_range (aS A) (fun n i acc => f6_songsOf_b4 M (iI (k : Int)) n acc i) (fun acc i => if sgW A i == k + 1 then acc + 1 else acc) (fun acc => some acc) fuelN (fuel_lt (by omega)) ?_ ?_ 0, q0, foldl_cnt, Int.zero_add]
  · rfl
  · intro n i acc hi
    have hle := sgW_le hI hi
    show f6_songsOf_b4 M _ (n + 1) _ _ = f6_songsOf_b4 M _ n _ _
    rw [f6_songsOf_b4, m_s hC, if_neg (by rw [iI_le (by omega) (by omega) (by omega) (by omega)]; omega), m_singer hP hp hC hI hi, bnd_s]
    unfold f6_songsOf_b29
    by_cases h : sgW A i = k + 1
    · rw [if_pos ((tld_k hle hk).mpr h), if_pos (by simpa using h), nam_r, q1, iI_s]
    · rw [if_neg (fun e => h ((tld_k hle hk).mp e)), if_neg (by simpa using h), nam_r, q1, iI_s, Int32.add_zero]
  · intro n acc
    show f6_songsOf_b4 M _ (n + 1) _ _ = _
    rw [f6_songsOf_b4, m_s hC, if_pos (by rw [iI_le (by omega) (by omega) (by omega) (by omega)]; omega)]
theorem m_loud {t : Nat} (h1 : 1 ≤ t) (h2 : t ≤ 999) : f6_loud (iI (t : Int)) = some (ldS t) := by
  unfold f6_loud
  rw [(loud_E h1 h2).nn (by omega)]
  rfl
theorem m_loudness (hP : PlV (M.2 0) L) (hp : L.Perm (aL A)) (hC : VmV (M.2 0) A) (hI : InvG g A) {k : Nat} (hk : k < 16) : f6_loudness M (iI (k : Int)) = some (ldN A k (aS A)) := by
  have h20 := hI.1.2
  unfold f6_loudness
  have := loop_inv0 (aS A) (fun n i acc => f6_loudness_b4 M (iI (k : Int)) n acc i) (fun i acc => acc = ldN A k i) (fun acc => some acc) fuelN (fuel_lt (by omega)) ?_ ?_ FP.fconst0 rfl
  · obtain ⟨acc, h1, h2⟩ := this
    rw [h2, h1]
  · intro n i acc hi hJ
    have hle := sgW_le hI hi
    have hs := hI.song hi
    show ∃ acc', _ ∧ f6_loudness_b4 M _ (n + 1) _ _ = f6_loudness_b4 M _ n _ _
    rw [f6_loudness_b4, m_s hC, if_neg (by rw [iI_le (by omega) (by omega) (by omega) (by omega)]; omega), m_singer hP hp hC hI hi, bnd_s]
    unfold f6_loudness_b38
    refine ⟨ldN A k (i + 1), rfl, ?_⟩
    by_cases h : sgW A i = k + 1
    · rw [if_pos ((tld_k hle hk).mpr h), m_st hC h20 hi, bnd_s, m_loud hs.2.2.1 hs.2.2.2, bnd_s, hJ]
      have e : FP.fadd (ldN A k i) (ldS (aT A i)) = ldN A k (i + 1) := by rw [ldN, if_pos h]
      rw [e, ldN_nn hI k (by omega), q1, iI_s]
    · have e : ldN A k i = ldN A k (i + 1) := by rw [ldN, if_neg h]
      rw [if_neg (fun e => h ((tld_k hle hk).mp e)), hJ, q1, iI_s, e]
  · intro n acc hJ
    show f6_loudness_b4 M _ (n + 1) _ _ = _
    rw [f6_loudness_b4, m_s hC, if_pos (by rw [iI_le (by omega) (by omega) (by omega) (by omega)]; omega)]
theorem m_refuses (hP : PlV (M.2 0) L) (hp : L.Perm (aL A)) (hC : VmV (M.2 0) A) (hI : Inv A) {x y : Nat} (hx : x < 64) (hy : y < 64) : f6_refuses M (iI (x : Int)) (iI (y : Int)) = some (iI (Rf A x y)) := by
  have h16 := hI.1.1
  have hW := hI.wf.perm hp
  obtain ⟨j, hj, hf⟩ := m_at hP hp hI hx hy
  have hO := (hW.at hj).b
  have hm := (plAt_in hI.til hx hy).1
  unfold Rf
  obtain ⟨p, ep⟩ : ∃ p, p = plAt (aL A) x y := ⟨_, rfl⟩
  rw [← ep] at hj hO hm ⊢
  have hsub : (iI (pW p : Int) - 1 : Int32) = iI ((pW p : Int) - 1) := by rw [q1, iI_sub]
  unfold f6_refuses f6_refuses_b62 f6_refuses_b63 f6_refuses_b86 f6_refuses_b91 f6_refuses_b92
  rw [m_c hC]
  by_cases e : aN A = 16
  · rw [e, if_pos (show iI ((16 : Nat) : Int) = 16 from rfl), if_pos rfl]; rfl
  · rw [if_neg (by rw [q16, iI_eq (by omega) (by omega) (by omega) (by omega)]; omega), if_neg e, hf, bnd_s, m_w hP hW hj, bnd_s, nam_r, hsub, m_d hP hW hj, bnd_s]
    by_cases h0 : pW p = 0
    · have hR : (if pW p ≠ 0 ∧ ((aX A (pW p - 1) = x ∧ aY A (pW p - 1) = y) ∨ pD p = 12) then (-4 : Int) else 0) = 0 := if_neg (fun h => h.1 h0)
      have n0 : iI ((pW p : Int) - 1) < 0 := by rw [q0, iI_lt (by omega) (by omega) (by omega) (by omega)]; omega
      rw [hR, if_pos n0, if_pos n0]; rfl
    · have hh := hI.here hm h0
      have hxy := hI.xy hh.1
      have n0 : ¬ iI ((pW p - 1 : Nat) : Int) < 0 := by rw [q0, iI_lt (by omega) (by omega) (by omega) (by omega)]; omega
      have e12 : (iI (pD p : Int) = 12) ↔ pD p = 12 := by rw [q12, iI_eq (by omega) (by omega) (by omega) (by omega)]; omega
      have ex : (iI (aX A (pW p - 1) : Int) = iI (x : Int)) ↔ aX A (pW p - 1) = x := by rw [iI_eq (by omega) (by omega) (by omega) (by omega)]; omega
      have ey : (iI (aY A (pW p - 1) : Int) = iI (y : Int)) ↔ aY A (pW p - 1) = y := by rw [iI_eq (by omega) (by omega) (by omega) (by omega)]; omega
      rw [show (pW p : Int) - 1 = ((pW p - 1 : Nat) : Int) by omega, m_tx hC h16 hh.1, bnd_s, m_ty hC h16 hh.1, bnd_s, if_neg n0, if_neg n0]
      by_cases c1 : aX A (pW p - 1) = x ∧ aY A (pW p - 1) = y
      · have hR : (if pW p ≠ 0 ∧ ((aX A (pW p - 1) = x ∧ aY A (pW p - 1) = y) ∨ pD p = 12) then (-4 : Int) else 0) = -4 := if_pos ⟨h0, Or.inl c1⟩
        rw [hR, if_pos (ex.mpr c1.1), if_pos (ey.mpr c1.2), if_neg (by decide)]; rfl
      · have hF : (if pW p ≠ 0 ∧ ((aX A (pW p - 1) = x ∧ aY A (pW p - 1) = y) ∨ pD p = 12) then (-4 : Int) else 0) = if pD p = 12 then -4 else 0 := by
          by_cases c2 : pD p = 12
          · rw [if_pos ⟨h0, Or.inr c2⟩, if_pos c2]
          · rw [if_neg (fun h => by rcases h.2 with h | h; exact c1 h; exact c2 h), if_neg c2]
        rw [hF]
        have fin : (if (0 : Int32) = 0 then (if iI (pD p : Int) = 12 then some (-4 : Int32) else some 0) else some (-4)) = some (iI (if pD p = 12 then -4 else 0)) := by
          rw [if_pos rfl]
          by_cases c2 : pD p = 12
          · rw [if_pos (e12.mpr c2), if_pos c2]; rfl
          · rw [if_neg (fun q => c2 (e12.mp q)), if_neg c2]; rfl
        by_cases c3 : aX A (pW p - 1) = x
        · rw [if_pos (ex.mpr c3), if_neg (fun q => c1 ⟨c3, ey.mp q⟩), if_neg n0]; exact fin
        · rw [if_neg (fun q => c3 (ex.mp q)), if_neg n0]; exact fin
end R6
