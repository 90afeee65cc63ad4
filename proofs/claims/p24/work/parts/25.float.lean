/-! STAGE B, 5b: floats that are 0 or plain and positive -/
theorem k_tails : FP.Core.b32.tails = 8388608 := rfl
theorem k_exps : FP.Core.b32.exps = 256 := rfl
theorem k_qmin : FP.Core.b32.qmin = -149 := rfl
theorem k_qmax : FP.Core.b32.qmax = 104 := rfl
theorem k_p : (2 : Nat) ^ FP.Core.b32.p = 16777216 := rfl
theorem f_dec {E T : Nat} (h1 : 1 ≤ E) (h2 : E ≤ 254) (hT : T < 8388608) : FP.Core.decode FP.Core.b32 (E * 8388608 + T) = .fin false (8388608 + T) ((E : Int) - 150) := by
  unfold FP.Core.decode FP.Core.fieldE FP.Core.fieldT FP.Core.fieldS
  rw [k_tails, k_exps, k_qmin, show (E * 8388608 + T) / 8388608 = E by omega, show E % 256 = E by omega, show (E * 8388608 + T) % 8388608 = T by omega, show E / 256 % 2 = 0 by omega, if_neg (by omega), if_neg (by omega)]
  congr 1
  omega
theorem f_enc {E T : Nat} (h1 : 1 ≤ E) (hT : T < 8388608) : FP.Core.encode FP.Core.b32 (.fin false (8388608 + T) ((E : Int) - 150)) = E * 8388608 + T := by
  show (if 8388608 + T < FP.Core.b32.tails then _ else _) = _
  rw [k_tails, if_neg (by omega)]
  unfold FP.Core.assemble
  rw [k_tails, k_exps, k_qmin, show (((E : Int) - 150 - -149).toNat + 1) = E by omega, show 8388608 + T - 8388608 = T by omega]
  simp
theorem f_lead {N l : Nat} (h1 : 2 ^ l ≤ N) (h2 : N < 2 ^ (l + 1)) : FP.Core.leading N 1 = (l : Int) := by
  have h0 : 0 < 2 ^ l := Nat.pow_pos (by omega)
  have e : N.log2 = l := by
    have a : l ≤ N.log2 := (Nat.le_log2 (by omega)).mpr h1
    have b : N.log2 < l + 1 := (Nat.log2_lt (by omega)).mpr h2
    omega
  unfold FP.Core.leading
  rw [e, show Nat.log2 1 = 0 from rfl]
  show (if 1 * 2 ^ ((l : Int) - ((0 : Nat) : Int)).toNat ≤ N * 2 ^ (-((l : Int) - ((0 : Nat) : Int))).toNat then (l : Int) - ((0 : Nat) : Int) else _) = _
  rw [show ((l : Int) - ((0 : Nat) : Int)).toNat = l by omega, show (-((l : Int) - ((0 : Nat) : Int))).toNat = 0 by omega, if_pos (by omega)]
  omega
theorem f_near1 (n : Nat) : FP.Core.nearest n 1 = n := by
  unfold FP.Core.nearest
  rw [if_pos (by omega)]
  omega
theorem f_nearE {c d : Nat} (hd : 0 < d) : FP.Core.nearest (c * d) d = c := by
  unfold FP.Core.nearest
  rw [Nat.mul_mod_left, if_pos (by omega), Nat.mul_div_cancel _ hd]
theorem f_rr {N l : Nat} {e : Int} (h1 : 2 ^ l ≤ N) (h2 : N < 2 ^ (l + 1)) (hq : -149 ≤ (l : Int) + e - 23) : FP.Core.roundRatio FP.Core.b32 false N 1 e = FP.Core.settle FP.Core.b32 false (FP.Core.nearest (N * 2 ^ (23 - l)) (2 ^ (l - 23))) ((l : Int) + e - 23) := by
  have h0 : 0 < 2 ^ l := Nat.pow_pos (by omega)
  unfold FP.Core.roundRatio FP.Core.roundAt FP.Core.quantum FP.Core.unitsNum FP.Core.unitsDen
  rw [if_neg (by omega), f_lead h1 h2, k_qmin]
  rw [show ((FP.Core.b32.p : Nat) : Int) - 1 = 23 from rfl, show max (-149 : Int) ((l : Int) + e - 23) = (l : Int) + e - 23 by omega]
  rw [show (e - ((l : Int) + e - 23)).toNat = 23 - l by omega, show ((l : Int) + e - 23 - e).toNat = l - 23 by omega, Nat.one_mul]
theorem f_settle {c : Nat} {q : Int} (hc : c < 16777216) (hq : q ≤ 104) : FP.Core.settle FP.Core.b32 false c q = .fin false c q := by
  unfold FP.Core.settle FP.Core.bound
  rw [k_p, if_pos hc, k_qmax, if_pos hq]
theorem f_exact {c s : Nat} {e : Int} (h1 : 8388608 ≤ c) (h2 : c < 16777216) (hq : -149 ≤ (s : Int) + e) (hq2 : (s : Int) + e ≤ 104) : FP.Core.roundRatio FP.Core.b32 false (c * 2 ^ s) 1 e = .fin false c ((s : Int) + e) := by
  have h0 : 0 < 2 ^ s := Nat.pow_pos (by omega)
  have a1 : 2 ^ (23 + s) ≤ c * 2 ^ s := by rw [Nat.pow_add]; exact Nat.mul_le_mul_right _ h1
  have a2 : c * 2 ^ s < 2 ^ (23 + s + 1) := by
    rw [show 23 + s + 1 = 24 + s by omega, Nat.pow_add]
    exact Nat.mul_lt_mul_of_pos_right h2 h0
  rw [f_rr a1 a2 (by omega), show 23 - (23 + s) = 0 by omega, show 23 + s - 23 = s by omega, Nat.pow_zero, Nat.mul_one, f_nearE h0, f_settle h2 (by omega)]
  congr 1
  omega
theorem f_near_b {N s : Nat} (h1 : 8388608 * 2 ^ s ≤ N) (h2 : N < 16777216 * 2 ^ s) : 8388608 ≤ FP.Core.nearest N (2 ^ s) ∧ FP.Core.nearest N (2 ^ s) ≤ 16777216 := by
  have h0 : 0 < 2 ^ s := Nat.pow_pos (by omega)
  have a : 8388608 ≤ N / 2 ^ s := (Nat.le_div_iff_mul_le h0).mpr h1
  have b : N / 2 ^ s < 16777216 := (Nat.div_lt_iff_lt_mul h0).mpr h2
  unfold FP.Core.nearest
  repeat' split
  all_goals omega
theorem f_big {N s : Nat} {e : Int} (h1 : 8388608 * 2 ^ s ≤ N) (h2 : N < 16777216 * 2 ^ s) (hq : -149 ≤ (s : Int) + e) (hq2 : (s : Int) + e ≤ 103) : ∃ c q, FP.Core.roundRatio FP.Core.b32 false N 1 e = .fin false c q ∧ 8388608 ≤ c ∧ c < 16777216 ∧ ((s : Int) + e ≤ q ∧ q ≤ (s : Int) + e + 1) := by
  have a1 : 2 ^ (23 + s) ≤ N := by rw [Nat.pow_add]; exact h1
  have a2 : N < 2 ^ (23 + s + 1) := by rw [show 23 + s + 1 = 24 + s by omega, Nat.pow_add]; exact h2
  have b := f_near_b h1 h2
  rw [f_rr a1 a2 (by omega), show 23 - (23 + s) = 0 by omega, show 23 + s - 23 = s by omega, Nat.pow_zero, Nat.mul_one, show ((23 + s : Nat) : Int) + e - 23 = (s : Int) + e by omega]
  by_cases c : FP.Core.nearest N (2 ^ s) < 16777216
  · rw [f_settle c (by omega)]
    exact ⟨_, _, rfl, b.1, c, by omega, by omega⟩
  · unfold FP.Core.settle FP.Core.bound
    rw [k_p, if_neg c, k_qmax, if_pos (by omega), k_tails]
    exact ⟨_, _, rfl, by omega, by omega, by omega, by omega⟩
/-- the bits with exponent E and fraction T -/
def fE (E T : Nat) : UInt32 := UInt32.ofNat (E * 8388608 + T)
theorem fE_n {E T : Nat} (h2 : E ≤ 254) (hT : T < 8388608) : (fE E T).toNat = E * 8388608 + T := by
  unfold fE
  exact UInt32.toNat_ofNat_of_lt' (show E * 8388608 + T < 4294967296 by omega)
theorem fE_dec {E T : Nat} (h1 : 1 ≤ E) (h2 : E ≤ 254) (hT : T < 8388608) : FP.Core.decode FP.Core.b32 (fE E T).toNat = .fin false (8388608 + T) ((E : Int) - 150) := by
  rw [fE_n h2 hT, f_dec h1 h2 hT]
theorem f_back {c : Nat} {q : Int} (h1 : 8388608 ≤ c) (h2 : c < 16777216) (hq : -149 ≤ q) : ∃ E T : Nat, 1 ≤ E ∧ (E : Int) = q + 150 ∧ T < 8388608 ∧ c = 8388608 + T ∧ FP.Core.encode FP.Core.b32 (.fin false c q) = E * 8388608 + T := by
  refine ⟨(q + 150).toNat, c - 8388608, by omega, by omega, by omega, by omega, ?_⟩
  rw [← f_enc (E := (q + 150).toNat) (T := c - 8388608) (by omega) (by omega), show 8388608 + (c - 8388608) = c by omega, show (((q + 150).toNat : Nat) : Int) - 150 = q by omega]
/-- plain, positive, its exponent in between -/
def LG (lo hi : Nat) (x : UInt32) : Prop := ∃ E T, lo ≤ E ∧ E ≤ hi ∧ T < 8388608 ∧ x = fE E T
theorem LG.mono {lo hi lo2 hi2 : Nat} {x : UInt32} (h : LG lo hi x) (h1 : lo2 ≤ lo) (h2 : hi ≤ hi2) : LG lo2 hi2 x := by
  obtain ⟨E, T, a, b, c, d⟩ := h
  exact ⟨E, T, by omega, by omega, c, d⟩
theorem fE_nn {E T : Nat} (h2 : E ≤ 254) (hT : T < 8388608) : fE E T &&& 0x7fffffff ≤ 0x7f800000 := by
  rw [UInt32.le_iff_toNat_le, UInt32.toNat_and, fE_n h2 hT]
  show (E * 8388608 + T) &&& 2147483647 ≤ 2139095040
  have := Nat.and_le_left (n := E * 8388608 + T) (m := 2147483647)
  omega
theorem fnn_E {α : Type} {E T : Nat} (h2 : E ≤ 254) (hT : T < 8388608) (k : UInt32 → Option α) : fnn (fE E T) k = k (fE E T) := by
  unfold fnn; rw [if_pos (fE_nn h2 hT)]
theorem f_sgn (c : Nat) : FP.Core.signed false c = (c : Int) := rfl
theorem f_sumE (c d : Nat) (q r : Int) : FP.Core.exactSum (.fin false c q) (.fin false d r) = .fin (if ((c * 2 ^ (q - min q r).toNat : Nat) : Int) + ((d * 2 ^ (r - min q r).toNat : Nat) : Int) = 0 then false && false else decide (((c * 2 ^ (q - min q r).toNat : Nat) : Int) + ((d * 2 ^ (r - min q r).toNat : Nat) : Int) < 0)) (((c * 2 ^ (q - min q r).toNat : Nat) : Int) + ((d * 2 ^ (r - min q r).toNat : Nat) : Int)).natAbs (min q r) := rfl
theorem fadd_0 {E T : Nat} (h1 : 1 ≤ E) (h2 : E ≤ 254) (hT : T < 8388608) : FP.fadd FP.fconst0 (fE E T) = fE E T := by
  show UInt32.ofNat (FP.Core.encode FP.Core.b32 (FP.Core.round FP.Core.b32 (FP.Core.exactSum (FP.Core.decode FP.Core.b32 0) (FP.Core.decode FP.Core.b32 (fE E T).toNat)))) = fE E T
  rw [fE_dec h1 h2 hT, show FP.Core.decode FP.Core.b32 0 = .fin false 0 (-149) from rfl]
  rw [f_sumE, show min (-149 : Int) ((E : Int) - 150) = -149 by omega, show ((E : Int) - 150 - -149).toNat = E - 1 by omega, Nat.zero_mul]
  have h0 : 0 < 2 ^ (E - 1) := Nat.pow_pos (by omega)
  have hpos : 0 < (8388608 + T) * 2 ^ (E - 1) := Nat.mul_pos (by omega) h0
  rw [if_neg (by omega), decide_eq_false (by omega), show (((0 : Nat) : Int) + (((8388608 + T) * 2 ^ (E - 1) : Nat) : Int)).natAbs = (8388608 + T) * 2 ^ (E - 1) by omega]
  show UInt32.ofNat (FP.Core.encode FP.Core.b32 (FP.Core.roundRatio FP.Core.b32 false ((8388608 + T) * 2 ^ (E - 1)) 1 (-149))) = fE E T
  rw [f_exact (by omega) (by omega) (by omega) (by omega), show ((E - 1 : Nat) : Int) + -149 = (E : Int) - 150 by omega, f_enc h1 hT]
  rfl
theorem fadd_E {E T E2 T2 : Nat} (h1 : 1 ≤ E) (h2 : E ≤ 240) (hT : T < 8388608) (g1 : 1 ≤ E2) (g2 : E2 ≤ 240) (gT : T2 < 8388608) : LG (max E E2) (max E E2 + 2) (FP.fadd (fE E T) (fE E2 T2)) := by
  show LG _ _ (UInt32.ofNat (FP.Core.encode FP.Core.b32 (FP.Core.round FP.Core.b32 (FP.Core.exactSum (FP.Core.decode FP.Core.b32 (fE E T).toNat) (FP.Core.decode FP.Core.b32 (fE E2 T2).toNat)))))
  rw [fE_dec h1 (by omega) hT, fE_dec g1 (by omega) gT]
  rw [f_sumE]
  obtain ⟨D, hD⟩ : ∃ D, D = max E E2 - min E E2 := ⟨_, rfl⟩
  obtain ⟨a, ha⟩ : ∃ a, a = ((E : Int) - 150 - min ((E : Int) - 150) ((E2 : Int) - 150)).toNat := ⟨_, rfl⟩
  obtain ⟨b, hb⟩ : ∃ b, b = ((E2 : Int) - 150 - min ((E : Int) - 150) ((E2 : Int) - 150)).toNat := ⟨_, rfl⟩
  rw [← ha, ← hb]
  have ab : a ≤ D ∧ b ≤ D ∧ (a = D ∨ b = D) := by omega
  have p1 := Nat.pow_le_pow_right (show 0 < 2 by omega) ab.1
  have p2 := Nat.pow_le_pow_right (show 0 < 2 by omega) ab.2.1
  have pD : 0 < 2 ^ D := Nat.pow_pos (by omega)
  have pa : 0 < 2 ^ a := Nat.pow_pos (by omega)
  have pb : 0 < 2 ^ b := Nat.pow_pos (by omega)
  have m1 : (8388608 + T) * 2 ^ a ≤ 16777215 * 2 ^ D := Nat.mul_le_mul (by omega) p1
  have m2 : (8388608 + T2) * 2 ^ b ≤ 16777215 * 2 ^ D := Nat.mul_le_mul (by omega) p2
  have m3 : 8388608 * 2 ^ a ≤ (8388608 + T) * 2 ^ a := Nat.mul_le_mul_right _ (by omega)
  have m4 : 8388608 * 2 ^ b ≤ (8388608 + T2) * 2 ^ b := Nat.mul_le_mul_right _ (by omega)
  obtain ⟨u, hu⟩ : ∃ u, u = (8388608 + T) * 2 ^ a := ⟨_, rfl⟩
  obtain ⟨v, hv⟩ : ∃ v, v = (8388608 + T2) * 2 ^ b := ⟨_, rfl⟩
  rw [← hu] at m1 m3 ⊢
  rw [← hv] at m2 m4 ⊢
  have lo : 8388608 * 2 ^ D ≤ u + v := by
    rcases ab.2.2 with e | e
    · rw [e] at m3; omega
    · rw [e] at m4; omega
  rw [if_neg (by omega), decide_eq_false (by omega), show ((u : Int) + (v : Int)).natAbs = u + v by omega]
  show LG _ _ (UInt32.ofNat (FP.Core.encode FP.Core.b32 (FP.Core.roundRatio FP.Core.b32 false (u + v) 1 (min ((E : Int) - 150) ((E2 : Int) - 150)))))
  have fin : ∀ s : Nat, (s = D ∨ s = D + 1) → 8388608 * 2 ^ s ≤ u + v → u + v < 16777216 * 2 ^ s → LG (max E E2) (max E E2 + 2) (UInt32.ofNat (FP.Core.encode FP.Core.b32 (FP.Core.roundRatio FP.Core.b32 false (u + v) 1 (min ((E : Int) - 150) ((E2 : Int) - 150))))) := by
    intro s hs l1 l2
    obtain ⟨c, q, e1, e2, e3, e4, e5⟩ := f_big (e := min ((E : Int) - 150) ((E2 : Int) - 150)) l1 l2 (by omega) (by omega)
    obtain ⟨E3, T3, k1, k2, k3, k4, k5⟩ := f_back e2 e3 (q := q) (by omega)
    rw [e1, k5]
    exact ⟨E3, T3, by omega, by omega, k3, rfl⟩
  by_cases c : u + v < 16777216 * 2 ^ D
  · exact fin D (Or.inl rfl) lo c
  · refine fin (D + 1) (Or.inr rfl) ?_ ?_
    · rw [Nat.pow_succ]; omega
    · rw [Nat.pow_succ]; omega
