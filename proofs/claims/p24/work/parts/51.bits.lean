/-! STAGE B, 19: the bits of a loudness -/
theorem c2_E : FP.fconst2 = fE 128 0 := rfl
theorem c1_E : FP.fconst1 = fE 127 0 := rfl
theorem c23_E : (1258291200 : UInt32) = fE 150 0 := rfl
theorem c12_E : (1166016512 : UInt32) = fE 139 0 := rfl
theorem f_ordE (c d : Nat) (q r : Int) : FP.Core.order (.fin false c q) (.fin false d r) = some (compare ((c * 2 ^ (q - min q r).toNat : Nat) : Int) ((d * 2 ^ (r - min q r).toNat : Nat) : Int)) := rfl
theorem cmp_lt {a b : Int} (h : a < b) : compare a b = Ordering.lt := by
  show (if a < b then Ordering.lt else if a = b then Ordering.eq else Ordering.gt) = _
  rw [if_pos h]
theorem cmp_ge {a b : Int} (h : b ≤ a) : compare a b ≠ Ordering.lt := by
  show (if a < b then Ordering.lt else if a = b then Ordering.eq else Ordering.gt) ≠ _
  rw [if_neg (by omega)]
  split <;> simp
theorem cmp_gt {a b : Int} (h : b < a) : compare a b = Ordering.gt := by
  show (if a < b then Ordering.lt else if a = b then Ordering.eq else Ordering.gt) = _
  rw [if_neg (by omega), if_neg (by omega)]
theorem cmp_self (a : Int) : compare a a = Ordering.eq := by
  show (if a < a then Ordering.lt else if a = a then Ordering.eq else Ordering.gt) = _
  rw [if_neg (by omega), if_pos rfl]
theorem fcmp_lt {E T E2 : Nat} (h1 : 1 ≤ E) (hT : T < 8388608) (h : E < E2) (h2 : E2 ≤ 254) : FP.fcmp (fE E T) (fE E2 0) = some .lt := by
  show FP.Core.order (FP.Core.decode FP.Core.b32 (fE E T).toNat) (FP.Core.decode FP.Core.b32 (fE E2 0).toNat) = _
  rw [fE_dec h1 (by omega) hT, fE_dec (by omega) h2 (by omega), f_ordE, show min ((E : Int) - 150) ((E2 : Int) - 150) = (E : Int) - 150 by omega, show ((E : Int) - 150 - ((E : Int) - 150)).toNat = 0 by omega]
  obtain ⟨s, hs⟩ : ∃ s, ((E2 : Int) - 150 - ((E : Int) - 150)).toNat = s + 1 := ⟨E2 - E - 1, by omega⟩
  have hp : 0 < 2 ^ s := Nat.pow_pos (by omega)
  rw [hs, Nat.pow_succ, Nat.pow_zero, cmp_lt]
  omega
theorem fcmp_ge {E T E2 : Nat} (h1 : 1 ≤ E2) (hT : T < 8388608) (h : E2 ≤ E) (h2 : E ≤ 254) : ∃ o, FP.fcmp (fE E T) (fE E2 0) = some o ∧ o ≠ .lt := by
  show ∃ o, FP.Core.order (FP.Core.decode FP.Core.b32 (fE E T).toNat) (FP.Core.decode FP.Core.b32 (fE E2 0).toNat) = _ ∧ _
  rw [fE_dec (by omega) h2 hT, fE_dec h1 (by omega) (by omega), f_ordE, show min ((E : Int) - 150) ((E2 : Int) - 150) = (E2 : Int) - 150 by omega, show ((E2 : Int) - 150 - ((E2 : Int) - 150)).toNat = 0 by omega]
  refine ⟨_, rfl, cmp_ge ?_⟩
  have hp : 0 < 2 ^ ((E : Int) - 150 - ((E2 : Int) - 150)).toNat := Nat.pow_pos (by omega)
  have := Nat.mul_le_mul (show 8388608 ≤ 8388608 + T by omega) (show 1 ≤ 2 ^ ((E : Int) - 150 - ((E2 : Int) - 150)).toNat from hp)
  rw [Nat.pow_zero]
  omega
theorem fcmp_self {E T : Nat} (h1 : 1 ≤ E) (hT : T < 8388608) (h2 : E ≤ 254) : FP.fcmp (fE E T) (fE E T) = some .eq := by
  show FP.Core.order (FP.Core.decode FP.Core.b32 (fE E T).toNat) (FP.Core.decode FP.Core.b32 (fE E T).toNat) = _
  rw [fE_dec h1 h2 hT, f_ordE, cmp_self]
theorem fcmp_pos {E T : Nat} (h1 : 1 ≤ E) (hT : T < 8388608) (h2 : E ≤ 254) : FP.fcmp (fE E T) FP.fconst0 = some .gt := by
  show FP.Core.order (FP.Core.decode FP.Core.b32 (fE E T).toNat) (FP.Core.decode FP.Core.b32 0) = _
  rw [fE_dec h1 h2 hT, show FP.Core.decode FP.Core.b32 0 = .fin false 0 (-149) from rfl, f_ordE, Nat.zero_mul]
  have hp : 0 < 2 ^ ((E : Int) - 150 - min ((E : Int) - 150) (-149)).toNat := Nat.pow_pos (by omega)
  have := Nat.mul_pos (show 0 < 8388608 + T by omega) hp
  rw [cmp_gt (by omega)]
theorem f_quoE (c d : Nat) (q r : Int) : FP.Core.quotient FP.Core.b32 (.fin false c q) (.fin false d r) = if d = 0 then (if c = 0 then .nan else .inf false) else FP.Core.roundRatio FP.Core.b32 false c d (q - r) := rfl
theorem fdiv_E {E T E2 : Nat} (h1 : 1 ≤ E) (h2 : E ≤ 254) (hT : T < 8388608) (g1 : 1 ≤ E2) (g2 : E2 ≤ 254) (l1 : 1 ≤ (E : Int) + 127 - E2) (l2 : (E : Int) + 127 - E2 ≤ 254) : FP.fdiv (fE E T) (fE E2 0) = fE (E + 127 - E2) T := by
  show UInt32.ofNat (FP.Core.encode FP.Core.b32 (FP.Core.quotient FP.Core.b32 (FP.Core.decode FP.Core.b32 (fE E T).toNat) (FP.Core.decode FP.Core.b32 (fE E2 0).toNat))) = _
  rw [fE_dec h1 h2 hT, fE_dec g1 g2 (by omega)]
  rw [f_quoE, if_neg (by omega)]
  have hl : FP.Core.leading (8388608 + T) (8388608 + 0) = 0 := by
    have e : (8388608 + T).log2 = 23 := by
      have a : 23 ≤ (8388608 + T).log2 := (Nat.le_log2 (by omega)).mpr (by omega)
      have b : (8388608 + T).log2 < 24 := (Nat.log2_lt (by omega)).mpr (by omega)
      omega
    unfold FP.Core.leading
    rw [e, show Nat.log2 (8388608 + 0) = 23 from rfl]
    show (if (8388608 + 0) * 2 ^ (((23 : Nat) : Int) - ((23 : Nat) : Int)).toNat ≤ (8388608 + T) * 2 ^ (-(((23 : Nat) : Int) - ((23 : Nat) : Int))).toNat then ((23 : Nat) : Int) - ((23 : Nat) : Int) else _) = 0
    rw [show (((23 : Nat) : Int) - ((23 : Nat) : Int)) = 0 by omega, show (0 : Int).toNat = 0 from rfl, show (-(0 : Int)).toNat = 0 from rfl, if_pos (by omega)]
  unfold FP.Core.roundRatio FP.Core.roundAt FP.Core.quantum FP.Core.unitsNum FP.Core.unitsDen
  rw [if_neg (by omega), hl, k_qmin, show ((FP.Core.b32.p : Nat) : Int) - 1 = 23 from rfl, show max (-149 : Int) (0 + ((E : Int) - 150 - ((E2 : Int) - 150)) - 23) = (E : Int) - E2 - 23 by omega]
  rw [show ((E : Int) - 150 - ((E2 : Int) - 150) - ((E : Int) - E2 - 23)).toNat = 23 by omega, show ((E : Int) - E2 - 23 - ((E : Int) - 150 - ((E2 : Int) - 150))).toNat = 0 by omega]
  rw [show (8388608 + 0) * 2 ^ 0 = 2 ^ 23 from rfl, f_nearE (Nat.pow_pos (by omega)), f_settle (by omega) (by omega)]
  rw [show (E : Int) - E2 - 23 = ((E + 127 - E2 : Nat) : Int) - 150 by omega, f_enc (by omega) hT]
  rfl
theorem f_rndE (c : Nat) (q : Int) : FP.Core.round FP.Core.b32 (.fin false c q) = FP.Core.roundRatio FP.Core.b32 false c 1 q := rfl
theorem fmul_E {E T E2 : Nat} (h1 : 1 ≤ E) (h2 : E ≤ 254) (hT : T < 8388608) (g1 : 1 ≤ E2) (g2 : E2 ≤ 254) (l1 : 1 ≤ (E : Int) + E2 - 127) (l2 : (E : Int) + E2 - 127 ≤ 254) : FP.fmul (fE E T) (fE E2 0) = fE (E + E2 - 127) T := by
  show UInt32.ofNat (FP.Core.encode FP.Core.b32 (FP.Core.round FP.Core.b32 (FP.Core.exactProduct (FP.Core.decode FP.Core.b32 (fE E T).toNat) (FP.Core.decode FP.Core.b32 (fE E2 0).toNat)))) = _
  rw [fE_dec h1 h2 hT, fE_dec g1 g2 (by omega)]
  show UInt32.ofNat (FP.Core.encode FP.Core.b32 (FP.Core.round FP.Core.b32 (.fin false ((8388608 + T) * (8388608 + 0)) ((E : Int) - 150 + ((E2 : Int) - 150))))) = _
  rw [f_rndE, show 8388608 + 0 = 2 ^ 23 from rfl, f_exact (by omega) (by omega) (by omega) (by omega), show ((23 : Nat) : Int) + ((E : Int) - 150 + ((E2 : Int) - 150)) = ((E + E2 - 127 : Nat) : Int) - 150 by omega, f_enc (by omega) hT]
  rfl
theorem f_subE (c d : Nat) (q r : Int) : FP.Core.exactSum (.fin false c q) (FP.Core.negate (.fin false d r)) = .fin (if ((c * 2 ^ (q - min q r).toNat : Nat) : Int) + -((d * 2 ^ (r - min q r).toNat : Nat) : Int) = 0 then false && true else decide (((c * 2 ^ (q - min q r).toNat : Nat) : Int) + -((d * 2 ^ (r - min q r).toNat : Nat) : Int) < 0)) (((c * 2 ^ (q - min q r).toNat : Nat) : Int) + -((d * 2 ^ (r - min q r).toNat : Nat) : Int)).natAbs (min q r) := rfl
/-- a part between 1 and 2, less 1, times 2 to the 23rd -/
theorem f_frac {T : Nat} (hT : T < 8388608) : fnn (FP.fsub (fE 127 T) FP.fconst1) (fun x => fnn (FP.fmul x 1258291200) fun y => some (FP.f2i y)) = some (iI (T : Int)) := by
  have e : FP.fsub (fE 127 T) FP.fconst1 = UInt32.ofNat (FP.Core.encode FP.Core.b32 (FP.Core.roundRatio FP.Core.b32 false T 1 (-23))) := by
    show UInt32.ofNat (FP.Core.encode FP.Core.b32 (FP.Core.round FP.Core.b32 (FP.Core.exactSum (FP.Core.decode FP.Core.b32 (fE 127 T).toNat) (FP.Core.negate (FP.Core.decode FP.Core.b32 (fE 127 0).toNat))))) = _
    rw [fE_dec (by omega) (by omega) hT, fE_dec (by omega) (by omega) (by omega), f_subE]
    rw [show min (((127 : Nat) : Int) - 150) (((127 : Nat) : Int) - 150) = -23 by omega, show (((127 : Nat) : Int) - 150 - -23).toNat = 0 by omega, Nat.pow_zero]
    rw [show (((8388608 + T) * 1 : Nat) : Int) + -(((8388608 + 0) * 1 : Nat) : Int) = (T : Int) by omega, show ((T : Int)).natAbs = T by omega, decide_eq_false (by omega)]
    have : (if (T : Int) = 0 then false && true else false) = false := by split <;> rfl
    rw [this, f_rndE]
  rw [e]
  by_cases h0 : T = 0
  · subst h0
    decide +kernel
  · have hl2 : T.log2 < 23 := (Nat.log2_lt h0).mpr hT
    obtain ⟨l, hl⟩ : ∃ l, l = T.log2 := ⟨_, rfl⟩
    have a1 : 2 ^ l ≤ T := (Nat.le_log2 h0).mp (by omega)
    have a2 : T < 2 ^ (l + 1) := (Nat.log2_lt h0).mp (by omega)
    rw [← hl] at hl2
    have hp : 0 < 2 ^ (23 - l) := Nat.pow_pos (by omega)
    have b1 : 8388608 ≤ T * 2 ^ (23 - l) := by
      have := Nat.mul_le_mul_right (2 ^ (23 - l)) a1
      rw [← Nat.pow_add, show l + (23 - l) = 23 by omega] at this
      exact this
    have b2 : T * 2 ^ (23 - l) < 16777216 := by
      have := Nat.mul_lt_mul_of_pos_right a2 hp
      rw [← Nat.pow_add, show l + 1 + (23 - l) = 24 by omega] at this
      exact this
    rw [f_rr a1 a2 (by omega), show l - 23 = 0 by omega, Nat.pow_zero, f_near1, f_settle b2 (by omega)]
    obtain ⟨E3, T3, k1, k2, k3, k4, k5⟩ := f_back b1 b2 (q := (l : Int) + -23 - 23) (by omega)
    rw [k5]
    show fnn (fE E3 T3) (fun x => fnn (FP.fmul x (fE 150 0)) fun y => some (FP.f2i y)) = _
    rw [fnn_E (by omega) k3, fmul_E (by omega) (by omega) k3 (by omega) (by omega) (by omega) (by omega), fnn_E (by omega) k3]
    congr 1
    show FP.Core.toI (FP.Core.decode FP.Core.b32 (fE (E3 + 150 - 127) T3).toNat) = _
    rw [fE_dec (by omega) (by omega) k3, ← k4]
    show Int32.ofInt (max (-2 ^ 31) (min (2 ^ 31 - 1) (((T * 2 ^ (23 - l) * 2 ^ (((E3 + 150 - 127 : Nat) : Int) - 150).toNat / 2 ^ (-(((E3 + 150 - 127 : Nat) : Int) - 150)).toNat : Nat) : Int)))) = iI (T : Int)
    rw [show (((E3 + 150 - 127 : Nat) : Int) - 150).toNat = 0 by omega, show (-(((E3 + 150 - 127 : Nat) : Int) - 150)).toNat = 23 - l by omega, Nat.pow_zero, Nat.mul_one, Nat.mul_div_cancel _ hp]
    unfold iI
    congr 1
    omega
theorem shl23 : ∀ E, E < 255 → (iI ((E : Nat) : Int) <<< ((23 : Int32) &&& 31)) = iI ((E * 8388608 : Nat) : Int) := by decide +kernel
theorem fnn_map {α β : Type} (x : UInt32) (k : UInt32 → Option α) (g : α → β) : (fnn x k).map g = fnn x (fun y => (k y).map g) := by
  unfold fnn; split <;> rfl
theorem bits_end {T e : Nat} (hT : T < 8388608) (he : e < 255) : f5_bitsOf_b67 (fE 127 T) (iI (e : Int)) = some (iI ((e * 8388608 + T : Nat) : Int)) := by
  unfold f5_bitsOf_b67
  have h := f_frac hT
  have h2 := congrArg (fun o => Option.map (fun z => ((iI (e : Int) : Int32) <<< ((23 : Int32) &&& 31)) + z) o) h
  simp only [fnn_map, Option.map_some] at h2
  rw [shl23 e he, iI_add] at h2
  rw [shl23 e he]
  rw [h2]
  congr 2
theorem bits_up {T : Nat} (hT : T < 8388608) : ∀ (m N E e s : Nat), E + m = 127 → m ≤ e → e < 255 → s + m < 127 → m < N → 100 ≤ E → f5_bitsOf_b42 N (fE E T) (iI (e : Int)) (iI (s : Int)) = some (iI (((e - m) * 8388608 + T : Nat) : Int))
  | 0, N, E, e, s, h1, h2, h3, h4, h5, h6 => by
    obtain ⟨N, rfl⟩ : ∃ N', N = N' + 1 := ⟨N - 1, by omega⟩
    have hE : E = 127 := by omega
    subst hE
    obtain ⟨o, k1, k2⟩ := fcmp_ge (E := 127) (T := T) (E2 := 127) (by omega) hT (by omega) (by omega)
    rw [f5_bitsOf_b42, q127, if_neg (by rw [iI_le (by omega) (by omega) (by omega) (by omega)]; omega), c1_E, k1]
    have : (0 : Int32) ≤ Op.cmpValue (some o) CmpOp.g := by
      cases o
      · exact absurd rfl k2
      · decide
      · decide
    rw [if_pos this, bits_end hT h3, Nat.sub_zero]
  | m + 1, N, E, e, s, h1, h2, h3, h4, h5, h6 => by
    obtain ⟨N, rfl⟩ : ∃ N', N = N' + 1 := ⟨N - 1, by omega⟩
    rw [f5_bitsOf_b42, q127, if_neg (by rw [iI_le (by omega) (by omega) (by omega) (by omega)]; omega), c1_E, fcmp_lt (by omega) hT (by omega) (by omega), if_neg (by decide), c2_E, fmul_E (by omega) (by omega) hT (by omega) (by omega) (by omega) (by omega), fnn_E (by omega) hT, iI_m1, iI_add, q1, iI_s, show (e : Int) + -1 = ((e - 1 : Nat) : Int) by omega]
    rw [show E + 128 - 127 = E + 1 by omega, bits_up hT m N (E + 1) (e - 1) (s + 1) (by omega) (by omega) (by omega) (by omega) (by omega) (by omega), show e - 1 - m = e - (m + 1) by omega]
theorem bits_down {T : Nat} (hT : T < 8388608) : ∀ (m N E e s : Nat), E = 127 + m → e + m < 255 → s + m < 127 → m < N → f5_bitsOf_b15 N (fE E T) (iI (e : Int)) (iI (s : Int)) = some (iI (((e + m) * 8388608 + T : Nat) : Int))
  | 0, N, E, e, s, h1, h3, h4, h5 => by
    obtain ⟨N, rfl⟩ : ∃ N', N = N' + 1 := ⟨N - 1, by omega⟩
    rw [f5_bitsOf_b15, q127, if_neg (by rw [iI_le (by omega) (by omega) (by omega) (by omega)]; omega), c2_E, fcmp_lt (by omega) hT (by omega) (by omega), if_pos (by decide)]
    unfold f5_bitsOf_b40
    have := bits_up hT 0 fuelN E e 0 (by omega) (by omega) (by omega) (by omega) (fuel_lt (by omega)) (by omega)
    rw [Nat.sub_zero] at this
    rw [Nat.add_zero]
    exact this
  | m + 1, N, E, e, s, h1, h3, h4, h5 => by
    obtain ⟨N, rfl⟩ : ∃ N', N = N' + 1 := ⟨N - 1, by omega⟩
    obtain ⟨o, k1, k2⟩ := fcmp_ge (E := E) (T := T) (E2 := 128) (by omega) hT (by omega) (by omega)
    have : ¬ (Op.cmpValue (some o) CmpOp.l : Int32) < 0 := by
      cases o
      · exact absurd rfl k2
      · decide
      · decide
    rw [f5_bitsOf_b15, q127, if_neg (by rw [iI_le (by omega) (by omega) (by omega) (by omega)]; omega), c2_E, k1, if_neg this, fdiv_E (by omega) (by omega) hT (by omega) (by omega) (by omega) (by omega), fnn_E (by omega) hT, q1, iI_s, iI_s]
    rw [show E + 127 - 128 = 127 + m by omega, bits_down hT m N (127 + m) (e + 1) (s + 1) rfl (by omega) (by omega) (by omega), show e + 1 + m = e + (m + 1) by omega]
theorem r_bitsOf {E T : Nat} (h1 : 100 ≤ E) (h2 : E ≤ 250) (hT : T < 8388608) : f5_bitsOf (fE E T) = some (iI ((E * 8388608 + T : Nat) : Int)) := by
  unfold f5_bitsOf
  rw [fcmp_pos (by omega) hT (by omega), if_pos (by decide), q127]
  by_cases c : 127 ≤ E
  · have := bits_down hT (E - 127) fuelN E 127 0 (by omega) (by omega) (by omega) (fuel_lt (by omega))
    rw [show 127 + (E - 127) = E by omega] at this
    exact this
  · rw [show fuelN = 99999 + 1 from rfl, f5_bitsOf_b15, q127, if_neg (by decide), c2_E, fcmp_lt (by omega) hT (by omega) (by omega), if_pos (by decide)]
    unfold f5_bitsOf_b40
    have := bits_up hT (127 - E) fuelN E 127 0 (by omega) (by omega) (by omega) (by omega) (fuel_lt (by omega)) (by omega)
    rw [show 127 - (127 - E) = E by omega] at this
    exact this
theorem r_bitsOf0 : f5_bitsOf FP.fconst0 = some 0 := by decide +kernel
theorem toI32 (n : Nat) : UInt32.toInt32 (UInt32.ofNat n) = iI (n : Int) := by
  rw [← iI_ofNat]; exact Int32.toBitVec_inj.mp (by simp)
theorem loud_t : ∀ a, a < 32 → ∀ b, b < 32 → 32 * a + b = 0 ∨ 999 < 32 * a + b ∨ (123 ≤ (FP.fdiv (FP.i2f (iI ((32 * a + b : Nat) : Int))) 1092616192).toNat / 8388608 ∧ (FP.fdiv (FP.i2f (iI ((32 * a + b : Nat) : Int))) 1092616192).toNat / 8388608 ≤ 133) := by decide +kernel
theorem loud_E {t : Nat} (h1 : 1 ≤ t) (h2 : t ≤ 999) : LG 123 133 (FP.fdiv (FP.i2f (iI (t : Int))) 1092616192) := by
  rcases loud_t (t / 32) (by omega) (t % 32) (by omega) with h | h | h
  · omega
  · omega
  · rw [show 32 * (t / 32) + t % 32 = t by omega] at h
    obtain ⟨x, hx⟩ : ∃ x, x = FP.fdiv (FP.i2f (iI (t : Int))) 1092616192 := ⟨_, rfl⟩
    rw [← hx] at h ⊢
    refine ⟨x.toNat / 8388608, x.toNat % 8388608, h.1, h.2, Nat.mod_lt _ (by omega), ?_⟩
    unfold fE
    rw [show x.toNat / 8388608 * 8388608 + x.toNat % 8388608 = x.toNat by omega, UInt32.ofNat_toNat]
