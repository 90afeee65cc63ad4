/-! STAGE B, 47: shares are no NaN -/
theorem dec_ok {n : Nat} (h : n ≤ 2139095040) : FP.Core.decode FP.Core.b32 n = .inf false ∨ ∃ c q, FP.Core.decode FP.Core.b32 n = .fin false c q := by
  unfold FP.Core.decode FP.Core.fieldE FP.Core.fieldT FP.Core.fieldS
  rw [k_tails, k_exps, k_qmin]
  by_cases e : n / 8388608 = 255
  · have : n = 2139095040 := by omega
    subst this
    exact Or.inl rfl
  · rw [show n / 8388608 % 256 = n / 8388608 by omega, show n / 8388608 / 256 % 2 = 0 by omega, if_neg (by omega)]
    refine Or.inr ?_
    split
    · exact ⟨_, _, rfl⟩
    · exact ⟨_, _, rfl⟩
theorem rr32 (num den : Nat) (e : Int) : FP.Core.encode FP.Core.b32 (FP.Core.roundRatio FP.Core.b32 false num den e) ≤ 2139095040 := by
  have enc : ∀ c q, c < 16777216 → (-149 : Int) ≤ q → q ≤ 104 → FP.Core.encode FP.Core.b32 (.fin false c q) ≤ 2139095040 := by
    intro c q hc h1 h2
    show (if c < FP.Core.b32.tails then FP.Core.assemble FP.Core.b32 false 0 c else FP.Core.assemble FP.Core.b32 false ((q - FP.Core.b32.qmin).toNat + 1) (c - FP.Core.b32.tails)) ≤ _
    unfold FP.Core.assemble
    rw [k_tails, k_exps, k_qmin, show Bool.toNat false = 0 from rfl]
    split <;> omega
  have bnd : ∀ c q, c < 16777216 → (-149 : Int) ≤ q → FP.Core.encode FP.Core.b32 (FP.Core.bound FP.Core.b32 false c q) ≤ 2139095040 := by
    intro c q hc h1
    unfold FP.Core.bound
    rw [k_qmax]
    split
    · rename_i h2
      exact enc c q hc h1 h2
    · exact (by decide : FP.Core.encode FP.Core.b32 (.inf false) ≤ 2139095040)
  unfold FP.Core.roundRatio
  split
  · exact (by decide : FP.Core.encode FP.Core.b32 (.fin false 0 FP.Core.b32.qmin) ≤ 2139095040)
  · unfold FP.Core.roundAt FP.Core.settle
    have hq : (-149 : Int) ≤ FP.Core.quantum FP.Core.b32 num den e := by
      unfold FP.Core.quantum; rw [k_qmin]; omega
    rw [k_p, k_tails]
    split
    · rename_i h; exact bnd _ _ h hq
    · exact bnd _ _ (by omega) (by omega)
theorem k64t : FP.Core.b64.tails = 4503599627370496 := rfl
theorem k64x : FP.Core.b64.exps = 2048 := rfl
theorem k64q : FP.Core.b64.qmin = -1074 := rfl
theorem k64m : FP.Core.b64.qmax = 971 := rfl
theorem k64p : (2 : Nat) ^ FP.Core.b64.p = 9007199254740992 := rfl
theorem rr64 (num den : Nat) (e : Int) : FP.Core.encode FP.Core.b64 (FP.Core.roundRatio FP.Core.b64 false num den e) ≤ 9218868437227405312 := by
  have enc : ∀ c q, c < 9007199254740992 → (-1074 : Int) ≤ q → q ≤ 971 → FP.Core.encode FP.Core.b64 (.fin false c q) ≤ 9218868437227405312 := by
    intro c q hc h1 h2
    show (if c < FP.Core.b64.tails then FP.Core.assemble FP.Core.b64 false 0 c else FP.Core.assemble FP.Core.b64 false ((q - FP.Core.b64.qmin).toNat + 1) (c - FP.Core.b64.tails)) ≤ _
    unfold FP.Core.assemble
    rw [k64t, k64x, k64q, show Bool.toNat false = 0 from rfl]
    split <;> omega
  have bnd : ∀ c q, c < 9007199254740992 → (-1074 : Int) ≤ q → FP.Core.encode FP.Core.b64 (FP.Core.bound FP.Core.b64 false c q) ≤ 9218868437227405312 := by
    intro c q hc h1
    unfold FP.Core.bound
    rw [k64m]
    split
    · rename_i h2
      exact enc c q hc h1 h2
    · exact (by decide : FP.Core.encode FP.Core.b64 (.inf false) ≤ 9218868437227405312)
  unfold FP.Core.roundRatio
  split
  · exact (by decide : FP.Core.encode FP.Core.b64 (.fin false 0 FP.Core.b64.qmin) ≤ 9218868437227405312)
  · unfold FP.Core.roundAt FP.Core.settle
    have hq : (-1074 : Int) ≤ FP.Core.quantum FP.Core.b64 num den e := by
      unfold FP.Core.quantum; rw [k64q]; omega
    rw [k64p, k64t]
    split
    · rename_i h; exact bnd _ _ h hq
    · exact bnd _ _ (by omega) (by omega)
theorem fnn_le {α : Type} {x : UInt32} (h : x.toNat ≤ 2139095040) (k : UInt32 → Option α) : fnn x k = k x := by
  have : x &&& 0x7fffffff ≤ 0x7f800000 := by
    rw [UInt32.le_iff_toNat_le, UInt32.toNat_and]
    show x.toNat &&& 2147483647 ≤ 2139095040
    have := Nat.and_le_left (n := x.toNat) (m := 2147483647)
    omega
  unfold fnn; rw [if_pos this]
theorem dnn_le {α : Type} {x : UInt64} (h : x.toNat ≤ 9218868437227405312) (k : UInt64 → Option α) : dnn x k = k x := by
  have : x &&& 0x7fffffffffffffff ≤ 0x7ff0000000000000 := by
    rw [UInt64.le_iff_toNat_le, UInt64.toNat_and]
    show x.toNat &&& 9223372036854775807 ≤ 9218868437227405312
    have := Nat.and_le_left (n := x.toNat) (m := 9223372036854775807)
    omega
  unfold dnn; rw [if_pos this]
theorem of32 {n : Nat} (h : n ≤ 2139095040) : (UInt32.ofNat n).toNat ≤ 2139095040 := by
  rw [UInt32.toNat_ofNat_of_lt' (show n < 4294967296 by omega)]; exact h
theorem of64 {n : Nat} (h : n ≤ 9218868437227405312) : (UInt64.ofNat n).toNat ≤ 9218868437227405312 := by
  rw [UInt64.toNat_ofNat_of_lt' (show n < 18446744073709551616 by omega)]; exact h
theorem i2f_le {a : Nat} (h : a < 2147483648) : (FP.i2f (iI (a : Int))).toNat ≤ 2139095040 := by
  show (UInt32.ofNat (FP.Core.encode FP.Core.b32 (FP.Core.round FP.Core.b32 (FP.Core.ofInt (iI (a : Int)).toInt)))).toNat ≤ _
  rw [iI_toInt (by omega) (by omega)]
  have e : FP.Core.ofInt (a : Int) = .fin false a 0 := by unfold FP.Core.ofInt; rw [decide_eq_false (by omega)]; rfl
  rw [e]
  exact of32 (rr32 a 1 0)
theorem fdiv_le {x : UInt32} (h : x.toNat ≤ 2139095040) : (FP.fdiv x 1166016512).toNat ≤ 2139095040 := by
  show (UInt32.ofNat (FP.Core.encode FP.Core.b32 (FP.Core.quotient FP.Core.b32 (FP.Core.decode FP.Core.b32 x.toNat) (FP.Core.decode FP.Core.b32 (1166016512 : UInt32).toNat)))).toNat ≤ _
  rw [show FP.Core.decode FP.Core.b32 (1166016512 : UInt32).toNat = .fin false 8388608 (-11) from by decide]
  refine of32 ?_
  rcases dec_ok h with e | ⟨c, q, e⟩
  · rw [e]; exact (by decide : FP.Core.encode FP.Core.b32 (.inf false) ≤ 2139095040)
  · rw [e, f_quoE, if_neg (by decide)]; exact rr32 _ _ _
theorem f2d_le {x : UInt32} (h : x.toNat ≤ 2139095040) : (FP.f2d x).toNat ≤ 9218868437227405312 := by
  have hn : FP.Core.fIsNaN x = false := by
    show decide (FP.Core.decode FP.Core.b32 x.toNat = .nan) = false
    rcases dec_ok h with e | ⟨c, q, e⟩
    · rw [e]; exact decide_eq_false (fun h => by cases h)
    · rw [e]; exact decide_eq_false (fun h => by cases h)
  unfold FP.f2d
  rw [if_neg (by rw [hn]; decide)]
  show (UInt64.ofNat (FP.Core.encode FP.Core.b64 (FP.Core.round FP.Core.b64 (FP.Core.decode FP.Core.b32 x.toNat)))).toNat ≤ _
  refine of64 ?_
  rcases dec_ok h with e | ⟨c, q, e⟩
  · rw [e]; exact (by decide : FP.Core.encode FP.Core.b64 (.inf false) ≤ 9218868437227405312)
  · rw [e]; exact rr64 c 1 q
/-- a share -/
def shr (a : Nat) : UInt32 := FP.fdiv (FP.i2f (iI (a : Int))) 1166016512
theorem shr_nn {α : Type} {a : Nat} (h : a < 2147483648) (k : UInt32 → Option α) : fnn (shr a) k = k (shr a) := fnn_le (fdiv_le (i2f_le h)) k
theorem shr_dd {α : Type} {a : Nat} (h : a < 2147483648) (k : UInt64 → Option α) : dnn (FP.f2d (shr a)) k = k (FP.f2d (shr a)) := dnn_le (f2d_le (fdiv_le (i2f_le h))) k
theorem m1_dd {α : Type} (k : UInt64 → Option α) : dnn (FP.f2d 3212836864) k = k (FP.f2d 3212836864) := by
  unfold dnn; rw [if_pos (by decide +kernel)]
/-! the loudest -/
theorem f_ordM (c d : Nat) (q r : Int) : FP.Core.order (.fin false c q) (.fin true d r) = some (compare ((c * 2 ^ (q - min q r).toNat : Nat) : Int) (-((d * 2 ^ (r - min q r).toNat : Nat) : Int))) := rfl
theorem cmp_m1 {x : UInt32} (h : x = FP.fconst0 ∨ ∃ lo hi, 1 ≤ lo ∧ hi ≤ 254 ∧ LG lo hi x) : FP.fcmp x 3212836864 = some .gt := by
  have hd : ∃ c q, FP.Core.decode FP.Core.b32 x.toNat = .fin false c q := by
    rcases h with h | ⟨lo, hi, h1, h2, E, T, h3, h4, h5, h6⟩
    · rw [h]; exact ⟨0, -149, rfl⟩
    · rw [h6, fE_dec (by omega) (by omega) h5]; exact ⟨_, _, rfl⟩
  obtain ⟨c, q, e⟩ := hd
  show FP.Core.order (FP.Core.decode FP.Core.b32 x.toNat) (FP.Core.decode FP.Core.b32 (3212836864 : UInt32).toNat) = _
  rw [e, show FP.Core.decode FP.Core.b32 (3212836864 : UInt32).toNat = .fin true 8388608 (-23) from by decide, f_ordM]
  have h0 : 0 < 2 ^ ((-23 : Int) - min q (-23)).toNat := Nat.pow_pos (by omega)
  rw [cmp_gt (by omega)]
