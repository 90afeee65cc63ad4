theorem and_lit {n : Nat} (k : Nat) (K : Int32) (hK : K = iI (k : Int)) : iI (n : Int) &&& K = iI ((n &&& k : Nat) : Int) := by rw [hK, and_nI]
theorem ushr_lit {n : Nat} (hn : n < 4294967296) (s : Int32) (k P : Nat) (hP : 2 ^ k = P) (hs : ((s.toUInt32 &&& Int32.toUInt32 31).toBitVec % 32).toNat = k) : ((iI (n : Int)).toUInt32 >>> (Int32.toUInt32 s &&& Int32.toUInt32 31)).toInt32 = iI ((n / P : Nat) : Int) := by
  subst hP
  rw [← iI_nI, ← iI_nI]
  exact pk_ushrN (by omega) s k hs
theorem r_bitCount {m : Nat} (hm : m < 65536) : fJ6_bitCount_0f7a4 (iI (m : Int)) = some (iI (popc m : Int)) := by
  rw [← bcN_p hm]
  unfold fJ6_bitCount_0f7a4
  rw [ushr_lit (by omega) 1 1 2 rfl (by decide), and_lit 1431655765 1431655765 rfl, iI_sub]
  have l1 := Nat.and_le_left (n := m / 2) (m := 1431655765)
  obtain ⟨a, ha⟩ : ∃ a, a = m - ((m / 2) &&& 1431655765) := ⟨_, rfl⟩
  rw [show ((m : Int) - ((m / 2 &&& 1431655765 : Nat) : Int)) = (a : Int) by rw [ha]; omega, nam_r]
  have la : a < 65536 := by omega
  rw [ushr_lit (by omega) 2 2 4 rfl (by decide), and_lit 858993459 858993459 rfl, and_lit 858993459 858993459 rfl, iI_add, nam_r]
  have l2 := Nat.and_le_left (n := a) (m := 858993459)
  have l3 := Nat.and_le_left (n := a / 4) (m := 858993459)
  obtain ⟨b, hb⟩ : ∃ b, b = (a &&& 858993459) + ((a / 4) &&& 858993459) := ⟨_, rfl⟩
  rw [show (((a &&& 858993459 : Nat) : Int) + ((a / 4 &&& 858993459 : Nat) : Int)) = (b : Int) by rw [hb]; omega]
  have lb : b < 131072 := by omega
  rw [ushr_lit (by omega) 4 4 16 rfl (by decide), iI_add, show ((b : Int) + ((b / 16 : Nat) : Int)) = ((b + b / 16 : Nat) : Int) by omega, and_lit 252645135 252645135 rfl, nam_r]
  have l4 := Nat.and_le_left (n := b + b / 16) (m := 252645135)
  obtain ⟨c, hc⟩ : ∃ c, c = (b + b / 16) &&& 252645135 := ⟨_, rfl⟩
  rw [← hc]
  have lc : c < 262144 := by omega
  rw [ushr_lit (by omega) 8 8 256 rfl (by decide), iI_add, show ((c : Int) + ((c / 256 : Nat) : Int)) = ((c + c / 256 : Nat) : Int) by omega, nam_r]
  obtain ⟨d, hd⟩ : ∃ d, d = c + c / 256 := ⟨_, rfl⟩
  rw [← hd]
  have ld : d < 524288 := by omega
  rw [ushr_lit (by omega) 16 16 65536 rfl (by decide), iI_add, show ((d : Int) + ((d / 65536 : Nat) : Int)) = ((d + d / 65536 : Nat) : Int) by omega, nam_r, and_lit 63 63 rfl]
  rw [hd, hc, hb, ha]
  rfl
