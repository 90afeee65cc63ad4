theorem bit_nat (n j : Nat) : n &&& 2 ^ j = 0 ↔ n.testBit j = false := by
  constructor
  · intro h
    have h1 : (n &&& 2 ^ j).testBit j = false := by rw [h]; simp
    rw [Nat.testBit_and] at h1
    simpa using h1
  · intro h
    apply Nat.eq_of_testBit_eq
    intro i
    rw [Nat.testBit_and]
    by_cases hi : j = i
    · subst hi; simp [h]
    · first | (simp [Nat.testBit_two_pow, hi]; done) | (simp [Nat.testBit_two_pow_of_ne hi]; done)
/-- one bit of a long -/
theorem marked_0 {r : Int32} : (if (r : Int32) = 0 then isz (0 : Int32) (some (0 : Int32)) else isz 1 (some 1)) = some (if r = 0 then 0 else 1) := by
  rw [isz_0, isz_1]
  split <;> rfl
theorem r_isMarked {m k : Nat} (hm : m < 65536) (hk : k < 16) : f5_isMarked (iI (m : Int)) (iI (k : Int)) = some (b2i (m.testBit k)) := by
  unfold f5_isMarked f5_isMarked_b14
  rw [mark_t k hk, bnd_s, and_nI, marked_0]
  have e := bit_nat m k
  have h2 := Nat.and_le_left (n := m) (m := 2 ^ k)
  obtain ⟨z, hz⟩ : ∃ z, z = m &&& 2 ^ k := ⟨_, rfl⟩
  rw [← hz] at e h2 ⊢
  have e2 : iI (z : Int) = 0 ↔ z = 0 := by
    rw [iI_0, iI_eq (by omega) (by omega) (by omega) (by omega)]
    omega
  cases h : m.testBit k
  · rw [if_pos (e2.mpr (e.mpr h))]; rfl
  · rw [if_neg (fun q => by rw [e.mp (e2.mp q)] at h; cases h)]; rfl
