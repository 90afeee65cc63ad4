/-! STAGE B, 5: marks (bits), how many, depths -/
def popc (m : Nat) : Nat := ((List.range 16).filter (fun k => m.testBit k)).length
def bcN (m : Nat) : Nat :=
  let a := m - ((m / 2) &&& 1431655765)
  let b := (a &&& 858993459) + ((a / 4) &&& 858993459)
  let c := (b + b / 16) &&& 252645135
  let d := c + c / 256
  let e := d + d / 65536
  e &&& 63
def p8 (a : Nat) : Nat := a - a / 2 - a / 4 - a / 8 - a / 16 - a / 32 - a / 64 - a / 128
theorem and_split (k x y u v : Nat) (hx : x < 2 ^ k) (hu : u < 2 ^ k) : (2 ^ k * y + x) &&& (2 ^ k * v + u) = 2 ^ k * (y &&& v) + (x &&& u) := by
  apply Nat.eq_of_testBit_eq
  intro j
  rw [Nat.testBit_and, Nat.testBit_two_pow_mul_add _ hx, Nat.testBit_two_pow_mul_add _ hu, Nat.testBit_two_pow_mul_add _ (Nat.and_lt_two_pow _ hu)]
  split
  · rw [Nat.testBit_and]
  · rw [Nat.testBit_and]
theorem and8 {x y u v : Nat} (hx : x < 256) (hu : u < 256) : (256 * y + x) &&& (256 * v + u) = 256 * (y &&& v) + (x &&& u) := and_split 8 x y u v hx hu
def bf1 (x : Nat) : Nat := x - ((x / 2) &&& 85)
def bf2 (z : Nat) : Nat := (z &&& 51) + ((z / 4) &&& 51)
theorem bk1 : ∀ x, x < 256 → ∀ t, t < 2 → (x / 2 + 128 * t) &&& 85 = (x / 2) &&& 85 := by decide +kernel
theorem bk2 : ∀ y, y < 256 → (y / 2) &&& 5592405 = (y / 2) &&& 85 := by decide +kernel
theorem bk3 : ∀ y, y < 256 → y &&& 3355443 = y &&& 51 := by decide +kernel
theorem bk4 : ∀ x, x < 256 → ∀ t, t < 4 → (x / 4 + 64 * t) &&& 51 = (x / 4) &&& 51 := by decide +kernel
theorem bk5 : ∀ x, x < 256 → bf1 x < 256 ∧ bf1 x ≤ x ∧ (x / 2) &&& 85 ≤ x := by decide +kernel
theorem bk6 : ∀ x, x < 256 → bf2 (bf1 x) % 16 ≤ 4 ∧ bf2 (bf1 x) / 16 ≤ 4 ∧ bf2 (bf1 x) % 16 + bf2 (bf1 x) / 16 = p8 x ∧ p8 x ≤ 8 := by decide +kernel
theorem bk7 : ∀ n, n < 256 → n &&& 986895 = n % 16 := by decide +kernel
theorem bk8 : ∀ n, n < 256 → n &&& 15 = n % 16 := by decide +kernel
theorem bcN_bytes {x y : Nat} (hx : x < 256) (hy : y < 256) : bcN (256 * y + x) = p8 x + p8 y := by
  have e1 : (256 * y + x) / 2 = 256 * (y / 2) + (x / 2 + 128 * (y % 2)) := by omega
  have e2 : ((256 * y + x) / 2) &&& 1431655765 = 256 * ((y / 2) &&& 85) + ((x / 2) &&& 85) := by
    rw [e1, show 1431655765 = 256 * 5592405 + 85 from rfl, and8 (by omega) (by omega), bk2 y hy, bk1 x hx _ (by omega)]
  have k1 := bk5 x hx
  have k2 := bk5 y hy
  obtain ⟨x1, hx1⟩ : ∃ x1, x1 = bf1 x := ⟨_, rfl⟩
  obtain ⟨y1, hy1⟩ : ∃ y1, y1 = bf1 y := ⟨_, rfl⟩
  have e3 : (256 * y + x) - (((256 * y + x) / 2) &&& 1431655765) = 256 * y1 + x1 := by
    rw [e2, hx1, hy1]; unfold bf1; omega
  have e4 : ((256 * y1 + x1) &&& 858993459) = 256 * (y1 &&& 51) + (x1 &&& 51) := by
    rw [show 858993459 = 256 * 3355443 + 51 from rfl, and8 (by omega) (by omega), bk3 y1 (by omega)]
  have e5 : (256 * y1 + x1) / 4 = 256 * (y1 / 4) + (x1 / 4 + 64 * (y1 % 4)) := by omega
  have e6 : ((256 * y1 + x1) / 4) &&& 858993459 = 256 * ((y1 / 4) &&& 51) + ((x1 / 4) &&& 51) := by
    rw [e5, show 858993459 = 256 * 3355443 + 51 from rfl, and8 (by omega) (by omega), bk3 _ (by omega), bk4 x1 (by omega) _ (by omega)]
  have e7 : ((256 * y1 + x1) &&& 858993459) + (((256 * y1 + x1) / 4) &&& 858993459) = 256 * bf2 y1 + bf2 x1 := by
    rw [e4, e6]; unfold bf2; omega
  have k3 := bk6 x hx
  have k4 := bk6 y hy
  rw [← hx1] at k3
  rw [← hy1] at k4
  obtain ⟨x2, hx2⟩ : ∃ x2, x2 = bf2 x1 := ⟨_, rfl⟩
  obtain ⟨y2, hy2⟩ : ∃ y2, y2 = bf2 y1 := ⟨_, rfl⟩
  rw [← hx2] at k3 e7
  rw [← hy2] at k4 e7
  have e8 : (256 * y2 + x2) + (256 * y2 + x2) / 16 = 256 * (y2 + y2 / 16) + (x2 + x2 / 16 + 16 * (y2 % 16)) := by omega
  have e9 : ((256 * y2 + x2) + (256 * y2 + x2) / 16) &&& 252645135 = 256 * p8 y + p8 x := by
    rw [e8, show 252645135 = 256 * 986895 + 15 from rfl, and8 (by omega) (by omega), bk7 _ (by omega), bk8 _ (by omega)]
    omega
  unfold bcN
  simp only [e3, e7, e9]
  have e10 : (256 * p8 y + p8 x) + (256 * p8 y + p8 x) / 256 = 64 * (4 * p8 y) + (p8 x + p8 y) := by omega
  rw [e10, show (64 * (4 * p8 y) + (p8 x + p8 y)) + (64 * (4 * p8 y) + (p8 x + p8 y)) / 65536 = 64 * (4 * p8 y) + (p8 x + p8 y) by omega]
  rw [show 63 = 2 ^ 6 - 1 from rfl, Nat.and_two_pow_sub_one_eq_mod]
  omega
theorem p8_t : ∀ x, x < 256 → [0, 1, 2, 3, 4, 5, 6, 7].countP (fun j => x.testBit j) = p8 x := by decide +kernel
theorem popc_p8 {m : Nat} (h : m < 65536) : popc m = p8 (m % 256) + p8 (m / 256) := by
  have hx : m % 256 < 2 ^ 8 := by omega
  have t : ∀ j, m.testBit j = if j < 8 then (m % 256).testBit j else (m / 256).testBit (j - 8) := by
    intro j
    have h1 := Nat.testBit_two_pow_mul_add (m / 256) hx j
    rwa [show 2 ^ 8 * (m / 256) + m % 256 = m by omega] at h1
  unfold popc
  rw [← List.countP_eq_length_filter, show List.range 16 = [0, 1, 2, 3, 4, 5, 6, 7] ++ [0, 1, 2, 3, 4, 5, 6, 7].map (· + 8) from rfl, List.countP_append, List.countP_map, ← p8_t (m % 256) (by omega), ← p8_t (m / 256) (by omega)]
  congr 1
  · refine List.countP_congr fun j hj => ?_
    have : j < 8 := by
      simp only [List.mem_cons, List.not_mem_nil, or_false] at hj
      omega
    rw [t j, if_pos this]
  · refine List.countP_congr fun j hj => ?_
    show m.testBit (j + 8) = true ↔ _
    rw [t (j + 8), if_neg (by omega), Nat.add_sub_cancel]
theorem bcN_p {m : Nat} (h : m < 65536) : bcN m = popc m := by
  rw [popc_p8 h]
  have := bcN_bytes (x := m % 256) (y := m / 256) (by omega) (by omega)
  rwa [show 256 * (m / 256) + m % 256 = m by omega] at this
