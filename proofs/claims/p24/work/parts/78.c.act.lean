/-! p24, 6: the law's act -/
theorem and_pos (v : Int32) : ∃ m : Nat, m < 2147483648 ∧ (v &&& 2147483647) = iI (m : Int) := by
  have h : 0 ≤ (v &&& 2147483647 : Int32).toInt := by
    show 0 ≤ (v.toBitVec &&& (2147483647 : Int32).toBitVec).toInt
    refine BitVec.toInt_nonneg_of_msb_false ?_
    rw [BitVec.msb_and, show ((2147483647 : Int32).toBitVec).msb = false by decide, Bool.and_false]
  obtain ⟨z, h1, h2, e⟩ := iI_of (v &&& 2147483647)
  rw [e, iI_toInt h1 h2] at h
  exact ⟨z.toNat, by omega, by rw [e]; congr 1; omega⟩
theorem div_nn {m n : Nat} (hm : m < 2147483648) (hn : 0 < n) (hn2 : n < 2147483648) : iI (m : Int) / iI (n : Int) = iI ((m / n : Nat) : Int) := by
  obtain ⟨q, eq⟩ : ∃ q, q = m / n := ⟨_, rfl⟩
  have hq : q ≤ m := by rw [eq]; exact Nat.div_le_self _ _
  have hne : iI (n : Int) ≠ -1 := by
    rw [iI_m1]
    intro q
    rw [iI_eq (by omega) (by omega) (by omega) (by omega)] at q
    omega
  refine Int32.toInt_inj.mp ?_
  rw [← eq, Int32.toInt_div_of_ne_right _ _ hne, iI_toInt (by omega) (by omega), iI_toInt (by omega) (by omega), iI_toInt (by omega) (by omega), eq]
  exact (Int.ofNat_tdiv m n).symm
theorem low_n (v : Int32) {n : Nat} (h0 : 0 < n) (h1 : n < 2147483648) : ∃ a : Nat, a < n ∧ fL_low v (iI (n : Int)) = some (iI (a : Int)) := by
  obtain ⟨m, hm, e⟩ := and_pos v
  have hne : ¬ iI (n : Int) = 0 := by rw [q0, iI_eq (by omega) (by omega) (by omega) (by omega)]; omega
  have hd := Nat.div_add_mod m n
  have hl := Nat.mod_lt m h0
  obtain ⟨t, et⟩ : ∃ t, t = n * (m / n) := ⟨_, rfl⟩
  have e3 : ((m / n : Nat) : Int) * (n : Int) = (t : Int) := by rw [et, Int.natCast_mul, Int.mul_comm]
  refine ⟨m % n, hl, ?_⟩
  unfold fL_low nzd
  rw [if_neg hne, e, div_nn hm h0 h1, iI_mul, iI_sub, e3]
  rw [← et] at hd
  generalize m % n = r at hd
  congr 2
  omega
theorem low_64 (v : Int32) : ∃ a : Nat, a < 64 ∧ fL_low v 64 = some (iI (a : Int)) := low_n v (n := 64) (by omega) (by omega)
theorem low_9 (v : Int32) : ∃ a : Nat, a < 9 ∧ fL_low v 9 = some (iI (a : Int)) := low_n v (n := 9) (by omega) (by omega)
theorem low_10 (v : Int32) : ∃ a : Nat, a < 10 ∧ fL_low v 10 = some (iI (a : Int)) := low_n v (n := 10) (by omega) (by omega)
theorem low_1001 (v : Int32) : ∃ a : Nat, a < 1001 ∧ fL_low v 1001 = some (iI (a : Int)) := low_n v (n := 1001) (by omega) (by omega)
theorem dig_c : ∀ a : Nat, a < 10 → ((((48 + iI (a : Int)) : Int32)).toUInt32 % 65536).toInt32 = iI ((48 + a : Nat) : Int) := by decide +kernel
theorem sw14 (z : Int32) : (z.toInt < 0 ∨ 13 < z.toInt) ∨ z = 0 ∨ z = 1 ∨ z = 2 ∨ z = 3 ∨ z = 4 ∨ z = 5 ∨ z = 6 ∨ z = 7 ∨ z = 8 ∨ z = 9 ∨ z = 10 ∨ z = 11 ∨ z = 12 ∨ z = 13 := by
  obtain ⟨a, a1, a2, rfl⟩ := iI_of z
  rw [iI_toInt a1 a2]
  by_cases h : a < 0 ∨ 13 < a
  · exact Or.inl h
  · refine Or.inr ?_
    obtain rfl | rfl | rfl | rfl | rfl | rfl | rfl | rfl | rfl | rfl | rfl | rfl | rfl | rfl : a = 0 ∨ a = 1 ∨ a = 2 ∨ a = 3 ∨ a = 4 ∨ a = 5 ∨ a = 6 ∨ a = 7 ∨ a = 8 ∨ a = 9 ∨ a = 10 ∨ a = 11 ∨ a = 12 ∨ a = 13 := by omega
    · exact Or.inl rfl
    · exact Or.inr (Or.inl rfl)
    · exact Or.inr (Or.inr (Or.inl rfl))
    · exact Or.inr (Or.inr (Or.inr (Or.inl rfl)))
    · exact Or.inr (Or.inr (Or.inr (Or.inr (Or.inl rfl))))
    · exact Or.inr (Or.inr (Or.inr (Or.inr (Or.inr (Or.inl rfl)))))
    · exact Or.inr (Or.inr (Or.inr (Or.inr (Or.inr (Or.inr (Or.inl rfl))))))
    · exact Or.inr (Or.inr (Or.inr (Or.inr (Or.inr (Or.inr (Or.inr (Or.inl rfl)))))))
    · exact Or.inr (Or.inr (Or.inr (Or.inr (Or.inr (Or.inr (Or.inr (Or.inr (Or.inl rfl))))))))
    · exact Or.inr (Or.inr (Or.inr (Or.inr (Or.inr (Or.inr (Or.inr (Or.inr (Or.inr (Or.inl rfl)))))))))
    · exact Or.inr (Or.inr (Or.inr (Or.inr (Or.inr (Or.inr (Or.inr (Or.inr (Or.inr (Or.inr (Or.inl rfl))))))))))
    · exact Or.inr (Or.inr (Or.inr (Or.inr (Or.inr (Or.inr (Or.inr (Or.inr (Or.inr (Or.inr (Or.inr (Or.inl rfl)))))))))))
    · exact Or.inr (Or.inr (Or.inr (Or.inr (Or.inr (Or.inr (Or.inr (Or.inr (Or.inr (Or.inr (Or.inr (Or.inr (Or.inl rfl))))))))))))
    · exact Or.inr (Or.inr (Or.inr (Or.inr (Or.inr (Or.inr (Or.inr (Or.inr (Or.inr (Or.inr (Or.inr (Or.inr (Or.inr (rfl)))))))))))))
/-- an act, with what restore says of the snapshot -/
def Ack (f : St → Option (Int32 × St)) (A : Ab) (sn : Option Ab) (v : Int32) : Prop := ∃ r A', Inv2 A' ∧ (r < 0 → A' = A) ∧ ((v &&& 15) = 13 → ¬ r < 0 → sn = some A') ∧ AC f A sn r A'
theorem Act.k {f g : St → Option (Int32 × St)} {A : Ab} {sn : Option Ab} {v : Int32} (h : Act g A sn) (hv : (v &&& 15) ≠ 13) (e : ∀ S, CampC S 0 A → f S = g S) : Ack f A sn v := by
  obtain ⟨r, A', h1, h2, h3⟩ := h
  refine ⟨r, A', h1, h2, fun q => absurd q hv, fun S H T hI hC => ?_⟩
  obtain ⟨S', T', a, b, c⟩ := h3 S H T hI hC
  exact ⟨S', T', by rw [e S hC.1]; exact a, b, c⟩
theorem bd2_id (o : Option (Int32 × St)) : (bd2 o fun r S => some (r, S)) = o := by
  cases o with
  | none => rfl
  | some q => rfl
theorem act41 {A : Ab} {sn : Option Ab} (hA : Inv2 A) (hs : ∀ B, sn = some B → Inv2 B) (v w l3 k0 k1 : Int32) (hk : ∃ y, fL_low k1 k0 = some y) : Ack (fun S => fL_act_b41 S v w l3 k0 k1) A sn v := by
  obtain ⟨y, hy⟩ := hk
  have h16 := hA.1.1.1
  have h20 := hA.1.1.2
  obtain ⟨c, -, hc⟩ := low_n ((v : Int32) >>> ((4 : Int32) &&& 31)) (n := aN A + 1) (by omega) (by omega)
  obtain ⟨sg, -, hsg⟩ := low_n ((v : Int32) >>> ((4 : Int32) &&& 31)) (n := aS A + 1) (by omega) (by omega)
  obtain ⟨tn, -, htn⟩ := low_1001 ((w : Int32) >>> ((3 : Int32) &&& 31))
  have en : ∀ n : Nat, iI (n : Int) + 1 = iI ((n + 1 : Nat) : Int) := fun n => by rw [q1, iI_s]
  have pre : ∀ S, CampC S 0 A → fL_act_b41 S v w l3 k0 k1 = (if (Int32.toInt (v &&& 15) < 0 ∨ 13 < Int32.toInt (v &&& 15)) then (bd2 (f5_clearText S) fun r_4 S_5 => (fL_low w 10).bind fun r_6 => bd2 (f5_type S_5 ((((48 + r_6)).toUInt32 % 65536).toInt32)) fun r_7 S_8 => bd2 (f5_type S_8 44) fun r_9 S_10 => (fL_low (w >>> ((4 : Int32) &&& 31)) 10).bind fun r_11 => bd2 (f5_type S_10 ((((48 + r_11)).toUInt32 % 65536).toInt32)) fun r_12 S_13 => f5_comeAll S_13) else if (v &&& 15) = 0 ∨ (v &&& 15) = 1 ∨ (v &&& 15) = 2 ∨ (v &&& 15) = 3 then f5_come S (if (((w >>> ((22 : Int32) &&& 31)) &&& 31) : Int32) = 0 then 64 else l3) y else if (v &&& 15) = 4 ∨ (v &&& 15) = 5 then f5_leave S (iI (c : Int)) else if (v &&& 15) = 6 ∨ (v &&& 15) = 7 then f5_moveTent S (iI (c : Int)) l3 y else if (v &&& 15) = 8 ∨ (v &&& 15) = 9 ∨ (v &&& 15) = 10 then f5_handOver S l3 y (iI (c : Int)) else if (v &&& 15) = 11 then f5_lay S l3 y (iI (tn : Int)) else if (v &&& 15) = 12 then f5_carry S (iI (sg : Int)) l3 y else f5_restore S) := by
    intro S hC
    unfold fL_act_b41 fL_act_b153
    rw [hy, bnd_s, cnt_1 hC hA.1, bnd_s, en, hc, bnd_s]
    simp only [bd2_id]
    rcases sw14 (v &&& 15) with h | h | h | h | h | h | h | h | h | h | h | h | h | h | h
    · rw [if_pos h, if_pos h]
    · rw [h]
      by_cases e : (((w >>> ((22 : Int32) &&& 31)) &&& 31) : Int32) = 0
      · rw [if_neg (by decide), if_pos rfl, if_pos e, if_neg (by decide), if_pos (by decide), if_pos e]
      · rw [if_neg (by decide), if_pos rfl, if_neg e, if_neg (by decide), if_pos (by decide), if_neg e]
    · rw [h]
      by_cases e : (((w >>> ((22 : Int32) &&& 31)) &&& 31) : Int32) = 0
      · rw [if_neg (by decide), if_neg (by decide), if_pos rfl, if_pos e, if_neg (by decide), if_pos (by decide), if_pos e]
      · rw [if_neg (by decide), if_neg (by decide), if_pos rfl, if_neg e, if_neg (by decide), if_pos (by decide), if_neg e]
    · rw [h]
      by_cases e : (((w >>> ((22 : Int32) &&& 31)) &&& 31) : Int32) = 0
      · rw [if_neg (by decide), if_neg (by decide), if_neg (by decide), if_pos rfl, if_pos e, if_neg (by decide), if_pos (by decide), if_pos e]
      · rw [if_neg (by decide), if_neg (by decide), if_neg (by decide), if_pos rfl, if_neg e, if_neg (by decide), if_pos (by decide), if_neg e]
    · rw [h]
      by_cases e : (((w >>> ((22 : Int32) &&& 31)) &&& 31) : Int32) = 0
      · rw [if_neg (by decide), if_neg (by decide), if_neg (by decide), if_neg (by decide), if_pos rfl, if_pos e, if_neg (by decide), if_pos (by decide), if_pos e]
      · rw [if_neg (by decide), if_neg (by decide), if_neg (by decide), if_neg (by decide), if_pos rfl, if_neg e, if_neg (by decide), if_pos (by decide), if_neg e]
    · rw [h, if_neg (by decide), if_neg (by decide), if_neg (by decide), if_neg (by decide), if_neg (by decide), if_pos rfl, if_neg (by decide), if_neg (by decide), if_pos (by decide)]
    · rw [h, if_neg (by decide), if_neg (by decide), if_neg (by decide), if_neg (by decide), if_neg (by decide), if_neg (by decide), if_pos rfl, if_neg (by decide), if_neg (by decide), if_pos (by decide)]
    · rw [h, if_neg (by decide), if_neg (by decide), if_neg (by decide), if_neg (by decide), if_neg (by decide), if_neg (by decide), if_neg (by decide), if_pos rfl, if_neg (by decide), if_neg (by decide), if_neg (by decide), if_pos (by decide)]
    · rw [h, if_neg (by decide), if_neg (by decide), if_neg (by decide), if_neg (by decide), if_neg (by decide), if_neg (by decide), if_neg (by decide), if_neg (by decide), if_pos rfl, if_neg (by decide), if_neg (by decide), if_neg (by decide), if_pos (by decide)]
    · rw [h, if_neg (by decide), if_neg (by decide), if_neg (by decide), if_neg (by decide), if_neg (by decide), if_neg (by decide), if_neg (by decide), if_neg (by decide), if_neg (by decide), if_pos rfl, if_neg (by decide), if_neg (by decide), if_neg (by decide), if_neg (by decide), if_pos (by decide)]
    · rw [h, if_neg (by decide), if_neg (by decide), if_neg (by decide), if_neg (by decide), if_neg (by decide), if_neg (by decide), if_neg (by decide), if_neg (by decide), if_neg (by decide), if_neg (by decide), if_pos rfl, if_neg (by decide), if_neg (by decide), if_neg (by decide), if_neg (by decide), if_pos (by decide)]
    · rw [h, if_neg (by decide), if_neg (by decide), if_neg (by decide), if_neg (by decide), if_neg (by decide), if_neg (by decide), if_neg (by decide), if_neg (by decide), if_neg (by decide), if_neg (by decide), if_neg (by decide), if_pos rfl, if_neg (by decide), if_neg (by decide), if_neg (by decide), if_neg (by decide), if_pos (by decide)]
    · rw [h, if_neg (by decide), if_neg (by decide), if_neg (by decide), if_neg (by decide), if_neg (by decide), if_neg (by decide), if_neg (by decide), if_neg (by decide), if_neg (by decide), if_neg (by decide), if_neg (by decide), if_neg (by decide), if_pos rfl, htn, bnd_s, if_neg (by decide), if_neg (by decide), if_neg (by decide), if_neg (by decide), if_neg (by decide), if_pos (by decide)]
    · rw [h, if_neg (by decide), if_neg (by decide), if_neg (by decide), if_neg (by decide), if_neg (by decide), if_neg (by decide), if_neg (by decide), if_neg (by decide), if_neg (by decide), if_neg (by decide), if_neg (by decide), if_neg (by decide), if_neg (by decide), if_pos rfl, cnt_3 hC hA.1, bnd_s, en, hsg, bnd_s, if_neg (by decide), if_neg (by decide), if_neg (by decide), if_neg (by decide), if_neg (by decide), if_neg (by decide), if_pos (by decide)]
    · rw [h, if_neg (by decide), if_neg (by decide), if_neg (by decide), if_neg (by decide), if_neg (by decide), if_neg (by decide), if_neg (by decide), if_neg (by decide), if_neg (by decide), if_neg (by decide), if_neg (by decide), if_neg (by decide), if_neg (by decide), if_neg (by decide), if_pos rfl, if_neg (by decide), if_neg (by decide), if_neg (by decide), if_neg (by decide), if_neg (by decide), if_neg (by decide), if_neg (by decide)]
  by_cases h13 : (v &&& 15) = 13
  · obtain ⟨r, A', h1, h2, h3, h4⟩ := a_restore (sn := sn) hA hs
    refine ⟨r, A', h1, h2, fun _ => h3, fun S H T hI hC => ?_⟩
    obtain ⟨S', T', a, b, c⟩ := h4 S H T hI hC
    refine ⟨S', T', ?_, b, c⟩
    show fL_act_b41 S v w l3 k0 k1 = _
    rw [pre S hC.1, h13, if_neg (by decide), if_neg (by decide), if_neg (by decide), if_neg (by decide), if_neg (by decide), if_neg (by decide), if_neg (by decide)]
    exact a
  by_cases hd : (Int32.toInt (v &&& 15) < 0 ∨ 13 < Int32.toInt (v &&& 15))
  · obtain ⟨d1, g1, l1⟩ := low_10 w
    obtain ⟨d2, g2, l2⟩ := low_10 (w >>> ((4 : Int32) &&& 31))
    have hT : TxI ([] ++ [48 + d1] ++ [44] ++ [48 + d2]) := ⟨by simp, fun x hx => by simp at hx; omega⟩
    obtain ⟨r, A', h1, h2, h3⟩ := a_comeAll (sn := sn) hA hT
    refine ⟨r, A', h1, h2, fun q => absurd q h13, fun S H T hI hC => ?_⟩
    obtain ⟨S1, a1, b1, c1⟩ := t_clear hI hC
    obtain ⟨S2, a2, b2, c2⟩ := t_type b1 c1 (c := 48 + d1) (by omega) (by simp)
    obtain ⟨S3, a3, b3, c3⟩ := t_type b2 c2 (c := 44) (by omega) (by simp)
    obtain ⟨S4, a4, b4, c4⟩ := t_type b3 c3 (c := 48 + d2) (by omega) (by simp)
    obtain ⟨S5, a5, b5, c5⟩ := h3 S4 H b4 c4
    refine ⟨S5, _, ?_, b5, c5⟩
    show fL_act_b41 S v w l3 k0 k1 = _
    rw [pre S hC.1, if_pos hd, a1, bd2_s, l1, bnd_s, dig_c d1 g1, a2, bd2_s, show (44 : Int32) = iI ((44 : Nat) : Int) from rfl, a3, bd2_s, l2, bnd_s, dig_c d2 g2, a4, bd2_s]
    exact a5
  by_cases c0 : (v &&& 15) = 0 ∨ (v &&& 15) = 1 ∨ (v &&& 15) = 2 ∨ (v &&& 15) = 3
  · exact (a_come hA (if (((w >>> ((22 : Int32) &&& 31)) &&& 31) : Int32) = 0 then 64 else l3) y).k h13 (fun S hC => (pre S hC).trans (by rw [if_neg hd, if_pos c0]))
  by_cases c1 : (v &&& 15) = 4 ∨ (v &&& 15) = 5
  · exact (a_leave hA (iI (c : Int))).k h13 (fun S hC => (pre S hC).trans (by rw [if_neg hd, if_neg c0, if_pos c1]))
  by_cases c2 : (v &&& 15) = 6 ∨ (v &&& 15) = 7
  · exact (a_moveTent hA (iI (c : Int)) l3 y).k h13 (fun S hC => (pre S hC).trans (by rw [if_neg hd, if_neg c0, if_neg c1, if_pos c2]))
  by_cases c3 : (v &&& 15) = 8 ∨ (v &&& 15) = 9 ∨ (v &&& 15) = 10
  · exact (a_handOver hA l3 y (iI (c : Int))).k h13 (fun S hC => (pre S hC).trans (by rw [if_neg hd, if_neg c0, if_neg c1, if_neg c2, if_pos c3]))
  by_cases c4 : (v &&& 15) = 11
  · exact (a_lay hA l3 y (iI (tn : Int))).k h13 (fun S hC => (pre S hC).trans (by rw [if_neg hd, if_neg c0, if_neg c1, if_neg c2, if_neg c3, if_pos c4]))
  by_cases c5 : (v &&& 15) = 12
  · exact (a_carry hA (iI (sg : Int)) l3 y).k h13 (fun S hC => (pre S hC).trans (by rw [if_neg hd, if_neg c0, if_neg c1, if_neg c2, if_neg c3, if_neg c4, if_pos c5]))
  · exfalso
    rcases sw14 (v &&& 15) with h | h | h | h | h | h | h | h | h | h | h | h | h | h | h
    · exact hd h
    · exact c0 (Or.inl h)
    · exact c0 (Or.inr (Or.inl h))
    · exact c0 (Or.inr (Or.inr (Or.inl h)))
    · exact c0 (Or.inr (Or.inr (Or.inr h)))
    · exact c1 (Or.inl h)
    · exact c1 (Or.inr h)
    · exact c2 (Or.inl h)
    · exact c2 (Or.inr h)
    · exact c3 (Or.inl h)
    · exact c3 (Or.inr (Or.inl h))
    · exact c3 (Or.inr (Or.inr h))
    · exact c4 h
    · exact c5 h
    · exact h13 h
/-- an act of the law's -/
theorem act_all {A : Ab} {sn : Option Ab} (hA : Inv2 A) (hs : ∀ B, sn = some B → Inv2 B) (v w : Int32) : Ack (fun S => fL_act S v w) A sn v := by
  have ey : ∀ k1 k0 : Int32, (k0 = 64 ∨ k0 = 9) → ∃ y, fL_low k1 k0 = some y := by
    rintro k1 k0 (rfl | rfl)
    · obtain ⟨a, -, h⟩ := low_64 k1; exact ⟨_, h⟩
    · obtain ⟨a, -, h⟩ := low_9 k1; exact ⟨_, h⟩
  have go : ∀ k0 : Int32, (k0 = 64 ∨ k0 = 9) → Ack (fun S => fL_act_b17 S v w k0 w) A sn v := by
    intro k0 h0
    obtain ⟨x, hx⟩ := ey w k0 h0
    by_cases e : (((w >>> ((20 : Int32) &&& 31)) &&& 1) : Int32) = 0
    · have := act41 (sn := sn) hA hs v w x 64 (w >>> ((6 : Int32) &&& 31)) (ey _ _ (Or.inl rfl))
      have he : (fun S => fL_act_b17 S v w k0 w) = fun S => fL_act_b41 S v w x 64 (w >>> ((6 : Int32) &&& 31)) := by
        funext S
        unfold fL_act_b17
        rw [hx, bnd_s, if_pos e]
      rw [he]; exact this
    · have := act41 (sn := sn) hA hs v w x 9 (w >>> ((6 : Int32) &&& 31)) (ey _ _ (Or.inr rfl))
      have he : (fun S => fL_act_b17 S v w k0 w) = fun S => fL_act_b41 S v w x 9 (w >>> ((6 : Int32) &&& 31)) := by
        funext S
        unfold fL_act_b17
        rw [hx, bnd_s, if_neg e]
      rw [he]; exact this
  by_cases e : (((w >>> ((20 : Int32) &&& 31)) &&& 1) : Int32) = 0
  · have he : (fun S => fL_act S v w) = fun S => fL_act_b17 S v w 64 w := by
      funext S
      unfold fL_act
      rw [if_pos e]
    rw [he]; exact go _ (Or.inl rfl)
  · have he : (fun S => fL_act S v w) = fun S => fL_act_b17 S v w 9 w := by
      funext S
      unfold fL_act
      rw [if_neg e]
    rw [he]; exact go _ (Or.inr rfl)
