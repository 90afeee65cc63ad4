/-! p24, 9: the law -/
theorem cell_tot {L : Nat} (hL : L ≤ 260) (xs : Nat → Int32) {i : Nat} (hi : i < 1000) : ∃ v, fL_cell xs L (iI (i : Int)) = some v := by
  unfold fL_cell fL_cell_b24
  rw [iI_ofNat]
  by_cases h : iI (L : Int) ≤ iI (i : Int)
  · rw [if_pos h]; exact ⟨_, rfl⟩
  · rw [if_neg h]
    rw [iI_le (by omega) (by omega) (by omega) (by omega)] at h
    rw [arr_i (by omega) (by omega)]
    exact ⟨_, rfl⟩
theorem lgc (x : Int64) : lg_cmp x x = 0 := by
  have h : ¬ x > x := fun h => by
    have := Int64.lt_iff_toInt_lt.mp h
    omega
  unfold lg_cmp
  rw [if_neg h, if_pos rfl]
theorem law_go {L : Nat} (hL : L ≤ 260) (xs : Nat → Int32) : ∀ (m i n : Nat) (S : St) (A B : Ab) (H : List Ab) (T : List Nat) (l2 : Int64), i + m = 30 → m < n → Inv2 A → Inv2 B → GI A H (some B) T → GC S A H (some B) T → (∀ S', CampC S' 0 B → fL_told S' = some l2) → flaw_b43 xs L n S l2 (iI (i : Int)) = some 1 := by
  intro m
  induction m with
  | zero =>
    intro i n S A B H T l2 hi hn hA hB hI hC hl2
    obtain ⟨n, rfl⟩ : ∃ n', n = n' + 1 := ⟨n - 1, by omega⟩
    have e : (30 : Int32) ≤ iI (i : Int) := by
      rw [show i = 30 by omega]; decide
    rw [flaw_b43, if_pos e]
  | succ m ih =>
    intro i n S A B H T l2 hi hn hA hB hI hC hl2
    obtain ⟨n, rfl⟩ : ∃ n', n = n' + 1 := ⟨n - 1, by omega⟩
    have e30 : ¬ (30 : Int32) ≤ iI (i : Int) := by
      rw [show (30 : Int32) = iI 30 from rfl, iI_le (by omega) (by omega) (by omega) (by omega)]; omega
    have em : ((2 : Int32) * iI (i : Int)) = iI ((2 * i : Nat) : Int) := by rw [q2, iI_mul]; congr 1
    have em1 : (iI ((2 * i : Nat) : Int) + 1 : Int32) = iI ((2 * i + 1 : Nat) : Int) := by rw [q1, iI_s]
    obtain ⟨v, ev⟩ := cell_tot hL xs (i := 2 * i) (by omega)
    obtain ⟨w, ew⟩ := cell_tot hL xs (i := 2 * i + 1) (by omega)
    obtain ⟨hb, hbS⟩ := tld hA.1
    obtain ⟨r, A', hA', hra, hr13, hac⟩ := act_all (sn := some B) hA (fun B' e => by cases e; exact hB) v w
    obtain ⟨h', hS'⟩ := tld hA'.1
    obtain ⟨S1, T1, f1, gi1, gc1⟩ := hac S H T hI hC
    have f1 : fL_act S v w = some (r, S1) := f1
    have hlen := hC.2.1.1
    have b247 : ∀ S2 H2 T2, GI A' H2 (some B) T2 → GC S2 A' H2 (some B) T2 → flaw_b247 xs L S2 (flaw_b43 xs L n) l2 (iI (i : Int)) v w h' = some 1 := by
      intro S2 H2 T2 gi gc
      unfold flaw_b247
      rw [holds_1 gc.1 hA' w, bnd_s, if_neg n10]
      by_cases e : (((v >>> ((10 : Int32) &&& 31)) &&& 7) : Int32) = 1
      · obtain ⟨S3, k1, k2, k3⟩ := t_keep gi gc
        rw [if_pos e, k1, bd2_s]
        unfold flaw_b278
        rw [show (iI (i : Int) + 1 : Int32) = iI ((i + 1 : Nat) : Int) by rw [q1, iI_s]]
        exact ih (i + 1) n S3 A' A' H2 T2 h' (by omega) (by omega) hA' hA' k2 k3 hS'
      · rw [if_neg e]
        unfold flaw_b278
        rw [show (iI (i : Int) + 1 : Int32) = iI ((i + 1 : Nat) : Int) by rw [q1, iI_s]]
        exact ih (i + 1) n S2 A' B H2 T2 l2 (by omega) (by omega) hA' hB gi gc hl2
    have b178 : flaw_b178 xs L S1 (flaw_b43 xs L n) l2 (iI (i : Int)) v w hb r h' = some 1 := by
      unfold flaw_b178
      by_cases hr : r < 0
      · rw [if_pos hr]
        exact b247 _ _ _ gi1 gc1
      · rw [if_neg hr]
        by_cases e9 : (((v >>> ((9 : Int32) &&& 31)) &&& 1) : Int32) = 0
        · rw [if_pos e9]
          rw [if_neg hr] at gi1 gc1
          have eH : (A :: H).take 4 = A :: H.take 3 := rfl
          rw [eH] at gi1 gc1
          have hl3 : (H.take 3).length ≤ 3 := by rw [List.length_take]; omega
          obtain ⟨S4, u1, u2, u3⟩ := t_undo gi1 gc1
          obtain ⟨S7, T7, f7, gi7, gc7⟩ := hac S4 (H.take 3) T1 u2 u3
          have f7 : fL_act S4 v w = some (r, S7) := f7
          have ex : (iI ((A :: H.take 3).length : Int) - 1 : Int32) = iI ((H.take 3).length : Int) := by
            rw [List.length_cons, q1, iI_sub]; congr 1; omega
          rw [cnt_10 gc1.2.1, bnd_s, nam_r, u1, bd2_s, ex, if_pos rfl, hbS S4 u3.1, bnd_s, if_pos (lgc _), f7, bd2_s, if_pos rfl, hS' S7 gc7.1, bnd_s, if_pos (lgc _)]
          exact b247 _ _ _ gi7 gc7
        · rw [if_neg e9]
          exact b247 _ _ _ gi1 gc1
    have b154 : flaw_b154 xs L S1 (flaw_b43 xs L n) l2 (iI (i : Int)) v w hb r h' = some 1 := by
      unfold flaw_b154
      by_cases hr : r < 0
      · rw [if_pos hr]; exact b178
      · rw [if_neg hr]
        by_cases e13 : (v &&& 15) = 13
        · have eB := hr13 e13 hr
          have eh : h' = l2 := by
            have a := hS' S1 gc1.1
            have b := hl2 S1 (by rw [Option.some.inj eB]; exact gc1.1)
            rw [a] at b
            exact Option.some.inj b
          rw [if_pos e13, if_pos (by rw [eh]; exact lgc _)]
          exact b178
        · rw [if_neg e13]; exact b178
    rw [flaw_b43, if_neg e30, em, ev, bnd_s, em1, ew, bnd_s, hbS S hC.1, bnd_s, cnt_10 hC.2.1, bnd_s, f1, bd2_s, hS' S1 gc1.1, bnd_s]
    by_cases hr : r < 0
    · have hr0 : ¬ (0 : Int32) ≤ r := Int32.not_le.mpr hr
      have eA := hra hr
      have eh : h' = hb := by
        have a := hS' S1 gc1.1
        have b := hbS S1 (by rw [← eA]; exact gc1.1)
        rw [a] at b
        exact Option.some.inj b
      have gc2 := gc1
      rw [if_pos hr] at gc2
      rw [if_neg hr0, if_pos (by rw [eh]; exact lgc _), cnt_10 gc2.2.1, bnd_s, if_pos rfl]
      exact b154
    · have hr0 : (0 : Int32) ≤ r := Int32.not_lt.mp hr
      have gc2 := gc1
      rw [if_neg hr] at gc2
      rw [if_pos hr0, cnt_10 gc2.2.1, bnd_s]
      have hl4 : ((A :: H).take 4).length = min 4 (H.length + 1) := by rw [List.length_take, List.length_cons]
      by_cases c4 : (4 : Int32) ≤ iI (H.length : Int)
      · have c5 : 4 ≤ H.length := by
          rw [q4, iI_le (by omega) (by omega) (by omega) (by omega)] at c4; omega
        have e : iI (((A :: H).take 4).length : Int) = (4 : Int32) := by rw [hl4, show min 4 (H.length + 1) = 4 by omega]; rfl
        rw [if_pos c4]
        unfold flaw_b149
        rw [if_pos e]
        exact b154
      · have c5 : ¬ 4 ≤ H.length := by
          rw [q4, iI_le (by omega) (by omega) (by omega) (by omega)] at c4; omega
        have e : iI (((A :: H).take 4).length : Int) = (iI (H.length : Int) + 1 : Int32) := by rw [hl4, show min 4 (H.length + 1) = H.length + 1 by omega, q1, iI_s]
        rw [if_neg c4]
        unfold flaw_b149
        rw [if_pos e]
        exact b154
/-- the state that the constructor leaves -/
def A00 : Ab := ([(0, 0, 0, 0)], (0, fun _ => 0, fun _ => 0, fun _ => 0), (0, fun _ => 0, fun _ => 0, fun _ => 0), (0, 0, 0))
theorem a00_none (k : Nat) : ¬ Here A00 k := fun h => Nat.not_lt_zero _ h.1
theorem inv00 : Inv2 A00 := by
  have nh : ∀ k, ¬ Here A00 k := a00_none
  have m1 : ∀ p ∈ aL A00, p = (0, 0, 0, 0) := fun p hp => List.mem_singleton.mp hp
  exact ⟨⟨⟨Nat.zero_le _, Nat.zero_le _⟩, fun p hp => by rw [m1 p hp]; exact ok_one, til_one 0, Nat.le_refl 1, fun k hk => absurd hk (Nat.not_lt_zero _), fun p hp => by rw [m1 p hp]; exact Or.inl rfl, fun _ => rfl, fun ⟨k, hk⟩ => absurd hk (nh k), fun k hk => absurd hk (nh k), fun j hj => absurd hj (Nat.not_lt_zero _)⟩, 0, rfl, Nat.zero_le _, Nat.le_refl _⟩
theorem gc00 : GC S00 A00 [] none [] := by
  have e1 : ∀ (i : Nat) (p : Pl), ([(0, 0, 0, 0)] : List Pl)[i]? = some p → i = 0 ∧ p = (0, 0, 0, 0) := by
    intro i p h
    cases i with
    | zero => rw [List.getElem?_cons_zero] at h; cases h; exact ⟨rfl, rfl⟩
    | succ i => rw [List.getElem?_cons_succ] at h; cases h
  refine ⟨⟨⟨[(0, 0, 0, 0)], List.Perm.refl _, rfl, fun i p h => ?_⟩, rfl, rfl, rfl, rfl, rfl, fun k hk => absurd hk (Nat.not_lt_zero _), fun k hk => absurd hk (Nat.not_lt_zero _)⟩, ⟨(by rw [List.length_nil]; omega), rfl, 0, (by omega), rfl, fun i B h => (by cases h)⟩, rfl, rfl, fun i c h => (by cases h)⟩
  obtain ⟨rfl, rfl⟩ := e1 i p h
  exact ⟨rfl, rfl, rfl, rfl⟩
theorem gi00 : GI A00 [] none [] := ⟨inv00.1, fun B hB => (by cases hB), fun B hB => (by cases hB), (by rw [List.length_nil]; omega), fun c hc => (by cases hc)⟩
theorem law_math {L : Nat} (hL : L ≤ 260) (xs : Nat → Int32) : flaw xs L S00 = some 1 := by
  obtain ⟨h, hS⟩ := tld inv00.1
  have t42 : S00.1 42 = 0 := rfl
  have e2 : f5_restore S00 = some (-5, S00) := by
    unfold f5_restore
    rw [if_pos t42]
  obtain ⟨S3, k1, k2, k3⟩ := t_keep gi00 gc00
  have e3 : iI (nH A00 : Int) = (0 : Int32) := rfl
  unfold flaw
  rw [t_undo0 gc00, bd2_s, if_pos rfl, e2, bd2_s, if_pos rfl, k1, bd2_s, if_pos e3, hS S3 k3.1, bnd_s]
  exact law_go hL xs 30 0 fuelN S3 A00 A00 [] [] h rfl (fuel_lt (by omega)) inv00 inv00 k2 k3 hS
