/-! STAGE B, 1: whole numbers of the machine as whole numbers -/
def iI (z : Int) : Int32 := Int32.ofInt z
theorem iI_add (a b : Int) : iI a + iI b = iI (a + b) := (Int32.ofInt_add a b).symm
theorem iI_sub (a b : Int) : iI a - iI b = iI (a - b) := (Int32.ofInt_sub a b).symm
theorem iI_mul (a b : Int) : iI a * iI b = iI (a * b) := (Int32.ofInt_mul a b).symm
theorem iI_neg (a : Int) : -iI a = iI (-a) := (Int32.ofInt_neg a).symm
theorem iI_toInt {z : Int} (h1 : -2147483648 ≤ z) (h2 : z < 2147483648) : (iI z).toInt = z := Int32.toInt_ofInt_of_le (by simpa using h1) (by simpa using h2)
theorem iI_lt {a b : Int} (ha : -2147483648 ≤ a) (ha2 : a < 2147483648) (hb : -2147483648 ≤ b) (hb2 : b < 2147483648) : iI a < iI b ↔ a < b := by
  rw [Int32.lt_iff_toInt_lt, iI_toInt ha ha2, iI_toInt hb hb2]
theorem iI_le {a b : Int} (ha : -2147483648 ≤ a) (ha2 : a < 2147483648) (hb : -2147483648 ≤ b) (hb2 : b < 2147483648) : iI a ≤ iI b ↔ a ≤ b := by
  rw [Int32.le_iff_toInt_le, iI_toInt ha ha2, iI_toInt hb hb2]
theorem iI_eq {a b : Int} (ha : -2147483648 ≤ a) (ha2 : a < 2147483648) (hb : -2147483648 ≤ b) (hb2 : b < 2147483648) : iI a = iI b ↔ a = b := by
  rw [← Int32.toInt_inj, iI_toInt ha ha2, iI_toInt hb hb2]
theorem iI_lit (n : Nat) : (OfNat.ofNat n : Int32) = iI (n : Int) := Int32.ofInt_eq_ofNat.symm
theorem iI_0 : (0 : Int32) = iI 0 := rfl
theorem iI_1 : (1 : Int32) = iI 1 := rfl
theorem iI_m1 : (-1 : Int32) = iI (-1) := rfl
theorem iI_nI (n : Nat) : nI n = iI (n : Int) := Int32.ofInt_eq_ofNat.symm
theorem iI_ofNat (n : Nat) : Int32.ofNat n = iI (n : Int) := Int32.ofInt_eq_ofNat.symm
theorem iI_cl {n : Nat} (h : n < 2147483648) : (iI (n : Int)).toNatClampNeg = n := by
  rw [← iI_nI]; exact nI_clamp (by omega)
theorem iI_of (x : Int32) : ∃ z : Int, -2147483648 ≤ z ∧ z < 2147483648 ∧ x = iI z :=
  ⟨x.toInt, by have := x.le_toInt; omega, by have := x.toInt_lt; omega, (Int32.ofInt_toInt x).symm⟩
/-- of an answer that is yes or no -/
def b2i (b : Bool) : Int32 := if b then 1 else 0
theorem b2i_01 (b : Bool) : b2i b = 0 ∨ b2i b = 1 := by cases b <;> simp [b2i]
theorem b2i_0 (b : Bool) : b2i b = 0 ↔ b = false := by cases b <;> simp [b2i]
theorem isz_b {α : Type} (b : Bool) (k : Option α) : isz (b2i b) k = k := by
  unfold isz; rw [if_pos (b2i_01 b)]
theorem isz_0 {α : Type} (k : Option α) : isz 0 k = k := by unfold isz; rw [if_pos (Or.inl rfl)]
theorem isz_1 {α : Type} (k : Option α) : isz 1 k = k := by unfold isz; rw [if_pos (Or.inr rfl)]
theorem nam_r {σ α : Type} (x : σ) (k : σ → Option α) : nam x k = k x := rfl
theorem bd2_s {α β γ : Type} (a : α) (b : β) (k : α → β → Option γ) : bd2 (some (a, b)) k = k a b := rfl
theorem bnd_s {α β : Type} (a : α) (k : α → Option β) : (some a).bind k = k a := rfl
theorem arr_i {α : Type} {f : Nat → Int32} {n i : Nat} {k : Int32 → Option α} (h : i < n) (h2 : n < 2147483648) : arr f n (iI (i : Int)) k = k (f i) := by
  unfold arr
  have c : ¬ (iI (i : Int) < 0 ∨ n ≤ (iI (i : Int)).toNatClampNeg) := by
    rw [iI_cl (by omega), iI_0, iI_lt (by omega) (by omega) (by omega) (by omega)]
    omega
  rw [if_neg c, iI_cl (by omega)]
theorem sto_i {α : Type} {n i : Nat} {k : Option α} (h : i < n) (h2 : n < 2147483648) : sto n (iI (i : Int)) k = k := by
  unfold sto
  have c : ¬ (iI (i : Int) < 0 ∨ n ≤ (iI (i : Int)).toNatClampNeg) := by
    rw [iI_cl (by omega), iI_0, iI_lt (by omega) (by omega) (by omega) (by omega)]
    omega
  rw [if_neg c]
theorem upd_s {f : Nat → Int32} {k : Nat} {x : Int32} : upd f k x k = x := pk_us
theorem upd_n {f : Nat → Int32} {k j : Nat} {x : Int32} (h : j ≠ k) : upd f k x j = f j := pk_un h
/-! loops over a row: F n i acc, one step an element -/
theorem loop_fold {α σ ρ : Type} (L : List α) (F : Nat → Int32 → σ → Option ρ) (g : σ → α → σ) (fin : σ → Option ρ)
    (hs : ∀ (n i : Nat) (p : α) (acc : σ), L[i]? = some p → F (n + 1) (iI (i : Int)) acc = F n (iI ((i + 1 : Nat) : Int)) (g acc p))
    (he : ∀ (n : Nat) (acc : σ), F (n + 1) (iI (L.length : Int)) acc = fin acc) : ∀ (n i : Nat) (acc : σ), L.length < n + i → i ≤ L.length → F n (iI (i : Int)) acc = fin ((L.drop i).foldl g acc)
  | 0, i, acc, h1, h2 => absurd h1 (by omega)
  | n + 1, i, acc, h1, h2 => by
    by_cases h : i < L.length
    · have e : L[i]? = some L[i] := List.getElem?_eq_getElem h
      rw [hs n i _ acc e, loop_fold L F g fin hs he n (i + 1) _ (by omega) (by omega), List.drop_eq_getElem_cons h]
      rfl
    · have : i = L.length := by omega
      subst this
      rw [he, List.drop_length]
      rfl
/-- the whole loop, from the first element -/
theorem loop_fold0 {α σ ρ : Type} (L : List α) (F : Nat → Int32 → σ → Option ρ) (g : σ → α → σ) (fin : σ → Option ρ) (N : Nat) (hN : L.length < N)
    (hs : ∀ (n i : Nat) (p : α) (acc : σ), L[i]? = some p → F (n + 1) (iI (i : Int)) acc = F n (iI ((i + 1 : Nat) : Int)) (g acc p))
    (he : ∀ (n : Nat) (acc : σ), F (n + 1) (iI (L.length : Int)) acc = fin acc) (acc : σ) : F N 0 acc = fin (L.foldl g acc) := by
  have := loop_fold L F g fin hs he N 0 acc (by omega) (by omega)
  rw [List.drop_zero] at this
  exact this
/-- a loop with something that holds at each step -/
theorem loop_inv {σ ρ : Type} (len : Nat) (F : Nat → Int32 → σ → Option ρ) (I : Nat → σ → Prop) (fin : σ → Option ρ)
    (hs : ∀ (n i : Nat) (acc : σ), i < len → I i acc → ∃ acc', I (i + 1) acc' ∧ F (n + 1) (iI (i : Int)) acc = F n (iI ((i + 1 : Nat) : Int)) acc')
    (he : ∀ (n : Nat) (acc : σ), I len acc → F (n + 1) (iI (len : Int)) acc = fin acc) : ∀ (n i : Nat) (acc : σ), len < n + i → i ≤ len → I i acc → ∃ acc', I len acc' ∧ F n (iI (i : Int)) acc = fin acc'
  | 0, i, acc, h1, h2, _ => absurd h1 (by omega)
  | n + 1, i, acc, h1, h2, hI => by
    by_cases h : i < len
    · obtain ⟨acc', h3, h4⟩ := hs n i acc h hI
      obtain ⟨a2, h5, h6⟩ := loop_inv len F I fin hs he n (i + 1) acc' (by omega) (by omega) h3
      exact ⟨a2, h5, by rw [h4, h6]⟩
    · have : i = len := by omega
      subst this
      exact ⟨acc, hI, he n acc hI⟩
theorem loop_inv0 {σ ρ : Type} (len : Nat) (F : Nat → Int32 → σ → Option ρ) (I : Nat → σ → Prop) (fin : σ → Option ρ) (N : Nat) (hN : len < N)
    (hs : ∀ (n i : Nat) (acc : σ), i < len → I i acc → ∃ acc', I (i + 1) acc' ∧ F (n + 1) (iI (i : Int)) acc = F n (iI ((i + 1 : Nat) : Int)) acc')
    (he : ∀ (n : Nat) (acc : σ), I len acc → F (n + 1) (iI (len : Int)) acc = fin acc) (acc : σ) (h0 : I 0 acc) : ∃ acc', I len acc' ∧ F N 0 acc = fin acc' :=
  loop_inv len F I fin hs he N 0 acc (by omega) (by omega) h0
/-- a loop that ends at the first element for which something holds -/
theorem loop_find {α ρ : Type} (L : List α) (F : Nat → Int32 → Option ρ) (c : α → Bool) (hit : Nat → Option ρ) (miss : Option ρ)
    (hs : ∀ (n i : Nat) (p : α), L[i]? = some p → F (n + 1) (iI (i : Int)) = if c p then hit i else F n (iI ((i + 1 : Nat) : Int)))
    (he : ∀ (n : Nat), F (n + 1) (iI (L.length : Int)) = miss) : ∀ (n i : Nat), L.length < n + i → i ≤ L.length →
      (∃ j p, i ≤ j ∧ L[j]? = some p ∧ c p = true ∧ F n (iI (i : Int)) = hit j) ∨ ((∀ j p, i ≤ j → L[j]? = some p → c p = false) ∧ F n (iI (i : Int)) = miss)
  | 0, i, h1, h2 => absurd h1 (by omega)
  | n + 1, i, h1, h2 => by
    by_cases h : i < L.length
    · have e : L[i]? = some L[i] := List.getElem?_eq_getElem h
      rw [hs n i _ e]
      by_cases hc : c L[i] = true
      · exact Or.inl ⟨i, L[i], Nat.le_refl _, e, hc, by rw [if_pos hc]⟩
      · rw [if_neg hc]
        rcases loop_find L F c hit miss hs he n (i + 1) (by omega) (by omega) with ⟨j, p, h3, h4, h5, h6⟩ | ⟨h3, h4⟩
        · exact Or.inl ⟨j, p, by omega, h4, h5, h6⟩
        · refine Or.inr ⟨fun j p hj hp => ?_, h4⟩
          by_cases hji : j = i
          · subst hji
            rw [e] at hp
            cases hp
            simpa using hc
          · exact h3 j p (by omega) hp
    · have : i = L.length := by omega
      subst this
      refine Or.inr ⟨fun j p hj hp => ?_, he n⟩
      have := (List.getElem?_eq_some_iff.mp hp).1
      omega
theorem loop_find0 {α ρ : Type} (L : List α) (F : Nat → Int32 → Option ρ) (c : α → Bool) (hit : Nat → Option ρ) (miss : Option ρ) (N : Nat) (hN : L.length < N)
    (hs : ∀ (n i : Nat) (p : α), L[i]? = some p → F (n + 1) (iI (i : Int)) = if c p then hit i else F n (iI ((i + 1 : Nat) : Int)))
    (he : ∀ (n : Nat), F (n + 1) (iI (L.length : Int)) = miss) : (∃ j p, L[j]? = some p ∧ c p = true ∧ F N 0 = hit j) ∨ ((∀ p ∈ L, c p = false) ∧ F N 0 = miss) := by
  rcases loop_find L F c hit miss hs he N 0 (by omega) (by omega) with ⟨j, p, _, h4, h5, h6⟩ | ⟨h3, h4⟩
  · exact Or.inl ⟨j, p, h4, h5, h6⟩
  · refine Or.inr ⟨fun p hp => ?_, h4⟩
    obtain ⟨j, hj⟩ := List.getElem?_of_mem hp
    exact h3 j p (Nat.zero_le _) hj
theorem foldl_cnt {α : Type} (c : α → Bool) (L : List α) : ∀ (a : Int), L.foldl (fun (acc : Int32) p => if c p then acc + 1 else acc) (iI a) = iI (a + (L.countP c : Nat)) := by
  induction L with
  | nil => intro a; simp
  | cons p L ih =>
    intro a
    rw [List.foldl_cons]
    by_cases h : c p = true
    · rw [if_pos h, show iI a + 1 = iI (a + 1) from iI_add a 1, ih, List.countP_cons_of_pos h]
      congr 1
      omega
    · rw [if_neg h, ih, List.countP_cons_of_neg h]
theorem foldl_sum {α : Type} (f : α → Nat) (L : List α) : ∀ (a : Int), L.foldl (fun (acc : Int32) p => acc + iI (f p : Int)) (iI a) = iI (a + ((L.map f).sum : Nat)) := by
  induction L with
  | nil => intro a; simp
  | cons p L ih =>
    intro a
    rw [List.foldl_cons, iI_add, ih, List.map_cons, List.sum_cons]
    congr 1
    omega
