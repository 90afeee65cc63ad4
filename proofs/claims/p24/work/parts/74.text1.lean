/-! STAGE B, 44: texts: what they say, and what the class reads -/
theorem char_rt {c : Nat} (h : c < 65536) : (iI (c : Int)).toUInt32.toUInt16.toUInt32.toInt32 = iI (c : Int) := by
  rw [← iI_nI]
  apply Int32.toBitVec_inj.mp
  apply BitVec.eq_of_toNat_eq
  simp [nI]
  omega
theorem isc_i {α : Type} {c : Nat} (h : c < 65536) (k : Option α) : isc (iI (c : Int)) k = k := by unfold isc; rw [if_pos (char_rt h)]
theorem char_in (x : Int32) : ∃ c : Nat, c < 65536 ∧ ((x.toUInt32 % 65536).toInt32) = iI (c : Int) := by
  refine ⟨(x.toUInt32 % 65536).toNat, ?_, ?_⟩
  · rw [UInt32.toNat_mod]; exact Nat.mod_lt _ (by decide)
  · rw [← toI32, UInt32.ofNat_toNat]
/-- the character at a place, 0 behind the end -/
def ch (T : List Nat) (i : Nat) : Nat := T[i]?.getD 0
def TxI (T : List Nat) : Prop := T.length ≤ 60 ∧ ∀ c ∈ T, c < 65536
theorem ch_at {T : List Nat} {i : Nat} (h : i < T.length) : T[i]? = some (ch T i) := by unfold ch; rw [List.getElem?_eq_getElem h]; rfl
theorem ch_end {T : List Nat} {i : Nat} (h : T.length ≤ i) : ch T i = 0 := by unfold ch; rw [List.getElem?_eq_none h]; rfl
theorem ch_lt {T : List Nat} (h : TxI T) (i : Nat) : ch T i < 65536 := by
  by_cases e : i < T.length
  · exact h.2 _ (List.mem_of_getElem? (ch_at e))
  · rw [ch_end (by omega)]; omega
def dgt (c : Nat) : Bool := decide (48 ≤ c ∧ c ≤ 57)
theorem dgt_in {T : List Nat} {i : Nat} (h : dgt (ch T i) = true) : i < T.length := by
  by_cases e : i < T.length
  · exact e
  · rw [ch_end (by omega)] at h; exact absurd h (by decide)
theorem dgt_iff {c : Nat} : dgt c = true ↔ (48 ≤ c ∧ c ≤ 57) := by unfold dgt; exact decide_eq_true_iff
theorem dgt_no {c : Nat} (h : dgt c = false) : ¬ (48 ≤ c ∧ c ≤ 57) := fun q => by rw [dgt_iff.mpr q] at h; cases h
/-- a second digit is taken -/
def two (T : List Nat) (a : Nat) : Bool := decide (48 < ch T a) && dgt (ch T (a + 1)) && decide (10 * (ch T a - 48) + (ch T (a + 1) - 48) < 64)
def nmV (T : List Nat) (a : Nat) : Nat := if two T a = true then 10 * (ch T a - 48) + (ch T (a + 1) - 48) else ch T a - 48
def nmL (T : List Nat) (a : Nat) : Nat := if two T a = true then 2 else 1
theorem two_iff {T : List Nat} {a : Nat} : two T a = true ↔ (48 < ch T a ∧ dgt (ch T (a + 1)) = true ∧ 10 * (ch T a - 48) + (ch T (a + 1) - 48) < 64) := by
  unfold two; rw [Bool.and_eq_true, Bool.and_eq_true, decide_eq_true_iff, decide_eq_true_iff, and_assoc]
theorem nmV_lt {T : List Nat} {a : Nat} (h : dgt (ch T a) = true) : nmV T a < 64 := by
  unfold nmV
  by_cases c : two T a = true
  · rw [if_pos c]; exact (two_iff.mp c).2.2
  · rw [if_neg c]; have := dgt_iff.mp h; omega
theorem nm_end {T : List Nat} {a : Nat} (h : dgt (ch T a) = true) : a + nmL T a ≤ T.length ∧ 1 ≤ nmL T a ∧ nmL T a ≤ 2 := by
  have := dgt_in h
  unfold nmL
  by_cases c : two T a = true
  · rw [if_pos c]
    have := dgt_in (two_iff.mp c).2.1
    omega
  · rw [if_neg c]; omega
/-- a point at a that ends ahead of e; a point at a with its fault at f -/
def Pt (T : List Nat) (a x y e : Nat) : Prop := dgt (ch T a) = true ∧ x = nmV T a ∧ ch T (a + nmL T a) = 44 ∧ dgt (ch T (a + nmL T a + 1)) = true ∧ y = nmV T (a + nmL T a + 1) ∧ e = a + nmL T a + 1 + nmL T (a + nmL T a + 1)
def Bad (T : List Nat) (a f : Nat) : Prop := (dgt (ch T a) = false ∧ f = a) ∨ (dgt (ch T a) = true ∧ ch T (a + nmL T a) ≠ 44 ∧ f = a + nmL T a) ∨ (dgt (ch T a) = true ∧ ch T (a + nmL T a) = 44 ∧ dgt (ch T (a + nmL T a + 1)) = false ∧ f = a + nmL T a + 1)
theorem pt_or_bad (T : List Nat) (a : Nat) : (∃ x y e, Pt T a x y e) ∨ ∃ f, Bad T a f := by
  by_cases h1 : dgt (ch T a) = true
  · by_cases h2 : ch T (a + nmL T a) = 44
    · by_cases h3 : dgt (ch T (a + nmL T a + 1)) = true
      · exact Or.inl ⟨_, _, _, h1, rfl, h2, h3, rfl, rfl⟩
      · exact Or.inr ⟨_, Or.inr (Or.inr ⟨h1, h2, by simpa using h3, rfl⟩)⟩
    · exact Or.inr ⟨_, Or.inr (Or.inl ⟨h1, h2, rfl⟩)⟩
  · exact Or.inr ⟨_, Or.inl ⟨by simpa using h1, rfl⟩⟩
theorem Pt.b {T : List Nat} {a x y e : Nat} (h : Pt T a x y e) : x < 64 ∧ y < 64 ∧ a + 3 ≤ e ∧ e ≤ T.length := by
  obtain ⟨h1, h2, h3, h4, h5, h6⟩ := h
  have a1 := nm_end h1
  have a2 := nm_end h4
  exact ⟨by rw [h2]; exact nmV_lt h1, by rw [h5]; exact nmV_lt h4, by omega, by omega⟩
theorem Bad.le {T : List Nat} {a f : Nat} (h : Bad T a f) (ha : a ≤ T.length) : f ≤ T.length := by
  rcases h with ⟨-, h⟩ | ⟨h1, -, h⟩ | ⟨h1, h2, -, h⟩
  · omega
  · have := nm_end h1; omega
  · have : a + nmL T a < T.length := by
      by_cases e : a + nmL T a < T.length
      · exact e
      · rw [ch_end (by omega)] at h2; cases h2
    omega
/-- the points from a on; the fault, if there is one -/
def Prs (T : List Nat) : List (Nat × Nat) → Nat → Option Nat → Prop
  | [], a, r => ∃ f, Bad T a f ∧ r = some f
  | q :: K, a, r => ∃ e, Pt T a q.1 q.2 e ∧ ((e = T.length ∧ K = [] ∧ r = none) ∨ (e < T.length ∧ ch T e ≠ 59 ∧ K = [] ∧ r = some e) ∨ (e < T.length ∧ ch T e = 59 ∧ Prs T K (e + 1) r))
theorem prs_ex (T : List Nat) : ∀ (m a : Nat), T.length ≤ a + m → a ≤ T.length → ∃ K r, Prs T K a r := by
  intro m
  induction m using Nat.strongRecOn with
  | ind m ih =>
    intro a hm ha
    rcases pt_or_bad T a with ⟨x, y, e, h⟩ | ⟨f, h⟩
    · have hb := h.b
      by_cases h1 : e = T.length
      · exact ⟨[(x, y)], none, e, h, Or.inl ⟨h1, rfl, rfl⟩⟩
      · by_cases h2 : ch T e = 59
        · obtain ⟨K, r, hK⟩ := ih (T.length - (e + 1)) (by omega) (e + 1) (by omega) (by omega)
          exact ⟨(x, y) :: K, r, e, h, Or.inr (Or.inr ⟨by omega, h2, hK⟩)⟩
        · exact ⟨[(x, y)], some e, e, h, Or.inr (Or.inl ⟨by omega, h2, rfl, rfl⟩)⟩
    · exact ⟨[], some f, f, h, rfl⟩
theorem Prs.len {T : List Nat} : ∀ {K : List (Nat × Nat)} {a : Nat} {r : Option Nat}, Prs T K a r → a ≤ T.length → a + 4 * K.length ≤ T.length + 1
  | [], a, r, _, ha => by rw [List.length_nil]; omega
  | q :: K, a, r, ⟨e, h, h2⟩, ha => by
    have hb := h.b
    rw [List.length_cons]
    rcases h2 with ⟨h3, h4, -⟩ | ⟨h3, -, h4, -⟩ | ⟨h3, -, h4⟩
    · rw [h4, List.length_nil]; omega
    · rw [h4, List.length_nil]; omega
    · have := h4.len (by omega); omega
theorem Prs.xy {T : List Nat} : ∀ {K : List (Nat × Nat)} {a : Nat} {r : Option Nat}, Prs T K a r → ∀ q ∈ K, q.1 < 64 ∧ q.2 < 64
  | [], a, r, _, q, hq => by cases hq
  | p :: K, a, r, ⟨e, h, h2⟩, q, hq => by
    rcases List.mem_cons.mp hq with h3 | h3
    · rw [h3]; exact ⟨h.b.1, h.b.2.1⟩
    · rcases h2 with ⟨-, h4, -⟩ | ⟨-, -, h4, -⟩ | ⟨-, -, h4⟩
      · rw [h4] at h3; cases h3
      · rw [h4] at h3; cases h3
      · exact h4.xy q h3
theorem Prs.fle {T : List Nat} : ∀ {K : List (Nat × Nat)} {a f : Nat}, Prs T K a (some f) → a ≤ T.length → f ≤ T.length
  | [], a, f, ⟨f2, h, h2⟩, ha => by cases h2; exact h.le ha
  | q :: K, a, f, ⟨e, h, h2⟩, ha => by
    rcases h2 with ⟨-, -, h4⟩ | ⟨h3, -, -, h4⟩ | ⟨h3, -, h4⟩
    · cases h4
    · cases h4; omega
    · exact h4.fle (by omega)
def TxC (S : St) (T : List Nat) : Prop := S.1 45 = iI (T.length : Int) ∧ ∀ (i c : Nat), T[i]? = some c → S.2 70 i = iI (c : Int)
section T1
variable {S : St} {T : List Nat}
theorem r_chAt (hT : TxC S T) (hI : TxI T) {i : Nat} (hi : i < T.length) : f1_at S (iI (i : Int)) = some (iI (ch T i : Int)) := by
  have h60 := hI.1
  unfold f1_at f1_at_b23
  rw [iI_ofNat, q0, if_neg (by rw [iI_lt (by omega) (by omega) (by omega) (by omega)]; omega), if_neg (by rw [iI_le (by omega) (by omega) (by omega) (by omega)]; omega), arr_i (by omega) (by omega), hT.2 i _ (ch_at hi), isc_i (ch_lt hI i)]
theorem r_isDigit {c : Nat} (h : c < 65536) : f1_isDigit (iI (c : Int)) = some (b2i (dgt c)) := by
  unfold f1_isDigit f1_isDigit_b16 f1_isDigit_b17
  rw [q48, q57]
  by_cases h1 : c < 48
  · rw [if_pos (by rw [iI_lt (by omega) (by omega) (by omega) (by omega)]; omega), isz_0]
    unfold dgt; rw [decide_eq_false (by omega)]; rfl
  · rw [if_neg (by rw [iI_lt (by omega) (by omega) (by omega) (by omega)]; omega)]
    by_cases h2 : 57 < c
    · rw [if_pos (by rw [iI_lt (by omega) (by omega) (by omega) (by omega)]; omega), isz_0]
      unfold dgt; rw [decide_eq_false (by omega)]; rfl
    · rw [if_neg (by rw [iI_lt (by omega) (by omega) (by omega) (by omega)]; omega), isz_1]
      unfold dgt; rw [decide_eq_true (by omega)]; rfl
/-- the class's search for a fault, from a state of it -/
def FR (S : St) (T : List Nat) (num : Int32) (b : Bool) (i : Nat) (r : Int) : Prop := ∀ N, T.length < N + i → f1_fault_b6 S N num (b2i b) (iI (i : Int)) = some (iI r)
theorem b2i_ne {b : Bool} : (b2i b = 0) = (b = false) := by cases b <;> simp [b2i]
theorem fr_step {num : Int32} {b : Bool} {i : Nat} {r : Int} {num' : Int32} {b' : Bool} (hi : i < T.length) (h : FR S T num' b' (i + 1) r)
    (hs : ∀ n, f1_fault_b6 S (n + 1) num (b2i b) (iI (i : Int)) = f1_fault_b6 S n num' (b2i b') (iI ((i + 1 : Nat) : Int))) : FR S T num b i r := by
  intro N hN
  obtain ⟨N, rfl⟩ : ∃ N', N = N' + 1 := ⟨N - 1, by omega⟩
  rw [hs N]
  exact h N (by omega)
theorem fr_dig (hT : TxC S T) (hI : TxI T) {num : Int32} {b : Bool} {i : Nat} (hi : i < T.length) (hd : dgt (ch T i) = true) (n : Nat) : f1_fault_b6 S (n + 1) num (b2i b) (iI (i : Int)) = (f1_extended num (iI ((ch T i - 48 : Nat) : Int))).bind fun r_3 => if (r_3 : Int32) = (-1) then (some (iI (i : Int))) else (f1_fault_b6 S n r_3 (b2i b) (iI ((i + 1 : Nat) : Int))) := by
  have h60 := hI.1
  have hd2 := dgt_iff.mp hd
  have e : (iI (ch T i : Int) - 48 : Int32) = iI ((ch T i - 48 : Nat) : Int) := by rw [q48, iI_sub]; congr 1; omega
  rw [f1_fault_b6, hT.1, if_neg (by rw [iI_le (by omega) (by omega) (by omega) (by omega)]; omega), r_chAt hT hI hi, bnd_s, r_isDigit (ch_lt hI i), bnd_s, hd, if_neg (by decide), e]
  unfold f1_fault_b84
  rw [q1, iI_s]
theorem fr_not (hT : TxC S T) (hI : TxI T) {num : Int32} {b : Bool} {i : Nat} (hi : i < T.length) (hd : dgt (ch T i) = false) (n : Nat) : f1_fault_b6 S (n + 1) num (b2i b) (iI (i : Int)) = if num = -1 then some (iI (i : Int)) else if ch T i = (if b then 59 else 44) then f1_fault_b6 S n (-1) (b2i (!b)) (iI ((i + 1 : Nat) : Int)) else some (iI (i : Int)) := by
  have h60 := hI.1
  have hc := ch_lt hI i
  rw [f1_fault_b6, hT.1, if_neg (by rw [iI_le (by omega) (by omega) (by omega) (by omega)]; omega), r_chAt hT hI hi, bnd_s, r_isDigit (ch_lt hI i), bnd_s, hd, if_pos b2i_f]
  unfold f1_fault_b64 f1_fault_b78 f1_fault_b84 f1_fault_b82
  have ei : (iI (i : Int) + 1 : Int32) = iI ((i + 1 : Nat) : Int) := by rw [q1, iI_s]
  rw [ei, q44, q59]
  by_cases h1 : num = -1
  · rw [if_pos h1, if_pos h1]
  · rw [if_neg h1, if_neg h1]
    cases b
    · rw [if_pos b2i_f, if_pos b2i_f]
      by_cases h2 : ch T i = 44
      · rw [if_pos (by rw [h2]; rfl), if_pos (by simpa using h2)]; rfl
      · rw [if_neg (by rw [iI_eq (by omega) (by omega) (by omega) (by omega)]; omega), if_neg (by simpa using h2)]
    · have bt : ¬ b2i true = 0 := by decide
      rw [if_neg bt, if_neg bt]
      by_cases h2 : ch T i = 59
      · rw [if_pos (by rw [h2]; rfl), if_pos (by simpa using h2)]; rfl
      · rw [if_neg (by rw [iI_eq (by omega) (by omega) (by omega) (by omega)]; omega), if_neg (by simpa using h2)]
theorem fr_end (hT : TxC S T) (num : Int32) (b : Bool) : FR S T num b T.length (if b = true ∧ num ≠ -1 then -1 else (T.length : Int)) := by
  intro N hN
  obtain ⟨N, rfl⟩ : ∃ N', N = N' + 1 := ⟨N - 1, by omega⟩
  rw [f1_fault_b6, hT.1, if_pos (Int32.le_refl _)]
  unfold f1_fault_b103 f1_fault_b107
  cases b
  · rw [if_pos b2i_f, if_neg (by simp), hT.1]
  · rw [if_neg (by decide)]
    by_cases h : num = -1
    · rw [if_pos h, if_neg (by simp [h]), hT.1]
    · rw [if_neg h, if_pos ⟨rfl, h⟩]; rfl
theorem ext_n (d : Int32) : f1_extended (-1) d = some d := by unfold f1_extended; rw [if_pos rfl]
theorem ext_v {v d : Nat} (hv : v < 64) (hd : d < 10) : f1_extended (iI (v : Int)) (iI (d : Int)) = some (if v ≠ 0 ∧ 10 * v + d < 64 then iI ((10 * v + d : Nat) : Int) else iI (-1)) := by
  unfold f1_extended f1_extended_b24 f1_extended_b29
  have e : (iI (v : Int) * 10 + iI (d : Int) : Int32) = iI ((10 * v + d : Nat) : Int) := by rw [q10, iI_mul, iI_add]; congr 1; omega
  rw [iI_m1, if_neg (by rw [iI_eq (by omega) (by omega) (by omega) (by omega)]; omega), e, nam_r, q64, q0]
  by_cases h : v = 0
  · rw [if_pos (by rw [h]; rfl), if_neg (by omega)]
  · rw [if_neg (by rw [iI_eq (by omega) (by omega) (by omega) (by omega)]; omega)]
    by_cases h2 : 10 * v + d < 64
    · rw [if_pos (by rw [iI_lt (by omega) (by omega) (by omega) (by omega)]; omega), if_pos ⟨h, h2⟩]
    · rw [if_neg (by rw [iI_lt (by omega) (by omega) (by omega) (by omega)]; omega), if_neg (by omega)]
/-- behind a number: what comes there is no further digit of it -/
theorem fr_num (hT : TxC S T) (hI : TxI T) {a : Nat} {b : Bool} {r : Int} (hd : dgt (ch T a) = true) (h : FR S T (iI (nmV T a : Int)) b (a + nmL T a) r) : FR S T (-1) b a r := by
  have hd2 := dgt_iff.mp hd
  have hin := dgt_in hd
  have st1 : ∀ r, FR S T (iI ((ch T a - 48 : Nat) : Int)) b (a + 1) r → FR S T (-1) b a r := fun r h => by
    refine fr_step hin h (fun n => ?_)
    rw [fr_dig hT hI hin hd, ext_n, bnd_s, if_neg (by rw [iI_m1, iI_eq (by omega) (by omega) (by omega) (by omega)]; omega)]
  unfold nmV nmL at h
  by_cases c : two T a = true
  · rw [if_pos c, if_pos c] at h
    obtain ⟨c1, c2, c3⟩ := two_iff.mp c
    have c4 := dgt_iff.mp c2
    have hin2 := dgt_in c2
    refine st1 r (fr_step hin2 h (fun n => ?_))
    have ex : f1_extended (iI ((ch T a - 48 : Nat) : Int)) (iI ((ch T (a + 1) - 48 : Nat) : Int)) = some (iI ((10 * (ch T a - 48) + (ch T (a + 1) - 48) : Nat) : Int)) := by
      rw [ext_v (by omega) (by omega), if_pos ⟨by omega, c3⟩]
    rw [fr_dig hT hI hin2 c2, ex, bnd_s, if_neg (by rw [iI_m1, iI_eq (by omega) (by omega) (by omega) (by omega)]; omega)]
  · rw [if_neg c, if_neg c] at h
    exact st1 r h
/-- a digit behind a number that is full is a fault -/
theorem full (T : List Nat) {a : Nat} (hd : dgt (ch T a) = true) (h2 : dgt (ch T (a + nmL T a)) = true) : ¬ (nmV T a ≠ 0 ∧ 10 * nmV T a + (ch T (a + nmL T a) - 48) < 64) := by
  have hd2 := dgt_iff.mp hd
  unfold nmV nmL at *
  by_cases c : two T a = true
  · rw [if_pos c] at h2 ⊢
    rw [if_pos c]
    obtain ⟨c1, c2, c3⟩ := two_iff.mp c
    omega
  · rw [if_neg c] at h2 ⊢
    rw [if_neg c]
    have := mt two_iff.mpr c
    have h3 := dgt_iff.mp h2
    intro h
    exact this ⟨by omega, h2, h.2⟩
/-- what stands behind a number is no separator that is wanted there: a fault, or the end -/
theorem fr_sep (hT : TxC S T) (hI : TxI T) {a : Nat} {b : Bool} (hd : dgt (ch T a) = true) (hn : ch T (a + nmL T a) ≠ (if b then 59 else 44)) : FR S T (iI (nmV T a : Int)) b (a + nmL T a) (if b = true ∧ a + nmL T a = T.length then -1 else ((a + nmL T a : Nat) : Int)) := by
  have hb := nm_end hd
  have hv := nmV_lt hd
  have h60 := hI.1
  have hne : ¬ (iI (nmV T a : Int) = (-1 : Int32)) := by rw [iI_m1, iI_eq (by omega) (by omega) (by omega) (by omega)]; omega
  by_cases e : a + nmL T a = T.length
  · have h := fr_end hT (iI (nmV T a : Int)) b
    rw [e]
    cases b
    · rw [if_neg (by simp)] at h ⊢; exact h
    · rw [if_pos ⟨rfl, hne⟩] at h; rw [if_pos ⟨rfl, rfl⟩]; exact h
  · rw [if_neg (fun q => e q.2)]
    intro N hN
    obtain ⟨N, rfl⟩ : ∃ N', N = N' + 1 := ⟨N - 1, by omega⟩
    by_cases c : dgt (ch T (a + nmL T a)) = true
    · have c2 := dgt_iff.mp c
      rw [fr_dig hT hI (by omega) c, ext_v hv (by omega), bnd_s, if_neg (full T hd c), if_pos (show iI (-1) = -1 from rfl)]
    · rw [fr_not hT hI (by omega) (by simpa using c), if_neg hne, if_neg hn]
theorem fr_bad (hT : TxC S T) (hI : TxI T) {a f : Nat} (ha : a ≤ T.length) (h : Bad T a f) : FR S T (-1) false a f := by
  have nd : ∀ (i : Nat) (b : Bool), i ≤ T.length → dgt (ch T i) = false → FR S T (-1) b i i := fun i b hi hn => by
    by_cases e : i = T.length
    · have h := fr_end hT (-1) b
      rw [if_neg (by simp)] at h
      rw [e]; exact h
    · intro N hN
      obtain ⟨N, rfl⟩ : ∃ N', N = N' + 1 := ⟨N - 1, by omega⟩
      rw [fr_not hT hI (by omega) hn, if_pos rfl]
  rcases h with ⟨h1, h2⟩ | ⟨h1, h2, h3⟩ | ⟨h1, h2, h3, h4⟩
  · rw [h2]; exact nd a false ha h1
  · have := fr_sep hT hI (b := false) h1 (by simpa using h2)
    rw [if_neg (by simp)] at this
    rw [h3]
    exact fr_num hT hI h1 this
  · have hb := nm_end h1
    have hv := nmV_lt h1
    have hlt : a + nmL T a < T.length := by
      by_cases e : a + nmL T a < T.length
      · exact e
      · rw [ch_end (by omega)] at h2; cases h2
    have hne : ¬ (iI (nmV T a : Int) = (-1 : Int32)) := by rw [iI_m1, iI_eq (by omega) (by omega) (by omega) (by omega)]; omega
    rw [h4]
    refine fr_num hT hI h1 (fr_step hlt (nd _ true (by omega) h3) (fun n => ?_))
    rw [fr_not hT hI hlt (by rw [h2]; decide), if_neg hne, if_pos (by simpa using h2)]; rfl
theorem fr_pt (hT : TxC S T) (hI : TxI T) {a x y e : Nat} {r : Int} (h : Pt T a x y e) (hr : FR S T (iI (y : Int)) true e r) : FR S T (-1) false a r := by
  obtain ⟨h1, h2, h3, h4, h5, h6⟩ := h
  have hb := nm_end h1
  have hv := nmV_lt h1
  have hlt : a + nmL T a < T.length := by
    by_cases e : a + nmL T a < T.length
    · exact e
    · rw [ch_end (by omega)] at h3; cases h3
  have hne : ¬ (iI (nmV T a : Int) = (-1 : Int32)) := by rw [iI_m1, iI_eq (by omega) (by omega) (by omega) (by omega)]; omega
  rw [h5, h6] at hr
  refine fr_num hT hI h1 (fr_step hlt (fr_num hT hI h4 hr) (fun n => ?_))
  rw [fr_not hT hI hlt (by rw [h3]; decide), if_neg hne, if_pos (by simpa using h3)]; rfl
/-- the fault as the class tells it -/
def flt (r : Option Nat) : Int := match r with | none => -1 | some f => (f : Int)
theorem r_prs (hT : TxC S T) (hI : TxI T) : ∀ {K : List (Nat × Nat)} {a : Nat} {r : Option Nat}, a ≤ T.length → Prs T K a r → FR S T (-1) false a (flt r)
  | [], a, r, ha, ⟨f, h, h2⟩ => by rw [h2]; exact fr_bad hT hI ha h
  | q :: K, a, r, ha, ⟨e, h, h2⟩ => by
    refine fr_pt hT hI h ?_
    have hb := h.b
    have h60 := hI.1
    have h' := h
    obtain ⟨g1, g2, g3, g4, g5, g6⟩ := h'
    have hne : ¬ (iI (q.2 : Int) = (-1 : Int32)) := by rw [iI_m1, iI_eq (by omega) (by omega) (by omega) (by omega)]; omega
    rcases h2 with ⟨k1, k2, k3⟩ | ⟨k1, k2, k3, k4⟩ | ⟨k1, k2, k3⟩
    · rw [k3]
      have := fr_sep hT hI (b := true) g4 (by rw [← g6, ch_end (by omega)]; decide)
      rw [← g5, ← g6, if_pos ⟨rfl, k1⟩] at this
      exact this
    · rw [k4]
      have := fr_sep hT hI (b := true) g4 (by rw [← g6]; simpa using k2)
      rw [← g5, ← g6, if_neg (by omega)] at this
      exact this
    · refine fr_step k1 (r_prs hT hI (by omega) k3) (fun n => ?_)
      rw [fr_not hT hI k1 (by rw [k2]; decide), if_neg hne, if_pos (by simpa using k2)]; rfl
theorem r_fault (hT : TxC S T) (hI : TxI T) {K : List (Nat × Nat)} {r : Option Nat} (h : Prs T K 0 r) : f1_fault S = some (iI (flt r)) := by
  have h60 := hI.1
  exact r_prs hT hI (Nat.zero_le _) h fuelN (by unfold fuelN; omega)
end T1
