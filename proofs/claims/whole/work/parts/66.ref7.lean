/-! STAGE B, 36: what the reference writes -/
/-- nothing but the state's own cells differs -/
def FrM (M M' : St) : Prop := M'.1 = M.1 ∧ ∀ r, r ≠ 0 → M'.2 r = M.2 r
theorem FrM.rf (M : St) : FrM M M := ⟨rfl, fun _ _ => rfl⟩
theorem FrM.tr {M M' M'' : St} (h1 : FrM M M') (h2 : FrM M' M'') : FrM M M'' := ⟨h2.1.trans h1.1, fun r hr => (h2.2 r hr).trans (h1.2 r hr)⟩
theorem FrM.sA (M : St) (i : Nat) (v : Int32) : FrM M (sA M 0 i v) := ⟨rfl, fun _ hr => sA_ne _ _ _ hr⟩
theorem w_cell {α : Type} (M : St) {z : Int32} {i : Nat} (hz : z = iI (i : Int)) (hi : i < 886) (v : Int32) (k : St → Option α) : (sto (mlen 0) z <| nam (sA M 0 (Int32.toNatClampNeg z) v) k) = k (sA M 0 i v) := by
  rw [hz, ml0, sto_i hi (by omega), iI_cl (by omega), nam_r]
theorem cell_pl (i k : Nat) : (54 + (4 : Int32) * iI (i : Int)) + iI (k : Int) = iI ((54 + 4 * i + k : Nat) : Int) := by
  rw [cell_c]; congr 1
theorem cell_p0 (i : Nat) : (54 + (4 : Int32) * iI (i : Int)) + 0 = iI ((54 + 4 * i : Nat) : Int) := cell_pl i 0
theorem cell_p1 (i : Nat) : (54 + (4 : Int32) * iI (i : Int)) + 1 = iI ((54 + 4 * i + 1 : Nat) : Int) := cell_pl i 1
theorem cell_p2 (i : Nat) : (54 + (4 : Int32) * iI (i : Int)) + 2 = iI ((54 + 4 * i + 2 : Nat) : Int) := cell_pl i 2
theorem cell_p3 (i : Nat) : (54 + (4 : Int32) * iI (i : Int)) + 3 = iI ((54 + 4 * i + 3 : Nat) : Int) := cell_pl i 3
theorem m_layPlot (M : St) {i : Nat} (hi : i < 192) (d x y w : Int32) : ∃ M', f6_layPlot M (iI (i : Int)) d x y w = some M' ∧ FrM M M' ∧ M'.2 0 (54 + 4 * i) = d ∧ M'.2 0 (54 + 4 * i + 1) = x ∧ M'.2 0 (54 + 4 * i + 2) = y ∧ M'.2 0 (54 + 4 * i + 3) = w ∧ ∀ j, (j < 54 + 4 * i ∨ 54 + 4 * i + 4 ≤ j) → M'.2 0 j = M.2 0 j := by
  unfold f6_layPlot
  rw [w_cell M (i := 54 + 4 * i) (cell_p0 i) (by omega), w_cell _ (i := 54 + 4 * i + 1) (cell_p1 i) (by omega), w_cell _ (i := 54 + 4 * i + 2) (cell_p2 i) (by omega), w_cell _ (i := 54 + 4 * i + 3) (cell_p3 i) (by omega)]
  refine ⟨_, rfl, (((FrM.sA _ _ _).tr (FrM.sA _ _ _)).tr (FrM.sA _ _ _)).tr (FrM.sA _ _ _), ?_, ?_, ?_, ?_, fun j hj => ?_⟩
  · rw [sA_eq, upd_n (by omega), sA_eq, upd_n (by omega), sA_eq, upd_n (by omega), sA_eq, upd_s]
  · rw [sA_eq, upd_n (by omega), sA_eq, upd_n (by omega), sA_eq, upd_s]
  · rw [sA_eq, upd_n (by omega), sA_eq, upd_s]
  · rw [sA_eq, upd_s]
  · rw [sA_eq, upd_n (by omega), sA_eq, upd_n (by omega), sA_eq, upd_n (by omega), sA_eq, upd_n (by omega)]
