/-! STAGE B, 49: come, leave -/
section A1
variable {S M : St} {A : Ab} {H : List Ab} {sn : Option Ab} {T : List Nat}
theorem a_come (hI : GI A H sn T) (hC : GC S A H sn T) (hM : GM M A H sn T) (x y : Int32) : QA (f5_come S x y) (f6_come M x y) := by
  have hM1 := hM.t0
  obtain ⟨M1, e1⟩ : ∃ M1, M1 = sI M 0 0 := ⟨_, rfl⟩
  unfold f5_come f6_come
  rw [nam_r, ← e1]
  rw [← e1] at hM1
  rcases isPoint2 x y with ⟨a, b, ha, hb, rfl, rfl, h5, h6⟩ | ⟨h5, h6⟩
  · rw [h5, h6, bnd_s, bnd_s, if_neg n10, if_neg n10]
    obtain ⟨⟨L, hp, hP⟩, hV⟩ := hM1.1
    rw [m_refuses hP hp hV hI.1 ha hb, bnd_s]
    rcases r_dep hC.1 hI.1 ha hb with ⟨hr, hd⟩ | ⟨hr, h16, t, ht, hd⟩
    · rw [hd, bnd_s, q0, if_neg (by rw [iI_le (by omega) (by omega) (by omega) (by omega)]; omega), if_neg (by rw [iI_eq (by omega) (by omega) (by omega) (by omega)]; omega)]
      exact ⟨_, _, _, rfl, rfl, A, H, sn, T, hI, hC, hM1⟩
    · have hle := ht.le hI.1 ha hb
      have hlen := ht.len hI.1 ha hb h16
      obtain ⟨S3, g1, g2, g3, g4⟩ := hC.push hI
      obtain ⟨M4, k1, k2, k3, k4⟩ := hM1.rec hI
      obtain ⟨L3, hp3, hP3⟩ := g2.1.1
      obtain ⟨S5, d1, d2, d3⟩ := r_settle hP3 hp3 g2.1.2 hI.1 ha hb h16 hle (by omega)
      obtain ⟨M6, c1, c2, c3⟩ := m_comes k2.1 hI.1 ha hb h16 ht
      rw [hd, bnd_s, hr, q0, if_pos (by rw [iI_le (by omega) (by omega) (by omega) (by omega)]; omega), if_pos rfl, g1, bnd_s, d1, bd2_s, k1, bnd_s, c1, bd2_s]
      exact ⟨_, _, _, rfl, rfl, comeA A a b t, (A :: H).take 4, sn, T, hI.act (come_inv hI.1 ha hb h16 ht), g2.fr0 d2 d3, k2.fr c2 c3⟩
  · rw [h5, h6, bnd_s, bnd_s, if_pos y00, if_pos y00]
    exact ⟨_, _, _, rfl, rfl, A, H, sn, T, hI, hC, hM1⟩
theorem a_leave (hI : GI A H sn T) (hC : GC S A H sn T) (hM : GM M A H sn T) (z : Int32) : QA (f5_leave S z) (f6_leave M z) := by
  have hM1 := hM.t0
  obtain ⟨M1, e1⟩ : ∃ M1, M1 = sI M 0 0 := ⟨_, rfl⟩
  unfold f5_leave f6_leave
  rw [nam_r, ← e1]
  rw [← e1] at hM1
  rcases isHere2 hC.1.2 hM1.1.2 hI.1 z with ⟨k, hk, rfl, h5, h6⟩ | ⟨h5, h6⟩
  · rw [h5, h6, bnd_s, bnd_s, if_neg n10, if_neg n10]
    obtain ⟨S2, g1, g2, g3, g4⟩ := hC.push hI
    obtain ⟨M3, k1, k2, k3, k4⟩ := hM1.rec hI
    rw [g1, bnd_s, k1, bnd_s]
    show QA _ (tLv M3 (iI (k : Int)))
    by_cases h0 : ∀ j, ¬ Here (goneA A k) j
    · obtain ⟨S3, d1, d2, d3⟩ := r_sendAll g2.1 hI.1 hk h0
      obtain ⟨M', c1, c2, c3⟩ := m_leaveAll k2.1 hI.1 hk h0
      have hA := all_inv hI.1 h0
      have hn : nH (allA A k) = 0 := (nH_0 hA).mpr h0
      rw [d1, bnd_s, r_campersHere d3.2 hA, bnd_s, c1, hn]
      exact ⟨_, _, _, rfl, rfl, allA A k, (A :: H).take 4, sn, T, hI.act hA, g2.fr0 d2 d3, k2.fr c2 c3⟩
    · obtain ⟨j, hj⟩ : ∃ j, Here (goneA A k) j := Classical.byContradiction fun q => h0 fun j hj => q ⟨j, hj⟩
      have hj2 := gone_here hj
      have hG := gone_inv hI.1 hk hj2.1 hj2.2
      obtain ⟨A', hL, hA⟩ := lv_ex (cntW (aL (goneA A k)) k) (goneA A k) rfl hG (fun h => (gone_here h).2 rfl) hj
      have hm : cntW (aL (goneA A k)) k ≤ 181 := Nat.le_trans (cntW_le _ _) hI.1.wf.1
      obtain ⟨S3, d1, d2, d3⟩ := r_sendSome g2.1 hI.1 hk hj2.1 hj2.2 hL hm
      obtain ⟨M', c1, c2, c3⟩ := m_leaveSome k2.1 hI.1 hk hj2.1 hj2.2 hL hm
      rw [d1, bnd_s, r_campersHere d3.2 hA, bnd_s, c1]
      exact ⟨_, _, _, rfl, rfl, A', (A :: H).take 4, sn, T, hI.act hA, g2.fr0 d2 d3, k2.fr c2 c3⟩
  · rw [h5, h6, bnd_s, bnd_s, if_pos y00, if_pos y00]
    exact ⟨_, _, _, rfl, rfl, A, H, sn, T, hI, hC, hM1⟩
end A1
