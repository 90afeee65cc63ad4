abbrev rX6_loudest : Room := { frames := 6, cells := 0, slots := 0, locals := 134 }
set_option maxRecDepth 100000 in
set_option maxHeartbeats 8000000 in
theorem tX6_loudest (l : Launch) (G : WG) (S0 M0 : St) (rr : Int32) (M' : St) (h : f6_loudest M0 = some (rr, M')) : CtI l yX6_loudest wsX6_loudest rX6_loudest G [.ref (gad G 159)] S0 M0 rr S0 M' := by
  refine Met.ofW (cc := cX6_loudest) (maxL := 6) (ret := (some .int)) (by decide) rfl ?_
  intro p e s m args below meth cd s₁ B hml hv
  obtain ⟨hargs, hK, hW⟩ := hv
  have hx := B.exec
  have hb := B.bytes
  have hr := B.returns
  have hts := atoms_spec (ws := wsX6_loudest) B.pre
  have hown : s.vm.findClass RX6 = some m.cls := findClass_of_methodNamed B.named
  have hlocks := B.notSynchronized
  have hA : ∀ q, Aw G q → Aw G q := fun _ h => h
  have hS : va_S (Aw G) s.heap s.heap [] := va_S.rf
  have he0 : entryFrame m args 6 = F0 m 0 ((lg_sl ([.ref (gad G 159)]) ++ List.replicate (6 - (lg_sl ([.ref (gad G 159)])).length) Slot.unset).toArray) [] := by rw [hargs]; exact lg_entry_eq _ _ _
  have hl := lv_entry ([.ref (gad G 159)]) (n := 6) (Nat.le_of_ble_eq_true rfl)
  rw [he0]
  generalize (lg_sl ([.ref (gad G 159)]) ++ List.replicate (6 - (lg_sl ([.ref (gad G 159)])).length) Slot.unset).toArray = ls at hl ⊢
  have hl : lv_has ls 6 [(0, .ref (gad G 159))] := hl
  have hiX6 : ∀ w ∈ u_ws RX6 TX6 14, w ∈ wsX6_loudest := by decide +kernel
  have B12 : ∀ (n : Nat), ∀ (H : Heap) (locs : List Loc) (M : St) (_ : WD G S0 M H) (_ : va_S (Aw G) s.heap H locs) (ls : Array Slot) (l1 : Int32) (l2 : UInt32) (l3 : Int32) (_ : lv_has ls 6 [(0, .ref (gad G 159)), (1, .int l1), (2, .float l2), (3, .int l3)]) (h : f6_loudest_b12 M n l1 l2 l3 = some (rr, M')), WI p l e (headSpec wsX6_loudest rX6_loudest).room s m args below meth cd G rr S0 M' H locs (F0 m 12 ls []) := by
    intro n
    induction n with
    | zero => intro H locs M hW hS ls l1 l2 l3 hl h; cases (show (none : Option (Int32 × St)) = some _ from h)
    | succ n ih =>
      have B76 : ∀ (H : Heap) (locs : List Loc) (M : St) (_ : WD G S0 M H) (_ : va_S (Aw G) s.heap H locs) (ls : Array Slot) (l1 : Int32) (l2 : UInt32) (l3 : Int32) (_ : lv_has ls 6 [(0, .ref (gad G 159)), (1, .int l1), (2, .float l2), (3, .int l3)]) (h : f6_loudest_b76 M (f6_loudest_b12 M n) l1 l2 l3 = some (rr, M')), WI p l e (headSpec wsX6_loudest rX6_loudest).room s m args below meth cd G rr S0 M' H locs (F0 m 76 ls []) := by
        intro H locs M hW hS ls l1 l2 l3 hl h
        unfold f6_loudest_b76 at h
        refine lv_iinc (v := (l3 + 1)) (lv' := [(3, .int ((l3 + 1))), (0, .ref (gad G 159)), (1, .int l1), (2, .float l2)]) hx hb dX6_loudest_76 hl (k := 3) rfl rfl (by decide) rfl (fun ls hl => ?_)
        refine lv_goto (tgt := 12) hx hb dX6_loudest_79 (by decide) ?_
        exact ih _ _ M hW hS ls l1 l2 ((l3 + 1)) (lv_sub hl [1, 2, 3, 0] rfl) h
      have B75 : ∀ (H : Heap) (locs : List Loc) (M : St) (_ : WD G S0 M H) (_ : va_S (Aw G) s.heap H locs) (ls : Array Slot) (l1 : Int32) (l3 : Int32) (k0 : UInt32) (_ : lv_has ls 6 [(0, .ref (gad G 159)), (1, .int l1), (3, .int l3)]) (h : f6_loudest_b75 M (f6_loudest_b12 M n) l1 l3 k0 = some (rr, M')), WI p l e (headSpec wsX6_loudest rX6_loudest).room s m args below meth cd G rr S0 M' H locs (F0 m 75 ls [.float k0]) := by
        intro H locs M hW hS ls l1 l3 k0 hl h
        unfold f6_loudest_b75 at h
        refine lv_fstore_n (lv' := [(2, .float k0), (0, .ref (gad G 159)), (1, .int l1), (3, .int l3)]) hx hb dX6_loudest_75 rfl hl (by decide) rfl (fun ls hl => ?_)
        exact B76 _ _ M hW hS ls l1 k0 l3 (lv_sub hl [1, 2, 0, 3] rfl) h
      have B63 : ∀ (H : Heap) (locs : List Loc) (M : St) (_ : WD G S0 M H) (_ : va_S (Aw G) s.heap H locs) (ls : Array Slot) (l2 : UInt32) (l3 : Int32) (l4 : UInt32) (l5 : Int32) (k0 : Int32) (_ : lv_has ls 6 [(0, .ref (gad G 159)), (2, .float l2), (3, .int l3), (4, .float l4), (5, .int l5)]) (h : f6_loudest_b63 M (f6_loudest_b12 M n) l2 l3 l4 l5 k0 = some (rr, M')), WI p l e (headSpec wsX6_loudest rX6_loudest).room s m args below meth cd G rr S0 M' H locs (F0 m 63 ls [.int k0]) := by
        intro H locs M hW hS ls l2 l3 l4 l5 k0 hl h
        unfold f6_loudest_b63 at h
        refine lv_istore_n (lv' := [(1, .int k0), (0, .ref (gad G 159)), (2, .float l2), (3, .int l3), (4, .float l4), (5, .int l5)]) hx hb dX6_loudest_63 rfl hl (by decide) rfl (fun ls hl => ?_)
        refine lv_iload hx hb dX6_loudest_64 (lv_at hl 5 rfl) ?_
        refine lv_if_eq (tgt := 74) hx hb dX6_loudest_66 (by decide) (fun c_1 => ?_) (fun c_1 => ?_)
        · have h := ite_t c_1 h
          refine lv_fload_n hx hb dX6_loudest_74 rfl (lv_at hl 2 rfl) ?_
          exact B75 _ _ M hW hS ls k0 l3 l2 (lv_sub hl [1, 0, 3] rfl) h
        · have h := ite_f c_1 h
          refine lv_fload hx hb dX6_loudest_69 (lv_at hl 4 rfl) ?_
          refine lv_goto (tgt := 75) hx hb dX6_loudest_71 (by decide) ?_
          exact B75 _ _ M hW hS ls k0 l3 l4 (lv_sub hl [1, 0, 3] rfl) h
      have B51 : ∀ (H : Heap) (locs : List Loc) (M : St) (_ : WD G S0 M H) (_ : va_S (Aw G) s.heap H locs) (ls : Array Slot) (l1 : Int32) (l2 : UInt32) (l3 : Int32) (l4 : UInt32) (k0 : Int32) (_ : lv_has ls 6 [(0, .ref (gad G 159)), (1, .int l1), (2, .float l2), (3, .int l3), (4, .float l4)]) (h : f6_loudest_b51 M (f6_loudest_b12 M n) l1 l2 l3 l4 k0 = some (rr, M')), WI p l e (headSpec wsX6_loudest rX6_loudest).room s m args below meth cd G rr S0 M' H locs (F0 m 51 ls [.int k0]) := by
        intro H locs M hW hS ls l1 l2 l3 l4 k0 hl h
        unfold f6_loudest_b51 at h
        refine lv_istore (lv' := [(5, .int k0), (0, .ref (gad G 159)), (1, .int l1), (2, .float l2), (3, .int l3), (4, .float l4)]) hx hb dX6_loudest_51 hl (by decide) rfl (fun ls hl => ?_)
        refine lv_iload hx hb dX6_loudest_53 (lv_at hl 0 rfl) ?_
        refine lv_if_eq (tgt := 62) hx hb dX6_loudest_55 (by decide) (fun c_1 => ?_) (fun c_1 => ?_)
        · have h := ite_t c_1 h
          refine lv_iload_n hx hb dX6_loudest_62 rfl (lv_at hl 2 rfl) ?_
          exact B63 _ _ M hW hS ls l2 l3 l4 k0 l1 (lv_sub hl [1, 3, 4, 5, 0] rfl) h
        · have h := ite_f c_1 h
          refine lv_iload_n hx hb dX6_loudest_58 rfl (lv_at hl 4 rfl) ?_
          refine lv_goto (tgt := 63) hx hb dX6_loudest_59 (by decide) ?_
          exact B63 _ _ M hW hS ls l2 l3 l4 k0 l3 (lv_sub hl [1, 3, 4, 5, 0] rfl) h
      have B46 : ∀ (H : Heap) (locs : List Loc) (M : St) (_ : WD G S0 M H) (_ : va_S (Aw G) s.heap H locs) (ls : Array Slot) (l1 : Int32) (l2 : UInt32) (l3 : Int32) (l4 : UInt32) (_ : lv_has ls 6 [(0, .ref (gad G 159)), (1, .int l1), (2, .float l2), (3, .int l3), (4, .float l4)]) (h : f6_loudest_b46 M (f6_loudest_b12 M n) l1 l2 l3 l4 = some (rr, M')), WI p l e (headSpec wsX6_loudest rX6_loudest).room s m args below meth cd G rr S0 M' H locs (F0 m 46 ls []) := by
        intro H locs M hW hS ls l1 l2 l3 l4 hl h
        unfold f6_loudest_b46 at h
        refine lv_iconst (v := 1) hx hb dX6_loudest_46 (by decide) ?_
        refine lv_goto (tgt := 51) hx hb dX6_loudest_47 (by decide) ?_
        exact B51 _ _ M hW hS ls l1 l2 l3 l4 1 (lv_sub hl [0, 1, 2, 3, 4] rfl) h
      intro H locs M hW hS ls l1 l2 l3 hl h
      rw [f6_loudest_b12] at h
      refine lv_iload_n hx hb dX6_loudest_12 rfl (lv_at hl 3 rfl) ?_
      refine lv_bipush (v := 16) hx hb dX6_loudest_13 (by decide) ?_
      refine lv_icmp_ge (tgt := 82) hx hb dX6_loudest_15 (by decide) (fun c_1 => ?_) (fun c_1 => ?_)
      · have h := ite_t c_1 h
        refine lv_iload_n hx hb dX6_loudest_82 rfl (lv_at hl 1 rfl) ?_
        obtain ⟨rfl, rfl⟩ := Prod.mk.inj (Option.some.inj h)
        exact W.iret hx hb hr (fun t ht hw => ⟨⟨_, (), rfl, rfl, hW.ret ht⟩, hS.F ht⟩) hS.2.2 dX6_loudest_83
      · have h := ite_f c_1 h
        refine lv_aload_n hx hb dX6_loudest_18 rfl (lv_at hl 0 rfl) ?_
        refine lv_iload_n hx hb dX6_loudest_19 rfl (lv_at hl 3 rfl) ?_
        obtain ⟨r_2, e_3, h⟩ := bnd_e h
        refine kV_I (As := [.int l3]) (rest := []) ⟨hx, hb, hml, hown, hts⟩ (tX6_isHere l G S0 M l3 r_2 e_3) (cwV 1 hts gX6_loudest_X6_isHere rfl rfl rfl ⟨rfl, hdX6_isHere⟩ ⟨Nat.le_of_ble_eq_true rfl, Nat.le_of_ble_eq_true rfl⟩) (va_recv hK.1 hW.1 (ci := 6) (q0 := 159) rfl lkM) hK hW hS hA rfl hl.1 rfl (Nat.le_of_ble_eq_true rfl) dX6_loudest_20 ⟨Nat.zero_le _, Nat.zero_le _⟩ (fun H locs hW hS => ?_)
        refine lv_if_eq (tgt := 76) hx hb dX6_loudest_23 (by decide) (fun c_4 => ?_) (fun c_4 => ?_)
        · have h := ite_t c_4 h
          exact B76 _ _ M hW hS ls l1 l2 l3 (lv_sub hl [0, 1, 2, 3] rfl) h
        · have h := ite_f c_4 h
          refine lv_aload_n hx hb dX6_loudest_26 rfl (lv_at hl 0 rfl) ?_
          refine lv_iload_n hx hb dX6_loudest_27 rfl (lv_at hl 3 rfl) ?_
          obtain ⟨r_5, e_6, h⟩ := bnd_e h
          refine kV_F (As := [.int l3]) (rest := []) ⟨hx, hb, hml, hown, hts⟩ (tX6_loudness l G S0 M l3 r_5 e_6) (cwV 1 hts gX6_loudest_X6_loudness rfl rfl rfl ⟨rfl, hdX6_loudness⟩ ⟨Nat.le_of_ble_eq_true rfl, Nat.le_of_ble_eq_true rfl⟩) (va_recv hK.1 hW.1 (ci := 6) (q0 := 159) rfl lkM) hK hW hS hA rfl hl.1 rfl (Nat.le_of_ble_eq_true rfl) dX6_loudest_28 ⟨Nat.zero_le _, Nat.zero_le _⟩ (fun H locs hW hS => ?_)
          refine lv_fstore (lv' := [(4, .float r_5), (0, .ref (gad G 159)), (1, .int l1), (2, .float l2), (3, .int l3)]) hx hb dX6_loudest_31 hl (by decide) rfl (fun ls hl => ?_)
          refine lv_iload_n hx hb dX6_loudest_33 rfl (lv_at hl 2 rfl) ?_
          refine lv_bipush (v := (-5)) hx hb dX6_loudest_34 (by decide) ?_
          refine lv_icmp_eq (tgt := 46) hx hb dX6_loudest_36 (by decide) (fun c_7 => ?_) (fun c_7 => ?_)
          · have h := ite_t c_7 h
            exact B46 _ _ M hW hS ls l1 l2 l3 r_5 (lv_sub hl [1, 2, 3, 4, 0] rfl) h
          · have h := ite_f c_7 h
            refine lv_fload hx hb dX6_loudest_39 (lv_at hl 0 rfl) ?_
            refine lv_fload_n hx hb dX6_loudest_41 rfl (lv_at hl 3 rfl) ?_
            refine lv_fcmp hx hb dX6_loudest_42 ?_
            refine lv_if_le (tgt := 50) hx hb dX6_loudest_43 (by decide) (fun c_8 => ?_) (fun c_8 => ?_)
            · have h := ite_t c_8 h
              refine lv_iconst (v := 0) hx hb dX6_loudest_50 (by decide) ?_
              exact B51 _ _ M hW hS ls l1 l2 l3 r_5 0 (lv_sub hl [1, 2, 3, 4, 0] rfl) h
            · have h := ite_f c_8 h
              exact B46 _ _ M hW hS ls l1 l2 l3 r_5 (lv_sub hl [1, 2, 3, 4, 0] rfl) h
  unfold f6_loudest at h
  refine lv_aload_n hx hb dX6_loudest_0 rfl (lv_at hl 0 rfl) ?_
  refine lv_iconst (v := 0) hx hb dX6_loudest_1 (by decide) ?_
  obtain ⟨M_1, eM_1, h⟩ := nam_e h
  refine va_put (D := G.1) (ci := 6) (v := .int 0) (ty := .int) (C := RX6) (T := TX6) (N := 14) hx hb hts hiX6 tyX6 tyX6_ok nmX6 hown hK.1 hW.1 (hW.D hA) hS 159 lkM rfl 0 (by decide) (hts _ (List.mem_of_getElem? (i := 1) rfl)) (fun _ h9 => h9) rfl (by decide +kernel) rfl rfl (Nat.le_of_ble_eq_true rfl) dX6_loudest_2 (fun H locs hP hD hS => ?_)
  have hW := upM0 hW hP
  rw [← eM_1] at hW
  refine lv_bipush (v := (-5)) hx hb dX6_loudest_5 (by decide) ?_
  refine lv_istore_n (lv' := [(1, .int ((-5))), (0, .ref (gad G 159))]) hx hb dX6_loudest_7 rfl hl (by decide) rfl (fun ls hl => ?_)
  refine lv_fconst0 hx hb dX6_loudest_8 ?_
  refine lv_fstore_n (lv' := [(2, .float FP.fconst0), (1, .int ((-5))), (0, .ref (gad G 159))]) hx hb dX6_loudest_9 rfl hl (by decide) rfl (fun ls hl => ?_)
  refine lv_iconst (v := 0) hx hb dX6_loudest_10 (by decide) ?_
  refine lv_istore_n (lv' := [(3, .int 0), (2, .float FP.fconst0), (1, .int ((-5))), (0, .ref (gad G 159))]) hx hb dX6_loudest_11 rfl hl (by decide) rfl (fun ls hl => ?_)
  exact B12 fuelN _ _ M_1 hW hS ls ((-5)) FP.fconst0 0 (lv_sub hl [3, 2, 1, 0] rfl) h
abbrev rX6_share : Room := { frames := 3, cells := 0, slots := 0, locals := 66 }
set_option maxRecDepth 100000 in
set_option maxHeartbeats 8000000 in
theorem tX6_share (l : Launch) (G : WG) (S0 M0 : St) (p1 : Int32) (rr : UInt32) (M' : St) (h : f6_share M0 p1 = some (rr, M')) : CtF l yX6_share wsX6_share rX6_share G [.ref (gad G 159), .int p1] S0 M0 rr S0 M' := by
  refine Met.ofW (cc := cX6_share) (maxL := 2) (ret := (some .float)) (by decide) rfl ?_
  intro p e s m args below meth cd s₁ B hml hv
  obtain ⟨hargs, hK, hW⟩ := hv
  have hx := B.exec
  have hb := B.bytes
  have hr := B.returns
  have hts := atoms_spec (ws := wsX6_share) B.pre
  have hown : s.vm.findClass RX6 = some m.cls := findClass_of_methodNamed B.named
  have hlocks := B.notSynchronized
  have hA : ∀ q, Aw G q → Aw G q := fun _ h => h
  have hS : va_S (Aw G) s.heap s.heap [] := va_S.rf
  have he0 : entryFrame m args 2 = F0 m 0 ((lg_sl ([.ref (gad G 159), .int p1]) ++ List.replicate (2 - (lg_sl ([.ref (gad G 159), .int p1])).length) Slot.unset).toArray) [] := by rw [hargs]; exact lg_entry_eq _ _ _
  have hl := lv_entry ([.ref (gad G 159), .int p1]) (n := 2) (Nat.le_of_ble_eq_true rfl)
  rw [he0]
  generalize (lg_sl ([.ref (gad G 159), .int p1]) ++ List.replicate (2 - (lg_sl ([.ref (gad G 159), .int p1])).length) Slot.unset).toArray = ls at hl ⊢
  have hl : lv_has ls 2 [(0, .ref (gad G 159)), (1, .int p1)] := hl
  have hiX6 : ∀ w ∈ u_ws RX6 TX6 14, w ∈ wsX6_share := by decide +kernel
  have B27 : ∀ (H : Heap) (locs : List Loc) (M : St) (_ : WD G S0 M H) (_ : va_S (Aw G) s.heap H locs) (ls : Array Slot) (k0 : UInt32) (_ : lv_has ls 2 []) (h : f6_share_b27 M k0 = some (rr, M')), WF p l e (headSpec wsX6_share rX6_share).room s m args below meth cd G rr S0 M' H locs (F0 m 27 ls [.float k0]) := by
    intro H locs M hW hS ls k0 hl h
    unfold f6_share_b27 at h
    obtain ⟨rfl, rfl⟩ := Prod.mk.inj (Option.some.inj h)
    exact W.fret hx hb hr (fun t ht hw => ⟨⟨_, (), rfl, rfl, hW.ret ht⟩, hS.F ht⟩) hS.2.2 dX6_share_27
  unfold f6_share at h
  refine lv_aload_n hx hb dX6_share_0 rfl (lv_at hl 0 rfl) ?_
  refine lv_iconst (v := 0) hx hb dX6_share_1 (by decide) ?_
  obtain ⟨M_1, eM_1, h⟩ := nam_e h
  refine va_put (D := G.1) (ci := 6) (v := .int 0) (ty := .int) (C := RX6) (T := TX6) (N := 14) hx hb hts hiX6 tyX6 tyX6_ok nmX6 hown hK.1 hW.1 (hW.D hA) hS 159 lkM rfl 0 (by decide) (hts _ (List.mem_of_getElem? (i := 1) rfl)) (fun _ h9 => h9) rfl (by decide +kernel) rfl rfl (Nat.le_of_ble_eq_true rfl) dX6_share_2 (fun H locs hP hD hS => ?_)
  have hW := upM0 hW hP
  rw [← eM_1] at hW
  refine lv_aload_n hx hb dX6_share_5 rfl (lv_at hl 0 rfl) ?_
  refine lv_iload_n hx hb dX6_share_6 rfl (lv_at hl 1 rfl) ?_
  obtain ⟨r_2, e_3, h⟩ := bnd_e h
  refine kV_I (As := [.int p1]) (rest := []) ⟨hx, hb, hml, hown, hts⟩ (tX6_isHere l G S0 M_1 p1 r_2 e_3) (cwV 1 hts gX6_share_X6_isHere rfl rfl rfl ⟨rfl, hdX6_isHere⟩ ⟨Nat.le_of_ble_eq_true rfl, Nat.le_of_ble_eq_true rfl⟩) (va_recv hK.1 hW.1 (ci := 6) (q0 := 159) rfl lkM) hK hW hS hA rfl hl.1 rfl (Nat.le_of_ble_eq_true rfl) dX6_share_7 ⟨Nat.zero_le _, Nat.zero_le _⟩ (fun H locs hW hS => ?_)
  refine lv_if_eq (tgt := 25) hx hb dX6_share_10 (by decide) (fun c_4 => ?_) (fun c_4 => ?_)
  · have h := ite_t c_4 h
    refine lv_ldcf hx hb hown (hts _ (List.mem_of_getElem? (i := 3) rfl)) dX6_share_25 ?_
    exact B27 _ _ M_1 hW hS ls 3212836864 (lv_sub hl [] rfl) h
  · have h := ite_f c_4 h
    refine lv_aload_n hx hb dX6_share_13 rfl (lv_at hl 0 rfl) ?_
    refine lv_iload_n hx hb dX6_share_14 rfl (lv_at hl 1 rfl) ?_
    obtain ⟨r_5, e_6, h⟩ := bnd_e h
    refine kV_I (As := [.int p1]) (rest := []) ⟨hx, hb, hml, hown, hts⟩ (tX6_areaOf l G S0 M_1 p1 r_5 e_6) (cwV 1 hts gX6_share_X6_areaOf rfl rfl rfl ⟨rfl, hdX6_areaOf⟩ ⟨Nat.le_of_ble_eq_true rfl, Nat.le_of_ble_eq_true rfl⟩) (va_recv hK.1 hW.1 (ci := 6) (q0 := 159) rfl lkM) hK hW hS hA rfl hl.1 rfl (Nat.le_of_ble_eq_true rfl) dX6_share_15 ⟨Nat.zero_le _, Nat.zero_le _⟩ (fun H locs hW hS => ?_)
    refine lv_i2f hx hb dX6_share_18 ?_
    refine lv_ldcf hx hb hown (hts _ (List.mem_of_getElem? (i := 2) rfl)) dX6_share_19 ?_
    obtain ⟨x_7, nx_7, ex_7, h⟩ := fnn_e h
    refine lv_fdiv hx hb dX6_share_21 nx_7 ?_
    refine lv_nf ex_7 ?_
    refine lv_goto (tgt := 27) hx hb dX6_share_22 (by decide) ?_
    exact B27 _ _ M_1 hW hS ls x_7 (lv_sub hl [] rfl) h
abbrev rX6_depthOf : Room := { frames := 1, cells := 0, slots := 0, locals := 22 }
set_option maxRecDepth 100000 in
set_option maxHeartbeats 8000000 in
theorem tX6_depthOf (l : Launch) (G : WG) (S0 M0 : St) (p1 : Int32) (rr : Int32) (h : f6_depthOf M0 p1 = some (rr)) : CtI l yX6_depthOf wsX6_depthOf rX6_depthOf G [.ref (gad G 159), .int p1] S0 M0 rr S0 M0 := by
  refine Met.ofW (cc := cX6_depthOf) (maxL := 5) (ret := (some .int)) (by decide) rfl ?_
  intro p e s m args below meth cd s₁ B hml hv
  obtain ⟨hargs, hK, hW⟩ := hv
  have hx := B.exec
  have hb := B.bytes
  have hr := B.returns
  have hts := atoms_spec (ws := wsX6_depthOf) B.pre
  have hown : s.vm.findClass RX6 = some m.cls := findClass_of_methodNamed B.named
  have hlocks := B.notSynchronized
  have hA : ∀ q, Aw G q → Aw G q := fun _ h => h
  have hS : va_S (Aw G) s.heap s.heap [] := va_S.rf
  have he0 : entryFrame m args 5 = F0 m 0 ((lg_sl ([.ref (gad G 159), .int p1]) ++ List.replicate (5 - (lg_sl ([.ref (gad G 159), .int p1])).length) Slot.unset).toArray) [] := by rw [hargs]; exact lg_entry_eq _ _ _
  have hl := lv_entry ([.ref (gad G 159), .int p1]) (n := 5) (Nat.le_of_ble_eq_true rfl)
  rw [he0]
  generalize (lg_sl ([.ref (gad G 159), .int p1]) ++ List.replicate (5 - (lg_sl ([.ref (gad G 159), .int p1])).length) Slot.unset).toArray = ls at hl ⊢
  have hl : lv_has ls 5 [(0, .ref (gad G 159)), (1, .int p1)] := hl
  have hiX6 : ∀ w ∈ u_ws RX6 TX6 14, w ∈ wsX6_depthOf := by decide +kernel
  have B9 : ∀ (n : Nat), ∀ (H : Heap) (locs : List Loc) (_ : WD G S0 M0 H) (_ : va_S (Aw G) s.heap H locs) (ls : Array Slot) (l1 : Int32) (l2 : Int32) (l3 : Int32) (_ : lv_has ls 5 [(0, .ref (gad G 159)), (1, .int l1), (2, .int l2), (3, .int l3)]) (h : f6_depthOf_b9 M0 l1 n l2 l3 = some (rr)), WI p l e (headSpec wsX6_depthOf rX6_depthOf).room s m args below meth cd G rr S0 M0 H locs (F0 m 9 ls []) := by
    intro n
    induction n with
    | zero => intro H locs hW hS ls l1 l2 l3 hl h; cases (show (none : Option (Int32)) = some _ from h)
    | succ n ih =>
      have B53 : ∀ (H : Heap) (locs : List Loc) (_ : WD G S0 M0 H) (_ : va_S (Aw G) s.heap H locs) (ls : Array Slot) (l1 : Int32) (l3 : Int32) (k0 : Int32) (_ : lv_has ls 5 [(0, .ref (gad G 159)), (1, .int l1), (3, .int l3)]) (h : f6_depthOf_b53 M0 (f6_depthOf_b9 M0 l1 n) l1 l3 k0 = some (rr)), WI p l e (headSpec wsX6_depthOf rX6_depthOf).room s m args below meth cd G rr S0 M0 H locs (F0 m 53 ls [.int k0]) := by
        intro H locs hW hS ls l1 l3 k0 hl h
        unfold f6_depthOf_b53 at h
        refine lv_istore_n (lv' := [(2, .int k0), (0, .ref (gad G 159)), (1, .int l1), (3, .int l3)]) hx hb dX6_depthOf_53 rfl hl (by decide) rfl (fun ls hl => ?_)
        refine lv_iinc (v := (l3 + 1)) (lv' := [(3, .int ((l3 + 1))), (2, .int k0), (0, .ref (gad G 159)), (1, .int l1)]) hx hb dX6_depthOf_54 hl (k := 3) rfl rfl (by decide) rfl (fun ls hl => ?_)
        refine lv_goto (tgt := 9) hx hb dX6_depthOf_57 (by decide) ?_
        exact ih _ _ hW hS ls l1 k0 ((l3 + 1)) (lv_sub hl [2, 3, 1, 0] rfl) h
      have B47 : ∀ (H : Heap) (locs : List Loc) (_ : WD G S0 M0 H) (_ : va_S (Aw G) s.heap H locs) (ls : Array Slot) (l1 : Int32) (l3 : Int32) (l4 : Int32) (_ : lv_has ls 5 [(0, .ref (gad G 159)), (1, .int l1), (3, .int l3), (4, .int l4)]) (h : f6_depthOf_b47 M0 (f6_depthOf_b9 M0 l1 n) l1 l3 l4 = some (rr)), WI p l e (headSpec wsX6_depthOf rX6_depthOf).room s m args below meth cd G rr S0 M0 H locs (F0 m 47 ls []) := by
        intro H locs hW hS ls l1 l3 l4 hl h
        unfold f6_depthOf_b47 at h
        refine lv_iload hx hb dX6_depthOf_47 (lv_at hl 3 rfl) ?_
        refine lv_goto (tgt := 53) hx hb dX6_depthOf_49 (by decide) ?_
        exact B53 _ _ hW hS ls l1 l3 l4 (lv_sub hl [0, 1, 2] rfl) h
      have B52 : ∀ (H : Heap) (locs : List Loc) (_ : WD G S0 M0 H) (_ : va_S (Aw G) s.heap H locs) (ls : Array Slot) (l1 : Int32) (l2 : Int32) (l3 : Int32) (_ : lv_has ls 5 [(0, .ref (gad G 159)), (1, .int l1), (2, .int l2), (3, .int l3)]) (h : f6_depthOf_b52 M0 (f6_depthOf_b9 M0 l1 n) l1 l2 l3 = some (rr)), WI p l e (headSpec wsX6_depthOf rX6_depthOf).room s m args below meth cd G rr S0 M0 H locs (F0 m 52 ls []) := by
        intro H locs hW hS ls l1 l2 l3 hl h
        unfold f6_depthOf_b52 at h
        refine lv_iload_n hx hb dX6_depthOf_52 rfl (lv_at hl 2 rfl) ?_
        exact B53 _ _ hW hS ls l1 l3 l2 (lv_sub hl [0, 1, 3] rfl) h
      have B37 : ∀ (H : Heap) (locs : List Loc) (_ : WD G S0 M0 H) (_ : va_S (Aw G) s.heap H locs) (ls : Array Slot) (l1 : Int32) (l2 : Int32) (l3 : Int32) (l4 : Int32) (_ : lv_has ls 5 [(0, .ref (gad G 159)), (1, .int l1), (2, .int l2), (3, .int l3), (4, .int l4)]) (h : f6_depthOf_b37 M0 (f6_depthOf_b9 M0 l1 n) l1 l2 l3 l4 = some (rr)), WI p l e (headSpec wsX6_depthOf rX6_depthOf).room s m args below meth cd G rr S0 M0 H locs (F0 m 37 ls []) := by
        intro H locs hW hS ls l1 l2 l3 l4 hl h
        unfold f6_depthOf_b37 at h
        refine lv_iload_n hx hb dX6_depthOf_37 rfl (lv_at hl 1 rfl) ?_
        refine lv_if_ne (tgt := 52) hx hb dX6_depthOf_38 (by decide) (fun c_1 => ?_) (fun c_1 => ?_)
        · have h := ite_f c_1 h
          exact B52 _ _ hW hS ls l1 l2 l3 (lv_sub hl [0, 1, 2, 3] rfl) h
        · have h := ite_t c_1 h
          refine lv_iload hx hb dX6_depthOf_41 (lv_at hl 4 rfl) ?_
          refine lv_iload_n hx hb dX6_depthOf_43 rfl (lv_at hl 2 rfl) ?_
          refine lv_icmp_ge (tgt := 52) hx hb dX6_depthOf_44 (by decide) (fun c_2 => ?_) (fun c_2 => ?_)
          · have h := ite_t c_2 h
            exact B52 _ _ hW hS ls l1 l2 l3 (lv_sub hl [0, 1, 2, 3] rfl) h
          · have h := ite_f c_2 h
            exact B47 _ _ hW hS ls l1 l3 l4 (lv_sub hl [0, 1, 3, 4] rfl) h
      intro H locs hW hS ls l1 l2 l3 hl h
      rw [f6_depthOf_b9] at h
      refine lv_iload_n hx hb dX6_depthOf_9 rfl (lv_at hl 3 rfl) ?_
      refine lv_aload_n hx hb dX6_depthOf_10 rfl (lv_at hl 0 rfl) ?_
      refine va_get (D := G.1) (ci := 6) (v := .ref (gad G (160 + 0))) (C := RX6) (T := TX6) (N := 14) hx hb hts hiX6 hown hK.1 hW.1 159 lkM rfl 1 (by decide) (hts _ (List.mem_of_getElem? (i := 1) rfl)) (fun _ h9 => h9) rfl dX6_depthOf_11 ?_
      refine lv_iconst (v := 1) hx hb dX6_depthOf_14 (by decide) ?_
      obtain ⟨x_1, nx_1, ex_1, h⟩ := arr_e h
      refine va_iald hx hb hK.1 hW.1 (160 + 0) 0 (lkMa (j := 0) (by omega)) rfl nx_1 dX6_depthOf_15 ?_
      refine lv_ni ex_1 ?_
      refine lv_icmp_ge (tgt := 60) hx hb dX6_depthOf_16 (by decide) (fun c_2 => ?_) (fun c_2 => ?_)
      · have h := ite_t c_2 h
        refine lv_iload_n hx hb dX6_depthOf_60 rfl (lv_at hl 2 rfl) ?_
        obtain rfl := Option.some.inj h
        exact W.iret hx hb hr (fun t ht hw => ⟨⟨_, (), rfl, rfl, hW.ret ht⟩, hS.F ht⟩) hS.2.2 dX6_depthOf_61
      · have h := ite_f c_2 h
        refine lv_aload_n hx hb dX6_depthOf_19 rfl (lv_at hl 0 rfl) ?_
        refine lv_iload_n hx hb dX6_depthOf_20 rfl (lv_at hl 3 rfl) ?_
        refine lv_iconst (v := 0) hx hb dX6_depthOf_21 (by decide) ?_
        obtain ⟨r_3, e_4, h⟩ := bnd_e h
        refine kV_I (As := [.int l3, .int 0]) (rest := []) ⟨hx, hb, hml, hown, hts⟩ (tX6_ofPlot l G S0 M0 l3 0 r_3 e_4) (cwV 2 hts gX6_depthOf_X6_ofPlot rfl rfl rfl ⟨rfl, hdX6_ofPlot⟩ ⟨Nat.le_of_ble_eq_true rfl, Nat.le_of_ble_eq_true rfl⟩) (va_recv hK.1 hW.1 (ci := 6) (q0 := 159) rfl lkM) hK hW hS hA rfl hl.1 rfl (Nat.le_of_ble_eq_true rfl) dX6_depthOf_22 ⟨Nat.zero_le _, Nat.zero_le _⟩ (fun H locs hW hS => ?_)
        refine lv_istore (lv' := [(4, .int r_3), (0, .ref (gad G 159)), (1, .int l1), (2, .int l2), (3, .int l3)]) hx hb dX6_depthOf_25 hl (by decide) rfl (fun ls hl => ?_)
        refine lv_iload_n hx hb dX6_depthOf_27 rfl (lv_at hl 2 rfl) ?_
        refine lv_if_eq (tgt := 37) hx hb dX6_depthOf_28 (by decide) (fun c_5 => ?_) (fun c_5 => ?_)
        · have h := ite_t c_5 h
          exact B37 _ _ hW hS ls l1 l2 l3 r_3 (lv_sub hl [1, 2, 3, 4, 0] rfl) h
        · have h := ite_f c_5 h
          refine lv_iload hx hb dX6_depthOf_31 (lv_at hl 0 rfl) ?_
          refine lv_iload_n hx hb dX6_depthOf_33 rfl (lv_at hl 3 rfl) ?_
          refine lv_icmp_gt (tgt := 47) hx hb dX6_depthOf_34 (by decide) (fun c_6 => ?_) (fun c_6 => ?_)
          · have h := ite_t c_6 h
            exact B47 _ _ hW hS ls l1 l3 r_3 (lv_sub hl [1, 2, 4, 0] rfl) h
          · have h := ite_f c_6 h
            exact B37 _ _ hW hS ls l1 l2 l3 r_3 (lv_sub hl [1, 2, 3, 4, 0] rfl) h
  unfold f6_depthOf at h
  refine lv_aload_n hx hb dX6_depthOf_0 rfl (lv_at hl 0 rfl) ?_
  refine lv_iconst (v := 0) hx hb dX6_depthOf_1 (by decide) ?_
  refine lv_iconst (v := 0) hx hb dX6_depthOf_2 (by decide) ?_
  obtain ⟨r_1, e_2, h⟩ := bnd_e h
  refine kV_I (As := [.int 0, .int 0]) (rest := []) ⟨hx, hb, hml, hown, hts⟩ (tX6_ofPlot l G S0 M0 0 0 r_1 e_2) (cwV 2 hts gX6_depthOf_X6_ofPlot rfl rfl rfl ⟨rfl, hdX6_ofPlot⟩ ⟨Nat.le_of_ble_eq_true rfl, Nat.le_of_ble_eq_true rfl⟩) (va_recv hK.1 hW.1 (ci := 6) (q0 := 159) rfl lkM) hK hW hS hA rfl hl.1 rfl (Nat.le_of_ble_eq_true rfl) dX6_depthOf_3 ⟨Nat.zero_le _, Nat.zero_le _⟩ (fun H locs hW hS => ?_)
  refine lv_istore_n (lv' := [(2, .int r_1), (0, .ref (gad G 159)), (1, .int p1)]) hx hb dX6_depthOf_6 rfl hl (by decide) rfl (fun ls hl => ?_)
  refine lv_iconst (v := 1) hx hb dX6_depthOf_7 (by decide) ?_
  refine lv_istore_n (lv' := [(3, .int 1), (2, .int r_1), (0, .ref (gad G 159)), (1, .int p1)]) hx hb dX6_depthOf_8 rfl hl (by decide) rfl (fun ls hl => ?_)
  exact B9 fuelN _ _ hW hS ls p1 r_1 1 (lv_sub hl [2, 3, 1, 0] rfl) h
abbrev rX6_withMore : Room := { frames := 2, cells := 0, slots := 0, locals := 45 }
set_option maxRecDepth 100000 in
set_option maxHeartbeats 8000000 in
theorem tX6_withMore (l : Launch) (G : WG) (S0 M0 : St) (rr : Int32) (h : f6_withMore M0 = some (rr)) : CtI l yX6_withMore wsX6_withMore rX6_withMore G [.ref (gad G 159)] S0 M0 rr S0 M0 := by
  refine Met.ofW (cc := cX6_withMore) (maxL := 3) (ret := (some .int)) (by decide) rfl ?_
  intro p e s m args below meth cd s₁ B hml hv
  obtain ⟨hargs, hK, hW⟩ := hv
  have hx := B.exec
  have hb := B.bytes
  have hr := B.returns
  have hts := atoms_spec (ws := wsX6_withMore) B.pre
  have hown : s.vm.findClass RX6 = some m.cls := findClass_of_methodNamed B.named
  have hlocks := B.notSynchronized
  have hA : ∀ q, Aw G q → Aw G q := fun _ h => h
  have hS : va_S (Aw G) s.heap s.heap [] := va_S.rf
  have he0 : entryFrame m args 3 = F0 m 0 ((lg_sl ([.ref (gad G 159)]) ++ List.replicate (3 - (lg_sl ([.ref (gad G 159)])).length) Slot.unset).toArray) [] := by rw [hargs]; exact lg_entry_eq _ _ _
  have hl := lv_entry ([.ref (gad G 159)]) (n := 3) (Nat.le_of_ble_eq_true rfl)
  rw [he0]
  generalize (lg_sl ([.ref (gad G 159)]) ++ List.replicate (3 - (lg_sl ([.ref (gad G 159)])).length) Slot.unset).toArray = ls at hl ⊢
  have hl : lv_has ls 3 [(0, .ref (gad G 159))] := hl
  have B4 : ∀ (n : Nat), ∀ (H : Heap) (locs : List Loc) (_ : WD G S0 M0 H) (_ : va_S (Aw G) s.heap H locs) (ls : Array Slot) (l1 : Int32) (l2 : Int32) (_ : lv_has ls 3 [(0, .ref (gad G 159)), (1, .int l1), (2, .int l2)]) (h : f6_withMore_b4 M0 n l1 l2 = some (rr)), WI p l e (headSpec wsX6_withMore rX6_withMore).room s m args below meth cd G rr S0 M0 H locs (F0 m 4 ls []) := by
    intro n
    induction n with
    | zero => intro H locs hW hS ls l1 l2 hl h; cases (show (none : Option (Int32)) = some _ from h)
    | succ n ih =>
      have B33 : ∀ (H : Heap) (locs : List Loc) (_ : WD G S0 M0 H) (_ : va_S (Aw G) s.heap H locs) (ls : Array Slot) (l2 : Int32) (k0 : Int32) (k1 : Int32) (_ : lv_has ls 3 [(0, .ref (gad G 159)), (2, .int l2)]) (h : f6_withMore_b33 M0 (f6_withMore_b4 M0 n) l2 k0 k1 = some (rr)), WI p l e (headSpec wsX6_withMore rX6_withMore).room s m args below meth cd G rr S0 M0 H locs (F0 m 33 ls [.int k0, .int k1]) := by
        intro H locs hW hS ls l2 k0 k1 hl h
        unfold f6_withMore_b33 at h
        refine lv_iadd hx hb dX6_withMore_33 ?_
        obtain ⟨x_1, ex_1, h⟩ := nam_e h
        refine lv_ni ex_1 ?_
        refine lv_istore_n (lv' := [(1, .int x_1), (0, .ref (gad G 159)), (2, .int l2)]) hx hb dX6_withMore_34 rfl hl (by decide) rfl (fun ls hl => ?_)
        refine lv_iinc (v := (l2 + 1)) (lv' := [(2, .int ((l2 + 1))), (1, .int x_1), (0, .ref (gad G 159))]) hx hb dX6_withMore_35 hl (k := 2) rfl rfl (by decide) rfl (fun ls hl => ?_)
        refine lv_goto (tgt := 4) hx hb dX6_withMore_38 (by decide) ?_
        exact ih _ _ hW hS ls x_1 ((l2 + 1)) (lv_sub hl [2, 1, 0] rfl) h
      have B32 : ∀ (H : Heap) (locs : List Loc) (_ : WD G S0 M0 H) (_ : va_S (Aw G) s.heap H locs) (ls : Array Slot) (l2 : Int32) (k0 : Int32) (_ : lv_has ls 3 [(0, .ref (gad G 159)), (2, .int l2)]) (h : f6_withMore_b32 M0 (f6_withMore_b4 M0 n) l2 k0 = some (rr)), WI p l e (headSpec wsX6_withMore rX6_withMore).room s m args below meth cd G rr S0 M0 H locs (F0 m 32 ls [.int k0]) := by
        intro H locs hW hS ls l2 k0 hl h
        unfold f6_withMore_b32 at h
        refine lv_iconst (v := 0) hx hb dX6_withMore_32 (by decide) ?_
        exact B33 _ _ hW hS ls l2 0 k0 (lv_sub hl [0, 1] rfl) h
      intro H locs hW hS ls l1 l2 hl h
      rw [f6_withMore_b4] at h
      refine lv_iload_n hx hb dX6_withMore_4 rfl (lv_at hl 2 rfl) ?_
      refine lv_bipush (v := 16) hx hb dX6_withMore_5 (by decide) ?_
      refine lv_icmp_ge (tgt := 41) hx hb dX6_withMore_7 (by decide) (fun c_1 => ?_) (fun c_1 => ?_)
      · have h := ite_t c_1 h
        refine lv_iload_n hx hb dX6_withMore_41 rfl (lv_at hl 1 rfl) ?_
        obtain rfl := Option.some.inj h
        exact W.iret hx hb hr (fun t ht hw => ⟨⟨_, (), rfl, rfl, hW.ret ht⟩, hS.F ht⟩) hS.2.2 dX6_withMore_42
      · have h := ite_f c_1 h
        refine lv_iload_n hx hb dX6_withMore_10 rfl (lv_at hl 1 rfl) ?_
        refine lv_aload_n hx hb dX6_withMore_11 rfl (lv_at hl 0 rfl) ?_
        refine lv_iload_n hx hb dX6_withMore_12 rfl (lv_at hl 2 rfl) ?_
        obtain ⟨r_2, e_3, h⟩ := bnd_e h
        refine kV_I (As := [.int l2]) (rest := [.int l1]) ⟨hx, hb, hml, hown, hts⟩ (tX6_isHere l G S0 M0 l2 r_2 e_3) (cwV 1 hts gX6_withMore_X6_isHere rfl rfl rfl ⟨rfl, hdX6_isHere⟩ ⟨Nat.le_of_ble_eq_true rfl, Nat.le_of_ble_eq_true rfl⟩) (va_recv hK.1 hW.1 (ci := 6) (q0 := 159) rfl lkM) hK hW hS hA rfl hl.1 rfl (Nat.le_of_ble_eq_true rfl) dX6_withMore_13 ⟨Nat.zero_le _, Nat.zero_le _⟩ (fun H locs hW hS => ?_)
        refine lv_if_eq (tgt := 32) hx hb dX6_withMore_16 (by decide) (fun c_4 => ?_) (fun c_4 => ?_)
        · have h := ite_t c_4 h
          exact B32 _ _ hW hS ls l2 l1 (lv_sub hl [0, 2] rfl) h
        · have h := ite_f c_4 h
          refine lv_aload_n hx hb dX6_withMore_19 rfl (lv_at hl 0 rfl) ?_
          refine lv_iload_n hx hb dX6_withMore_20 rfl (lv_at hl 2 rfl) ?_
          obtain ⟨r_5, e_6, h⟩ := bnd_e h
          refine kV_I (As := [.int l2]) (rest := [.int l1]) ⟨hx, hb, hml, hown, hts⟩ (tX6_plotsOf l G S0 M0 l2 r_5 e_6) (cwV 1 hts gX6_withMore_X6_plotsOf rfl rfl rfl ⟨rfl, hdX6_plotsOf⟩ ⟨Nat.le_of_ble_eq_true rfl, Nat.le_of_ble_eq_true rfl⟩) (va_recv hK.1 hW.1 (ci := 6) (q0 := 159) rfl lkM) hK hW hS hA rfl hl.1 rfl (Nat.le_of_ble_eq_true rfl) dX6_withMore_21 ⟨Nat.zero_le _, Nat.zero_le _⟩ (fun H locs hW hS => ?_)
          refine lv_iconst (v := 1) hx hb dX6_withMore_24 (by decide) ?_
          refine lv_icmp_le (tgt := 32) hx hb dX6_withMore_25 (by decide) (fun c_7 => ?_) (fun c_7 => ?_)
          · have h := ite_t c_7 h
            exact B32 _ _ hW hS ls l2 l1 (lv_sub hl [0, 2] rfl) h
          · have h := ite_f c_7 h
            refine lv_iconst (v := 1) hx hb dX6_withMore_28 (by decide) ?_
            refine lv_goto (tgt := 33) hx hb dX6_withMore_29 (by decide) ?_
            exact B33 _ _ hW hS ls l2 1 l1 (lv_sub hl [0, 2] rfl) h
  unfold f6_withMore at h
  refine lv_iconst (v := 0) hx hb dX6_withMore_0 (by decide) ?_
  refine lv_istore_n (lv' := [(1, .int 0), (0, .ref (gad G 159))]) hx hb dX6_withMore_1 rfl hl (by decide) rfl (fun ls hl => ?_)
  refine lv_iconst (v := 0) hx hb dX6_withMore_2 (by decide) ?_
  refine lv_istore_n (lv' := [(2, .int 0), (1, .int 0), (0, .ref (gad G 159))]) hx hb dX6_withMore_3 rfl hl (by decide) rfl (fun ls hl => ?_)
  exact B4 fuelN _ _ hW hS ls 0 0 (lv_sub hl [2, 1, 0] rfl) h
abbrev rX6_count : Room := { frames := 3, cells := 0, slots := 0, locals := 67 }
set_option maxRecDepth 100000 in
set_option maxHeartbeats 8000000 in
theorem tX6_count (l : Launch) (G : WG) (S0 M0 : St) (p1 : Int32) (rr : Int32) (M' : St) (h : f6_count M0 p1 = some (rr, M')) : CtI l yX6_count wsX6_count rX6_count G [.ref (gad G 159), .int p1] S0 M0 rr S0 M' := by
  refine Met.ofW (cc := cX6_count) (maxL := 2) (ret := (some .int)) (by decide) rfl ?_
  intro p e s m args below meth cd s₁ B hml hv
  obtain ⟨hargs, hK, hW⟩ := hv
  have hx := B.exec
  have hb := B.bytes
  have hr := B.returns
  have hts := atoms_spec (ws := wsX6_count) B.pre
  have hown : s.vm.findClass RX6 = some m.cls := findClass_of_methodNamed B.named
  have hlocks := B.notSynchronized
  have hA : ∀ q, Aw G q → Aw G q := fun _ h => h
  have hS : va_S (Aw G) s.heap s.heap [] := va_S.rf
  have he0 : entryFrame m args 2 = F0 m 0 ((lg_sl ([.ref (gad G 159), .int p1]) ++ List.replicate (2 - (lg_sl ([.ref (gad G 159), .int p1])).length) Slot.unset).toArray) [] := by rw [hargs]; exact lg_entry_eq _ _ _
  have hl := lv_entry ([.ref (gad G 159), .int p1]) (n := 2) (Nat.le_of_ble_eq_true rfl)
  rw [he0]
  generalize (lg_sl ([.ref (gad G 159), .int p1]) ++ List.replicate (2 - (lg_sl ([.ref (gad G 159), .int p1])).length) Slot.unset).toArray = ls at hl ⊢
  have hl : lv_has ls 2 [(0, .ref (gad G 159)), (1, .int p1)] := hl
  have hiX6 : ∀ w ∈ u_ws RX6 TX6 14, w ∈ wsX6_count := by decide +kernel
  have B105 : ∀ (H : Heap) (locs : List Loc) (M : St) (_ : WD G S0 M H) (_ : va_S (Aw G) s.heap H locs) (ls : Array Slot) (k0 : Int32) (_ : lv_has ls 2 []) (h : f6_count_b105 M k0 = some (rr, M')), WI p l e (headSpec wsX6_count rX6_count).room s m args below meth cd G rr S0 M' H locs (F0 m 105 ls [.int k0, .ref (gad G 159)]) := by
    intro H locs M hW hS ls k0 hl h
    unfold f6_count_b105 at h
    obtain ⟨r_1, e_2, h⟩ := bnd_e h
    refine kV_I (As := [.int k0]) (rest := []) ⟨hx, hb, hml, hown, hts⟩ (tX6_depthOf l G S0 M k0 r_1 e_2) (cwV 1 hts gX6_count_X6_depthOf rfl rfl rfl ⟨rfl, hdX6_depthOf⟩ ⟨Nat.le_of_ble_eq_true rfl, Nat.le_of_ble_eq_true rfl⟩) (va_recv hK.1 hW.1 (ci := 6) (q0 := 159) rfl lkM) hK hW hS hA rfl hl.1 rfl (Nat.le_of_ble_eq_true rfl) dX6_count_105 ⟨Nat.zero_le _, Nat.zero_le _⟩ (fun H locs hW hS => ?_)
    obtain ⟨rfl, rfl⟩ := Prod.mk.inj (Option.some.inj h)
    exact W.iret hx hb hr (fun t ht hw => ⟨⟨_, (), rfl, rfl, hW.ret ht⟩, hS.F ht⟩) hS.2.2 dX6_count_108
  unfold f6_count at h
  refine lv_aload_n hx hb dX6_count_0 rfl (lv_at hl 0 rfl) ?_
  refine lv_iconst (v := 0) hx hb dX6_count_1 (by decide) ?_
  obtain ⟨M_1, eM_1, h⟩ := nam_e h
  refine va_put (D := G.1) (ci := 6) (v := .int 0) (ty := .int) (C := RX6) (T := TX6) (N := 14) hx hb hts hiX6 tyX6 tyX6_ok nmX6 hown hK.1 hW.1 (hW.D hA) hS 159 lkM rfl 0 (by decide) (hts _ (List.mem_of_getElem? (i := 1) rfl)) (fun _ h9 => h9) rfl (by decide +kernel) rfl rfl (Nat.le_of_ble_eq_true rfl) dX6_count_2 (fun H locs hP hD hS => ?_)
  have hW := upM0 hW hP
  rw [← eM_1] at hW
  refine lv_iload_n hx hb dX6_count_5 rfl (lv_at hl 1 rfl) ?_
  by_cases c_2 : Int32.toInt p1 < 0 ∨ 11 < Int32.toInt p1
  · have h := ite_t c_2 h
    refine lv_tableOut (tgt := 136) hx hb dX6_count_6 c_2 (by decide) ?_
    refine lv_bipush (v := (-2)) hx hb dX6_count_136 (by decide) ?_
    obtain ⟨rfl, rfl⟩ := Prod.mk.inj (Option.some.inj h)
    exact W.iret hx hb hr (fun t ht hw => ⟨⟨_, (), rfl, rfl, hW.ret ht⟩, hS.F ht⟩) hS.2.2 dX6_count_138
  · have h := ite_f c_2 h
    by_cases c_3 : (p1 : Int32) = 0
    · have h := ite_t c_3 h
      refine lv_tableIn (off := 62) (tgt := 68) hx hb dX6_count_6 (by rw [c_3]; decide) (by rw [c_3]; decide) (by rw [c_3]; rfl) (by decide) ?_
      refine lv_aload_n hx hb dX6_count_68 rfl (lv_at hl 0 rfl) ?_
      obtain ⟨r_4, e_5, h⟩ := bnd_e h
      refine kV_I (As := []) (rest := []) ⟨hx, hb, hml, hown, hts⟩ (tX6_onField l G S0 M_1 r_4 e_5) (cwV 0 hts gX6_count_X6_onField rfl rfl rfl ⟨rfl, hdX6_onField⟩ ⟨Nat.le_of_ble_eq_true rfl, Nat.le_of_ble_eq_true rfl⟩) (va_recv hK.1 hW.1 (ci := 6) (q0 := 159) rfl lkM) hK hW hS hA rfl hl.1 rfl (Nat.le_of_ble_eq_true rfl) dX6_count_69 ⟨Nat.zero_le _, Nat.zero_le _⟩ (fun H locs hW hS => ?_)
      obtain ⟨rfl, rfl⟩ := Prod.mk.inj (Option.some.inj h)
      exact W.iret hx hb hr (fun t ht hw => ⟨⟨_, (), rfl, rfl, hW.ret ht⟩, hS.F ht⟩) hS.2.2 dX6_count_72
    · have h := ite_f c_3 h
      by_cases c_6 : (p1 : Int32) = 1
      · have h := ite_t c_6 h
        refine lv_tableIn (off := 67) (tgt := 73) hx hb dX6_count_6 (by rw [c_6]; decide) (by rw [c_6]; decide) (by rw [c_6]; rfl) (by decide) ?_
        refine lv_aload_n hx hb dX6_count_73 rfl (lv_at hl 0 rfl) ?_
        refine va_get (D := G.1) (ci := 6) (v := .ref (gad G (160 + 0))) (C := RX6) (T := TX6) (N := 14) hx hb hts hiX6 hown hK.1 hW.1 159 lkM rfl 1 (by decide) (hts _ (List.mem_of_getElem? (i := 2) rfl)) (fun _ h9 => h9) rfl dX6_count_74 ?_
        refine lv_iconst (v := 0) hx hb dX6_count_77 (by decide) ?_
        obtain ⟨x_7, nx_7, ex_7, h⟩ := arr_e h
        refine va_iald hx hb hK.1 hW.1 (160 + 0) 0 (lkMa (j := 0) (by omega)) rfl nx_7 dX6_count_78 ?_
        refine lv_ni ex_7 ?_
        obtain ⟨rfl, rfl⟩ := Prod.mk.inj (Option.some.inj h)
        exact W.iret hx hb hr (fun t ht hw => ⟨⟨_, (), rfl, rfl, hW.ret ht⟩, hS.F ht⟩) hS.2.2 dX6_count_79
      · have h := ite_f c_6 h
        by_cases c_8 : (p1 : Int32) = 2
        · have h := ite_t c_8 h
          refine lv_tableIn (off := 74) (tgt := 80) hx hb dX6_count_6 (by rw [c_8]; decide) (by rw [c_8]; decide) (by rw [c_8]; rfl) (by decide) ?_
          refine lv_aload_n hx hb dX6_count_80 rfl (lv_at hl 0 rfl) ?_
          refine va_get (D := G.1) (ci := 6) (v := .ref (gad G (160 + 0))) (C := RX6) (T := TX6) (N := 14) hx hb hts hiX6 hown hK.1 hW.1 159 lkM rfl 1 (by decide) (hts _ (List.mem_of_getElem? (i := 2) rfl)) (fun _ h9 => h9) rfl dX6_count_81 ?_
          refine lv_iconst (v := 1) hx hb dX6_count_84 (by decide) ?_
          obtain ⟨x_9, nx_9, ex_9, h⟩ := arr_e h
          refine va_iald hx hb hK.1 hW.1 (160 + 0) 0 (lkMa (j := 0) (by omega)) rfl nx_9 dX6_count_85 ?_
          refine lv_ni ex_9 ?_
          obtain ⟨rfl, rfl⟩ := Prod.mk.inj (Option.some.inj h)
          exact W.iret hx hb hr (fun t ht hw => ⟨⟨_, (), rfl, rfl, hW.ret ht⟩, hS.F ht⟩) hS.2.2 dX6_count_86
        · have h := ite_f c_8 h
          by_cases c_10 : (p1 : Int32) = 3
          · have h := ite_t c_10 h
            refine lv_tableIn (off := 81) (tgt := 87) hx hb dX6_count_6 (by rw [c_10]; decide) (by rw [c_10]; decide) (by rw [c_10]; rfl) (by decide) ?_
            refine lv_aload_n hx hb dX6_count_87 rfl (lv_at hl 0 rfl) ?_
            refine va_get (D := G.1) (ci := 6) (v := .ref (gad G (160 + 0))) (C := RX6) (T := TX6) (N := 14) hx hb hts hiX6 hown hK.1 hW.1 159 lkM rfl 1 (by decide) (hts _ (List.mem_of_getElem? (i := 2) rfl)) (fun _ h9 => h9) rfl dX6_count_88 ?_
            refine lv_iconst (v := 2) hx hb dX6_count_91 (by decide) ?_
            obtain ⟨x_11, nx_11, ex_11, h⟩ := arr_e h
            refine va_iald hx hb hK.1 hW.1 (160 + 0) 0 (lkMa (j := 0) (by omega)) rfl nx_11 dX6_count_92 ?_
            refine lv_ni ex_11 ?_
            obtain ⟨rfl, rfl⟩ := Prod.mk.inj (Option.some.inj h)
            exact W.iret hx hb hr (fun t ht hw => ⟨⟨_, (), rfl, rfl, hW.ret ht⟩, hS.F ht⟩) hS.2.2 dX6_count_93
          · have h := ite_f c_10 h
            by_cases c_12 : (p1 : Int32) = 4
            · have h := ite_t c_12 h
              refine lv_tableIn (off := 88) (tgt := 94) hx hb dX6_count_6 (by rw [c_12]; decide) (by rw [c_12]; decide) (by rw [c_12]; rfl) (by decide) ?_
              refine lv_aload_n hx hb dX6_count_94 rfl (lv_at hl 0 rfl) ?_
              refine lv_iload_n hx hb dX6_count_95 rfl (lv_at hl 1 rfl) ?_
              refine lv_iconst (v := 4) hx hb dX6_count_96 (by decide) ?_
              refine lv_icmp_ne (tgt := 104) hx hb dX6_count_97 (by decide) (fun c_13 => ?_) (fun c_13 => ?_)
              · have h := ite_f c_13 h
                refine lv_iconst (v := 0) hx hb dX6_count_104 (by decide) ?_
                exact B105 _ _ M_1 hW hS ls 0 (lv_sub hl [] rfl) h
              · have h := ite_t c_13 h
                refine lv_iconst (v := 1) hx hb dX6_count_100 (by decide) ?_
                refine lv_goto (tgt := 105) hx hb dX6_count_101 (by decide) ?_
                exact B105 _ _ M_1 hW hS ls 1 (lv_sub hl [] rfl) h
            · have h := ite_f c_12 h
              by_cases c_14 : (p1 : Int32) = 5
              · have h := ite_t c_14 h
                refine lv_tableIn (off := 88) (tgt := 94) hx hb dX6_count_6 (by rw [c_14]; decide) (by rw [c_14]; decide) (by rw [c_14]; rfl) (by decide) ?_
                refine lv_aload_n hx hb dX6_count_94 rfl (lv_at hl 0 rfl) ?_
                refine lv_iload_n hx hb dX6_count_95 rfl (lv_at hl 1 rfl) ?_
                refine lv_iconst (v := 4) hx hb dX6_count_96 (by decide) ?_
                refine lv_icmp_ne (tgt := 104) hx hb dX6_count_97 (by decide) (fun c_15 => ?_) (fun c_15 => ?_)
                · have h := ite_f c_15 h
                  refine lv_iconst (v := 0) hx hb dX6_count_104 (by decide) ?_
                  exact B105 _ _ M_1 hW hS ls 0 (lv_sub hl [] rfl) h
                · have h := ite_t c_15 h
                  refine lv_iconst (v := 1) hx hb dX6_count_100 (by decide) ?_
                  refine lv_goto (tgt := 105) hx hb dX6_count_101 (by decide) ?_
                  exact B105 _ _ M_1 hW hS ls 1 (lv_sub hl [] rfl) h
              · have h := ite_f c_14 h
                by_cases c_16 : (p1 : Int32) = 6
                · have h := ite_t c_16 h
                  refine lv_tableIn (off := 103) (tgt := 109) hx hb dX6_count_6 (by rw [c_16]; decide) (by rw [c_16]; decide) (by rw [c_16]; rfl) (by decide) ?_
                  refine lv_aload_n hx hb dX6_count_109 rfl (lv_at hl 0 rfl) ?_
                  obtain ⟨r_17, e_18, h⟩ := bnd_e h
                  refine kV_I (As := []) (rest := []) ⟨hx, hb, hml, hown, hts⟩ (tX6_withMore l G S0 M_1 r_17 e_18) (cwV 0 hts gX6_count_X6_withMore rfl rfl rfl ⟨rfl, hdX6_withMore⟩ ⟨Nat.le_of_ble_eq_true rfl, Nat.le_of_ble_eq_true rfl⟩) (va_recv hK.1 hW.1 (ci := 6) (q0 := 159) rfl lkM) hK hW hS hA rfl hl.1 rfl (Nat.le_of_ble_eq_true rfl) dX6_count_110 ⟨Nat.zero_le _, Nat.zero_le _⟩ (fun H locs hW hS => ?_)
                  obtain ⟨rfl, rfl⟩ := Prod.mk.inj (Option.some.inj h)
                  exact W.iret hx hb hr (fun t ht hw => ⟨⟨_, (), rfl, rfl, hW.ret ht⟩, hS.F ht⟩) hS.2.2 dX6_count_113
                · have h := ite_f c_16 h
                  by_cases c_19 : (p1 : Int32) = 7
                  · have h := ite_t c_19 h
                    refine lv_tableIn (off := 108) (tgt := 114) hx hb dX6_count_6 (by rw [c_19]; decide) (by rw [c_19]; decide) (by rw [c_19]; rfl) (by decide) ?_
                    refine lv_aload_n hx hb dX6_count_114 rfl (lv_at hl 0 rfl) ?_
                    refine va_get (D := G.1) (ci := 6) (v := .ref (gad G (160 + 0))) (C := RX6) (T := TX6) (N := 14) hx hb hts hiX6 hown hK.1 hW.1 159 lkM rfl 1 (by decide) (hts _ (List.mem_of_getElem? (i := 2) rfl)) (fun _ h9 => h9) rfl dX6_count_115 ?_
                    refine lv_iconst (v := 3) hx hb dX6_count_118 (by decide) ?_
                    refine lv_iload_n hx hb dX6_count_119 rfl (lv_at hl 1 rfl) ?_
                    refine lv_iadd hx hb dX6_count_120 ?_
                    refine lv_bipush (v := 7) hx hb dX6_count_121 (by decide) ?_
                    refine lv_isub hx hb dX6_count_123 ?_
                    obtain ⟨x_20, nx_20, ex_20, h⟩ := arr_e h
                    refine va_iald hx hb hK.1 hW.1 (160 + 0) 0 (lkMa (j := 0) (by omega)) rfl nx_20 dX6_count_124 ?_
                    refine lv_ni ex_20 ?_
                    obtain ⟨rfl, rfl⟩ := Prod.mk.inj (Option.some.inj h)
                    exact W.iret hx hb hr (fun t ht hw => ⟨⟨_, (), rfl, rfl, hW.ret ht⟩, hS.F ht⟩) hS.2.2 dX6_count_125
                  · have h := ite_f c_19 h
                    by_cases c_21 : (p1 : Int32) = 8
                    · have h := ite_t c_21 h
                      refine lv_tableIn (off := 108) (tgt := 114) hx hb dX6_count_6 (by rw [c_21]; decide) (by rw [c_21]; decide) (by rw [c_21]; rfl) (by decide) ?_
                      refine lv_aload_n hx hb dX6_count_114 rfl (lv_at hl 0 rfl) ?_
                      refine va_get (D := G.1) (ci := 6) (v := .ref (gad G (160 + 0))) (C := RX6) (T := TX6) (N := 14) hx hb hts hiX6 hown hK.1 hW.1 159 lkM rfl 1 (by decide) (hts _ (List.mem_of_getElem? (i := 2) rfl)) (fun _ h9 => h9) rfl dX6_count_115 ?_
                      refine lv_iconst (v := 3) hx hb dX6_count_118 (by decide) ?_
                      refine lv_iload_n hx hb dX6_count_119 rfl (lv_at hl 1 rfl) ?_
                      refine lv_iadd hx hb dX6_count_120 ?_
                      refine lv_bipush (v := 7) hx hb dX6_count_121 (by decide) ?_
                      refine lv_isub hx hb dX6_count_123 ?_
                      obtain ⟨x_22, nx_22, ex_22, h⟩ := arr_e h
                      refine va_iald hx hb hK.1 hW.1 (160 + 0) 0 (lkMa (j := 0) (by omega)) rfl nx_22 dX6_count_124 ?_
                      refine lv_ni ex_22 ?_
                      obtain ⟨rfl, rfl⟩ := Prod.mk.inj (Option.some.inj h)
                      exact W.iret hx hb hr (fun t ht hw => ⟨⟨_, (), rfl, rfl, hW.ret ht⟩, hS.F ht⟩) hS.2.2 dX6_count_125
                    · have h := ite_f c_21 h
                      by_cases c_23 : (p1 : Int32) = 9
                      · have h := ite_t c_23 h
                        refine lv_tableIn (off := 108) (tgt := 114) hx hb dX6_count_6 (by rw [c_23]; decide) (by rw [c_23]; decide) (by rw [c_23]; rfl) (by decide) ?_
                        refine lv_aload_n hx hb dX6_count_114 rfl (lv_at hl 0 rfl) ?_
                        refine va_get (D := G.1) (ci := 6) (v := .ref (gad G (160 + 0))) (C := RX6) (T := TX6) (N := 14) hx hb hts hiX6 hown hK.1 hW.1 159 lkM rfl 1 (by decide) (hts _ (List.mem_of_getElem? (i := 2) rfl)) (fun _ h9 => h9) rfl dX6_count_115 ?_
                        refine lv_iconst (v := 3) hx hb dX6_count_118 (by decide) ?_
                        refine lv_iload_n hx hb dX6_count_119 rfl (lv_at hl 1 rfl) ?_
                        refine lv_iadd hx hb dX6_count_120 ?_
                        refine lv_bipush (v := 7) hx hb dX6_count_121 (by decide) ?_
                        refine lv_isub hx hb dX6_count_123 ?_
                        obtain ⟨x_24, nx_24, ex_24, h⟩ := arr_e h
                        refine va_iald hx hb hK.1 hW.1 (160 + 0) 0 (lkMa (j := 0) (by omega)) rfl nx_24 dX6_count_124 ?_
                        refine lv_ni ex_24 ?_
                        obtain ⟨rfl, rfl⟩ := Prod.mk.inj (Option.some.inj h)
                        exact W.iret hx hb hr (fun t ht hw => ⟨⟨_, (), rfl, rfl, hW.ret ht⟩, hS.F ht⟩) hS.2.2 dX6_count_125
                      · have h := ite_f c_23 h
                        by_cases c_25 : (p1 : Int32) = 10
                        · have h := ite_t c_25 h
                          refine lv_tableIn (off := 120) (tgt := 126) hx hb dX6_count_6 (by rw [c_25]; decide) (by rw [c_25]; decide) (by rw [c_25]; rfl) (by decide) ?_
                          refine lv_aload_n hx hb dX6_count_126 rfl (lv_at hl 0 rfl) ?_
                          refine va_get (D := G.1) (ci := 6) (v := .int (M_1.1 1)) (C := RX6) (T := TX6) (N := 14) hx hb hts hiX6 hown hK.1 hW.1 159 lkM rfl 4 (by decide) (hts _ (List.mem_of_getElem? (i := 3) rfl)) (fun _ h9 => h9) rfl dX6_count_127 ?_
                          obtain ⟨rfl, rfl⟩ := Prod.mk.inj (Option.some.inj h)
                          exact W.iret hx hb hr (fun t ht hw => ⟨⟨_, (), rfl, rfl, hW.ret ht⟩, hS.F ht⟩) hS.2.2 dX6_count_130
                        · have h := ite_f c_25 h
                          by_cases c_26 : (p1 : Int32) = 11
                          · have h := ite_t c_26 h
                            refine lv_tableIn (off := 125) (tgt := 131) hx hb dX6_count_6 (by rw [c_26]; decide) (by rw [c_26]; decide) (by rw [c_26]; rfl) (by decide) ?_
                            refine lv_aload_n hx hb dX6_count_131 rfl (lv_at hl 0 rfl) ?_
                            refine va_get (D := G.1) (ci := 6) (v := .int (M_1.1 3)) (C := RX6) (T := TX6) (N := 14) hx hb hts hiX6 hown hK.1 hW.1 159 lkM rfl 8 (by decide) (hts _ (List.mem_of_getElem? (i := 4) rfl)) (fun _ h9 => h9) rfl dX6_count_132 ?_
                            obtain ⟨rfl, rfl⟩ := Prod.mk.inj (Option.some.inj h)
                            exact W.iret hx hb hr (fun t ht hw => ⟨⟨_, (), rfl, rfl, hW.ret ht⟩, hS.F ht⟩) hS.2.2 dX6_count_135
                          · have h := ite_f c_26 h
                            cases h
