abbrev rX6_singer : Room := { frames := 4, cells := 0, slots := 0, locals := 89 }
set_option maxRecDepth 100000 in
set_option maxHeartbeats 8000000 in
theorem tX6_singer (l : Launch) (G : WG) (S0 M0 : St) (p1 : Int32) (rr : Int32) (h : f6_singer M0 p1 = some (rr)) : CtI l yX6_singer wsX6_singer rX6_singer G [.ref (gad G 159), .int p1] S0 M0 rr S0 M0 := by
  refine Met.ofW (cc := cX6_singer) (maxL := 3) (ret := (some .int)) (by decide) rfl ?_
  intro p e s m args below meth cd s₁ B hml hv
  obtain ⟨hargs, hK, hW⟩ := hv
  have hx := B.exec
  have hb := B.bytes
  have hr := B.returns
  have hts := atoms_spec (ws := wsX6_singer) B.pre
  have hown : s.vm.findClass RX6 = some m.cls := findClass_of_methodNamed B.named
  have hlocks := B.notSynchronized
  have hA : ∀ q, Aw G q → Aw G q := fun _ h => h
  have hS : va_S (Aw G) s.heap s.heap [] := va_S.rf
  have he0 : entryFrame m args 3 = F0 m 0 ((lg_sl ([.ref (gad G 159), .int p1]) ++ List.replicate (3 - (lg_sl ([.ref (gad G 159), .int p1])).length) Slot.unset).toArray) [] := by rw [hargs]; exact lg_entry_eq _ _ _
  have hl := lv_entry ([.ref (gad G 159), .int p1]) (n := 3) (Nat.le_of_ble_eq_true rfl)
  rw [he0]
  generalize (lg_sl ([.ref (gad G 159), .int p1]) ++ List.replicate (3 - (lg_sl ([.ref (gad G 159), .int p1])).length) Slot.unset).toArray = ls at hl ⊢
  have hl : lv_has ls 3 [(0, .ref (gad G 159)), (1, .int p1)] := hl
  have B34 : ∀ (H : Heap) (locs : List Loc) (_ : WD G S0 M0 H) (_ : va_S (Aw G) s.heap H locs) (ls : Array Slot) (k0 : Int32) (_ : lv_has ls 3 []) (h : f6_singer_b34 M0 k0 = some (rr)), WI p l e (headSpec wsX6_singer rX6_singer).room s m args below meth cd G rr S0 M0 H locs (F0 m 34 ls [.int k0]) := by
    intro H locs hW hS ls k0 hl h
    unfold f6_singer_b34 at h
    obtain rfl := Option.some.inj h
    exact W.iret hx hb hr (fun t ht hw => ⟨⟨_, (), rfl, rfl, hW.ret ht⟩, hS.F ht⟩) hS.2.2 dX6_singer_34
  unfold f6_singer at h
  refine lv_aload_n hx hb dX6_singer_0 rfl (lv_at hl 0 rfl) ?_
  refine lv_aload_n hx hb dX6_singer_1 rfl (lv_at hl 0 rfl) ?_
  refine lv_aload_n hx hb dX6_singer_2 rfl (lv_at hl 0 rfl) ?_
  refine lv_iload_n hx hb dX6_singer_3 rfl (lv_at hl 1 rfl) ?_
  refine lv_iconst (v := 0) hx hb dX6_singer_4 (by decide) ?_
  obtain ⟨r_1, e_2, h⟩ := bnd_e h
  refine kV_I (As := [.int p1, .int 0]) (rest := [.ref (gad G 159), .ref (gad G 159)]) ⟨hx, hb, hml, hown, hts⟩ (tX6_ofSong l G S0 M0 p1 0 r_1 e_2) (cwV 2 hts gX6_singer_X6_ofSong rfl rfl rfl ⟨rfl, hdX6_ofSong⟩ ⟨Nat.le_of_ble_eq_true rfl, Nat.le_of_ble_eq_true rfl⟩) (va_recv hK.1 hW.1 (ci := 6) (q0 := 159) rfl lkM) hK hW hS hA rfl hl.1 rfl (Nat.le_of_ble_eq_true rfl) dX6_singer_5 ⟨Nat.zero_le _, Nat.zero_le _⟩ (fun H locs hW hS => ?_)
  refine lv_aload_n hx hb dX6_singer_8 rfl (lv_at hl 0 rfl) ?_
  refine lv_iload_n hx hb dX6_singer_9 rfl (lv_at hl 1 rfl) ?_
  refine lv_iconst (v := 1) hx hb dX6_singer_10 (by decide) ?_
  obtain ⟨r_3, e_4, h⟩ := bnd_e h
  refine kV_I (As := [.int p1, .int 1]) (rest := [.int r_1, .ref (gad G 159), .ref (gad G 159)]) ⟨hx, hb, hml, hown, hts⟩ (tX6_ofSong l G S0 M0 p1 1 r_3 e_4) (cwV 2 hts gX6_singer_X6_ofSong rfl rfl rfl ⟨rfl, hdX6_ofSong⟩ ⟨Nat.le_of_ble_eq_true rfl, Nat.le_of_ble_eq_true rfl⟩) (va_recv hK.1 hW.1 (ci := 6) (q0 := 159) rfl lkM) hK hW hS hA rfl hl.1 rfl (Nat.le_of_ble_eq_true rfl) dX6_singer_11 ⟨Nat.zero_le _, Nat.zero_le _⟩ (fun H locs hW hS => ?_)
  obtain ⟨r_5, e_6, h⟩ := bnd_e h
  refine kV_I (As := [.int r_1, .int r_3]) (rest := [.ref (gad G 159)]) ⟨hx, hb, hml, hown, hts⟩ (tX6_plotAt l G S0 M0 r_1 r_3 r_5 e_6) (cwV 2 hts gX6_singer_X6_plotAt rfl rfl rfl ⟨rfl, hdX6_plotAt⟩ ⟨Nat.le_of_ble_eq_true rfl, Nat.le_of_ble_eq_true rfl⟩) (va_recv hK.1 hW.1 (ci := 6) (q0 := 159) rfl lkM) hK hW hS hA rfl hl.1 rfl (Nat.le_of_ble_eq_true rfl) dX6_singer_14 ⟨Nat.zero_le _, Nat.zero_le _⟩ (fun H locs hW hS => ?_)
  refine lv_iconst (v := 3) hx hb dX6_singer_17 (by decide) ?_
  obtain ⟨r_7, e_8, h⟩ := bnd_e h
  refine kV_I (As := [.int r_5, .int 3]) (rest := []) ⟨hx, hb, hml, hown, hts⟩ (tX6_ofPlot l G S0 M0 r_5 3 r_7 e_8) (cwV 2 hts gX6_singer_X6_ofPlot rfl rfl rfl ⟨rfl, hdX6_ofPlot⟩ ⟨Nat.le_of_ble_eq_true rfl, Nat.le_of_ble_eq_true rfl⟩) (va_recv hK.1 hW.1 (ci := 6) (q0 := 159) rfl lkM) hK hW hS hA rfl hl.1 rfl (Nat.le_of_ble_eq_true rfl) dX6_singer_18 ⟨Nat.zero_le _, Nat.zero_le _⟩ (fun H locs hW hS => ?_)
  refine lv_istore_n (lv' := [(2, .int r_7), (0, .ref (gad G 159)), (1, .int p1)]) hx hb dX6_singer_21 rfl hl (by decide) rfl (fun ls hl => ?_)
  refine lv_iload_n hx hb dX6_singer_22 rfl (lv_at hl 0 rfl) ?_
  refine lv_if_ne (tgt := 31) hx hb dX6_singer_23 (by decide) (fun c_9 => ?_) (fun c_9 => ?_)
  · have h := ite_f c_9 h
    refine lv_iload_n hx hb dX6_singer_31 rfl (lv_at hl 0 rfl) ?_
    refine lv_iconst (v := 1) hx hb dX6_singer_32 (by decide) ?_
    refine lv_isub hx hb dX6_singer_33 ?_
    exact B34 _ _ hW hS ls ((r_7 - 1)) (lv_sub hl [] rfl) h
  · have h := ite_t c_9 h
    refine lv_bipush (v := 100) hx hb dX6_singer_26 (by decide) ?_
    refine lv_goto (tgt := 34) hx hb dX6_singer_28 (by decide) ?_
    exact B34 _ _ hW hS ls 100 (lv_sub hl [] rfl) h
abbrev rX6_loud : Room := { frames := 0, cells := 0, slots := 0, locals := 0 }
set_option maxRecDepth 100000 in
set_option maxHeartbeats 8000000 in
theorem tX6_loud (l : Launch) (G : WG) (S0 M0 : St) (p0 : Int32) (rr : UInt32) (h : f6_loud p0 = some (rr)) : CtF l yX6_loud wsX6_loud rX6_loud G [.int p0] S0 M0 rr S0 M0 := by
  refine Met.ofW (cc := cX6_loud) (maxL := 1) (ret := (some .float)) (by decide) rfl ?_
  intro p e s m args below meth cd s₁ B hml hv
  obtain ⟨hargs, hK, hW⟩ := hv
  have hx := B.exec
  have hb := B.bytes
  have hr := B.returns
  have hts := atoms_spec (ws := wsX6_loud) B.pre
  have hown : s.vm.findClass RX6 = some m.cls := findClass_of_methodNamed B.named
  have hlocks := B.notSynchronized
  have hA : ∀ q, Aw G q → Aw G q := fun _ h => h
  have hS : va_S (Aw G) s.heap s.heap [] := va_S.rf
  have he0 : entryFrame m args 1 = F0 m 0 ((lg_sl ([.int p0]) ++ List.replicate (1 - (lg_sl ([.int p0])).length) Slot.unset).toArray) [] := by rw [hargs]; exact lg_entry_eq _ _ _
  have hl := lv_entry ([.int p0]) (n := 1) (Nat.le_of_ble_eq_true rfl)
  rw [he0]
  generalize (lg_sl ([.int p0]) ++ List.replicate (1 - (lg_sl ([.int p0])).length) Slot.unset).toArray = ls at hl ⊢
  have hl : lv_has ls 1 [(0, .int p0)] := hl
  unfold f6_loud at h
  refine lv_iload_n hx hb dX6_loud_0 rfl (lv_at hl 0 rfl) ?_
  refine lv_i2f hx hb dX6_loud_1 ?_
  refine lv_ldcf hx hb hown (hts _ (List.mem_of_getElem? (i := 1) rfl)) dX6_loud_2 ?_
  obtain ⟨x_1, nx_1, ex_1, h⟩ := fnn_e h
  refine lv_fdiv hx hb dX6_loud_4 nx_1 ?_
  refine lv_nf ex_1 ?_
  obtain rfl := Option.some.inj h
  exact W.fret hx hb hr (fun t ht hw => ⟨⟨_, (), rfl, rfl, hW.ret ht⟩, hS.F ht⟩) hS.2.2 dX6_loud_5
abbrev rX6_lay : Room := { frames := 2, cells := 0, slots := 0, locals := 43 }
set_option maxRecDepth 100000 in
set_option maxHeartbeats 8000000 in
theorem tX6_lay (l : Launch) (G : WG) (S0 M0 : St) (p1 : Int32) (p2 : Int32) (p3 : Int32) (rr : Int32) (M' : St) (h : f6_lay M0 p1 p2 p3 = some (rr, M')) : CtI l yX6_lay wsX6_lay rX6_lay G [.ref (gad G 159), .int p1, .int p2, .int p3] S0 M0 rr S0 M' := by
  refine Met.ofW (cc := cX6_lay) (maxL := 5) (ret := (some .int)) (by decide) rfl ?_
  intro p e s m args below meth cd s₁ B hml hv
  obtain ⟨hargs, hK, hW⟩ := hv
  have hx := B.exec
  have hb := B.bytes
  have hr := B.returns
  have hts := atoms_spec (ws := wsX6_lay) B.pre
  have hown : s.vm.findClass RX6 = some m.cls := findClass_of_methodNamed B.named
  have hlocks := B.notSynchronized
  have hA : ∀ q, Aw G q → Aw G q := fun _ h => h
  have hS : va_S (Aw G) s.heap s.heap [] := va_S.rf
  have he0 : entryFrame m args 5 = F0 m 0 ((lg_sl ([.ref (gad G 159), .int p1, .int p2, .int p3]) ++ List.replicate (5 - (lg_sl ([.ref (gad G 159), .int p1, .int p2, .int p3])).length) Slot.unset).toArray) [] := by rw [hargs]; exact lg_entry_eq _ _ _
  have hl := lv_entry ([.ref (gad G 159), .int p1, .int p2, .int p3]) (n := 5) (Nat.le_of_ble_eq_true rfl)
  rw [he0]
  generalize (lg_sl ([.ref (gad G 159), .int p1, .int p2, .int p3]) ++ List.replicate (5 - (lg_sl ([.ref (gad G 159), .int p1, .int p2, .int p3])).length) Slot.unset).toArray = ls at hl ⊢
  have hl : lv_has ls 5 [(0, .ref (gad G 159)), (1, .int p1), (2, .int p2), (3, .int p3)] := hl
  have hiX6 : ∀ w ∈ u_ws RX6 TX6 14, w ∈ wsX6_lay := by decide +kernel
  unfold f6_lay at h
  refine lv_aload_n hx hb dX6_lay_0 rfl (lv_at hl 0 rfl) ?_
  refine lv_iconst (v := 0) hx hb dX6_lay_1 (by decide) ?_
  obtain ⟨M_1, eM_1, h⟩ := nam_e h
  refine va_put (D := G.1) (ci := 6) (v := .int 0) (ty := .int) (C := RX6) (T := TX6) (N := 14) hx hb hts hiX6 tyX6 tyX6_ok nmX6 hown hK.1 hW.1 (hW.D hA) hS 159 lkM rfl 0 (by decide) (hts _ (List.mem_of_getElem? (i := 1) rfl)) (fun _ h9 => h9) rfl (by decide +kernel) rfl rfl (Nat.le_of_ble_eq_true rfl) dX6_lay_2 (fun H locs hP hD hS => ?_)
  have hW := upM0 hW hP
  rw [← eM_1] at hW
  refine lv_iload_n hx hb dX6_lay_5 rfl (lv_at hl 1 rfl) ?_
  refine lv_iload_n hx hb dX6_lay_6 rfl (lv_at hl 2 rfl) ?_
  obtain ⟨r_2, e_3, h⟩ := bnd_e h
  refine kS_I (As := [.int p1, .int p2]) (rest := []) ⟨hx, hb, hml, hown, hts⟩ (tX6_isPoint l G S0 M_1 p1 p2 r_2 e_3) (va_cwS 2 hts gX6_lay_X6_isPoint rfl rfl rfl hdX6_isPoint ⟨Nat.le_of_ble_eq_true rfl, Nat.le_of_ble_eq_true rfl⟩) hK hW hS hA rfl hl.1 rfl (Nat.le_of_ble_eq_true rfl) dX6_lay_7 ⟨Nat.zero_le _, Nat.zero_le _⟩ (fun H locs hW hS => ?_)
  refine lv_if_ne (tgt := 15) hx hb dX6_lay_10 (by decide) (fun c_4 => ?_) (fun c_4 => ?_)
  · have h := ite_f c_4 h
    refine lv_iload_n hx hb dX6_lay_15 rfl (lv_at hl 3 rfl) ?_
    refine lv_iconst (v := 1) hx hb dX6_lay_16 (by decide) ?_
    refine lv_sipush (v := 999) hx hb dX6_lay_17 (by decide) ?_
    obtain ⟨r_5, e_6, h⟩ := bnd_e h
    refine kS_I (As := [.int p3, .int 1, .int 999]) (rest := []) ⟨hx, hb, hml, hown, hts⟩ (tX6_in l G S0 M_1 p3 1 999 r_5 e_6) (va_cwS 3 hts gX6_lay_X6_in rfl rfl rfl hdX6_in ⟨Nat.le_of_ble_eq_true rfl, Nat.le_of_ble_eq_true rfl⟩) hK hW hS hA rfl hl.1 rfl (Nat.le_of_ble_eq_true rfl) dX6_lay_20 ⟨Nat.zero_le _, Nat.zero_le _⟩ (fun H locs hW hS => ?_)
    refine lv_if_ne (tgt := 29) hx hb dX6_lay_23 (by decide) (fun c_7 => ?_) (fun c_7 => ?_)
    · have h := ite_f c_7 h
      refine lv_aload_n hx hb dX6_lay_29 rfl (lv_at hl 0 rfl) ?_
      refine va_get (D := G.1) (ci := 6) (v := .ref (gad G (160 + 0))) (C := RX6) (T := TX6) (N := 14) hx hb hts hiX6 hown hK.1 hW.1 159 lkM rfl 1 (by decide) (hts _ (List.mem_of_getElem? (i := 2) rfl)) (fun _ h9 => h9) rfl dX6_lay_30 ?_
      refine lv_iconst (v := 2) hx hb dX6_lay_33 (by decide) ?_
      obtain ⟨x_8, nx_8, ex_8, h⟩ := arr_e h
      refine va_iald hx hb hK.1 hW.1 (160 + 0) 0 (lkMa (j := 0) (by omega)) rfl nx_8 dX6_lay_34 ?_
      refine lv_ni ex_8 ?_
      refine lv_bipush (v := 20) hx hb dX6_lay_35 (by decide) ?_
      refine lv_icmp_ne (tgt := 43) hx hb dX6_lay_37 (by decide) (fun c_9 => ?_) (fun c_9 => ?_)
      · have h := ite_f c_9 h
        refine lv_aload_n hx hb dX6_lay_43 rfl (lv_at hl 0 rfl) ?_
        obtain ⟨M_10, e_11, h⟩ := bnd_e h
        refine kV_V (As := []) (rest := []) ⟨hx, hb, hml, hown, hts⟩ (tX6_records l G S0 M_1 M_10 e_11) (cwV 0 hts gX6_lay_X6_records rfl rfl rfl ⟨rfl, hdX6_records⟩ ⟨Nat.le_of_ble_eq_true rfl, Nat.le_of_ble_eq_true rfl⟩) (va_recv hK.1 hW.1 (ci := 6) (q0 := 159) rfl lkM) hK hW hS hA rfl hl.1 rfl (Nat.le_of_ble_eq_true rfl) dX6_lay_44 ⟨Nat.zero_le _, Nat.zero_le _⟩ (fun H locs hW hS => ?_)
        refine lv_aload_n hx hb dX6_lay_47 rfl (lv_at hl 0 rfl) ?_
        refine va_get (D := G.1) (ci := 6) (v := .ref (gad G (160 + 0))) (C := RX6) (T := TX6) (N := 14) hx hb hts hiX6 hown hK.1 hW.1 159 lkM rfl 1 (by decide) (hts _ (List.mem_of_getElem? (i := 2) rfl)) (fun _ h9 => h9) rfl dX6_lay_48 ?_
        refine lv_iconst (v := 2) hx hb dX6_lay_51 (by decide) ?_
        obtain ⟨x_12, nx_12, ex_12, h⟩ := arr_e h
        refine va_iald hx hb hK.1 hW.1 (160 + 0) 0 (lkMa (j := 0) (by omega)) rfl nx_12 dX6_lay_52 ?_
        refine lv_ni ex_12 ?_
        refine lv_istore (lv' := [(4, .int x_12), (0, .ref (gad G 159)), (1, .int p1), (2, .int p2), (3, .int p3)]) hx hb dX6_lay_53 hl (by decide) rfl (fun ls hl => ?_)
        refine lv_aload_n hx hb dX6_lay_55 rfl (lv_at hl 1 rfl) ?_
        refine va_get (D := G.1) (ci := 6) (v := .ref (gad G (160 + 0))) (C := RX6) (T := TX6) (N := 14) hx hb hts hiX6 hown hK.1 hW.1 159 lkM rfl 1 (by decide) (hts _ (List.mem_of_getElem? (i := 2) rfl)) (fun _ h9 => h9) rfl dX6_lay_56 ?_
        refine lv_sipush (v := 826) hx hb dX6_lay_59 (by decide) ?_
        refine lv_iconst (v := 3) hx hb dX6_lay_62 (by decide) ?_
        refine lv_iload hx hb dX6_lay_63 (lv_at hl 0 rfl) ?_
        refine lv_imul hx hb dX6_lay_65 ?_
        refine lv_iadd hx hb dX6_lay_66 ?_
        refine lv_iconst (v := 0) hx hb dX6_lay_67 (by decide) ?_
        refine lv_iadd hx hb dX6_lay_68 ?_
        refine lv_iload_n hx hb dX6_lay_69 rfl (lv_at hl 2 rfl) ?_
        obtain ⟨n_14, h⟩ := sto_e h
        obtain ⟨M_13, eM_13, h⟩ := nam_e h
        refine va_iast hx hb hK.1 hW.1 (hW.D hA) hS (160 + 0) 0 (lkMa (j := 0) (by omega)) rfl n_14 dX6_lay_70 (fun H locs hP hD hS => ?_)
        have hW := upMa (j := 0) (by omega) hW hP
        rw [← eM_13] at hW
        refine lv_aload_n hx hb dX6_lay_71 rfl (lv_at hl 1 rfl) ?_
        refine va_get (D := G.1) (ci := 6) (v := .ref (gad G (160 + 0))) (C := RX6) (T := TX6) (N := 14) hx hb hts hiX6 hown hK.1 hW.1 159 lkM rfl 1 (by decide) (hts _ (List.mem_of_getElem? (i := 2) rfl)) (fun _ h9 => h9) rfl dX6_lay_72 ?_
        refine lv_sipush (v := 826) hx hb dX6_lay_75 (by decide) ?_
        refine lv_iconst (v := 3) hx hb dX6_lay_78 (by decide) ?_
        refine lv_iload hx hb dX6_lay_79 (lv_at hl 0 rfl) ?_
        refine lv_imul hx hb dX6_lay_81 ?_
        refine lv_iadd hx hb dX6_lay_82 ?_
        refine lv_iconst (v := 1) hx hb dX6_lay_83 (by decide) ?_
        refine lv_iadd hx hb dX6_lay_84 ?_
        refine lv_iload_n hx hb dX6_lay_85 rfl (lv_at hl 3 rfl) ?_
        obtain ⟨n_16, h⟩ := sto_e h
        obtain ⟨M_15, eM_15, h⟩ := nam_e h
        refine va_iast hx hb hK.1 hW.1 (hW.D hA) hS (160 + 0) 0 (lkMa (j := 0) (by omega)) rfl n_16 dX6_lay_86 (fun H locs hP hD hS => ?_)
        have hW := upMa (j := 0) (by omega) hW hP
        rw [← eM_15] at hW
        refine lv_aload_n hx hb dX6_lay_87 rfl (lv_at hl 1 rfl) ?_
        refine va_get (D := G.1) (ci := 6) (v := .ref (gad G (160 + 0))) (C := RX6) (T := TX6) (N := 14) hx hb hts hiX6 hown hK.1 hW.1 159 lkM rfl 1 (by decide) (hts _ (List.mem_of_getElem? (i := 2) rfl)) (fun _ h9 => h9) rfl dX6_lay_88 ?_
        refine lv_sipush (v := 826) hx hb dX6_lay_91 (by decide) ?_
        refine lv_iconst (v := 3) hx hb dX6_lay_94 (by decide) ?_
        refine lv_iload hx hb dX6_lay_95 (lv_at hl 0 rfl) ?_
        refine lv_imul hx hb dX6_lay_97 ?_
        refine lv_iadd hx hb dX6_lay_98 ?_
        refine lv_iconst (v := 2) hx hb dX6_lay_99 (by decide) ?_
        refine lv_iadd hx hb dX6_lay_100 ?_
        refine lv_iload_n hx hb dX6_lay_101 rfl (lv_at hl 4 rfl) ?_
        obtain ⟨n_18, h⟩ := sto_e h
        obtain ⟨M_17, eM_17, h⟩ := nam_e h
        refine va_iast hx hb hK.1 hW.1 (hW.D hA) hS (160 + 0) 0 (lkMa (j := 0) (by omega)) rfl n_18 dX6_lay_102 (fun H locs hP hD hS => ?_)
        have hW := upMa (j := 0) (by omega) hW hP
        rw [← eM_17] at hW
        refine lv_aload_n hx hb dX6_lay_103 rfl (lv_at hl 1 rfl) ?_
        refine va_get (D := G.1) (ci := 6) (v := .ref (gad G (160 + 0))) (C := RX6) (T := TX6) (N := 14) hx hb hts hiX6 hown hK.1 hW.1 159 lkM rfl 1 (by decide) (hts _ (List.mem_of_getElem? (i := 2) rfl)) (fun _ h9 => h9) rfl dX6_lay_104 ?_
        refine lv_iconst (v := 2) hx hb dX6_lay_107 (by decide) ?_
        refine lv_dup2_11 hx hb dX6_lay_108 rfl rfl ?_
        obtain ⟨x_19, nx_19, ex_19, h⟩ := arr_e h
        refine va_iald hx hb hK.1 hW.1 (160 + 0) 0 (lkMa (j := 0) (by omega)) rfl nx_19 dX6_lay_109 ?_
        refine lv_ni ex_19 ?_
        refine lv_iconst (v := 1) hx hb dX6_lay_110 (by decide) ?_
        refine lv_iadd hx hb dX6_lay_111 ?_
        obtain ⟨n_21, h⟩ := sto_e h
        obtain ⟨M_20, eM_20, h⟩ := nam_e h
        refine va_iast hx hb hK.1 hW.1 (hW.D hA) hS (160 + 0) 0 (lkMa (j := 0) (by omega)) rfl n_21 dX6_lay_112 (fun H locs hP hD hS => ?_)
        have hW := upMa (j := 0) (by omega) hW hP
        rw [← eM_20] at hW
        refine lv_iload hx hb dX6_lay_113 (lv_at hl 0 rfl) ?_
        obtain ⟨rfl, rfl⟩ := Prod.mk.inj (Option.some.inj h)
        exact W.iret hx hb hr (fun t ht hw => ⟨⟨_, (), rfl, rfl, hW.ret ht⟩, hS.F ht⟩) hS.2.2 dX6_lay_115
      · have h := ite_t c_9 h
        refine lv_bipush (v := (-3)) hx hb dX6_lay_40 (by decide) ?_
        obtain ⟨rfl, rfl⟩ := Prod.mk.inj (Option.some.inj h)
        exact W.iret hx hb hr (fun t ht hw => ⟨⟨_, (), rfl, rfl, hW.ret ht⟩, hS.F ht⟩) hS.2.2 dX6_lay_42
    · have h := ite_t c_7 h
      refine lv_bipush (v := (-2)) hx hb dX6_lay_26 (by decide) ?_
      obtain ⟨rfl, rfl⟩ := Prod.mk.inj (Option.some.inj h)
      exact W.iret hx hb hr (fun t ht hw => ⟨⟨_, (), rfl, rfl, hW.ret ht⟩, hS.F ht⟩) hS.2.2 dX6_lay_28
  · have h := ite_t c_4 h
    refine lv_iconst (v := (-1)) hx hb dX6_lay_13 (by decide) ?_
    obtain ⟨rfl, rfl⟩ := Prod.mk.inj (Option.some.inj h)
    exact W.iret hx hb hr (fun t ht hw => ⟨⟨_, (), rfl, rfl, hW.ret ht⟩, hS.F ht⟩) hS.2.2 dX6_lay_14
abbrev rX6_isSong : Room := { frames := 1, cells := 0, slots := 0, locals := 22 }
set_option maxRecDepth 100000 in
set_option maxHeartbeats 8000000 in
theorem tX6_isSong (l : Launch) (G : WG) (S0 M0 : St) (p1 : Int32) (rr : Int32) (h : f6_isSong M0 p1 = some (rr)) : CtI l yX6_isSong wsX6_isSong rX6_isSong G [.ref (gad G 159), .int p1] S0 M0 rr S0 M0 := by
  refine Met.ofW (cc := cX6_isSong) (maxL := 2) (ret := (some .boolean)) (by decide) rfl ?_
  intro p e s m args below meth cd s₁ B hml hv
  obtain ⟨hargs, hK, hW⟩ := hv
  have hx := B.exec
  have hb := B.bytes
  have hr := B.returns
  have hts := atoms_spec (ws := wsX6_isSong) B.pre
  have hown : s.vm.findClass RX6 = some m.cls := findClass_of_methodNamed B.named
  have hlocks := B.notSynchronized
  have hA : ∀ q, Aw G q → Aw G q := fun _ h => h
  have hS : va_S (Aw G) s.heap s.heap [] := va_S.rf
  have he0 : entryFrame m args 2 = F0 m 0 ((lg_sl ([.ref (gad G 159), .int p1]) ++ List.replicate (2 - (lg_sl ([.ref (gad G 159), .int p1])).length) Slot.unset).toArray) [] := by rw [hargs]; exact lg_entry_eq _ _ _
  have hl := lv_entry ([.ref (gad G 159), .int p1]) (n := 2) (Nat.le_of_ble_eq_true rfl)
  rw [he0]
  generalize (lg_sl ([.ref (gad G 159), .int p1]) ++ List.replicate (2 - (lg_sl ([.ref (gad G 159), .int p1])).length) Slot.unset).toArray = ls at hl ⊢
  have hl : lv_has ls 2 [(0, .ref (gad G 159)), (1, .int p1)] := hl
  have hiX6 : ∀ w ∈ u_ws RX6 TX6 14, w ∈ wsX6_isSong := by decide +kernel
  unfold f6_isSong at h
  refine lv_iload_n hx hb dX6_isSong_0 rfl (lv_at hl 1 rfl) ?_
  refine lv_iconst (v := 0) hx hb dX6_isSong_1 (by decide) ?_
  refine lv_aload_n hx hb dX6_isSong_2 rfl (lv_at hl 0 rfl) ?_
  refine va_get (D := G.1) (ci := 6) (v := .ref (gad G (160 + 0))) (C := RX6) (T := TX6) (N := 14) hx hb hts hiX6 hown hK.1 hW.1 159 lkM rfl 1 (by decide) (hts _ (List.mem_of_getElem? (i := 1) rfl)) (fun _ h9 => h9) rfl dX6_isSong_3 ?_
  refine lv_iconst (v := 2) hx hb dX6_isSong_6 (by decide) ?_
  obtain ⟨x_1, nx_1, ex_1, h⟩ := arr_e h
  refine va_iald hx hb hK.1 hW.1 (160 + 0) 0 (lkMa (j := 0) (by omega)) rfl nx_1 dX6_isSong_7 ?_
  refine lv_ni ex_1 ?_
  refine lv_iconst (v := 1) hx hb dX6_isSong_8 (by decide) ?_
  refine lv_isub hx hb dX6_isSong_9 ?_
  obtain ⟨r_2, e_3, h⟩ := bnd_e h
  refine kS_I (As := [.int p1, .int 0, .int ((x_1 - 1))]) (rest := []) ⟨hx, hb, hml, hown, hts⟩ (tX6_in l G S0 M0 p1 0 ((x_1 - 1)) r_2 e_3) (va_cwS 3 hts gX6_isSong_X6_in rfl rfl rfl hdX6_in ⟨Nat.le_of_ble_eq_true rfl, Nat.le_of_ble_eq_true rfl⟩) hK hW hS hA rfl hl.1 rfl (Nat.le_of_ble_eq_true rfl) dX6_isSong_10 ⟨Nat.zero_le _, Nat.zero_le _⟩ (fun H locs hW hS => ?_)
  obtain ⟨z_4, h⟩ := isz_e h
  obtain rfl := Option.some.inj h
  exact W.zret (ty := .boolean) hx hb hr (nz_1 z_4) (fun t ht hw => ⟨⟨_, (), rfl, rfl, hW.ret ht⟩, hS.F ht⟩) hS.2.2 dX6_isSong_13
abbrev rX6_carry : Room := { frames := 5, cells := 0, slots := 0, locals := 111 }
set_option maxRecDepth 100000 in
set_option maxHeartbeats 8000000 in
theorem tX6_carry (l : Launch) (G : WG) (S0 M0 : St) (p1 : Int32) (p2 : Int32) (p3 : Int32) (rr : Int32) (M' : St) (h : f6_carry M0 p1 p2 p3 = some (rr, M')) : CtI l yX6_carry wsX6_carry rX6_carry G [.ref (gad G 159), .int p1, .int p2, .int p3] S0 M0 rr S0 M' := by
  refine Met.ofW (cc := cX6_carry) (maxL := 4) (ret := (some .int)) (by decide) rfl ?_
  intro p e s m args below meth cd s₁ B hml hv
  obtain ⟨hargs, hK, hW⟩ := hv
  have hx := B.exec
  have hb := B.bytes
  have hr := B.returns
  have hts := atoms_spec (ws := wsX6_carry) B.pre
  have hown : s.vm.findClass RX6 = some m.cls := findClass_of_methodNamed B.named
  have hlocks := B.notSynchronized
  have hA : ∀ q, Aw G q → Aw G q := fun _ h => h
  have hS : va_S (Aw G) s.heap s.heap [] := va_S.rf
  have he0 : entryFrame m args 4 = F0 m 0 ((lg_sl ([.ref (gad G 159), .int p1, .int p2, .int p3]) ++ List.replicate (4 - (lg_sl ([.ref (gad G 159), .int p1, .int p2, .int p3])).length) Slot.unset).toArray) [] := by rw [hargs]; exact lg_entry_eq _ _ _
  have hl := lv_entry ([.ref (gad G 159), .int p1, .int p2, .int p3]) (n := 4) (Nat.le_of_ble_eq_true rfl)
  rw [he0]
  generalize (lg_sl ([.ref (gad G 159), .int p1, .int p2, .int p3]) ++ List.replicate (4 - (lg_sl ([.ref (gad G 159), .int p1, .int p2, .int p3])).length) Slot.unset).toArray = ls at hl ⊢
  have hl : lv_has ls 4 [(0, .ref (gad G 159)), (1, .int p1), (2, .int p2), (3, .int p3)] := hl
  have hiX6 : ∀ w ∈ u_ws RX6 TX6 14, w ∈ wsX6_carry := by decide +kernel
  have B46 : ∀ (H : Heap) (locs : List Loc) (M : St) (_ : WD G S0 M H) (_ : va_S (Aw G) s.heap H locs) (ls : Array Slot) (l1 : Int32) (l2 : Int32) (l3 : Int32) (_ : lv_has ls 4 [(0, .ref (gad G 159)), (1, .int l1), (2, .int l2), (3, .int l3)]) (h : f6_carry_b46 M l1 l2 l3 = some (rr, M')), WI p l e (headSpec wsX6_carry rX6_carry).room s m args below meth cd G rr S0 M' H locs (F0 m 46 ls []) := by
    intro H locs M hW hS ls l1 l2 l3 hl h
    unfold f6_carry_b46 at h
    refine lv_aload_n hx hb dX6_carry_46 rfl (lv_at hl 0 rfl) ?_
    obtain ⟨M_1, e_2, h⟩ := bnd_e h
    refine kV_V (As := []) (rest := []) ⟨hx, hb, hml, hown, hts⟩ (tX6_records l G S0 M M_1 e_2) (cwV 0 hts gX6_carry_X6_records rfl rfl rfl ⟨rfl, hdX6_records⟩ ⟨Nat.le_of_ble_eq_true rfl, Nat.le_of_ble_eq_true rfl⟩) (va_recv hK.1 hW.1 (ci := 6) (q0 := 159) rfl lkM) hK hW hS hA rfl hl.1 rfl (Nat.le_of_ble_eq_true rfl) dX6_carry_47 ⟨Nat.zero_le _, Nat.zero_le _⟩ (fun H locs hW hS => ?_)
    refine lv_aload_n hx hb dX6_carry_50 rfl (lv_at hl 0 rfl) ?_
    refine va_get (D := G.1) (ci := 6) (v := .ref (gad G (160 + 0))) (C := RX6) (T := TX6) (N := 14) hx hb hts hiX6 hown hK.1 hW.1 159 lkM rfl 1 (by decide) (hts _ (List.mem_of_getElem? (i := 2) rfl)) (fun _ h9 => h9) rfl dX6_carry_51 ?_
    refine lv_sipush (v := 826) hx hb dX6_carry_54 (by decide) ?_
    refine lv_iconst (v := 3) hx hb dX6_carry_57 (by decide) ?_
    refine lv_iload_n hx hb dX6_carry_58 rfl (lv_at hl 1 rfl) ?_
    refine lv_imul hx hb dX6_carry_59 ?_
    refine lv_iadd hx hb dX6_carry_60 ?_
    refine lv_iconst (v := 0) hx hb dX6_carry_61 (by decide) ?_
    refine lv_iadd hx hb dX6_carry_62 ?_
    refine lv_iload_n hx hb dX6_carry_63 rfl (lv_at hl 2 rfl) ?_
    obtain ⟨n_4, h⟩ := sto_e h
    obtain ⟨M_3, eM_3, h⟩ := nam_e h
    refine va_iast hx hb hK.1 hW.1 (hW.D hA) hS (160 + 0) 0 (lkMa (j := 0) (by omega)) rfl n_4 dX6_carry_64 (fun H locs hP hD hS => ?_)
    have hW := upMa (j := 0) (by omega) hW hP
    rw [← eM_3] at hW
    refine lv_aload_n hx hb dX6_carry_65 rfl (lv_at hl 0 rfl) ?_
    refine va_get (D := G.1) (ci := 6) (v := .ref (gad G (160 + 0))) (C := RX6) (T := TX6) (N := 14) hx hb hts hiX6 hown hK.1 hW.1 159 lkM rfl 1 (by decide) (hts _ (List.mem_of_getElem? (i := 2) rfl)) (fun _ h9 => h9) rfl dX6_carry_66 ?_
    refine lv_sipush (v := 826) hx hb dX6_carry_69 (by decide) ?_
    refine lv_iconst (v := 3) hx hb dX6_carry_72 (by decide) ?_
    refine lv_iload_n hx hb dX6_carry_73 rfl (lv_at hl 1 rfl) ?_
    refine lv_imul hx hb dX6_carry_74 ?_
    refine lv_iadd hx hb dX6_carry_75 ?_
    refine lv_iconst (v := 1) hx hb dX6_carry_76 (by decide) ?_
    refine lv_iadd hx hb dX6_carry_77 ?_
    refine lv_iload_n hx hb dX6_carry_78 rfl (lv_at hl 3 rfl) ?_
    obtain ⟨n_6, h⟩ := sto_e h
    obtain ⟨M_5, eM_5, h⟩ := nam_e h
    refine va_iast hx hb hK.1 hW.1 (hW.D hA) hS (160 + 0) 0 (lkMa (j := 0) (by omega)) rfl n_6 dX6_carry_79 (fun H locs hP hD hS => ?_)
    have hW := upMa (j := 0) (by omega) hW hP
    rw [← eM_5] at hW
    refine lv_aload_n hx hb dX6_carry_80 rfl (lv_at hl 0 rfl) ?_
    refine lv_iload_n hx hb dX6_carry_81 rfl (lv_at hl 1 rfl) ?_
    obtain ⟨r_7, e_8, h⟩ := bnd_e h
    refine kV_I (As := [.int l1]) (rest := []) ⟨hx, hb, hml, hown, hts⟩ (tX6_singer l G S0 M_5 l1 r_7 e_8) (cwV 1 hts gX6_carry_X6_singer rfl rfl rfl ⟨rfl, hdX6_singer⟩ ⟨Nat.le_of_ble_eq_true rfl, Nat.le_of_ble_eq_true rfl⟩) (va_recv hK.1 hW.1 (ci := 6) (q0 := 159) rfl lkM) hK hW hS hA rfl hl.1 rfl (Nat.le_of_ble_eq_true rfl) dX6_carry_82 ⟨Nat.zero_le _, Nat.zero_le _⟩ (fun H locs hW hS => ?_)
    obtain ⟨rfl, rfl⟩ := Prod.mk.inj (Option.some.inj h)
    exact W.iret hx hb hr (fun t ht hw => ⟨⟨_, (), rfl, rfl, hW.ret ht⟩, hS.F ht⟩) hS.2.2 dX6_carry_85
  have B21 : ∀ (H : Heap) (locs : List Loc) (M : St) (_ : WD G S0 M H) (_ : va_S (Aw G) s.heap H locs) (ls : Array Slot) (_ : lv_has ls 4 []) (h : f6_carry_b21 M  = some (rr, M')), WI p l e (headSpec wsX6_carry rX6_carry).room s m args below meth cd G rr S0 M' H locs (F0 m 21 ls []) := by
    intro H locs M hW hS ls hl h
    unfold f6_carry_b21 at h
    refine lv_iconst (v := (-1)) hx hb dX6_carry_21 (by decide) ?_
    obtain ⟨rfl, rfl⟩ := Prod.mk.inj (Option.some.inj h)
    exact W.iret hx hb hr (fun t ht hw => ⟨⟨_, (), rfl, rfl, hW.ret ht⟩, hS.F ht⟩) hS.2.2 dX6_carry_22
  unfold f6_carry at h
  refine lv_aload_n hx hb dX6_carry_0 rfl (lv_at hl 0 rfl) ?_
  refine lv_iconst (v := 0) hx hb dX6_carry_1 (by decide) ?_
  obtain ⟨M_1, eM_1, h⟩ := nam_e h
  refine va_put (D := G.1) (ci := 6) (v := .int 0) (ty := .int) (C := RX6) (T := TX6) (N := 14) hx hb hts hiX6 tyX6 tyX6_ok nmX6 hown hK.1 hW.1 (hW.D hA) hS 159 lkM rfl 0 (by decide) (hts _ (List.mem_of_getElem? (i := 1) rfl)) (fun _ h9 => h9) rfl (by decide +kernel) rfl rfl (Nat.le_of_ble_eq_true rfl) dX6_carry_2 (fun H locs hP hD hS => ?_)
  have hW := upM0 hW hP
  rw [← eM_1] at hW
  refine lv_aload_n hx hb dX6_carry_5 rfl (lv_at hl 0 rfl) ?_
  refine lv_iload_n hx hb dX6_carry_6 rfl (lv_at hl 1 rfl) ?_
  obtain ⟨r_2, e_3, h⟩ := bnd_e h
  refine kV_I (As := [.int p1]) (rest := []) ⟨hx, hb, hml, hown, hts⟩ (tX6_isSong l G S0 M_1 p1 r_2 e_3) (cwV 1 hts gX6_carry_X6_isSong rfl rfl rfl ⟨rfl, hdX6_isSong⟩ ⟨Nat.le_of_ble_eq_true rfl, Nat.le_of_ble_eq_true rfl⟩) (va_recv hK.1 hW.1 (ci := 6) (q0 := 159) rfl lkM) hK hW hS hA rfl hl.1 rfl (Nat.le_of_ble_eq_true rfl) dX6_carry_7 ⟨Nat.zero_le _, Nat.zero_le _⟩ (fun H locs hW hS => ?_)
  refine lv_if_eq (tgt := 21) hx hb dX6_carry_10 (by decide) (fun c_4 => ?_) (fun c_4 => ?_)
  · have h := ite_t c_4 h
    exact B21 _ _ M_1 hW hS ls (lv_sub hl [] rfl) h
  · have h := ite_f c_4 h
    refine lv_iload_n hx hb dX6_carry_13 rfl (lv_at hl 2 rfl) ?_
    refine lv_iload_n hx hb dX6_carry_14 rfl (lv_at hl 3 rfl) ?_
    obtain ⟨r_5, e_6, h⟩ := bnd_e h
    refine kS_I (As := [.int p2, .int p3]) (rest := []) ⟨hx, hb, hml, hown, hts⟩ (tX6_isPoint l G S0 M_1 p2 p3 r_5 e_6) (va_cwS 2 hts gX6_carry_X6_isPoint rfl rfl rfl hdX6_isPoint ⟨Nat.le_of_ble_eq_true rfl, Nat.le_of_ble_eq_true rfl⟩) hK hW hS hA rfl hl.1 rfl (Nat.le_of_ble_eq_true rfl) dX6_carry_15 ⟨Nat.zero_le _, Nat.zero_le _⟩ (fun H locs hW hS => ?_)
    refine lv_if_ne (tgt := 23) hx hb dX6_carry_18 (by decide) (fun c_7 => ?_) (fun c_7 => ?_)
    · have h := ite_f c_7 h
      refine lv_aload_n hx hb dX6_carry_23 rfl (lv_at hl 0 rfl) ?_
      refine lv_iload_n hx hb dX6_carry_24 rfl (lv_at hl 1 rfl) ?_
      refine lv_iconst (v := 0) hx hb dX6_carry_25 (by decide) ?_
      obtain ⟨r_8, e_9, h⟩ := bnd_e h
      refine kV_I (As := [.int p1, .int 0]) (rest := []) ⟨hx, hb, hml, hown, hts⟩ (tX6_ofSong l G S0 M_1 p1 0 r_8 e_9) (cwV 2 hts gX6_carry_X6_ofSong rfl rfl rfl ⟨rfl, hdX6_ofSong⟩ ⟨Nat.le_of_ble_eq_true rfl, Nat.le_of_ble_eq_true rfl⟩) (va_recv hK.1 hW.1 (ci := 6) (q0 := 159) rfl lkM) hK hW hS hA rfl hl.1 rfl (Nat.le_of_ble_eq_true rfl) dX6_carry_26 ⟨Nat.zero_le _, Nat.zero_le _⟩ (fun H locs hW hS => ?_)
      refine lv_iload_n hx hb dX6_carry_29 rfl (lv_at hl 2 rfl) ?_
      refine lv_icmp_ne (tgt := 46) hx hb dX6_carry_30 (by decide) (fun c_10 => ?_) (fun c_10 => ?_)
      · have h := ite_f c_10 h
        exact B46 _ _ M_1 hW hS ls p1 p2 p3 (lv_sub hl [0, 1, 2, 3] rfl) h
      · have h := ite_t c_10 h
        refine lv_aload_n hx hb dX6_carry_33 rfl (lv_at hl 0 rfl) ?_
        refine lv_iload_n hx hb dX6_carry_34 rfl (lv_at hl 1 rfl) ?_
        refine lv_iconst (v := 1) hx hb dX6_carry_35 (by decide) ?_
        obtain ⟨r_11, e_12, h⟩ := bnd_e h
        refine kV_I (As := [.int p1, .int 1]) (rest := []) ⟨hx, hb, hml, hown, hts⟩ (tX6_ofSong l G S0 M_1 p1 1 r_11 e_12) (cwV 2 hts gX6_carry_X6_ofSong rfl rfl rfl ⟨rfl, hdX6_ofSong⟩ ⟨Nat.le_of_ble_eq_true rfl, Nat.le_of_ble_eq_true rfl⟩) (va_recv hK.1 hW.1 (ci := 6) (q0 := 159) rfl lkM) hK hW hS hA rfl hl.1 rfl (Nat.le_of_ble_eq_true rfl) dX6_carry_36 ⟨Nat.zero_le _, Nat.zero_le _⟩ (fun H locs hW hS => ?_)
        refine lv_iload_n hx hb dX6_carry_39 rfl (lv_at hl 3 rfl) ?_
        refine lv_icmp_ne (tgt := 46) hx hb dX6_carry_40 (by decide) (fun c_13 => ?_) (fun c_13 => ?_)
        · have h := ite_f c_13 h
          exact B46 _ _ M_1 hW hS ls p1 p2 p3 (lv_sub hl [0, 1, 2, 3] rfl) h
        · have h := ite_t c_13 h
          refine lv_bipush (v := (-5)) hx hb dX6_carry_43 (by decide) ?_
          obtain ⟨rfl, rfl⟩ := Prod.mk.inj (Option.some.inj h)
          exact W.iret hx hb hr (fun t ht hw => ⟨⟨_, (), rfl, rfl, hW.ret ht⟩, hS.F ht⟩) hS.2.2 dX6_carry_45
    · have h := ite_t c_7 h
      exact B21 _ _ M_1 hW hS ls (lv_sub hl [] rfl) h
abbrev rX6_type : Room := { frames := 0, cells := 0, slots := 0, locals := 0 }
set_option maxRecDepth 100000 in
set_option maxHeartbeats 8000000 in
theorem tX6_type (l : Launch) (G : WG) (S0 M0 : St) (p1 : Int32) (rr : Int32) (M' : St) (h : f6_type M0 p1 = some (rr, M')) : CtI l yX6_type wsX6_type rX6_type G [.ref (gad G 159), .int p1] S0 M0 rr S0 M' := by
  refine Met.ofW (cc := cX6_type) (maxL := 2) (ret := (some .int)) (by decide) rfl ?_
  intro p e s m args below meth cd s₁ B hml hv
  obtain ⟨hargs, hK, hW⟩ := hv
  have hx := B.exec
  have hb := B.bytes
  have hr := B.returns
  have hts := atoms_spec (ws := wsX6_type) B.pre
  have hown : s.vm.findClass RX6 = some m.cls := findClass_of_methodNamed B.named
  have hlocks := B.notSynchronized
  have hA : ∀ q, Aw G q → Aw G q := fun _ h => h
  have hS : va_S (Aw G) s.heap s.heap [] := va_S.rf
  have he0 : entryFrame m args 2 = F0 m 0 ((lg_sl ([.ref (gad G 159), .int p1]) ++ List.replicate (2 - (lg_sl ([.ref (gad G 159), .int p1])).length) Slot.unset).toArray) [] := by rw [hargs]; exact lg_entry_eq _ _ _
  have hl := lv_entry ([.ref (gad G 159), .int p1]) (n := 2) (Nat.le_of_ble_eq_true rfl)
  rw [he0]
  generalize (lg_sl ([.ref (gad G 159), .int p1]) ++ List.replicate (2 - (lg_sl ([.ref (gad G 159), .int p1])).length) Slot.unset).toArray = ls at hl ⊢
  have hl : lv_has ls 2 [(0, .ref (gad G 159)), (1, .int p1)] := hl
  have hiX6 : ∀ w ∈ u_ws RX6 TX6 14, w ∈ wsX6_type := by decide +kernel
  unfold f6_type at h
  refine lv_aload_n hx hb dX6_type_0 rfl (lv_at hl 0 rfl) ?_
  refine lv_iconst (v := 0) hx hb dX6_type_1 (by decide) ?_
  obtain ⟨M_1, eM_1, h⟩ := nam_e h
  refine va_put (D := G.1) (ci := 6) (v := .int 0) (ty := .int) (C := RX6) (T := TX6) (N := 14) hx hb hts hiX6 tyX6 tyX6_ok nmX6 hown hK.1 hW.1 (hW.D hA) hS 159 lkM rfl 0 (by decide) (hts _ (List.mem_of_getElem? (i := 1) rfl)) (fun _ h9 => h9) rfl (by decide +kernel) rfl rfl (Nat.le_of_ble_eq_true rfl) dX6_type_2 (fun H locs hP hD hS => ?_)
  have hW := upM0 hW hP
  rw [← eM_1] at hW
  refine lv_aload_n hx hb dX6_type_5 rfl (lv_at hl 0 rfl) ?_
  refine va_get (D := G.1) (ci := 6) (v := .int (M_1.1 3)) (C := RX6) (T := TX6) (N := 14) hx hb hts hiX6 hown hK.1 hW.1 159 lkM rfl 8 (by decide) (hts _ (List.mem_of_getElem? (i := 2) rfl)) (fun _ h9 => h9) rfl dX6_type_6 ?_
  refine lv_bipush (v := 60) hx hb dX6_type_9 (by decide) ?_
  refine lv_icmp_ne (tgt := 17) hx hb dX6_type_11 (by decide) (fun c_2 => ?_) (fun c_2 => ?_)
  · have h := ite_f c_2 h
    refine lv_aload_n hx hb dX6_type_17 rfl (lv_at hl 0 rfl) ?_
    refine va_get (D := G.1) (ci := 6) (v := .ref (gad G (160 + 4))) (C := RX6) (T := TX6) (N := 14) hx hb hts hiX6 hown hK.1 hW.1 159 lkM rfl 7 (by decide) (hts _ (List.mem_of_getElem? (i := 3) rfl)) (fun _ h9 => h9) rfl dX6_type_18 ?_
    refine lv_aload_n hx hb dX6_type_21 rfl (lv_at hl 0 rfl) ?_
    refine va_get (D := G.1) (ci := 6) (v := .int (M_1.1 3)) (C := RX6) (T := TX6) (N := 14) hx hb hts hiX6 hown hK.1 hW.1 159 lkM rfl 8 (by decide) (hts _ (List.mem_of_getElem? (i := 2) rfl)) (fun _ h9 => h9) rfl dX6_type_22 ?_
    refine lv_iload_n hx hb dX6_type_25 rfl (lv_at hl 1 rfl) ?_
    obtain ⟨n_4, h⟩ := sto_e h
    obtain ⟨M_3, eM_3, h⟩ := nam_e h
    refine va_iast hx hb hK.1 hW.1 (hW.D hA) hS (160 + 4) 0 (lkMa (j := 4) (by omega)) rfl n_4 dX6_type_26 (fun H locs hP hD hS => ?_)
    have hW := upMa (j := 4) (by omega) hW hP
    rw [← eM_3] at hW
    refine lv_aload_n hx hb dX6_type_27 rfl (lv_at hl 0 rfl) ?_
    refine lv_dup hx hb dX6_type_28 rfl ?_
    refine va_get (D := G.1) (ci := 6) (v := .int (M_3.1 3)) (C := RX6) (T := TX6) (N := 14) hx hb hts hiX6 hown hK.1 hW.1 159 lkM rfl 8 (by decide) (hts _ (List.mem_of_getElem? (i := 2) rfl)) (fun _ h9 => h9) rfl dX6_type_29 ?_
    refine lv_iconst (v := 1) hx hb dX6_type_32 (by decide) ?_
    refine lv_iadd hx hb dX6_type_33 ?_
    obtain ⟨M_5, eM_5, h⟩ := nam_e h
    refine va_put (D := G.1) (ci := 6) (v := .int ((M_3.1 3 + 1))) (ty := .int) (C := RX6) (T := TX6) (N := 14) hx hb hts hiX6 tyX6 tyX6_ok nmX6 hown hK.1 hW.1 (hW.D hA) hS 159 lkM rfl 8 (by decide) (hts _ (List.mem_of_getElem? (i := 2) rfl)) (fun _ h9 => h9) rfl (by decide +kernel) rfl rfl (Nat.le_of_ble_eq_true rfl) dX6_type_34 (fun H locs hP hD hS => ?_)
    have hW := upM3 hW hP
    rw [← eM_5] at hW
    refine lv_aload_n hx hb dX6_type_37 rfl (lv_at hl 0 rfl) ?_
    refine va_get (D := G.1) (ci := 6) (v := .int (M_5.1 3)) (C := RX6) (T := TX6) (N := 14) hx hb hts hiX6 hown hK.1 hW.1 159 lkM rfl 8 (by decide) (hts _ (List.mem_of_getElem? (i := 2) rfl)) (fun _ h9 => h9) rfl dX6_type_38 ?_
    obtain ⟨rfl, rfl⟩ := Prod.mk.inj (Option.some.inj h)
    exact W.iret hx hb hr (fun t ht hw => ⟨⟨_, (), rfl, rfl, hW.ret ht⟩, hS.F ht⟩) hS.2.2 dX6_type_41
  · have h := ite_t c_2 h
    refine lv_bipush (v := (-3)) hx hb dX6_type_14 (by decide) ?_
    obtain ⟨rfl, rfl⟩ := Prod.mk.inj (Option.some.inj h)
    exact W.iret hx hb hr (fun t ht hw => ⟨⟨_, (), rfl, rfl, hW.ret ht⟩, hS.F ht⟩) hS.2.2 dX6_type_16
abbrev rX6_clearText : Room := { frames := 0, cells := 0, slots := 0, locals := 0 }
set_option maxRecDepth 100000 in
set_option maxHeartbeats 8000000 in
theorem tX6_clearText (l : Launch) (G : WG) (S0 M0 : St) (rr : Int32) (M' : St) (h : f6_clearText M0 = some (rr, M')) : CtI l yX6_clearText wsX6_clearText rX6_clearText G [.ref (gad G 159)] S0 M0 rr S0 M' := by
  refine Met.ofW (cc := cX6_clearText) (maxL := 2) (ret := (some .int)) (by decide) rfl ?_
  intro p e s m args below meth cd s₁ B hml hv
  obtain ⟨hargs, hK, hW⟩ := hv
  have hx := B.exec
  have hb := B.bytes
  have hr := B.returns
  have hts := atoms_spec (ws := wsX6_clearText) B.pre
  have hown : s.vm.findClass RX6 = some m.cls := findClass_of_methodNamed B.named
  have hlocks := B.notSynchronized
  have hA : ∀ q, Aw G q → Aw G q := fun _ h => h
  have hS : va_S (Aw G) s.heap s.heap [] := va_S.rf
  have he0 : entryFrame m args 2 = F0 m 0 ((lg_sl ([.ref (gad G 159)]) ++ List.replicate (2 - (lg_sl ([.ref (gad G 159)])).length) Slot.unset).toArray) [] := by rw [hargs]; exact lg_entry_eq _ _ _
  have hl := lv_entry ([.ref (gad G 159)]) (n := 2) (Nat.le_of_ble_eq_true rfl)
  rw [he0]
  generalize (lg_sl ([.ref (gad G 159)]) ++ List.replicate (2 - (lg_sl ([.ref (gad G 159)])).length) Slot.unset).toArray = ls at hl ⊢
  have hl : lv_has ls 2 [(0, .ref (gad G 159))] := hl
  have hiX6 : ∀ w ∈ u_ws RX6 TX6 14, w ∈ wsX6_clearText := by decide +kernel
  unfold f6_clearText at h
  refine lv_aload_n hx hb dX6_clearText_0 rfl (lv_at hl 0 rfl) ?_
  refine lv_iconst (v := 0) hx hb dX6_clearText_1 (by decide) ?_
  obtain ⟨M_1, eM_1, h⟩ := nam_e h
  refine va_put (D := G.1) (ci := 6) (v := .int 0) (ty := .int) (C := RX6) (T := TX6) (N := 14) hx hb hts hiX6 tyX6 tyX6_ok nmX6 hown hK.1 hW.1 (hW.D hA) hS 159 lkM rfl 0 (by decide) (hts _ (List.mem_of_getElem? (i := 1) rfl)) (fun _ h9 => h9) rfl (by decide +kernel) rfl rfl (Nat.le_of_ble_eq_true rfl) dX6_clearText_2 (fun H locs hP hD hS => ?_)
  have hW := upM0 hW hP
  rw [← eM_1] at hW
  refine lv_aload_n hx hb dX6_clearText_5 rfl (lv_at hl 0 rfl) ?_
  refine va_get (D := G.1) (ci := 6) (v := .int (M_1.1 3)) (C := RX6) (T := TX6) (N := 14) hx hb hts hiX6 hown hK.1 hW.1 159 lkM rfl 8 (by decide) (hts _ (List.mem_of_getElem? (i := 2) rfl)) (fun _ h9 => h9) rfl dX6_clearText_6 ?_
  obtain ⟨x_2, ex_2, h⟩ := nam_e h
  refine lv_ni ex_2 ?_
  refine lv_istore_n (lv' := [(1, .int x_2), (0, .ref (gad G 159))]) hx hb dX6_clearText_9 rfl hl (by decide) rfl (fun ls hl => ?_)
  refine lv_aload_n hx hb dX6_clearText_10 rfl (lv_at hl 1 rfl) ?_
  refine lv_iconst (v := 0) hx hb dX6_clearText_11 (by decide) ?_
  obtain ⟨M_3, eM_3, h⟩ := nam_e h
  refine va_put (D := G.1) (ci := 6) (v := .int 0) (ty := .int) (C := RX6) (T := TX6) (N := 14) hx hb hts hiX6 tyX6 tyX6_ok nmX6 hown hK.1 hW.1 (hW.D hA) hS 159 lkM rfl 8 (by decide) (hts _ (List.mem_of_getElem? (i := 2) rfl)) (fun _ h9 => h9) rfl (by decide +kernel) rfl rfl (Nat.le_of_ble_eq_true rfl) dX6_clearText_12 (fun H locs hP hD hS => ?_)
  have hW := upM3 hW hP
  rw [← eM_3] at hW
  refine lv_iload_n hx hb dX6_clearText_15 rfl (lv_at hl 0 rfl) ?_
  obtain ⟨rfl, rfl⟩ := Prod.mk.inj (Option.some.inj h)
  exact W.iret hx hb hr (fun t ht hw => ⟨⟨_, (), rfl, rfl, hW.ret ht⟩, hS.F ht⟩) hS.2.2 dX6_clearText_16
abbrev rX6_undo : Room := { frames := 0, cells := 0, slots := 0, locals := 0 }
set_option maxRecDepth 100000 in
set_option maxHeartbeats 8000000 in
theorem tX6_undo (l : Launch) (G : WG) (S0 M0 : St) (rr : Int32) (M' : St) (h : f6_undo M0 = some (rr, M')) : CtI l yX6_undo wsX6_undo rX6_undo G [.ref (gad G 159)] S0 M0 rr S0 M' := by
  refine Met.ofW (cc := cX6_undo) (maxL := 2) (ret := (some .int)) (by decide) rfl ?_
  intro p e s m args below meth cd s₁ B hml hv
  obtain ⟨hargs, hK, hW⟩ := hv
  have hx := B.exec
  have hb := B.bytes
  have hr := B.returns
  have hts := atoms_spec (ws := wsX6_undo) B.pre
  have hown : s.vm.findClass RX6 = some m.cls := findClass_of_methodNamed B.named
  have hlocks := B.notSynchronized
  have hA : ∀ q, Aw G q → Aw G q := fun _ h => h
  have hS : va_S (Aw G) s.heap s.heap [] := va_S.rf
  have he0 : entryFrame m args 2 = F0 m 0 ((lg_sl ([.ref (gad G 159)]) ++ List.replicate (2 - (lg_sl ([.ref (gad G 159)])).length) Slot.unset).toArray) [] := by rw [hargs]; exact lg_entry_eq _ _ _
  have hl := lv_entry ([.ref (gad G 159)]) (n := 2) (Nat.le_of_ble_eq_true rfl)
  rw [he0]
  generalize (lg_sl ([.ref (gad G 159)]) ++ List.replicate (2 - (lg_sl ([.ref (gad G 159)])).length) Slot.unset).toArray = ls at hl ⊢
  have hl : lv_has ls 2 [(0, .ref (gad G 159))] := hl
  have hiX6 : ∀ w ∈ u_ws RX6 TX6 14, w ∈ wsX6_undo := by decide +kernel
  have B27 : ∀ (n : Nat), ∀ (H : Heap) (locs : List Loc) (M : St) (_ : WD G S0 M H) (_ : va_S (Aw G) s.heap H locs) (ls : Array Slot) (l1 : Int32) (_ : lv_has ls 2 [(0, .ref (gad G 159)), (1, .int l1)]) (h : f6_undo_b27  n M l1 = some (rr, M')), WI p l e (headSpec wsX6_undo rX6_undo).room s m args below meth cd G rr S0 M' H locs (F0 m 27 ls []) := by
    intro n
    induction n with
    | zero => intro H locs M hW hS ls l1 hl h; cases (show (none : Option (Int32 × St)) = some _ from h)
    | succ n ih =>
      intro H locs M hW hS ls l1 hl h
      rw [f6_undo_b27] at h
      refine lv_iload_n hx hb dX6_undo_27 rfl (lv_at hl 1 rfl) ?_
      refine lv_sipush (v := 886) hx hb dX6_undo_28 (by decide) ?_
      refine lv_icmp_ge (tgt := 61) hx hb dX6_undo_31 (by decide) (fun c_1 => ?_) (fun c_1 => ?_)
      · have h := ite_t c_1 h
        refine lv_aload_n hx hb dX6_undo_61 rfl (lv_at hl 0 rfl) ?_
        refine va_get (D := G.1) (ci := 6) (v := .int (M.1 1)) (C := RX6) (T := TX6) (N := 14) hx hb hts hiX6 hown hK.1 hW.1 159 lkM rfl 4 (by decide) (hts _ (List.mem_of_getElem? (i := 2) rfl)) (fun _ h9 => h9) rfl dX6_undo_62 ?_
        obtain ⟨rfl, rfl⟩ := Prod.mk.inj (Option.some.inj h)
        exact W.iret hx hb hr (fun t ht hw => ⟨⟨_, (), rfl, rfl, hW.ret ht⟩, hS.F ht⟩) hS.2.2 dX6_undo_65
      · have h := ite_f c_1 h
        refine lv_aload_n hx hb dX6_undo_34 rfl (lv_at hl 0 rfl) ?_
        refine va_get (D := G.1) (ci := 6) (v := .ref (gad G (160 + 0))) (C := RX6) (T := TX6) (N := 14) hx hb hts hiX6 hown hK.1 hW.1 159 lkM rfl 1 (by decide) (hts _ (List.mem_of_getElem? (i := 3) rfl)) (fun _ h9 => h9) rfl dX6_undo_35 ?_
        refine lv_iload_n hx hb dX6_undo_38 rfl (lv_at hl 1 rfl) ?_
        refine lv_aload_n hx hb dX6_undo_39 rfl (lv_at hl 0 rfl) ?_
        refine va_get (D := G.1) (ci := 6) (v := .ref (gad G (160 + 2))) (C := RX6) (T := TX6) (N := 14) hx hb hts hiX6 hown hK.1 hW.1 159 lkM rfl 3 (by decide) (hts _ (List.mem_of_getElem? (i := 4) rfl)) (fun _ h9 => h9) rfl dX6_undo_40 ?_
        refine lv_sipush (v := 886) hx hb dX6_undo_43 (by decide) ?_
        refine lv_aload_n hx hb dX6_undo_46 rfl (lv_at hl 0 rfl) ?_
        refine va_get (D := G.1) (ci := 6) (v := .int (M.1 1)) (C := RX6) (T := TX6) (N := 14) hx hb hts hiX6 hown hK.1 hW.1 159 lkM rfl 4 (by decide) (hts _ (List.mem_of_getElem? (i := 2) rfl)) (fun _ h9 => h9) rfl dX6_undo_47 ?_
        refine lv_imul hx hb dX6_undo_50 ?_
        refine lv_iload_n hx hb dX6_undo_51 rfl (lv_at hl 1 rfl) ?_
        refine lv_iadd hx hb dX6_undo_52 ?_
        obtain ⟨x_2, nx_2, ex_2, h⟩ := arr_e h
        refine va_iald hx hb hK.1 hW.1 (160 + 2) 0 (lkMa (j := 2) (by omega)) rfl nx_2 dX6_undo_53 ?_
        refine lv_ni ex_2 ?_
        obtain ⟨n_4, h⟩ := sto_e h
        obtain ⟨M_3, eM_3, h⟩ := nam_e h
        refine va_iast hx hb hK.1 hW.1 (hW.D hA) hS (160 + 0) 0 (lkMa (j := 0) (by omega)) rfl n_4 dX6_undo_54 (fun H locs hP hD hS => ?_)
        have hW := upMa (j := 0) (by omega) hW hP
        rw [← eM_3] at hW
        refine lv_iinc (v := (l1 + 1)) (lv' := [(1, .int ((l1 + 1))), (0, .ref (gad G 159))]) hx hb dX6_undo_55 hl (k := 1) rfl rfl (by decide) rfl (fun ls hl => ?_)
        refine lv_goto (tgt := 27) hx hb dX6_undo_58 (by decide) ?_
        exact ih _ _ M_3 hW hS ls ((l1 + 1)) (lv_sub hl [1, 0] rfl) h
  unfold f6_undo at h
  refine lv_aload_n hx hb dX6_undo_0 rfl (lv_at hl 0 rfl) ?_
  refine lv_iconst (v := 0) hx hb dX6_undo_1 (by decide) ?_
  obtain ⟨M_1, eM_1, h⟩ := nam_e h
  refine va_put (D := G.1) (ci := 6) (v := .int 0) (ty := .int) (C := RX6) (T := TX6) (N := 14) hx hb hts hiX6 tyX6 tyX6_ok nmX6 hown hK.1 hW.1 (hW.D hA) hS 159 lkM rfl 0 (by decide) (hts _ (List.mem_of_getElem? (i := 1) rfl)) (fun _ h9 => h9) rfl (by decide +kernel) rfl rfl (Nat.le_of_ble_eq_true rfl) dX6_undo_2 (fun H locs hP hD hS => ?_)
  have hW := upM0 hW hP
  rw [← eM_1] at hW
  refine lv_aload_n hx hb dX6_undo_5 rfl (lv_at hl 0 rfl) ?_
  refine va_get (D := G.1) (ci := 6) (v := .int (M_1.1 1)) (C := RX6) (T := TX6) (N := 14) hx hb hts hiX6 hown hK.1 hW.1 159 lkM rfl 4 (by decide) (hts _ (List.mem_of_getElem? (i := 2) rfl)) (fun _ h9 => h9) rfl dX6_undo_6 ?_
  refine lv_if_ne (tgt := 15) hx hb dX6_undo_9 (by decide) (fun c_2 => ?_) (fun c_2 => ?_)
  · have h := ite_f c_2 h
    refine lv_aload_n hx hb dX6_undo_15 rfl (lv_at hl 0 rfl) ?_
    refine lv_dup hx hb dX6_undo_16 rfl ?_
    refine va_get (D := G.1) (ci := 6) (v := .int (M_1.1 1)) (C := RX6) (T := TX6) (N := 14) hx hb hts hiX6 hown hK.1 hW.1 159 lkM rfl 4 (by decide) (hts _ (List.mem_of_getElem? (i := 2) rfl)) (fun _ h9 => h9) rfl dX6_undo_17 ?_
    refine lv_iconst (v := 1) hx hb dX6_undo_20 (by decide) ?_
    refine lv_isub hx hb dX6_undo_21 ?_
    obtain ⟨M_3, eM_3, h⟩ := nam_e h
    refine va_put (D := G.1) (ci := 6) (v := .int ((M_1.1 1 - 1))) (ty := .int) (C := RX6) (T := TX6) (N := 14) hx hb hts hiX6 tyX6 tyX6_ok nmX6 hown hK.1 hW.1 (hW.D hA) hS 159 lkM rfl 4 (by decide) (hts _ (List.mem_of_getElem? (i := 2) rfl)) (fun _ h9 => h9) rfl (by decide +kernel) rfl rfl (Nat.le_of_ble_eq_true rfl) dX6_undo_22 (fun H locs hP hD hS => ?_)
    have hW := upM1 hW hP
    rw [← eM_3] at hW
    refine lv_iconst (v := 0) hx hb dX6_undo_25 (by decide) ?_
    refine lv_istore_n (lv' := [(1, .int 0), (0, .ref (gad G 159))]) hx hb dX6_undo_26 rfl hl (by decide) rfl (fun ls hl => ?_)
    exact B27 fuelN _ _ M_3 hW hS ls 0 (lv_sub hl [1, 0] rfl) h
  · have h := ite_t c_2 h
    refine lv_bipush (v := (-5)) hx hb dX6_undo_12 (by decide) ?_
    obtain ⟨rfl, rfl⟩ := Prod.mk.inj (Option.some.inj h)
    exact W.iret hx hb hr (fun t ht hw => ⟨⟨_, (), rfl, rfl, hW.ret ht⟩, hS.F ht⟩) hS.2.2 dX6_undo_14
abbrev rX6_keep : Room := { frames := 2, cells := 0, slots := 0, locals := 44 }
set_option maxRecDepth 100000 in
set_option maxHeartbeats 8000000 in
theorem tX6_keep (l : Launch) (G : WG) (S0 M0 : St) (rr : Int32) (M' : St) (h : f6_keep M0 = some (rr, M')) : CtI l yX6_keep wsX6_keep rX6_keep G [.ref (gad G 159)] S0 M0 rr S0 M' := by
  refine Met.ofW (cc := cX6_keep) (maxL := 2) (ret := (some .int)) (by decide) rfl ?_
  intro p e s m args below meth cd s₁ B hml hv
  obtain ⟨hargs, hK, hW⟩ := hv
  have hx := B.exec
  have hb := B.bytes
  have hr := B.returns
  have hts := atoms_spec (ws := wsX6_keep) B.pre
  have hown : s.vm.findClass RX6 = some m.cls := findClass_of_methodNamed B.named
  have hlocks := B.notSynchronized
  have hA : ∀ q, Aw G q → Aw G q := fun _ h => h
  have hS : va_S (Aw G) s.heap s.heap [] := va_S.rf
  have he0 : entryFrame m args 2 = F0 m 0 ((lg_sl ([.ref (gad G 159)]) ++ List.replicate (2 - (lg_sl ([.ref (gad G 159)])).length) Slot.unset).toArray) [] := by rw [hargs]; exact lg_entry_eq _ _ _
  have hl := lv_entry ([.ref (gad G 159)]) (n := 2) (Nat.le_of_ble_eq_true rfl)
  rw [he0]
  generalize (lg_sl ([.ref (gad G 159)]) ++ List.replicate (2 - (lg_sl ([.ref (gad G 159)])).length) Slot.unset).toArray = ls at hl ⊢
  have hl : lv_has ls 2 [(0, .ref (gad G 159))] := hl
  have hiX6 : ∀ w ∈ u_ws RX6 TX6 14, w ∈ wsX6_keep := by decide +kernel
  have B7 : ∀ (n : Nat), ∀ (H : Heap) (locs : List Loc) (M : St) (_ : WD G S0 M H) (_ : va_S (Aw G) s.heap H locs) (ls : Array Slot) (l1 : Int32) (_ : lv_has ls 2 [(0, .ref (gad G 159)), (1, .int l1)]) (h : f6_keep_b7  n M l1 = some (rr, M')), WI p l e (headSpec wsX6_keep rX6_keep).room s m args below meth cd G rr S0 M' H locs (F0 m 7 ls []) := by
    intro n
    induction n with
    | zero => intro H locs M hW hS ls l1 hl h; cases (show (none : Option (Int32 × St)) = some _ from h)
    | succ n ih =>
      intro H locs M hW hS ls l1 hl h
      rw [f6_keep_b7] at h
      refine lv_iload_n hx hb dX6_keep_7 rfl (lv_at hl 1 rfl) ?_
      refine lv_sipush (v := 886) hx hb dX6_keep_8 (by decide) ?_
      refine lv_icmp_ge (tgt := 32) hx hb dX6_keep_11 (by decide) (fun c_1 => ?_) (fun c_1 => ?_)
      · have h := ite_t c_1 h
        refine lv_aload_n hx hb dX6_keep_32 rfl (lv_at hl 0 rfl) ?_
        refine lv_iconst (v := 1) hx hb dX6_keep_33 (by decide) ?_
        obtain ⟨M_2, eM_2, h⟩ := nam_e h
        refine va_put (D := G.1) (ci := 6) (v := .int 1) (ty := .boolean) (C := RX6) (T := TX6) (N := 14) hx hb hts hiX6 tyX6 tyX6_ok nmX6 hown hK.1 hW.1 (hW.D hA) hS 159 lkM rfl 6 (by decide) (hts _ (List.mem_of_getElem? (i := 4) rfl)) (fun _ h9 => h9) rfl (by decide +kernel) rfl rfl (Nat.le_of_ble_eq_true rfl) dX6_keep_34 (fun H locs hP hD hS => ?_)
        have hW := upM2 hW hP
        rw [← eM_2] at hW
        refine lv_aload_n hx hb dX6_keep_37 rfl (lv_at hl 0 rfl) ?_
        obtain ⟨r_3, e_4, h⟩ := bnd_e h
        refine kV_I (As := []) (rest := []) ⟨hx, hb, hml, hown, hts⟩ (tX6_onField l G S0 M_2 r_3 e_4) (cwV 0 hts gX6_keep_X6_onField rfl rfl rfl ⟨rfl, hdX6_onField⟩ ⟨Nat.le_of_ble_eq_true rfl, Nat.le_of_ble_eq_true rfl⟩) (va_recv hK.1 hW.1 (ci := 6) (q0 := 159) rfl lkM) hK hW hS hA rfl hl.1 rfl (Nat.le_of_ble_eq_true rfl) dX6_keep_38 ⟨Nat.zero_le _, Nat.zero_le _⟩ (fun H locs hW hS => ?_)
        obtain ⟨rfl, rfl⟩ := Prod.mk.inj (Option.some.inj h)
        exact W.iret hx hb hr (fun t ht hw => ⟨⟨_, (), rfl, rfl, hW.ret ht⟩, hS.F ht⟩) hS.2.2 dX6_keep_41
      · have h := ite_f c_1 h
        refine lv_aload_n hx hb dX6_keep_14 rfl (lv_at hl 0 rfl) ?_
        refine va_get (D := G.1) (ci := 6) (v := .ref (gad G (160 + 3))) (C := RX6) (T := TX6) (N := 14) hx hb hts hiX6 hown hK.1 hW.1 159 lkM rfl 5 (by decide) (hts _ (List.mem_of_getElem? (i := 2) rfl)) (fun _ h9 => h9) rfl dX6_keep_15 ?_
        refine lv_iload_n hx hb dX6_keep_18 rfl (lv_at hl 1 rfl) ?_
        refine lv_aload_n hx hb dX6_keep_19 rfl (lv_at hl 0 rfl) ?_
        refine va_get (D := G.1) (ci := 6) (v := .ref (gad G (160 + 0))) (C := RX6) (T := TX6) (N := 14) hx hb hts hiX6 hown hK.1 hW.1 159 lkM rfl 1 (by decide) (hts _ (List.mem_of_getElem? (i := 3) rfl)) (fun _ h9 => h9) rfl dX6_keep_20 ?_
        refine lv_iload_n hx hb dX6_keep_23 rfl (lv_at hl 1 rfl) ?_
        obtain ⟨x_5, nx_5, ex_5, h⟩ := arr_e h
        refine va_iald hx hb hK.1 hW.1 (160 + 0) 0 (lkMa (j := 0) (by omega)) rfl nx_5 dX6_keep_24 ?_
        refine lv_ni ex_5 ?_
        obtain ⟨n_7, h⟩ := sto_e h
        obtain ⟨M_6, eM_6, h⟩ := nam_e h
        refine va_iast hx hb hK.1 hW.1 (hW.D hA) hS (160 + 3) 0 (lkMa (j := 3) (by omega)) rfl n_7 dX6_keep_25 (fun H locs hP hD hS => ?_)
        have hW := upMa (j := 3) (by omega) hW hP
        rw [← eM_6] at hW
        refine lv_iinc (v := (l1 + 1)) (lv' := [(1, .int ((l1 + 1))), (0, .ref (gad G 159))]) hx hb dX6_keep_26 hl (k := 1) rfl rfl (by decide) rfl (fun ls hl => ?_)
        refine lv_goto (tgt := 7) hx hb dX6_keep_29 (by decide) ?_
        exact ih _ _ M_6 hW hS ls ((l1 + 1)) (lv_sub hl [1, 0] rfl) h
  unfold f6_keep at h
  refine lv_aload_n hx hb dX6_keep_0 rfl (lv_at hl 0 rfl) ?_
  refine lv_iconst (v := 0) hx hb dX6_keep_1 (by decide) ?_
  obtain ⟨M_1, eM_1, h⟩ := nam_e h
  refine va_put (D := G.1) (ci := 6) (v := .int 0) (ty := .int) (C := RX6) (T := TX6) (N := 14) hx hb hts hiX6 tyX6 tyX6_ok nmX6 hown hK.1 hW.1 (hW.D hA) hS 159 lkM rfl 0 (by decide) (hts _ (List.mem_of_getElem? (i := 1) rfl)) (fun _ h9 => h9) rfl (by decide +kernel) rfl rfl (Nat.le_of_ble_eq_true rfl) dX6_keep_2 (fun H locs hP hD hS => ?_)
  have hW := upM0 hW hP
  rw [← eM_1] at hW
  refine lv_iconst (v := 0) hx hb dX6_keep_5 (by decide) ?_
  refine lv_istore_n (lv' := [(1, .int 0), (0, .ref (gad G 159))]) hx hb dX6_keep_6 rfl hl (by decide) rfl (fun ls hl => ?_)
  exact B7 fuelN _ _ M_1 hW hS ls 0 (lv_sub hl [1, 0] rfl) h
abbrev rX6_restore : Room := { frames := 2, cells := 0, slots := 0, locals := 44 }
set_option maxRecDepth 100000 in
set_option maxHeartbeats 8000000 in
theorem tX6_restore (l : Launch) (G : WG) (S0 M0 : St) (rr : Int32) (M' : St) (h : f6_restore M0 = some (rr, M')) : CtI l yX6_restore wsX6_restore rX6_restore G [.ref (gad G 159)] S0 M0 rr S0 M' := by
  refine Met.ofW (cc := cX6_restore) (maxL := 2) (ret := (some .int)) (by decide) rfl ?_
  intro p e s m args below meth cd s₁ B hml hv
  obtain ⟨hargs, hK, hW⟩ := hv
  have hx := B.exec
  have hb := B.bytes
  have hr := B.returns
  have hts := atoms_spec (ws := wsX6_restore) B.pre
  have hown : s.vm.findClass RX6 = some m.cls := findClass_of_methodNamed B.named
  have hlocks := B.notSynchronized
  have hA : ∀ q, Aw G q → Aw G q := fun _ h => h
  have hS : va_S (Aw G) s.heap s.heap [] := va_S.rf
  have he0 : entryFrame m args 2 = F0 m 0 ((lg_sl ([.ref (gad G 159)]) ++ List.replicate (2 - (lg_sl ([.ref (gad G 159)])).length) Slot.unset).toArray) [] := by rw [hargs]; exact lg_entry_eq _ _ _
  have hl := lv_entry ([.ref (gad G 159)]) (n := 2) (Nat.le_of_ble_eq_true rfl)
  rw [he0]
  generalize (lg_sl ([.ref (gad G 159)]) ++ List.replicate (2 - (lg_sl ([.ref (gad G 159)])).length) Slot.unset).toArray = ls at hl ⊢
  have hl : lv_has ls 2 [(0, .ref (gad G 159))] := hl
  have hiX6 : ∀ w ∈ u_ws RX6 TX6 14, w ∈ wsX6_restore := by decide +kernel
  have B21 : ∀ (n : Nat), ∀ (H : Heap) (locs : List Loc) (M : St) (_ : WD G S0 M H) (_ : va_S (Aw G) s.heap H locs) (ls : Array Slot) (l1 : Int32) (_ : lv_has ls 2 [(0, .ref (gad G 159)), (1, .int l1)]) (h : f6_restore_b21  n M l1 = some (rr, M')), WI p l e (headSpec wsX6_restore rX6_restore).room s m args below meth cd G rr S0 M' H locs (F0 m 21 ls []) := by
    intro n
    induction n with
    | zero => intro H locs M hW hS ls l1 hl h; cases (show (none : Option (Int32 × St)) = some _ from h)
    | succ n ih =>
      intro H locs M hW hS ls l1 hl h
      rw [f6_restore_b21] at h
      refine lv_iload_n hx hb dX6_restore_21 rfl (lv_at hl 1 rfl) ?_
      refine lv_sipush (v := 886) hx hb dX6_restore_22 (by decide) ?_
      refine lv_icmp_ge (tgt := 46) hx hb dX6_restore_25 (by decide) (fun c_1 => ?_) (fun c_1 => ?_)
      · have h := ite_t c_1 h
        refine lv_aload_n hx hb dX6_restore_46 rfl (lv_at hl 0 rfl) ?_
        obtain ⟨r_2, e_3, h⟩ := bnd_e h
        refine kV_I (As := []) (rest := []) ⟨hx, hb, hml, hown, hts⟩ (tX6_onField l G S0 M r_2 e_3) (cwV 0 hts gX6_restore_X6_onField rfl rfl rfl ⟨rfl, hdX6_onField⟩ ⟨Nat.le_of_ble_eq_true rfl, Nat.le_of_ble_eq_true rfl⟩) (va_recv hK.1 hW.1 (ci := 6) (q0 := 159) rfl lkM) hK hW hS hA rfl hl.1 rfl (Nat.le_of_ble_eq_true rfl) dX6_restore_47 ⟨Nat.zero_le _, Nat.zero_le _⟩ (fun H locs hW hS => ?_)
        obtain ⟨rfl, rfl⟩ := Prod.mk.inj (Option.some.inj h)
        exact W.iret hx hb hr (fun t ht hw => ⟨⟨_, (), rfl, rfl, hW.ret ht⟩, hS.F ht⟩) hS.2.2 dX6_restore_50
      · have h := ite_f c_1 h
        refine lv_aload_n hx hb dX6_restore_28 rfl (lv_at hl 0 rfl) ?_
        refine va_get (D := G.1) (ci := 6) (v := .ref (gad G (160 + 0))) (C := RX6) (T := TX6) (N := 14) hx hb hts hiX6 hown hK.1 hW.1 159 lkM rfl 1 (by decide) (hts _ (List.mem_of_getElem? (i := 3) rfl)) (fun _ h9 => h9) rfl dX6_restore_29 ?_
        refine lv_iload_n hx hb dX6_restore_32 rfl (lv_at hl 1 rfl) ?_
        refine lv_aload_n hx hb dX6_restore_33 rfl (lv_at hl 0 rfl) ?_
        refine va_get (D := G.1) (ci := 6) (v := .ref (gad G (160 + 3))) (C := RX6) (T := TX6) (N := 14) hx hb hts hiX6 hown hK.1 hW.1 159 lkM rfl 5 (by decide) (hts _ (List.mem_of_getElem? (i := 4) rfl)) (fun _ h9 => h9) rfl dX6_restore_34 ?_
        refine lv_iload_n hx hb dX6_restore_37 rfl (lv_at hl 1 rfl) ?_
        obtain ⟨x_4, nx_4, ex_4, h⟩ := arr_e h
        refine va_iald hx hb hK.1 hW.1 (160 + 3) 0 (lkMa (j := 3) (by omega)) rfl nx_4 dX6_restore_38 ?_
        refine lv_ni ex_4 ?_
        obtain ⟨n_6, h⟩ := sto_e h
        obtain ⟨M_5, eM_5, h⟩ := nam_e h
        refine va_iast hx hb hK.1 hW.1 (hW.D hA) hS (160 + 0) 0 (lkMa (j := 0) (by omega)) rfl n_6 dX6_restore_39 (fun H locs hP hD hS => ?_)
        have hW := upMa (j := 0) (by omega) hW hP
        rw [← eM_5] at hW
        refine lv_iinc (v := (l1 + 1)) (lv' := [(1, .int ((l1 + 1))), (0, .ref (gad G 159))]) hx hb dX6_restore_40 hl (k := 1) rfl rfl (by decide) rfl (fun ls hl => ?_)
        refine lv_goto (tgt := 21) hx hb dX6_restore_43 (by decide) ?_
        exact ih _ _ M_5 hW hS ls ((l1 + 1)) (lv_sub hl [1, 0] rfl) h
  unfold f6_restore at h
  refine lv_aload_n hx hb dX6_restore_0 rfl (lv_at hl 0 rfl) ?_
  refine lv_iconst (v := 0) hx hb dX6_restore_1 (by decide) ?_
  obtain ⟨M_1, eM_1, h⟩ := nam_e h
  refine va_put (D := G.1) (ci := 6) (v := .int 0) (ty := .int) (C := RX6) (T := TX6) (N := 14) hx hb hts hiX6 tyX6 tyX6_ok nmX6 hown hK.1 hW.1 (hW.D hA) hS 159 lkM rfl 0 (by decide) (hts _ (List.mem_of_getElem? (i := 1) rfl)) (fun _ h9 => h9) rfl (by decide +kernel) rfl rfl (Nat.le_of_ble_eq_true rfl) dX6_restore_2 (fun H locs hP hD hS => ?_)
  have hW := upM0 hW hP
  rw [← eM_1] at hW
  refine lv_aload_n hx hb dX6_restore_5 rfl (lv_at hl 0 rfl) ?_
  refine va_get (D := G.1) (ci := 6) (v := .int (M_1.1 2)) (C := RX6) (T := TX6) (N := 14) hx hb hts hiX6 hown hK.1 hW.1 159 lkM rfl 6 (by decide) (hts _ (List.mem_of_getElem? (i := 2) rfl)) (fun _ h9 => h9) rfl dX6_restore_6 ?_
  refine lv_if_ne (tgt := 15) hx hb dX6_restore_9 (by decide) (fun c_2 => ?_) (fun c_2 => ?_)
  · have h := ite_f c_2 h
    refine lv_aload_n hx hb dX6_restore_15 rfl (lv_at hl 0 rfl) ?_
    obtain ⟨M_3, e_4, h⟩ := bnd_e h
    refine kV_V (As := []) (rest := []) ⟨hx, hb, hml, hown, hts⟩ (tX6_records l G S0 M_1 M_3 e_4) (cwV 0 hts gX6_restore_X6_records rfl rfl rfl ⟨rfl, hdX6_records⟩ ⟨Nat.le_of_ble_eq_true rfl, Nat.le_of_ble_eq_true rfl⟩) (va_recv hK.1 hW.1 (ci := 6) (q0 := 159) rfl lkM) hK hW hS hA rfl hl.1 rfl (Nat.le_of_ble_eq_true rfl) dX6_restore_16 ⟨Nat.zero_le _, Nat.zero_le _⟩ (fun H locs hW hS => ?_)
    refine lv_iconst (v := 0) hx hb dX6_restore_19 (by decide) ?_
    refine lv_istore_n (lv' := [(1, .int 0), (0, .ref (gad G 159))]) hx hb dX6_restore_20 rfl hl (by decide) rfl (fun ls hl => ?_)
    exact B21 fuelN _ _ M_3 hW hS ls 0 (lv_sub hl [1, 0] rfl) h
  · have h := ite_t c_2 h
    refine lv_bipush (v := (-5)) hx hb dX6_restore_12 (by decide) ?_
    obtain ⟨rfl, rfl⟩ := Prod.mk.inj (Option.some.inj h)
    exact W.iret hx hb hr (fun t ht hw => ⟨⟨_, (), rfl, rfl, hW.ret ht⟩, hS.F ht⟩) hS.2.2 dX6_restore_14
abbrev rX6_touching : Room := { frames := 3, cells := 0, slots := 0, locals := 69 }
set_option maxRecDepth 100000 in
set_option maxHeartbeats 8000000 in
theorem tX6_touching (l : Launch) (G : WG) (S0 M0 : St) (p1 : Int32) (rr : Int32) (h : f6_touching M0 p1 = some (rr)) : CtI l yX6_touching wsX6_touching rX6_touching G [.ref (gad G 159), .int p1] S0 M0 rr S0 M0 := by
  refine Met.ofW (cc := cX6_touching) (maxL := 4) (ret := (some .int)) (by decide) rfl ?_
  intro p e s m args below meth cd s₁ B hml hv
  obtain ⟨hargs, hK, hW⟩ := hv
  have hx := B.exec
  have hb := B.bytes
  have hr := B.returns
  have hts := atoms_spec (ws := wsX6_touching) B.pre
  have hown : s.vm.findClass RX6 = some m.cls := findClass_of_methodNamed B.named
  have hlocks := B.notSynchronized
  have hA : ∀ q, Aw G q → Aw G q := fun _ h => h
  have hS : va_S (Aw G) s.heap s.heap [] := va_S.rf
  have he0 : entryFrame m args 4 = F0 m 0 ((lg_sl ([.ref (gad G 159), .int p1]) ++ List.replicate (4 - (lg_sl ([.ref (gad G 159), .int p1])).length) Slot.unset).toArray) [] := by rw [hargs]; exact lg_entry_eq _ _ _
  have hl := lv_entry ([.ref (gad G 159), .int p1]) (n := 4) (Nat.le_of_ble_eq_true rfl)
  rw [he0]
  generalize (lg_sl ([.ref (gad G 159), .int p1]) ++ List.replicate (4 - (lg_sl ([.ref (gad G 159), .int p1])).length) Slot.unset).toArray = ls at hl ⊢
  have hl : lv_has ls 4 [(0, .ref (gad G 159)), (1, .int p1)] := hl
  have hiX6 : ∀ w ∈ u_ws RX6 TX6 14, w ∈ wsX6_touching := by decide +kernel
  have B4 : ∀ (n : Nat), ∀ (H : Heap) (locs : List Loc) (_ : WD G S0 M0 H) (_ : va_S (Aw G) s.heap H locs) (ls : Array Slot) (l1 : Int32) (l2 : Int32) (l3 : Int32) (_ : lv_has ls 4 [(0, .ref (gad G 159)), (1, .int l1), (2, .int l2), (3, .int l3)]) (h : f6_touching_b4 M0 l1 n l2 l3 = some (rr)), WI p l e (headSpec wsX6_touching rX6_touching).room s m args below meth cd G rr S0 M0 H locs (F0 m 4 ls []) := by
    intro n
    induction n with
    | zero => intro H locs hW hS ls l1 l2 l3 hl h; cases (show (none : Option (Int32)) = some _ from h)
    | succ n ih =>
      have B34 : ∀ (H : Heap) (locs : List Loc) (_ : WD G S0 M0 H) (_ : va_S (Aw G) s.heap H locs) (ls : Array Slot) (l1 : Int32) (l3 : Int32) (k0 : Int32) (k1 : Int32) (_ : lv_has ls 4 [(0, .ref (gad G 159)), (1, .int l1), (3, .int l3)]) (h : f6_touching_b34 M0 (f6_touching_b4 M0 l1 n) l1 l3 k0 k1 = some (rr)), WI p l e (headSpec wsX6_touching rX6_touching).room s m args below meth cd G rr S0 M0 H locs (F0 m 34 ls [.int k0, .int k1]) := by
        intro H locs hW hS ls l1 l3 k0 k1 hl h
        unfold f6_touching_b34 at h
        refine lv_iadd hx hb dX6_touching_34 ?_
        obtain ⟨x_1, ex_1, h⟩ := nam_e h
        refine lv_ni ex_1 ?_
        refine lv_istore_n (lv' := [(2, .int x_1), (0, .ref (gad G 159)), (1, .int l1), (3, .int l3)]) hx hb dX6_touching_35 rfl hl (by decide) rfl (fun ls hl => ?_)
        refine lv_iinc (v := (l3 + 1)) (lv' := [(3, .int ((l3 + 1))), (2, .int x_1), (0, .ref (gad G 159)), (1, .int l1)]) hx hb dX6_touching_36 hl (k := 3) rfl rfl (by decide) rfl (fun ls hl => ?_)
        refine lv_goto (tgt := 4) hx hb dX6_touching_39 (by decide) ?_
        exact ih _ _ hW hS ls l1 x_1 ((l3 + 1)) (lv_sub hl [2, 3, 1, 0] rfl) h
      have B33 : ∀ (H : Heap) (locs : List Loc) (_ : WD G S0 M0 H) (_ : va_S (Aw G) s.heap H locs) (ls : Array Slot) (l1 : Int32) (l3 : Int32) (k0 : Int32) (_ : lv_has ls 4 [(0, .ref (gad G 159)), (1, .int l1), (3, .int l3)]) (h : f6_touching_b33 M0 (f6_touching_b4 M0 l1 n) l1 l3 k0 = some (rr)), WI p l e (headSpec wsX6_touching rX6_touching).room s m args below meth cd G rr S0 M0 H locs (F0 m 33 ls [.int k0]) := by
        intro H locs hW hS ls l1 l3 k0 hl h
        unfold f6_touching_b33 at h
        refine lv_iconst (v := 0) hx hb dX6_touching_33 (by decide) ?_
        exact B34 _ _ hW hS ls l1 l3 0 k0 (lv_sub hl [0, 1, 2] rfl) h
      intro H locs hW hS ls l1 l2 l3 hl h
      rw [f6_touching_b4] at h
      refine lv_iload_n hx hb dX6_touching_4 rfl (lv_at hl 3 rfl) ?_
      refine lv_aload_n hx hb dX6_touching_5 rfl (lv_at hl 0 rfl) ?_
      refine va_get (D := G.1) (ci := 6) (v := .ref (gad G (160 + 0))) (C := RX6) (T := TX6) (N := 14) hx hb hts hiX6 hown hK.1 hW.1 159 lkM rfl 1 (by decide) (hts _ (List.mem_of_getElem? (i := 1) rfl)) (fun _ h9 => h9) rfl dX6_touching_6 ?_
      refine lv_iconst (v := 1) hx hb dX6_touching_9 (by decide) ?_
      obtain ⟨x_1, nx_1, ex_1, h⟩ := arr_e h
      refine va_iald hx hb hK.1 hW.1 (160 + 0) 0 (lkMa (j := 0) (by omega)) rfl nx_1 dX6_touching_10 ?_
      refine lv_ni ex_1 ?_
      refine lv_icmp_ge (tgt := 42) hx hb dX6_touching_11 (by decide) (fun c_2 => ?_) (fun c_2 => ?_)
      · have h := ite_t c_2 h
        refine lv_iload_n hx hb dX6_touching_42 rfl (lv_at hl 2 rfl) ?_
        obtain rfl := Option.some.inj h
        exact W.iret hx hb hr (fun t ht hw => ⟨⟨_, (), rfl, rfl, hW.ret ht⟩, hS.F ht⟩) hS.2.2 dX6_touching_43
      · have h := ite_f c_2 h
        refine lv_iload_n hx hb dX6_touching_14 rfl (lv_at hl 2 rfl) ?_
        refine lv_iload_n hx hb dX6_touching_15 rfl (lv_at hl 3 rfl) ?_
        refine lv_iload_n hx hb dX6_touching_16 rfl (lv_at hl 1 rfl) ?_
        refine lv_icmp_eq (tgt := 33) hx hb dX6_touching_17 (by decide) (fun c_3 => ?_) (fun c_3 => ?_)
        · have h := ite_t c_3 h
          exact B33 _ _ hW hS ls l1 l3 l2 (lv_sub hl [0, 1, 3] rfl) h
        · have h := ite_f c_3 h
          refine lv_aload_n hx hb dX6_touching_20 rfl (lv_at hl 0 rfl) ?_
          refine lv_iload_n hx hb dX6_touching_21 rfl (lv_at hl 1 rfl) ?_
          refine lv_iload_n hx hb dX6_touching_22 rfl (lv_at hl 3 rfl) ?_
          obtain ⟨r_4, e_5, h⟩ := bnd_e h
          refine kV_I (As := [.int l1, .int l3]) (rest := [.int l2]) ⟨hx, hb, hml, hown, hts⟩ (tX6_touch l G S0 M0 l1 l3 r_4 e_5) (cwV 2 hts gX6_touching_X6_touch rfl rfl rfl ⟨rfl, hdX6_touch⟩ ⟨Nat.le_of_ble_eq_true rfl, Nat.le_of_ble_eq_true rfl⟩) (va_recv hK.1 hW.1 (ci := 6) (q0 := 159) rfl lkM) hK hW hS hA rfl hl.1 rfl (Nat.le_of_ble_eq_true rfl) dX6_touching_23 ⟨Nat.zero_le _, Nat.zero_le _⟩ (fun H locs hW hS => ?_)
          refine lv_if_eq (tgt := 33) hx hb dX6_touching_26 (by decide) (fun c_6 => ?_) (fun c_6 => ?_)
          · have h := ite_t c_6 h
            exact B33 _ _ hW hS ls l1 l3 l2 (lv_sub hl [0, 1, 3] rfl) h
          · have h := ite_f c_6 h
            refine lv_iconst (v := 1) hx hb dX6_touching_29 (by decide) ?_
            refine lv_goto (tgt := 34) hx hb dX6_touching_30 (by decide) ?_
            exact B34 _ _ hW hS ls l1 l3 1 l2 (lv_sub hl [0, 1, 3] rfl) h
  unfold f6_touching at h
  refine lv_iconst (v := 0) hx hb dX6_touching_0 (by decide) ?_
  refine lv_istore_n (lv' := [(2, .int 0), (0, .ref (gad G 159)), (1, .int p1)]) hx hb dX6_touching_1 rfl hl (by decide) rfl (fun ls hl => ?_)
  refine lv_iconst (v := 0) hx hb dX6_touching_2 (by decide) ?_
  refine lv_istore_n (lv' := [(3, .int 0), (2, .int 0), (0, .ref (gad G 159)), (1, .int p1)]) hx hb dX6_touching_3 rfl hl (by decide) rfl (fun ls hl => ?_)
  exact B4 fuelN _ _ hW hS ls p1 0 0 (lv_sub hl [2, 3, 1, 0] rfl) h
abbrev rX6_plot : Room := { frames := 4, cells := 0, slots := 0, locals := 92 }
set_option maxRecDepth 100000 in
set_option maxHeartbeats 8000000 in
theorem tX6_plot (l : Launch) (G : WG) (S0 M0 : St) (p1 : Int32) (p2 : Int32) (p3 : Int32) (rr : Int32) (M' : St) (h : f6_plot M0 p1 p2 p3 = some (rr, M')) : CtI l yX6_plot wsX6_plot rX6_plot G [.ref (gad G 159), .int p1, .int p2, .int p3] S0 M0 rr S0 M' := by
  refine Met.ofW (cc := cX6_plot) (maxL := 5) (ret := (some .int)) (by decide) rfl ?_
  intro p e s m args below meth cd s₁ B hml hv
  obtain ⟨hargs, hK, hW⟩ := hv
  have hx := B.exec
  have hb := B.bytes
  have hr := B.returns
  have hts := atoms_spec (ws := wsX6_plot) B.pre
  have hown : s.vm.findClass RX6 = some m.cls := findClass_of_methodNamed B.named
  have hlocks := B.notSynchronized
  have hA : ∀ q, Aw G q → Aw G q := fun _ h => h
  have hS : va_S (Aw G) s.heap s.heap [] := va_S.rf
  have he0 : entryFrame m args 5 = F0 m 0 ((lg_sl ([.ref (gad G 159), .int p1, .int p2, .int p3]) ++ List.replicate (5 - (lg_sl ([.ref (gad G 159), .int p1, .int p2, .int p3])).length) Slot.unset).toArray) [] := by rw [hargs]; exact lg_entry_eq _ _ _
  have hl := lv_entry ([.ref (gad G 159), .int p1, .int p2, .int p3]) (n := 5) (Nat.le_of_ble_eq_true rfl)
  rw [he0]
  generalize (lg_sl ([.ref (gad G 159), .int p1, .int p2, .int p3]) ++ List.replicate (5 - (lg_sl ([.ref (gad G 159), .int p1, .int p2, .int p3])).length) Slot.unset).toArray = ls at hl ⊢
  have hl : lv_has ls 5 [(0, .ref (gad G 159)), (1, .int p1), (2, .int p2), (3, .int p3)] := hl
  have hiX6 : ∀ w ∈ u_ws RX6 TX6 14, w ∈ wsX6_plot := by decide +kernel
  have B92 : ∀ (H : Heap) (locs : List Loc) (M : St) (_ : WD G S0 M H) (_ : va_S (Aw G) s.heap H locs) (ls : Array Slot) (k0 : Int32) (_ : lv_has ls 5 []) (h : f6_plot_b92 M k0 = some (rr, M')), WI p l e (headSpec wsX6_plot rX6_plot).room s m args below meth cd G rr S0 M' H locs (F0 m 92 ls [.int k0]) := by
    intro H locs M hW hS ls k0 hl h
    unfold f6_plot_b92 at h
    obtain ⟨rfl, rfl⟩ := Prod.mk.inj (Option.some.inj h)
    exact W.iret hx hb hr (fun t ht hw => ⟨⟨_, (), rfl, rfl, hW.ret ht⟩, hS.F ht⟩) hS.2.2 dX6_plot_92
  unfold f6_plot at h
  refine lv_aload_n hx hb dX6_plot_0 rfl (lv_at hl 0 rfl) ?_
  refine lv_iconst (v := 0) hx hb dX6_plot_1 (by decide) ?_
  obtain ⟨M_1, eM_1, h⟩ := nam_e h
  refine va_put (D := G.1) (ci := 6) (v := .int 0) (ty := .int) (C := RX6) (T := TX6) (N := 14) hx hb hts hiX6 tyX6 tyX6_ok nmX6 hown hK.1 hW.1 (hW.D hA) hS 159 lkM rfl 0 (by decide) (hts _ (List.mem_of_getElem? (i := 1) rfl)) (fun _ h9 => h9) rfl (by decide +kernel) rfl rfl (Nat.le_of_ble_eq_true rfl) dX6_plot_2 (fun H locs hP hD hS => ?_)
  have hW := upM0 hW hP
  rw [← eM_1] at hW
  refine lv_iload_n hx hb dX6_plot_5 rfl (lv_at hl 1 rfl) ?_
  refine lv_iload_n hx hb dX6_plot_6 rfl (lv_at hl 2 rfl) ?_
  obtain ⟨r_2, e_3, h⟩ := bnd_e h
  refine kS_I (As := [.int p1, .int p2]) (rest := []) ⟨hx, hb, hml, hown, hts⟩ (tX6_isPoint l G S0 M_1 p1 p2 r_2 e_3) (va_cwS 2 hts gX6_plot_X6_isPoint rfl rfl rfl hdX6_isPoint ⟨Nat.le_of_ble_eq_true rfl, Nat.le_of_ble_eq_true rfl⟩) hK hW hS hA rfl hl.1 rfl (Nat.le_of_ble_eq_true rfl) dX6_plot_7 ⟨Nat.zero_le _, Nat.zero_le _⟩ (fun H locs hW hS => ?_)
  refine lv_if_ne (tgt := 15) hx hb dX6_plot_10 (by decide) (fun c_4 => ?_) (fun c_4 => ?_)
  · have h := ite_f c_4 h
    refine lv_aload_n hx hb dX6_plot_15 rfl (lv_at hl 0 rfl) ?_
    refine lv_iload_n hx hb dX6_plot_16 rfl (lv_at hl 1 rfl) ?_
    refine lv_iload_n hx hb dX6_plot_17 rfl (lv_at hl 2 rfl) ?_
    obtain ⟨r_5, e_6, h⟩ := bnd_e h
    refine kV_I (As := [.int p1, .int p2]) (rest := []) ⟨hx, hb, hml, hown, hts⟩ (tX6_plotAt l G S0 M_1 p1 p2 r_5 e_6) (cwV 2 hts gX6_plot_X6_plotAt rfl rfl rfl ⟨rfl, hdX6_plotAt⟩ ⟨Nat.le_of_ble_eq_true rfl, Nat.le_of_ble_eq_true rfl⟩) (va_recv hK.1 hW.1 (ci := 6) (q0 := 159) rfl lkM) hK hW hS hA rfl hl.1 rfl (Nat.le_of_ble_eq_true rfl) dX6_plot_18 ⟨Nat.zero_le _, Nat.zero_le _⟩ (fun H locs hW hS => ?_)
    refine lv_istore (lv' := [(4, .int r_5), (0, .ref (gad G 159)), (1, .int p1), (2, .int p2), (3, .int p3)]) hx hb dX6_plot_21 hl (by decide) rfl (fun ls hl => ?_)
    refine lv_iload_n hx hb dX6_plot_23 rfl (lv_at hl 4 rfl) ?_
    by_cases c_7 : Int32.toInt p3 < 0 ∨ 6 < Int32.toInt p3
    · have h := ite_t c_7 h
      refine lv_tableOut (tgt := 138) hx hb dX6_plot_24 c_7 (by decide) ?_
      refine lv_bipush (v := (-2)) hx hb dX6_plot_138 (by decide) ?_
      obtain ⟨rfl, rfl⟩ := Prod.mk.inj (Option.some.inj h)
      exact W.iret hx hb hr (fun t ht hw => ⟨⟨_, (), rfl, rfl, hW.ret ht⟩, hS.F ht⟩) hS.2.2 dX6_plot_140
    · have h := ite_f c_7 h
      by_cases c_8 : (p3 : Int32) = 0
      · have h := ite_t c_8 h
        refine lv_tableIn (off := 44) (tgt := 68) hx hb dX6_plot_24 (by rw [c_8]; decide) (by rw [c_8]; decide) (by rw [c_8]; rfl) (by decide) ?_
        refine lv_aload_n hx hb dX6_plot_68 rfl (lv_at hl 1 rfl) ?_
        refine lv_iload hx hb dX6_plot_69 (lv_at hl 0 rfl) ?_
        refine lv_iconst (v := 3) hx hb dX6_plot_71 (by decide) ?_
        obtain ⟨r_9, e_10, h⟩ := bnd_e h
        refine kV_I (As := [.int r_5, .int 3]) (rest := []) ⟨hx, hb, hml, hown, hts⟩ (tX6_ofPlot l G S0 M_1 r_5 3 r_9 e_10) (cwV 2 hts gX6_plot_X6_ofPlot rfl rfl rfl ⟨rfl, hdX6_ofPlot⟩ ⟨Nat.le_of_ble_eq_true rfl, Nat.le_of_ble_eq_true rfl⟩) (va_recv hK.1 hW.1 (ci := 6) (q0 := 159) rfl lkM) hK hW hS hA rfl hl.1 rfl (Nat.le_of_ble_eq_true rfl) dX6_plot_72 ⟨Nat.zero_le _, Nat.zero_le _⟩ (fun H locs hW hS => ?_)
        refine lv_if_ne (tgt := 83) hx hb dX6_plot_75 (by decide) (fun c_11 => ?_) (fun c_11 => ?_)
        · have h := ite_f c_11 h
          refine lv_aload_n hx hb dX6_plot_83 rfl (lv_at hl 1 rfl) ?_
          refine lv_iload hx hb dX6_plot_84 (lv_at hl 0 rfl) ?_
          refine lv_iconst (v := 3) hx hb dX6_plot_86 (by decide) ?_
          obtain ⟨r_12, e_13, h⟩ := bnd_e h
          refine kV_I (As := [.int r_5, .int 3]) (rest := []) ⟨hx, hb, hml, hown, hts⟩ (tX6_ofPlot l G S0 M_1 r_5 3 r_12 e_13) (cwV 2 hts gX6_plot_X6_ofPlot rfl rfl rfl ⟨rfl, hdX6_ofPlot⟩ ⟨Nat.le_of_ble_eq_true rfl, Nat.le_of_ble_eq_true rfl⟩) (va_recv hK.1 hW.1 (ci := 6) (q0 := 159) rfl lkM) hK hW hS hA rfl hl.1 rfl (Nat.le_of_ble_eq_true rfl) dX6_plot_87 ⟨Nat.zero_le _, Nat.zero_le _⟩ (fun H locs hW hS => ?_)
          refine lv_iconst (v := 1) hx hb dX6_plot_90 (by decide) ?_
          refine lv_isub hx hb dX6_plot_91 ?_
          exact B92 _ _ M_1 hW hS ls ((r_12 - 1)) (lv_sub hl [] rfl) h
        · have h := ite_t c_11 h
          refine lv_bipush (v := (-5)) hx hb dX6_plot_78 (by decide) ?_
          refine lv_goto (tgt := 92) hx hb dX6_plot_80 (by decide) ?_
          exact B92 _ _ M_1 hW hS ls ((-5)) (lv_sub hl [] rfl) h
      · have h := ite_f c_8 h
        by_cases c_14 : (p3 : Int32) = 1
        · have h := ite_t c_14 h
          refine lv_tableIn (off := 69) (tgt := 93) hx hb dX6_plot_24 (by rw [c_14]; decide) (by rw [c_14]; decide) (by rw [c_14]; rfl) (by decide) ?_
          refine lv_aload_n hx hb dX6_plot_93 rfl (lv_at hl 1 rfl) ?_
          refine lv_iload hx hb dX6_plot_94 (lv_at hl 0 rfl) ?_
          refine lv_iconst (v := 0) hx hb dX6_plot_96 (by decide) ?_
          obtain ⟨r_15, e_16, h⟩ := bnd_e h
          refine kV_I (As := [.int r_5, .int 0]) (rest := []) ⟨hx, hb, hml, hown, hts⟩ (tX6_ofPlot l G S0 M_1 r_5 0 r_15 e_16) (cwV 2 hts gX6_plot_X6_ofPlot rfl rfl rfl ⟨rfl, hdX6_ofPlot⟩ ⟨Nat.le_of_ble_eq_true rfl, Nat.le_of_ble_eq_true rfl⟩) (va_recv hK.1 hW.1 (ci := 6) (q0 := 159) rfl lkM) hK hW hS hA rfl hl.1 rfl (Nat.le_of_ble_eq_true rfl) dX6_plot_97 ⟨Nat.zero_le _, Nat.zero_le _⟩ (fun H locs hW hS => ?_)
          obtain ⟨rfl, rfl⟩ := Prod.mk.inj (Option.some.inj h)
          exact W.iret hx hb hr (fun t ht hw => ⟨⟨_, (), rfl, rfl, hW.ret ht⟩, hS.F ht⟩) hS.2.2 dX6_plot_100
        · have h := ite_f c_14 h
          by_cases c_17 : (p3 : Int32) = 2
          · have h := ite_t c_17 h
            refine lv_tableIn (off := 77) (tgt := 101) hx hb dX6_plot_24 (by rw [c_17]; decide) (by rw [c_17]; decide) (by rw [c_17]; rfl) (by decide) ?_
            refine lv_aload_n hx hb dX6_plot_101 rfl (lv_at hl 1 rfl) ?_
            refine lv_iload hx hb dX6_plot_102 (lv_at hl 0 rfl) ?_
            refine lv_iconst (v := 1) hx hb dX6_plot_104 (by decide) ?_
            obtain ⟨r_18, e_19, h⟩ := bnd_e h
            refine kV_I (As := [.int r_5, .int 1]) (rest := []) ⟨hx, hb, hml, hown, hts⟩ (tX6_ofPlot l G S0 M_1 r_5 1 r_18 e_19) (cwV 2 hts gX6_plot_X6_ofPlot rfl rfl rfl ⟨rfl, hdX6_ofPlot⟩ ⟨Nat.le_of_ble_eq_true rfl, Nat.le_of_ble_eq_true rfl⟩) (va_recv hK.1 hW.1 (ci := 6) (q0 := 159) rfl lkM) hK hW hS hA rfl hl.1 rfl (Nat.le_of_ble_eq_true rfl) dX6_plot_105 ⟨Nat.zero_le _, Nat.zero_le _⟩ (fun H locs hW hS => ?_)
            obtain ⟨rfl, rfl⟩ := Prod.mk.inj (Option.some.inj h)
            exact W.iret hx hb hr (fun t ht hw => ⟨⟨_, (), rfl, rfl, hW.ret ht⟩, hS.F ht⟩) hS.2.2 dX6_plot_108
          · have h := ite_f c_17 h
            by_cases c_20 : (p3 : Int32) = 3
            · have h := ite_t c_20 h
              refine lv_tableIn (off := 85) (tgt := 109) hx hb dX6_plot_24 (by rw [c_20]; decide) (by rw [c_20]; decide) (by rw [c_20]; rfl) (by decide) ?_
              refine lv_aload_n hx hb dX6_plot_109 rfl (lv_at hl 1 rfl) ?_
              refine lv_iload hx hb dX6_plot_110 (lv_at hl 0 rfl) ?_
              refine lv_iconst (v := 2) hx hb dX6_plot_112 (by decide) ?_
              obtain ⟨r_21, e_22, h⟩ := bnd_e h
              refine kV_I (As := [.int r_5, .int 2]) (rest := []) ⟨hx, hb, hml, hown, hts⟩ (tX6_ofPlot l G S0 M_1 r_5 2 r_21 e_22) (cwV 2 hts gX6_plot_X6_ofPlot rfl rfl rfl ⟨rfl, hdX6_ofPlot⟩ ⟨Nat.le_of_ble_eq_true rfl, Nat.le_of_ble_eq_true rfl⟩) (va_recv hK.1 hW.1 (ci := 6) (q0 := 159) rfl lkM) hK hW hS hA rfl hl.1 rfl (Nat.le_of_ble_eq_true rfl) dX6_plot_113 ⟨Nat.zero_le _, Nat.zero_le _⟩ (fun H locs hW hS => ?_)
              obtain ⟨rfl, rfl⟩ := Prod.mk.inj (Option.some.inj h)
              exact W.iret hx hb hr (fun t ht hw => ⟨⟨_, (), rfl, rfl, hW.ret ht⟩, hS.F ht⟩) hS.2.2 dX6_plot_116
            · have h := ite_f c_20 h
              by_cases c_23 : (p3 : Int32) = 4
              · have h := ite_t c_23 h
                refine lv_tableIn (off := 93) (tgt := 117) hx hb dX6_plot_24 (by rw [c_23]; decide) (by rw [c_23]; decide) (by rw [c_23]; rfl) (by decide) ?_
                refine lv_aload_n hx hb dX6_plot_117 rfl (lv_at hl 1 rfl) ?_
                refine lv_iload hx hb dX6_plot_118 (lv_at hl 0 rfl) ?_
                obtain ⟨r_24, e_25, h⟩ := bnd_e h
                refine kV_I (As := [.int r_5]) (rest := []) ⟨hx, hb, hml, hown, hts⟩ (tX6_lastX l G S0 M_1 r_5 r_24 e_25) (cwV 1 hts gX6_plot_X6_lastX rfl rfl rfl ⟨rfl, hdX6_lastX⟩ ⟨Nat.le_of_ble_eq_true rfl, Nat.le_of_ble_eq_true rfl⟩) (va_recv hK.1 hW.1 (ci := 6) (q0 := 159) rfl lkM) hK hW hS hA rfl hl.1 rfl (Nat.le_of_ble_eq_true rfl) dX6_plot_120 ⟨Nat.zero_le _, Nat.zero_le _⟩ (fun H locs hW hS => ?_)
                obtain ⟨rfl, rfl⟩ := Prod.mk.inj (Option.some.inj h)
                exact W.iret hx hb hr (fun t ht hw => ⟨⟨_, (), rfl, rfl, hW.ret ht⟩, hS.F ht⟩) hS.2.2 dX6_plot_123
              · have h := ite_f c_23 h
                by_cases c_26 : (p3 : Int32) = 5
                · have h := ite_t c_26 h
                  refine lv_tableIn (off := 100) (tgt := 124) hx hb dX6_plot_24 (by rw [c_26]; decide) (by rw [c_26]; decide) (by rw [c_26]; rfl) (by decide) ?_
                  refine lv_aload_n hx hb dX6_plot_124 rfl (lv_at hl 1 rfl) ?_
                  refine lv_iload hx hb dX6_plot_125 (lv_at hl 0 rfl) ?_
                  obtain ⟨r_27, e_28, h⟩ := bnd_e h
                  refine kV_I (As := [.int r_5]) (rest := []) ⟨hx, hb, hml, hown, hts⟩ (tX6_lastY l G S0 M_1 r_5 r_27 e_28) (cwV 1 hts gX6_plot_X6_lastY rfl rfl rfl ⟨rfl, hdX6_lastY⟩ ⟨Nat.le_of_ble_eq_true rfl, Nat.le_of_ble_eq_true rfl⟩) (va_recv hK.1 hW.1 (ci := 6) (q0 := 159) rfl lkM) hK hW hS hA rfl hl.1 rfl (Nat.le_of_ble_eq_true rfl) dX6_plot_127 ⟨Nat.zero_le _, Nat.zero_le _⟩ (fun H locs hW hS => ?_)
                  obtain ⟨rfl, rfl⟩ := Prod.mk.inj (Option.some.inj h)
                  exact W.iret hx hb hr (fun t ht hw => ⟨⟨_, (), rfl, rfl, hW.ret ht⟩, hS.F ht⟩) hS.2.2 dX6_plot_130
                · have h := ite_f c_26 h
                  by_cases c_29 : (p3 : Int32) = 6
                  · have h := ite_t c_29 h
                    refine lv_tableIn (off := 107) (tgt := 131) hx hb dX6_plot_24 (by rw [c_29]; decide) (by rw [c_29]; decide) (by rw [c_29]; rfl) (by decide) ?_
                    refine lv_aload_n hx hb dX6_plot_131 rfl (lv_at hl 1 rfl) ?_
                    refine lv_iload hx hb dX6_plot_132 (lv_at hl 0 rfl) ?_
                    obtain ⟨r_30, e_31, h⟩ := bnd_e h
                    refine kV_I (As := [.int r_5]) (rest := []) ⟨hx, hb, hml, hown, hts⟩ (tX6_touching l G S0 M_1 r_5 r_30 e_31) (cwV 1 hts gX6_plot_X6_touching rfl rfl rfl ⟨rfl, hdX6_touching⟩ ⟨Nat.le_of_ble_eq_true rfl, Nat.le_of_ble_eq_true rfl⟩) (va_recv hK.1 hW.1 (ci := 6) (q0 := 159) rfl lkM) hK hW hS hA rfl hl.1 rfl (Nat.le_of_ble_eq_true rfl) dX6_plot_134 ⟨Nat.zero_le _, Nat.zero_le _⟩ (fun H locs hW hS => ?_)
                    obtain ⟨rfl, rfl⟩ := Prod.mk.inj (Option.some.inj h)
                    exact W.iret hx hb hr (fun t ht hw => ⟨⟨_, (), rfl, rfl, hW.ret ht⟩, hS.F ht⟩) hS.2.2 dX6_plot_137
                  · have h := ite_f c_29 h
                    cases h
  · have h := ite_t c_4 h
    refine lv_iconst (v := (-1)) hx hb dX6_plot_13 (by decide) ?_
    obtain ⟨rfl, rfl⟩ := Prod.mk.inj (Option.some.inj h)
    exact W.iret hx hb hr (fun t ht hw => ⟨⟨_, (), rfl, rfl, hW.ret ht⟩, hS.F ht⟩) hS.2.2 dX6_plot_14
abbrev rX6_plotsOf : Room := { frames := 1, cells := 0, slots := 0, locals := 22 }
set_option maxRecDepth 100000 in
set_option maxHeartbeats 8000000 in
theorem tX6_plotsOf (l : Launch) (G : WG) (S0 M0 : St) (p1 : Int32) (rr : Int32) (h : f6_plotsOf M0 p1 = some (rr)) : CtI l yX6_plotsOf wsX6_plotsOf rX6_plotsOf G [.ref (gad G 159), .int p1] S0 M0 rr S0 M0 := by
  refine Met.ofW (cc := cX6_plotsOf) (maxL := 4) (ret := (some .int)) (by decide) rfl ?_
  intro p e s m args below meth cd s₁ B hml hv
  obtain ⟨hargs, hK, hW⟩ := hv
  have hx := B.exec
  have hb := B.bytes
  have hr := B.returns
  have hts := atoms_spec (ws := wsX6_plotsOf) B.pre
  have hown : s.vm.findClass RX6 = some m.cls := findClass_of_methodNamed B.named
  have hlocks := B.notSynchronized
  have hA : ∀ q, Aw G q → Aw G q := fun _ h => h
  have hS : va_S (Aw G) s.heap s.heap [] := va_S.rf
  have he0 : entryFrame m args 4 = F0 m 0 ((lg_sl ([.ref (gad G 159), .int p1]) ++ List.replicate (4 - (lg_sl ([.ref (gad G 159), .int p1])).length) Slot.unset).toArray) [] := by rw [hargs]; exact lg_entry_eq _ _ _
  have hl := lv_entry ([.ref (gad G 159), .int p1]) (n := 4) (Nat.le_of_ble_eq_true rfl)
  rw [he0]
  generalize (lg_sl ([.ref (gad G 159), .int p1]) ++ List.replicate (4 - (lg_sl ([.ref (gad G 159), .int p1])).length) Slot.unset).toArray = ls at hl ⊢
  have hl : lv_has ls 4 [(0, .ref (gad G 159)), (1, .int p1)] := hl
  have hiX6 : ∀ w ∈ u_ws RX6 TX6 14, w ∈ wsX6_plotsOf := by decide +kernel
  have B4 : ∀ (n : Nat), ∀ (H : Heap) (locs : List Loc) (_ : WD G S0 M0 H) (_ : va_S (Aw G) s.heap H locs) (ls : Array Slot) (l1 : Int32) (l2 : Int32) (l3 : Int32) (_ : lv_has ls 4 [(0, .ref (gad G 159)), (1, .int l1), (2, .int l2), (3, .int l3)]) (h : f6_plotsOf_b4 M0 l1 n l2 l3 = some (rr)), WI p l e (headSpec wsX6_plotsOf rX6_plotsOf).room s m args below meth cd G rr S0 M0 H locs (F0 m 4 ls []) := by
    intro n
    induction n with
    | zero => intro H locs hW hS ls l1 l2 l3 hl h; cases (show (none : Option (Int32)) = some _ from h)
    | succ n ih =>
      have B32 : ∀ (H : Heap) (locs : List Loc) (_ : WD G S0 M0 H) (_ : va_S (Aw G) s.heap H locs) (ls : Array Slot) (l1 : Int32) (l3 : Int32) (k0 : Int32) (k1 : Int32) (_ : lv_has ls 4 [(0, .ref (gad G 159)), (1, .int l1), (3, .int l3)]) (h : f6_plotsOf_b32 M0 (f6_plotsOf_b4 M0 l1 n) l1 l3 k0 k1 = some (rr)), WI p l e (headSpec wsX6_plotsOf rX6_plotsOf).room s m args below meth cd G rr S0 M0 H locs (F0 m 32 ls [.int k0, .int k1]) := by
        intro H locs hW hS ls l1 l3 k0 k1 hl h
        unfold f6_plotsOf_b32 at h
        refine lv_iadd hx hb dX6_plotsOf_32 ?_
        obtain ⟨x_1, ex_1, h⟩ := nam_e h
        refine lv_ni ex_1 ?_
        refine lv_istore_n (lv' := [(2, .int x_1), (0, .ref (gad G 159)), (1, .int l1), (3, .int l3)]) hx hb dX6_plotsOf_33 rfl hl (by decide) rfl (fun ls hl => ?_)
        refine lv_iinc (v := (l3 + 1)) (lv' := [(3, .int ((l3 + 1))), (2, .int x_1), (0, .ref (gad G 159)), (1, .int l1)]) hx hb dX6_plotsOf_34 hl (k := 3) rfl rfl (by decide) rfl (fun ls hl => ?_)
        refine lv_goto (tgt := 4) hx hb dX6_plotsOf_37 (by decide) ?_
        exact ih _ _ hW hS ls l1 x_1 ((l3 + 1)) (lv_sub hl [2, 3, 1, 0] rfl) h
      intro H locs hW hS ls l1 l2 l3 hl h
      rw [f6_plotsOf_b4] at h
      refine lv_iload_n hx hb dX6_plotsOf_4 rfl (lv_at hl 3 rfl) ?_
      refine lv_aload_n hx hb dX6_plotsOf_5 rfl (lv_at hl 0 rfl) ?_
      refine va_get (D := G.1) (ci := 6) (v := .ref (gad G (160 + 0))) (C := RX6) (T := TX6) (N := 14) hx hb hts hiX6 hown hK.1 hW.1 159 lkM rfl 1 (by decide) (hts _ (List.mem_of_getElem? (i := 1) rfl)) (fun _ h9 => h9) rfl dX6_plotsOf_6 ?_
      refine lv_iconst (v := 1) hx hb dX6_plotsOf_9 (by decide) ?_
      obtain ⟨x_1, nx_1, ex_1, h⟩ := arr_e h
      refine va_iald hx hb hK.1 hW.1 (160 + 0) 0 (lkMa (j := 0) (by omega)) rfl nx_1 dX6_plotsOf_10 ?_
      refine lv_ni ex_1 ?_
      refine lv_icmp_ge (tgt := 40) hx hb dX6_plotsOf_11 (by decide) (fun c_2 => ?_) (fun c_2 => ?_)
      · have h := ite_t c_2 h
        refine lv_iload_n hx hb dX6_plotsOf_40 rfl (lv_at hl 2 rfl) ?_
        obtain rfl := Option.some.inj h
        exact W.iret hx hb hr (fun t ht hw => ⟨⟨_, (), rfl, rfl, hW.ret ht⟩, hS.F ht⟩) hS.2.2 dX6_plotsOf_41
      · have h := ite_f c_2 h
        refine lv_iload_n hx hb dX6_plotsOf_14 rfl (lv_at hl 2 rfl) ?_
        refine lv_aload_n hx hb dX6_plotsOf_15 rfl (lv_at hl 0 rfl) ?_
        refine lv_iload_n hx hb dX6_plotsOf_16 rfl (lv_at hl 3 rfl) ?_
        refine lv_iconst (v := 3) hx hb dX6_plotsOf_17 (by decide) ?_
        obtain ⟨r_3, e_4, h⟩ := bnd_e h
        refine kV_I (As := [.int l3, .int 3]) (rest := [.int l2]) ⟨hx, hb, hml, hown, hts⟩ (tX6_ofPlot l G S0 M0 l3 3 r_3 e_4) (cwV 2 hts gX6_plotsOf_X6_ofPlot rfl rfl rfl ⟨rfl, hdX6_ofPlot⟩ ⟨Nat.le_of_ble_eq_true rfl, Nat.le_of_ble_eq_true rfl⟩) (va_recv hK.1 hW.1 (ci := 6) (q0 := 159) rfl lkM) hK hW hS hA rfl hl.1 rfl (Nat.le_of_ble_eq_true rfl) dX6_plotsOf_18 ⟨Nat.zero_le _, Nat.zero_le _⟩ (fun H locs hW hS => ?_)
        refine lv_iload_n hx hb dX6_plotsOf_21 rfl (lv_at hl 1 rfl) ?_
        refine lv_iconst (v := 1) hx hb dX6_plotsOf_22 (by decide) ?_
        refine lv_iadd hx hb dX6_plotsOf_23 ?_
        refine lv_icmp_ne (tgt := 31) hx hb dX6_plotsOf_24 (by decide) (fun c_5 => ?_) (fun c_5 => ?_)
        · have h := ite_f c_5 h
          refine lv_iconst (v := 0) hx hb dX6_plotsOf_31 (by decide) ?_
          exact B32 _ _ hW hS ls l1 l3 0 l2 (lv_sub hl [0, 1, 3] rfl) h
        · have h := ite_t c_5 h
          refine lv_iconst (v := 1) hx hb dX6_plotsOf_27 (by decide) ?_
          refine lv_goto (tgt := 32) hx hb dX6_plotsOf_28 (by decide) ?_
          exact B32 _ _ hW hS ls l1 l3 1 l2 (lv_sub hl [0, 1, 3] rfl) h
  unfold f6_plotsOf at h
  refine lv_iconst (v := 0) hx hb dX6_plotsOf_0 (by decide) ?_
  refine lv_istore_n (lv' := [(2, .int 0), (0, .ref (gad G 159)), (1, .int p1)]) hx hb dX6_plotsOf_1 rfl hl (by decide) rfl (fun ls hl => ?_)
  refine lv_iconst (v := 0) hx hb dX6_plotsOf_2 (by decide) ?_
  refine lv_istore_n (lv' := [(3, .int 0), (2, .int 0), (0, .ref (gad G 159)), (1, .int p1)]) hx hb dX6_plotsOf_3 rfl hl (by decide) rfl (fun ls hl => ?_)
  exact B4 fuelN _ _ hW hS ls p1 0 0 (lv_sub hl [2, 3, 1, 0] rfl) h
abbrev rX6_songsOf : Room := { frames := 5, cells := 0, slots := 0, locals := 111 }
set_option maxRecDepth 100000 in
set_option maxHeartbeats 8000000 in
theorem tX6_songsOf (l : Launch) (G : WG) (S0 M0 : St) (p1 : Int32) (rr : Int32) (h : f6_songsOf M0 p1 = some (rr)) : CtI l yX6_songsOf wsX6_songsOf rX6_songsOf G [.ref (gad G 159), .int p1] S0 M0 rr S0 M0 := by
  refine Met.ofW (cc := cX6_songsOf) (maxL := 4) (ret := (some .int)) (by decide) rfl ?_
  intro p e s m args below meth cd s₁ B hml hv
  obtain ⟨hargs, hK, hW⟩ := hv
  have hx := B.exec
  have hb := B.bytes
  have hr := B.returns
  have hts := atoms_spec (ws := wsX6_songsOf) B.pre
  have hown : s.vm.findClass RX6 = some m.cls := findClass_of_methodNamed B.named
  have hlocks := B.notSynchronized
  have hA : ∀ q, Aw G q → Aw G q := fun _ h => h
  have hS : va_S (Aw G) s.heap s.heap [] := va_S.rf
  have he0 : entryFrame m args 4 = F0 m 0 ((lg_sl ([.ref (gad G 159), .int p1]) ++ List.replicate (4 - (lg_sl ([.ref (gad G 159), .int p1])).length) Slot.unset).toArray) [] := by rw [hargs]; exact lg_entry_eq _ _ _
  have hl := lv_entry ([.ref (gad G 159), .int p1]) (n := 4) (Nat.le_of_ble_eq_true rfl)
  rw [he0]
  generalize (lg_sl ([.ref (gad G 159), .int p1]) ++ List.replicate (4 - (lg_sl ([.ref (gad G 159), .int p1])).length) Slot.unset).toArray = ls at hl ⊢
  have hl : lv_has ls 4 [(0, .ref (gad G 159)), (1, .int p1)] := hl
  have hiX6 : ∀ w ∈ u_ws RX6 TX6 14, w ∈ wsX6_songsOf := by decide +kernel
  have B4 : ∀ (n : Nat), ∀ (H : Heap) (locs : List Loc) (_ : WD G S0 M0 H) (_ : va_S (Aw G) s.heap H locs) (ls : Array Slot) (l1 : Int32) (l2 : Int32) (l3 : Int32) (_ : lv_has ls 4 [(0, .ref (gad G 159)), (1, .int l1), (2, .int l2), (3, .int l3)]) (h : f6_songsOf_b4 M0 l1 n l2 l3 = some (rr)), WI p l e (headSpec wsX6_songsOf rX6_songsOf).room s m args below meth cd G rr S0 M0 H locs (F0 m 4 ls []) := by
    intro n
    induction n with
    | zero => intro H locs hW hS ls l1 l2 l3 hl h; cases (show (none : Option (Int32)) = some _ from h)
    | succ n ih =>
      have B29 : ∀ (H : Heap) (locs : List Loc) (_ : WD G S0 M0 H) (_ : va_S (Aw G) s.heap H locs) (ls : Array Slot) (l1 : Int32) (l3 : Int32) (k0 : Int32) (k1 : Int32) (_ : lv_has ls 4 [(0, .ref (gad G 159)), (1, .int l1), (3, .int l3)]) (h : f6_songsOf_b29 M0 (f6_songsOf_b4 M0 l1 n) l1 l3 k0 k1 = some (rr)), WI p l e (headSpec wsX6_songsOf rX6_songsOf).room s m args below meth cd G rr S0 M0 H locs (F0 m 29 ls [.int k0, .int k1]) := by
        intro H locs hW hS ls l1 l3 k0 k1 hl h
        unfold f6_songsOf_b29 at h
        refine lv_iadd hx hb dX6_songsOf_29 ?_
        obtain ⟨x_1, ex_1, h⟩ := nam_e h
        refine lv_ni ex_1 ?_
        refine lv_istore_n (lv' := [(2, .int x_1), (0, .ref (gad G 159)), (1, .int l1), (3, .int l3)]) hx hb dX6_songsOf_30 rfl hl (by decide) rfl (fun ls hl => ?_)
        refine lv_iinc (v := (l3 + 1)) (lv' := [(3, .int ((l3 + 1))), (2, .int x_1), (0, .ref (gad G 159)), (1, .int l1)]) hx hb dX6_songsOf_31 hl (k := 3) rfl rfl (by decide) rfl (fun ls hl => ?_)
        refine lv_goto (tgt := 4) hx hb dX6_songsOf_34 (by decide) ?_
        exact ih _ _ hW hS ls l1 x_1 ((l3 + 1)) (lv_sub hl [2, 3, 1, 0] rfl) h
      intro H locs hW hS ls l1 l2 l3 hl h
      rw [f6_songsOf_b4] at h
      refine lv_iload_n hx hb dX6_songsOf_4 rfl (lv_at hl 3 rfl) ?_
      refine lv_aload_n hx hb dX6_songsOf_5 rfl (lv_at hl 0 rfl) ?_
      refine va_get (D := G.1) (ci := 6) (v := .ref (gad G (160 + 0))) (C := RX6) (T := TX6) (N := 14) hx hb hts hiX6 hown hK.1 hW.1 159 lkM rfl 1 (by decide) (hts _ (List.mem_of_getElem? (i := 1) rfl)) (fun _ h9 => h9) rfl dX6_songsOf_6 ?_
      refine lv_iconst (v := 2) hx hb dX6_songsOf_9 (by decide) ?_
      obtain ⟨x_1, nx_1, ex_1, h⟩ := arr_e h
      refine va_iald hx hb hK.1 hW.1 (160 + 0) 0 (lkMa (j := 0) (by omega)) rfl nx_1 dX6_songsOf_10 ?_
      refine lv_ni ex_1 ?_
      refine lv_icmp_ge (tgt := 37) hx hb dX6_songsOf_11 (by decide) (fun c_2 => ?_) (fun c_2 => ?_)
      · have h := ite_t c_2 h
        refine lv_iload_n hx hb dX6_songsOf_37 rfl (lv_at hl 2 rfl) ?_
        obtain rfl := Option.some.inj h
        exact W.iret hx hb hr (fun t ht hw => ⟨⟨_, (), rfl, rfl, hW.ret ht⟩, hS.F ht⟩) hS.2.2 dX6_songsOf_38
      · have h := ite_f c_2 h
        refine lv_iload_n hx hb dX6_songsOf_14 rfl (lv_at hl 2 rfl) ?_
        refine lv_aload_n hx hb dX6_songsOf_15 rfl (lv_at hl 0 rfl) ?_
        refine lv_iload_n hx hb dX6_songsOf_16 rfl (lv_at hl 3 rfl) ?_
        obtain ⟨r_3, e_4, h⟩ := bnd_e h
        refine kV_I (As := [.int l3]) (rest := [.int l2]) ⟨hx, hb, hml, hown, hts⟩ (tX6_singer l G S0 M0 l3 r_3 e_4) (cwV 1 hts gX6_songsOf_X6_singer rfl rfl rfl ⟨rfl, hdX6_singer⟩ ⟨Nat.le_of_ble_eq_true rfl, Nat.le_of_ble_eq_true rfl⟩) (va_recv hK.1 hW.1 (ci := 6) (q0 := 159) rfl lkM) hK hW hS hA rfl hl.1 rfl (Nat.le_of_ble_eq_true rfl) dX6_songsOf_17 ⟨Nat.zero_le _, Nat.zero_le _⟩ (fun H locs hW hS => ?_)
        refine lv_iload_n hx hb dX6_songsOf_20 rfl (lv_at hl 1 rfl) ?_
        refine lv_icmp_ne (tgt := 28) hx hb dX6_songsOf_21 (by decide) (fun c_5 => ?_) (fun c_5 => ?_)
        · have h := ite_f c_5 h
          refine lv_iconst (v := 0) hx hb dX6_songsOf_28 (by decide) ?_
          exact B29 _ _ hW hS ls l1 l3 0 l2 (lv_sub hl [0, 1, 3] rfl) h
        · have h := ite_t c_5 h
          refine lv_iconst (v := 1) hx hb dX6_songsOf_24 (by decide) ?_
          refine lv_goto (tgt := 29) hx hb dX6_songsOf_25 (by decide) ?_
          exact B29 _ _ hW hS ls l1 l3 1 l2 (lv_sub hl [0, 1, 3] rfl) h
  unfold f6_songsOf at h
  refine lv_iconst (v := 0) hx hb dX6_songsOf_0 (by decide) ?_
  refine lv_istore_n (lv' := [(2, .int 0), (0, .ref (gad G 159)), (1, .int p1)]) hx hb dX6_songsOf_1 rfl hl (by decide) rfl (fun ls hl => ?_)
  refine lv_iconst (v := 0) hx hb dX6_songsOf_2 (by decide) ?_
  refine lv_istore_n (lv' := [(3, .int 0), (2, .int 0), (0, .ref (gad G 159)), (1, .int p1)]) hx hb dX6_songsOf_3 rfl hl (by decide) rfl (fun ls hl => ?_)
  exact B4 fuelN _ _ hW hS ls p1 0 0 (lv_sub hl [2, 3, 1, 0] rfl) h
abbrev rX6_areBeside : Room := { frames := 4, cells := 0, slots := 0, locals := 93 }
set_option maxRecDepth 100000 in
set_option maxHeartbeats 8000000 in
theorem tX6_areBeside (l : Launch) (G : WG) (S0 M0 : St) (p1 : Int32) (p2 : Int32) (rr : Int32) (h : f6_areBeside M0 p1 p2 = some (rr)) : CtI l yX6_areBeside wsX6_areBeside rX6_areBeside G [.ref (gad G 159), .int p1, .int p2] S0 M0 rr S0 M0 := by
  refine Met.ofW (cc := cX6_areBeside) (maxL := 5) (ret := (some .boolean)) (by decide) rfl ?_
  intro p e s m args below meth cd s₁ B hml hv
  obtain ⟨hargs, hK, hW⟩ := hv
  have hx := B.exec
  have hb := B.bytes
  have hr := B.returns
  have hts := atoms_spec (ws := wsX6_areBeside) B.pre
  have hown : s.vm.findClass RX6 = some m.cls := findClass_of_methodNamed B.named
  have hlocks := B.notSynchronized
  have hA : ∀ q, Aw G q → Aw G q := fun _ h => h
  have hS : va_S (Aw G) s.heap s.heap [] := va_S.rf
  have he0 : entryFrame m args 5 = F0 m 0 ((lg_sl ([.ref (gad G 159), .int p1, .int p2]) ++ List.replicate (5 - (lg_sl ([.ref (gad G 159), .int p1, .int p2])).length) Slot.unset).toArray) [] := by rw [hargs]; exact lg_entry_eq _ _ _
  have hl := lv_entry ([.ref (gad G 159), .int p1, .int p2]) (n := 5) (Nat.le_of_ble_eq_true rfl)
  rw [he0]
  generalize (lg_sl ([.ref (gad G 159), .int p1, .int p2]) ++ List.replicate (5 - (lg_sl ([.ref (gad G 159), .int p1, .int p2])).length) Slot.unset).toArray = ls at hl ⊢
  have hl : lv_has ls 5 [(0, .ref (gad G 159)), (1, .int p1), (2, .int p2)] := hl
  have hiX6 : ∀ w ∈ u_ws RX6 TX6 14, w ∈ wsX6_areBeside := by decide +kernel
  have B5 : ∀ (n : Nat), ∀ (H : Heap) (locs : List Loc) (_ : WD G S0 M0 H) (_ : va_S (Aw G) s.heap H locs) (ls : Array Slot) (l1 : Int32) (l2 : Int32) (l3 : Int32) (l4 : Int32) (_ : lv_has ls 5 [(0, .ref (gad G 159)), (1, .int l1), (2, .int l2), (3, .int l3), (4, .int l4)]) (h : f6_areBeside_b5 M0 l1 l2 n l3 l4 = some (rr)), WI p l e (headSpec wsX6_areBeside rX6_areBeside).room s m args below meth cd G rr S0 M0 H locs (F0 m 5 ls []) := by
    intro n
    induction n with
    | zero => intro H locs hW hS ls l1 l2 l3 l4 hl h; cases (show (none : Option (Int32)) = some _ from h)
    | succ n ih =>
      have B48 : ∀ (H : Heap) (locs : List Loc) (_ : WD G S0 M0 H) (_ : va_S (Aw G) s.heap H locs) (ls : Array Slot) (l1 : Int32) (l2 : Int32) (l4 : Int32) (k0 : Int32) (_ : lv_has ls 5 [(0, .ref (gad G 159)), (1, .int l1), (2, .int l2), (4, .int l4)]) (h : f6_areBeside_b48 M0 (f6_areBeside_b5 M0 l1 l2 n) l1 l2 l4 k0 = some (rr)), WI p l e (headSpec wsX6_areBeside rX6_areBeside).room s m args below meth cd G rr S0 M0 H locs (F0 m 48 ls [.int k0]) := by
        intro H locs hW hS ls l1 l2 l4 k0 hl h
        unfold f6_areBeside_b48 at h
        refine lv_istore_n (lv' := [(3, .int k0), (0, .ref (gad G 159)), (1, .int l1), (2, .int l2), (4, .int l4)]) hx hb dX6_areBeside_48 rfl hl (by decide) rfl (fun ls hl => ?_)
        refine lv_iinc (v := (l4 + 1)) (lv' := [(4, .int ((l4 + 1))), (3, .int k0), (0, .ref (gad G 159)), (1, .int l1), (2, .int l2)]) hx hb dX6_areBeside_49 hl (k := 4) rfl rfl (by decide) rfl (fun ls hl => ?_)
        refine lv_goto (tgt := 5) hx hb dX6_areBeside_52 (by decide) ?_
        exact ih _ _ hW hS ls l1 l2 k0 ((l4 + 1)) (lv_sub hl [2, 3, 4, 1, 0] rfl) h
      have B43 : ∀ (H : Heap) (locs : List Loc) (_ : WD G S0 M0 H) (_ : va_S (Aw G) s.heap H locs) (ls : Array Slot) (l1 : Int32) (l2 : Int32) (l4 : Int32) (_ : lv_has ls 5 [(0, .ref (gad G 159)), (1, .int l1), (2, .int l2), (4, .int l4)]) (h : f6_areBeside_b43 M0 (f6_areBeside_b5 M0 l1 l2 n) l1 l2 l4 = some (rr)), WI p l e (headSpec wsX6_areBeside rX6_areBeside).room s m args below meth cd G rr S0 M0 H locs (F0 m 43 ls []) := by
        intro H locs hW hS ls l1 l2 l4 hl h
        unfold f6_areBeside_b43 at h
        refine lv_iconst (v := 1) hx hb dX6_areBeside_43 (by decide) ?_
        refine lv_goto (tgt := 48) hx hb dX6_areBeside_44 (by decide) ?_
        exact B48 _ _ hW hS ls l1 l2 l4 1 (lv_sub hl [0, 1, 2, 3] rfl) h
      have B47 : ∀ (H : Heap) (locs : List Loc) (_ : WD G S0 M0 H) (_ : va_S (Aw G) s.heap H locs) (ls : Array Slot) (l1 : Int32) (l2 : Int32) (l4 : Int32) (_ : lv_has ls 5 [(0, .ref (gad G 159)), (1, .int l1), (2, .int l2), (4, .int l4)]) (h : f6_areBeside_b47 M0 (f6_areBeside_b5 M0 l1 l2 n) l1 l2 l4 = some (rr)), WI p l e (headSpec wsX6_areBeside rX6_areBeside).room s m args below meth cd G rr S0 M0 H locs (F0 m 47 ls []) := by
        intro H locs hW hS ls l1 l2 l4 hl h
        unfold f6_areBeside_b47 at h
        refine lv_iconst (v := 0) hx hb dX6_areBeside_47 (by decide) ?_
        exact B48 _ _ hW hS ls l1 l2 l4 0 (lv_sub hl [0, 1, 2, 3] rfl) h
      intro H locs hW hS ls l1 l2 l3 l4 hl h
      rw [f6_areBeside_b5] at h
      refine lv_iload hx hb dX6_areBeside_5 (lv_at hl 4 rfl) ?_
      refine lv_aload_n hx hb dX6_areBeside_7 rfl (lv_at hl 0 rfl) ?_
      refine va_get (D := G.1) (ci := 6) (v := .ref (gad G (160 + 0))) (C := RX6) (T := TX6) (N := 14) hx hb hts hiX6 hown hK.1 hW.1 159 lkM rfl 1 (by decide) (hts _ (List.mem_of_getElem? (i := 1) rfl)) (fun _ h9 => h9) rfl dX6_areBeside_8 ?_
      refine lv_iconst (v := 1) hx hb dX6_areBeside_11 (by decide) ?_
      obtain ⟨x_1, nx_1, ex_1, h⟩ := arr_e h
      refine va_iald hx hb hK.1 hW.1 (160 + 0) 0 (lkMa (j := 0) (by omega)) rfl nx_1 dX6_areBeside_12 ?_
      refine lv_ni ex_1 ?_
      refine lv_icmp_ge (tgt := 55) hx hb dX6_areBeside_13 (by decide) (fun c_2 => ?_) (fun c_2 => ?_)
      · have h := ite_t c_2 h
        refine lv_iload_n hx hb dX6_areBeside_55 rfl (lv_at hl 3 rfl) ?_
        obtain ⟨z_3, h⟩ := isz_e h
        obtain rfl := Option.some.inj h
        exact W.zret (ty := .boolean) hx hb hr (nz_1 z_3) (fun t ht hw => ⟨⟨_, (), rfl, rfl, hW.ret ht⟩, hS.F ht⟩) hS.2.2 dX6_areBeside_56
      · have h := ite_f c_2 h
        refine lv_iload_n hx hb dX6_areBeside_16 rfl (lv_at hl 3 rfl) ?_
        refine lv_if_ne (tgt := 43) hx hb dX6_areBeside_17 (by decide) (fun c_4 => ?_) (fun c_4 => ?_)
        · have h := ite_f c_4 h
          exact B43 _ _ hW hS ls l1 l2 l4 (lv_sub hl [0, 1, 2, 4] rfl) h
        · have h := ite_t c_4 h
          refine lv_aload_n hx hb dX6_areBeside_20 rfl (lv_at hl 0 rfl) ?_
          refine lv_iload hx hb dX6_areBeside_21 (lv_at hl 4 rfl) ?_
          refine lv_iconst (v := 3) hx hb dX6_areBeside_23 (by decide) ?_
          obtain ⟨r_5, e_6, h⟩ := bnd_e h
          refine kV_I (As := [.int l4, .int 3]) (rest := []) ⟨hx, hb, hml, hown, hts⟩ (tX6_ofPlot l G S0 M0 l4 3 r_5 e_6) (cwV 2 hts gX6_areBeside_X6_ofPlot rfl rfl rfl ⟨rfl, hdX6_ofPlot⟩ ⟨Nat.le_of_ble_eq_true rfl, Nat.le_of_ble_eq_true rfl⟩) (va_recv hK.1 hW.1 (ci := 6) (q0 := 159) rfl lkM) hK hW hS hA rfl hl.1 rfl (Nat.le_of_ble_eq_true rfl) dX6_areBeside_24 ⟨Nat.zero_le _, Nat.zero_le _⟩ (fun H locs hW hS => ?_)
          refine lv_iload_n hx hb dX6_areBeside_27 rfl (lv_at hl 1 rfl) ?_
          refine lv_iconst (v := 1) hx hb dX6_areBeside_28 (by decide) ?_
          refine lv_iadd hx hb dX6_areBeside_29 ?_
          refine lv_icmp_ne (tgt := 47) hx hb dX6_areBeside_30 (by decide) (fun c_7 => ?_) (fun c_7 => ?_)
          · have h := ite_f c_7 h
            exact B47 _ _ hW hS ls l1 l2 l4 (lv_sub hl [0, 1, 2, 4] rfl) h
          · have h := ite_t c_7 h
            refine lv_aload_n hx hb dX6_areBeside_33 rfl (lv_at hl 0 rfl) ?_
            refine lv_iload hx hb dX6_areBeside_34 (lv_at hl 4 rfl) ?_
            refine lv_iload_n hx hb dX6_areBeside_36 rfl (lv_at hl 2 rfl) ?_
            obtain ⟨r_8, e_9, h⟩ := bnd_e h
            refine kV_I (As := [.int l4, .int l2]) (rest := []) ⟨hx, hb, hml, hown, hts⟩ (tX6_touches l G S0 M0 l4 l2 r_8 e_9) (cwV 2 hts gX6_areBeside_X6_touches rfl rfl rfl ⟨rfl, hdX6_touches⟩ ⟨Nat.le_of_ble_eq_true rfl, Nat.le_of_ble_eq_true rfl⟩) (va_recv hK.1 hW.1 (ci := 6) (q0 := 159) rfl lkM) hK hW hS hA rfl hl.1 rfl (Nat.le_of_ble_eq_true rfl) dX6_areBeside_37 ⟨Nat.zero_le _, Nat.zero_le _⟩ (fun H locs hW hS => ?_)
            refine lv_if_eq (tgt := 47) hx hb dX6_areBeside_40 (by decide) (fun c_10 => ?_) (fun c_10 => ?_)
            · have h := ite_t c_10 h
              exact B47 _ _ hW hS ls l1 l2 l4 (lv_sub hl [0, 1, 2, 4] rfl) h
            · have h := ite_f c_10 h
              exact B43 _ _ hW hS ls l1 l2 l4 (lv_sub hl [0, 1, 2, 4] rfl) h
  unfold f6_areBeside at h
  refine lv_iconst (v := 0) hx hb dX6_areBeside_0 (by decide) ?_
  refine lv_istore_n (lv' := [(3, .int 0), (0, .ref (gad G 159)), (1, .int p1), (2, .int p2)]) hx hb dX6_areBeside_1 rfl hl (by decide) rfl (fun ls hl => ?_)
  refine lv_iconst (v := 0) hx hb dX6_areBeside_2 (by decide) ?_
  refine lv_istore (lv' := [(4, .int 0), (3, .int 0), (0, .ref (gad G 159)), (1, .int p1), (2, .int p2)]) hx hb dX6_areBeside_3 hl (by decide) rfl (fun ls hl => ?_)
  exact B5 fuelN _ _ hW hS ls p1 p2 0 0 (lv_sub hl [2, 3, 4, 1, 0] rfl) h
