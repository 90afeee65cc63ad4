abbrev rX5_orNone : Room := { frames := 0, cells := 0, slots := 0, locals := 0 }
set_option maxRecDepth 100000 in
set_option maxHeartbeats 8000000 in
theorem tX5_orNone (l : Launch) (G : WG) (S0 M0 : St) (p0 : Int32) (rr : Int32) (h : f5_orNone p0 = some (rr)) : CtI l yX5_orNone wsX5_orNone rX5_orNone G [.int p0] S0 M0 rr S0 M0 := by
  refine Met.ofW (cc := cX5_orNone) (maxL := 1) (ret := (some .int)) (by decide) rfl ?_
  intro p e s m args below meth cd s₁ B hml hv
  obtain ⟨hargs, hK, hW⟩ := hv
  have hx := B.exec
  have hb := B.bytes
  have hr := B.returns
  have hts := atoms_spec (ws := wsX5_orNone) B.pre
  have hown : s.vm.findClass RX5 = some m.cls := findClass_of_methodNamed B.named
  have hlocks := B.notSynchronized
  have hA : ∀ q, Aw G q → Aw G q := fun _ h => h
  have hS : va_S (Aw G) s.heap s.heap [] := va_S.rf
  have he0 : entryFrame m args 1 = F0 m 0 ((lg_sl ([.int p0]) ++ List.replicate (1 - (lg_sl ([.int p0])).length) Slot.unset).toArray) [] := by rw [hargs]; exact lg_entry_eq _ _ _
  have hl := lv_entry ([.int p0]) (n := 1) (Nat.le_of_ble_eq_true rfl)
  rw [he0]
  generalize (lg_sl ([.int p0]) ++ List.replicate (1 - (lg_sl ([.int p0])).length) Slot.unset).toArray = ls at hl ⊢
  have hl : lv_has ls 1 [(0, .int p0)] := hl
  have B11 : ∀ (H : Heap) (locs : List Loc) (_ : WD G S0 M0 H) (_ : va_S (Aw G) s.heap H locs) (ls : Array Slot) (k0 : Int32) (_ : lv_has ls 1 []) (h : f5_orNone_b11  k0 = some (rr)), WI p l e (headSpec wsX5_orNone rX5_orNone).room s m args below meth cd G rr S0 M0 H locs (F0 m 11 ls [.int k0]) := by
    intro H locs hW hS ls k0 hl h
    unfold f5_orNone_b11 at h
    obtain rfl := Option.some.inj h
    exact W.iret hx hb hr (fun t ht hw => ⟨⟨_, (), rfl, rfl, hW.ret ht⟩, hS.F ht⟩) hS.2.2 dX5_orNone_11
  unfold f5_orNone at h
  refine lv_iload_n hx hb dX5_orNone_0 rfl (lv_at hl 0 rfl) ?_
  refine lv_iconst (v := (-1)) hx hb dX5_orNone_1 (by decide) ?_
  refine lv_icmp_ne (tgt := 10) hx hb dX5_orNone_2 (by decide) (fun c_1 => ?_) (fun c_1 => ?_)
  · have h := ite_f c_1 h
    refine lv_iload_n hx hb dX5_orNone_10 rfl (lv_at hl 0 rfl) ?_
    exact B11 _ _ hW hS ls p0 (lv_sub hl [] rfl) h
  · have h := ite_t c_1 h
    refine lv_bipush (v := (-5)) hx hb dX5_orNone_5 (by decide) ?_
    refine lv_goto (tgt := 11) hx hb dX5_orNone_7 (by decide) ?_
    exact B11 _ _ hW hS ls ((-5)) (lv_sub hl [] rfl) h
abbrev rX5_plot : Room := { frames := 4, cells := 0, slots := 0, locals := 91 }
set_option maxRecDepth 100000 in
set_option maxHeartbeats 8000000 in
theorem tX5_plot (l : Launch) (G : WG) (S0 M0 : St) (p1 : Int32) (p2 : Int32) (p3 : Int32) (rr : Int32) (h : f5_plot S0 p1 p2 p3 = some (rr)) : CtI l yX5_plot wsX5_plot rX5_plot G [.ref (gad G 154), .int p1, .int p2, .int p3] S0 M0 rr S0 M0 := by
  refine Met.ofW (cc := cX5_plot) (maxL := 6) (ret := (some .int)) (by decide) rfl ?_
  intro p e s m args below meth cd s₁ B hml hv
  obtain ⟨hargs, hK, hW⟩ := hv
  have hx := B.exec
  have hb := B.bytes
  have hr := B.returns
  have hts := atoms_spec (ws := wsX5_plot) B.pre
  have hown : s.vm.findClass RX5 = some m.cls := findClass_of_methodNamed B.named
  have hlocks := B.notSynchronized
  have hA : ∀ q, Aw G q → Aw G q := fun _ h => h
  have hS : va_S (Aw G) s.heap s.heap [] := va_S.rf
  have he0 : entryFrame m args 6 = F0 m 0 ((lg_sl ([.ref (gad G 154), .int p1, .int p2, .int p3]) ++ List.replicate (6 - (lg_sl ([.ref (gad G 154), .int p1, .int p2, .int p3])).length) Slot.unset).toArray) [] := by rw [hargs]; exact lg_entry_eq _ _ _
  have hl := lv_entry ([.ref (gad G 154), .int p1, .int p2, .int p3]) (n := 6) (Nat.le_of_ble_eq_true rfl)
  rw [he0]
  generalize (lg_sl ([.ref (gad G 154), .int p1, .int p2, .int p3]) ++ List.replicate (6 - (lg_sl ([.ref (gad G 154), .int p1, .int p2, .int p3])).length) Slot.unset).toArray = ls at hl ⊢
  have hl : lv_has ls 6 [(0, .ref (gad G 154)), (1, .int p1), (2, .int p2), (3, .int p3)] := hl
  have hiX0 : ∀ w ∈ u_ws RX0 TX0 12, w ∈ wsX5_plot := by decide +kernel
  have hiX5 : ∀ w ∈ u_ws RX5 TX5 6, w ∈ wsX5_plot := by decide +kernel
  unfold f5_plot at h
  refine lv_iload_n hx hb dX5_plot_0 rfl (lv_at hl 1 rfl) ?_
  refine lv_iload_n hx hb dX5_plot_1 rfl (lv_at hl 2 rfl) ?_
  obtain ⟨r_1, e_2, h⟩ := bnd_e h
  refine kS_I (As := [.int p1, .int p2]) (rest := []) ⟨hx, hb, hml, hown, hts⟩ (tX5_isPoint l G S0 M0 p1 p2 r_1 e_2) (va_cwS 2 hts gX5_plot_X5_isPoint rfl rfl rfl hdX5_isPoint ⟨Nat.le_of_ble_eq_true rfl, Nat.le_of_ble_eq_true rfl⟩) hK hW hS hA rfl hl.1 rfl (Nat.le_of_ble_eq_true rfl) dX5_plot_2 ⟨Nat.zero_le _, Nat.zero_le _⟩ (fun H locs hW hS => ?_)
  refine lv_if_ne (tgt := 10) hx hb dX5_plot_5 (by decide) (fun c_3 => ?_) (fun c_3 => ?_)
  · have h := ite_f c_3 h
    refine lv_aload_n hx hb dX5_plot_10 rfl (lv_at hl 0 rfl) ?_
    refine va_get (D := G.1) (ci := 5) (v := .ref (gad G 0)) (C := RX5) (T := TX5) (N := 6) hx hb hts hiX5 hown hK.1 hW.1 154 lkT rfl 0 (by decide) (hts _ (List.mem_of_getElem? (i := 1) rfl)) (fun _ h9 => h9) rfl dX5_plot_11 ?_
    refine va_getN (D := G.1) (ci := 0) (v := .ref (gad G (7 + 0))) (C := RX0) (T := TX0) (N := 12) hx hb hts hiX0 hown hK.1 hW.1 0 (lkC (c := 0) (by omega)) rfl 0 (by decide) (va_Nw.use rfl (hK.2 _ (List.mem_of_getElem? (i := 1) rfl))) (fun _ h9 => h9) rfl dX5_plot_14 ?_
    refine lv_astore (lv' := [(4, .ref (gad G (7 + 0))), (0, .ref (gad G 154)), (1, .int p1), (2, .int p2), (3, .int p3)]) hx hb dX5_plot_17 hl (by decide) rfl (fun ls hl => ?_)
    refine lv_aload hx hb dX5_plot_19 (lv_at hl 0 rfl) ?_
    refine lv_iload_n hx hb dX5_plot_21 rfl (lv_at hl 2 rfl) ?_
    refine lv_iload_n hx hb dX5_plot_22 rfl (lv_at hl 3 rfl) ?_
    obtain ⟨r_4, e_5, h⟩ := bnd_e h
    refine kV_I (As := [.int p1, .int p2]) (rest := []) ⟨hx, hb, hml, hown, hts⟩ (tX3_find l G S0 M0 0 (by omega) p1 p2 r_4 e_5) (cwV 2 hts gX5_plot_X3_find rfl rfl rfl ⟨rfl, hdX3_find⟩ ⟨Nat.le_of_ble_eq_true rfl, Nat.le_of_ble_eq_true rfl⟩) (va_recv hK.1 hW.1 (ci := 3) (q0 := (7 + 0)) rfl (lkP (c := 0) (by omega))) hK hW hS hA rfl hl.1 rfl (Nat.le_of_ble_eq_true rfl) dX5_plot_23 ⟨Nat.zero_le _, Nat.zero_le _⟩ (fun H locs hW hS => ?_)
    refine lv_istore (lv' := [(5, .int r_4), (4, .ref (gad G (7 + 0))), (0, .ref (gad G 154)), (1, .int p1), (2, .int p2), (3, .int p3)]) hx hb dX5_plot_26 hl (by decide) rfl (fun ls hl => ?_)
    refine lv_iload_n hx hb dX5_plot_28 rfl (lv_at hl 5 rfl) ?_
    by_cases c_6 : Int32.toInt p3 < 0 ∨ 6 < Int32.toInt p3
    · have h := ite_t c_6 h
      refine lv_tableOut (tgt := 131) hx hb dX5_plot_29 c_6 (by decide) ?_
      refine lv_bipush (v := (-2)) hx hb dX5_plot_131 (by decide) ?_
      obtain rfl := Option.some.inj h
      exact W.iret hx hb hr (fun t ht hw => ⟨⟨_, (), rfl, rfl, hW.ret ht⟩, hS.F ht⟩) hS.2.2 dX5_plot_133
    · have h := ite_f c_6 h
      by_cases c_7 : (p3 : Int32) = 0
      · have h := ite_t c_7 h
        refine lv_tableIn (off := 43) (tgt := 72) hx hb dX5_plot_29 (by rw [c_7]; decide) (by rw [c_7]; decide) (by rw [c_7]; rfl) (by decide) ?_
        refine lv_aload hx hb dX5_plot_72 (lv_at hl 1 rfl) ?_
        refine lv_iload hx hb dX5_plot_74 (lv_at hl 0 rfl) ?_
        obtain ⟨r_8, e_9, h⟩ := bnd_e h
        refine kV_I (As := [.int r_4]) (rest := []) ⟨hx, hb, hml, hown, hts⟩ (tX3_ownerOf l G S0 M0 0 (by omega) r_4 r_8 e_9) (cwV 1 hts gX5_plot_X3_ownerOf rfl rfl rfl ⟨rfl, hdX3_ownerOf⟩ ⟨Nat.le_of_ble_eq_true rfl, Nat.le_of_ble_eq_true rfl⟩) (va_recv hK.1 hW.1 (ci := 3) (q0 := (7 + 0)) rfl (lkP (c := 0) (by omega))) hK hW hS hA rfl hl.1 rfl (Nat.le_of_ble_eq_true rfl) dX5_plot_76 ⟨Nat.zero_le _, Nat.zero_le _⟩ (fun H locs hW hS => ?_)
        obtain ⟨r_10, e_11, h⟩ := bnd_e h
        refine kS_I (As := [.int r_8]) (rest := []) ⟨hx, hb, hml, hown, hts⟩ (tX5_orNone l G S0 M0 r_8 r_10 e_11) (va_cwS 1 hts gX5_plot_X5_orNone rfl rfl rfl hdX5_orNone ⟨Nat.le_of_ble_eq_true rfl, Nat.le_of_ble_eq_true rfl⟩) hK hW hS hA rfl hl.1 rfl (Nat.le_of_ble_eq_true rfl) dX5_plot_79 ⟨Nat.zero_le _, Nat.zero_le _⟩ (fun H locs hW hS => ?_)
        obtain rfl := Option.some.inj h
        exact W.iret hx hb hr (fun t ht hw => ⟨⟨_, (), rfl, rfl, hW.ret ht⟩, hS.F ht⟩) hS.2.2 dX5_plot_82
      · have h := ite_f c_7 h
        by_cases c_12 : (p3 : Int32) = 1
        · have h := ite_t c_12 h
          refine lv_tableIn (off := 54) (tgt := 83) hx hb dX5_plot_29 (by rw [c_12]; decide) (by rw [c_12]; decide) (by rw [c_12]; rfl) (by decide) ?_
          refine lv_aload hx hb dX5_plot_83 (lv_at hl 1 rfl) ?_
          refine lv_iload hx hb dX5_plot_85 (lv_at hl 0 rfl) ?_
          obtain ⟨r_13, e_14, h⟩ := bnd_e h
          refine kV_I (As := [.int r_4]) (rest := []) ⟨hx, hb, hml, hown, hts⟩ (tX3_depthOf l G S0 M0 0 (by omega) r_4 r_13 e_14) (cwV 1 hts gX5_plot_X3_depthOf rfl rfl rfl ⟨rfl, hdX3_depthOf⟩ ⟨Nat.le_of_ble_eq_true rfl, Nat.le_of_ble_eq_true rfl⟩) (va_recv hK.1 hW.1 (ci := 3) (q0 := (7 + 0)) rfl (lkP (c := 0) (by omega))) hK hW hS hA rfl hl.1 rfl (Nat.le_of_ble_eq_true rfl) dX5_plot_87 ⟨Nat.zero_le _, Nat.zero_le _⟩ (fun H locs hW hS => ?_)
          obtain rfl := Option.some.inj h
          exact W.iret hx hb hr (fun t ht hw => ⟨⟨_, (), rfl, rfl, hW.ret ht⟩, hS.F ht⟩) hS.2.2 dX5_plot_90
        · have h := ite_f c_12 h
          by_cases c_15 : (p3 : Int32) = 2
          · have h := ite_t c_15 h
            refine lv_tableIn (off := 62) (tgt := 91) hx hb dX5_plot_29 (by rw [c_15]; decide) (by rw [c_15]; decide) (by rw [c_15]; rfl) (by decide) ?_
            refine lv_aload hx hb dX5_plot_91 (lv_at hl 1 rfl) ?_
            refine lv_iload hx hb dX5_plot_93 (lv_at hl 0 rfl) ?_
            obtain ⟨r_16, e_17, h⟩ := bnd_e h
            refine kV_I (As := [.int r_4]) (rest := []) ⟨hx, hb, hml, hown, hts⟩ (tX3_x0Of l G S0 M0 0 (by omega) r_4 r_16 e_17) (cwV 1 hts gX5_plot_X3_x0Of rfl rfl rfl ⟨rfl, hdX3_x0Of⟩ ⟨Nat.le_of_ble_eq_true rfl, Nat.le_of_ble_eq_true rfl⟩) (va_recv hK.1 hW.1 (ci := 3) (q0 := (7 + 0)) rfl (lkP (c := 0) (by omega))) hK hW hS hA rfl hl.1 rfl (Nat.le_of_ble_eq_true rfl) dX5_plot_95 ⟨Nat.zero_le _, Nat.zero_le _⟩ (fun H locs hW hS => ?_)
            obtain rfl := Option.some.inj h
            exact W.iret hx hb hr (fun t ht hw => ⟨⟨_, (), rfl, rfl, hW.ret ht⟩, hS.F ht⟩) hS.2.2 dX5_plot_98
          · have h := ite_f c_15 h
            by_cases c_18 : (p3 : Int32) = 3
            · have h := ite_t c_18 h
              refine lv_tableIn (off := 70) (tgt := 99) hx hb dX5_plot_29 (by rw [c_18]; decide) (by rw [c_18]; decide) (by rw [c_18]; rfl) (by decide) ?_
              refine lv_aload hx hb dX5_plot_99 (lv_at hl 1 rfl) ?_
              refine lv_iload hx hb dX5_plot_101 (lv_at hl 0 rfl) ?_
              obtain ⟨r_19, e_20, h⟩ := bnd_e h
              refine kV_I (As := [.int r_4]) (rest := []) ⟨hx, hb, hml, hown, hts⟩ (tX3_y0Of l G S0 M0 0 (by omega) r_4 r_19 e_20) (cwV 1 hts gX5_plot_X3_y0Of rfl rfl rfl ⟨rfl, hdX3_y0Of⟩ ⟨Nat.le_of_ble_eq_true rfl, Nat.le_of_ble_eq_true rfl⟩) (va_recv hK.1 hW.1 (ci := 3) (q0 := (7 + 0)) rfl (lkP (c := 0) (by omega))) hK hW hS hA rfl hl.1 rfl (Nat.le_of_ble_eq_true rfl) dX5_plot_103 ⟨Nat.zero_le _, Nat.zero_le _⟩ (fun H locs hW hS => ?_)
              obtain rfl := Option.some.inj h
              exact W.iret hx hb hr (fun t ht hw => ⟨⟨_, (), rfl, rfl, hW.ret ht⟩, hS.F ht⟩) hS.2.2 dX5_plot_106
            · have h := ite_f c_18 h
              by_cases c_21 : (p3 : Int32) = 4
              · have h := ite_t c_21 h
                refine lv_tableIn (off := 78) (tgt := 107) hx hb dX5_plot_29 (by rw [c_21]; decide) (by rw [c_21]; decide) (by rw [c_21]; rfl) (by decide) ?_
                refine lv_aload hx hb dX5_plot_107 (lv_at hl 1 rfl) ?_
                refine lv_iload hx hb dX5_plot_109 (lv_at hl 0 rfl) ?_
                obtain ⟨r_22, e_23, h⟩ := bnd_e h
                refine kV_I (As := [.int r_4]) (rest := []) ⟨hx, hb, hml, hown, hts⟩ (tX3_x1Of l G S0 M0 0 (by omega) r_4 r_22 e_23) (cwV 1 hts gX5_plot_X3_x1Of rfl rfl rfl ⟨rfl, hdX3_x1Of⟩ ⟨Nat.le_of_ble_eq_true rfl, Nat.le_of_ble_eq_true rfl⟩) (va_recv hK.1 hW.1 (ci := 3) (q0 := (7 + 0)) rfl (lkP (c := 0) (by omega))) hK hW hS hA rfl hl.1 rfl (Nat.le_of_ble_eq_true rfl) dX5_plot_111 ⟨Nat.zero_le _, Nat.zero_le _⟩ (fun H locs hW hS => ?_)
                obtain rfl := Option.some.inj h
                exact W.iret hx hb hr (fun t ht hw => ⟨⟨_, (), rfl, rfl, hW.ret ht⟩, hS.F ht⟩) hS.2.2 dX5_plot_114
              · have h := ite_f c_21 h
                by_cases c_24 : (p3 : Int32) = 5
                · have h := ite_t c_24 h
                  refine lv_tableIn (off := 86) (tgt := 115) hx hb dX5_plot_29 (by rw [c_24]; decide) (by rw [c_24]; decide) (by rw [c_24]; rfl) (by decide) ?_
                  refine lv_aload hx hb dX5_plot_115 (lv_at hl 1 rfl) ?_
                  refine lv_iload hx hb dX5_plot_117 (lv_at hl 0 rfl) ?_
                  obtain ⟨r_25, e_26, h⟩ := bnd_e h
                  refine kV_I (As := [.int r_4]) (rest := []) ⟨hx, hb, hml, hown, hts⟩ (tX3_y1Of l G S0 M0 0 (by omega) r_4 r_25 e_26) (cwV 1 hts gX5_plot_X3_y1Of rfl rfl rfl ⟨rfl, hdX3_y1Of⟩ ⟨Nat.le_of_ble_eq_true rfl, Nat.le_of_ble_eq_true rfl⟩) (va_recv hK.1 hW.1 (ci := 3) (q0 := (7 + 0)) rfl (lkP (c := 0) (by omega))) hK hW hS hA rfl hl.1 rfl (Nat.le_of_ble_eq_true rfl) dX5_plot_119 ⟨Nat.zero_le _, Nat.zero_le _⟩ (fun H locs hW hS => ?_)
                  obtain rfl := Option.some.inj h
                  exact W.iret hx hb hr (fun t ht hw => ⟨⟨_, (), rfl, rfl, hW.ret ht⟩, hS.F ht⟩) hS.2.2 dX5_plot_122
                · have h := ite_f c_24 h
                  by_cases c_27 : (p3 : Int32) = 6
                  · have h := ite_t c_27 h
                    refine lv_tableIn (off := 94) (tgt := 123) hx hb dX5_plot_29 (by rw [c_27]; decide) (by rw [c_27]; decide) (by rw [c_27]; rfl) (by decide) ?_
                    refine lv_aload hx hb dX5_plot_123 (lv_at hl 1 rfl) ?_
                    refine lv_iload hx hb dX5_plot_125 (lv_at hl 0 rfl) ?_
                    obtain ⟨r_28, e_29, h⟩ := bnd_e h
                    refine kV_I (As := [.int r_4]) (rest := []) ⟨hx, hb, hml, hown, hts⟩ (tX3_manyBeside l G S0 M0 0 (by omega) r_4 r_28 e_29) (cwV 1 hts gX5_plot_X3_manyBeside rfl rfl rfl ⟨rfl, hdX3_manyBeside⟩ ⟨Nat.le_of_ble_eq_true rfl, Nat.le_of_ble_eq_true rfl⟩) (va_recv hK.1 hW.1 (ci := 3) (q0 := (7 + 0)) rfl (lkP (c := 0) (by omega))) hK hW hS hA rfl hl.1 rfl (Nat.le_of_ble_eq_true rfl) dX5_plot_127 ⟨Nat.zero_le _, Nat.zero_le _⟩ (fun H locs hW hS => ?_)
                    obtain rfl := Option.some.inj h
                    exact W.iret hx hb hr (fun t ht hw => ⟨⟨_, (), rfl, rfl, hW.ret ht⟩, hS.F ht⟩) hS.2.2 dX5_plot_130
                  · have h := ite_f c_27 h
                    cases h
  · have h := ite_t c_3 h
    refine lv_iconst (v := (-1)) hx hb dX5_plot_8 (by decide) ?_
    obtain rfl := Option.some.inj h
    exact W.iret hx hb hr (fun t ht hw => ⟨⟨_, (), rfl, rfl, hW.ret ht⟩, hS.F ht⟩) hS.2.2 dX5_plot_9
abbrev rX5_bitsOf : Room := { frames := 0, cells := 0, slots := 0, locals := 0 }
set_option maxRecDepth 100000 in
set_option maxHeartbeats 8000000 in
theorem tX5_bitsOf (l : Launch) (G : WG) (S0 M0 : St) (p0 : UInt32) (rr : Int32) (h : f5_bitsOf p0 = some (rr)) : CtI l yX5_bitsOf wsX5_bitsOf rX5_bitsOf G [.float p0] S0 M0 rr S0 M0 := by
  refine Met.ofW (cc := cX5_bitsOf) (maxL := 4) (ret := (some .int)) (by decide) rfl ?_
  intro p e s m args below meth cd s₁ B hml hv
  obtain ⟨hargs, hK, hW⟩ := hv
  have hx := B.exec
  have hb := B.bytes
  have hr := B.returns
  have hts := atoms_spec (ws := wsX5_bitsOf) B.pre
  have hown : s.vm.findClass RX5 = some m.cls := findClass_of_methodNamed B.named
  have hlocks := B.notSynchronized
  have hA : ∀ q, Aw G q → Aw G q := fun _ h => h
  have hS : va_S (Aw G) s.heap s.heap [] := va_S.rf
  have he0 : entryFrame m args 4 = F0 m 0 ((lg_sl ([.float p0]) ++ List.replicate (4 - (lg_sl ([.float p0])).length) Slot.unset).toArray) [] := by rw [hargs]; exact lg_entry_eq _ _ _
  have hl := lv_entry ([.float p0]) (n := 4) (Nat.le_of_ble_eq_true rfl)
  rw [he0]
  generalize (lg_sl ([.float p0]) ++ List.replicate (4 - (lg_sl ([.float p0])).length) Slot.unset).toArray = ls at hl ⊢
  have hl : lv_has ls 4 [(0, .float p0)] := hl
  have B67 : ∀ (H : Heap) (locs : List Loc) (_ : WD G S0 M0 H) (_ : va_S (Aw G) s.heap H locs) (ls : Array Slot) (l1 : UInt32) (l2 : Int32) (_ : lv_has ls 4 [(1, .float l1), (2, .int l2)]) (h : f5_bitsOf_b67  l1 l2 = some (rr)), WI p l e (headSpec wsX5_bitsOf rX5_bitsOf).room s m args below meth cd G rr S0 M0 H locs (F0 m 67 ls []) := by
    intro H locs hW hS ls l1 l2 hl h
    unfold f5_bitsOf_b67 at h
    refine lv_iload_n hx hb dX5_bitsOf_67 rfl (lv_at hl 1 rfl) ?_
    refine lv_bipush (v := 23) hx hb dX5_bitsOf_68 (by decide) ?_
    refine lv_ishl hx hb dX5_bitsOf_70 ?_
    refine lv_fload_n hx hb dX5_bitsOf_71 rfl (lv_at hl 0 rfl) ?_
    refine lv_fconst1 hx hb dX5_bitsOf_72 ?_
    obtain ⟨x_1, nx_1, ex_1, h⟩ := fnn_e h
    refine lv_fsub hx hb dX5_bitsOf_73 nx_1 ?_
    refine lv_nf ex_1 ?_
    refine lv_ldcf hx hb hown (hts _ (List.mem_of_getElem? (i := 1) rfl)) dX5_bitsOf_74 ?_
    obtain ⟨x_2, nx_2, ex_2, h⟩ := fnn_e h
    refine lv_fmul hx hb dX5_bitsOf_76 nx_2 ?_
    refine lv_nf ex_2 ?_
    refine lv_f2i hx hb dX5_bitsOf_77 ?_
    refine lv_iadd hx hb dX5_bitsOf_78 ?_
    obtain rfl := Option.some.inj h
    exact W.iret hx hb hr (fun t ht hw => ⟨⟨_, (), rfl, rfl, hW.ret ht⟩, hS.F ht⟩) hS.2.2 dX5_bitsOf_79
  have B42 : ∀ (n : Nat), ∀ (H : Heap) (locs : List Loc) (_ : WD G S0 M0 H) (_ : va_S (Aw G) s.heap H locs) (ls : Array Slot) (l1 : UInt32) (l2 : Int32) (l3 : Int32) (_ : lv_has ls 4 [(1, .float l1), (2, .int l2), (3, .int l3)]) (h : f5_bitsOf_b42  n l1 l2 l3 = some (rr)), WI p l e (headSpec wsX5_bitsOf rX5_bitsOf).room s m args below meth cd G rr S0 M0 H locs (F0 m 42 ls []) := by
    intro n
    induction n with
    | zero => intro H locs hW hS ls l1 l2 l3 hl h; cases (show (none : Option (Int32)) = some _ from h)
    | succ n ih =>
      intro H locs hW hS ls l1 l2 l3 hl h
      rw [f5_bitsOf_b42] at h
      refine lv_iload_n hx hb dX5_bitsOf_42 rfl (lv_at hl 2 rfl) ?_
      refine lv_bipush (v := 127) hx hb dX5_bitsOf_43 (by decide) ?_
      refine lv_icmp_ge (tgt := 67) hx hb dX5_bitsOf_45 (by decide) (fun c_1 => ?_) (fun c_1 => ?_)
      · have h := ite_t c_1 h
        exact B67 _ _ hW hS ls l1 l2 (lv_sub hl [0, 1] rfl) h
      · have h := ite_f c_1 h
        refine lv_fload_n hx hb dX5_bitsOf_48 rfl (lv_at hl 0 rfl) ?_
        refine lv_fconst1 hx hb dX5_bitsOf_49 ?_
        refine lv_fcmp hx hb dX5_bitsOf_50 ?_
        refine lv_if_ge (tgt := 67) hx hb dX5_bitsOf_51 (by decide) (fun c_2 => ?_) (fun c_2 => ?_)
        · have h := ite_t c_2 h
          exact B67 _ _ hW hS ls l1 l2 (lv_sub hl [0, 1] rfl) h
        · have h := ite_f c_2 h
          refine lv_fload_n hx hb dX5_bitsOf_54 rfl (lv_at hl 0 rfl) ?_
          refine lv_fconst2 hx hb dX5_bitsOf_55 ?_
          obtain ⟨x_3, nx_3, ex_3, h⟩ := fnn_e h
          refine lv_fmul hx hb dX5_bitsOf_56 nx_3 ?_
          refine lv_nf ex_3 ?_
          refine lv_fstore_n (lv' := [(1, .float x_3), (2, .int l2), (3, .int l3)]) hx hb dX5_bitsOf_57 rfl hl (by decide) rfl (fun ls hl => ?_)
          refine lv_iinc (v := (l2 + (-1))) (lv' := [(2, .int ((l2 + (-1)))), (1, .float x_3), (3, .int l3)]) hx hb dX5_bitsOf_58 hl (k := 1) rfl rfl (by decide) rfl (fun ls hl => ?_)
          refine lv_iinc (v := (l3 + 1)) (lv' := [(3, .int ((l3 + 1))), (2, .int ((l2 + (-1)))), (1, .float x_3)]) hx hb dX5_bitsOf_61 hl (k := 2) rfl rfl (by decide) rfl (fun ls hl => ?_)
          refine lv_goto (tgt := 42) hx hb dX5_bitsOf_64 (by decide) ?_
          exact ih _ _ hW hS ls x_3 ((l2 + (-1))) ((l3 + 1)) (lv_sub hl [2, 1, 0] rfl) h
  have B40 : ∀ (H : Heap) (locs : List Loc) (_ : WD G S0 M0 H) (_ : va_S (Aw G) s.heap H locs) (ls : Array Slot) (l1 : UInt32) (l2 : Int32) (_ : lv_has ls 4 [(1, .float l1), (2, .int l2)]) (h : f5_bitsOf_b40  l1 l2 = some (rr)), WI p l e (headSpec wsX5_bitsOf rX5_bitsOf).room s m args below meth cd G rr S0 M0 H locs (F0 m 40 ls []) := by
    intro H locs hW hS ls l1 l2 hl h
    unfold f5_bitsOf_b40 at h
    refine lv_iconst (v := 0) hx hb dX5_bitsOf_40 (by decide) ?_
    refine lv_istore_n (lv' := [(3, .int 0), (1, .float l1), (2, .int l2)]) hx hb dX5_bitsOf_41 rfl hl (by decide) rfl (fun ls hl => ?_)
    exact B42 fuelN _ _ hW hS ls l1 l2 0 (lv_sub hl [1, 2, 0] rfl) h
  have B15 : ∀ (n : Nat), ∀ (H : Heap) (locs : List Loc) (_ : WD G S0 M0 H) (_ : va_S (Aw G) s.heap H locs) (ls : Array Slot) (l1 : UInt32) (l2 : Int32) (l3 : Int32) (_ : lv_has ls 4 [(1, .float l1), (2, .int l2), (3, .int l3)]) (h : f5_bitsOf_b15  n l1 l2 l3 = some (rr)), WI p l e (headSpec wsX5_bitsOf rX5_bitsOf).room s m args below meth cd G rr S0 M0 H locs (F0 m 15 ls []) := by
    intro n
    induction n with
    | zero => intro H locs hW hS ls l1 l2 l3 hl h; cases (show (none : Option (Int32)) = some _ from h)
    | succ n ih =>
      intro H locs hW hS ls l1 l2 l3 hl h
      rw [f5_bitsOf_b15] at h
      refine lv_iload_n hx hb dX5_bitsOf_15 rfl (lv_at hl 2 rfl) ?_
      refine lv_bipush (v := 127) hx hb dX5_bitsOf_16 (by decide) ?_
      refine lv_icmp_ge (tgt := 40) hx hb dX5_bitsOf_18 (by decide) (fun c_1 => ?_) (fun c_1 => ?_)
      · have h := ite_t c_1 h
        exact B40 _ _ hW hS ls l1 l2 (lv_sub hl [0, 1] rfl) h
      · have h := ite_f c_1 h
        refine lv_fload_n hx hb dX5_bitsOf_21 rfl (lv_at hl 0 rfl) ?_
        refine lv_fconst2 hx hb dX5_bitsOf_22 ?_
        refine lv_fcmp hx hb dX5_bitsOf_23 ?_
        refine lv_if_lt (tgt := 40) hx hb dX5_bitsOf_24 (by decide) (fun c_2 => ?_) (fun c_2 => ?_)
        · have h := ite_t c_2 h
          exact B40 _ _ hW hS ls l1 l2 (lv_sub hl [0, 1] rfl) h
        · have h := ite_f c_2 h
          refine lv_fload_n hx hb dX5_bitsOf_27 rfl (lv_at hl 0 rfl) ?_
          refine lv_fconst2 hx hb dX5_bitsOf_28 ?_
          obtain ⟨x_3, nx_3, ex_3, h⟩ := fnn_e h
          refine lv_fdiv hx hb dX5_bitsOf_29 nx_3 ?_
          refine lv_nf ex_3 ?_
          refine lv_fstore_n (lv' := [(1, .float x_3), (2, .int l2), (3, .int l3)]) hx hb dX5_bitsOf_30 rfl hl (by decide) rfl (fun ls hl => ?_)
          refine lv_iinc (v := (l2 + 1)) (lv' := [(2, .int ((l2 + 1))), (1, .float x_3), (3, .int l3)]) hx hb dX5_bitsOf_31 hl (k := 1) rfl rfl (by decide) rfl (fun ls hl => ?_)
          refine lv_iinc (v := (l3 + 1)) (lv' := [(3, .int ((l3 + 1))), (2, .int ((l2 + 1))), (1, .float x_3)]) hx hb dX5_bitsOf_34 hl (k := 2) rfl rfl (by decide) rfl (fun ls hl => ?_)
          refine lv_goto (tgt := 15) hx hb dX5_bitsOf_37 (by decide) ?_
          exact ih _ _ hW hS ls x_3 ((l2 + 1)) ((l3 + 1)) (lv_sub hl [2, 1, 0] rfl) h
  unfold f5_bitsOf at h
  refine lv_fload_n hx hb dX5_bitsOf_0 rfl (lv_at hl 0 rfl) ?_
  refine lv_fconst0 hx hb dX5_bitsOf_1 ?_
  refine lv_fcmp hx hb dX5_bitsOf_2 ?_
  refine lv_if_gt (tgt := 8) hx hb dX5_bitsOf_3 (by decide) (fun c_1 => ?_) (fun c_1 => ?_)
  · have h := ite_t c_1 h
    refine lv_fload_n hx hb dX5_bitsOf_8 rfl (lv_at hl 0 rfl) ?_
    refine lv_fstore_n (lv' := [(1, .float p0), (0, .float p0)]) hx hb dX5_bitsOf_9 rfl hl (by decide) rfl (fun ls hl => ?_)
    refine lv_bipush (v := 127) hx hb dX5_bitsOf_10 (by decide) ?_
    refine lv_istore_n (lv' := [(2, .int 127), (1, .float p0), (0, .float p0)]) hx hb dX5_bitsOf_12 rfl hl (by decide) rfl (fun ls hl => ?_)
    refine lv_iconst (v := 0) hx hb dX5_bitsOf_13 (by decide) ?_
    refine lv_istore_n (lv' := [(3, .int 0), (2, .int 127), (1, .float p0), (0, .float p0)]) hx hb dX5_bitsOf_14 rfl hl (by decide) rfl (fun ls hl => ?_)
    exact B15 fuelN _ _ hW hS ls p0 127 0 (lv_sub hl [2, 1, 0] rfl) h
  · have h := ite_f c_1 h
    refine lv_iconst (v := 0) hx hb dX5_bitsOf_6 (by decide) ?_
    obtain rfl := Option.some.inj h
    exact W.iret hx hb hr (fun t ht hw => ⟨⟨_, (), rfl, rfl, hW.ret ht⟩, hS.F ht⟩) hS.2.2 dX5_bitsOf_7
abbrev rX5_camper : Room := { frames := 6, cells := 0, slots := 0, locals := 136 }
set_option maxRecDepth 100000 in
set_option maxHeartbeats 8000000 in
theorem tX5_camper (l : Launch) (G : WG) (S0 M0 : St) (p1 : Int32) (p2 : Int32) (rr : Int32) (h : f5_camper S0 p1 p2 = some (rr)) : CtI l yX5_camper wsX5_camper rX5_camper G [.ref (gad G 154), .int p1, .int p2] S0 M0 rr S0 M0 := by
  refine Met.ofW (cc := cX5_camper) (maxL := 3) (ret := (some .int)) (by decide) rfl ?_
  intro p e s m args below meth cd s₁ B hml hv
  obtain ⟨hargs, hK, hW⟩ := hv
  have hx := B.exec
  have hb := B.bytes
  have hr := B.returns
  have hts := atoms_spec (ws := wsX5_camper) B.pre
  have hown : s.vm.findClass RX5 = some m.cls := findClass_of_methodNamed B.named
  have hlocks := B.notSynchronized
  have hA : ∀ q, Aw G q → Aw G q := fun _ h => h
  have hS : va_S (Aw G) s.heap s.heap [] := va_S.rf
  have he0 : entryFrame m args 3 = F0 m 0 ((lg_sl ([.ref (gad G 154), .int p1, .int p2]) ++ List.replicate (3 - (lg_sl ([.ref (gad G 154), .int p1, .int p2])).length) Slot.unset).toArray) [] := by rw [hargs]; exact lg_entry_eq _ _ _
  have hl := lv_entry ([.ref (gad G 154), .int p1, .int p2]) (n := 3) (Nat.le_of_ble_eq_true rfl)
  rw [he0]
  generalize (lg_sl ([.ref (gad G 154), .int p1, .int p2]) ++ List.replicate (3 - (lg_sl ([.ref (gad G 154), .int p1, .int p2])).length) Slot.unset).toArray = ls at hl ⊢
  have hl : lv_has ls 3 [(0, .ref (gad G 154)), (1, .int p1), (2, .int p2)] := hl
  have hiX0 : ∀ w ∈ u_ws RX0 TX0 12, w ∈ wsX5_camper := by decide +kernel
  have hiX5 : ∀ w ∈ u_ws RX5 TX5 6, w ∈ wsX5_camper := by decide +kernel
  unfold f5_camper at h
  refine lv_aload_n hx hb dX5_camper_0 rfl (lv_at hl 0 rfl) ?_
  refine va_get (D := G.1) (ci := 5) (v := .ref (gad G 0)) (C := RX5) (T := TX5) (N := 6) hx hb hts hiX5 hown hK.1 hW.1 154 lkT rfl 0 (by decide) (hts _ (List.mem_of_getElem? (i := 1) rfl)) (fun _ h9 => h9) rfl dX5_camper_1 ?_
  refine lv_iload_n hx hb dX5_camper_4 rfl (lv_at hl 1 rfl) ?_
  obtain ⟨r_1, e_2, h⟩ := bnd_e h
  refine kV_I (As := [.int p1]) (rest := []) ⟨hx, hb, hml, hown, hts⟩ (tX0_isHere l G S0 M0 0 (by omega) p1 r_1 e_2) (cwV 1 hts gX5_camper_X0_isHere rfl rfl rfl ⟨rfl, hdX0_isHere⟩ ⟨Nat.le_of_ble_eq_true rfl, Nat.le_of_ble_eq_true rfl⟩) (va_recv hK.1 hW.1 (ci := 0) (q0 := 0) rfl (lkC (c := 0) (by omega))) hK hW hS hA rfl hl.1 rfl (Nat.le_of_ble_eq_true rfl) dX5_camper_5 ⟨Nat.zero_le _, Nat.zero_le _⟩ (fun H locs hW hS => ?_)
  refine lv_if_ne (tgt := 13) hx hb dX5_camper_8 (by decide) (fun c_3 => ?_) (fun c_3 => ?_)
  · have h := ite_f c_3 h
    refine lv_iload_n hx hb dX5_camper_13 rfl (lv_at hl 2 rfl) ?_
    by_cases c_4 : Int32.toInt p2 < 0 ∨ 6 < Int32.toInt p2
    · have h := ite_t c_4 h
      refine lv_tableOut (tgt := 137) hx hb dX5_camper_14 c_4 (by decide) ?_
      refine lv_bipush (v := (-2)) hx hb dX5_camper_137 (by decide) ?_
      obtain rfl := Option.some.inj h
      exact W.iret hx hb hr (fun t ht hw => ⟨⟨_, (), rfl, rfl, hW.ret ht⟩, hS.F ht⟩) hS.2.2 dX5_camper_139
    · have h := ite_f c_4 h
      by_cases c_5 : (p2 : Int32) = 0
      · have h := ite_t c_5 h
        refine lv_tableIn (off := 42) (tgt := 56) hx hb dX5_camper_14 (by rw [c_5]; decide) (by rw [c_5]; decide) (by rw [c_5]; rfl) (by decide) ?_
        refine lv_aload_n hx hb dX5_camper_56 rfl (lv_at hl 0 rfl) ?_
        refine va_get (D := G.1) (ci := 5) (v := .ref (gad G 0)) (C := RX5) (T := TX5) (N := 6) hx hb hts hiX5 hown hK.1 hW.1 154 lkT rfl 0 (by decide) (hts _ (List.mem_of_getElem? (i := 1) rfl)) (fun _ h9 => h9) rfl dX5_camper_57 ?_
        refine va_getN (D := G.1) (ci := 0) (v := .ref (gad G (14 + (10 * 0 + 4)))) (C := RX0) (T := TX0) (N := 12) hx hb hts hiX0 hown hK.1 hW.1 0 (lkC (c := 0) (by omega)) rfl 1 (by decide) (va_Nw.use rfl (hK.2 _ (List.mem_of_getElem? (i := 2) rfl))) (fun _ h9 => h9) rfl dX5_camper_60 ?_
        refine lv_iload_n hx hb dX5_camper_63 rfl (lv_at hl 1 rfl) ?_
        obtain ⟨r_6, e_7, h⟩ := bnd_e h
        refine kV_I (As := [.int p1]) (rest := []) ⟨hx, hb, hml, hown, hts⟩ (tX4_at l G S0 M0 ((10 * 0 + 4)) (by omega) p1 r_6 e_7) (cwV 1 hts gX5_camper_X4_at rfl rfl rfl ⟨rfl, hdX4_at⟩ ⟨Nat.le_of_ble_eq_true rfl, Nat.le_of_ble_eq_true rfl⟩) (va_recv hK.1 hW.1 (ci := 4) (q0 := (14 + (10 * 0 + 4))) rfl (lkR (r := (10 * 0 + 4)) (by omega))) hK hW hS hA rfl hl.1 rfl (Nat.le_of_ble_eq_true rfl) dX5_camper_64 ⟨Nat.zero_le _, Nat.zero_le _⟩ (fun H locs hW hS => ?_)
        obtain rfl := Option.some.inj h
        exact W.iret hx hb hr (fun t ht hw => ⟨⟨_, (), rfl, rfl, hW.ret ht⟩, hS.F ht⟩) hS.2.2 dX5_camper_67
      · have h := ite_f c_5 h
        by_cases c_8 : (p2 : Int32) = 1
        · have h := ite_t c_8 h
          refine lv_tableIn (off := 54) (tgt := 68) hx hb dX5_camper_14 (by rw [c_8]; decide) (by rw [c_8]; decide) (by rw [c_8]; rfl) (by decide) ?_
          refine lv_aload_n hx hb dX5_camper_68 rfl (lv_at hl 0 rfl) ?_
          refine va_get (D := G.1) (ci := 5) (v := .ref (gad G 0)) (C := RX5) (T := TX5) (N := 6) hx hb hts hiX5 hown hK.1 hW.1 154 lkT rfl 0 (by decide) (hts _ (List.mem_of_getElem? (i := 1) rfl)) (fun _ h9 => h9) rfl dX5_camper_69 ?_
          refine va_getN (D := G.1) (ci := 0) (v := .ref (gad G (14 + (10 * 0 + 5)))) (C := RX0) (T := TX0) (N := 12) hx hb hts hiX0 hown hK.1 hW.1 0 (lkC (c := 0) (by omega)) rfl 2 (by decide) (va_Nw.use rfl (hK.2 _ (List.mem_of_getElem? (i := 3) rfl))) (fun _ h9 => h9) rfl dX5_camper_72 ?_
          refine lv_iload_n hx hb dX5_camper_75 rfl (lv_at hl 1 rfl) ?_
          obtain ⟨r_9, e_10, h⟩ := bnd_e h
          refine kV_I (As := [.int p1]) (rest := []) ⟨hx, hb, hml, hown, hts⟩ (tX4_at l G S0 M0 ((10 * 0 + 5)) (by omega) p1 r_9 e_10) (cwV 1 hts gX5_camper_X4_at rfl rfl rfl ⟨rfl, hdX4_at⟩ ⟨Nat.le_of_ble_eq_true rfl, Nat.le_of_ble_eq_true rfl⟩) (va_recv hK.1 hW.1 (ci := 4) (q0 := (14 + (10 * 0 + 5))) rfl (lkR (r := (10 * 0 + 5)) (by omega))) hK hW hS hA rfl hl.1 rfl (Nat.le_of_ble_eq_true rfl) dX5_camper_76 ⟨Nat.zero_le _, Nat.zero_le _⟩ (fun H locs hW hS => ?_)
          obtain rfl := Option.some.inj h
          exact W.iret hx hb hr (fun t ht hw => ⟨⟨_, (), rfl, rfl, hW.ret ht⟩, hS.F ht⟩) hS.2.2 dX5_camper_79
        · have h := ite_f c_8 h
          by_cases c_11 : (p2 : Int32) = 2
          · have h := ite_t c_11 h
            refine lv_tableIn (off := 66) (tgt := 80) hx hb dX5_camper_14 (by rw [c_11]; decide) (by rw [c_11]; decide) (by rw [c_11]; rfl) (by decide) ?_
            refine lv_aload_n hx hb dX5_camper_80 rfl (lv_at hl 0 rfl) ?_
            refine va_get (D := G.1) (ci := 5) (v := .ref (gad G 0)) (C := RX5) (T := TX5) (N := 6) hx hb hts hiX5 hown hK.1 hW.1 154 lkT rfl 0 (by decide) (hts _ (List.mem_of_getElem? (i := 1) rfl)) (fun _ h9 => h9) rfl dX5_camper_81 ?_
            refine va_getN (D := G.1) (ci := 0) (v := .ref (gad G (7 + 0))) (C := RX0) (T := TX0) (N := 12) hx hb hts hiX0 hown hK.1 hW.1 0 (lkC (c := 0) (by omega)) rfl 0 (by decide) (va_Nw.use rfl (hK.2 _ (List.mem_of_getElem? (i := 1) rfl))) (fun _ h9 => h9) rfl dX5_camper_84 ?_
            refine lv_iload_n hx hb dX5_camper_87 rfl (lv_at hl 1 rfl) ?_
            obtain ⟨r_12, e_13, h⟩ := bnd_e h
            refine kV_I (As := [.int p1]) (rest := []) ⟨hx, hb, hml, hown, hts⟩ (tX3_manyOf l G S0 M0 0 (by omega) p1 r_12 e_13) (cwV 1 hts gX5_camper_X3_manyOf rfl rfl rfl ⟨rfl, hdX3_manyOf⟩ ⟨Nat.le_of_ble_eq_true rfl, Nat.le_of_ble_eq_true rfl⟩) (va_recv hK.1 hW.1 (ci := 3) (q0 := (7 + 0)) rfl (lkP (c := 0) (by omega))) hK hW hS hA rfl hl.1 rfl (Nat.le_of_ble_eq_true rfl) dX5_camper_88 ⟨Nat.zero_le _, Nat.zero_le _⟩ (fun H locs hW hS => ?_)
            obtain rfl := Option.some.inj h
            exact W.iret hx hb hr (fun t ht hw => ⟨⟨_, (), rfl, rfl, hW.ret ht⟩, hS.F ht⟩) hS.2.2 dX5_camper_91
          · have h := ite_f c_11 h
            by_cases c_14 : (p2 : Int32) = 3
            · have h := ite_t c_14 h
              refine lv_tableIn (off := 78) (tgt := 92) hx hb dX5_camper_14 (by rw [c_14]; decide) (by rw [c_14]; decide) (by rw [c_14]; rfl) (by decide) ?_
              refine lv_aload_n hx hb dX5_camper_92 rfl (lv_at hl 0 rfl) ?_
              refine va_get (D := G.1) (ci := 5) (v := .ref (gad G 0)) (C := RX5) (T := TX5) (N := 6) hx hb hts hiX5 hown hK.1 hW.1 154 lkT rfl 0 (by decide) (hts _ (List.mem_of_getElem? (i := 1) rfl)) (fun _ h9 => h9) rfl dX5_camper_93 ?_
              refine va_getN (D := G.1) (ci := 0) (v := .ref (gad G (7 + 0))) (C := RX0) (T := TX0) (N := 12) hx hb hts hiX0 hown hK.1 hW.1 0 (lkC (c := 0) (by omega)) rfl 0 (by decide) (va_Nw.use rfl (hK.2 _ (List.mem_of_getElem? (i := 1) rfl))) (fun _ h9 => h9) rfl dX5_camper_96 ?_
              refine lv_iload_n hx hb dX5_camper_99 rfl (lv_at hl 1 rfl) ?_
              obtain ⟨r_15, e_16, h⟩ := bnd_e h
              refine kV_I (As := [.int p1]) (rest := []) ⟨hx, hb, hml, hown, hts⟩ (tX3_pointsOf l G S0 M0 0 (by omega) p1 r_15 e_16) (cwV 1 hts gX5_camper_X3_pointsOf rfl rfl rfl ⟨rfl, hdX3_pointsOf⟩ ⟨Nat.le_of_ble_eq_true rfl, Nat.le_of_ble_eq_true rfl⟩) (va_recv hK.1 hW.1 (ci := 3) (q0 := (7 + 0)) rfl (lkP (c := 0) (by omega))) hK hW hS hA rfl hl.1 rfl (Nat.le_of_ble_eq_true rfl) dX5_camper_100 ⟨Nat.zero_le _, Nat.zero_le _⟩ (fun H locs hW hS => ?_)
              obtain rfl := Option.some.inj h
              exact W.iret hx hb hr (fun t ht hw => ⟨⟨_, (), rfl, rfl, hW.ret ht⟩, hS.F ht⟩) hS.2.2 dX5_camper_103
            · have h := ite_f c_14 h
              by_cases c_17 : (p2 : Int32) = 4
              · have h := ite_t c_17 h
                refine lv_tableIn (off := 90) (tgt := 104) hx hb dX5_camper_14 (by rw [c_17]; decide) (by rw [c_17]; decide) (by rw [c_17]; rfl) (by decide) ?_
                refine lv_aload_n hx hb dX5_camper_104 rfl (lv_at hl 0 rfl) ?_
                refine va_get (D := G.1) (ci := 5) (v := .ref (gad G 0)) (C := RX5) (T := TX5) (N := 6) hx hb hts hiX5 hown hK.1 hW.1 154 lkT rfl 0 (by decide) (hts _ (List.mem_of_getElem? (i := 1) rfl)) (fun _ h9 => h9) rfl dX5_camper_105 ?_
                refine lv_iload_n hx hb dX5_camper_108 rfl (lv_at hl 1 rfl) ?_
                obtain ⟨r_18, e_19, h⟩ := bnd_e h
                refine kV_I (As := [.int p1]) (rest := []) ⟨hx, hb, hml, hown, hts⟩ (tX0_songsOf l G S0 M0 0 (by omega) p1 r_18 e_19) (cwV 1 hts gX5_camper_X0_songsOf rfl rfl rfl ⟨rfl, hdX0_songsOf⟩ ⟨Nat.le_of_ble_eq_true rfl, Nat.le_of_ble_eq_true rfl⟩) (va_recv hK.1 hW.1 (ci := 0) (q0 := 0) rfl (lkC (c := 0) (by omega))) hK hW hS hA rfl hl.1 rfl (Nat.le_of_ble_eq_true rfl) dX5_camper_109 ⟨Nat.zero_le _, Nat.zero_le _⟩ (fun H locs hW hS => ?_)
                obtain rfl := Option.some.inj h
                exact W.iret hx hb hr (fun t ht hw => ⟨⟨_, (), rfl, rfl, hW.ret ht⟩, hS.F ht⟩) hS.2.2 dX5_camper_112
              · have h := ite_f c_17 h
                by_cases c_20 : (p2 : Int32) = 5
                · have h := ite_t c_20 h
                  refine lv_tableIn (off := 99) (tgt := 113) hx hb dX5_camper_14 (by rw [c_20]; decide) (by rw [c_20]; decide) (by rw [c_20]; rfl) (by decide) ?_
                  refine lv_aload_n hx hb dX5_camper_113 rfl (lv_at hl 0 rfl) ?_
                  refine va_get (D := G.1) (ci := 5) (v := .ref (gad G 0)) (C := RX5) (T := TX5) (N := 6) hx hb hts hiX5 hown hK.1 hW.1 154 lkT rfl 0 (by decide) (hts _ (List.mem_of_getElem? (i := 1) rfl)) (fun _ h9 => h9) rfl dX5_camper_114 ?_
                  refine va_getN (D := G.1) (ci := 0) (v := .ref (gad G (7 + 0))) (C := RX0) (T := TX0) (N := 12) hx hb hts hiX0 hown hK.1 hW.1 0 (lkC (c := 0) (by omega)) rfl 0 (by decide) (va_Nw.use rfl (hK.2 _ (List.mem_of_getElem? (i := 1) rfl))) (fun _ h9 => h9) rfl dX5_camper_117 ?_
                  refine lv_iload_n hx hb dX5_camper_120 rfl (lv_at hl 1 rfl) ?_
                  obtain ⟨r_21, e_22, h⟩ := bnd_e h
                  refine kV_I (As := [.int p1]) (rest := []) ⟨hx, hb, hml, hown, hts⟩ (tX3_neighboursOf l G S0 M0 0 (by omega) p1 r_21 e_22) (cwV 1 hts gX5_camper_X3_neighboursOf rfl rfl rfl ⟨rfl, hdX3_neighboursOf⟩ ⟨Nat.le_of_ble_eq_true rfl, Nat.le_of_ble_eq_true rfl⟩) (va_recv hK.1 hW.1 (ci := 3) (q0 := (7 + 0)) rfl (lkP (c := 0) (by omega))) hK hW hS hA rfl hl.1 rfl (Nat.le_of_ble_eq_true rfl) dX5_camper_121 ⟨Nat.zero_le _, Nat.zero_le _⟩ (fun H locs hW hS => ?_)
                  obtain rfl := Option.some.inj h
                  exact W.iret hx hb hr (fun t ht hw => ⟨⟨_, (), rfl, rfl, hW.ret ht⟩, hS.F ht⟩) hS.2.2 dX5_camper_124
                · have h := ite_f c_20 h
                  by_cases c_23 : (p2 : Int32) = 6
                  · have h := ite_t c_23 h
                    refine lv_tableIn (off := 111) (tgt := 125) hx hb dX5_camper_14 (by rw [c_23]; decide) (by rw [c_23]; decide) (by rw [c_23]; rfl) (by decide) ?_
                    refine lv_aload_n hx hb dX5_camper_125 rfl (lv_at hl 0 rfl) ?_
                    refine va_get (D := G.1) (ci := 5) (v := .ref (gad G 0)) (C := RX5) (T := TX5) (N := 6) hx hb hts hiX5 hown hK.1 hW.1 154 lkT rfl 0 (by decide) (hts _ (List.mem_of_getElem? (i := 1) rfl)) (fun _ h9 => h9) rfl dX5_camper_126 ?_
                    refine lv_iload_n hx hb dX5_camper_129 rfl (lv_at hl 1 rfl) ?_
                    obtain ⟨r_24, e_25, h⟩ := bnd_e h
                    refine kV_F (As := [.int p1]) (rest := []) ⟨hx, hb, hml, hown, hts⟩ (tX0_loudnessOf l G S0 M0 0 (by omega) p1 r_24 e_25) (cwV 1 hts gX5_camper_X0_loudnessOf rfl rfl rfl ⟨rfl, hdX0_loudnessOf⟩ ⟨Nat.le_of_ble_eq_true rfl, Nat.le_of_ble_eq_true rfl⟩) (va_recv hK.1 hW.1 (ci := 0) (q0 := 0) rfl (lkC (c := 0) (by omega))) hK hW hS hA rfl hl.1 rfl (Nat.le_of_ble_eq_true rfl) dX5_camper_130 ⟨Nat.zero_le _, Nat.zero_le _⟩ (fun H locs hW hS => ?_)
                    obtain ⟨r_26, e_27, h⟩ := bnd_e h
                    refine kS_I (As := [.float r_24]) (rest := []) ⟨hx, hb, hml, hown, hts⟩ (tX5_bitsOf l G S0 M0 r_24 r_26 e_27) (va_cwS 1 hts gX5_camper_X5_bitsOf rfl rfl rfl hdX5_bitsOf ⟨Nat.le_of_ble_eq_true rfl, Nat.le_of_ble_eq_true rfl⟩) hK hW hS hA rfl hl.1 rfl (Nat.le_of_ble_eq_true rfl) dX5_camper_133 ⟨Nat.zero_le _, Nat.zero_le _⟩ (fun H locs hW hS => ?_)
                    obtain rfl := Option.some.inj h
                    exact W.iret hx hb hr (fun t ht hw => ⟨⟨_, (), rfl, rfl, hW.ret ht⟩, hS.F ht⟩) hS.2.2 dX5_camper_136
                  · have h := ite_f c_23 h
                    cases h
  · have h := ite_t c_3 h
    refine lv_iconst (v := (-1)) hx hb dX5_camper_11 (by decide) ?_
    obtain rfl := Option.some.inj h
    exact W.iret hx hb hr (fun t ht hw => ⟨⟨_, (), rfl, rfl, hW.ret ht⟩, hS.F ht⟩) hS.2.2 dX5_camper_12
abbrev rX5_plotOf : Room := { frames := 4, cells := 0, slots := 0, locals := 89 }
set_option maxRecDepth 100000 in
set_option maxHeartbeats 8000000 in
theorem tX5_plotOf (l : Launch) (G : WG) (S0 M0 : St) (p1 : Int32) (p2 : Int32) (p3 : Int32) (rr : Int32) (h : f5_plotOf S0 p1 p2 p3 = some (rr)) : CtI l yX5_plotOf wsX5_plotOf rX5_plotOf G [.ref (gad G 154), .int p1, .int p2, .int p3] S0 M0 rr S0 M0 := by
  refine Met.ofW (cc := cX5_plotOf) (maxL := 5) (ret := (some .int)) (by decide) rfl ?_
  intro p e s m args below meth cd s₁ B hml hv
  obtain ⟨hargs, hK, hW⟩ := hv
  have hx := B.exec
  have hb := B.bytes
  have hr := B.returns
  have hts := atoms_spec (ws := wsX5_plotOf) B.pre
  have hown : s.vm.findClass RX5 = some m.cls := findClass_of_methodNamed B.named
  have hlocks := B.notSynchronized
  have hA : ∀ q, Aw G q → Aw G q := fun _ h => h
  have hS : va_S (Aw G) s.heap s.heap [] := va_S.rf
  have he0 : entryFrame m args 5 = F0 m 0 ((lg_sl ([.ref (gad G 154), .int p1, .int p2, .int p3]) ++ List.replicate (5 - (lg_sl ([.ref (gad G 154), .int p1, .int p2, .int p3])).length) Slot.unset).toArray) [] := by rw [hargs]; exact lg_entry_eq _ _ _
  have hl := lv_entry ([.ref (gad G 154), .int p1, .int p2, .int p3]) (n := 5) (Nat.le_of_ble_eq_true rfl)
  rw [he0]
  generalize (lg_sl ([.ref (gad G 154), .int p1, .int p2, .int p3]) ++ List.replicate (5 - (lg_sl ([.ref (gad G 154), .int p1, .int p2, .int p3])).length) Slot.unset).toArray = ls at hl ⊢
  have hl : lv_has ls 5 [(0, .ref (gad G 154)), (1, .int p1), (2, .int p2), (3, .int p3)] := hl
  have hiX0 : ∀ w ∈ u_ws RX0 TX0 12, w ∈ wsX5_plotOf := by decide +kernel
  have hiX5 : ∀ w ∈ u_ws RX5 TX5 6, w ∈ wsX5_plotOf := by decide +kernel
  have B101 : ∀ (H : Heap) (locs : List Loc) (_ : WD G S0 M0 H) (_ : va_S (Aw G) s.heap H locs) (ls : Array Slot) (k0 : Int32) (_ : lv_has ls 5 []) (h : f5_plotOf_b101 S0 k0 = some (rr)), WI p l e (headSpec wsX5_plotOf rX5_plotOf).room s m args below meth cd G rr S0 M0 H locs (F0 m 101 ls [.int k0]) := by
    intro H locs hW hS ls k0 hl h
    unfold f5_plotOf_b101 at h
    obtain rfl := Option.some.inj h
    exact W.iret hx hb hr (fun t ht hw => ⟨⟨_, (), rfl, rfl, hW.ret ht⟩, hS.F ht⟩) hS.2.2 dX5_plotOf_101
  have B26 : ∀ (H : Heap) (locs : List Loc) (_ : WD G S0 M0 H) (_ : va_S (Aw G) s.heap H locs) (ls : Array Slot) (_ : lv_has ls 5 []) (h : f5_plotOf_b26 S0  = some (rr)), WI p l e (headSpec wsX5_plotOf rX5_plotOf).room s m args below meth cd G rr S0 M0 H locs (F0 m 26 ls []) := by
    intro H locs hW hS ls hl h
    unfold f5_plotOf_b26 at h
    refine lv_bipush (v := (-2)) hx hb dX5_plotOf_26 (by decide) ?_
    obtain rfl := Option.some.inj h
    exact W.iret hx hb hr (fun t ht hw => ⟨⟨_, (), rfl, rfl, hW.ret ht⟩, hS.F ht⟩) hS.2.2 dX5_plotOf_28
  unfold f5_plotOf at h
  refine lv_aload_n hx hb dX5_plotOf_0 rfl (lv_at hl 0 rfl) ?_
  refine va_get (D := G.1) (ci := 5) (v := .ref (gad G 0)) (C := RX5) (T := TX5) (N := 6) hx hb hts hiX5 hown hK.1 hW.1 154 lkT rfl 0 (by decide) (hts _ (List.mem_of_getElem? (i := 1) rfl)) (fun _ h9 => h9) rfl dX5_plotOf_1 ?_
  refine lv_iload_n hx hb dX5_plotOf_4 rfl (lv_at hl 1 rfl) ?_
  obtain ⟨r_1, e_2, h⟩ := bnd_e h
  refine kV_I (As := [.int p1]) (rest := []) ⟨hx, hb, hml, hown, hts⟩ (tX0_isHere l G S0 M0 0 (by omega) p1 r_1 e_2) (cwV 1 hts gX5_plotOf_X0_isHere rfl rfl rfl ⟨rfl, hdX0_isHere⟩ ⟨Nat.le_of_ble_eq_true rfl, Nat.le_of_ble_eq_true rfl⟩) (va_recv hK.1 hW.1 (ci := 0) (q0 := 0) rfl (lkC (c := 0) (by omega))) hK hW hS hA rfl hl.1 rfl (Nat.le_of_ble_eq_true rfl) dX5_plotOf_5 ⟨Nat.zero_le _, Nat.zero_le _⟩ (fun H locs hW hS => ?_)
  refine lv_if_ne (tgt := 13) hx hb dX5_plotOf_8 (by decide) (fun c_3 => ?_) (fun c_3 => ?_)
  · have h := ite_f c_3 h
    refine lv_iload_n hx hb dX5_plotOf_13 rfl (lv_at hl 2 rfl) ?_
    refine lv_if_lt (tgt := 26) hx hb dX5_plotOf_14 (by decide) (fun c_4 => ?_) (fun c_4 => ?_)
    · have h := ite_t c_4 h
      exact B26 _ _ hW hS ls (lv_sub hl [] rfl) h
    · have h := ite_f c_4 h
      refine lv_iload_n hx hb dX5_plotOf_17 rfl (lv_at hl 3 rfl) ?_
      refine lv_if_lt (tgt := 26) hx hb dX5_plotOf_18 (by decide) (fun c_5 => ?_) (fun c_5 => ?_)
      · have h := ite_t c_5 h
        exact B26 _ _ hW hS ls (lv_sub hl [] rfl) h
      · have h := ite_f c_5 h
        refine lv_iload_n hx hb dX5_plotOf_21 rfl (lv_at hl 3 rfl) ?_
        refine lv_iconst (v := 2) hx hb dX5_plotOf_22 (by decide) ?_
        refine lv_icmp_le (tgt := 29) hx hb dX5_plotOf_23 (by decide) (fun c_6 => ?_) (fun c_6 => ?_)
        · have h := ite_t c_6 h
          refine lv_aload_n hx hb dX5_plotOf_29 rfl (lv_at hl 0 rfl) ?_
          refine va_get (D := G.1) (ci := 5) (v := .ref (gad G 0)) (C := RX5) (T := TX5) (N := 6) hx hb hts hiX5 hown hK.1 hW.1 154 lkT rfl 0 (by decide) (hts _ (List.mem_of_getElem? (i := 1) rfl)) (fun _ h9 => h9) rfl dX5_plotOf_30 ?_
          refine va_getN (D := G.1) (ci := 0) (v := .ref (gad G (7 + 0))) (C := RX0) (T := TX0) (N := 12) hx hb hts hiX0 hown hK.1 hW.1 0 (lkC (c := 0) (by omega)) rfl 0 (by decide) (va_Nw.use rfl (hK.2 _ (List.mem_of_getElem? (i := 1) rfl))) (fun _ h9 => h9) rfl dX5_plotOf_33 ?_
          refine lv_iload_n hx hb dX5_plotOf_36 rfl (lv_at hl 1 rfl) ?_
          refine lv_iload_n hx hb dX5_plotOf_37 rfl (lv_at hl 2 rfl) ?_
          obtain ⟨r_7, e_8, h⟩ := bnd_e h
          refine kV_I (As := [.int p1, .int p2]) (rest := []) ⟨hx, hb, hml, hown, hts⟩ (tX3_ranked l G S0 M0 0 (by omega) p1 p2 r_7 e_8) (cwV 2 hts gX5_plotOf_X3_ranked rfl rfl rfl ⟨rfl, hdX3_ranked⟩ ⟨Nat.le_of_ble_eq_true rfl, Nat.le_of_ble_eq_true rfl⟩) (va_recv hK.1 hW.1 (ci := 3) (q0 := (7 + 0)) rfl (lkP (c := 0) (by omega))) hK hW hS hA rfl hl.1 rfl (Nat.le_of_ble_eq_true rfl) dX5_plotOf_38 ⟨Nat.zero_le _, Nat.zero_le _⟩ (fun H locs hW hS => ?_)
          refine lv_istore (lv' := [(4, .int r_7), (0, .ref (gad G 154)), (1, .int p1), (2, .int p2), (3, .int p3)]) hx hb dX5_plotOf_41 hl (by decide) rfl (fun ls hl => ?_)
          refine lv_iload hx hb dX5_plotOf_43 (lv_at hl 0 rfl) ?_
          refine lv_iconst (v := (-1)) hx hb dX5_plotOf_45 (by decide) ?_
          refine lv_icmp_ne (tgt := 52) hx hb dX5_plotOf_46 (by decide) (fun c_9 => ?_) (fun c_9 => ?_)
          · have h := ite_f c_9 h
            refine lv_iload_n hx hb dX5_plotOf_52 rfl (lv_at hl 4 rfl) ?_
            refine lv_if_ne (tgt := 69) hx hb dX5_plotOf_53 (by decide) (fun c_10 => ?_) (fun c_10 => ?_)
            · have h := ite_f c_10 h
              refine lv_iload_n hx hb dX5_plotOf_69 rfl (lv_at hl 4 rfl) ?_
              refine lv_iconst (v := 1) hx hb dX5_plotOf_70 (by decide) ?_
              refine lv_icmp_ne (tgt := 89) hx hb dX5_plotOf_71 (by decide) (fun c_11 => ?_) (fun c_11 => ?_)
              · have h := ite_f c_11 h
                refine lv_aload_n hx hb dX5_plotOf_89 rfl (lv_at hl 1 rfl) ?_
                refine va_get (D := G.1) (ci := 5) (v := .ref (gad G 0)) (C := RX5) (T := TX5) (N := 6) hx hb hts hiX5 hown hK.1 hW.1 154 lkT rfl 0 (by decide) (hts _ (List.mem_of_getElem? (i := 1) rfl)) (fun _ h9 => h9) rfl dX5_plotOf_90 ?_
                refine va_getN (D := G.1) (ci := 0) (v := .ref (gad G (7 + 0))) (C := RX0) (T := TX0) (N := 12) hx hb hts hiX0 hown hK.1 hW.1 0 (lkC (c := 0) (by omega)) rfl 0 (by decide) (va_Nw.use rfl (hK.2 _ (List.mem_of_getElem? (i := 1) rfl))) (fun _ h9 => h9) rfl dX5_plotOf_93 ?_
                refine lv_iload hx hb dX5_plotOf_96 (lv_at hl 0 rfl) ?_
                obtain ⟨r_12, e_13, h⟩ := bnd_e h
                refine kV_I (As := [.int r_7]) (rest := []) ⟨hx, hb, hml, hown, hts⟩ (tX3_depthOf l G S0 M0 0 (by omega) r_7 r_12 e_13) (cwV 1 hts gX5_plotOf_X3_depthOf rfl rfl rfl ⟨rfl, hdX3_depthOf⟩ ⟨Nat.le_of_ble_eq_true rfl, Nat.le_of_ble_eq_true rfl⟩) (va_recv hK.1 hW.1 (ci := 3) (q0 := (7 + 0)) rfl (lkP (c := 0) (by omega))) hK hW hS hA rfl hl.1 rfl (Nat.le_of_ble_eq_true rfl) dX5_plotOf_98 ⟨Nat.zero_le _, Nat.zero_le _⟩ (fun H locs hW hS => ?_)
                exact B101 _ _ hW hS ls r_12 (lv_sub hl [] rfl) h
              · have h := ite_t c_11 h
                refine lv_aload_n hx hb dX5_plotOf_74 rfl (lv_at hl 1 rfl) ?_
                refine va_get (D := G.1) (ci := 5) (v := .ref (gad G 0)) (C := RX5) (T := TX5) (N := 6) hx hb hts hiX5 hown hK.1 hW.1 154 lkT rfl 0 (by decide) (hts _ (List.mem_of_getElem? (i := 1) rfl)) (fun _ h9 => h9) rfl dX5_plotOf_75 ?_
                refine va_getN (D := G.1) (ci := 0) (v := .ref (gad G (7 + 0))) (C := RX0) (T := TX0) (N := 12) hx hb hts hiX0 hown hK.1 hW.1 0 (lkC (c := 0) (by omega)) rfl 0 (by decide) (va_Nw.use rfl (hK.2 _ (List.mem_of_getElem? (i := 1) rfl))) (fun _ h9 => h9) rfl dX5_plotOf_78 ?_
                refine lv_iload hx hb dX5_plotOf_81 (lv_at hl 0 rfl) ?_
                obtain ⟨r_14, e_15, h⟩ := bnd_e h
                refine kV_I (As := [.int r_7]) (rest := []) ⟨hx, hb, hml, hown, hts⟩ (tX3_y0Of l G S0 M0 0 (by omega) r_7 r_14 e_15) (cwV 1 hts gX5_plotOf_X3_y0Of rfl rfl rfl ⟨rfl, hdX3_y0Of⟩ ⟨Nat.le_of_ble_eq_true rfl, Nat.le_of_ble_eq_true rfl⟩) (va_recv hK.1 hW.1 (ci := 3) (q0 := (7 + 0)) rfl (lkP (c := 0) (by omega))) hK hW hS hA rfl hl.1 rfl (Nat.le_of_ble_eq_true rfl) dX5_plotOf_83 ⟨Nat.zero_le _, Nat.zero_le _⟩ (fun H locs hW hS => ?_)
                refine lv_goto (tgt := 101) hx hb dX5_plotOf_86 (by decide) ?_
                exact B101 _ _ hW hS ls r_14 (lv_sub hl [] rfl) h
            · have h := ite_t c_10 h
              refine lv_aload_n hx hb dX5_plotOf_56 rfl (lv_at hl 1 rfl) ?_
              refine va_get (D := G.1) (ci := 5) (v := .ref (gad G 0)) (C := RX5) (T := TX5) (N := 6) hx hb hts hiX5 hown hK.1 hW.1 154 lkT rfl 0 (by decide) (hts _ (List.mem_of_getElem? (i := 1) rfl)) (fun _ h9 => h9) rfl dX5_plotOf_57 ?_
              refine va_getN (D := G.1) (ci := 0) (v := .ref (gad G (7 + 0))) (C := RX0) (T := TX0) (N := 12) hx hb hts hiX0 hown hK.1 hW.1 0 (lkC (c := 0) (by omega)) rfl 0 (by decide) (va_Nw.use rfl (hK.2 _ (List.mem_of_getElem? (i := 1) rfl))) (fun _ h9 => h9) rfl dX5_plotOf_60 ?_
              refine lv_iload hx hb dX5_plotOf_63 (lv_at hl 0 rfl) ?_
              obtain ⟨r_16, e_17, h⟩ := bnd_e h
              refine kV_I (As := [.int r_7]) (rest := []) ⟨hx, hb, hml, hown, hts⟩ (tX3_x0Of l G S0 M0 0 (by omega) r_7 r_16 e_17) (cwV 1 hts gX5_plotOf_X3_x0Of rfl rfl rfl ⟨rfl, hdX3_x0Of⟩ ⟨Nat.le_of_ble_eq_true rfl, Nat.le_of_ble_eq_true rfl⟩) (va_recv hK.1 hW.1 (ci := 3) (q0 := (7 + 0)) rfl (lkP (c := 0) (by omega))) hK hW hS hA rfl hl.1 rfl (Nat.le_of_ble_eq_true rfl) dX5_plotOf_65 ⟨Nat.zero_le _, Nat.zero_le _⟩ (fun H locs hW hS => ?_)
              obtain rfl := Option.some.inj h
              exact W.iret hx hb hr (fun t ht hw => ⟨⟨_, (), rfl, rfl, hW.ret ht⟩, hS.F ht⟩) hS.2.2 dX5_plotOf_68
          · have h := ite_t c_9 h
            refine lv_bipush (v := (-5)) hx hb dX5_plotOf_49 (by decide) ?_
            obtain rfl := Option.some.inj h
            exact W.iret hx hb hr (fun t ht hw => ⟨⟨_, (), rfl, rfl, hW.ret ht⟩, hS.F ht⟩) hS.2.2 dX5_plotOf_51
        · have h := ite_f c_6 h
          exact B26 _ _ hW hS ls (lv_sub hl [] rfl) h
  · have h := ite_t c_3 h
    refine lv_iconst (v := (-1)) hx hb dX5_plotOf_11 (by decide) ?_
    obtain rfl := Option.some.inj h
    exact W.iret hx hb hr (fun t ht hw => ⟨⟨_, (), rfl, rfl, hW.ret ht⟩, hS.F ht⟩) hS.2.2 dX5_plotOf_12
abbrev rX5_song : Room := { frames := 6, cells := 0, slots := 0, locals := 135 }
set_option maxRecDepth 100000 in
set_option maxHeartbeats 8000000 in
theorem tX5_song (l : Launch) (G : WG) (S0 M0 : St) (p1 : Int32) (p2 : Int32) (rr : Int32) (h : f5_song S0 p1 p2 = some (rr)) : CtI l yX5_song wsX5_song rX5_song G [.ref (gad G 154), .int p1, .int p2] S0 M0 rr S0 M0 := by
  refine Met.ofW (cc := cX5_song) (maxL := 3) (ret := (some .int)) (by decide) rfl ?_
  intro p e s m args below meth cd s₁ B hml hv
  obtain ⟨hargs, hK, hW⟩ := hv
  have hx := B.exec
  have hb := B.bytes
  have hr := B.returns
  have hts := atoms_spec (ws := wsX5_song) B.pre
  have hown : s.vm.findClass RX5 = some m.cls := findClass_of_methodNamed B.named
  have hlocks := B.notSynchronized
  have hA : ∀ q, Aw G q → Aw G q := fun _ h => h
  have hS : va_S (Aw G) s.heap s.heap [] := va_S.rf
  have he0 : entryFrame m args 3 = F0 m 0 ((lg_sl ([.ref (gad G 154), .int p1, .int p2]) ++ List.replicate (3 - (lg_sl ([.ref (gad G 154), .int p1, .int p2])).length) Slot.unset).toArray) [] := by rw [hargs]; exact lg_entry_eq _ _ _
  have hl := lv_entry ([.ref (gad G 154), .int p1, .int p2]) (n := 3) (Nat.le_of_ble_eq_true rfl)
  rw [he0]
  generalize (lg_sl ([.ref (gad G 154), .int p1, .int p2]) ++ List.replicate (3 - (lg_sl ([.ref (gad G 154), .int p1, .int p2])).length) Slot.unset).toArray = ls at hl ⊢
  have hl : lv_has ls 3 [(0, .ref (gad G 154)), (1, .int p1), (2, .int p2)] := hl
  have hiX0 : ∀ w ∈ u_ws RX0 TX0 12, w ∈ wsX5_song := by decide +kernel
  have hiX5 : ∀ w ∈ u_ws RX5 TX5 6, w ∈ wsX5_song := by decide +kernel
  unfold f5_song at h
  refine lv_aload_n hx hb dX5_song_0 rfl (lv_at hl 0 rfl) ?_
  refine va_get (D := G.1) (ci := 5) (v := .ref (gad G 0)) (C := RX5) (T := TX5) (N := 6) hx hb hts hiX5 hown hK.1 hW.1 154 lkT rfl 0 (by decide) (hts _ (List.mem_of_getElem? (i := 1) rfl)) (fun _ h9 => h9) rfl dX5_song_1 ?_
  refine lv_iload_n hx hb dX5_song_4 rfl (lv_at hl 1 rfl) ?_
  obtain ⟨r_1, e_2, h⟩ := bnd_e h
  refine kV_I (As := [.int p1]) (rest := []) ⟨hx, hb, hml, hown, hts⟩ (tX0_isSong l G S0 M0 0 (by omega) p1 r_1 e_2) (cwV 1 hts gX5_song_X0_isSong rfl rfl rfl ⟨rfl, hdX0_isSong⟩ ⟨Nat.le_of_ble_eq_true rfl, Nat.le_of_ble_eq_true rfl⟩) (va_recv hK.1 hW.1 (ci := 0) (q0 := 0) rfl (lkC (c := 0) (by omega))) hK hW hS hA rfl hl.1 rfl (Nat.le_of_ble_eq_true rfl) dX5_song_5 ⟨Nat.zero_le _, Nat.zero_le _⟩ (fun H locs hW hS => ?_)
  refine lv_if_ne (tgt := 13) hx hb dX5_song_8 (by decide) (fun c_3 => ?_) (fun c_3 => ?_)
  · have h := ite_f c_3 h
    refine lv_iload_n hx hb dX5_song_13 rfl (lv_at hl 2 rfl) ?_
    by_cases c_4 : Int32.toInt p2 < 0 ∨ 3 < Int32.toInt p2
    · have h := ite_t c_4 h
      refine lv_tableOut (tgt := 86) hx hb dX5_song_14 c_4 (by decide) ?_
      refine lv_bipush (v := (-2)) hx hb dX5_song_86 (by decide) ?_
      obtain rfl := Option.some.inj h
      exact W.iret hx hb hr (fun t ht hw => ⟨⟨_, (), rfl, rfl, hW.ret ht⟩, hS.F ht⟩) hS.2.2 dX5_song_88
    · have h := ite_f c_4 h
      by_cases c_5 : (p2 : Int32) = 0
      · have h := ite_t c_5 h
        refine lv_tableIn (off := 30) (tgt := 44) hx hb dX5_song_14 (by rw [c_5]; decide) (by rw [c_5]; decide) (by rw [c_5]; rfl) (by decide) ?_
        refine lv_aload_n hx hb dX5_song_44 rfl (lv_at hl 0 rfl) ?_
        refine va_get (D := G.1) (ci := 5) (v := .ref (gad G 0)) (C := RX5) (T := TX5) (N := 6) hx hb hts hiX5 hown hK.1 hW.1 154 lkT rfl 0 (by decide) (hts _ (List.mem_of_getElem? (i := 1) rfl)) (fun _ h9 => h9) rfl dX5_song_45 ?_
        refine va_getN (D := G.1) (ci := 0) (v := .ref (gad G (14 + (10 * 0 + 7)))) (C := RX0) (T := TX0) (N := 12) hx hb hts hiX0 hown hK.1 hW.1 0 (lkC (c := 0) (by omega)) rfl 4 (by decide) (va_Nw.use rfl (hK.2 _ (List.mem_of_getElem? (i := 4) rfl))) (fun _ h9 => h9) rfl dX5_song_48 ?_
        refine lv_iload_n hx hb dX5_song_51 rfl (lv_at hl 1 rfl) ?_
        obtain ⟨r_6, e_7, h⟩ := bnd_e h
        refine kV_I (As := [.int p1]) (rest := []) ⟨hx, hb, hml, hown, hts⟩ (tX4_at l G S0 M0 ((10 * 0 + 7)) (by omega) p1 r_6 e_7) (cwV 1 hts gX5_song_X4_at rfl rfl rfl ⟨rfl, hdX4_at⟩ ⟨Nat.le_of_ble_eq_true rfl, Nat.le_of_ble_eq_true rfl⟩) (va_recv hK.1 hW.1 (ci := 4) (q0 := (14 + (10 * 0 + 7))) rfl (lkR (r := (10 * 0 + 7)) (by omega))) hK hW hS hA rfl hl.1 rfl (Nat.le_of_ble_eq_true rfl) dX5_song_52 ⟨Nat.zero_le _, Nat.zero_le _⟩ (fun H locs hW hS => ?_)
        obtain rfl := Option.some.inj h
        exact W.iret hx hb hr (fun t ht hw => ⟨⟨_, (), rfl, rfl, hW.ret ht⟩, hS.F ht⟩) hS.2.2 dX5_song_55
      · have h := ite_f c_5 h
        by_cases c_8 : (p2 : Int32) = 1
        · have h := ite_t c_8 h
          refine lv_tableIn (off := 42) (tgt := 56) hx hb dX5_song_14 (by rw [c_8]; decide) (by rw [c_8]; decide) (by rw [c_8]; rfl) (by decide) ?_
          refine lv_aload_n hx hb dX5_song_56 rfl (lv_at hl 0 rfl) ?_
          refine va_get (D := G.1) (ci := 5) (v := .ref (gad G 0)) (C := RX5) (T := TX5) (N := 6) hx hb hts hiX5 hown hK.1 hW.1 154 lkT rfl 0 (by decide) (hts _ (List.mem_of_getElem? (i := 1) rfl)) (fun _ h9 => h9) rfl dX5_song_57 ?_
          refine va_getN (D := G.1) (ci := 0) (v := .ref (gad G (14 + (10 * 0 + 8)))) (C := RX0) (T := TX0) (N := 12) hx hb hts hiX0 hown hK.1 hW.1 0 (lkC (c := 0) (by omega)) rfl 5 (by decide) (va_Nw.use rfl (hK.2 _ (List.mem_of_getElem? (i := 5) rfl))) (fun _ h9 => h9) rfl dX5_song_60 ?_
          refine lv_iload_n hx hb dX5_song_63 rfl (lv_at hl 1 rfl) ?_
          obtain ⟨r_9, e_10, h⟩ := bnd_e h
          refine kV_I (As := [.int p1]) (rest := []) ⟨hx, hb, hml, hown, hts⟩ (tX4_at l G S0 M0 ((10 * 0 + 8)) (by omega) p1 r_9 e_10) (cwV 1 hts gX5_song_X4_at rfl rfl rfl ⟨rfl, hdX4_at⟩ ⟨Nat.le_of_ble_eq_true rfl, Nat.le_of_ble_eq_true rfl⟩) (va_recv hK.1 hW.1 (ci := 4) (q0 := (14 + (10 * 0 + 8))) rfl (lkR (r := (10 * 0 + 8)) (by omega))) hK hW hS hA rfl hl.1 rfl (Nat.le_of_ble_eq_true rfl) dX5_song_64 ⟨Nat.zero_le _, Nat.zero_le _⟩ (fun H locs hW hS => ?_)
          obtain rfl := Option.some.inj h
          exact W.iret hx hb hr (fun t ht hw => ⟨⟨_, (), rfl, rfl, hW.ret ht⟩, hS.F ht⟩) hS.2.2 dX5_song_67
        · have h := ite_f c_8 h
          by_cases c_11 : (p2 : Int32) = 2
          · have h := ite_t c_11 h
            refine lv_tableIn (off := 54) (tgt := 68) hx hb dX5_song_14 (by rw [c_11]; decide) (by rw [c_11]; decide) (by rw [c_11]; rfl) (by decide) ?_
            refine lv_aload_n hx hb dX5_song_68 rfl (lv_at hl 0 rfl) ?_
            refine va_get (D := G.1) (ci := 5) (v := .ref (gad G 0)) (C := RX5) (T := TX5) (N := 6) hx hb hts hiX5 hown hK.1 hW.1 154 lkT rfl 0 (by decide) (hts _ (List.mem_of_getElem? (i := 1) rfl)) (fun _ h9 => h9) rfl dX5_song_69 ?_
            refine lv_iload_n hx hb dX5_song_72 rfl (lv_at hl 1 rfl) ?_
            obtain ⟨r_12, e_13, h⟩ := bnd_e h
            refine kV_F (As := [.int p1]) (rest := []) ⟨hx, hb, hml, hown, hts⟩ (tX0_loudnessOfSong l G S0 M0 0 (by omega) p1 r_12 e_13) (cwV 1 hts gX5_song_X0_loudnessOfSong rfl rfl rfl ⟨rfl, hdX0_loudnessOfSong⟩ ⟨Nat.le_of_ble_eq_true rfl, Nat.le_of_ble_eq_true rfl⟩) (va_recv hK.1 hW.1 (ci := 0) (q0 := 0) rfl (lkC (c := 0) (by omega))) hK hW hS hA rfl hl.1 rfl (Nat.le_of_ble_eq_true rfl) dX5_song_73 ⟨Nat.zero_le _, Nat.zero_le _⟩ (fun H locs hW hS => ?_)
            obtain ⟨r_14, e_15, h⟩ := bnd_e h
            refine kS_I (As := [.float r_12]) (rest := []) ⟨hx, hb, hml, hown, hts⟩ (tX5_bitsOf l G S0 M0 r_12 r_14 e_15) (va_cwS 1 hts gX5_song_X5_bitsOf rfl rfl rfl hdX5_bitsOf ⟨Nat.le_of_ble_eq_true rfl, Nat.le_of_ble_eq_true rfl⟩) hK hW hS hA rfl hl.1 rfl (Nat.le_of_ble_eq_true rfl) dX5_song_76 ⟨Nat.zero_le _, Nat.zero_le _⟩ (fun H locs hW hS => ?_)
            obtain rfl := Option.some.inj h
            exact W.iret hx hb hr (fun t ht hw => ⟨⟨_, (), rfl, rfl, hW.ret ht⟩, hS.F ht⟩) hS.2.2 dX5_song_79
          · have h := ite_f c_11 h
            by_cases c_16 : (p2 : Int32) = 3
            · have h := ite_t c_16 h
              refine lv_tableIn (off := 66) (tgt := 80) hx hb dX5_song_14 (by rw [c_16]; decide) (by rw [c_16]; decide) (by rw [c_16]; rfl) (by decide) ?_
              refine lv_aload_n hx hb dX5_song_80 rfl (lv_at hl 0 rfl) ?_
              refine lv_iload_n hx hb dX5_song_81 rfl (lv_at hl 1 rfl) ?_
              obtain ⟨r_17, e_18, h⟩ := bnd_e h
              refine kV_I (As := [.int p1]) (rest := []) ⟨hx, hb, hml, hown, hts⟩ (tX5_toldOwnerOf l G S0 M0 p1 r_17 e_18) (cwV 1 hts gX5_song_X5_toldOwnerOf rfl rfl rfl ⟨rfl, hdX5_toldOwnerOf⟩ ⟨Nat.le_of_ble_eq_true rfl, Nat.le_of_ble_eq_true rfl⟩) (va_recv hK.1 hW.1 (ci := 5) (q0 := 154) rfl lkT) hK hW hS hA rfl hl.1 rfl (Nat.le_of_ble_eq_true rfl) dX5_song_82 ⟨Nat.zero_le _, Nat.zero_le _⟩ (fun H locs hW hS => ?_)
              obtain rfl := Option.some.inj h
              exact W.iret hx hb hr (fun t ht hw => ⟨⟨_, (), rfl, rfl, hW.ret ht⟩, hS.F ht⟩) hS.2.2 dX5_song_85
            · have h := ite_f c_16 h
              cases h
  · have h := ite_t c_3 h
    refine lv_iconst (v := (-1)) hx hb dX5_song_11 (by decide) ?_
    obtain rfl := Option.some.inj h
    exact W.iret hx hb hr (fun t ht hw => ⟨⟨_, (), rfl, rfl, hW.ret ht⟩, hS.F ht⟩) hS.2.2 dX5_song_12
abbrev rX5_way : Room := { frames := 6, cells := 0, slots := 0, locals := 142 }
set_option maxRecDepth 100000 in
set_option maxHeartbeats 8000000 in
theorem tX5_way (l : Launch) (G : WG) (S0 M0 : St) (p1 : Int32) (p2 : Int32) (p3 : Int32) (p4 : Int32) (p5 : Int32) (rr : Int32) (h : f5_way S0 p1 p2 p3 p4 p5 = some (rr)) : CtI l yX5_way wsX5_way rX5_way G [.ref (gad G 154), .int p1, .int p2, .int p3, .int p4, .int p5] S0 M0 rr S0 M0 := by
  refine Met.ofW (cc := cX5_way) (maxL := 7) (ret := (some .int)) (by decide) rfl ?_
  intro p e s m args below meth cd s₁ B hml hv
  obtain ⟨hargs, hK, hW⟩ := hv
  have hx := B.exec
  have hb := B.bytes
  have hr := B.returns
  have hts := atoms_spec (ws := wsX5_way) B.pre
  have hown : s.vm.findClass RX5 = some m.cls := findClass_of_methodNamed B.named
  have hlocks := B.notSynchronized
  have hA : ∀ q, Aw G q → Aw G q := fun _ h => h
  have hS : va_S (Aw G) s.heap s.heap [] := va_S.rf
  have he0 : entryFrame m args 7 = F0 m 0 ((lg_sl ([.ref (gad G 154), .int p1, .int p2, .int p3, .int p4, .int p5]) ++ List.replicate (7 - (lg_sl ([.ref (gad G 154), .int p1, .int p2, .int p3, .int p4, .int p5])).length) Slot.unset).toArray) [] := by rw [hargs]; exact lg_entry_eq _ _ _
  have hl := lv_entry ([.ref (gad G 154), .int p1, .int p2, .int p3, .int p4, .int p5]) (n := 7) (Nat.le_of_ble_eq_true rfl)
  rw [he0]
  generalize (lg_sl ([.ref (gad G 154), .int p1, .int p2, .int p3, .int p4, .int p5]) ++ List.replicate (7 - (lg_sl ([.ref (gad G 154), .int p1, .int p2, .int p3, .int p4, .int p5])).length) Slot.unset).toArray = ls at hl ⊢
  have hl : lv_has ls 7 [(0, .ref (gad G 154)), (1, .int p1), (2, .int p2), (3, .int p3), (4, .int p4), (5, .int p5)] := hl
  have hiX0 : ∀ w ∈ u_ws RX0 TX0 12, w ∈ wsX5_way := by decide +kernel
  have hiX5 : ∀ w ∈ u_ws RX5 TX5 6, w ∈ wsX5_way := by decide +kernel
  have B114 : ∀ (H : Heap) (locs : List Loc) (_ : WD G S0 M0 H) (_ : va_S (Aw G) s.heap H locs) (ls : Array Slot) (k0 : Int32) (_ : lv_has ls 7 []) (h : f5_way_b114 S0 k0 = some (rr)), WI p l e (headSpec wsX5_way rX5_way).room s m args below meth cd G rr S0 M0 H locs (F0 m 114 ls [.int k0]) := by
    intro H locs hW hS ls k0 hl h
    unfold f5_way_b114 at h
    obtain rfl := Option.some.inj h
    exact W.iret hx hb hr (fun t ht hw => ⟨⟨_, (), rfl, rfl, hW.ret ht⟩, hS.F ht⟩) hS.2.2 dX5_way_114
  have B37 : ∀ (H : Heap) (locs : List Loc) (_ : WD G S0 M0 H) (_ : va_S (Aw G) s.heap H locs) (ls : Array Slot) (_ : lv_has ls 7 []) (h : f5_way_b37 S0  = some (rr)), WI p l e (headSpec wsX5_way rX5_way).room s m args below meth cd G rr S0 M0 H locs (F0 m 37 ls []) := by
    intro H locs hW hS ls hl h
    unfold f5_way_b37 at h
    refine lv_bipush (v := (-2)) hx hb dX5_way_37 (by decide) ?_
    obtain rfl := Option.some.inj h
    exact W.iret hx hb hr (fun t ht hw => ⟨⟨_, (), rfl, rfl, hW.ret ht⟩, hS.F ht⟩) hS.2.2 dX5_way_39
  have B19 : ∀ (H : Heap) (locs : List Loc) (_ : WD G S0 M0 H) (_ : va_S (Aw G) s.heap H locs) (ls : Array Slot) (_ : lv_has ls 7 []) (h : f5_way_b19 S0  = some (rr)), WI p l e (headSpec wsX5_way rX5_way).room s m args below meth cd G rr S0 M0 H locs (F0 m 19 ls []) := by
    intro H locs hW hS ls hl h
    unfold f5_way_b19 at h
    refine lv_iconst (v := (-1)) hx hb dX5_way_19 (by decide) ?_
    obtain rfl := Option.some.inj h
    exact W.iret hx hb hr (fun t ht hw => ⟨⟨_, (), rfl, rfl, hW.ret ht⟩, hS.F ht⟩) hS.2.2 dX5_way_20
  unfold f5_way at h
  refine lv_aload_n hx hb dX5_way_0 rfl (lv_at hl 0 rfl) ?_
  refine va_get (D := G.1) (ci := 5) (v := .ref (gad G 0)) (C := RX5) (T := TX5) (N := 6) hx hb hts hiX5 hown hK.1 hW.1 154 lkT rfl 0 (by decide) (hts _ (List.mem_of_getElem? (i := 1) rfl)) (fun _ h9 => h9) rfl dX5_way_1 ?_
  refine lv_iload_n hx hb dX5_way_4 rfl (lv_at hl 1 rfl) ?_
  obtain ⟨r_1, e_2, h⟩ := bnd_e h
  refine kV_I (As := [.int p1]) (rest := []) ⟨hx, hb, hml, hown, hts⟩ (tX0_isHere l G S0 M0 0 (by omega) p1 r_1 e_2) (cwV 1 hts gX5_way_X0_isHere rfl rfl rfl ⟨rfl, hdX0_isHere⟩ ⟨Nat.le_of_ble_eq_true rfl, Nat.le_of_ble_eq_true rfl⟩) (va_recv hK.1 hW.1 (ci := 0) (q0 := 0) rfl (lkC (c := 0) (by omega))) hK hW hS hA rfl hl.1 rfl (Nat.le_of_ble_eq_true rfl) dX5_way_5 ⟨Nat.zero_le _, Nat.zero_le _⟩ (fun H locs hW hS => ?_)
  refine lv_if_eq (tgt := 19) hx hb dX5_way_8 (by decide) (fun c_3 => ?_) (fun c_3 => ?_)
  · have h := ite_t c_3 h
    exact B19 _ _ hW hS ls (lv_sub hl [] rfl) h
  · have h := ite_f c_3 h
    refine lv_iload_n hx hb dX5_way_11 rfl (lv_at hl 2 rfl) ?_
    refine lv_iload_n hx hb dX5_way_12 rfl (lv_at hl 3 rfl) ?_
    obtain ⟨r_4, e_5, h⟩ := bnd_e h
    refine kS_I (As := [.int p2, .int p3]) (rest := []) ⟨hx, hb, hml, hown, hts⟩ (tX5_isPoint l G S0 M0 p2 p3 r_4 e_5) (va_cwS 2 hts gX5_way_X5_isPoint rfl rfl rfl hdX5_isPoint ⟨Nat.le_of_ble_eq_true rfl, Nat.le_of_ble_eq_true rfl⟩) hK hW hS hA rfl hl.1 rfl (Nat.le_of_ble_eq_true rfl) dX5_way_13 ⟨Nat.zero_le _, Nat.zero_le _⟩ (fun H locs hW hS => ?_)
    refine lv_if_ne (tgt := 21) hx hb dX5_way_16 (by decide) (fun c_6 => ?_) (fun c_6 => ?_)
    · have h := ite_f c_6 h
      refine lv_iload hx hb dX5_way_21 (lv_at hl 4 rfl) ?_
      refine lv_if_lt (tgt := 37) hx hb dX5_way_23 (by decide) (fun c_7 => ?_) (fun c_7 => ?_)
      · have h := ite_t c_7 h
        exact B37 _ _ hW hS ls (lv_sub hl [] rfl) h
      · have h := ite_f c_7 h
        refine lv_iload hx hb dX5_way_26 (lv_at hl 5 rfl) ?_
        refine lv_if_lt (tgt := 37) hx hb dX5_way_28 (by decide) (fun c_8 => ?_) (fun c_8 => ?_)
        · have h := ite_t c_8 h
          exact B37 _ _ hW hS ls (lv_sub hl [] rfl) h
        · have h := ite_f c_8 h
          refine lv_iload hx hb dX5_way_31 (lv_at hl 5 rfl) ?_
          refine lv_iconst (v := 2) hx hb dX5_way_33 (by decide) ?_
          refine lv_icmp_le (tgt := 40) hx hb dX5_way_34 (by decide) (fun c_9 => ?_) (fun c_9 => ?_)
          · have h := ite_t c_9 h
            refine lv_aload_n hx hb dX5_way_40 rfl (lv_at hl 0 rfl) ?_
            refine va_get (D := G.1) (ci := 5) (v := .ref (gad G 0)) (C := RX5) (T := TX5) (N := 6) hx hb hts hiX5 hown hK.1 hW.1 154 lkT rfl 0 (by decide) (hts _ (List.mem_of_getElem? (i := 1) rfl)) (fun _ h9 => h9) rfl dX5_way_41 ?_
            refine lv_iload_n hx hb dX5_way_44 rfl (lv_at hl 1 rfl) ?_
            refine lv_iload_n hx hb dX5_way_45 rfl (lv_at hl 2 rfl) ?_
            refine lv_iload_n hx hb dX5_way_46 rfl (lv_at hl 3 rfl) ?_
            refine lv_iload hx hb dX5_way_47 (lv_at hl 4 rfl) ?_
            obtain ⟨r_10, e_11, h⟩ := bnd_e h
            refine kV_I (As := [.int p1, .int p2, .int p3, .int p4]) (rest := []) ⟨hx, hb, hml, hown, hts⟩ (tX0_plotOnWay l G S0 M0 0 (by omega) p1 p2 p3 p4 r_10 e_11) (cwV 4 hts gX5_way_X0_plotOnWay rfl rfl rfl ⟨rfl, hdX0_plotOnWay⟩ ⟨Nat.le_of_ble_eq_true rfl, Nat.le_of_ble_eq_true rfl⟩) (va_recv hK.1 hW.1 (ci := 0) (q0 := 0) rfl (lkC (c := 0) (by omega))) hK hW hS hA rfl hl.1 rfl (Nat.le_of_ble_eq_true rfl) dX5_way_49 ⟨Nat.zero_le _, Nat.zero_le _⟩ (fun H locs hW hS => ?_)
            refine lv_istore (lv' := [(6, .int r_10), (0, .ref (gad G 154)), (1, .int p1), (2, .int p2), (3, .int p3), (4, .int p4), (5, .int p5)]) hx hb dX5_way_52 hl (by decide) rfl (fun ls hl => ?_)
            refine lv_iload hx hb dX5_way_54 (lv_at hl 0 rfl) ?_
            refine lv_iconst (v := (-1)) hx hb dX5_way_56 (by decide) ?_
            refine lv_icmp_ne (tgt := 63) hx hb dX5_way_57 (by decide) (fun c_12 => ?_) (fun c_12 => ?_)
            · have h := ite_f c_12 h
              refine lv_iload hx hb dX5_way_63 (lv_at hl 6 rfl) ?_
              refine lv_if_ne (tgt := 81) hx hb dX5_way_65 (by decide) (fun c_13 => ?_) (fun c_13 => ?_)
              · have h := ite_f c_13 h
                refine lv_iload hx hb dX5_way_81 (lv_at hl 6 rfl) ?_
                refine lv_iconst (v := 1) hx hb dX5_way_83 (by decide) ?_
                refine lv_icmp_ne (tgt := 102) hx hb dX5_way_84 (by decide) (fun c_14 => ?_) (fun c_14 => ?_)
                · have h := ite_f c_14 h
                  refine lv_aload_n hx hb dX5_way_102 rfl (lv_at hl 1 rfl) ?_
                  refine va_get (D := G.1) (ci := 5) (v := .ref (gad G 0)) (C := RX5) (T := TX5) (N := 6) hx hb hts hiX5 hown hK.1 hW.1 154 lkT rfl 0 (by decide) (hts _ (List.mem_of_getElem? (i := 1) rfl)) (fun _ h9 => h9) rfl dX5_way_103 ?_
                  refine va_getN (D := G.1) (ci := 0) (v := .ref (gad G (7 + 0))) (C := RX0) (T := TX0) (N := 12) hx hb hts hiX0 hown hK.1 hW.1 0 (lkC (c := 0) (by omega)) rfl 0 (by decide) (va_Nw.use rfl (hK.2 _ (List.mem_of_getElem? (i := 1) rfl))) (fun _ h9 => h9) rfl dX5_way_106 ?_
                  refine lv_iload hx hb dX5_way_109 (lv_at hl 0 rfl) ?_
                  obtain ⟨r_15, e_16, h⟩ := bnd_e h
                  refine kV_I (As := [.int r_10]) (rest := []) ⟨hx, hb, hml, hown, hts⟩ (tX3_y0Of l G S0 M0 0 (by omega) r_10 r_15 e_16) (cwV 1 hts gX5_way_X3_y0Of rfl rfl rfl ⟨rfl, hdX3_y0Of⟩ ⟨Nat.le_of_ble_eq_true rfl, Nat.le_of_ble_eq_true rfl⟩) (va_recv hK.1 hW.1 (ci := 3) (q0 := (7 + 0)) rfl (lkP (c := 0) (by omega))) hK hW hS hA rfl hl.1 rfl (Nat.le_of_ble_eq_true rfl) dX5_way_111 ⟨Nat.zero_le _, Nat.zero_le _⟩ (fun H locs hW hS => ?_)
                  exact B114 _ _ hW hS ls r_15 (lv_sub hl [] rfl) h
                · have h := ite_t c_14 h
                  refine lv_aload_n hx hb dX5_way_87 rfl (lv_at hl 1 rfl) ?_
                  refine va_get (D := G.1) (ci := 5) (v := .ref (gad G 0)) (C := RX5) (T := TX5) (N := 6) hx hb hts hiX5 hown hK.1 hW.1 154 lkT rfl 0 (by decide) (hts _ (List.mem_of_getElem? (i := 1) rfl)) (fun _ h9 => h9) rfl dX5_way_88 ?_
                  refine va_getN (D := G.1) (ci := 0) (v := .ref (gad G (7 + 0))) (C := RX0) (T := TX0) (N := 12) hx hb hts hiX0 hown hK.1 hW.1 0 (lkC (c := 0) (by omega)) rfl 0 (by decide) (va_Nw.use rfl (hK.2 _ (List.mem_of_getElem? (i := 1) rfl))) (fun _ h9 => h9) rfl dX5_way_91 ?_
                  refine lv_iload hx hb dX5_way_94 (lv_at hl 0 rfl) ?_
                  obtain ⟨r_17, e_18, h⟩ := bnd_e h
                  refine kV_I (As := [.int r_10]) (rest := []) ⟨hx, hb, hml, hown, hts⟩ (tX3_x0Of l G S0 M0 0 (by omega) r_10 r_17 e_18) (cwV 1 hts gX5_way_X3_x0Of rfl rfl rfl ⟨rfl, hdX3_x0Of⟩ ⟨Nat.le_of_ble_eq_true rfl, Nat.le_of_ble_eq_true rfl⟩) (va_recv hK.1 hW.1 (ci := 3) (q0 := (7 + 0)) rfl (lkP (c := 0) (by omega))) hK hW hS hA rfl hl.1 rfl (Nat.le_of_ble_eq_true rfl) dX5_way_96 ⟨Nat.zero_le _, Nat.zero_le _⟩ (fun H locs hW hS => ?_)
                  refine lv_goto (tgt := 114) hx hb dX5_way_99 (by decide) ?_
                  exact B114 _ _ hW hS ls r_17 (lv_sub hl [] rfl) h
              · have h := ite_t c_13 h
                refine lv_aload_n hx hb dX5_way_68 rfl (lv_at hl 1 rfl) ?_
                refine va_get (D := G.1) (ci := 5) (v := .ref (gad G 0)) (C := RX5) (T := TX5) (N := 6) hx hb hts hiX5 hown hK.1 hW.1 154 lkT rfl 0 (by decide) (hts _ (List.mem_of_getElem? (i := 1) rfl)) (fun _ h9 => h9) rfl dX5_way_69 ?_
                refine va_getN (D := G.1) (ci := 0) (v := .ref (gad G (7 + 0))) (C := RX0) (T := TX0) (N := 12) hx hb hts hiX0 hown hK.1 hW.1 0 (lkC (c := 0) (by omega)) rfl 0 (by decide) (va_Nw.use rfl (hK.2 _ (List.mem_of_getElem? (i := 1) rfl))) (fun _ h9 => h9) rfl dX5_way_72 ?_
                refine lv_iload hx hb dX5_way_75 (lv_at hl 0 rfl) ?_
                obtain ⟨r_19, e_20, h⟩ := bnd_e h
                refine kV_I (As := [.int r_10]) (rest := []) ⟨hx, hb, hml, hown, hts⟩ (tX3_ownerOf l G S0 M0 0 (by omega) r_10 r_19 e_20) (cwV 1 hts gX5_way_X3_ownerOf rfl rfl rfl ⟨rfl, hdX3_ownerOf⟩ ⟨Nat.le_of_ble_eq_true rfl, Nat.le_of_ble_eq_true rfl⟩) (va_recv hK.1 hW.1 (ci := 3) (q0 := (7 + 0)) rfl (lkP (c := 0) (by omega))) hK hW hS hA rfl hl.1 rfl (Nat.le_of_ble_eq_true rfl) dX5_way_77 ⟨Nat.zero_le _, Nat.zero_le _⟩ (fun H locs hW hS => ?_)
                obtain rfl := Option.some.inj h
                exact W.iret hx hb hr (fun t ht hw => ⟨⟨_, (), rfl, rfl, hW.ret ht⟩, hS.F ht⟩) hS.2.2 dX5_way_80
            · have h := ite_t c_12 h
              refine lv_bipush (v := (-5)) hx hb dX5_way_60 (by decide) ?_
              obtain rfl := Option.some.inj h
              exact W.iret hx hb hr (fun t ht hw => ⟨⟨_, (), rfl, rfl, hW.ret ht⟩, hS.F ht⟩) hS.2.2 dX5_way_62
          · have h := ite_f c_9 h
            exact B37 _ _ hW hS ls (lv_sub hl [] rfl) h
    · have h := ite_t c_6 h
      exact B19 _ _ hW hS ls (lv_sub hl [] rfl) h
abbrev rX5_would : Room := { frames := 4, cells := 0, slots := 0, locals := 97 }
set_option maxRecDepth 100000 in
set_option maxHeartbeats 8000000 in
theorem tX5_would (l : Launch) (G : WG) (S0 M0 : St) (p1 : Int32) (p2 : Int32) (p3 : Int32) (rr : Int32) (h : f5_would S0 p1 p2 p3 = some (rr)) : CtI l yX5_would wsX5_would rX5_would G [.ref (gad G 154), .int p1, .int p2, .int p3] S0 M0 rr S0 M0 := by
  refine Met.ofW (cc := cX5_would) (maxL := 5) (ret := (some .int)) (by decide) rfl ?_
  intro p e s m args below meth cd s₁ B hml hv
  obtain ⟨hargs, hK, hW⟩ := hv
  have hx := B.exec
  have hb := B.bytes
  have hr := B.returns
  have hts := atoms_spec (ws := wsX5_would) B.pre
  have hown : s.vm.findClass RX5 = some m.cls := findClass_of_methodNamed B.named
  have hlocks := B.notSynchronized
  have hA : ∀ q, Aw G q → Aw G q := fun _ h => h
  have hS : va_S (Aw G) s.heap s.heap [] := va_S.rf
  have he0 : entryFrame m args 5 = F0 m 0 ((lg_sl ([.ref (gad G 154), .int p1, .int p2, .int p3]) ++ List.replicate (5 - (lg_sl ([.ref (gad G 154), .int p1, .int p2, .int p3])).length) Slot.unset).toArray) [] := by rw [hargs]; exact lg_entry_eq _ _ _
  have hl := lv_entry ([.ref (gad G 154), .int p1, .int p2, .int p3]) (n := 5) (Nat.le_of_ble_eq_true rfl)
  rw [he0]
  generalize (lg_sl ([.ref (gad G 154), .int p1, .int p2, .int p3]) ++ List.replicate (5 - (lg_sl ([.ref (gad G 154), .int p1, .int p2, .int p3])).length) Slot.unset).toArray = ls at hl ⊢
  have hl : lv_has ls 5 [(0, .ref (gad G 154)), (1, .int p1), (2, .int p2), (3, .int p3)] := hl
  have hiX0 : ∀ w ∈ u_ws RX0 TX0 12, w ∈ wsX5_would := by decide +kernel
  have hiX5 : ∀ w ∈ u_ws RX5 TX5 6, w ∈ wsX5_would := by decide +kernel
  have B42 : ∀ (H : Heap) (locs : List Loc) (_ : WD G S0 M0 H) (_ : va_S (Aw G) s.heap H locs) (ls : Array Slot) (l4 : Int32) (_ : lv_has ls 5 [(4, .int l4)]) (h : f5_would_b42 S0 l4 = some (rr)), WI p l e (headSpec wsX5_would rX5_would).room s m args below meth cd G rr S0 M0 H locs (F0 m 42 ls []) := by
    intro H locs hW hS ls l4 hl h
    unfold f5_would_b42 at h
    refine lv_iload hx hb dX5_would_42 (lv_at hl 0 rfl) ?_
    obtain rfl := Option.some.inj h
    exact W.iret hx hb hr (fun t ht hw => ⟨⟨_, (), rfl, rfl, hW.ret ht⟩, hS.F ht⟩) hS.2.2 dX5_would_44
  have B19 : ∀ (H : Heap) (locs : List Loc) (_ : WD G S0 M0 H) (_ : va_S (Aw G) s.heap H locs) (ls : Array Slot) (_ : lv_has ls 5 []) (h : f5_would_b19 S0  = some (rr)), WI p l e (headSpec wsX5_would rX5_would).room s m args below meth cd G rr S0 M0 H locs (F0 m 19 ls []) := by
    intro H locs hW hS ls hl h
    unfold f5_would_b19 at h
    refine lv_bipush (v := (-2)) hx hb dX5_would_19 (by decide) ?_
    obtain rfl := Option.some.inj h
    exact W.iret hx hb hr (fun t ht hw => ⟨⟨_, (), rfl, rfl, hW.ret ht⟩, hS.F ht⟩) hS.2.2 dX5_would_21
  unfold f5_would at h
  refine lv_iload_n hx hb dX5_would_0 rfl (lv_at hl 1 rfl) ?_
  refine lv_iload_n hx hb dX5_would_1 rfl (lv_at hl 2 rfl) ?_
  obtain ⟨r_1, e_2, h⟩ := bnd_e h
  refine kS_I (As := [.int p1, .int p2]) (rest := []) ⟨hx, hb, hml, hown, hts⟩ (tX5_isPoint l G S0 M0 p1 p2 r_1 e_2) (va_cwS 2 hts gX5_would_X5_isPoint rfl rfl rfl hdX5_isPoint ⟨Nat.le_of_ble_eq_true rfl, Nat.le_of_ble_eq_true rfl⟩) hK hW hS hA rfl hl.1 rfl (Nat.le_of_ble_eq_true rfl) dX5_would_2 ⟨Nat.zero_le _, Nat.zero_le _⟩ (fun H locs hW hS => ?_)
  refine lv_if_ne (tgt := 10) hx hb dX5_would_5 (by decide) (fun c_3 => ?_) (fun c_3 => ?_)
  · have h := ite_f c_3 h
    refine lv_iload_n hx hb dX5_would_10 rfl (lv_at hl 3 rfl) ?_
    refine lv_if_lt (tgt := 19) hx hb dX5_would_11 (by decide) (fun c_4 => ?_) (fun c_4 => ?_)
    · have h := ite_t c_4 h
      exact B19 _ _ hW hS ls (lv_sub hl [] rfl) h
    · have h := ite_f c_4 h
      refine lv_iload_n hx hb dX5_would_14 rfl (lv_at hl 3 rfl) ?_
      refine lv_iconst (v := 2) hx hb dX5_would_15 (by decide) ?_
      refine lv_icmp_le (tgt := 22) hx hb dX5_would_16 (by decide) (fun c_5 => ?_) (fun c_5 => ?_)
      · have h := ite_t c_5 h
        refine lv_aload_n hx hb dX5_would_22 rfl (lv_at hl 0 rfl) ?_
        refine va_get (D := G.1) (ci := 5) (v := .ref (gad G 0)) (C := RX5) (T := TX5) (N := 6) hx hb hts hiX5 hown hK.1 hW.1 154 lkT rfl 0 (by decide) (hts _ (List.mem_of_getElem? (i := 1) rfl)) (fun _ h9 => h9) rfl dX5_would_23 ?_
        refine lv_iload_n hx hb dX5_would_26 rfl (lv_at hl 1 rfl) ?_
        refine lv_iload_n hx hb dX5_would_27 rfl (lv_at hl 2 rfl) ?_
        obtain ⟨r_6, e_7, h⟩ := bnd_e h
        refine kV_I (As := [.int p1, .int p2]) (rest := []) ⟨hx, hb, hml, hown, hts⟩ (tX0_depthForNewcomer l G S0 M0 0 (by omega) p1 p2 r_6 e_7) (cwV 2 hts gX5_would_X0_depthForNewcomer rfl rfl rfl ⟨rfl, hdX0_depthForNewcomer⟩ ⟨Nat.le_of_ble_eq_true rfl, Nat.le_of_ble_eq_true rfl⟩) (va_recv hK.1 hW.1 (ci := 0) (q0 := 0) rfl (lkC (c := 0) (by omega))) hK hW hS hA rfl hl.1 rfl (Nat.le_of_ble_eq_true rfl) dX5_would_28 ⟨Nat.zero_le _, Nat.zero_le _⟩ (fun H locs hW hS => ?_)
        refine lv_istore (lv' := [(4, .int r_6), (0, .ref (gad G 154)), (1, .int p1), (2, .int p2), (3, .int p3)]) hx hb dX5_would_31 hl (by decide) rfl (fun ls hl => ?_)
        refine lv_iload hx hb dX5_would_33 (lv_at hl 0 rfl) ?_
        refine lv_if_lt (tgt := 42) hx hb dX5_would_35 (by decide) (fun c_8 => ?_) (fun c_8 => ?_)
        · have h := ite_t c_8 h
          exact B42 _ _ hW hS ls r_6 (lv_sub hl [0] rfl) h
        · have h := ite_f c_8 h
          refine lv_iload_n hx hb dX5_would_38 rfl (lv_at hl 4 rfl) ?_
          refine lv_if_ne (tgt := 45) hx hb dX5_would_39 (by decide) (fun c_9 => ?_) (fun c_9 => ?_)
          · have h := ite_f c_9 h
            refine lv_iload_n hx hb dX5_would_45 rfl (lv_at hl 4 rfl) ?_
            refine lv_iconst (v := 1) hx hb dX5_would_46 (by decide) ?_
            refine lv_icmp_ne (tgt := 62) hx hb dX5_would_47 (by decide) (fun c_10 => ?_) (fun c_10 => ?_)
            · have h := ite_f c_10 h
              refine lv_aload_n hx hb dX5_would_62 rfl (lv_at hl 1 rfl) ?_
              refine va_get (D := G.1) (ci := 5) (v := .ref (gad G 0)) (C := RX5) (T := TX5) (N := 6) hx hb hts hiX5 hown hK.1 hW.1 154 lkT rfl 0 (by decide) (hts _ (List.mem_of_getElem? (i := 1) rfl)) (fun _ h9 => h9) rfl dX5_would_63 ?_
              refine va_getN (D := G.1) (ci := 0) (v := .ref (gad G (7 + 0))) (C := RX0) (T := TX0) (N := 12) hx hb hts hiX0 hown hK.1 hW.1 0 (lkC (c := 0) (by omega)) rfl 0 (by decide) (va_Nw.use rfl (hK.2 _ (List.mem_of_getElem? (i := 1) rfl))) (fun _ h9 => h9) rfl dX5_would_66 ?_
              refine lv_iload_n hx hb dX5_would_69 rfl (lv_at hl 2 rfl) ?_
              refine lv_iload_n hx hb dX5_would_70 rfl (lv_at hl 3 rfl) ?_
              obtain ⟨r_11, e_12, h⟩ := bnd_e h
              refine kV_I (As := [.int p1, .int p2]) (rest := []) ⟨hx, hb, hml, hown, hts⟩ (tX3_ownerAt l G S0 M0 0 (by omega) p1 p2 r_11 e_12) (cwV 2 hts gX5_would_X3_ownerAt rfl rfl rfl ⟨rfl, hdX3_ownerAt⟩ ⟨Nat.le_of_ble_eq_true rfl, Nat.le_of_ble_eq_true rfl⟩) (va_recv hK.1 hW.1 (ci := 3) (q0 := (7 + 0)) rfl (lkP (c := 0) (by omega))) hK hW hS hA rfl hl.1 rfl (Nat.le_of_ble_eq_true rfl) dX5_would_71 ⟨Nat.zero_le _, Nat.zero_le _⟩ (fun H locs hW hS => ?_)
              obtain ⟨r_13, e_14, h⟩ := bnd_e h
              refine kS_I (As := [.int r_11]) (rest := []) ⟨hx, hb, hml, hown, hts⟩ (tX5_orNone l G S0 M0 r_11 r_13 e_14) (va_cwS 1 hts gX5_would_X5_orNone rfl rfl rfl hdX5_orNone ⟨Nat.le_of_ble_eq_true rfl, Nat.le_of_ble_eq_true rfl⟩) hK hW hS hA rfl hl.1 rfl (Nat.le_of_ble_eq_true rfl) dX5_would_74 ⟨Nat.zero_le _, Nat.zero_le _⟩ (fun H locs hW hS => ?_)
              obtain rfl := Option.some.inj h
              exact W.iret hx hb hr (fun t ht hw => ⟨⟨_, (), rfl, rfl, hW.ret ht⟩, hS.F ht⟩) hS.2.2 dX5_would_77
            · have h := ite_t c_10 h
              refine lv_aload_n hx hb dX5_would_50 rfl (lv_at hl 1 rfl) ?_
              refine va_get (D := G.1) (ci := 5) (v := .ref (gad G 0)) (C := RX5) (T := TX5) (N := 6) hx hb hts hiX5 hown hK.1 hW.1 154 lkT rfl 0 (by decide) (hts _ (List.mem_of_getElem? (i := 1) rfl)) (fun _ h9 => h9) rfl dX5_would_51 ?_
              refine lv_iload_n hx hb dX5_would_54 rfl (lv_at hl 2 rfl) ?_
              refine lv_iload_n hx hb dX5_would_55 rfl (lv_at hl 3 rfl) ?_
              refine lv_iload hx hb dX5_would_56 (lv_at hl 0 rfl) ?_
              obtain ⟨r_15, e_16, h⟩ := bnd_e h
              refine kV_I (As := [.int p1, .int p2, .int r_6]) (rest := []) ⟨hx, hb, hml, hown, hts⟩ (tX0_songsInPart l G S0 M0 0 (by omega) p1 p2 r_6 r_15 e_16) (cwV 3 hts gX5_would_X0_songsInPart rfl rfl rfl ⟨rfl, hdX0_songsInPart⟩ ⟨Nat.le_of_ble_eq_true rfl, Nat.le_of_ble_eq_true rfl⟩) (va_recv hK.1 hW.1 (ci := 0) (q0 := 0) rfl (lkC (c := 0) (by omega))) hK hW hS hA rfl hl.1 rfl (Nat.le_of_ble_eq_true rfl) dX5_would_58 ⟨Nat.zero_le _, Nat.zero_le _⟩ (fun H locs hW hS => ?_)
              obtain rfl := Option.some.inj h
              exact W.iret hx hb hr (fun t ht hw => ⟨⟨_, (), rfl, rfl, hW.ret ht⟩, hS.F ht⟩) hS.2.2 dX5_would_61
          · have h := ite_t c_9 h
            exact B42 _ _ hW hS ls r_6 (lv_sub hl [0] rfl) h
      · have h := ite_f c_5 h
        exact B19 _ _ hW hS ls (lv_sub hl [] rfl) h
  · have h := ite_t c_3 h
    refine lv_iconst (v := (-1)) hx hb dX5_would_8 (by decide) ?_
    obtain rfl := Option.some.inj h
    exact W.iret hx hb hr (fun t ht hw => ⟨⟨_, (), rfl, rfl, hW.ret ht⟩, hS.F ht⟩) hS.2.2 dX5_would_9
abbrev rX5_loudest : Room := { frames := 6, cells := 0, slots := 0, locals := 136 }
set_option maxRecDepth 100000 in
set_option maxHeartbeats 8000000 in
theorem tX5_loudest (l : Launch) (G : WG) (S0 M0 : St) (rr : Int32) (h : f5_loudest S0 = some (rr)) : CtI l yX5_loudest wsX5_loudest rX5_loudest G [.ref (gad G 154)] S0 M0 rr S0 M0 := by
  refine Met.ofW (cc := cX5_loudest) (maxL := 5) (ret := (some .int)) (by decide) rfl ?_
  intro p e s m args below meth cd s₁ B hml hv
  obtain ⟨hargs, hK, hW⟩ := hv
  have hx := B.exec
  have hb := B.bytes
  have hr := B.returns
  have hts := atoms_spec (ws := wsX5_loudest) B.pre
  have hown : s.vm.findClass RX5 = some m.cls := findClass_of_methodNamed B.named
  have hlocks := B.notSynchronized
  have hA : ∀ q, Aw G q → Aw G q := fun _ h => h
  have hS : va_S (Aw G) s.heap s.heap [] := va_S.rf
  have he0 : entryFrame m args 5 = F0 m 0 ((lg_sl ([.ref (gad G 154)]) ++ List.replicate (5 - (lg_sl ([.ref (gad G 154)])).length) Slot.unset).toArray) [] := by rw [hargs]; exact lg_entry_eq _ _ _
  have hl := lv_entry ([.ref (gad G 154)]) (n := 5) (Nat.le_of_ble_eq_true rfl)
  rw [he0]
  generalize (lg_sl ([.ref (gad G 154)]) ++ List.replicate (5 - (lg_sl ([.ref (gad G 154)])).length) Slot.unset).toArray = ls at hl ⊢
  have hl : lv_has ls 5 [(0, .ref (gad G 154))] := hl
  have hiX0 : ∀ w ∈ u_ws RX0 TX0 12, w ∈ wsX5_loudest := by decide +kernel
  have hiX5 : ∀ w ∈ u_ws RX5 TX5 6, w ∈ wsX5_loudest := by decide +kernel
  have B8 : ∀ (n : Nat), ∀ (H : Heap) (locs : List Loc) (_ : WD G S0 M0 H) (_ : va_S (Aw G) s.heap H locs) (ls : Array Slot) (l1 : Int32) (l2 : UInt32) (l3 : Int32) (_ : lv_has ls 5 [(0, .ref (gad G 154)), (1, .int l1), (2, .float l2), (3, .int l3)]) (h : f5_loudest_b8 S0 n l1 l2 l3 = some (rr)), WI p l e (headSpec wsX5_loudest rX5_loudest).room s m args below meth cd G rr S0 M0 H locs (F0 m 8 ls []) := by
    intro n
    induction n with
    | zero => intro H locs hW hS ls l1 l2 l3 hl h; cases (show (none : Option (Int32)) = some _ from h)
    | succ n ih =>
      have B52 : ∀ (H : Heap) (locs : List Loc) (_ : WD G S0 M0 H) (_ : va_S (Aw G) s.heap H locs) (ls : Array Slot) (l1 : Int32) (l2 : UInt32) (l3 : Int32) (_ : lv_has ls 5 [(0, .ref (gad G 154)), (1, .int l1), (2, .float l2), (3, .int l3)]) (h : f5_loudest_b52 S0 (f5_loudest_b8 S0 n) l1 l2 l3 = some (rr)), WI p l e (headSpec wsX5_loudest rX5_loudest).room s m args below meth cd G rr S0 M0 H locs (F0 m 52 ls []) := by
        intro H locs hW hS ls l1 l2 l3 hl h
        unfold f5_loudest_b52 at h
        refine lv_iinc (v := (l3 + 1)) (lv' := [(3, .int ((l3 + 1))), (0, .ref (gad G 154)), (1, .int l1), (2, .float l2)]) hx hb dX5_loudest_52 hl (k := 3) rfl rfl (by decide) rfl (fun ls hl => ?_)
        refine lv_goto (tgt := 8) hx hb dX5_loudest_55 (by decide) ?_
        exact ih _ _ hW hS ls l1 l2 ((l3 + 1)) (lv_sub hl [1, 2, 3, 0] rfl) h
      intro H locs hW hS ls l1 l2 l3 hl h
      rw [f5_loudest_b8] at h
      refine lv_iload_n hx hb dX5_loudest_8 rfl (lv_at hl 3 rfl) ?_
      refine lv_aload_n hx hb dX5_loudest_9 rfl (lv_at hl 0 rfl) ?_
      refine va_get (D := G.1) (ci := 5) (v := .ref (gad G 0)) (C := RX5) (T := TX5) (N := 6) hx hb hts hiX5 hown hK.1 hW.1 154 lkT rfl 0 (by decide) (hts _ (List.mem_of_getElem? (i := 2) rfl)) (fun _ h9 => h9) rfl dX5_loudest_10 ?_
      refine va_getN (D := G.1) (ci := 0) (v := .int (S0.1 (6 * 0 + 1))) (C := RX0) (T := TX0) (N := 12) hx hb hts hiX0 hown hK.1 hW.1 0 (lkC (c := 0) (by omega)) rfl 7 (by decide) (va_Nw.use rfl (hK.2 _ (List.mem_of_getElem? (i := 6) rfl))) (fun _ h9 => h9) rfl dX5_loudest_13 ?_
      refine lv_icmp_ge (tgt := 58) hx hb dX5_loudest_16 (by decide) (fun c_1 => ?_) (fun c_1 => ?_)
      · have h := ite_t c_1 h
        refine lv_iload_n hx hb dX5_loudest_58 rfl (lv_at hl 1 rfl) ?_
        obtain rfl := Option.some.inj h
        exact W.iret hx hb hr (fun t ht hw => ⟨⟨_, (), rfl, rfl, hW.ret ht⟩, hS.F ht⟩) hS.2.2 dX5_loudest_59
      · have h := ite_f c_1 h
        refine lv_aload_n hx hb dX5_loudest_19 rfl (lv_at hl 0 rfl) ?_
        refine va_get (D := G.1) (ci := 5) (v := .ref (gad G 0)) (C := RX5) (T := TX5) (N := 6) hx hb hts hiX5 hown hK.1 hW.1 154 lkT rfl 0 (by decide) (hts _ (List.mem_of_getElem? (i := 2) rfl)) (fun _ h9 => h9) rfl dX5_loudest_20 ?_
        refine lv_iload_n hx hb dX5_loudest_23 rfl (lv_at hl 3 rfl) ?_
        obtain ⟨r_2, e_3, h⟩ := bnd_e h
        refine kV_I (As := [.int l3]) (rest := []) ⟨hx, hb, hml, hown, hts⟩ (tX0_isHere l G S0 M0 0 (by omega) l3 r_2 e_3) (cwV 1 hts gX5_loudest_X0_isHere rfl rfl rfl ⟨rfl, hdX0_isHere⟩ ⟨Nat.le_of_ble_eq_true rfl, Nat.le_of_ble_eq_true rfl⟩) (va_recv hK.1 hW.1 (ci := 0) (q0 := 0) rfl (lkC (c := 0) (by omega))) hK hW hS hA rfl hl.1 rfl (Nat.le_of_ble_eq_true rfl) dX5_loudest_24 ⟨Nat.zero_le _, Nat.zero_le _⟩ (fun H locs hW hS => ?_)
        refine lv_if_eq (tgt := 52) hx hb dX5_loudest_27 (by decide) (fun c_4 => ?_) (fun c_4 => ?_)
        · have h := ite_t c_4 h
          exact B52 _ _ hW hS ls l1 l2 l3 (lv_sub hl [0, 1, 2, 3] rfl) h
        · have h := ite_f c_4 h
          refine lv_aload_n hx hb dX5_loudest_30 rfl (lv_at hl 0 rfl) ?_
          refine va_get (D := G.1) (ci := 5) (v := .ref (gad G 0)) (C := RX5) (T := TX5) (N := 6) hx hb hts hiX5 hown hK.1 hW.1 154 lkT rfl 0 (by decide) (hts _ (List.mem_of_getElem? (i := 2) rfl)) (fun _ h9 => h9) rfl dX5_loudest_31 ?_
          refine lv_iload_n hx hb dX5_loudest_34 rfl (lv_at hl 3 rfl) ?_
          obtain ⟨r_5, e_6, h⟩ := bnd_e h
          refine kV_F (As := [.int l3]) (rest := []) ⟨hx, hb, hml, hown, hts⟩ (tX0_loudnessOf l G S0 M0 0 (by omega) l3 r_5 e_6) (cwV 1 hts gX5_loudest_X0_loudnessOf rfl rfl rfl ⟨rfl, hdX0_loudnessOf⟩ ⟨Nat.le_of_ble_eq_true rfl, Nat.le_of_ble_eq_true rfl⟩) (va_recv hK.1 hW.1 (ci := 0) (q0 := 0) rfl (lkC (c := 0) (by omega))) hK hW hS hA rfl hl.1 rfl (Nat.le_of_ble_eq_true rfl) dX5_loudest_35 ⟨Nat.zero_le _, Nat.zero_le _⟩ (fun H locs hW hS => ?_)
          refine lv_fstore (lv' := [(4, .float r_5), (0, .ref (gad G 154)), (1, .int l1), (2, .float l2), (3, .int l3)]) hx hb dX5_loudest_38 hl (by decide) rfl (fun ls hl => ?_)
          refine lv_fload hx hb dX5_loudest_40 (lv_at hl 0 rfl) ?_
          refine lv_fload_n hx hb dX5_loudest_42 rfl (lv_at hl 3 rfl) ?_
          refine lv_fcmp hx hb dX5_loudest_43 ?_
          refine lv_if_le (tgt := 52) hx hb dX5_loudest_44 (by decide) (fun c_7 => ?_) (fun c_7 => ?_)
          · have h := ite_t c_7 h
            exact B52 _ _ hW hS ls l1 l2 l3 (lv_sub hl [1, 2, 3, 4] rfl) h
          · have h := ite_f c_7 h
            refine lv_fload hx hb dX5_loudest_47 (lv_at hl 0 rfl) ?_
            refine lv_fstore_n (lv' := [(2, .float r_5), (4, .float r_5), (0, .ref (gad G 154)), (1, .int l1), (3, .int l3)]) hx hb dX5_loudest_49 rfl hl (by decide) rfl (fun ls hl => ?_)
            refine lv_iload_n hx hb dX5_loudest_50 rfl (lv_at hl 4 rfl) ?_
            refine lv_istore_n (lv' := [(1, .int l3), (2, .float r_5), (4, .float r_5), (0, .ref (gad G 154)), (3, .int l3)]) hx hb dX5_loudest_51 rfl hl (by decide) rfl (fun ls hl => ?_)
            exact B52 _ _ hW hS ls l3 r_5 l3 (lv_sub hl [3, 0, 1, 4] rfl) h
  unfold f5_loudest at h
  refine lv_bipush (v := (-5)) hx hb dX5_loudest_0 (by decide) ?_
  refine lv_istore_n (lv' := [(1, .int ((-5))), (0, .ref (gad G 154))]) hx hb dX5_loudest_2 rfl hl (by decide) rfl (fun ls hl => ?_)
  refine lv_ldcf hx hb hown (hts _ (List.mem_of_getElem? (i := 1) rfl)) dX5_loudest_3 ?_
  refine lv_fstore_n (lv' := [(2, .float 3212836864), (1, .int ((-5))), (0, .ref (gad G 154))]) hx hb dX5_loudest_5 rfl hl (by decide) rfl (fun ls hl => ?_)
  refine lv_iconst (v := 0) hx hb dX5_loudest_6 (by decide) ?_
  refine lv_istore_n (lv' := [(3, .int 0), (2, .float 3212836864), (1, .int ((-5))), (0, .ref (gad G 154))]) hx hb dX5_loudest_7 rfl hl (by decide) rfl (fun ls hl => ?_)
  exact B8 fuelN _ _ hW hS ls ((-5)) 3212836864 0 (lv_sub hl [3, 2, 1, 0] rfl) h
abbrev rX5_share : Room := { frames := 2, cells := 0, slots := 0, locals := 44 }
set_option maxRecDepth 100000 in
set_option maxHeartbeats 8000000 in
theorem tX5_share (l : Launch) (G : WG) (S0 M0 : St) (p1 : Int32) (rr : UInt32) (h : f5_share S0 p1 = some (rr)) : CtF l yX5_share wsX5_share rX5_share G [.ref (gad G 154), .int p1] S0 M0 rr S0 M0 := by
  refine Met.ofW (cc := cX5_share) (maxL := 2) (ret := (some .float)) (by decide) rfl ?_
  intro p e s m args below meth cd s₁ B hml hv
  obtain ⟨hargs, hK, hW⟩ := hv
  have hx := B.exec
  have hb := B.bytes
  have hr := B.returns
  have hts := atoms_spec (ws := wsX5_share) B.pre
  have hown : s.vm.findClass RX5 = some m.cls := findClass_of_methodNamed B.named
  have hlocks := B.notSynchronized
  have hA : ∀ q, Aw G q → Aw G q := fun _ h => h
  have hS : va_S (Aw G) s.heap s.heap [] := va_S.rf
  have he0 : entryFrame m args 2 = F0 m 0 ((lg_sl ([.ref (gad G 154), .int p1]) ++ List.replicate (2 - (lg_sl ([.ref (gad G 154), .int p1])).length) Slot.unset).toArray) [] := by rw [hargs]; exact lg_entry_eq _ _ _
  have hl := lv_entry ([.ref (gad G 154), .int p1]) (n := 2) (Nat.le_of_ble_eq_true rfl)
  rw [he0]
  generalize (lg_sl ([.ref (gad G 154), .int p1]) ++ List.replicate (2 - (lg_sl ([.ref (gad G 154), .int p1])).length) Slot.unset).toArray = ls at hl ⊢
  have hl : lv_has ls 2 [(0, .ref (gad G 154)), (1, .int p1)] := hl
  have hiX0 : ∀ w ∈ u_ws RX0 TX0 12, w ∈ wsX5_share := by decide +kernel
  have hiX5 : ∀ w ∈ u_ws RX5 TX5 6, w ∈ wsX5_share := by decide +kernel
  unfold f5_share at h
  refine lv_aload_n hx hb dX5_share_0 rfl (lv_at hl 0 rfl) ?_
  refine va_get (D := G.1) (ci := 5) (v := .ref (gad G 0)) (C := RX5) (T := TX5) (N := 6) hx hb hts hiX5 hown hK.1 hW.1 154 lkT rfl 0 (by decide) (hts _ (List.mem_of_getElem? (i := 1) rfl)) (fun _ h9 => h9) rfl dX5_share_1 ?_
  refine lv_iload_n hx hb dX5_share_4 rfl (lv_at hl 1 rfl) ?_
  obtain ⟨r_1, e_2, h⟩ := bnd_e h
  refine kV_I (As := [.int p1]) (rest := []) ⟨hx, hb, hml, hown, hts⟩ (tX0_isHere l G S0 M0 0 (by omega) p1 r_1 e_2) (cwV 1 hts gX5_share_X0_isHere rfl rfl rfl ⟨rfl, hdX0_isHere⟩ ⟨Nat.le_of_ble_eq_true rfl, Nat.le_of_ble_eq_true rfl⟩) (va_recv hK.1 hW.1 (ci := 0) (q0 := 0) rfl (lkC (c := 0) (by omega))) hK hW hS hA rfl hl.1 rfl (Nat.le_of_ble_eq_true rfl) dX5_share_5 ⟨Nat.zero_le _, Nat.zero_le _⟩ (fun H locs hW hS => ?_)
  refine lv_if_ne (tgt := 14) hx hb dX5_share_8 (by decide) (fun c_3 => ?_) (fun c_3 => ?_)
  · have h := ite_f c_3 h
    refine lv_aload_n hx hb dX5_share_14 rfl (lv_at hl 0 rfl) ?_
    refine va_get (D := G.1) (ci := 5) (v := .ref (gad G 0)) (C := RX5) (T := TX5) (N := 6) hx hb hts hiX5 hown hK.1 hW.1 154 lkT rfl 0 (by decide) (hts _ (List.mem_of_getElem? (i := 1) rfl)) (fun _ h9 => h9) rfl dX5_share_15 ?_
    refine va_getN (D := G.1) (ci := 0) (v := .ref (gad G (7 + 0))) (C := RX0) (T := TX0) (N := 12) hx hb hts hiX0 hown hK.1 hW.1 0 (lkC (c := 0) (by omega)) rfl 0 (by decide) (va_Nw.use rfl (hK.2 _ (List.mem_of_getElem? (i := 1) rfl))) (fun _ h9 => h9) rfl dX5_share_18 ?_
    refine lv_iload_n hx hb dX5_share_21 rfl (lv_at hl 1 rfl) ?_
    obtain ⟨r_4, e_5, h⟩ := bnd_e h
    refine kV_I (As := [.int p1]) (rest := []) ⟨hx, hb, hml, hown, hts⟩ (tX3_pointsOf l G S0 M0 0 (by omega) p1 r_4 e_5) (cwV 1 hts gX5_share_X3_pointsOf rfl rfl rfl ⟨rfl, hdX3_pointsOf⟩ ⟨Nat.le_of_ble_eq_true rfl, Nat.le_of_ble_eq_true rfl⟩) (va_recv hK.1 hW.1 (ci := 3) (q0 := (7 + 0)) rfl (lkP (c := 0) (by omega))) hK hW hS hA rfl hl.1 rfl (Nat.le_of_ble_eq_true rfl) dX5_share_22 ⟨Nat.zero_le _, Nat.zero_le _⟩ (fun H locs hW hS => ?_)
    refine lv_i2f hx hb dX5_share_25 ?_
    refine lv_ldcf hx hb hown (hts _ (List.mem_of_getElem? (i := 3) rfl)) dX5_share_26 ?_
    obtain ⟨x_6, nx_6, ex_6, h⟩ := fnn_e h
    refine lv_fdiv hx hb dX5_share_28 nx_6 ?_
    refine lv_nf ex_6 ?_
    obtain rfl := Option.some.inj h
    exact W.fret hx hb hr (fun t ht hw => ⟨⟨_, (), rfl, rfl, hW.ret ht⟩, hS.F ht⟩) hS.2.2 dX5_share_29
  · have h := ite_t c_3 h
    refine lv_ldcf hx hb hown (hts _ (List.mem_of_getElem? (i := 2) rfl)) dX5_share_11 ?_
    obtain rfl := Option.some.inj h
    exact W.fret hx hb hr (fun t ht hw => ⟨⟨_, (), rfl, rfl, hW.ret ht⟩, hS.F ht⟩) hS.2.2 dX5_share_13
abbrev rX5_count : Room := { frames := 3, cells := 0, slots := 0, locals := 66 }
set_option maxRecDepth 100000 in
set_option maxHeartbeats 8000000 in
theorem tX5_count (l : Launch) (G : WG) (S0 M0 : St) (p1 : Int32) (rr : Int32) (h : f5_count S0 p1 = some (rr)) : CtI l yX5_count wsX5_count rX5_count G [.ref (gad G 154), .int p1] S0 M0 rr S0 M0 := by
  refine Met.ofW (cc := cX5_count) (maxL := 2) (ret := (some .int)) (by decide) rfl ?_
  intro p e s m args below meth cd s₁ B hml hv
  obtain ⟨hargs, hK, hW⟩ := hv
  have hx := B.exec
  have hb := B.bytes
  have hr := B.returns
  have hts := atoms_spec (ws := wsX5_count) B.pre
  have hown : s.vm.findClass RX5 = some m.cls := findClass_of_methodNamed B.named
  have hlocks := B.notSynchronized
  have hA : ∀ q, Aw G q → Aw G q := fun _ h => h
  have hS : va_S (Aw G) s.heap s.heap [] := va_S.rf
  have he0 : entryFrame m args 2 = F0 m 0 ((lg_sl ([.ref (gad G 154), .int p1]) ++ List.replicate (2 - (lg_sl ([.ref (gad G 154), .int p1])).length) Slot.unset).toArray) [] := by rw [hargs]; exact lg_entry_eq _ _ _
  have hl := lv_entry ([.ref (gad G 154), .int p1]) (n := 2) (Nat.le_of_ble_eq_true rfl)
  rw [he0]
  generalize (lg_sl ([.ref (gad G 154), .int p1]) ++ List.replicate (2 - (lg_sl ([.ref (gad G 154), .int p1])).length) Slot.unset).toArray = ls at hl ⊢
  have hl : lv_has ls 2 [(0, .ref (gad G 154)), (1, .int p1)] := hl
  have hiX0 : ∀ w ∈ u_ws RX0 TX0 12, w ∈ wsX5_count := by decide +kernel
  have hiX1 : ∀ w ∈ u_ws RX1 TX1 2, w ∈ wsX5_count := by decide +kernel
  have hiX2 : ∀ w ∈ u_ws RX2 TX2 3, w ∈ wsX5_count := by decide +kernel
  have hiX3 : ∀ w ∈ u_ws RX3 TX3 5, w ∈ wsX5_count := by decide +kernel
  have hiX5 : ∀ w ∈ u_ws RX5 TX5 6, w ∈ wsX5_count := by decide +kernel
  unfold f5_count at h
  refine lv_iload_n hx hb dX5_count_0 rfl (lv_at hl 1 rfl) ?_
  by_cases c_1 : Int32.toInt p1 < 0 ∨ 11 < Int32.toInt p1
  · have h := ite_t c_1 h
    refine lv_tableOut (tgt := 169) hx hb dX5_count_1 c_1 (by decide) ?_
    refine lv_bipush (v := (-2)) hx hb dX5_count_169 (by decide) ?_
    obtain rfl := Option.some.inj h
    exact W.iret hx hb hr (fun t ht hw => ⟨⟨_, (), rfl, rfl, hW.ret ht⟩, hS.F ht⟩) hS.2.2 dX5_count_171
  · have h := ite_f c_1 h
    by_cases c_2 : (p1 : Int32) = 0
    · have h := ite_t c_2 h
      refine lv_tableIn (off := 63) (tgt := 64) hx hb dX5_count_1 (by rw [c_2]; decide) (by rw [c_2]; decide) (by rw [c_2]; rfl) (by decide) ?_
      refine lv_aload_n hx hb dX5_count_64 rfl (lv_at hl 0 rfl) ?_
      refine va_get (D := G.1) (ci := 5) (v := .ref (gad G 0)) (C := RX5) (T := TX5) (N := 6) hx hb hts hiX5 hown hK.1 hW.1 154 lkT rfl 0 (by decide) (hts _ (List.mem_of_getElem? (i := 1) rfl)) (fun _ h9 => h9) rfl dX5_count_65 ?_
      obtain ⟨r_3, e_4, h⟩ := bnd_e h
      refine kV_I (As := []) (rest := []) ⟨hx, hb, hml, hown, hts⟩ (tX0_campersHere l G S0 M0 0 (by omega) r_3 e_4) (cwV 0 hts gX5_count_X0_campersHere rfl rfl rfl ⟨rfl, hdX0_campersHere⟩ ⟨Nat.le_of_ble_eq_true rfl, Nat.le_of_ble_eq_true rfl⟩) (va_recv hK.1 hW.1 (ci := 0) (q0 := 0) rfl (lkC (c := 0) (by omega))) hK hW hS hA rfl hl.1 rfl (Nat.le_of_ble_eq_true rfl) dX5_count_68 ⟨Nat.zero_le _, Nat.zero_le _⟩ (fun H locs hW hS => ?_)
      obtain rfl := Option.some.inj h
      exact W.iret hx hb hr (fun t ht hw => ⟨⟨_, (), rfl, rfl, hW.ret ht⟩, hS.F ht⟩) hS.2.2 dX5_count_71
    · have h := ite_f c_2 h
      by_cases c_5 : (p1 : Int32) = 1
      · have h := ite_t c_5 h
        refine lv_tableIn (off := 71) (tgt := 72) hx hb dX5_count_1 (by rw [c_5]; decide) (by rw [c_5]; decide) (by rw [c_5]; rfl) (by decide) ?_
        refine lv_aload_n hx hb dX5_count_72 rfl (lv_at hl 0 rfl) ?_
        refine va_get (D := G.1) (ci := 5) (v := .ref (gad G 0)) (C := RX5) (T := TX5) (N := 6) hx hb hts hiX5 hown hK.1 hW.1 154 lkT rfl 0 (by decide) (hts _ (List.mem_of_getElem? (i := 1) rfl)) (fun _ h9 => h9) rfl dX5_count_73 ?_
        refine va_getN (D := G.1) (ci := 0) (v := .int (S0.1 (6 * 0 + 1))) (C := RX0) (T := TX0) (N := 12) hx hb hts hiX0 hown hK.1 hW.1 0 (lkC (c := 0) (by omega)) rfl 7 (by decide) (va_Nw.use rfl (hK.2 _ (List.mem_of_getElem? (i := 6) rfl))) (fun _ h9 => h9) rfl dX5_count_76 ?_
        obtain rfl := Option.some.inj h
        exact W.iret hx hb hr (fun t ht hw => ⟨⟨_, (), rfl, rfl, hW.ret ht⟩, hS.F ht⟩) hS.2.2 dX5_count_79
      · have h := ite_f c_5 h
        by_cases c_6 : (p1 : Int32) = 2
        · have h := ite_t c_6 h
          refine lv_tableIn (off := 79) (tgt := 80) hx hb dX5_count_1 (by rw [c_6]; decide) (by rw [c_6]; decide) (by rw [c_6]; rfl) (by decide) ?_
          refine lv_aload_n hx hb dX5_count_80 rfl (lv_at hl 0 rfl) ?_
          refine va_get (D := G.1) (ci := 5) (v := .ref (gad G 0)) (C := RX5) (T := TX5) (N := 6) hx hb hts hiX5 hown hK.1 hW.1 154 lkT rfl 0 (by decide) (hts _ (List.mem_of_getElem? (i := 1) rfl)) (fun _ h9 => h9) rfl dX5_count_81 ?_
          refine va_getN (D := G.1) (ci := 0) (v := .ref (gad G (7 + 0))) (C := RX0) (T := TX0) (N := 12) hx hb hts hiX0 hown hK.1 hW.1 0 (lkC (c := 0) (by omega)) rfl 0 (by decide) (va_Nw.use rfl (hK.2 _ (List.mem_of_getElem? (i := 1) rfl))) (fun _ h9 => h9) rfl dX5_count_84 ?_
          refine va_getN (D := G.1) (ci := 3) (v := .int (S0.1 (6 * 0 + 0))) (C := RX3) (T := TX3) (N := 5) hx hb hts hiX3 hown hK.1 hW.1 (7 + 0) (lkP (c := 0) (by omega)) rfl 4 (by decide) (va_Nw.use rfl (hK.2 _ (List.mem_of_getElem? (i := 0) rfl))) (fun _ h9 => h9) rfl dX5_count_87 ?_
          obtain rfl := Option.some.inj h
          exact W.iret hx hb hr (fun t ht hw => ⟨⟨_, (), rfl, rfl, hW.ret ht⟩, hS.F ht⟩) hS.2.2 dX5_count_90
        · have h := ite_f c_6 h
          by_cases c_7 : (p1 : Int32) = 3
          · have h := ite_t c_7 h
            refine lv_tableIn (off := 90) (tgt := 91) hx hb dX5_count_1 (by rw [c_7]; decide) (by rw [c_7]; decide) (by rw [c_7]; rfl) (by decide) ?_
            refine lv_aload_n hx hb dX5_count_91 rfl (lv_at hl 0 rfl) ?_
            refine va_get (D := G.1) (ci := 5) (v := .ref (gad G 0)) (C := RX5) (T := TX5) (N := 6) hx hb hts hiX5 hown hK.1 hW.1 154 lkT rfl 0 (by decide) (hts _ (List.mem_of_getElem? (i := 1) rfl)) (fun _ h9 => h9) rfl dX5_count_92 ?_
            refine va_getN (D := G.1) (ci := 0) (v := .int (S0.1 (6 * 0 + 2))) (C := RX0) (T := TX0) (N := 12) hx hb hts hiX0 hown hK.1 hW.1 0 (lkC (c := 0) (by omega)) rfl 8 (by decide) (va_Nw.use rfl (hK.2 _ (List.mem_of_getElem? (i := 7) rfl))) (fun _ h9 => h9) rfl dX5_count_95 ?_
            obtain rfl := Option.some.inj h
            exact W.iret hx hb hr (fun t ht hw => ⟨⟨_, (), rfl, rfl, hW.ret ht⟩, hS.F ht⟩) hS.2.2 dX5_count_98
          · have h := ite_f c_7 h
            by_cases c_8 : (p1 : Int32) = 4
            · have h := ite_t c_8 h
              refine lv_tableIn (off := 98) (tgt := 99) hx hb dX5_count_1 (by rw [c_8]; decide) (by rw [c_8]; decide) (by rw [c_8]; rfl) (by decide) ?_
              refine lv_aload_n hx hb dX5_count_99 rfl (lv_at hl 0 rfl) ?_
              refine va_get (D := G.1) (ci := 5) (v := .ref (gad G 0)) (C := RX5) (T := TX5) (N := 6) hx hb hts hiX5 hown hK.1 hW.1 154 lkT rfl 0 (by decide) (hts _ (List.mem_of_getElem? (i := 1) rfl)) (fun _ h9 => h9) rfl dX5_count_100 ?_
              refine va_getN (D := G.1) (ci := 0) (v := .ref (gad G (7 + 0))) (C := RX0) (T := TX0) (N := 12) hx hb hts hiX0 hown hK.1 hW.1 0 (lkC (c := 0) (by omega)) rfl 0 (by decide) (va_Nw.use rfl (hK.2 _ (List.mem_of_getElem? (i := 1) rfl))) (fun _ h9 => h9) rfl dX5_count_103 ?_
              obtain ⟨r_9, e_10, h⟩ := bnd_e h
              refine kV_I (As := []) (rest := []) ⟨hx, hb, hml, hown, hts⟩ (tX3_greatestDepth l G S0 M0 0 (by omega) r_9 e_10) (cwV 0 hts gX5_count_X3_greatestDepth rfl rfl rfl ⟨rfl, hdX3_greatestDepth⟩ ⟨Nat.le_of_ble_eq_true rfl, Nat.le_of_ble_eq_true rfl⟩) (va_recv hK.1 hW.1 (ci := 3) (q0 := (7 + 0)) rfl (lkP (c := 0) (by omega))) hK hW hS hA rfl hl.1 rfl (Nat.le_of_ble_eq_true rfl) dX5_count_106 ⟨Nat.zero_le _, Nat.zero_le _⟩ (fun H locs hW hS => ?_)
              obtain rfl := Option.some.inj h
              exact W.iret hx hb hr (fun t ht hw => ⟨⟨_, (), rfl, rfl, hW.ret ht⟩, hS.F ht⟩) hS.2.2 dX5_count_109
            · have h := ite_f c_8 h
              by_cases c_11 : (p1 : Int32) = 5
              · have h := ite_t c_11 h
                refine lv_tableIn (off := 109) (tgt := 110) hx hb dX5_count_1 (by rw [c_11]; decide) (by rw [c_11]; decide) (by rw [c_11]; rfl) (by decide) ?_
                refine lv_aload_n hx hb dX5_count_110 rfl (lv_at hl 0 rfl) ?_
                refine va_get (D := G.1) (ci := 5) (v := .ref (gad G 0)) (C := RX5) (T := TX5) (N := 6) hx hb hts hiX5 hown hK.1 hW.1 154 lkT rfl 0 (by decide) (hts _ (List.mem_of_getElem? (i := 1) rfl)) (fun _ h9 => h9) rfl dX5_count_111 ?_
                refine va_getN (D := G.1) (ci := 0) (v := .ref (gad G (7 + 0))) (C := RX0) (T := TX0) (N := 12) hx hb hts hiX0 hown hK.1 hW.1 0 (lkC (c := 0) (by omega)) rfl 0 (by decide) (va_Nw.use rfl (hK.2 _ (List.mem_of_getElem? (i := 1) rfl))) (fun _ h9 => h9) rfl dX5_count_114 ?_
                obtain ⟨r_12, e_13, h⟩ := bnd_e h
                refine kV_I (As := []) (rest := []) ⟨hx, hb, hml, hown, hts⟩ (tX3_leastDepth l G S0 M0 0 (by omega) r_12 e_13) (cwV 0 hts gX5_count_X3_leastDepth rfl rfl rfl ⟨rfl, hdX3_leastDepth⟩ ⟨Nat.le_of_ble_eq_true rfl, Nat.le_of_ble_eq_true rfl⟩) (va_recv hK.1 hW.1 (ci := 3) (q0 := (7 + 0)) rfl (lkP (c := 0) (by omega))) hK hW hS hA rfl hl.1 rfl (Nat.le_of_ble_eq_true rfl) dX5_count_117 ⟨Nat.zero_le _, Nat.zero_le _⟩ (fun H locs hW hS => ?_)
                obtain rfl := Option.some.inj h
                exact W.iret hx hb hr (fun t ht hw => ⟨⟨_, (), rfl, rfl, hW.ret ht⟩, hS.F ht⟩) hS.2.2 dX5_count_120
              · have h := ite_f c_11 h
                by_cases c_14 : (p1 : Int32) = 6
                · have h := ite_t c_14 h
                  refine lv_tableIn (off := 120) (tgt := 121) hx hb dX5_count_1 (by rw [c_14]; decide) (by rw [c_14]; decide) (by rw [c_14]; rfl) (by decide) ?_
                  refine lv_aload_n hx hb dX5_count_121 rfl (lv_at hl 0 rfl) ?_
                  refine va_get (D := G.1) (ci := 5) (v := .ref (gad G 0)) (C := RX5) (T := TX5) (N := 6) hx hb hts hiX5 hown hK.1 hW.1 154 lkT rfl 0 (by decide) (hts _ (List.mem_of_getElem? (i := 1) rfl)) (fun _ h9 => h9) rfl dX5_count_122 ?_
                  obtain ⟨r_15, e_16, h⟩ := bnd_e h
                  refine kV_I (As := []) (rest := []) ⟨hx, hb, hml, hown, hts⟩ (tX0_campersWithMorePlots l G S0 M0 0 (by omega) r_15 e_16) (cwV 0 hts gX5_count_X0_campersWithMorePlots rfl rfl rfl ⟨rfl, hdX0_campersWithMorePlots⟩ ⟨Nat.le_of_ble_eq_true rfl, Nat.le_of_ble_eq_true rfl⟩) (va_recv hK.1 hW.1 (ci := 0) (q0 := 0) rfl (lkC (c := 0) (by omega))) hK hW hS hA rfl hl.1 rfl (Nat.le_of_ble_eq_true rfl) dX5_count_125 ⟨Nat.zero_le _, Nat.zero_le _⟩ (fun H locs hW hS => ?_)
                  obtain rfl := Option.some.inj h
                  exact W.iret hx hb hr (fun t ht hw => ⟨⟨_, (), rfl, rfl, hW.ret ht⟩, hS.F ht⟩) hS.2.2 dX5_count_128
                · have h := ite_f c_14 h
                  by_cases c_17 : (p1 : Int32) = 7
                  · have h := ite_t c_17 h
                    refine lv_tableIn (off := 128) (tgt := 129) hx hb dX5_count_1 (by rw [c_17]; decide) (by rw [c_17]; decide) (by rw [c_17]; rfl) (by decide) ?_
                    refine lv_aload_n hx hb dX5_count_129 rfl (lv_at hl 0 rfl) ?_
                    refine va_get (D := G.1) (ci := 5) (v := .ref (gad G 0)) (C := RX5) (T := TX5) (N := 6) hx hb hts hiX5 hown hK.1 hW.1 154 lkT rfl 0 (by decide) (hts _ (List.mem_of_getElem? (i := 1) rfl)) (fun _ h9 => h9) rfl dX5_count_130 ?_
                    refine va_getN (D := G.1) (ci := 0) (v := .int (S0.1 (6 * 0 + 3))) (C := RX0) (T := TX0) (N := 12) hx hb hts hiX0 hown hK.1 hW.1 0 (lkC (c := 0) (by omega)) rfl 9 (by decide) (va_Nw.use rfl (hK.2 _ (List.mem_of_getElem? (i := 8) rfl))) (fun _ h9 => h9) rfl dX5_count_133 ?_
                    obtain rfl := Option.some.inj h
                    exact W.iret hx hb hr (fun t ht hw => ⟨⟨_, (), rfl, rfl, hW.ret ht⟩, hS.F ht⟩) hS.2.2 dX5_count_136
                  · have h := ite_f c_17 h
                    by_cases c_18 : (p1 : Int32) = 8
                    · have h := ite_t c_18 h
                      refine lv_tableIn (off := 136) (tgt := 137) hx hb dX5_count_1 (by rw [c_18]; decide) (by rw [c_18]; decide) (by rw [c_18]; rfl) (by decide) ?_
                      refine lv_aload_n hx hb dX5_count_137 rfl (lv_at hl 0 rfl) ?_
                      refine va_get (D := G.1) (ci := 5) (v := .ref (gad G 0)) (C := RX5) (T := TX5) (N := 6) hx hb hts hiX5 hown hK.1 hW.1 154 lkT rfl 0 (by decide) (hts _ (List.mem_of_getElem? (i := 1) rfl)) (fun _ h9 => h9) rfl dX5_count_138 ?_
                      refine va_getN (D := G.1) (ci := 0) (v := .int (S0.1 (6 * 0 + 4))) (C := RX0) (T := TX0) (N := 12) hx hb hts hiX0 hown hK.1 hW.1 0 (lkC (c := 0) (by omega)) rfl 10 (by decide) (va_Nw.use rfl (hK.2 _ (List.mem_of_getElem? (i := 9) rfl))) (fun _ h9 => h9) rfl dX5_count_141 ?_
                      obtain rfl := Option.some.inj h
                      exact W.iret hx hb hr (fun t ht hw => ⟨⟨_, (), rfl, rfl, hW.ret ht⟩, hS.F ht⟩) hS.2.2 dX5_count_144
                    · have h := ite_f c_18 h
                      by_cases c_19 : (p1 : Int32) = 9
                      · have h := ite_t c_19 h
                        refine lv_tableIn (off := 144) (tgt := 145) hx hb dX5_count_1 (by rw [c_19]; decide) (by rw [c_19]; decide) (by rw [c_19]; rfl) (by decide) ?_
                        refine lv_aload_n hx hb dX5_count_145 rfl (lv_at hl 0 rfl) ?_
                        refine va_get (D := G.1) (ci := 5) (v := .ref (gad G 0)) (C := RX5) (T := TX5) (N := 6) hx hb hts hiX5 hown hK.1 hW.1 154 lkT rfl 0 (by decide) (hts _ (List.mem_of_getElem? (i := 1) rfl)) (fun _ h9 => h9) rfl dX5_count_146 ?_
                        refine va_getN (D := G.1) (ci := 0) (v := .int (S0.1 (6 * 0 + 5))) (C := RX0) (T := TX0) (N := 12) hx hb hts hiX0 hown hK.1 hW.1 0 (lkC (c := 0) (by omega)) rfl 11 (by decide) (va_Nw.use rfl (hK.2 _ (List.mem_of_getElem? (i := 10) rfl))) (fun _ h9 => h9) rfl dX5_count_149 ?_
                        obtain rfl := Option.some.inj h
                        exact W.iret hx hb hr (fun t ht hw => ⟨⟨_, (), rfl, rfl, hW.ret ht⟩, hS.F ht⟩) hS.2.2 dX5_count_152
                      · have h := ite_f c_19 h
                        by_cases c_20 : (p1 : Int32) = 10
                        · have h := ite_t c_20 h
                          refine lv_tableIn (off := 152) (tgt := 153) hx hb dX5_count_1 (by rw [c_20]; decide) (by rw [c_20]; decide) (by rw [c_20]; rfl) (by decide) ?_
                          refine lv_aload_n hx hb dX5_count_153 rfl (lv_at hl 0 rfl) ?_
                          refine va_get (D := G.1) (ci := 5) (v := .ref (gad G 155)) (C := RX5) (T := TX5) (N := 6) hx hb hts hiX5 hown hK.1 hW.1 154 lkT rfl 3 (by decide) (hts _ (List.mem_of_getElem? (i := 2) rfl)) (fun _ h9 => h9) rfl dX5_count_154 ?_
                          refine va_getN (D := G.1) (ci := 2) (v := .int (S0.1 44)) (C := RX2) (T := TX2) (N := 3) hx hb hts hiX2 hown hK.1 hW.1 155 lkH rfl 2 (by decide) (va_Nw.use rfl (hK.2 _ (List.mem_of_getElem? (i := 11) rfl))) (fun _ h9 => h9) rfl dX5_count_157 ?_
                          obtain rfl := Option.some.inj h
                          exact W.iret hx hb hr (fun t ht hw => ⟨⟨_, (), rfl, rfl, hW.ret ht⟩, hS.F ht⟩) hS.2.2 dX5_count_160
                        · have h := ite_f c_20 h
                          by_cases c_21 : (p1 : Int32) = 11
                          · have h := ite_t c_21 h
                            refine lv_tableIn (off := 160) (tgt := 161) hx hb dX5_count_1 (by rw [c_21]; decide) (by rw [c_21]; decide) (by rw [c_21]; rfl) (by decide) ?_
                            refine lv_aload_n hx hb dX5_count_161 rfl (lv_at hl 0 rfl) ?_
                            refine va_get (D := G.1) (ci := 5) (v := .ref (gad G 157)) (C := RX5) (T := TX5) (N := 6) hx hb hts hiX5 hown hK.1 hW.1 154 lkT rfl 4 (by decide) (hts _ (List.mem_of_getElem? (i := 3) rfl)) (fun _ h9 => h9) rfl dX5_count_162 ?_
                            refine va_getN (D := G.1) (ci := 1) (v := .int (S0.1 45)) (C := RX1) (T := TX1) (N := 2) hx hb hts hiX1 hown hK.1 hW.1 157 lkX rfl 1 (by decide) (va_Nw.use rfl (hK.2 _ (List.mem_of_getElem? (i := 12) rfl))) (fun _ h9 => h9) rfl dX5_count_165 ?_
                            obtain rfl := Option.some.inj h
                            exact W.iret hx hb hr (fun t ht hw => ⟨⟨_, (), rfl, rfl, hW.ret ht⟩, hS.F ht⟩) hS.2.2 dX5_count_168
                          · have h := ite_f c_21 h
                            cases h
abbrev rJxf58ca_isNaN_12338 : Room := { frames := 0, cells := 0, slots := 0, locals := 0 }
set_option maxRecDepth 100000 in
set_option maxHeartbeats 8000000 in
theorem tJxf58ca_isNaN_12338 (l : Launch) (G : WG) (S0 M0 : St) (p0 : UInt32) (rr : Int32) (h : fJxf58ca_isNaN_12338 p0 = some (rr)) : CtI l yJxf58ca_isNaN_12338 wsJxf58ca_isNaN_12338 rJxf58ca_isNaN_12338 G [.float p0] S0 M0 rr S0 M0 := by
  refine va_MetF (cc := cJxf58ca_isNaN_12338) (maxL := 1) (ret := (some .boolean)) (by decide +kernel) rfl ?_
  intro p e s m args below meth cd s₁ B hml hv
  obtain ⟨hargs, hK, hW⟩ := hv
  have hx := B.exec
  have hb := B.bytes
  have hr := B.returns
  have hts := atoms_spec (ws := wsJxf58ca_isNaN_12338) B.pre
  have hown : s.vm.findClass RJxf58ca = some m.cls := findClass_of_methodNamed B.named
  have hlocks := B.notSynchronized
  have hA : ∀ q, Aw G q → Aw G q := fun _ h => h
  have hS : va_S (Aw G) s.heap s.heap [] := va_S.rf
  have he0 : entryFrame m args 1 = F0 m 0 ((lg_sl ([.float p0]) ++ List.replicate (1 - (lg_sl ([.float p0])).length) Slot.unset).toArray) [] := by rw [hargs]; exact lg_entry_eq _ _ _
  have hl := lv_entry ([.float p0]) (n := 1) (Nat.le_of_ble_eq_true rfl)
  rw [he0]
  generalize (lg_sl ([.float p0]) ++ List.replicate (1 - (lg_sl ([.float p0])).length) Slot.unset).toArray = ls at hl ⊢
  have hl : lv_has ls 1 [(0, .float p0)] := hl
  have B11 : ∀ (H : Heap) (locs : List Loc) (_ : WD G S0 M0 H) (_ : va_S (Aw G) s.heap H locs) (ls : Array Slot) (k0 : Int32) (_ : lv_has ls 1 []) (h : fJxf58ca_isNaN_12338_b11  k0 = some (rr)), WI p l e (headSpec wsJxf58ca_isNaN_12338 rJxf58ca_isNaN_12338).room s m args below meth cd G rr S0 M0 H locs (F0 m 11 ls [.int k0]) := by
    intro H locs hW hS ls k0 hl h
    unfold fJxf58ca_isNaN_12338_b11 at h
    obtain ⟨z_1, h⟩ := isz_e h
    obtain rfl := Option.some.inj h
    exact W.zret (ty := .boolean) hx hb hr (nz_1 z_1) (fun t ht hw => ⟨⟨_, (), rfl, rfl, hW.ret ht⟩, hS.F ht⟩) hS.2.2 dJxf58ca_isNaN_12338_11
  unfold fJxf58ca_isNaN_12338 at h
  refine lv_fload_n hx hb dJxf58ca_isNaN_12338_0 rfl (lv_at hl 0 rfl) ?_
  refine lv_fload_n hx hb dJxf58ca_isNaN_12338_1 rfl (lv_at hl 0 rfl) ?_
  refine lv_fcmp hx hb dJxf58ca_isNaN_12338_2 ?_
  refine lv_if_eq (tgt := 10) hx hb dJxf58ca_isNaN_12338_3 (by decide) (fun c_1 => ?_) (fun c_1 => ?_)
  · have h := ite_t c_1 h
    refine lv_iconst (v := 0) hx hb dJxf58ca_isNaN_12338_10 (by decide) ?_
    exact B11 _ _ hW hS ls 0 (lv_sub hl [] rfl) h
  · have h := ite_f c_1 h
    refine lv_iconst (v := 1) hx hb dJxf58ca_isNaN_12338_6 (by decide) ?_
    refine lv_goto (tgt := 11) hx hb dJxf58ca_isNaN_12338_7 (by decide) ?_
    exact B11 _ _ hW hS ls 1 (lv_sub hl [] rfl) h
