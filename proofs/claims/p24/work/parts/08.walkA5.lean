abbrev rX3_manyBeside : Room := { frames := 3, cells := 0, slots := 0, locals := 68 }
set_option maxRecDepth 100000 in
set_option maxHeartbeats 8000000 in
theorem tX3_manyBeside (l : Launch) (G : WG) (S0 M0 : St) (c : Nat) (hc : c < 7) (p1 : Int32) (rr : Int32) (h : f3_manyBeside S0 c p1 = some (rr)) : CtI l yX3_manyBeside wsX3_manyBeside rX3_manyBeside G [.ref (gad G (7 + c)), .int p1] S0 M0 rr S0 M0 := by
  refine Met.ofW (cc := cX3_manyBeside) (maxL := 4) (ret := (some .int)) (by decide) rfl ?_
  intro p e s m args below meth cd s₁ B hml hv
  obtain ⟨hargs, hK, hW⟩ := hv
  have hx := B.exec
  have hb := B.bytes
  have hr := B.returns
  have hts := atoms_spec (ws := wsX3_manyBeside) B.pre
  have hown : s.vm.findClass RX3 = some m.cls := findClass_of_methodNamed B.named
  have hlocks := B.notSynchronized
  have hA : ∀ q, Aw G q → Aw G q := fun _ h => h
  have hS : va_S (Aw G) s.heap s.heap [] := va_S.rf
  have he0 : entryFrame m args 4 = F0 m 0 ((lg_sl ([.ref (gad G (7 + c)), .int p1]) ++ List.replicate (4 - (lg_sl ([.ref (gad G (7 + c)), .int p1])).length) Slot.unset).toArray) [] := by rw [hargs]; exact lg_entry_eq _ _ _
  have hl := lv_entry ([.ref (gad G (7 + c)), .int p1]) (n := 4) (Nat.le_of_ble_eq_true rfl)
  rw [he0]
  generalize (lg_sl ([.ref (gad G (7 + c)), .int p1]) ++ List.replicate (4 - (lg_sl ([.ref (gad G (7 + c)), .int p1])).length) Slot.unset).toArray = ls at hl ⊢
  have hl : lv_has ls 4 [(0, .ref (gad G (7 + c))), (1, .int p1)] := hl
  have hiX3 : ∀ w ∈ u_ws RX3 TX3 5, w ∈ wsX3_manyBeside := by decide +kernel
  have B4 : ∀ (n : Nat), ∀ (H : Heap) (locs : List Loc) (_ : WD G S0 M0 H) (_ : va_S (Aw G) s.heap H locs) (ls : Array Slot) (l1 : Int32) (l2 : Int32) (l3 : Int32) (_ : lv_has ls 4 [(0, .ref (gad G (7 + c))), (1, .int l1), (2, .int l2), (3, .int l3)]) (h : f3_manyBeside_b4 S0 c l1 n l2 l3 = some (rr)), WI p l e (headSpec wsX3_manyBeside rX3_manyBeside).room s m args below meth cd G rr S0 M0 H locs (F0 m 4 ls []) := by
    intro n
    induction n with
    | zero => intro H locs hW hS ls l1 l2 l3 hl h; cases (show (none : Option (Int32)) = some _ from h)
    | succ n ih =>
      have B24 : ∀ (H : Heap) (locs : List Loc) (_ : WD G S0 M0 H) (_ : va_S (Aw G) s.heap H locs) (ls : Array Slot) (l1 : Int32) (l2 : Int32) (l3 : Int32) (_ : lv_has ls 4 [(0, .ref (gad G (7 + c))), (1, .int l1), (2, .int l2), (3, .int l3)]) (h : f3_manyBeside_b24 S0 c (f3_manyBeside_b4 S0 c l1 n) l1 l2 l3 = some (rr)), WI p l e (headSpec wsX3_manyBeside rX3_manyBeside).room s m args below meth cd G rr S0 M0 H locs (F0 m 24 ls []) := by
        intro H locs hW hS ls l1 l2 l3 hl h
        unfold f3_manyBeside_b24 at h
        refine lv_iinc (v := (l3 + 1)) (lv' := [(3, .int ((l3 + 1))), (0, .ref (gad G (7 + c))), (1, .int l1), (2, .int l2)]) hx hb dX3_manyBeside_24 hl (k := 3) rfl rfl (by decide) rfl (fun ls hl => ?_)
        refine lv_goto (tgt := 4) hx hb dX3_manyBeside_27 (by decide) ?_
        exact ih _ _ hW hS ls l1 l2 ((l3 + 1)) (lv_sub hl [1, 2, 3, 0] rfl) h
      intro H locs hW hS ls l1 l2 l3 hl h
      rw [f3_manyBeside_b4] at h
      refine lv_iload_n hx hb dX3_manyBeside_4 rfl (lv_at hl 3 rfl) ?_
      refine lv_aload_n hx hb dX3_manyBeside_5 rfl (lv_at hl 0 rfl) ?_
      refine va_get (D := G.1) (ci := 3) (v := .int (S0.1 (6 * c + 0))) (C := RX3) (T := TX3) (N := 5) hx hb hts hiX3 hown hK.1 hW.1 (7 + c) (lkP (c := c) (by omega)) rfl 4 (by decide) (hts _ (List.mem_of_getElem? (i := 1) rfl)) (fun _ h9 => h9) rfl dX3_manyBeside_6 ?_
      refine lv_icmp_ge (tgt := 30) hx hb dX3_manyBeside_9 (by decide) (fun c_1 => ?_) (fun c_1 => ?_)
      · have h := ite_t c_1 h
        refine lv_iload_n hx hb dX3_manyBeside_30 rfl (lv_at hl 2 rfl) ?_
        obtain rfl := Option.some.inj h
        exact W.iret hx hb hr (fun t ht hw => ⟨⟨_, (), rfl, rfl, hW.ret ht⟩, hS.F ht⟩) hS.2.2 dX3_manyBeside_31
      · have h := ite_f c_1 h
        refine lv_aload_n hx hb dX3_manyBeside_12 rfl (lv_at hl 0 rfl) ?_
        refine lv_iload_n hx hb dX3_manyBeside_13 rfl (lv_at hl 1 rfl) ?_
        refine lv_iload_n hx hb dX3_manyBeside_14 rfl (lv_at hl 3 rfl) ?_
        obtain ⟨r_2, e_3, h⟩ := bnd_e h
        refine kV_I (As := [.int l1, .int l3]) (rest := []) ⟨hx, hb, hml, hown, hts⟩ (tX3_areBeside l G S0 M0 c (by omega) l1 l3 r_2 e_3) (cwV 2 hts gX3_manyBeside_X3_areBeside rfl rfl rfl ⟨rfl, hdX3_areBeside⟩ ⟨Nat.le_of_ble_eq_true rfl, Nat.le_of_ble_eq_true rfl⟩) (va_recv hK.1 hW.1 (ci := 3) (q0 := (7 + c)) rfl (lkP (c := c) (by omega))) hK hW hS hA rfl hl.1 rfl (Nat.le_of_ble_eq_true rfl) dX3_manyBeside_15 ⟨Nat.zero_le _, Nat.zero_le _⟩ (fun H locs hW hS => ?_)
        refine lv_if_eq (tgt := 24) hx hb dX3_manyBeside_18 (by decide) (fun c_4 => ?_) (fun c_4 => ?_)
        · have h := ite_t c_4 h
          exact B24 _ _ hW hS ls l1 l2 l3 (lv_sub hl [0, 1, 2, 3] rfl) h
        · have h := ite_f c_4 h
          refine lv_iinc (v := (l2 + 1)) (lv' := [(2, .int ((l2 + 1))), (0, .ref (gad G (7 + c))), (1, .int l1), (3, .int l3)]) hx hb dX3_manyBeside_21 hl (k := 2) rfl rfl (by decide) rfl (fun ls hl => ?_)
          exact B24 _ _ hW hS ls l1 ((l2 + 1)) l3 (lv_sub hl [1, 2, 0, 3] rfl) h
  unfold f3_manyBeside at h
  refine lv_iconst (v := 0) hx hb dX3_manyBeside_0 (by decide) ?_
  refine lv_istore_n (lv' := [(2, .int 0), (0, .ref (gad G (7 + c))), (1, .int p1)]) hx hb dX3_manyBeside_1 rfl hl (by decide) rfl (fun ls hl => ?_)
  refine lv_iconst (v := 0) hx hb dX3_manyBeside_2 (by decide) ?_
  refine lv_istore_n (lv' := [(3, .int 0), (2, .int 0), (0, .ref (gad G (7 + c))), (1, .int p1)]) hx hb dX3_manyBeside_3 rfl hl (by decide) rfl (fun ls hl => ?_)
  exact B4 fuelN _ _ hW hS ls p1 0 0 (lv_sub hl [2, 3, 1, 0] rfl) h
abbrev rX5_orNone : Room := { frames := 0, cells := 0, slots := 0, locals := 0 }
set_option maxRecDepth 100000 in
set_option maxHeartbeats 8000000 in
theorem tX5_orNone (l : Launch) (G : WG) (S0 M0 : St) (p0 : Int32) (rr : Int32) (h : f5_orNone p0 = some (rr)) : CtI l yX5_orNone wsX5_orNone rX5_orNone G [.int p0] S0 M0 rr S0 M0 := by
  refine Met.ofW (cc := cX5_orNone) (maxL := 1) (ret := (some .int)) (by decide) rfl ?_
  intro p e s m args below meth cd s₁ B hml hv
  obtain ⟨hargs, hK, hW⟩ := hv
  have hx := B.exec
  have hb := B.bytes
  have hr := B.returns
  have hts := atoms_spec (ws := wsX5_orNone) B.pre
  have hown : s.vm.findClass RX5 = some m.cls := findClass_of_methodNamed B.named
  have hlocks := B.notSynchronized
  have hA : ∀ q, Aw G q → Aw G q := fun _ h => h
  have hS : va_S (Aw G) s.heap s.heap [] := va_S.rf
  have he0 : entryFrame m args 1 = F0 m 0 ((lg_sl ([.int p0]) ++ List.replicate (1 - (lg_sl ([.int p0])).length) Slot.unset).toArray) [] := by rw [hargs]; exact lg_entry_eq _ _ _
  have hl := lv_entry ([.int p0]) (n := 1) (Nat.le_of_ble_eq_true rfl)
  rw [he0]
  generalize (lg_sl ([.int p0]) ++ List.replicate (1 - (lg_sl ([.int p0])).length) Slot.unset).toArray = ls at hl ⊢
  have hl : lv_has ls 1 [(0, .int p0)] := hl
  have B11 : ∀ (H : Heap) (locs : List Loc) (_ : WD G S0 M0 H) (_ : va_S (Aw G) s.heap H locs) (ls : Array Slot) (k0 : Int32) (_ : lv_has ls 1 []) (h : f5_orNone_b11  k0 = some (rr)), WI p l e (headSpec wsX5_orNone rX5_orNone).room s m args below meth cd G rr S0 M0 H locs (F0 m 11 ls [.int k0]) := by
    intro H locs hW hS ls k0 hl h
    unfold f5_orNone_b11 at h
    obtain rfl := Option.some.inj h
    exact W.iret hx hb hr (fun t ht hw => ⟨⟨_, (), rfl, rfl, hW.ret ht⟩, hS.F ht⟩) hS.2.2 dX5_orNone_11
  unfold f5_orNone at h
  refine lv_iload_n hx hb dX5_orNone_0 rfl (lv_at hl 0 rfl) ?_
  refine lv_iconst (v := (-1)) hx hb dX5_orNone_1 (by decide) ?_
  refine lv_icmp_ne (tgt := 10) hx hb dX5_orNone_2 (by decide) (fun c_1 => ?_) (fun c_1 => ?_)
  · have h := ite_f c_1 h
    refine lv_iload_n hx hb dX5_orNone_10 rfl (lv_at hl 0 rfl) ?_
    exact B11 _ _ hW hS ls p0 (lv_sub hl [] rfl) h
  · have h := ite_t c_1 h
    refine lv_bipush (v := (-5)) hx hb dX5_orNone_5 (by decide) ?_
    refine lv_goto (tgt := 11) hx hb dX5_orNone_7 (by decide) ?_
    exact B11 _ _ hW hS ls ((-5)) (lv_sub hl [] rfl) h
abbrev rX5_plot : Room := { frames := 4, cells := 0, slots := 0, locals := 91 }
set_option maxRecDepth 100000 in
set_option maxHeartbeats 8000000 in
theorem tX5_plot (l : Launch) (G : WG) (S0 M0 : St) (p1 : Int32) (p2 : Int32) (p3 : Int32) (rr : Int32) (h : f5_plot S0 p1 p2 p3 = some (rr)) : CtI l yX5_plot wsX5_plot rX5_plot G [.ref (gad G 154), .int p1, .int p2, .int p3] S0 M0 rr S0 M0 := by
  refine Met.ofW (cc := cX5_plot) (maxL := 6) (ret := (some .int)) (by decide) rfl ?_
  intro p e s m args below meth cd s₁ B hml hv
  obtain ⟨hargs, hK, hW⟩ := hv
  have hx := B.exec
  have hb := B.bytes
  have hr := B.returns
  have hts := atoms_spec (ws := wsX5_plot) B.pre
  have hown : s.vm.findClass RX5 = some m.cls := findClass_of_methodNamed B.named
  have hlocks := B.notSynchronized
  have hA : ∀ q, Aw G q → Aw G q := fun _ h => h
  have hS : va_S (Aw G) s.heap s.heap [] := va_S.rf
  have he0 : entryFrame m args 6 = F0 m 0 ((lg_sl ([.ref (gad G 154), .int p1, .int p2, .int p3]) ++ List.replicate (6 - (lg_sl ([.ref (gad G 154), .int p1, .int p2, .int p3])).length) Slot.unset).toArray) [] := by rw [hargs]; exact lg_entry_eq _ _ _
  have hl := lv_entry ([.ref (gad G 154), .int p1, .int p2, .int p3]) (n := 6) (Nat.le_of_ble_eq_true rfl)
  rw [he0]
  generalize (lg_sl ([.ref (gad G 154), .int p1, .int p2, .int p3]) ++ List.replicate (6 - (lg_sl ([.ref (gad G 154), .int p1, .int p2, .int p3])).length) Slot.unset).toArray = ls at hl ⊢
  have hl : lv_has ls 6 [(0, .ref (gad G 154)), (1, .int p1), (2, .int p2), (3, .int p3)] := hl
  have hiX0 : ∀ w ∈ u_ws RX0 TX0 12, w ∈ wsX5_plot := by decide +kernel
  have hiX5 : ∀ w ∈ u_ws RX5 TX5 6, w ∈ wsX5_plot := by decide +kernel
  unfold f5_plot at h
  refine lv_iload_n hx hb dX5_plot_0 rfl (lv_at hl 1 rfl) ?_
  refine lv_iload_n hx hb dX5_plot_1 rfl (lv_at hl 2 rfl) ?_
  obtain ⟨r_1, e_2, h⟩ := bnd_e h
  refine kS_I (As := [.int p1, .int p2]) (rest := []) ⟨hx, hb, hml, hown, hts⟩ (tX5_isPoint l G S0 M0 p1 p2 r_1 e_2) (va_cwS 2 hts gX5_plot_X5_isPoint rfl rfl rfl hdX5_isPoint ⟨Nat.le_of_ble_eq_true rfl, Nat.le_of_ble_eq_true rfl⟩) hK hW hS hA rfl hl.1 rfl (Nat.le_of_ble_eq_true rfl) dX5_plot_2 ⟨Nat.zero_le _, Nat.zero_le _⟩ (fun H locs hW hS => ?_)
  refine lv_if_ne (tgt := 10) hx hb dX5_plot_5 (by decide) (fun c_3 => ?_) (fun c_3 => ?_)
  · have h := ite_f c_3 h
    refine lv_aload_n hx hb dX5_plot_10 rfl (lv_at hl 0 rfl) ?_
    refine va_get (D := G.1) (ci := 5) (v := .ref (gad G 0)) (C := RX5) (T := TX5) (N := 6) hx hb hts hiX5 hown hK.1 hW.1 154 lkT rfl 0 (by decide) (hts _ (List.mem_of_getElem? (i := 1) rfl)) (fun _ h9 => h9) rfl dX5_plot_11 ?_
    refine va_getN (D := G.1) (ci := 0) (v := .ref (gad G (7 + 0))) (C := RX0) (T := TX0) (N := 12) hx hb hts hiX0 hown hK.1 hW.1 0 (lkC (c := 0) (by omega)) rfl 0 (by decide) (va_Nw.use rfl (hK.2 _ (List.mem_of_getElem? (i := 1) rfl))) (fun _ h9 => h9) rfl dX5_plot_14 ?_
    refine lv_astore (lv' := [(4, .ref (gad G (7 + 0))), (0, .ref (gad G 154)), (1, .int p1), (2, .int p2), (3, .int p3)]) hx hb dX5_plot_17 hl (by decide) rfl (fun ls hl => ?_)
    refine lv_aload hx hb dX5_plot_19 (lv_at hl 0 rfl) ?_
    refine lv_iload_n hx hb dX5_plot_21 rfl (lv_at hl 2 rfl) ?_
    refine lv_iload_n hx hb dX5_plot_22 rfl (lv_at hl 3 rfl) ?_
    obtain ⟨r_4, e_5, h⟩ := bnd_e h
    refine kV_I (As := [.int p1, .int p2]) (rest := []) ⟨hx, hb, hml, hown, hts⟩ (tX3_find l G S0 M0 0 (by omega) p1 p2 r_4 e_5) (cwV 2 hts gX5_plot_X3_find rfl rfl rfl ⟨rfl, hdX3_find⟩ ⟨Nat.le_of_ble_eq_true rfl, Nat.le_of_ble_eq_true rfl⟩) (va_recv hK.1 hW.1 (ci := 3) (q0 := (7 + 0)) rfl (lkP (c := 0) (by omega))) hK hW hS hA rfl hl.1 rfl (Nat.le_of_ble_eq_true rfl) dX5_plot_23 ⟨Nat.zero_le _, Nat.zero_le _⟩ (fun H locs hW hS => ?_)
    refine lv_istore (lv' := [(5, .int r_4), (4, .ref (gad G (7 + 0))), (0, .ref (gad G 154)), (1, .int p1), (2, .int p2), (3, .int p3)]) hx hb dX5_plot_26 hl (by decide) rfl (fun ls hl => ?_)
    refine lv_iload_n hx hb dX5_plot_28 rfl (lv_at hl 5 rfl) ?_
    by_cases c_6 : Int32.toInt p3 < 0 ∨ 6 < Int32.toInt p3
    · have h := ite_t c_6 h
      refine lv_tableOut (tgt := 131) hx hb dX5_plot_29 c_6 (by decide) ?_
      refine lv_bipush (v := (-2)) hx hb dX5_plot_131 (by decide) ?_
      obtain rfl := Option.some.inj h
      exact W.iret hx hb hr (fun t ht hw => ⟨⟨_, (), rfl, rfl, hW.ret ht⟩, hS.F ht⟩) hS.2.2 dX5_plot_133
    · have h := ite_f c_6 h
      by_cases c_7 : (p3 : Int32) = 0
      · have h := ite_t c_7 h
        refine lv_tableIn (off := 43) (tgt := 72) hx hb dX5_plot_29 (by rw [c_7]; decide) (by rw [c_7]; decide) (by rw [c_7]; rfl) (by decide) ?_
        refine lv_aload hx hb dX5_plot_72 (lv_at hl 1 rfl) ?_
        refine lv_iload hx hb dX5_plot_74 (lv_at hl 0 rfl) ?_
        obtain ⟨r_8, e_9, h⟩ := bnd_e h
        refine kV_I (As := [.int r_4]) (rest := []) ⟨hx, hb, hml, hown, hts⟩ (tX3_ownerOf l G S0 M0 0 (by omega) r_4 r_8 e_9) (cwV 1 hts gX5_plot_X3_ownerOf rfl rfl rfl ⟨rfl, hdX3_ownerOf⟩ ⟨Nat.le_of_ble_eq_true rfl, Nat.le_of_ble_eq_true rfl⟩) (va_recv hK.1 hW.1 (ci := 3) (q0 := (7 + 0)) rfl (lkP (c := 0) (by omega))) hK hW hS hA rfl hl.1 rfl (Nat.le_of_ble_eq_true rfl) dX5_plot_76 ⟨Nat.zero_le _, Nat.zero_le _⟩ (fun H locs hW hS => ?_)
        obtain ⟨r_10, e_11, h⟩ := bnd_e h
        refine kS_I (As := [.int r_8]) (rest := []) ⟨hx, hb, hml, hown, hts⟩ (tX5_orNone l G S0 M0 r_8 r_10 e_11) (va_cwS 1 hts gX5_plot_X5_orNone rfl rfl rfl hdX5_orNone ⟨Nat.le_of_ble_eq_true rfl, Nat.le_of_ble_eq_true rfl⟩) hK hW hS hA rfl hl.1 rfl (Nat.le_of_ble_eq_true rfl) dX5_plot_79 ⟨Nat.zero_le _, Nat.zero_le _⟩ (fun H locs hW hS => ?_)
        obtain rfl := Option.some.inj h
        exact W.iret hx hb hr (fun t ht hw => ⟨⟨_, (), rfl, rfl, hW.ret ht⟩, hS.F ht⟩) hS.2.2 dX5_plot_82
      · have h := ite_f c_7 h
        by_cases c_12 : (p3 : Int32) = 1
        · have h := ite_t c_12 h
          refine lv_tableIn (off := 54) (tgt := 83) hx hb dX5_plot_29 (by rw [c_12]; decide) (by rw [c_12]; decide) (by rw [c_12]; rfl) (by decide) ?_
          refine lv_aload hx hb dX5_plot_83 (lv_at hl 1 rfl) ?_
          refine lv_iload hx hb dX5_plot_85 (lv_at hl 0 rfl) ?_
          obtain ⟨r_13, e_14, h⟩ := bnd_e h
          refine kV_I (As := [.int r_4]) (rest := []) ⟨hx, hb, hml, hown, hts⟩ (tX3_depthOf l G S0 M0 0 (by omega) r_4 r_13 e_14) (cwV 1 hts gX5_plot_X3_depthOf rfl rfl rfl ⟨rfl, hdX3_depthOf⟩ ⟨Nat.le_of_ble_eq_true rfl, Nat.le_of_ble_eq_true rfl⟩) (va_recv hK.1 hW.1 (ci := 3) (q0 := (7 + 0)) rfl (lkP (c := 0) (by omega))) hK hW hS hA rfl hl.1 rfl (Nat.le_of_ble_eq_true rfl) dX5_plot_87 ⟨Nat.zero_le _, Nat.zero_le _⟩ (fun H locs hW hS => ?_)
          obtain rfl := Option.some.inj h
          exact W.iret hx hb hr (fun t ht hw => ⟨⟨_, (), rfl, rfl, hW.ret ht⟩, hS.F ht⟩) hS.2.2 dX5_plot_90
        · have h := ite_f c_12 h
          by_cases c_15 : (p3 : Int32) = 2
          · have h := ite_t c_15 h
            refine lv_tableIn (off := 62) (tgt := 91) hx hb dX5_plot_29 (by rw [c_15]; decide) (by rw [c_15]; decide) (by rw [c_15]; rfl) (by decide) ?_
            refine lv_aload hx hb dX5_plot_91 (lv_at hl 1 rfl) ?_
            refine lv_iload hx hb dX5_plot_93 (lv_at hl 0 rfl) ?_
            obtain ⟨r_16, e_17, h⟩ := bnd_e h
            refine kV_I (As := [.int r_4]) (rest := []) ⟨hx, hb, hml, hown, hts⟩ (tX3_x0Of l G S0 M0 0 (by omega) r_4 r_16 e_17) (cwV 1 hts gX5_plot_X3_x0Of rfl rfl rfl ⟨rfl, hdX3_x0Of⟩ ⟨Nat.le_of_ble_eq_true rfl, Nat.le_of_ble_eq_true rfl⟩) (va_recv hK.1 hW.1 (ci := 3) (q0 := (7 + 0)) rfl (lkP (c := 0) (by omega))) hK hW hS hA rfl hl.1 rfl (Nat.le_of_ble_eq_true rfl) dX5_plot_95 ⟨Nat.zero_le _, Nat.zero_le _⟩ (fun H locs hW hS => ?_)
            obtain rfl := Option.some.inj h
            exact W.iret hx hb hr (fun t ht hw => ⟨⟨_, (), rfl, rfl, hW.ret ht⟩, hS.F ht⟩) hS.2.2 dX5_plot_98
          · have h := ite_f c_15 h
            by_cases c_18 : (p3 : Int32) = 3
            · have h := ite_t c_18 h
              refine lv_tableIn (off := 70) (tgt := 99) hx hb dX5_plot_29 (by rw [c_18]; decide) (by rw [c_18]; decide) (by rw [c_18]; rfl) (by decide) ?_
              refine lv_aload hx hb dX5_plot_99 (lv_at hl 1 rfl) ?_
              refine lv_iload hx hb dX5_plot_101 (lv_at hl 0 rfl) ?_
              obtain ⟨r_19, e_20, h⟩ := bnd_e h
              refine kV_I (As := [.int r_4]) (rest := []) ⟨hx, hb, hml, hown, hts⟩ (tX3_y0Of l G S0 M0 0 (by omega) r_4 r_19 e_20) (cwV 1 hts gX5_plot_X3_y0Of rfl rfl rfl ⟨rfl, hdX3_y0Of⟩ ⟨Nat.le_of_ble_eq_true rfl, Nat.le_of_ble_eq_true rfl⟩) (va_recv hK.1 hW.1 (ci := 3) (q0 := (7 + 0)) rfl (lkP (c := 0) (by omega))) hK hW hS hA rfl hl.1 rfl (Nat.le_of_ble_eq_true rfl) dX5_plot_103 ⟨Nat.zero_le _, Nat.zero_le _⟩ (fun H locs hW hS => ?_)
              obtain rfl := Option.some.inj h
              exact W.iret hx hb hr (fun t ht hw => ⟨⟨_, (), rfl, rfl, hW.ret ht⟩, hS.F ht⟩) hS.2.2 dX5_plot_106
            · have h := ite_f c_18 h
              by_cases c_21 : (p3 : Int32) = 4
              · have h := ite_t c_21 h
                refine lv_tableIn (off := 78) (tgt := 107) hx hb dX5_plot_29 (by rw [c_21]; decide) (by rw [c_21]; decide) (by rw [c_21]; rfl) (by decide) ?_
                refine lv_aload hx hb dX5_plot_107 (lv_at hl 1 rfl) ?_
                refine lv_iload hx hb dX5_plot_109 (lv_at hl 0 rfl) ?_
                obtain ⟨r_22, e_23, h⟩ := bnd_e h
                refine kV_I (As := [.int r_4]) (rest := []) ⟨hx, hb, hml, hown, hts⟩ (tX3_x1Of l G S0 M0 0 (by omega) r_4 r_22 e_23) (cwV 1 hts gX5_plot_X3_x1Of rfl rfl rfl ⟨rfl, hdX3_x1Of⟩ ⟨Nat.le_of_ble_eq_true rfl, Nat.le_of_ble_eq_true rfl⟩) (va_recv hK.1 hW.1 (ci := 3) (q0 := (7 + 0)) rfl (lkP (c := 0) (by omega))) hK hW hS hA rfl hl.1 rfl (Nat.le_of_ble_eq_true rfl) dX5_plot_111 ⟨Nat.zero_le _, Nat.zero_le _⟩ (fun H locs hW hS => ?_)
                obtain rfl := Option.some.inj h
                exact W.iret hx hb hr (fun t ht hw => ⟨⟨_, (), rfl, rfl, hW.ret ht⟩, hS.F ht⟩) hS.2.2 dX5_plot_114
              · have h := ite_f c_21 h
                by_cases c_24 : (p3 : Int32) = 5
                · have h := ite_t c_24 h
                  refine lv_tableIn (off := 86) (tgt := 115) hx hb dX5_plot_29 (by rw [c_24]; decide) (by rw [c_24]; decide) (by rw [c_24]; rfl) (by decide) ?_
                  refine lv_aload hx hb dX5_plot_115 (lv_at hl 1 rfl) ?_
                  refine lv_iload hx hb dX5_plot_117 (lv_at hl 0 rfl) ?_
                  obtain ⟨r_25, e_26, h⟩ := bnd_e h
                  refine kV_I (As := [.int r_4]) (rest := []) ⟨hx, hb, hml, hown, hts⟩ (tX3_y1Of l G S0 M0 0 (by omega) r_4 r_25 e_26) (cwV 1 hts gX5_plot_X3_y1Of rfl rfl rfl ⟨rfl, hdX3_y1Of⟩ ⟨Nat.le_of_ble_eq_true rfl, Nat.le_of_ble_eq_true rfl⟩) (va_recv hK.1 hW.1 (ci := 3) (q0 := (7 + 0)) rfl (lkP (c := 0) (by omega))) hK hW hS hA rfl hl.1 rfl (Nat.le_of_ble_eq_true rfl) dX5_plot_119 ⟨Nat.zero_le _, Nat.zero_le _⟩ (fun H locs hW hS => ?_)
                  obtain rfl := Option.some.inj h
                  exact W.iret hx hb hr (fun t ht hw => ⟨⟨_, (), rfl, rfl, hW.ret ht⟩, hS.F ht⟩) hS.2.2 dX5_plot_122
                · have h := ite_f c_24 h
                  by_cases c_27 : (p3 : Int32) = 6
                  · have h := ite_t c_27 h
                    refine lv_tableIn (off := 94) (tgt := 123) hx hb dX5_plot_29 (by rw [c_27]; decide) (by rw [c_27]; decide) (by rw [c_27]; rfl) (by decide) ?_
                    refine lv_aload hx hb dX5_plot_123 (lv_at hl 1 rfl) ?_
                    refine lv_iload hx hb dX5_plot_125 (lv_at hl 0 rfl) ?_
                    obtain ⟨r_28, e_29, h⟩ := bnd_e h
                    refine kV_I (As := [.int r_4]) (rest := []) ⟨hx, hb, hml, hown, hts⟩ (tX3_manyBeside l G S0 M0 0 (by omega) r_4 r_28 e_29) (cwV 1 hts gX5_plot_X3_manyBeside rfl rfl rfl ⟨rfl, hdX3_manyBeside⟩ ⟨Nat.le_of_ble_eq_true rfl, Nat.le_of_ble_eq_true rfl⟩) (va_recv hK.1 hW.1 (ci := 3) (q0 := (7 + 0)) rfl (lkP (c := 0) (by omega))) hK hW hS hA rfl hl.1 rfl (Nat.le_of_ble_eq_true rfl) dX5_plot_127 ⟨Nat.zero_le _, Nat.zero_le _⟩ (fun H locs hW hS => ?_)
                    obtain rfl := Option.some.inj h
                    exact W.iret hx hb hr (fun t ht hw => ⟨⟨_, (), rfl, rfl, hW.ret ht⟩, hS.F ht⟩) hS.2.2 dX5_plot_130
                  · have h := ite_f c_27 h
                    cases h
  · have h := ite_t c_3 h
    refine lv_iconst (v := (-1)) hx hb dX5_plot_8 (by decide) ?_
    obtain rfl := Option.some.inj h
    exact W.iret hx hb hr (fun t ht hw => ⟨⟨_, (), rfl, rfl, hW.ret ht⟩, hS.F ht⟩) hS.2.2 dX5_plot_9
abbrev rX3_outside : Room := { frames := 0, cells := 0, slots := 0, locals := 0 }
set_option maxRecDepth 100000 in
set_option maxHeartbeats 8000000 in
theorem tX3_outside (l : Launch) (G : WG) (S0 M0 : St) (p0 : Int32) (p1 : Int32) (p2 : Int32) (rr : Int32) (h : f3_outside p0 p1 p2 = some (rr)) : CtI l yX3_outside wsX3_outside rX3_outside G [.int p0, .int p1, .int p2] S0 M0 rr S0 M0 := by
  refine Met.ofW (cc := cX3_outside) (maxL := 3) (ret := (some .int)) (by decide) rfl ?_
  intro p e s m args below meth cd s₁ B hml hv
  obtain ⟨hargs, hK, hW⟩ := hv
  have hx := B.exec
  have hb := B.bytes
  have hr := B.returns
  have hts := atoms_spec (ws := wsX3_outside) B.pre
  have hown : s.vm.findClass RX3 = some m.cls := findClass_of_methodNamed B.named
  have hlocks := B.notSynchronized
  have hA : ∀ q, Aw G q → Aw G q := fun _ h => h
  have hS : va_S (Aw G) s.heap s.heap [] := va_S.rf
  have he0 : entryFrame m args 3 = F0 m 0 ((lg_sl ([.int p0, .int p1, .int p2]) ++ List.replicate (3 - (lg_sl ([.int p0, .int p1, .int p2])).length) Slot.unset).toArray) [] := by rw [hargs]; exact lg_entry_eq _ _ _
  have hl := lv_entry ([.int p0, .int p1, .int p2]) (n := 3) (Nat.le_of_ble_eq_true rfl)
  rw [he0]
  generalize (lg_sl ([.int p0, .int p1, .int p2]) ++ List.replicate (3 - (lg_sl ([.int p0, .int p1, .int p2])).length) Slot.unset).toArray = ls at hl ⊢
  have hl : lv_has ls 3 [(0, .int p0), (1, .int p1), (2, .int p2)] := hl
  have B21 : ∀ (H : Heap) (locs : List Loc) (_ : WD G S0 M0 H) (_ : va_S (Aw G) s.heap H locs) (ls : Array Slot) (k0 : Int32) (_ : lv_has ls 3 []) (h : f3_outside_b21  k0 = some (rr)), WI p l e (headSpec wsX3_outside rX3_outside).room s m args below meth cd G rr S0 M0 H locs (F0 m 21 ls [.int k0]) := by
    intro H locs hW hS ls k0 hl h
    unfold f3_outside_b21 at h
    obtain rfl := Option.some.inj h
    exact W.iret hx hb hr (fun t ht hw => ⟨⟨_, (), rfl, rfl, hW.ret ht⟩, hS.F ht⟩) hS.2.2 dX3_outside_21
  unfold f3_outside at h
  refine lv_iload_n hx hb dX3_outside_0 rfl (lv_at hl 0 rfl) ?_
  refine lv_iload_n hx hb dX3_outside_1 rfl (lv_at hl 1 rfl) ?_
  refine lv_icmp_ge (tgt := 9) hx hb dX3_outside_2 (by decide) (fun c_1 => ?_) (fun c_1 => ?_)
  · have h := ite_t c_1 h
    refine lv_iload_n hx hb dX3_outside_9 rfl (lv_at hl 0 rfl) ?_
    refine lv_iload_n hx hb dX3_outside_10 rfl (lv_at hl 2 rfl) ?_
    refine lv_icmp_le (tgt := 20) hx hb dX3_outside_11 (by decide) (fun c_2 => ?_) (fun c_2 => ?_)
    · have h := ite_t c_2 h
      refine lv_iconst (v := 0) hx hb dX3_outside_20 (by decide) ?_
      exact B21 _ _ hW hS ls 0 (lv_sub hl [] rfl) h
    · have h := ite_f c_2 h
      refine lv_iload_n hx hb dX3_outside_14 rfl (lv_at hl 0 rfl) ?_
      refine lv_iload_n hx hb dX3_outside_15 rfl (lv_at hl 2 rfl) ?_
      refine lv_isub hx hb dX3_outside_16 ?_
      refine lv_goto (tgt := 21) hx hb dX3_outside_17 (by decide) ?_
      exact B21 _ _ hW hS ls ((p0 - p2)) (lv_sub hl [] rfl) h
  · have h := ite_f c_1 h
    refine lv_iload_n hx hb dX3_outside_5 rfl (lv_at hl 1 rfl) ?_
    refine lv_iload_n hx hb dX3_outside_6 rfl (lv_at hl 0 rfl) ?_
    refine lv_isub hx hb dX3_outside_7 ?_
    obtain rfl := Option.some.inj h
    exact W.iret hx hb hr (fun t ht hw => ⟨⟨_, (), rfl, rfl, hW.ret ht⟩, hS.F ht⟩) hS.2.2 dX3_outside_8
abbrev rX3_distance : Room := { frames := 2, cells := 0, slots := 0, locals := 42 }
set_option maxRecDepth 100000 in
set_option maxHeartbeats 8000000 in
theorem tX3_distance (l : Launch) (G : WG) (S0 M0 : St) (c : Nat) (hc : c < 7) (p1 : Int32) (p2 : Int32) (p3 : Int32) (rr : Int32) (h : f3_distance S0 c p1 p2 p3 = some (rr)) : CtI l yX3_distance wsX3_distance rX3_distance G [.ref (gad G (7 + c)), .int p1, .int p2, .int p3] S0 M0 rr S0 M0 := by
  refine Met.ofW (cc := cX3_distance) (maxL := 4) (ret := (some .int)) (by decide) rfl ?_
  intro p e s m args below meth cd s₁ B hml hv
  obtain ⟨hargs, hK, hW⟩ := hv
  have hx := B.exec
  have hb := B.bytes
  have hr := B.returns
  have hts := atoms_spec (ws := wsX3_distance) B.pre
  have hown : s.vm.findClass RX3 = some m.cls := findClass_of_methodNamed B.named
  have hlocks := B.notSynchronized
  have hA : ∀ q, Aw G q → Aw G q := fun _ h => h
  have hS : va_S (Aw G) s.heap s.heap [] := va_S.rf
  have he0 : entryFrame m args 4 = F0 m 0 ((lg_sl ([.ref (gad G (7 + c)), .int p1, .int p2, .int p3]) ++ List.replicate (4 - (lg_sl ([.ref (gad G (7 + c)), .int p1, .int p2, .int p3])).length) Slot.unset).toArray) [] := by rw [hargs]; exact lg_entry_eq _ _ _
  have hl := lv_entry ([.ref (gad G (7 + c)), .int p1, .int p2, .int p3]) (n := 4) (Nat.le_of_ble_eq_true rfl)
  rw [he0]
  generalize (lg_sl ([.ref (gad G (7 + c)), .int p1, .int p2, .int p3]) ++ List.replicate (4 - (lg_sl ([.ref (gad G (7 + c)), .int p1, .int p2, .int p3])).length) Slot.unset).toArray = ls at hl ⊢
  have hl : lv_has ls 4 [(0, .ref (gad G (7 + c))), (1, .int p1), (2, .int p2), (3, .int p3)] := hl
  unfold f3_distance at h
  refine lv_iload_n hx hb dX3_distance_0 rfl (lv_at hl 2 rfl) ?_
  refine lv_aload_n hx hb dX3_distance_1 rfl (lv_at hl 0 rfl) ?_
  refine lv_iload_n hx hb dX3_distance_2 rfl (lv_at hl 1 rfl) ?_
  obtain ⟨r_1, e_2, h⟩ := bnd_e h
  refine kV_I (As := [.int p1]) (rest := [.int p2]) ⟨hx, hb, hml, hown, hts⟩ (tX3_x0Of l G S0 M0 c (by omega) p1 r_1 e_2) (cwV 1 hts gX3_distance_X3_x0Of rfl rfl rfl ⟨rfl, hdX3_x0Of⟩ ⟨Nat.le_of_ble_eq_true rfl, Nat.le_of_ble_eq_true rfl⟩) (va_recv hK.1 hW.1 (ci := 3) (q0 := (7 + c)) rfl (lkP (c := c) (by omega))) hK hW hS hA rfl hl.1 rfl (Nat.le_of_ble_eq_true rfl) dX3_distance_3 ⟨Nat.zero_le _, Nat.zero_le _⟩ (fun H locs hW hS => ?_)
  refine lv_aload_n hx hb dX3_distance_6 rfl (lv_at hl 0 rfl) ?_
  refine lv_iload_n hx hb dX3_distance_7 rfl (lv_at hl 1 rfl) ?_
  obtain ⟨r_3, e_4, h⟩ := bnd_e h
  refine kV_I (As := [.int p1]) (rest := [.int r_1, .int p2]) ⟨hx, hb, hml, hown, hts⟩ (tX3_x1Of l G S0 M0 c (by omega) p1 r_3 e_4) (cwV 1 hts gX3_distance_X3_x1Of rfl rfl rfl ⟨rfl, hdX3_x1Of⟩ ⟨Nat.le_of_ble_eq_true rfl, Nat.le_of_ble_eq_true rfl⟩) (va_recv hK.1 hW.1 (ci := 3) (q0 := (7 + c)) rfl (lkP (c := c) (by omega))) hK hW hS hA rfl hl.1 rfl (Nat.le_of_ble_eq_true rfl) dX3_distance_8 ⟨Nat.zero_le _, Nat.zero_le _⟩ (fun H locs hW hS => ?_)
  obtain ⟨r_5, e_6, h⟩ := bnd_e h
  refine kS_I (As := [.int p2, .int r_1, .int r_3]) (rest := []) ⟨hx, hb, hml, hown, hts⟩ (tX3_outside l G S0 M0 p2 r_1 r_3 r_5 e_6) (va_cwS 3 hts gX3_distance_X3_outside rfl rfl rfl hdX3_outside ⟨Nat.le_of_ble_eq_true rfl, Nat.le_of_ble_eq_true rfl⟩) hK hW hS hA rfl hl.1 rfl (Nat.le_of_ble_eq_true rfl) dX3_distance_11 ⟨Nat.zero_le _, Nat.zero_le _⟩ (fun H locs hW hS => ?_)
  refine lv_iload_n hx hb dX3_distance_14 rfl (lv_at hl 3 rfl) ?_
  refine lv_aload_n hx hb dX3_distance_15 rfl (lv_at hl 0 rfl) ?_
  refine lv_iload_n hx hb dX3_distance_16 rfl (lv_at hl 1 rfl) ?_
  obtain ⟨r_7, e_8, h⟩ := bnd_e h
  refine kV_I (As := [.int p1]) (rest := [.int p3, .int r_5]) ⟨hx, hb, hml, hown, hts⟩ (tX3_y0Of l G S0 M0 c (by omega) p1 r_7 e_8) (cwV 1 hts gX3_distance_X3_y0Of rfl rfl rfl ⟨rfl, hdX3_y0Of⟩ ⟨Nat.le_of_ble_eq_true rfl, Nat.le_of_ble_eq_true rfl⟩) (va_recv hK.1 hW.1 (ci := 3) (q0 := (7 + c)) rfl (lkP (c := c) (by omega))) hK hW hS hA rfl hl.1 rfl (Nat.le_of_ble_eq_true rfl) dX3_distance_17 ⟨Nat.zero_le _, Nat.zero_le _⟩ (fun H locs hW hS => ?_)
  refine lv_aload_n hx hb dX3_distance_20 rfl (lv_at hl 0 rfl) ?_
  refine lv_iload_n hx hb dX3_distance_21 rfl (lv_at hl 1 rfl) ?_
  obtain ⟨r_9, e_10, h⟩ := bnd_e h
  refine kV_I (As := [.int p1]) (rest := [.int r_7, .int p3, .int r_5]) ⟨hx, hb, hml, hown, hts⟩ (tX3_y1Of l G S0 M0 c (by omega) p1 r_9 e_10) (cwV 1 hts gX3_distance_X3_y1Of rfl rfl rfl ⟨rfl, hdX3_y1Of⟩ ⟨Nat.le_of_ble_eq_true rfl, Nat.le_of_ble_eq_true rfl⟩) (va_recv hK.1 hW.1 (ci := 3) (q0 := (7 + c)) rfl (lkP (c := c) (by omega))) hK hW hS hA rfl hl.1 rfl (Nat.le_of_ble_eq_true rfl) dX3_distance_22 ⟨Nat.zero_le _, Nat.zero_le _⟩ (fun H locs hW hS => ?_)
  obtain ⟨r_11, e_12, h⟩ := bnd_e h
  refine kS_I (As := [.int p3, .int r_7, .int r_9]) (rest := [.int r_5]) ⟨hx, hb, hml, hown, hts⟩ (tX3_outside l G S0 M0 p3 r_7 r_9 r_11 e_12) (va_cwS 3 hts gX3_distance_X3_outside rfl rfl rfl hdX3_outside ⟨Nat.le_of_ble_eq_true rfl, Nat.le_of_ble_eq_true rfl⟩) hK hW hS hA rfl hl.1 rfl (Nat.le_of_ble_eq_true rfl) dX3_distance_25 ⟨Nat.zero_le _, Nat.zero_le _⟩ (fun H locs hW hS => ?_)
  refine lv_iadd hx hb dX3_distance_28 ?_
  obtain rfl := Option.some.inj h
  exact W.iret hx hb hr (fun t ht hw => ⟨⟨_, (), rfl, rfl, hW.ret ht⟩, hS.F ht⟩) hS.2.2 dX3_distance_29
abbrev rX3_isBetterStep : Room := { frames := 3, cells := 0, slots := 0, locals := 65 }
set_option maxRecDepth 100000 in
set_option maxHeartbeats 8000000 in
theorem tX3_isBetterStep (l : Launch) (G : WG) (S0 M0 : St) (c : Nat) (hc : c < 7) (p1 : Int32) (p2 : Int32) (p3 : Int32) (p4 : Int32) (rr : Int32) (h : f3_isBetterStep S0 c p1 p2 p3 p4 = some (rr)) : CtI l yX3_isBetterStep wsX3_isBetterStep rX3_isBetterStep G [.ref (gad G (7 + c)), .int p1, .int p2, .int p3, .int p4] S0 M0 rr S0 M0 := by
  refine Met.ofW (cc := cX3_isBetterStep) (maxL := 7) (ret := (some .boolean)) (by decide) rfl ?_
  intro p e s m args below meth cd s₁ B hml hv
  obtain ⟨hargs, hK, hW⟩ := hv
  have hx := B.exec
  have hb := B.bytes
  have hr := B.returns
  have hts := atoms_spec (ws := wsX3_isBetterStep) B.pre
  have hown : s.vm.findClass RX3 = some m.cls := findClass_of_methodNamed B.named
  have hlocks := B.notSynchronized
  have hA : ∀ q, Aw G q → Aw G q := fun _ h => h
  have hS : va_S (Aw G) s.heap s.heap [] := va_S.rf
  have he0 : entryFrame m args 7 = F0 m 0 ((lg_sl ([.ref (gad G (7 + c)), .int p1, .int p2, .int p3, .int p4]) ++ List.replicate (7 - (lg_sl ([.ref (gad G (7 + c)), .int p1, .int p2, .int p3, .int p4])).length) Slot.unset).toArray) [] := by rw [hargs]; exact lg_entry_eq _ _ _
  have hl := lv_entry ([.ref (gad G (7 + c)), .int p1, .int p2, .int p3, .int p4]) (n := 7) (Nat.le_of_ble_eq_true rfl)
  rw [he0]
  generalize (lg_sl ([.ref (gad G (7 + c)), .int p1, .int p2, .int p3, .int p4]) ++ List.replicate (7 - (lg_sl ([.ref (gad G (7 + c)), .int p1, .int p2, .int p3, .int p4])).length) Slot.unset).toArray = ls at hl ⊢
  have hl : lv_has ls 7 [(0, .ref (gad G (7 + c))), (1, .int p1), (2, .int p2), (3, .int p3), (4, .int p4)] := hl
  have B48 : ∀ (H : Heap) (locs : List Loc) (_ : WD G S0 M0 H) (_ : va_S (Aw G) s.heap H locs) (ls : Array Slot) (k0 : Int32) (_ : lv_has ls 7 []) (h : f3_isBetterStep_b48 S0 c k0 = some (rr)), WI p l e (headSpec wsX3_isBetterStep rX3_isBetterStep).room s m args below meth cd G rr S0 M0 H locs (F0 m 48 ls [.int k0]) := by
    intro H locs hW hS ls k0 hl h
    unfold f3_isBetterStep_b48 at h
    obtain ⟨z_1, h⟩ := isz_e h
    obtain rfl := Option.some.inj h
    exact W.zret (ty := .boolean) hx hb hr (nz_1 z_1) (fun t ht hw => ⟨⟨_, (), rfl, rfl, hW.ret ht⟩, hS.F ht⟩) hS.2.2 dX3_isBetterStep_48
  unfold f3_isBetterStep at h
  refine lv_aload_n hx hb dX3_isBetterStep_0 rfl (lv_at hl 0 rfl) ?_
  refine lv_iload_n hx hb dX3_isBetterStep_1 rfl (lv_at hl 1 rfl) ?_
  refine lv_iload_n hx hb dX3_isBetterStep_2 rfl (lv_at hl 3 rfl) ?_
  refine lv_iload hx hb dX3_isBetterStep_3 (lv_at hl 4 rfl) ?_
  obtain ⟨r_1, e_2, h⟩ := bnd_e h
  refine kV_I (As := [.int p1, .int p3, .int p4]) (rest := []) ⟨hx, hb, hml, hown, hts⟩ (tX3_distance l G S0 M0 c (by omega) p1 p3 p4 r_1 e_2) (cwV 3 hts gX3_isBetterStep_X3_distance rfl rfl rfl ⟨rfl, hdX3_distance⟩ ⟨Nat.le_of_ble_eq_true rfl, Nat.le_of_ble_eq_true rfl⟩) (va_recv hK.1 hW.1 (ci := 3) (q0 := (7 + c)) rfl (lkP (c := c) (by omega))) hK hW hS hA rfl hl.1 rfl (Nat.le_of_ble_eq_true rfl) dX3_isBetterStep_5 ⟨Nat.zero_le _, Nat.zero_le _⟩ (fun H locs hW hS => ?_)
  refine lv_istore (lv' := [(5, .int r_1), (0, .ref (gad G (7 + c))), (1, .int p1), (2, .int p2), (3, .int p3), (4, .int p4)]) hx hb dX3_isBetterStep_8 hl (by decide) rfl (fun ls hl => ?_)
  refine lv_aload_n hx hb dX3_isBetterStep_10 rfl (lv_at hl 1 rfl) ?_
  refine lv_iload_n hx hb dX3_isBetterStep_11 rfl (lv_at hl 3 rfl) ?_
  refine lv_iload_n hx hb dX3_isBetterStep_12 rfl (lv_at hl 4 rfl) ?_
  refine lv_iload hx hb dX3_isBetterStep_13 (lv_at hl 5 rfl) ?_
  obtain ⟨r_3, e_4, h⟩ := bnd_e h
  refine kV_I (As := [.int p2, .int p3, .int p4]) (rest := []) ⟨hx, hb, hml, hown, hts⟩ (tX3_distance l G S0 M0 c (by omega) p2 p3 p4 r_3 e_4) (cwV 3 hts gX3_isBetterStep_X3_distance rfl rfl rfl ⟨rfl, hdX3_distance⟩ ⟨Nat.le_of_ble_eq_true rfl, Nat.le_of_ble_eq_true rfl⟩) (va_recv hK.1 hW.1 (ci := 3) (q0 := (7 + c)) rfl (lkP (c := c) (by omega))) hK hW hS hA rfl hl.1 rfl (Nat.le_of_ble_eq_true rfl) dX3_isBetterStep_15 ⟨Nat.zero_le _, Nat.zero_le _⟩ (fun H locs hW hS => ?_)
  refine lv_istore (lv' := [(6, .int r_3), (5, .int r_1), (0, .ref (gad G (7 + c))), (1, .int p1), (2, .int p2), (3, .int p3), (4, .int p4)]) hx hb dX3_isBetterStep_18 hl (by decide) rfl (fun ls hl => ?_)
  refine lv_iload hx hb dX3_isBetterStep_20 (lv_at hl 1 rfl) ?_
  refine lv_iload hx hb dX3_isBetterStep_22 (lv_at hl 0 rfl) ?_
  refine lv_icmp_eq (tgt := 42) hx hb dX3_isBetterStep_24 (by decide) (fun c_5 => ?_) (fun c_5 => ?_)
  · have h := ite_t c_5 h
    refine lv_aload_n hx hb dX3_isBetterStep_42 rfl (lv_at hl 2 rfl) ?_
    refine lv_iload_n hx hb dX3_isBetterStep_43 rfl (lv_at hl 3 rfl) ?_
    refine lv_iload_n hx hb dX3_isBetterStep_44 rfl (lv_at hl 4 rfl) ?_
    obtain ⟨r_6, e_7, h⟩ := bnd_e h
    refine kV_I (As := [.int p1, .int p2]) (rest := []) ⟨hx, hb, hml, hown, hts⟩ (tX3_isCornerLower l G S0 M0 c (by omega) p1 p2 r_6 e_7) (cwV 2 hts gX3_isBetterStep_X3_isCornerLower rfl rfl rfl ⟨rfl, hdX3_isCornerLower⟩ ⟨Nat.le_of_ble_eq_true rfl, Nat.le_of_ble_eq_true rfl⟩) (va_recv hK.1 hW.1 (ci := 3) (q0 := (7 + c)) rfl (lkP (c := c) (by omega))) hK hW hS hA rfl hl.1 rfl (Nat.le_of_ble_eq_true rfl) dX3_isBetterStep_45 ⟨Nat.zero_le _, Nat.zero_le _⟩ (fun H locs hW hS => ?_)
    exact B48 _ _ hW hS ls r_6 (lv_sub hl [] rfl) h
  · have h := ite_f c_5 h
    refine lv_iload hx hb dX3_isBetterStep_27 (lv_at hl 1 rfl) ?_
    refine lv_iload hx hb dX3_isBetterStep_29 (lv_at hl 0 rfl) ?_
    refine lv_icmp_ge (tgt := 38) hx hb dX3_isBetterStep_31 (by decide) (fun c_8 => ?_) (fun c_8 => ?_)
    · have h := ite_t c_8 h
      refine lv_iconst (v := 0) hx hb dX3_isBetterStep_38 (by decide) ?_
      refine lv_goto (tgt := 48) hx hb dX3_isBetterStep_39 (by decide) ?_
      exact B48 _ _ hW hS ls 0 (lv_sub hl [] rfl) h
    · have h := ite_f c_8 h
      refine lv_iconst (v := 1) hx hb dX3_isBetterStep_34 (by decide) ?_
      refine lv_goto (tgt := 48) hx hb dX3_isBetterStep_35 (by decide) ?_
      exact B48 _ _ hW hS ls 1 (lv_sub hl [] rfl) h
abbrev rX3_nextToward : Room := { frames := 4, cells := 0, slots := 0, locals := 91 }
set_option maxRecDepth 100000 in
set_option maxHeartbeats 8000000 in
theorem tX3_nextToward (l : Launch) (G : WG) (S0 M0 : St) (c : Nat) (hc : c < 7) (p1 : Int32) (p2 : Int32) (p3 : Int32) (rr : Int32) (h : f3_nextToward S0 c p1 p2 p3 = some (rr)) : CtI l yX3_nextToward wsX3_nextToward rX3_nextToward G [.ref (gad G (7 + c)), .int p1, .int p2, .int p3] S0 M0 rr S0 M0 := by
  refine Met.ofW (cc := cX3_nextToward) (maxL := 6) (ret := (some .int)) (by decide) rfl ?_
  intro p e s m args below meth cd s₁ B hml hv
  obtain ⟨hargs, hK, hW⟩ := hv
  have hx := B.exec
  have hb := B.bytes
  have hr := B.returns
  have hts := atoms_spec (ws := wsX3_nextToward) B.pre
  have hown : s.vm.findClass RX3 = some m.cls := findClass_of_methodNamed B.named
  have hlocks := B.notSynchronized
  have hA : ∀ q, Aw G q → Aw G q := fun _ h => h
  have hS : va_S (Aw G) s.heap s.heap [] := va_S.rf
  have he0 : entryFrame m args 6 = F0 m 0 ((lg_sl ([.ref (gad G (7 + c)), .int p1, .int p2, .int p3]) ++ List.replicate (6 - (lg_sl ([.ref (gad G (7 + c)), .int p1, .int p2, .int p3])).length) Slot.unset).toArray) [] := by rw [hargs]; exact lg_entry_eq _ _ _
  have hl := lv_entry ([.ref (gad G (7 + c)), .int p1, .int p2, .int p3]) (n := 6) (Nat.le_of_ble_eq_true rfl)
  rw [he0]
  generalize (lg_sl ([.ref (gad G (7 + c)), .int p1, .int p2, .int p3]) ++ List.replicate (6 - (lg_sl ([.ref (gad G (7 + c)), .int p1, .int p2, .int p3])).length) Slot.unset).toArray = ls at hl ⊢
  have hl : lv_has ls 6 [(0, .ref (gad G (7 + c))), (1, .int p1), (2, .int p2), (3, .int p3)] := hl
  have hiX3 : ∀ w ∈ u_ws RX3 TX3 5, w ∈ wsX3_nextToward := by decide +kernel
  have B6 : ∀ (n : Nat), ∀ (H : Heap) (locs : List Loc) (_ : WD G S0 M0 H) (_ : va_S (Aw G) s.heap H locs) (ls : Array Slot) (l1 : Int32) (l2 : Int32) (l3 : Int32) (l4 : Int32) (l5 : Int32) (_ : lv_has ls 6 [(0, .ref (gad G (7 + c))), (1, .int l1), (2, .int l2), (3, .int l3), (4, .int l4), (5, .int l5)]) (h : f3_nextToward_b6 S0 c l1 l2 l3 n l4 l5 = some (rr)), WI p l e (headSpec wsX3_nextToward rX3_nextToward).room s m args below meth cd G rr S0 M0 H locs (F0 m 6 ls []) := by
    intro n
    induction n with
    | zero => intro H locs hW hS ls l1 l2 l3 l4 l5 hl h; cases (show (none : Option (Int32)) = some _ from h)
    | succ n ih =>
      have B48 : ∀ (H : Heap) (locs : List Loc) (_ : WD G S0 M0 H) (_ : va_S (Aw G) s.heap H locs) (ls : Array Slot) (l1 : Int32) (l2 : Int32) (l3 : Int32) (l4 : Int32) (l5 : Int32) (_ : lv_has ls 6 [(0, .ref (gad G (7 + c))), (1, .int l1), (2, .int l2), (3, .int l3), (4, .int l4), (5, .int l5)]) (h : f3_nextToward_b48 S0 c (f3_nextToward_b6 S0 c l1 l2 l3 n) l1 l2 l3 l4 l5 = some (rr)), WI p l e (headSpec wsX3_nextToward rX3_nextToward).room s m args below meth cd G rr S0 M0 H locs (F0 m 48 ls []) := by
        intro H locs hW hS ls l1 l2 l3 l4 l5 hl h
        unfold f3_nextToward_b48 at h
        refine lv_iinc (v := (l5 + 1)) (lv' := [(5, .int ((l5 + 1))), (0, .ref (gad G (7 + c))), (1, .int l1), (2, .int l2), (3, .int l3), (4, .int l4)]) hx hb dX3_nextToward_48 hl (k := 5) rfl rfl (by decide) rfl (fun ls hl => ?_)
        refine lv_goto (tgt := 6) hx hb dX3_nextToward_51 (by decide) ?_
        exact ih _ _ hW hS ls l1 l2 l3 l4 ((l5 + 1)) (lv_sub hl [1, 2, 3, 4, 5, 0] rfl) h
      have B44 : ∀ (H : Heap) (locs : List Loc) (_ : WD G S0 M0 H) (_ : va_S (Aw G) s.heap H locs) (ls : Array Slot) (l1 : Int32) (l2 : Int32) (l3 : Int32) (l5 : Int32) (_ : lv_has ls 6 [(0, .ref (gad G (7 + c))), (1, .int l1), (2, .int l2), (3, .int l3), (5, .int l5)]) (h : f3_nextToward_b44 S0 c (f3_nextToward_b6 S0 c l1 l2 l3 n) l1 l2 l3 l5 = some (rr)), WI p l e (headSpec wsX3_nextToward rX3_nextToward).room s m args below meth cd G rr S0 M0 H locs (F0 m 44 ls []) := by
        intro H locs hW hS ls l1 l2 l3 l5 hl h
        unfold f3_nextToward_b44 at h
        refine lv_iload hx hb dX3_nextToward_44 (lv_at hl 4 rfl) ?_
        refine lv_istore (lv' := [(4, .int l5), (0, .ref (gad G (7 + c))), (1, .int l1), (2, .int l2), (3, .int l3), (5, .int l5)]) hx hb dX3_nextToward_46 hl (by decide) rfl (fun ls hl => ?_)
        exact B48 _ _ hW hS ls l1 l2 l3 l5 l5 (lv_sub hl [1, 2, 3, 4, 0, 5] rfl) h
      intro H locs hW hS ls l1 l2 l3 l4 l5 hl h
      rw [f3_nextToward_b6] at h
      refine lv_iload hx hb dX3_nextToward_6 (lv_at hl 5 rfl) ?_
      refine lv_aload_n hx hb dX3_nextToward_8 rfl (lv_at hl 0 rfl) ?_
      refine va_get (D := G.1) (ci := 3) (v := .int (S0.1 (6 * c + 0))) (C := RX3) (T := TX3) (N := 5) hx hb hts hiX3 hown hK.1 hW.1 (7 + c) (lkP (c := c) (by omega)) rfl 4 (by decide) (hts _ (List.mem_of_getElem? (i := 1) rfl)) (fun _ h9 => h9) rfl dX3_nextToward_9 ?_
      refine lv_icmp_ge (tgt := 54) hx hb dX3_nextToward_12 (by decide) (fun c_1 => ?_) (fun c_1 => ?_)
      · have h := ite_t c_1 h
        refine lv_iload hx hb dX3_nextToward_54 (lv_at hl 4 rfl) ?_
        obtain rfl := Option.some.inj h
        exact W.iret hx hb hr (fun t ht hw => ⟨⟨_, (), rfl, rfl, hW.ret ht⟩, hS.F ht⟩) hS.2.2 dX3_nextToward_56
      · have h := ite_f c_1 h
        refine lv_aload_n hx hb dX3_nextToward_15 rfl (lv_at hl 0 rfl) ?_
        refine lv_iload_n hx hb dX3_nextToward_16 rfl (lv_at hl 1 rfl) ?_
        refine lv_iload hx hb dX3_nextToward_17 (lv_at hl 5 rfl) ?_
        obtain ⟨r_2, e_3, h⟩ := bnd_e h
        refine kV_I (As := [.int l1, .int l5]) (rest := []) ⟨hx, hb, hml, hown, hts⟩ (tX3_areBeside l G S0 M0 c (by omega) l1 l5 r_2 e_3) (cwV 2 hts gX3_nextToward_X3_areBeside rfl rfl rfl ⟨rfl, hdX3_areBeside⟩ ⟨Nat.le_of_ble_eq_true rfl, Nat.le_of_ble_eq_true rfl⟩) (va_recv hK.1 hW.1 (ci := 3) (q0 := (7 + c)) rfl (lkP (c := c) (by omega))) hK hW hS hA rfl hl.1 rfl (Nat.le_of_ble_eq_true rfl) dX3_nextToward_19 ⟨Nat.zero_le _, Nat.zero_le _⟩ (fun H locs hW hS => ?_)
        refine lv_if_eq (tgt := 48) hx hb dX3_nextToward_22 (by decide) (fun c_4 => ?_) (fun c_4 => ?_)
        · have h := ite_t c_4 h
          exact B48 _ _ hW hS ls l1 l2 l3 l4 l5 (lv_sub hl [0, 1, 2, 3, 4, 5] rfl) h
        · have h := ite_f c_4 h
          refine lv_iload hx hb dX3_nextToward_25 (lv_at hl 4 rfl) ?_
          refine lv_iconst (v := (-1)) hx hb dX3_nextToward_27 (by decide) ?_
          refine lv_icmp_eq (tgt := 44) hx hb dX3_nextToward_28 (by decide) (fun c_5 => ?_) (fun c_5 => ?_)
          · have h := ite_t c_5 h
            exact B44 _ _ hW hS ls l1 l2 l3 l5 (lv_sub hl [0, 1, 2, 3, 5] rfl) h
          · have h := ite_f c_5 h
            refine lv_aload_n hx hb dX3_nextToward_31 rfl (lv_at hl 0 rfl) ?_
            refine lv_iload hx hb dX3_nextToward_32 (lv_at hl 5 rfl) ?_
            refine lv_iload hx hb dX3_nextToward_34 (lv_at hl 4 rfl) ?_
            refine lv_iload_n hx hb dX3_nextToward_36 rfl (lv_at hl 2 rfl) ?_
            refine lv_iload_n hx hb dX3_nextToward_37 rfl (lv_at hl 3 rfl) ?_
            obtain ⟨r_6, e_7, h⟩ := bnd_e h
            refine kV_I (As := [.int l5, .int l4, .int l2, .int l3]) (rest := []) ⟨hx, hb, hml, hown, hts⟩ (tX3_isBetterStep l G S0 M0 c (by omega) l5 l4 l2 l3 r_6 e_7) (cwV 4 hts gX3_nextToward_X3_isBetterStep rfl rfl rfl ⟨rfl, hdX3_isBetterStep⟩ ⟨Nat.le_of_ble_eq_true rfl, Nat.le_of_ble_eq_true rfl⟩) (va_recv hK.1 hW.1 (ci := 3) (q0 := (7 + c)) rfl (lkP (c := c) (by omega))) hK hW hS hA rfl hl.1 rfl (Nat.le_of_ble_eq_true rfl) dX3_nextToward_38 ⟨Nat.zero_le _, Nat.zero_le _⟩ (fun H locs hW hS => ?_)
            refine lv_if_eq (tgt := 48) hx hb dX3_nextToward_41 (by decide) (fun c_8 => ?_) (fun c_8 => ?_)
            · have h := ite_t c_8 h
              exact B48 _ _ hW hS ls l1 l2 l3 l4 l5 (lv_sub hl [0, 1, 2, 3, 4, 5] rfl) h
            · have h := ite_f c_8 h
              exact B44 _ _ hW hS ls l1 l2 l3 l5 (lv_sub hl [0, 1, 2, 3, 5] rfl) h
  unfold f3_nextToward at h
  refine lv_iconst (v := (-1)) hx hb dX3_nextToward_0 (by decide) ?_
  refine lv_istore (lv' := [(4, .int ((-1))), (0, .ref (gad G (7 + c))), (1, .int p1), (2, .int p2), (3, .int p3)]) hx hb dX3_nextToward_1 hl (by decide) rfl (fun ls hl => ?_)
  refine lv_iconst (v := 0) hx hb dX3_nextToward_3 (by decide) ?_
  refine lv_istore (lv' := [(5, .int 0), (4, .int ((-1))), (0, .ref (gad G (7 + c))), (1, .int p1), (2, .int p2), (3, .int p3)]) hx hb dX3_nextToward_4 hl (by decide) rfl (fun ls hl => ?_)
  exact B6 fuelN _ _ hW hS ls p1 p2 p3 ((-1)) 0 (lv_sub hl [2, 3, 4, 5, 1, 0] rfl) h
abbrev rX0_plotOnWay : Room := { frames := 5, cells := 0, slots := 0, locals := 116 }
set_option maxRecDepth 100000 in
set_option maxHeartbeats 8000000 in
theorem tX0_plotOnWay (l : Launch) (G : WG) (S0 M0 : St) (c : Nat) (hc : c < 7) (p1 : Int32) (p2 : Int32) (p3 : Int32) (p4 : Int32) (rr : Int32) (h : f0_plotOnWay S0 c p1 p2 p3 p4 = some (rr)) : CtI l yX0_plotOnWay wsX0_plotOnWay rX0_plotOnWay G [.ref (gad G c), .int p1, .int p2, .int p3, .int p4] S0 M0 rr S0 M0 := by
  refine Met.ofW (cc := cX0_plotOnWay) (maxL := 7) (ret := (some .int)) (by decide) rfl ?_
  intro p e s m args below meth cd s₁ B hml hv
  obtain ⟨hargs, hK, hW⟩ := hv
  have hx := B.exec
  have hb := B.bytes
  have hr := B.returns
  have hts := atoms_spec (ws := wsX0_plotOnWay) B.pre
  have hown : s.vm.findClass RX0 = some m.cls := findClass_of_methodNamed B.named
  have hlocks := B.notSynchronized
  have hA : ∀ q, Aw G q → Aw G q := fun _ h => h
  have hS : va_S (Aw G) s.heap s.heap [] := va_S.rf
  have he0 : entryFrame m args 7 = F0 m 0 ((lg_sl ([.ref (gad G c), .int p1, .int p2, .int p3, .int p4]) ++ List.replicate (7 - (lg_sl ([.ref (gad G c), .int p1, .int p2, .int p3, .int p4])).length) Slot.unset).toArray) [] := by rw [hargs]; exact lg_entry_eq _ _ _
  have hl := lv_entry ([.ref (gad G c), .int p1, .int p2, .int p3, .int p4]) (n := 7) (Nat.le_of_ble_eq_true rfl)
  rw [he0]
  generalize (lg_sl ([.ref (gad G c), .int p1, .int p2, .int p3, .int p4]) ++ List.replicate (7 - (lg_sl ([.ref (gad G c), .int p1, .int p2, .int p3, .int p4])).length) Slot.unset).toArray = ls at hl ⊢
  have hl : lv_has ls 7 [(0, .ref (gad G c)), (1, .int p1), (2, .int p2), (3, .int p3), (4, .int p4)] := hl
  have hiX0 : ∀ w ∈ u_ws RX0 TX0 12, w ∈ wsX0_plotOnWay := by decide +kernel
  have B65 : ∀ (H : Heap) (locs : List Loc) (_ : WD G S0 M0 H) (_ : va_S (Aw G) s.heap H locs) (ls : Array Slot) (_ : lv_has ls 7 []) (h : f0_plotOnWay_b65 S0 c  = some (rr)), WI p l e (headSpec wsX0_plotOnWay rX0_plotOnWay).room s m args below meth cd G rr S0 M0 H locs (F0 m 65 ls []) := by
    intro H locs hW hS ls hl h
    unfold f0_plotOnWay_b65 at h
    refine lv_iconst (v := (-1)) hx hb dX0_plotOnWay_65 (by decide) ?_
    obtain rfl := Option.some.inj h
    exact W.iret hx hb hr (fun t ht hw => ⟨⟨_, (), rfl, rfl, hW.ret ht⟩, hS.F ht⟩) hS.2.2 dX0_plotOnWay_66
  have B38 : ∀ (n : Nat), ∀ (H : Heap) (locs : List Loc) (_ : WD G S0 M0 H) (_ : va_S (Aw G) s.heap H locs) (ls : Array Slot) (l2 : Int32) (l3 : Int32) (l4 : Int32) (l5 : Int32) (l6 : Int32) (_ : lv_has ls 7 [(0, .ref (gad G c)), (2, .int l2), (3, .int l3), (4, .int l4), (5, .int l5), (6, .int l6)]) (h : f0_plotOnWay_b38 S0 c l2 l3 l4 n l5 l6 = some (rr)), WI p l e (headSpec wsX0_plotOnWay rX0_plotOnWay).room s m args below meth cd G rr S0 M0 H locs (F0 m 38 ls []) := by
    intro n
    induction n with
    | zero => intro H locs hW hS ls l2 l3 l4 l5 l6 hl h; cases (show (none : Option (Int32)) = some _ from h)
    | succ n ih =>
      intro H locs hW hS ls l2 l3 l4 l5 l6 hl h
      rw [f0_plotOnWay_b38] at h
      refine lv_iload hx hb dX0_plotOnWay_38 (lv_at hl 5 rfl) ?_
      refine lv_iload hx hb dX0_plotOnWay_40 (lv_at hl 3 rfl) ?_
      refine lv_icmp_ge (tgt := 86) hx hb dX0_plotOnWay_42 (by decide) (fun c_1 => ?_) (fun c_1 => ?_)
      · have h := ite_t c_1 h
        refine lv_iload hx hb dX0_plotOnWay_86 (lv_at hl 4 rfl) ?_
        obtain rfl := Option.some.inj h
        exact W.iret hx hb hr (fun t ht hw => ⟨⟨_, (), rfl, rfl, hW.ret ht⟩, hS.F ht⟩) hS.2.2 dX0_plotOnWay_88
      · have h := ite_f c_1 h
        refine lv_iload hx hb dX0_plotOnWay_45 (lv_at hl 4 rfl) ?_
        refine lv_iconst (v := (-1)) hx hb dX0_plotOnWay_47 (by decide) ?_
        refine lv_icmp_eq (tgt := 65) hx hb dX0_plotOnWay_48 (by decide) (fun c_2 => ?_) (fun c_2 => ?_)
        · have h := ite_t c_2 h
          exact B65 _ _ hW hS ls (lv_sub hl [] rfl) h
        · have h := ite_f c_2 h
          refine lv_aload_n hx hb dX0_plotOnWay_51 rfl (lv_at hl 0 rfl) ?_
          refine va_get (D := G.1) (ci := 0) (v := .ref (gad G (7 + c))) (C := RX0) (T := TX0) (N := 12) hx hb hts hiX0 hown hK.1 hW.1 c (lkC (c := c) (by omega)) rfl 0 (by decide) (hts _ (List.mem_of_getElem? (i := 1) rfl)) (fun _ h9 => h9) rfl dX0_plotOnWay_52 ?_
          refine lv_iload hx hb dX0_plotOnWay_55 (lv_at hl 4 rfl) ?_
          refine lv_iload_n hx hb dX0_plotOnWay_57 rfl (lv_at hl 1 rfl) ?_
          refine lv_iload_n hx hb dX0_plotOnWay_58 rfl (lv_at hl 2 rfl) ?_
          obtain ⟨r_3, e_4, h⟩ := bnd_e h
          refine kV_I (As := [.int l5, .int l2, .int l3]) (rest := []) ⟨hx, hb, hml, hown, hts⟩ (tX3_has l G S0 M0 c (by omega) l5 l2 l3 r_3 e_4) (cwV 3 hts gX0_plotOnWay_X3_has rfl rfl rfl ⟨rfl, hdX3_has⟩ ⟨Nat.le_of_ble_eq_true rfl, Nat.le_of_ble_eq_true rfl⟩) (va_recv hK.1 hW.1 (ci := 3) (q0 := (7 + c)) rfl (lkP (c := c) (by omega))) hK hW hS hA rfl hl.1 rfl (Nat.le_of_ble_eq_true rfl) dX0_plotOnWay_59 ⟨Nat.zero_le _, Nat.zero_le _⟩ (fun H locs hW hS => ?_)
          refine lv_if_eq (tgt := 67) hx hb dX0_plotOnWay_62 (by decide) (fun c_5 => ?_) (fun c_5 => ?_)
          · have h := ite_t c_5 h
            refine lv_aload_n hx hb dX0_plotOnWay_67 rfl (lv_at hl 0 rfl) ?_
            refine va_get (D := G.1) (ci := 0) (v := .ref (gad G (7 + c))) (C := RX0) (T := TX0) (N := 12) hx hb hts hiX0 hown hK.1 hW.1 c (lkC (c := c) (by omega)) rfl 0 (by decide) (hts _ (List.mem_of_getElem? (i := 1) rfl)) (fun _ h9 => h9) rfl dX0_plotOnWay_68 ?_
            refine lv_iload hx hb dX0_plotOnWay_71 (lv_at hl 4 rfl) ?_
            refine lv_iload_n hx hb dX0_plotOnWay_73 rfl (lv_at hl 1 rfl) ?_
            refine lv_iload_n hx hb dX0_plotOnWay_74 rfl (lv_at hl 2 rfl) ?_
            obtain ⟨r_6, e_7, h⟩ := bnd_e h
            refine kV_I (As := [.int l5, .int l2, .int l3]) (rest := []) ⟨hx, hb, hml, hown, hts⟩ (tX3_nextToward l G S0 M0 c (by omega) l5 l2 l3 r_6 e_7) (cwV 3 hts gX0_plotOnWay_X3_nextToward rfl rfl rfl ⟨rfl, hdX3_nextToward⟩ ⟨Nat.le_of_ble_eq_true rfl, Nat.le_of_ble_eq_true rfl⟩) (va_recv hK.1 hW.1 (ci := 3) (q0 := (7 + c)) rfl (lkP (c := c) (by omega))) hK hW hS hA rfl hl.1 rfl (Nat.le_of_ble_eq_true rfl) dX0_plotOnWay_75 ⟨Nat.zero_le _, Nat.zero_le _⟩ (fun H locs hW hS => ?_)
            refine lv_istore (lv' := [(5, .int r_6), (0, .ref (gad G c)), (2, .int l2), (3, .int l3), (4, .int l4), (6, .int l6)]) hx hb dX0_plotOnWay_78 hl (by decide) rfl (fun ls hl => ?_)
            refine lv_iinc (v := (l6 + 1)) (lv' := [(6, .int ((l6 + 1))), (5, .int r_6), (0, .ref (gad G c)), (2, .int l2), (3, .int l3), (4, .int l4)]) hx hb dX0_plotOnWay_80 hl (k := 5) rfl rfl (by decide) rfl (fun ls hl => ?_)
            refine lv_goto (tgt := 38) hx hb dX0_plotOnWay_83 (by decide) ?_
            exact ih _ _ hW hS ls l2 l3 l4 r_6 ((l6 + 1)) (lv_sub hl [2, 3, 4, 5, 1, 0] rfl) h
          · have h := ite_f c_5 h
            exact B65 _ _ hW hS ls (lv_sub hl [] rfl) h
  unfold f0_plotOnWay at h
  refine lv_iload hx hb dX0_plotOnWay_0 (lv_at hl 4 rfl) ?_
  refine lv_sipush (v := 181) hx hb dX0_plotOnWay_2 (by decide) ?_
  refine lv_icmp_lt (tgt := 10) hx hb dX0_plotOnWay_5 (by decide) (fun c_1 => ?_) (fun c_1 => ?_)
  · have h := ite_t c_1 h
    refine lv_aload_n hx hb dX0_plotOnWay_10 rfl (lv_at hl 0 rfl) ?_
    refine va_get (D := G.1) (ci := 0) (v := .ref (gad G (7 + c))) (C := RX0) (T := TX0) (N := 12) hx hb hts hiX0 hown hK.1 hW.1 c (lkC (c := c) (by omega)) rfl 0 (by decide) (hts _ (List.mem_of_getElem? (i := 1) rfl)) (fun _ h9 => h9) rfl dX0_plotOnWay_11 ?_
    refine lv_aload_n hx hb dX0_plotOnWay_14 rfl (lv_at hl 0 rfl) ?_
    refine va_get (D := G.1) (ci := 0) (v := .ref (gad G (14 + (10 * c + 4)))) (C := RX0) (T := TX0) (N := 12) hx hb hts hiX0 hown hK.1 hW.1 c (lkC (c := c) (by omega)) rfl 1 (by decide) (hts _ (List.mem_of_getElem? (i := 2) rfl)) (fun _ h9 => h9) rfl dX0_plotOnWay_15 ?_
    refine lv_iload_n hx hb dX0_plotOnWay_18 rfl (lv_at hl 1 rfl) ?_
    obtain ⟨r_2, e_3, h⟩ := bnd_e h
    refine kV_I (As := [.int p1]) (rest := [.ref (gad G (7 + c))]) ⟨hx, hb, hml, hown, hts⟩ (tX4_at l G S0 M0 ((10 * c + 4)) (by omega) p1 r_2 e_3) (cwV 1 hts gX0_plotOnWay_X4_at rfl rfl rfl ⟨rfl, hdX4_at⟩ ⟨Nat.le_of_ble_eq_true rfl, Nat.le_of_ble_eq_true rfl⟩) (va_recv hK.1 hW.1 (ci := 4) (q0 := (14 + (10 * c + 4))) rfl (lkR (r := (10 * c + 4)) (by omega))) hK hW hS hA rfl hl.1 rfl (Nat.le_of_ble_eq_true rfl) dX0_plotOnWay_19 ⟨Nat.zero_le _, Nat.zero_le _⟩ (fun H locs hW hS => ?_)
    refine lv_aload_n hx hb dX0_plotOnWay_22 rfl (lv_at hl 0 rfl) ?_
    refine va_get (D := G.1) (ci := 0) (v := .ref (gad G (14 + (10 * c + 5)))) (C := RX0) (T := TX0) (N := 12) hx hb hts hiX0 hown hK.1 hW.1 c (lkC (c := c) (by omega)) rfl 2 (by decide) (hts _ (List.mem_of_getElem? (i := 3) rfl)) (fun _ h9 => h9) rfl dX0_plotOnWay_23 ?_
    refine lv_iload_n hx hb dX0_plotOnWay_26 rfl (lv_at hl 1 rfl) ?_
    obtain ⟨r_4, e_5, h⟩ := bnd_e h
    refine kV_I (As := [.int p1]) (rest := [.int r_2, .ref (gad G (7 + c))]) ⟨hx, hb, hml, hown, hts⟩ (tX4_at l G S0 M0 ((10 * c + 5)) (by omega) p1 r_4 e_5) (cwV 1 hts gX0_plotOnWay_X4_at rfl rfl rfl ⟨rfl, hdX4_at⟩ ⟨Nat.le_of_ble_eq_true rfl, Nat.le_of_ble_eq_true rfl⟩) (va_recv hK.1 hW.1 (ci := 4) (q0 := (14 + (10 * c + 5))) rfl (lkR (r := (10 * c + 5)) (by omega))) hK hW hS hA rfl hl.1 rfl (Nat.le_of_ble_eq_true rfl) dX0_plotOnWay_27 ⟨Nat.zero_le _, Nat.zero_le _⟩ (fun H locs hW hS => ?_)
    obtain ⟨r_6, e_7, h⟩ := bnd_e h
    refine kV_I (As := [.int r_2, .int r_4]) (rest := []) ⟨hx, hb, hml, hown, hts⟩ (tX3_find l G S0 M0 c (by omega) r_2 r_4 r_6 e_7) (cwV 2 hts gX0_plotOnWay_X3_find rfl rfl rfl ⟨rfl, hdX3_find⟩ ⟨Nat.le_of_ble_eq_true rfl, Nat.le_of_ble_eq_true rfl⟩) (va_recv hK.1 hW.1 (ci := 3) (q0 := (7 + c)) rfl (lkP (c := c) (by omega))) hK hW hS hA rfl hl.1 rfl (Nat.le_of_ble_eq_true rfl) dX0_plotOnWay_30 ⟨Nat.zero_le _, Nat.zero_le _⟩ (fun H locs hW hS => ?_)
    refine lv_istore (lv' := [(5, .int r_6), (0, .ref (gad G c)), (1, .int p1), (2, .int p2), (3, .int p3), (4, .int p4)]) hx hb dX0_plotOnWay_33 hl (by decide) rfl (fun ls hl => ?_)
    refine lv_iconst (v := 0) hx hb dX0_plotOnWay_35 (by decide) ?_
    refine lv_istore (lv' := [(6, .int 0), (5, .int r_6), (0, .ref (gad G c)), (1, .int p1), (2, .int p2), (3, .int p3), (4, .int p4)]) hx hb dX0_plotOnWay_36 hl (by decide) rfl (fun ls hl => ?_)
    exact B38 fuelN _ _ hW hS ls p2 p3 p4 r_6 0 (lv_sub hl [2, 4, 5, 6, 1, 0] rfl) h
  · have h := ite_f c_1 h
    refine lv_iconst (v := (-1)) hx hb dX0_plotOnWay_8 (by decide) ?_
    obtain rfl := Option.some.inj h
    exact W.iret hx hb hr (fun t ht hw => ⟨⟨_, (), rfl, rfl, hW.ret ht⟩, hS.F ht⟩) hS.2.2 dX0_plotOnWay_9
abbrev rX5_way : Room := { frames := 6, cells := 0, slots := 0, locals := 142 }
set_option maxRecDepth 100000 in
set_option maxHeartbeats 8000000 in
theorem tX5_way (l : Launch) (G : WG) (S0 M0 : St) (p1 : Int32) (p2 : Int32) (p3 : Int32) (p4 : Int32) (p5 : Int32) (rr : Int32) (h : f5_way S0 p1 p2 p3 p4 p5 = some (rr)) : CtI l yX5_way wsX5_way rX5_way G [.ref (gad G 154), .int p1, .int p2, .int p3, .int p4, .int p5] S0 M0 rr S0 M0 := by
  refine Met.ofW (cc := cX5_way) (maxL := 7) (ret := (some .int)) (by decide) rfl ?_
  intro p e s m args below meth cd s₁ B hml hv
  obtain ⟨hargs, hK, hW⟩ := hv
  have hx := B.exec
  have hb := B.bytes
  have hr := B.returns
  have hts := atoms_spec (ws := wsX5_way) B.pre
  have hown : s.vm.findClass RX5 = some m.cls := findClass_of_methodNamed B.named
  have hlocks := B.notSynchronized
  have hA : ∀ q, Aw G q → Aw G q := fun _ h => h
  have hS : va_S (Aw G) s.heap s.heap [] := va_S.rf
  have he0 : entryFrame m args 7 = F0 m 0 ((lg_sl ([.ref (gad G 154), .int p1, .int p2, .int p3, .int p4, .int p5]) ++ List.replicate (7 - (lg_sl ([.ref (gad G 154), .int p1, .int p2, .int p3, .int p4, .int p5])).length) Slot.unset).toArray) [] := by rw [hargs]; exact lg_entry_eq _ _ _
  have hl := lv_entry ([.ref (gad G 154), .int p1, .int p2, .int p3, .int p4, .int p5]) (n := 7) (Nat.le_of_ble_eq_true rfl)
  rw [he0]
  generalize (lg_sl ([.ref (gad G 154), .int p1, .int p2, .int p3, .int p4, .int p5]) ++ List.replicate (7 - (lg_sl ([.ref (gad G 154), .int p1, .int p2, .int p3, .int p4, .int p5])).length) Slot.unset).toArray = ls at hl ⊢
  have hl : lv_has ls 7 [(0, .ref (gad G 154)), (1, .int p1), (2, .int p2), (3, .int p3), (4, .int p4), (5, .int p5)] := hl
  have hiX0 : ∀ w ∈ u_ws RX0 TX0 12, w ∈ wsX5_way := by decide +kernel
  have hiX5 : ∀ w ∈ u_ws RX5 TX5 6, w ∈ wsX5_way := by decide +kernel
  have B114 : ∀ (H : Heap) (locs : List Loc) (_ : WD G S0 M0 H) (_ : va_S (Aw G) s.heap H locs) (ls : Array Slot) (k0 : Int32) (_ : lv_has ls 7 []) (h : f5_way_b114 S0 k0 = some (rr)), WI p l e (headSpec wsX5_way rX5_way).room s m args below meth cd G rr S0 M0 H locs (F0 m 114 ls [.int k0]) := by
    intro H locs hW hS ls k0 hl h
    unfold f5_way_b114 at h
    obtain rfl := Option.some.inj h
    exact W.iret hx hb hr (fun t ht hw => ⟨⟨_, (), rfl, rfl, hW.ret ht⟩, hS.F ht⟩) hS.2.2 dX5_way_114
  have B37 : ∀ (H : Heap) (locs : List Loc) (_ : WD G S0 M0 H) (_ : va_S (Aw G) s.heap H locs) (ls : Array Slot) (_ : lv_has ls 7 []) (h : f5_way_b37 S0  = some (rr)), WI p l e (headSpec wsX5_way rX5_way).room s m args below meth cd G rr S0 M0 H locs (F0 m 37 ls []) := by
    intro H locs hW hS ls hl h
    unfold f5_way_b37 at h
    refine lv_bipush (v := (-2)) hx hb dX5_way_37 (by decide) ?_
    obtain rfl := Option.some.inj h
    exact W.iret hx hb hr (fun t ht hw => ⟨⟨_, (), rfl, rfl, hW.ret ht⟩, hS.F ht⟩) hS.2.2 dX5_way_39
  have B19 : ∀ (H : Heap) (locs : List Loc) (_ : WD G S0 M0 H) (_ : va_S (Aw G) s.heap H locs) (ls : Array Slot) (_ : lv_has ls 7 []) (h : f5_way_b19 S0  = some (rr)), WI p l e (headSpec wsX5_way rX5_way).room s m args below meth cd G rr S0 M0 H locs (F0 m 19 ls []) := by
    intro H locs hW hS ls hl h
    unfold f5_way_b19 at h
    refine lv_iconst (v := (-1)) hx hb dX5_way_19 (by decide) ?_
    obtain rfl := Option.some.inj h
    exact W.iret hx hb hr (fun t ht hw => ⟨⟨_, (), rfl, rfl, hW.ret ht⟩, hS.F ht⟩) hS.2.2 dX5_way_20
  unfold f5_way at h
  refine lv_aload_n hx hb dX5_way_0 rfl (lv_at hl 0 rfl) ?_
  refine va_get (D := G.1) (ci := 5) (v := .ref (gad G 0)) (C := RX5) (T := TX5) (N := 6) hx hb hts hiX5 hown hK.1 hW.1 154 lkT rfl 0 (by decide) (hts _ (List.mem_of_getElem? (i := 1) rfl)) (fun _ h9 => h9) rfl dX5_way_1 ?_
  refine lv_iload_n hx hb dX5_way_4 rfl (lv_at hl 1 rfl) ?_
  obtain ⟨r_1, e_2, h⟩ := bnd_e h
  refine kV_I (As := [.int p1]) (rest := []) ⟨hx, hb, hml, hown, hts⟩ (tX0_isHere l G S0 M0 0 (by omega) p1 r_1 e_2) (cwV 1 hts gX5_way_X0_isHere rfl rfl rfl ⟨rfl, hdX0_isHere⟩ ⟨Nat.le_of_ble_eq_true rfl, Nat.le_of_ble_eq_true rfl⟩) (va_recv hK.1 hW.1 (ci := 0) (q0 := 0) rfl (lkC (c := 0) (by omega))) hK hW hS hA rfl hl.1 rfl (Nat.le_of_ble_eq_true rfl) dX5_way_5 ⟨Nat.zero_le _, Nat.zero_le _⟩ (fun H locs hW hS => ?_)
  refine lv_if_eq (tgt := 19) hx hb dX5_way_8 (by decide) (fun c_3 => ?_) (fun c_3 => ?_)
  · have h := ite_t c_3 h
    exact B19 _ _ hW hS ls (lv_sub hl [] rfl) h
  · have h := ite_f c_3 h
    refine lv_iload_n hx hb dX5_way_11 rfl (lv_at hl 2 rfl) ?_
    refine lv_iload_n hx hb dX5_way_12 rfl (lv_at hl 3 rfl) ?_
    obtain ⟨r_4, e_5, h⟩ := bnd_e h
    refine kS_I (As := [.int p2, .int p3]) (rest := []) ⟨hx, hb, hml, hown, hts⟩ (tX5_isPoint l G S0 M0 p2 p3 r_4 e_5) (va_cwS 2 hts gX5_way_X5_isPoint rfl rfl rfl hdX5_isPoint ⟨Nat.le_of_ble_eq_true rfl, Nat.le_of_ble_eq_true rfl⟩) hK hW hS hA rfl hl.1 rfl (Nat.le_of_ble_eq_true rfl) dX5_way_13 ⟨Nat.zero_le _, Nat.zero_le _⟩ (fun H locs hW hS => ?_)
    refine lv_if_ne (tgt := 21) hx hb dX5_way_16 (by decide) (fun c_6 => ?_) (fun c_6 => ?_)
    · have h := ite_f c_6 h
      refine lv_iload hx hb dX5_way_21 (lv_at hl 4 rfl) ?_
      refine lv_if_lt (tgt := 37) hx hb dX5_way_23 (by decide) (fun c_7 => ?_) (fun c_7 => ?_)
      · have h := ite_t c_7 h
        exact B37 _ _ hW hS ls (lv_sub hl [] rfl) h
      · have h := ite_f c_7 h
        refine lv_iload hx hb dX5_way_26 (lv_at hl 5 rfl) ?_
        refine lv_if_lt (tgt := 37) hx hb dX5_way_28 (by decide) (fun c_8 => ?_) (fun c_8 => ?_)
        · have h := ite_t c_8 h
          exact B37 _ _ hW hS ls (lv_sub hl [] rfl) h
        · have h := ite_f c_8 h
          refine lv_iload hx hb dX5_way_31 (lv_at hl 5 rfl) ?_
          refine lv_iconst (v := 2) hx hb dX5_way_33 (by decide) ?_
          refine lv_icmp_le (tgt := 40) hx hb dX5_way_34 (by decide) (fun c_9 => ?_) (fun c_9 => ?_)
          · have h := ite_t c_9 h
            refine lv_aload_n hx hb dX5_way_40 rfl (lv_at hl 0 rfl) ?_
            refine va_get (D := G.1) (ci := 5) (v := .ref (gad G 0)) (C := RX5) (T := TX5) (N := 6) hx hb hts hiX5 hown hK.1 hW.1 154 lkT rfl 0 (by decide) (hts _ (List.mem_of_getElem? (i := 1) rfl)) (fun _ h9 => h9) rfl dX5_way_41 ?_
            refine lv_iload_n hx hb dX5_way_44 rfl (lv_at hl 1 rfl) ?_
            refine lv_iload_n hx hb dX5_way_45 rfl (lv_at hl 2 rfl) ?_
            refine lv_iload_n hx hb dX5_way_46 rfl (lv_at hl 3 rfl) ?_
            refine lv_iload hx hb dX5_way_47 (lv_at hl 4 rfl) ?_
            obtain ⟨r_10, e_11, h⟩ := bnd_e h
            refine kV_I (As := [.int p1, .int p2, .int p3, .int p4]) (rest := []) ⟨hx, hb, hml, hown, hts⟩ (tX0_plotOnWay l G S0 M0 0 (by omega) p1 p2 p3 p4 r_10 e_11) (cwV 4 hts gX5_way_X0_plotOnWay rfl rfl rfl ⟨rfl, hdX0_plotOnWay⟩ ⟨Nat.le_of_ble_eq_true rfl, Nat.le_of_ble_eq_true rfl⟩) (va_recv hK.1 hW.1 (ci := 0) (q0 := 0) rfl (lkC (c := 0) (by omega))) hK hW hS hA rfl hl.1 rfl (Nat.le_of_ble_eq_true rfl) dX5_way_49 ⟨Nat.zero_le _, Nat.zero_le _⟩ (fun H locs hW hS => ?_)
            refine lv_istore (lv' := [(6, .int r_10), (0, .ref (gad G 154)), (1, .int p1), (2, .int p2), (3, .int p3), (4, .int p4), (5, .int p5)]) hx hb dX5_way_52 hl (by decide) rfl (fun ls hl => ?_)
            refine lv_iload hx hb dX5_way_54 (lv_at hl 0 rfl) ?_
            refine lv_iconst (v := (-1)) hx hb dX5_way_56 (by decide) ?_
            refine lv_icmp_ne (tgt := 63) hx hb dX5_way_57 (by decide) (fun c_12 => ?_) (fun c_12 => ?_)
            · have h := ite_f c_12 h
              refine lv_iload hx hb dX5_way_63 (lv_at hl 6 rfl) ?_
              refine lv_if_ne (tgt := 81) hx hb dX5_way_65 (by decide) (fun c_13 => ?_) (fun c_13 => ?_)
              · have h := ite_f c_13 h
                refine lv_iload hx hb dX5_way_81 (lv_at hl 6 rfl) ?_
                refine lv_iconst (v := 1) hx hb dX5_way_83 (by decide) ?_
                refine lv_icmp_ne (tgt := 102) hx hb dX5_way_84 (by decide) (fun c_14 => ?_) (fun c_14 => ?_)
                · have h := ite_f c_14 h
                  refine lv_aload_n hx hb dX5_way_102 rfl (lv_at hl 1 rfl) ?_
                  refine va_get (D := G.1) (ci := 5) (v := .ref (gad G 0)) (C := RX5) (T := TX5) (N := 6) hx hb hts hiX5 hown hK.1 hW.1 154 lkT rfl 0 (by decide) (hts _ (List.mem_of_getElem? (i := 1) rfl)) (fun _ h9 => h9) rfl dX5_way_103 ?_
                  refine va_getN (D := G.1) (ci := 0) (v := .ref (gad G (7 + 0))) (C := RX0) (T := TX0) (N := 12) hx hb hts hiX0 hown hK.1 hW.1 0 (lkC (c := 0) (by omega)) rfl 0 (by decide) (va_Nw.use rfl (hK.2 _ (List.mem_of_getElem? (i := 1) rfl))) (fun _ h9 => h9) rfl dX5_way_106 ?_
                  refine lv_iload hx hb dX5_way_109 (lv_at hl 0 rfl) ?_
                  obtain ⟨r_15, e_16, h⟩ := bnd_e h
                  refine kV_I (As := [.int r_10]) (rest := []) ⟨hx, hb, hml, hown, hts⟩ (tX3_y0Of l G S0 M0 0 (by omega) r_10 r_15 e_16) (cwV 1 hts gX5_way_X3_y0Of rfl rfl rfl ⟨rfl, hdX3_y0Of⟩ ⟨Nat.le_of_ble_eq_true rfl, Nat.le_of_ble_eq_true rfl⟩) (va_recv hK.1 hW.1 (ci := 3) (q0 := (7 + 0)) rfl (lkP (c := 0) (by omega))) hK hW hS hA rfl hl.1 rfl (Nat.le_of_ble_eq_true rfl) dX5_way_111 ⟨Nat.zero_le _, Nat.zero_le _⟩ (fun H locs hW hS => ?_)
                  exact B114 _ _ hW hS ls r_15 (lv_sub hl [] rfl) h
                · have h := ite_t c_14 h
                  refine lv_aload_n hx hb dX5_way_87 rfl (lv_at hl 1 rfl) ?_
                  refine va_get (D := G.1) (ci := 5) (v := .ref (gad G 0)) (C := RX5) (T := TX5) (N := 6) hx hb hts hiX5 hown hK.1 hW.1 154 lkT rfl 0 (by decide) (hts _ (List.mem_of_getElem? (i := 1) rfl)) (fun _ h9 => h9) rfl dX5_way_88 ?_
                  refine va_getN (D := G.1) (ci := 0) (v := .ref (gad G (7 + 0))) (C := RX0) (T := TX0) (N := 12) hx hb hts hiX0 hown hK.1 hW.1 0 (lkC (c := 0) (by omega)) rfl 0 (by decide) (va_Nw.use rfl (hK.2 _ (List.mem_of_getElem? (i := 1) rfl))) (fun _ h9 => h9) rfl dX5_way_91 ?_
                  refine lv_iload hx hb dX5_way_94 (lv_at hl 0 rfl) ?_
                  obtain ⟨r_17, e_18, h⟩ := bnd_e h
                  refine kV_I (As := [.int r_10]) (rest := []) ⟨hx, hb, hml, hown, hts⟩ (tX3_x0Of l G S0 M0 0 (by omega) r_10 r_17 e_18) (cwV 1 hts gX5_way_X3_x0Of rfl rfl rfl ⟨rfl, hdX3_x0Of⟩ ⟨Nat.le_of_ble_eq_true rfl, Nat.le_of_ble_eq_true rfl⟩) (va_recv hK.1 hW.1 (ci := 3) (q0 := (7 + 0)) rfl (lkP (c := 0) (by omega))) hK hW hS hA rfl hl.1 rfl (Nat.le_of_ble_eq_true rfl) dX5_way_96 ⟨Nat.zero_le _, Nat.zero_le _⟩ (fun H locs hW hS => ?_)
                  refine lv_goto (tgt := 114) hx hb dX5_way_99 (by decide) ?_
                  exact B114 _ _ hW hS ls r_17 (lv_sub hl [] rfl) h
              · have h := ite_t c_13 h
                refine lv_aload_n hx hb dX5_way_68 rfl (lv_at hl 1 rfl) ?_
                refine va_get (D := G.1) (ci := 5) (v := .ref (gad G 0)) (C := RX5) (T := TX5) (N := 6) hx hb hts hiX5 hown hK.1 hW.1 154 lkT rfl 0 (by decide) (hts _ (List.mem_of_getElem? (i := 1) rfl)) (fun _ h9 => h9) rfl dX5_way_69 ?_
                refine va_getN (D := G.1) (ci := 0) (v := .ref (gad G (7 + 0))) (C := RX0) (T := TX0) (N := 12) hx hb hts hiX0 hown hK.1 hW.1 0 (lkC (c := 0) (by omega)) rfl 0 (by decide) (va_Nw.use rfl (hK.2 _ (List.mem_of_getElem? (i := 1) rfl))) (fun _ h9 => h9) rfl dX5_way_72 ?_
                refine lv_iload hx hb dX5_way_75 (lv_at hl 0 rfl) ?_
                obtain ⟨r_19, e_20, h⟩ := bnd_e h
                refine kV_I (As := [.int r_10]) (rest := []) ⟨hx, hb, hml, hown, hts⟩ (tX3_ownerOf l G S0 M0 0 (by omega) r_10 r_19 e_20) (cwV 1 hts gX5_way_X3_ownerOf rfl rfl rfl ⟨rfl, hdX3_ownerOf⟩ ⟨Nat.le_of_ble_eq_true rfl, Nat.le_of_ble_eq_true rfl⟩) (va_recv hK.1 hW.1 (ci := 3) (q0 := (7 + 0)) rfl (lkP (c := 0) (by omega))) hK hW hS hA rfl hl.1 rfl (Nat.le_of_ble_eq_true rfl) dX5_way_77 ⟨Nat.zero_le _, Nat.zero_le _⟩ (fun H locs hW hS => ?_)
                obtain rfl := Option.some.inj h
                exact W.iret hx hb hr (fun t ht hw => ⟨⟨_, (), rfl, rfl, hW.ret ht⟩, hS.F ht⟩) hS.2.2 dX5_way_80
            · have h := ite_t c_12 h
              refine lv_bipush (v := (-5)) hx hb dX5_way_60 (by decide) ?_
              obtain rfl := Option.some.inj h
              exact W.iret hx hb hr (fun t ht hw => ⟨⟨_, (), rfl, rfl, hW.ret ht⟩, hS.F ht⟩) hS.2.2 dX5_way_62
          · have h := ite_f c_9 h
            exact B37 _ _ hW hS ls (lv_sub hl [] rfl) h
    · have h := ite_t c_6 h
      exact B19 _ _ hW hS ls (lv_sub hl [] rfl) h
abbrev rX5_loudest : Room := { frames := 6, cells := 0, slots := 0, locals := 136 }
set_option maxRecDepth 100000 in
set_option maxHeartbeats 8000000 in
theorem tX5_loudest (l : Launch) (G : WG) (S0 M0 : St) (rr : Int32) (h : f5_loudest S0 = some (rr)) : CtI l yX5_loudest wsX5_loudest rX5_loudest G [.ref (gad G 154)] S0 M0 rr S0 M0 := by
  refine Met.ofW (cc := cX5_loudest) (maxL := 5) (ret := (some .int)) (by decide) rfl ?_
  intro p e s m args below meth cd s₁ B hml hv
  obtain ⟨hargs, hK, hW⟩ := hv
  have hx := B.exec
  have hb := B.bytes
  have hr := B.returns
  have hts := atoms_spec (ws := wsX5_loudest) B.pre
  have hown : s.vm.findClass RX5 = some m.cls := findClass_of_methodNamed B.named
  have hlocks := B.notSynchronized
  have hA : ∀ q, Aw G q → Aw G q := fun _ h => h
  have hS : va_S (Aw G) s.heap s.heap [] := va_S.rf
  have he0 : entryFrame m args 5 = F0 m 0 ((lg_sl ([.ref (gad G 154)]) ++ List.replicate (5 - (lg_sl ([.ref (gad G 154)])).length) Slot.unset).toArray) [] := by rw [hargs]; exact lg_entry_eq _ _ _
  have hl := lv_entry ([.ref (gad G 154)]) (n := 5) (Nat.le_of_ble_eq_true rfl)
  rw [he0]
  generalize (lg_sl ([.ref (gad G 154)]) ++ List.replicate (5 - (lg_sl ([.ref (gad G 154)])).length) Slot.unset).toArray = ls at hl ⊢
  have hl : lv_has ls 5 [(0, .ref (gad G 154))] := hl
  have hiX0 : ∀ w ∈ u_ws RX0 TX0 12, w ∈ wsX5_loudest := by decide +kernel
  have hiX5 : ∀ w ∈ u_ws RX5 TX5 6, w ∈ wsX5_loudest := by decide +kernel
  have B8 : ∀ (n : Nat), ∀ (H : Heap) (locs : List Loc) (_ : WD G S0 M0 H) (_ : va_S (Aw G) s.heap H locs) (ls : Array Slot) (l1 : Int32) (l2 : UInt32) (l3 : Int32) (_ : lv_has ls 5 [(0, .ref (gad G 154)), (1, .int l1), (2, .float l2), (3, .int l3)]) (h : f5_loudest_b8 S0 n l1 l2 l3 = some (rr)), WI p l e (headSpec wsX5_loudest rX5_loudest).room s m args below meth cd G rr S0 M0 H locs (F0 m 8 ls []) := by
    intro n
    induction n with
    | zero => intro H locs hW hS ls l1 l2 l3 hl h; cases (show (none : Option (Int32)) = some _ from h)
    | succ n ih =>
      have B52 : ∀ (H : Heap) (locs : List Loc) (_ : WD G S0 M0 H) (_ : va_S (Aw G) s.heap H locs) (ls : Array Slot) (l1 : Int32) (l2 : UInt32) (l3 : Int32) (_ : lv_has ls 5 [(0, .ref (gad G 154)), (1, .int l1), (2, .float l2), (3, .int l3)]) (h : f5_loudest_b52 S0 (f5_loudest_b8 S0 n) l1 l2 l3 = some (rr)), WI p l e (headSpec wsX5_loudest rX5_loudest).room s m args below meth cd G rr S0 M0 H locs (F0 m 52 ls []) := by
        intro H locs hW hS ls l1 l2 l3 hl h
        unfold f5_loudest_b52 at h
        refine lv_iinc (v := (l3 + 1)) (lv' := [(3, .int ((l3 + 1))), (0, .ref (gad G 154)), (1, .int l1), (2, .float l2)]) hx hb dX5_loudest_52 hl (k := 3) rfl rfl (by decide) rfl (fun ls hl => ?_)
        refine lv_goto (tgt := 8) hx hb dX5_loudest_55 (by decide) ?_
        exact ih _ _ hW hS ls l1 l2 ((l3 + 1)) (lv_sub hl [1, 2, 3, 0] rfl) h
      intro H locs hW hS ls l1 l2 l3 hl h
      rw [f5_loudest_b8] at h
      refine lv_iload_n hx hb dX5_loudest_8 rfl (lv_at hl 3 rfl) ?_
      refine lv_aload_n hx hb dX5_loudest_9 rfl (lv_at hl 0 rfl) ?_
      refine va_get (D := G.1) (ci := 5) (v := .ref (gad G 0)) (C := RX5) (T := TX5) (N := 6) hx hb hts hiX5 hown hK.1 hW.1 154 lkT rfl 0 (by decide) (hts _ (List.mem_of_getElem? (i := 2) rfl)) (fun _ h9 => h9) rfl dX5_loudest_10 ?_
      refine va_getN (D := G.1) (ci := 0) (v := .int (S0.1 (6 * 0 + 1))) (C := RX0) (T := TX0) (N := 12) hx hb hts hiX0 hown hK.1 hW.1 0 (lkC (c := 0) (by omega)) rfl 7 (by decide) (va_Nw.use rfl (hK.2 _ (List.mem_of_getElem? (i := 6) rfl))) (fun _ h9 => h9) rfl dX5_loudest_13 ?_
      refine lv_icmp_ge (tgt := 58) hx hb dX5_loudest_16 (by decide) (fun c_1 => ?_) (fun c_1 => ?_)
      · have h := ite_t c_1 h
        refine lv_iload_n hx hb dX5_loudest_58 rfl (lv_at hl 1 rfl) ?_
        obtain rfl := Option.some.inj h
        exact W.iret hx hb hr (fun t ht hw => ⟨⟨_, (), rfl, rfl, hW.ret ht⟩, hS.F ht⟩) hS.2.2 dX5_loudest_59
      · have h := ite_f c_1 h
        refine lv_aload_n hx hb dX5_loudest_19 rfl (lv_at hl 0 rfl) ?_
        refine va_get (D := G.1) (ci := 5) (v := .ref (gad G 0)) (C := RX5) (T := TX5) (N := 6) hx hb hts hiX5 hown hK.1 hW.1 154 lkT rfl 0 (by decide) (hts _ (List.mem_of_getElem? (i := 2) rfl)) (fun _ h9 => h9) rfl dX5_loudest_20 ?_
        refine lv_iload_n hx hb dX5_loudest_23 rfl (lv_at hl 3 rfl) ?_
        obtain ⟨r_2, e_3, h⟩ := bnd_e h
        refine kV_I (As := [.int l3]) (rest := []) ⟨hx, hb, hml, hown, hts⟩ (tX0_isHere l G S0 M0 0 (by omega) l3 r_2 e_3) (cwV 1 hts gX5_loudest_X0_isHere rfl rfl rfl ⟨rfl, hdX0_isHere⟩ ⟨Nat.le_of_ble_eq_true rfl, Nat.le_of_ble_eq_true rfl⟩) (va_recv hK.1 hW.1 (ci := 0) (q0 := 0) rfl (lkC (c := 0) (by omega))) hK hW hS hA rfl hl.1 rfl (Nat.le_of_ble_eq_true rfl) dX5_loudest_24 ⟨Nat.zero_le _, Nat.zero_le _⟩ (fun H locs hW hS => ?_)
        refine lv_if_eq (tgt := 52) hx hb dX5_loudest_27 (by decide) (fun c_4 => ?_) (fun c_4 => ?_)
        · have h := ite_t c_4 h
          exact B52 _ _ hW hS ls l1 l2 l3 (lv_sub hl [0, 1, 2, 3] rfl) h
        · have h := ite_f c_4 h
          refine lv_aload_n hx hb dX5_loudest_30 rfl (lv_at hl 0 rfl) ?_
          refine va_get (D := G.1) (ci := 5) (v := .ref (gad G 0)) (C := RX5) (T := TX5) (N := 6) hx hb hts hiX5 hown hK.1 hW.1 154 lkT rfl 0 (by decide) (hts _ (List.mem_of_getElem? (i := 2) rfl)) (fun _ h9 => h9) rfl dX5_loudest_31 ?_
          refine lv_iload_n hx hb dX5_loudest_34 rfl (lv_at hl 3 rfl) ?_
          obtain ⟨r_5, e_6, h⟩ := bnd_e h
          refine kV_F (As := [.int l3]) (rest := []) ⟨hx, hb, hml, hown, hts⟩ (tX0_loudnessOf l G S0 M0 0 (by omega) l3 r_5 e_6) (cwV 1 hts gX5_loudest_X0_loudnessOf rfl rfl rfl ⟨rfl, hdX0_loudnessOf⟩ ⟨Nat.le_of_ble_eq_true rfl, Nat.le_of_ble_eq_true rfl⟩) (va_recv hK.1 hW.1 (ci := 0) (q0 := 0) rfl (lkC (c := 0) (by omega))) hK hW hS hA rfl hl.1 rfl (Nat.le_of_ble_eq_true rfl) dX5_loudest_35 ⟨Nat.zero_le _, Nat.zero_le _⟩ (fun H locs hW hS => ?_)
          refine lv_fstore (lv' := [(4, .float r_5), (0, .ref (gad G 154)), (1, .int l1), (2, .float l2), (3, .int l3)]) hx hb dX5_loudest_38 hl (by decide) rfl (fun ls hl => ?_)
          refine lv_fload hx hb dX5_loudest_40 (lv_at hl 0 rfl) ?_
          refine lv_fload_n hx hb dX5_loudest_42 rfl (lv_at hl 3 rfl) ?_
          refine lv_fcmp hx hb dX5_loudest_43 ?_
          refine lv_if_le (tgt := 52) hx hb dX5_loudest_44 (by decide) (fun c_7 => ?_) (fun c_7 => ?_)
          · have h := ite_t c_7 h
            exact B52 _ _ hW hS ls l1 l2 l3 (lv_sub hl [1, 2, 3, 4] rfl) h
          · have h := ite_f c_7 h
            refine lv_fload hx hb dX5_loudest_47 (lv_at hl 0 rfl) ?_
            refine lv_fstore_n (lv' := [(2, .float r_5), (4, .float r_5), (0, .ref (gad G 154)), (1, .int l1), (3, .int l3)]) hx hb dX5_loudest_49 rfl hl (by decide) rfl (fun ls hl => ?_)
            refine lv_iload_n hx hb dX5_loudest_50 rfl (lv_at hl 4 rfl) ?_
            refine lv_istore_n (lv' := [(1, .int l3), (2, .float r_5), (4, .float r_5), (0, .ref (gad G 154)), (3, .int l3)]) hx hb dX5_loudest_51 rfl hl (by decide) rfl (fun ls hl => ?_)
            exact B52 _ _ hW hS ls l3 r_5 l3 (lv_sub hl [3, 0, 1, 4] rfl) h
  unfold f5_loudest at h
  refine lv_bipush (v := (-5)) hx hb dX5_loudest_0 (by decide) ?_
  refine lv_istore_n (lv' := [(1, .int ((-5))), (0, .ref (gad G 154))]) hx hb dX5_loudest_2 rfl hl (by decide) rfl (fun ls hl => ?_)
  refine lv_ldcf hx hb hown (hts _ (List.mem_of_getElem? (i := 1) rfl)) dX5_loudest_3 ?_
  refine lv_fstore_n (lv' := [(2, .float 3212836864), (1, .int ((-5))), (0, .ref (gad G 154))]) hx hb dX5_loudest_5 rfl hl (by decide) rfl (fun ls hl => ?_)
  refine lv_iconst (v := 0) hx hb dX5_loudest_6 (by decide) ?_
  refine lv_istore_n (lv' := [(3, .int 0), (2, .float 3212836864), (1, .int ((-5))), (0, .ref (gad G 154))]) hx hb dX5_loudest_7 rfl hl (by decide) rfl (fun ls hl => ?_)
  exact B8 fuelN _ _ hW hS ls ((-5)) 3212836864 0 (lv_sub hl [3, 2, 1, 0] rfl) h
abbrev rX5_keep : Room := { frames := 3, cells := 0, slots := 0, locals := 65 }
set_option maxRecDepth 100000 in
set_option maxHeartbeats 8000000 in
theorem tX5_keep (l : Launch) (G : WG) (S0 M0 : St) (rr : Int32) (S' : St) (h : f5_keep S0 = some (rr, S')) : CtI l yX5_keep wsX5_keep rX5_keep G [.ref (gad G 154)] S0 M0 rr S' M0 := by
  refine Met.ofW (cc := cX5_keep) (maxL := 1) (ret := (some .int)) (by decide) rfl ?_
  intro p e s m args below meth cd s₁ B hml hv
  obtain ⟨hargs, hK, hW⟩ := hv
  have hx := B.exec
  have hb := B.bytes
  have hr := B.returns
  have hts := atoms_spec (ws := wsX5_keep) B.pre
  have hown : s.vm.findClass RX5 = some m.cls := findClass_of_methodNamed B.named
  have hlocks := B.notSynchronized
  have hA : ∀ q, Aw G q → Aw G q := fun _ h => h
  have hS : va_S (Aw G) s.heap s.heap [] := va_S.rf
  have he0 : entryFrame m args 1 = F0 m 0 ((lg_sl ([.ref (gad G 154)]) ++ List.replicate (1 - (lg_sl ([.ref (gad G 154)])).length) Slot.unset).toArray) [] := by rw [hargs]; exact lg_entry_eq _ _ _
  have hl := lv_entry ([.ref (gad G 154)]) (n := 1) (Nat.le_of_ble_eq_true rfl)
  rw [he0]
  generalize (lg_sl ([.ref (gad G 154)]) ++ List.replicate (1 - (lg_sl ([.ref (gad G 154)])).length) Slot.unset).toArray = ls at hl ⊢
  have hl : lv_has ls 1 [(0, .ref (gad G 154))] := hl
  have hiX5 : ∀ w ∈ u_ws RX5 TX5 6, w ∈ wsX5_keep := by decide +kernel
  unfold f5_keep at h
  refine lv_aload_n hx hb dX5_keep_0 rfl (lv_at hl 0 rfl) ?_
  refine va_get (D := G.1) (ci := 5) (v := .ref (gad G 2)) (C := RX5) (T := TX5) (N := 6) hx hb hts hiX5 hown hK.1 hW.1 154 lkT rfl 2 (by decide) (hts _ (List.mem_of_getElem? (i := 1) rfl)) (fun _ h9 => h9) rfl dX5_keep_1 ?_
  refine lv_aload_n hx hb dX5_keep_4 rfl (lv_at hl 0 rfl) ?_
  refine va_get (D := G.1) (ci := 5) (v := .ref (gad G 0)) (C := RX5) (T := TX5) (N := 6) hx hb hts hiX5 hown hK.1 hW.1 154 lkT rfl 0 (by decide) (hts _ (List.mem_of_getElem? (i := 2) rfl)) (fun _ h9 => h9) rfl dX5_keep_5 ?_
  obtain ⟨S_1, e_2, h⟩ := bnd_e h
  refine kV_V (As := [.ref (gad G 0)]) (rest := []) ⟨hx, hb, hml, hown, hts⟩ (tX0_copyFrom l G S0 M0 2 (by omega) 0 (by omega) S_1 e_2) (cwV 1 hts gX5_keep_X0_copyFrom rfl rfl rfl ⟨rfl, hdX0_copyFrom⟩ ⟨Nat.le_of_ble_eq_true rfl, Nat.le_of_ble_eq_true rfl⟩) (va_recv hK.1 hW.1 (ci := 0) (q0 := 2) rfl (lkC (c := 2) (by omega))) hK hW hS hA rfl hl.1 rfl (Nat.le_of_ble_eq_true rfl) dX5_keep_8 ⟨Nat.zero_le _, Nat.zero_le _⟩ (fun H locs hW hS => ?_)
  refine lv_aload_n hx hb dX5_keep_11 rfl (lv_at hl 0 rfl) ?_
  refine lv_iconst (v := 1) hx hb dX5_keep_12 (by decide) ?_
  obtain ⟨S_3, eS_3, h⟩ := nam_e h
  refine va_put (D := G.1) (ci := 5) (v := .int 1) (ty := .boolean) (C := RX5) (T := TX5) (N := 6) hx hb hts hiX5 tyX5 tyX5_ok nmX5 hown hK.1 hW.1 (hW.D hA) hS 154 lkT rfl 5 (by decide) (hts _ (List.mem_of_getElem? (i := 3) rfl)) (fun _ h9 => h9) rfl (by decide +kernel) rfl rfl (Nat.le_of_ble_eq_true rfl) dX5_keep_13 (fun H locs hP hD hS => ?_)
  have hW := upT hW hP
  rw [← eS_3] at hW
  refine lv_aload_n hx hb dX5_keep_16 rfl (lv_at hl 0 rfl) ?_
  refine va_get (D := G.1) (ci := 5) (v := .ref (gad G 0)) (C := RX5) (T := TX5) (N := 6) hx hb hts hiX5 hown hK.1 hW.1 154 lkT rfl 0 (by decide) (hts _ (List.mem_of_getElem? (i := 2) rfl)) (fun _ h9 => h9) rfl dX5_keep_17 ?_
  obtain ⟨r_4, e_5, h⟩ := bnd_e h
  refine kV_I (As := []) (rest := []) ⟨hx, hb, hml, hown, hts⟩ (tX0_campersHere l G S_3 M0 0 (by omega) r_4 e_5) (cwV 0 hts gX5_keep_X0_campersHere rfl rfl rfl ⟨rfl, hdX0_campersHere⟩ ⟨Nat.le_of_ble_eq_true rfl, Nat.le_of_ble_eq_true rfl⟩) (va_recv hK.1 hW.1 (ci := 0) (q0 := 0) rfl (lkC (c := 0) (by omega))) hK hW hS hA rfl hl.1 rfl (Nat.le_of_ble_eq_true rfl) dX5_keep_20 ⟨Nat.zero_le _, Nat.zero_le _⟩ (fun H locs hW hS => ?_)
  obtain ⟨rfl, rfl⟩ := Prod.mk.inj (Option.some.inj h)
  exact W.iret hx hb hr (fun t ht hw => ⟨⟨_, (), rfl, rfl, hW.ret ht⟩, hS.F ht⟩) hS.2.2 dX5_keep_23
