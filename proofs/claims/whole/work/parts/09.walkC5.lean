abbrev rX6_neighbours : Room := { frames := 5, cells := 0, slots := 0, locals := 117 }
set_option maxRecDepth 100000 in
set_option maxHeartbeats 8000000 in
theorem tX6_neighbours (l : Launch) (G : WG) (S0 M0 : St) (p1 : Int32) (rr : Int32) (h : f6_neighbours M0 p1 = some (rr)) : CtI l yX6_neighbours wsX6_neighbours rX6_neighbours G [.ref (gad G 159), .int p1] S0 M0 rr S0 M0 := by
  refine Met.ofW (cc := cX6_neighbours) (maxL := 4) (ret := (some .int)) (by decide) rfl ?_
  intro p e s m args below meth cd s₁ B hml hv
  obtain ⟨hargs, hK, hW⟩ := hv
  have hx := B.exec
  have hb := B.bytes
  have hr := B.returns
  have hts := atoms_spec (ws := wsX6_neighbours) B.pre
  have hown : s.vm.findClass RX6 = some m.cls := findClass_of_methodNamed B.named
  have hlocks := B.notSynchronized
  have hA : ∀ q, Aw G q → Aw G q := fun _ h => h
  have hS : va_S (Aw G) s.heap s.heap [] := va_S.rf
  have he0 : entryFrame m args 4 = F0 m 0 ((lg_sl ([.ref (gad G 159), .int p1]) ++ List.replicate (4 - (lg_sl ([.ref (gad G 159), .int p1])).length) Slot.unset).toArray) [] := by rw [hargs]; exact lg_entry_eq _ _ _
  have hl := lv_entry ([.ref (gad G 159), .int p1]) (n := 4) (Nat.le_of_ble_eq_true rfl)
  rw [he0]
  generalize (lg_sl ([.ref (gad G 159), .int p1]) ++ List.replicate (4 - (lg_sl ([.ref (gad G 159), .int p1])).length) Slot.unset).toArray = ls at hl ⊢
  have hl : lv_has ls 4 [(0, .ref (gad G 159)), (1, .int p1)] := hl
  have B4 : ∀ (n : Nat), ∀ (H : Heap) (locs : List Loc) (_ : WD G S0 M0 H) (_ : va_S (Aw G) s.heap H locs) (ls : Array Slot) (l1 : Int32) (l2 : Int32) (l3 : Int32) (_ : lv_has ls 4 [(0, .ref (gad G 159)), (1, .int l1), (2, .int l2), (3, .int l3)]) (h : f6_neighbours_b4 M0 l1 n l2 l3 = some (rr)), WI p l e (headSpec wsX6_neighbours rX6_neighbours).room s m args below meth cd G rr S0 M0 H locs (F0 m 4 ls []) := by
    intro n
    induction n with
    | zero => intro H locs hW hS ls l1 l2 l3 hl h; cases (show (none : Option (Int32)) = some _ from h)
    | succ n ih =>
      have B38 : ∀ (H : Heap) (locs : List Loc) (_ : WD G S0 M0 H) (_ : va_S (Aw G) s.heap H locs) (ls : Array Slot) (l1 : Int32) (l3 : Int32) (k0 : Int32) (k1 : Int32) (_ : lv_has ls 4 [(0, .ref (gad G 159)), (1, .int l1), (3, .int l3)]) (h : f6_neighbours_b38 M0 (f6_neighbours_b4 M0 l1 n) l1 l3 k0 k1 = some (rr)), WI p l e (headSpec wsX6_neighbours rX6_neighbours).room s m args below meth cd G rr S0 M0 H locs (F0 m 38 ls [.int k0, .int k1]) := by
        intro H locs hW hS ls l1 l3 k0 k1 hl h
        unfold f6_neighbours_b38 at h
        refine lv_iadd hx hb dX6_neighbours_38 ?_
        obtain ⟨x_1, ex_1, h⟩ := nam_e h
        refine lv_ni ex_1 ?_
        refine lv_istore_n (lv' := [(2, .int x_1), (0, .ref (gad G 159)), (1, .int l1), (3, .int l3)]) hx hb dX6_neighbours_39 rfl hl (by decide) rfl (fun ls hl => ?_)
        refine lv_iinc (v := (l3 + 1)) (lv' := [(3, .int ((l3 + 1))), (2, .int x_1), (0, .ref (gad G 159)), (1, .int l1)]) hx hb dX6_neighbours_40 hl (k := 3) rfl rfl (by decide) rfl (fun ls hl => ?_)
        refine lv_goto (tgt := 4) hx hb dX6_neighbours_43 (by decide) ?_
        exact ih _ _ hW hS ls l1 x_1 ((l3 + 1)) (lv_sub hl [2, 3, 1, 0] rfl) h
      have B37 : ∀ (H : Heap) (locs : List Loc) (_ : WD G S0 M0 H) (_ : va_S (Aw G) s.heap H locs) (ls : Array Slot) (l1 : Int32) (l3 : Int32) (k0 : Int32) (_ : lv_has ls 4 [(0, .ref (gad G 159)), (1, .int l1), (3, .int l3)]) (h : f6_neighbours_b37 M0 (f6_neighbours_b4 M0 l1 n) l1 l3 k0 = some (rr)), WI p l e (headSpec wsX6_neighbours rX6_neighbours).room s m args below meth cd G rr S0 M0 H locs (F0 m 37 ls [.int k0]) := by
        intro H locs hW hS ls l1 l3 k0 hl h
        unfold f6_neighbours_b37 at h
        refine lv_iconst (v := 0) hx hb dX6_neighbours_37 (by decide) ?_
        exact B38 _ _ hW hS ls l1 l3 0 k0 (lv_sub hl [0, 1, 2] rfl) h
      intro H locs hW hS ls l1 l2 l3 hl h
      rw [f6_neighbours_b4] at h
      refine lv_iload_n hx hb dX6_neighbours_4 rfl (lv_at hl 3 rfl) ?_
      refine lv_bipush (v := 16) hx hb dX6_neighbours_5 (by decide) ?_
      refine lv_icmp_ge (tgt := 46) hx hb dX6_neighbours_7 (by decide) (fun c_1 => ?_) (fun c_1 => ?_)
      · have h := ite_t c_1 h
        refine lv_iload_n hx hb dX6_neighbours_46 rfl (lv_at hl 2 rfl) ?_
        obtain rfl := Option.some.inj h
        exact W.iret hx hb hr (fun t ht hw => ⟨⟨_, (), rfl, rfl, hW.ret ht⟩, hS.F ht⟩) hS.2.2 dX6_neighbours_47
      · have h := ite_f c_1 h
        refine lv_iload_n hx hb dX6_neighbours_10 rfl (lv_at hl 2 rfl) ?_
        refine lv_iload_n hx hb dX6_neighbours_11 rfl (lv_at hl 3 rfl) ?_
        refine lv_iload_n hx hb dX6_neighbours_12 rfl (lv_at hl 1 rfl) ?_
        refine lv_icmp_eq (tgt := 37) hx hb dX6_neighbours_13 (by decide) (fun c_2 => ?_) (fun c_2 => ?_)
        · have h := ite_t c_2 h
          exact B37 _ _ hW hS ls l1 l3 l2 (lv_sub hl [0, 1, 3] rfl) h
        · have h := ite_f c_2 h
          refine lv_aload_n hx hb dX6_neighbours_16 rfl (lv_at hl 0 rfl) ?_
          refine lv_iload_n hx hb dX6_neighbours_17 rfl (lv_at hl 3 rfl) ?_
          obtain ⟨r_3, e_4, h⟩ := bnd_e h
          refine kV_I (As := [.int l3]) (rest := [.int l2]) ⟨hx, hb, hml, hown, hts⟩ (tX6_isHere l G S0 M0 l3 r_3 e_4) (cwV 1 hts gX6_neighbours_X6_isHere rfl rfl rfl ⟨rfl, hdX6_isHere⟩ ⟨Nat.le_of_ble_eq_true rfl, Nat.le_of_ble_eq_true rfl⟩) (va_recv hK.1 hW.1 (ci := 6) (q0 := 159) rfl lkM) hK hW hS hA rfl hl.1 rfl (Nat.le_of_ble_eq_true rfl) dX6_neighbours_18 ⟨Nat.zero_le _, Nat.zero_le _⟩ (fun H locs hW hS => ?_)
          refine lv_if_eq (tgt := 37) hx hb dX6_neighbours_21 (by decide) (fun c_5 => ?_) (fun c_5 => ?_)
          · have h := ite_t c_5 h
            exact B37 _ _ hW hS ls l1 l3 l2 (lv_sub hl [0, 1, 3] rfl) h
          · have h := ite_f c_5 h
            refine lv_aload_n hx hb dX6_neighbours_24 rfl (lv_at hl 0 rfl) ?_
            refine lv_iload_n hx hb dX6_neighbours_25 rfl (lv_at hl 1 rfl) ?_
            refine lv_iload_n hx hb dX6_neighbours_26 rfl (lv_at hl 3 rfl) ?_
            obtain ⟨r_6, e_7, h⟩ := bnd_e h
            refine kV_I (As := [.int l1, .int l3]) (rest := [.int l2]) ⟨hx, hb, hml, hown, hts⟩ (tX6_areBeside l G S0 M0 l1 l3 r_6 e_7) (cwV 2 hts gX6_neighbours_X6_areBeside rfl rfl rfl ⟨rfl, hdX6_areBeside⟩ ⟨Nat.le_of_ble_eq_true rfl, Nat.le_of_ble_eq_true rfl⟩) (va_recv hK.1 hW.1 (ci := 6) (q0 := 159) rfl lkM) hK hW hS hA rfl hl.1 rfl (Nat.le_of_ble_eq_true rfl) dX6_neighbours_27 ⟨Nat.zero_le _, Nat.zero_le _⟩ (fun H locs hW hS => ?_)
            refine lv_if_eq (tgt := 37) hx hb dX6_neighbours_30 (by decide) (fun c_8 => ?_) (fun c_8 => ?_)
            · have h := ite_t c_8 h
              exact B37 _ _ hW hS ls l1 l3 l2 (lv_sub hl [0, 1, 3] rfl) h
            · have h := ite_f c_8 h
              refine lv_iconst (v := 1) hx hb dX6_neighbours_33 (by decide) ?_
              refine lv_goto (tgt := 38) hx hb dX6_neighbours_34 (by decide) ?_
              exact B38 _ _ hW hS ls l1 l3 1 l2 (lv_sub hl [0, 1, 3] rfl) h
  unfold f6_neighbours at h
  refine lv_iconst (v := 0) hx hb dX6_neighbours_0 (by decide) ?_
  refine lv_istore_n (lv' := [(2, .int 0), (0, .ref (gad G 159)), (1, .int p1)]) hx hb dX6_neighbours_1 rfl hl (by decide) rfl (fun ls hl => ?_)
  refine lv_iconst (v := 0) hx hb dX6_neighbours_2 (by decide) ?_
  refine lv_istore_n (lv' := [(3, .int 0), (2, .int 0), (0, .ref (gad G 159)), (1, .int p1)]) hx hb dX6_neighbours_3 rfl hl (by decide) rfl (fun ls hl => ?_)
  exact B4 fuelN _ _ hW hS ls p1 0 0 (lv_sub hl [2, 3, 1, 0] rfl) h
abbrev rX6_loudness : Room := { frames := 5, cells := 0, slots := 0, locals := 111 }
set_option maxRecDepth 100000 in
set_option maxHeartbeats 8000000 in
theorem tX6_loudness (l : Launch) (G : WG) (S0 M0 : St) (p1 : Int32) (rr : UInt32) (h : f6_loudness M0 p1 = some (rr)) : CtF l yX6_loudness wsX6_loudness rX6_loudness G [.ref (gad G 159), .int p1] S0 M0 rr S0 M0 := by
  refine Met.ofW (cc := cX6_loudness) (maxL := 4) (ret := (some .float)) (by decide) rfl ?_
  intro p e s m args below meth cd s₁ B hml hv
  obtain ⟨hargs, hK, hW⟩ := hv
  have hx := B.exec
  have hb := B.bytes
  have hr := B.returns
  have hts := atoms_spec (ws := wsX6_loudness) B.pre
  have hown : s.vm.findClass RX6 = some m.cls := findClass_of_methodNamed B.named
  have hlocks := B.notSynchronized
  have hA : ∀ q, Aw G q → Aw G q := fun _ h => h
  have hS : va_S (Aw G) s.heap s.heap [] := va_S.rf
  have he0 : entryFrame m args 4 = F0 m 0 ((lg_sl ([.ref (gad G 159), .int p1]) ++ List.replicate (4 - (lg_sl ([.ref (gad G 159), .int p1])).length) Slot.unset).toArray) [] := by rw [hargs]; exact lg_entry_eq _ _ _
  have hl := lv_entry ([.ref (gad G 159), .int p1]) (n := 4) (Nat.le_of_ble_eq_true rfl)
  rw [he0]
  generalize (lg_sl ([.ref (gad G 159), .int p1]) ++ List.replicate (4 - (lg_sl ([.ref (gad G 159), .int p1])).length) Slot.unset).toArray = ls at hl ⊢
  have hl : lv_has ls 4 [(0, .ref (gad G 159)), (1, .int p1)] := hl
  have hiX6 : ∀ w ∈ u_ws RX6 TX6 14, w ∈ wsX6_loudness := by decide +kernel
  have B4 : ∀ (n : Nat), ∀ (H : Heap) (locs : List Loc) (_ : WD G S0 M0 H) (_ : va_S (Aw G) s.heap H locs) (ls : Array Slot) (l1 : Int32) (l2 : UInt32) (l3 : Int32) (_ : lv_has ls 4 [(0, .ref (gad G 159)), (1, .int l1), (2, .float l2), (3, .int l3)]) (h : f6_loudness_b4 M0 l1 n l2 l3 = some (rr)), WF p l e (headSpec wsX6_loudness rX6_loudness).room s m args below meth cd G rr S0 M0 H locs (F0 m 4 ls []) := by
    intro n
    induction n with
    | zero => intro H locs hW hS ls l1 l2 l3 hl h; cases (show (none : Option (UInt32)) = some _ from h)
    | succ n ih =>
      have B38 : ∀ (H : Heap) (locs : List Loc) (_ : WD G S0 M0 H) (_ : va_S (Aw G) s.heap H locs) (ls : Array Slot) (l1 : Int32) (l3 : Int32) (k0 : UInt32) (_ : lv_has ls 4 [(0, .ref (gad G 159)), (1, .int l1), (3, .int l3)]) (h : f6_loudness_b38 M0 (f6_loudness_b4 M0 l1 n) l1 l3 k0 = some (rr)), WF p l e (headSpec wsX6_loudness rX6_loudness).room s m args below meth cd G rr S0 M0 H locs (F0 m 38 ls [.float k0]) := by
        intro H locs hW hS ls l1 l3 k0 hl h
        unfold f6_loudness_b38 at h
        refine lv_fstore_n (lv' := [(2, .float k0), (0, .ref (gad G 159)), (1, .int l1), (3, .int l3)]) hx hb dX6_loudness_38 rfl hl (by decide) rfl (fun ls hl => ?_)
        refine lv_iinc (v := (l3 + 1)) (lv' := [(3, .int ((l3 + 1))), (2, .float k0), (0, .ref (gad G 159)), (1, .int l1)]) hx hb dX6_loudness_39 hl (k := 3) rfl rfl (by decide) rfl (fun ls hl => ?_)
        refine lv_goto (tgt := 4) hx hb dX6_loudness_42 (by decide) ?_
        exact ih _ _ hW hS ls l1 k0 ((l3 + 1)) (lv_sub hl [2, 3, 1, 0] rfl) h
      intro H locs hW hS ls l1 l2 l3 hl h
      rw [f6_loudness_b4] at h
      refine lv_iload_n hx hb dX6_loudness_4 rfl (lv_at hl 3 rfl) ?_
      refine lv_aload_n hx hb dX6_loudness_5 rfl (lv_at hl 0 rfl) ?_
      refine va_get (D := G.1) (ci := 6) (v := .ref (gad G (160 + 0))) (C := RX6) (T := TX6) (N := 14) hx hb hts hiX6 hown hK.1 hW.1 159 lkM rfl 1 (by decide) (hts _ (List.mem_of_getElem? (i := 1) rfl)) (fun _ h9 => h9) rfl dX6_loudness_6 ?_
      refine lv_iconst (v := 2) hx hb dX6_loudness_9 (by decide) ?_
      obtain ⟨x_1, nx_1, ex_1, h⟩ := arr_e h
      refine va_iald hx hb hK.1 hW.1 (160 + 0) 0 (lkMa (j := 0) (by omega)) rfl nx_1 dX6_loudness_10 ?_
      refine lv_ni ex_1 ?_
      refine lv_icmp_ge (tgt := 45) hx hb dX6_loudness_11 (by decide) (fun c_2 => ?_) (fun c_2 => ?_)
      · have h := ite_t c_2 h
        refine lv_fload_n hx hb dX6_loudness_45 rfl (lv_at hl 2 rfl) ?_
        obtain rfl := Option.some.inj h
        exact W.fret hx hb hr (fun t ht hw => ⟨⟨_, (), rfl, rfl, hW.ret ht⟩, hS.F ht⟩) hS.2.2 dX6_loudness_46
      · have h := ite_f c_2 h
        refine lv_aload_n hx hb dX6_loudness_14 rfl (lv_at hl 0 rfl) ?_
        refine lv_iload_n hx hb dX6_loudness_15 rfl (lv_at hl 3 rfl) ?_
        obtain ⟨r_3, e_4, h⟩ := bnd_e h
        refine kV_I (As := [.int l3]) (rest := []) ⟨hx, hb, hml, hown, hts⟩ (tX6_singer l G S0 M0 l3 r_3 e_4) (cwV 1 hts gX6_loudness_X6_singer rfl rfl rfl ⟨rfl, hdX6_singer⟩ ⟨Nat.le_of_ble_eq_true rfl, Nat.le_of_ble_eq_true rfl⟩) (va_recv hK.1 hW.1 (ci := 6) (q0 := 159) rfl lkM) hK hW hS hA rfl hl.1 rfl (Nat.le_of_ble_eq_true rfl) dX6_loudness_16 ⟨Nat.zero_le _, Nat.zero_le _⟩ (fun H locs hW hS => ?_)
        refine lv_iload_n hx hb dX6_loudness_19 rfl (lv_at hl 1 rfl) ?_
        refine lv_icmp_ne (tgt := 37) hx hb dX6_loudness_20 (by decide) (fun c_5 => ?_) (fun c_5 => ?_)
        · have h := ite_f c_5 h
          refine lv_fload_n hx hb dX6_loudness_37 rfl (lv_at hl 2 rfl) ?_
          exact B38 _ _ hW hS ls l1 l3 l2 (lv_sub hl [0, 1, 3] rfl) h
        · have h := ite_t c_5 h
          refine lv_fload_n hx hb dX6_loudness_23 rfl (lv_at hl 2 rfl) ?_
          refine lv_aload_n hx hb dX6_loudness_24 rfl (lv_at hl 0 rfl) ?_
          refine lv_iload_n hx hb dX6_loudness_25 rfl (lv_at hl 3 rfl) ?_
          refine lv_iconst (v := 2) hx hb dX6_loudness_26 (by decide) ?_
          obtain ⟨r_6, e_7, h⟩ := bnd_e h
          refine kV_I (As := [.int l3, .int 2]) (rest := [.float l2]) ⟨hx, hb, hml, hown, hts⟩ (tX6_ofSong l G S0 M0 l3 2 r_6 e_7) (cwV 2 hts gX6_loudness_X6_ofSong rfl rfl rfl ⟨rfl, hdX6_ofSong⟩ ⟨Nat.le_of_ble_eq_true rfl, Nat.le_of_ble_eq_true rfl⟩) (va_recv hK.1 hW.1 (ci := 6) (q0 := 159) rfl lkM) hK hW hS hA rfl hl.1 rfl (Nat.le_of_ble_eq_true rfl) dX6_loudness_27 ⟨Nat.zero_le _, Nat.zero_le _⟩ (fun H locs hW hS => ?_)
          obtain ⟨r_8, e_9, h⟩ := bnd_e h
          refine kS_F (As := [.int r_6]) (rest := [.float l2]) ⟨hx, hb, hml, hown, hts⟩ (tX6_loud l G S0 M0 r_6 r_8 e_9) (va_cwS 1 hts gX6_loudness_X6_loud rfl rfl rfl hdX6_loud ⟨Nat.le_of_ble_eq_true rfl, Nat.le_of_ble_eq_true rfl⟩) hK hW hS hA rfl hl.1 rfl (Nat.le_of_ble_eq_true rfl) dX6_loudness_30 ⟨Nat.zero_le _, Nat.zero_le _⟩ (fun H locs hW hS => ?_)
          obtain ⟨x_10, nx_10, ex_10, h⟩ := fnn_e h
          refine lv_fadd hx hb dX6_loudness_33 nx_10 ?_
          refine lv_nf ex_10 ?_
          refine lv_goto (tgt := 38) hx hb dX6_loudness_34 (by decide) ?_
          exact B38 _ _ hW hS ls l1 l3 x_10 (lv_sub hl [0, 1, 3] rfl) h
  unfold f6_loudness at h
  refine lv_fconst0 hx hb dX6_loudness_0 ?_
  refine lv_fstore_n (lv' := [(2, .float FP.fconst0), (0, .ref (gad G 159)), (1, .int p1)]) hx hb dX6_loudness_1 rfl hl (by decide) rfl (fun ls hl => ?_)
  refine lv_iconst (v := 0) hx hb dX6_loudness_2 (by decide) ?_
  refine lv_istore_n (lv' := [(3, .int 0), (2, .float FP.fconst0), (0, .ref (gad G 159)), (1, .int p1)]) hx hb dX6_loudness_3 rfl hl (by decide) rfl (fun ls hl => ?_)
  exact B4 fuelN _ _ hW hS ls p1 FP.fconst0 0 (lv_sub hl [2, 3, 1, 0] rfl) h
abbrev rX6_camper : Room := { frames := 6, cells := 0, slots := 0, locals := 140 }
set_option maxRecDepth 100000 in
set_option maxHeartbeats 8000000 in
theorem tX6_camper (l : Launch) (G : WG) (S0 M0 : St) (p1 : Int32) (p2 : Int32) (rr : Int32) (M' : St) (h : f6_camper M0 p1 p2 = some (rr, M')) : CtI l yX6_camper wsX6_camper rX6_camper G [.ref (gad G 159), .int p1, .int p2] S0 M0 rr S0 M' := by
  refine Met.ofW (cc := cX6_camper) (maxL := 3) (ret := (some .int)) (by decide) rfl ?_
  intro p e s m args below meth cd s₁ B hml hv
  obtain ⟨hargs, hK, hW⟩ := hv
  have hx := B.exec
  have hb := B.bytes
  have hr := B.returns
  have hts := atoms_spec (ws := wsX6_camper) B.pre
  have hown : s.vm.findClass RX6 = some m.cls := findClass_of_methodNamed B.named
  have hlocks := B.notSynchronized
  have hA : ∀ q, Aw G q → Aw G q := fun _ h => h
  have hS : va_S (Aw G) s.heap s.heap [] := va_S.rf
  have he0 : entryFrame m args 3 = F0 m 0 ((lg_sl ([.ref (gad G 159), .int p1, .int p2]) ++ List.replicate (3 - (lg_sl ([.ref (gad G 159), .int p1, .int p2])).length) Slot.unset).toArray) [] := by rw [hargs]; exact lg_entry_eq _ _ _
  have hl := lv_entry ([.ref (gad G 159), .int p1, .int p2]) (n := 3) (Nat.le_of_ble_eq_true rfl)
  rw [he0]
  generalize (lg_sl ([.ref (gad G 159), .int p1, .int p2]) ++ List.replicate (3 - (lg_sl ([.ref (gad G 159), .int p1, .int p2])).length) Slot.unset).toArray = ls at hl ⊢
  have hl : lv_has ls 3 [(0, .ref (gad G 159)), (1, .int p1), (2, .int p2)] := hl
  have hiX6 : ∀ w ∈ u_ws RX6 TX6 14, w ∈ wsX6_camper := by decide +kernel
  unfold f6_camper at h
  refine lv_aload_n hx hb dX6_camper_0 rfl (lv_at hl 0 rfl) ?_
  refine lv_iconst (v := 0) hx hb dX6_camper_1 (by decide) ?_
  obtain ⟨M_1, eM_1, h⟩ := nam_e h
  refine va_put (D := G.1) (ci := 6) (v := .int 0) (ty := .int) (C := RX6) (T := TX6) (N := 14) hx hb hts hiX6 tyX6 tyX6_ok nmX6 hown hK.1 hW.1 (hW.D hA) hS 159 lkM rfl 0 (by decide) (hts _ (List.mem_of_getElem? (i := 1) rfl)) (fun _ h9 => h9) rfl (by decide +kernel) rfl rfl (Nat.le_of_ble_eq_true rfl) dX6_camper_2 (fun H locs hP hD hS => ?_)
  have hW := upM0 hW hP
  rw [← eM_1] at hW
  refine lv_aload_n hx hb dX6_camper_5 rfl (lv_at hl 0 rfl) ?_
  refine lv_iload_n hx hb dX6_camper_6 rfl (lv_at hl 1 rfl) ?_
  obtain ⟨r_2, e_3, h⟩ := bnd_e h
  refine kV_I (As := [.int p1]) (rest := []) ⟨hx, hb, hml, hown, hts⟩ (tX6_isHere l G S0 M_1 p1 r_2 e_3) (cwV 1 hts gX6_camper_X6_isHere rfl rfl rfl ⟨rfl, hdX6_isHere⟩ ⟨Nat.le_of_ble_eq_true rfl, Nat.le_of_ble_eq_true rfl⟩) (va_recv hK.1 hW.1 (ci := 6) (q0 := 159) rfl lkM) hK hW hS hA rfl hl.1 rfl (Nat.le_of_ble_eq_true rfl) dX6_camper_7 ⟨Nat.zero_le _, Nat.zero_le _⟩ (fun H locs hW hS => ?_)
  refine lv_if_ne (tgt := 15) hx hb dX6_camper_10 (by decide) (fun c_4 => ?_) (fun c_4 => ?_)
  · have h := ite_f c_4 h
    refine lv_iload_n hx hb dX6_camper_15 rfl (lv_at hl 2 rfl) ?_
    by_cases c_5 : Int32.toInt p2 < 0 ∨ 6 < Int32.toInt p2
    · have h := ite_t c_5 h
      refine lv_tableOut (tgt := 102) hx hb dX6_camper_16 c_5 (by decide) ?_
      refine lv_bipush (v := (-2)) hx hb dX6_camper_102 (by decide) ?_
      obtain ⟨rfl, rfl⟩ := Prod.mk.inj (Option.some.inj h)
      exact W.iret hx hb hr (fun t ht hw => ⟨⟨_, (), rfl, rfl, hW.ret ht⟩, hS.F ht⟩) hS.2.2 dX6_camper_104
    · have h := ite_f c_5 h
      by_cases c_6 : (p2 : Int32) = 0
      · have h := ite_t c_6 h
        refine lv_tableIn (off := 44) (tgt := 60) hx hb dX6_camper_16 (by rw [c_6]; decide) (by rw [c_6]; decide) (by rw [c_6]; rfl) (by decide) ?_
        refine lv_aload_n hx hb dX6_camper_60 rfl (lv_at hl 0 rfl) ?_
        refine lv_iload_n hx hb dX6_camper_61 rfl (lv_at hl 1 rfl) ?_
        refine lv_iconst (v := 1) hx hb dX6_camper_62 (by decide) ?_
        refine lv_iload_n hx hb dX6_camper_63 rfl (lv_at hl 2 rfl) ?_
        refine lv_iadd hx hb dX6_camper_64 ?_
        obtain ⟨r_7, e_8, h⟩ := bnd_e h
        refine kV_I (As := [.int p1, .int ((1 + p2))]) (rest := []) ⟨hx, hb, hml, hown, hts⟩ (tX6_ofCamper l G S0 M_1 p1 ((1 + p2)) r_7 e_8) (cwV 2 hts gX6_camper_X6_ofCamper rfl rfl rfl ⟨rfl, hdX6_ofCamper⟩ ⟨Nat.le_of_ble_eq_true rfl, Nat.le_of_ble_eq_true rfl⟩) (va_recv hK.1 hW.1 (ci := 6) (q0 := 159) rfl lkM) hK hW hS hA rfl hl.1 rfl (Nat.le_of_ble_eq_true rfl) dX6_camper_65 ⟨Nat.zero_le _, Nat.zero_le _⟩ (fun H locs hW hS => ?_)
        obtain ⟨rfl, rfl⟩ := Prod.mk.inj (Option.some.inj h)
        exact W.iret hx hb hr (fun t ht hw => ⟨⟨_, (), rfl, rfl, hW.ret ht⟩, hS.F ht⟩) hS.2.2 dX6_camper_68
      · have h := ite_f c_6 h
        by_cases c_9 : (p2 : Int32) = 1
        · have h := ite_t c_9 h
          refine lv_tableIn (off := 44) (tgt := 60) hx hb dX6_camper_16 (by rw [c_9]; decide) (by rw [c_9]; decide) (by rw [c_9]; rfl) (by decide) ?_
          refine lv_aload_n hx hb dX6_camper_60 rfl (lv_at hl 0 rfl) ?_
          refine lv_iload_n hx hb dX6_camper_61 rfl (lv_at hl 1 rfl) ?_
          refine lv_iconst (v := 1) hx hb dX6_camper_62 (by decide) ?_
          refine lv_iload_n hx hb dX6_camper_63 rfl (lv_at hl 2 rfl) ?_
          refine lv_iadd hx hb dX6_camper_64 ?_
          obtain ⟨r_10, e_11, h⟩ := bnd_e h
          refine kV_I (As := [.int p1, .int ((1 + p2))]) (rest := []) ⟨hx, hb, hml, hown, hts⟩ (tX6_ofCamper l G S0 M_1 p1 ((1 + p2)) r_10 e_11) (cwV 2 hts gX6_camper_X6_ofCamper rfl rfl rfl ⟨rfl, hdX6_ofCamper⟩ ⟨Nat.le_of_ble_eq_true rfl, Nat.le_of_ble_eq_true rfl⟩) (va_recv hK.1 hW.1 (ci := 6) (q0 := 159) rfl lkM) hK hW hS hA rfl hl.1 rfl (Nat.le_of_ble_eq_true rfl) dX6_camper_65 ⟨Nat.zero_le _, Nat.zero_le _⟩ (fun H locs hW hS => ?_)
          obtain ⟨rfl, rfl⟩ := Prod.mk.inj (Option.some.inj h)
          exact W.iret hx hb hr (fun t ht hw => ⟨⟨_, (), rfl, rfl, hW.ret ht⟩, hS.F ht⟩) hS.2.2 dX6_camper_68
        · have h := ite_f c_9 h
          by_cases c_12 : (p2 : Int32) = 2
          · have h := ite_t c_12 h
            refine lv_tableIn (off := 53) (tgt := 69) hx hb dX6_camper_16 (by rw [c_12]; decide) (by rw [c_12]; decide) (by rw [c_12]; rfl) (by decide) ?_
            refine lv_aload_n hx hb dX6_camper_69 rfl (lv_at hl 0 rfl) ?_
            refine lv_iload_n hx hb dX6_camper_70 rfl (lv_at hl 1 rfl) ?_
            obtain ⟨r_13, e_14, h⟩ := bnd_e h
            refine kV_I (As := [.int p1]) (rest := []) ⟨hx, hb, hml, hown, hts⟩ (tX6_plotsOf l G S0 M_1 p1 r_13 e_14) (cwV 1 hts gX6_camper_X6_plotsOf rfl rfl rfl ⟨rfl, hdX6_plotsOf⟩ ⟨Nat.le_of_ble_eq_true rfl, Nat.le_of_ble_eq_true rfl⟩) (va_recv hK.1 hW.1 (ci := 6) (q0 := 159) rfl lkM) hK hW hS hA rfl hl.1 rfl (Nat.le_of_ble_eq_true rfl) dX6_camper_71 ⟨Nat.zero_le _, Nat.zero_le _⟩ (fun H locs hW hS => ?_)
            obtain ⟨rfl, rfl⟩ := Prod.mk.inj (Option.some.inj h)
            exact W.iret hx hb hr (fun t ht hw => ⟨⟨_, (), rfl, rfl, hW.ret ht⟩, hS.F ht⟩) hS.2.2 dX6_camper_74
          · have h := ite_f c_12 h
            by_cases c_15 : (p2 : Int32) = 3
            · have h := ite_t c_15 h
              refine lv_tableIn (off := 59) (tgt := 75) hx hb dX6_camper_16 (by rw [c_15]; decide) (by rw [c_15]; decide) (by rw [c_15]; rfl) (by decide) ?_
              refine lv_aload_n hx hb dX6_camper_75 rfl (lv_at hl 0 rfl) ?_
              refine lv_iload_n hx hb dX6_camper_76 rfl (lv_at hl 1 rfl) ?_
              obtain ⟨r_16, e_17, h⟩ := bnd_e h
              refine kV_I (As := [.int p1]) (rest := []) ⟨hx, hb, hml, hown, hts⟩ (tX6_areaOf l G S0 M_1 p1 r_16 e_17) (cwV 1 hts gX6_camper_X6_areaOf rfl rfl rfl ⟨rfl, hdX6_areaOf⟩ ⟨Nat.le_of_ble_eq_true rfl, Nat.le_of_ble_eq_true rfl⟩) (va_recv hK.1 hW.1 (ci := 6) (q0 := 159) rfl lkM) hK hW hS hA rfl hl.1 rfl (Nat.le_of_ble_eq_true rfl) dX6_camper_77 ⟨Nat.zero_le _, Nat.zero_le _⟩ (fun H locs hW hS => ?_)
              obtain ⟨rfl, rfl⟩ := Prod.mk.inj (Option.some.inj h)
              exact W.iret hx hb hr (fun t ht hw => ⟨⟨_, (), rfl, rfl, hW.ret ht⟩, hS.F ht⟩) hS.2.2 dX6_camper_80
            · have h := ite_f c_15 h
              by_cases c_18 : (p2 : Int32) = 4
              · have h := ite_t c_18 h
                refine lv_tableIn (off := 65) (tgt := 81) hx hb dX6_camper_16 (by rw [c_18]; decide) (by rw [c_18]; decide) (by rw [c_18]; rfl) (by decide) ?_
                refine lv_aload_n hx hb dX6_camper_81 rfl (lv_at hl 0 rfl) ?_
                refine lv_iload_n hx hb dX6_camper_82 rfl (lv_at hl 1 rfl) ?_
                obtain ⟨r_19, e_20, h⟩ := bnd_e h
                refine kV_I (As := [.int p1]) (rest := []) ⟨hx, hb, hml, hown, hts⟩ (tX6_songsOf l G S0 M_1 p1 r_19 e_20) (cwV 1 hts gX6_camper_X6_songsOf rfl rfl rfl ⟨rfl, hdX6_songsOf⟩ ⟨Nat.le_of_ble_eq_true rfl, Nat.le_of_ble_eq_true rfl⟩) (va_recv hK.1 hW.1 (ci := 6) (q0 := 159) rfl lkM) hK hW hS hA rfl hl.1 rfl (Nat.le_of_ble_eq_true rfl) dX6_camper_83 ⟨Nat.zero_le _, Nat.zero_le _⟩ (fun H locs hW hS => ?_)
                obtain ⟨rfl, rfl⟩ := Prod.mk.inj (Option.some.inj h)
                exact W.iret hx hb hr (fun t ht hw => ⟨⟨_, (), rfl, rfl, hW.ret ht⟩, hS.F ht⟩) hS.2.2 dX6_camper_86
              · have h := ite_f c_18 h
                by_cases c_21 : (p2 : Int32) = 5
                · have h := ite_t c_21 h
                  refine lv_tableIn (off := 71) (tgt := 87) hx hb dX6_camper_16 (by rw [c_21]; decide) (by rw [c_21]; decide) (by rw [c_21]; rfl) (by decide) ?_
                  refine lv_aload_n hx hb dX6_camper_87 rfl (lv_at hl 0 rfl) ?_
                  refine lv_iload_n hx hb dX6_camper_88 rfl (lv_at hl 1 rfl) ?_
                  obtain ⟨r_22, e_23, h⟩ := bnd_e h
                  refine kV_I (As := [.int p1]) (rest := []) ⟨hx, hb, hml, hown, hts⟩ (tX6_neighbours l G S0 M_1 p1 r_22 e_23) (cwV 1 hts gX6_camper_X6_neighbours rfl rfl rfl ⟨rfl, hdX6_neighbours⟩ ⟨Nat.le_of_ble_eq_true rfl, Nat.le_of_ble_eq_true rfl⟩) (va_recv hK.1 hW.1 (ci := 6) (q0 := 159) rfl lkM) hK hW hS hA rfl hl.1 rfl (Nat.le_of_ble_eq_true rfl) dX6_camper_89 ⟨Nat.zero_le _, Nat.zero_le _⟩ (fun H locs hW hS => ?_)
                  obtain ⟨rfl, rfl⟩ := Prod.mk.inj (Option.some.inj h)
                  exact W.iret hx hb hr (fun t ht hw => ⟨⟨_, (), rfl, rfl, hW.ret ht⟩, hS.F ht⟩) hS.2.2 dX6_camper_92
                · have h := ite_f c_21 h
                  by_cases c_24 : (p2 : Int32) = 6
                  · have h := ite_t c_24 h
                    refine lv_tableIn (off := 77) (tgt := 93) hx hb dX6_camper_16 (by rw [c_24]; decide) (by rw [c_24]; decide) (by rw [c_24]; rfl) (by decide) ?_
                    refine lv_aload_n hx hb dX6_camper_93 rfl (lv_at hl 0 rfl) ?_
                    refine lv_iload_n hx hb dX6_camper_94 rfl (lv_at hl 1 rfl) ?_
                    obtain ⟨r_25, e_26, h⟩ := bnd_e h
                    refine kV_F (As := [.int p1]) (rest := []) ⟨hx, hb, hml, hown, hts⟩ (tX6_loudness l G S0 M_1 p1 r_25 e_26) (cwV 1 hts gX6_camper_X6_loudness rfl rfl rfl ⟨rfl, hdX6_loudness⟩ ⟨Nat.le_of_ble_eq_true rfl, Nat.le_of_ble_eq_true rfl⟩) (va_recv hK.1 hW.1 (ci := 6) (q0 := 159) rfl lkM) hK hW hS hA rfl hl.1 rfl (Nat.le_of_ble_eq_true rfl) dX6_camper_95 ⟨Nat.zero_le _, Nat.zero_le _⟩ (fun H locs hW hS => ?_)
                    obtain ⟨r_27, e_28, h⟩ := bnd_e h
                    refine kS_I (As := [.float r_25]) (rest := []) ⟨hx, hb, hml, hown, hts⟩ (tJxf58ca_floatToIntBits_5c35a l G S0 M_1 r_25 r_27 e_28) (va_cwS 1 hts gX6_camper_Jxf58ca_floatToIntBits_5c35a rfl rfl rfl hdJxf58ca_floatToIntBits_5c35a ⟨Nat.le_of_ble_eq_true rfl, Nat.le_of_ble_eq_true rfl⟩) hK hW hS hA rfl hl.1 rfl (Nat.le_of_ble_eq_true rfl) dX6_camper_98 ⟨Nat.zero_le _, Nat.zero_le _⟩ (fun H locs hW hS => ?_)
                    obtain ⟨rfl, rfl⟩ := Prod.mk.inj (Option.some.inj h)
                    exact W.iret hx hb hr (fun t ht hw => ⟨⟨_, (), rfl, rfl, hW.ret ht⟩, hS.F ht⟩) hS.2.2 dX6_camper_101
                  · have h := ite_f c_24 h
                    cases h
  · have h := ite_t c_4 h
    refine lv_iconst (v := (-1)) hx hb dX6_camper_13 (by decide) ?_
    obtain ⟨rfl, rfl⟩ := Prod.mk.inj (Option.some.inj h)
    exact W.iret hx hb hr (fun t ht hw => ⟨⟨_, (), rfl, rfl, hW.ret ht⟩, hS.F ht⟩) hS.2.2 dX6_camper_14
abbrev rX6_rankOf : Room := { frames := 2, cells := 0, slots := 0, locals := 45 }
set_option maxRecDepth 100000 in
set_option maxHeartbeats 8000000 in
theorem tX6_rankOf (l : Launch) (G : WG) (S0 M0 : St) (p1 : Int32) (rr : Int32) (h : f6_rankOf M0 p1 = some (rr)) : CtI l yX6_rankOf wsX6_rankOf rX6_rankOf G [.ref (gad G 159), .int p1] S0 M0 rr S0 M0 := by
  refine Met.ofW (cc := cX6_rankOf) (maxL := 4) (ret := (some .int)) (by decide) rfl ?_
  intro p e s m args below meth cd s₁ B hml hv
  obtain ⟨hargs, hK, hW⟩ := hv
  have hx := B.exec
  have hb := B.bytes
  have hr := B.returns
  have hts := atoms_spec (ws := wsX6_rankOf) B.pre
  have hown : s.vm.findClass RX6 = some m.cls := findClass_of_methodNamed B.named
  have hlocks := B.notSynchronized
  have hA : ∀ q, Aw G q → Aw G q := fun _ h => h
  have hS : va_S (Aw G) s.heap s.heap [] := va_S.rf
  have he0 : entryFrame m args 4 = F0 m 0 ((lg_sl ([.ref (gad G 159), .int p1]) ++ List.replicate (4 - (lg_sl ([.ref (gad G 159), .int p1])).length) Slot.unset).toArray) [] := by rw [hargs]; exact lg_entry_eq _ _ _
  have hl := lv_entry ([.ref (gad G 159), .int p1]) (n := 4) (Nat.le_of_ble_eq_true rfl)
  rw [he0]
  generalize (lg_sl ([.ref (gad G 159), .int p1]) ++ List.replicate (4 - (lg_sl ([.ref (gad G 159), .int p1])).length) Slot.unset).toArray = ls at hl ⊢
  have hl : lv_has ls 4 [(0, .ref (gad G 159)), (1, .int p1)] := hl
  have hiX6 : ∀ w ∈ u_ws RX6 TX6 14, w ∈ wsX6_rankOf := by decide +kernel
  have B4 : ∀ (n : Nat), ∀ (H : Heap) (locs : List Loc) (_ : WD G S0 M0 H) (_ : va_S (Aw G) s.heap H locs) (ls : Array Slot) (l1 : Int32) (l2 : Int32) (l3 : Int32) (_ : lv_has ls 4 [(0, .ref (gad G 159)), (1, .int l1), (2, .int l2), (3, .int l3)]) (h : f6_rankOf_b4 M0 l1 n l2 l3 = some (rr)), WI p l e (headSpec wsX6_rankOf rX6_rankOf).room s m args below meth cd G rr S0 M0 H locs (F0 m 4 ls []) := by
    intro n
    induction n with
    | zero => intro H locs hW hS ls l1 l2 l3 hl h; cases (show (none : Option (Int32)) = some _ from h)
    | succ n ih =>
      have B44 : ∀ (H : Heap) (locs : List Loc) (_ : WD G S0 M0 H) (_ : va_S (Aw G) s.heap H locs) (ls : Array Slot) (l1 : Int32) (l3 : Int32) (k0 : Int32) (k1 : Int32) (_ : lv_has ls 4 [(0, .ref (gad G 159)), (1, .int l1), (3, .int l3)]) (h : f6_rankOf_b44 M0 (f6_rankOf_b4 M0 l1 n) l1 l3 k0 k1 = some (rr)), WI p l e (headSpec wsX6_rankOf rX6_rankOf).room s m args below meth cd G rr S0 M0 H locs (F0 m 44 ls [.int k0, .int k1]) := by
        intro H locs hW hS ls l1 l3 k0 k1 hl h
        unfold f6_rankOf_b44 at h
        refine lv_iadd hx hb dX6_rankOf_44 ?_
        obtain ⟨x_1, ex_1, h⟩ := nam_e h
        refine lv_ni ex_1 ?_
        refine lv_istore_n (lv' := [(2, .int x_1), (0, .ref (gad G 159)), (1, .int l1), (3, .int l3)]) hx hb dX6_rankOf_45 rfl hl (by decide) rfl (fun ls hl => ?_)
        refine lv_iinc (v := (l3 + 1)) (lv' := [(3, .int ((l3 + 1))), (2, .int x_1), (0, .ref (gad G 159)), (1, .int l1)]) hx hb dX6_rankOf_46 hl (k := 3) rfl rfl (by decide) rfl (fun ls hl => ?_)
        refine lv_goto (tgt := 4) hx hb dX6_rankOf_49 (by decide) ?_
        exact ih _ _ hW hS ls l1 x_1 ((l3 + 1)) (lv_sub hl [2, 3, 1, 0] rfl) h
      have B43 : ∀ (H : Heap) (locs : List Loc) (_ : WD G S0 M0 H) (_ : va_S (Aw G) s.heap H locs) (ls : Array Slot) (l1 : Int32) (l3 : Int32) (k0 : Int32) (_ : lv_has ls 4 [(0, .ref (gad G 159)), (1, .int l1), (3, .int l3)]) (h : f6_rankOf_b43 M0 (f6_rankOf_b4 M0 l1 n) l1 l3 k0 = some (rr)), WI p l e (headSpec wsX6_rankOf rX6_rankOf).room s m args below meth cd G rr S0 M0 H locs (F0 m 43 ls [.int k0]) := by
        intro H locs hW hS ls l1 l3 k0 hl h
        unfold f6_rankOf_b43 at h
        refine lv_iconst (v := 0) hx hb dX6_rankOf_43 (by decide) ?_
        exact B44 _ _ hW hS ls l1 l3 0 k0 (lv_sub hl [0, 1, 2] rfl) h
      intro H locs hW hS ls l1 l2 l3 hl h
      rw [f6_rankOf_b4] at h
      refine lv_iload_n hx hb dX6_rankOf_4 rfl (lv_at hl 3 rfl) ?_
      refine lv_aload_n hx hb dX6_rankOf_5 rfl (lv_at hl 0 rfl) ?_
      refine va_get (D := G.1) (ci := 6) (v := .ref (gad G (160 + 0))) (C := RX6) (T := TX6) (N := 14) hx hb hts hiX6 hown hK.1 hW.1 159 lkM rfl 1 (by decide) (hts _ (List.mem_of_getElem? (i := 1) rfl)) (fun _ h9 => h9) rfl dX6_rankOf_6 ?_
      refine lv_iconst (v := 1) hx hb dX6_rankOf_9 (by decide) ?_
      obtain ⟨x_1, nx_1, ex_1, h⟩ := arr_e h
      refine va_iald hx hb hK.1 hW.1 (160 + 0) 0 (lkMa (j := 0) (by omega)) rfl nx_1 dX6_rankOf_10 ?_
      refine lv_ni ex_1 ?_
      refine lv_icmp_ge (tgt := 52) hx hb dX6_rankOf_11 (by decide) (fun c_2 => ?_) (fun c_2 => ?_)
      · have h := ite_t c_2 h
        refine lv_iload_n hx hb dX6_rankOf_52 rfl (lv_at hl 2 rfl) ?_
        obtain rfl := Option.some.inj h
        exact W.iret hx hb hr (fun t ht hw => ⟨⟨_, (), rfl, rfl, hW.ret ht⟩, hS.F ht⟩) hS.2.2 dX6_rankOf_53
      · have h := ite_f c_2 h
        refine lv_iload_n hx hb dX6_rankOf_14 rfl (lv_at hl 2 rfl) ?_
        refine lv_aload_n hx hb dX6_rankOf_15 rfl (lv_at hl 0 rfl) ?_
        refine lv_iload_n hx hb dX6_rankOf_16 rfl (lv_at hl 3 rfl) ?_
        refine lv_iconst (v := 3) hx hb dX6_rankOf_17 (by decide) ?_
        obtain ⟨r_3, e_4, h⟩ := bnd_e h
        refine kV_I (As := [.int l3, .int 3]) (rest := [.int l2]) ⟨hx, hb, hml, hown, hts⟩ (tX6_ofPlot l G S0 M0 l3 3 r_3 e_4) (cwV 2 hts gX6_rankOf_X6_ofPlot rfl rfl rfl ⟨rfl, hdX6_ofPlot⟩ ⟨Nat.le_of_ble_eq_true rfl, Nat.le_of_ble_eq_true rfl⟩) (va_recv hK.1 hW.1 (ci := 6) (q0 := 159) rfl lkM) hK hW hS hA rfl hl.1 rfl (Nat.le_of_ble_eq_true rfl) dX6_rankOf_18 ⟨Nat.zero_le _, Nat.zero_le _⟩ (fun H locs hW hS => ?_)
        refine lv_aload_n hx hb dX6_rankOf_21 rfl (lv_at hl 0 rfl) ?_
        refine lv_iload_n hx hb dX6_rankOf_22 rfl (lv_at hl 1 rfl) ?_
        refine lv_iconst (v := 3) hx hb dX6_rankOf_23 (by decide) ?_
        obtain ⟨r_5, e_6, h⟩ := bnd_e h
        refine kV_I (As := [.int l1, .int 3]) (rest := [.int r_3, .int l2]) ⟨hx, hb, hml, hown, hts⟩ (tX6_ofPlot l G S0 M0 l1 3 r_5 e_6) (cwV 2 hts gX6_rankOf_X6_ofPlot rfl rfl rfl ⟨rfl, hdX6_ofPlot⟩ ⟨Nat.le_of_ble_eq_true rfl, Nat.le_of_ble_eq_true rfl⟩) (va_recv hK.1 hW.1 (ci := 6) (q0 := 159) rfl lkM) hK hW hS hA rfl hl.1 rfl (Nat.le_of_ble_eq_true rfl) dX6_rankOf_24 ⟨Nat.zero_le _, Nat.zero_le _⟩ (fun H locs hW hS => ?_)
        refine lv_icmp_ne (tgt := 43) hx hb dX6_rankOf_27 (by decide) (fun c_7 => ?_) (fun c_7 => ?_)
        · have h := ite_f c_7 h
          exact B43 _ _ hW hS ls l1 l3 l2 (lv_sub hl [0, 1, 3] rfl) h
        · have h := ite_t c_7 h
          refine lv_aload_n hx hb dX6_rankOf_30 rfl (lv_at hl 0 rfl) ?_
          refine lv_iload_n hx hb dX6_rankOf_31 rfl (lv_at hl 3 rfl) ?_
          refine lv_iload_n hx hb dX6_rankOf_32 rfl (lv_at hl 1 rfl) ?_
          obtain ⟨r_8, e_9, h⟩ := bnd_e h
          refine kV_I (As := [.int l3, .int l1]) (rest := [.int l2]) ⟨hx, hb, hml, hown, hts⟩ (tX6_isAhead l G S0 M0 l3 l1 r_8 e_9) (cwV 2 hts gX6_rankOf_X6_isAhead rfl rfl rfl ⟨rfl, hdX6_isAhead⟩ ⟨Nat.le_of_ble_eq_true rfl, Nat.le_of_ble_eq_true rfl⟩) (va_recv hK.1 hW.1 (ci := 6) (q0 := 159) rfl lkM) hK hW hS hA rfl hl.1 rfl (Nat.le_of_ble_eq_true rfl) dX6_rankOf_33 ⟨Nat.zero_le _, Nat.zero_le _⟩ (fun H locs hW hS => ?_)
          refine lv_if_eq (tgt := 43) hx hb dX6_rankOf_36 (by decide) (fun c_10 => ?_) (fun c_10 => ?_)
          · have h := ite_t c_10 h
            exact B43 _ _ hW hS ls l1 l3 l2 (lv_sub hl [0, 1, 3] rfl) h
          · have h := ite_f c_10 h
            refine lv_iconst (v := 1) hx hb dX6_rankOf_39 (by decide) ?_
            refine lv_goto (tgt := 44) hx hb dX6_rankOf_40 (by decide) ?_
            exact B44 _ _ hW hS ls l1 l3 1 l2 (lv_sub hl [0, 1, 3] rfl) h
  unfold f6_rankOf at h
  refine lv_iconst (v := 0) hx hb dX6_rankOf_0 (by decide) ?_
  refine lv_istore_n (lv' := [(2, .int 0), (0, .ref (gad G 159)), (1, .int p1)]) hx hb dX6_rankOf_1 rfl hl (by decide) rfl (fun ls hl => ?_)
  refine lv_iconst (v := 0) hx hb dX6_rankOf_2 (by decide) ?_
  refine lv_istore_n (lv' := [(3, .int 0), (2, .int 0), (0, .ref (gad G 159)), (1, .int p1)]) hx hb dX6_rankOf_3 rfl hl (by decide) rfl (fun ls hl => ?_)
  exact B4 fuelN _ _ hW hS ls p1 0 0 (lv_sub hl [2, 3, 1, 0] rfl) h
abbrev rX6_plotOf : Room := { frames := 3, cells := 0, slots := 0, locals := 68 }
set_option maxRecDepth 100000 in
set_option maxHeartbeats 8000000 in
theorem tX6_plotOf (l : Launch) (G : WG) (S0 M0 : St) (p1 : Int32) (p2 : Int32) (p3 : Int32) (rr : Int32) (M' : St) (h : f6_plotOf M0 p1 p2 p3 = some (rr, M')) : CtI l yX6_plotOf wsX6_plotOf rX6_plotOf G [.ref (gad G 159), .int p1, .int p2, .int p3] S0 M0 rr S0 M' := by
  refine Met.ofW (cc := cX6_plotOf) (maxL := 5) (ret := (some .int)) (by decide) rfl ?_
  intro p e s m args below meth cd s₁ B hml hv
  obtain ⟨hargs, hK, hW⟩ := hv
  have hx := B.exec
  have hb := B.bytes
  have hr := B.returns
  have hts := atoms_spec (ws := wsX6_plotOf) B.pre
  have hown : s.vm.findClass RX6 = some m.cls := findClass_of_methodNamed B.named
  have hlocks := B.notSynchronized
  have hA : ∀ q, Aw G q → Aw G q := fun _ h => h
  have hS : va_S (Aw G) s.heap s.heap [] := va_S.rf
  have he0 : entryFrame m args 5 = F0 m 0 ((lg_sl ([.ref (gad G 159), .int p1, .int p2, .int p3]) ++ List.replicate (5 - (lg_sl ([.ref (gad G 159), .int p1, .int p2, .int p3])).length) Slot.unset).toArray) [] := by rw [hargs]; exact lg_entry_eq _ _ _
  have hl := lv_entry ([.ref (gad G 159), .int p1, .int p2, .int p3]) (n := 5) (Nat.le_of_ble_eq_true rfl)
  rw [he0]
  generalize (lg_sl ([.ref (gad G 159), .int p1, .int p2, .int p3]) ++ List.replicate (5 - (lg_sl ([.ref (gad G 159), .int p1, .int p2, .int p3])).length) Slot.unset).toArray = ls at hl ⊢
  have hl : lv_has ls 5 [(0, .ref (gad G 159)), (1, .int p1), (2, .int p2), (3, .int p3)] := hl
  have hiX6 : ∀ w ∈ u_ws RX6 TX6 14, w ∈ wsX6_plotOf := by decide +kernel
  have B83 : ∀ (H : Heap) (locs : List Loc) (M : St) (_ : WD G S0 M H) (_ : va_S (Aw G) s.heap H locs) (ls : Array Slot) (k0 : Int32) (k1 : Int32) (_ : lv_has ls 5 []) (h : f6_plotOf_b83 M k0 k1 = some (rr, M')), WI p l e (headSpec wsX6_plotOf rX6_plotOf).room s m args below meth cd G rr S0 M' H locs (F0 m 83 ls [.int k0, .int k1, .ref (gad G 159)]) := by
    intro H locs M hW hS ls k0 k1 hl h
    unfold f6_plotOf_b83 at h
    obtain ⟨r_1, e_2, h⟩ := bnd_e h
    refine kV_I (As := [.int k1, .int k0]) (rest := []) ⟨hx, hb, hml, hown, hts⟩ (tX6_ofPlot l G S0 M k1 k0 r_1 e_2) (cwV 2 hts gX6_plotOf_X6_ofPlot rfl rfl rfl ⟨rfl, hdX6_ofPlot⟩ ⟨Nat.le_of_ble_eq_true rfl, Nat.le_of_ble_eq_true rfl⟩) (va_recv hK.1 hW.1 (ci := 6) (q0 := 159) rfl lkM) hK hW hS hA rfl hl.1 rfl (Nat.le_of_ble_eq_true rfl) dX6_plotOf_83 ⟨Nat.zero_le _, Nat.zero_le _⟩ (fun H locs hW hS => ?_)
    obtain ⟨rfl, rfl⟩ := Prod.mk.inj (Option.some.inj h)
    exact W.iret hx hb hr (fun t ht hw => ⟨⟨_, (), rfl, rfl, hW.ret ht⟩, hS.F ht⟩) hS.2.2 dX6_plotOf_86
  have B34 : ∀ (n : Nat), ∀ (H : Heap) (locs : List Loc) (M : St) (_ : WD G S0 M H) (_ : va_S (Aw G) s.heap H locs) (ls : Array Slot) (l1 : Int32) (l2 : Int32) (l3 : Int32) (l4 : Int32) (_ : lv_has ls 5 [(0, .ref (gad G 159)), (1, .int l1), (2, .int l2), (3, .int l3), (4, .int l4)]) (h : f6_plotOf_b34 M l1 l2 l3 n l4 = some (rr, M')), WI p l e (headSpec wsX6_plotOf rX6_plotOf).room s m args below meth cd G rr S0 M' H locs (F0 m 34 ls []) := by
    intro n
    induction n with
    | zero => intro H locs M hW hS ls l1 l2 l3 l4 hl h; cases (show (none : Option (Int32 × St)) = some _ from h)
    | succ n ih =>
      have B87 : ∀ (H : Heap) (locs : List Loc) (M : St) (_ : WD G S0 M H) (_ : va_S (Aw G) s.heap H locs) (ls : Array Slot) (l1 : Int32) (l2 : Int32) (l3 : Int32) (l4 : Int32) (_ : lv_has ls 5 [(0, .ref (gad G 159)), (1, .int l1), (2, .int l2), (3, .int l3), (4, .int l4)]) (h : f6_plotOf_b87 M (f6_plotOf_b34 M l1 l2 l3 n) l1 l2 l3 l4 = some (rr, M')), WI p l e (headSpec wsX6_plotOf rX6_plotOf).room s m args below meth cd G rr S0 M' H locs (F0 m 87 ls []) := by
        intro H locs M hW hS ls l1 l2 l3 l4 hl h
        unfold f6_plotOf_b87 at h
        refine lv_iinc (v := (l4 + 1)) (lv' := [(4, .int ((l4 + 1))), (0, .ref (gad G 159)), (1, .int l1), (2, .int l2), (3, .int l3)]) hx hb dX6_plotOf_87 hl (k := 4) rfl rfl (by decide) rfl (fun ls hl => ?_)
        refine lv_goto (tgt := 34) hx hb dX6_plotOf_90 (by decide) ?_
        exact ih _ _ M hW hS ls l1 l2 l3 ((l4 + 1)) (lv_sub hl [1, 2, 3, 4, 0] rfl) h
      intro H locs M hW hS ls l1 l2 l3 l4 hl h
      rw [f6_plotOf_b34] at h
      refine lv_iload hx hb dX6_plotOf_34 (lv_at hl 4 rfl) ?_
      refine lv_aload_n hx hb dX6_plotOf_36 rfl (lv_at hl 0 rfl) ?_
      refine va_get (D := G.1) (ci := 6) (v := .ref (gad G (160 + 0))) (C := RX6) (T := TX6) (N := 14) hx hb hts hiX6 hown hK.1 hW.1 159 lkM rfl 1 (by decide) (hts _ (List.mem_of_getElem? (i := 2) rfl)) (fun _ h9 => h9) rfl dX6_plotOf_37 ?_
      refine lv_iconst (v := 1) hx hb dX6_plotOf_40 (by decide) ?_
      obtain ⟨x_1, nx_1, ex_1, h⟩ := arr_e h
      refine va_iald hx hb hK.1 hW.1 (160 + 0) 0 (lkMa (j := 0) (by omega)) rfl nx_1 dX6_plotOf_41 ?_
      refine lv_ni ex_1 ?_
      refine lv_icmp_ge (tgt := 93) hx hb dX6_plotOf_42 (by decide) (fun c_2 => ?_) (fun c_2 => ?_)
      · have h := ite_t c_2 h
        refine lv_bipush (v := (-5)) hx hb dX6_plotOf_93 (by decide) ?_
        obtain ⟨rfl, rfl⟩ := Prod.mk.inj (Option.some.inj h)
        exact W.iret hx hb hr (fun t ht hw => ⟨⟨_, (), rfl, rfl, hW.ret ht⟩, hS.F ht⟩) hS.2.2 dX6_plotOf_95
      · have h := ite_f c_2 h
        refine lv_aload_n hx hb dX6_plotOf_45 rfl (lv_at hl 0 rfl) ?_
        refine lv_iload hx hb dX6_plotOf_46 (lv_at hl 4 rfl) ?_
        refine lv_iconst (v := 3) hx hb dX6_plotOf_48 (by decide) ?_
        obtain ⟨r_3, e_4, h⟩ := bnd_e h
        refine kV_I (As := [.int l4, .int 3]) (rest := []) ⟨hx, hb, hml, hown, hts⟩ (tX6_ofPlot l G S0 M l4 3 r_3 e_4) (cwV 2 hts gX6_plotOf_X6_ofPlot rfl rfl rfl ⟨rfl, hdX6_ofPlot⟩ ⟨Nat.le_of_ble_eq_true rfl, Nat.le_of_ble_eq_true rfl⟩) (va_recv hK.1 hW.1 (ci := 6) (q0 := 159) rfl lkM) hK hW hS hA rfl hl.1 rfl (Nat.le_of_ble_eq_true rfl) dX6_plotOf_49 ⟨Nat.zero_le _, Nat.zero_le _⟩ (fun H locs hW hS => ?_)
        refine lv_iload_n hx hb dX6_plotOf_52 rfl (lv_at hl 1 rfl) ?_
        refine lv_iconst (v := 1) hx hb dX6_plotOf_53 (by decide) ?_
        refine lv_iadd hx hb dX6_plotOf_54 ?_
        refine lv_icmp_ne (tgt := 87) hx hb dX6_plotOf_55 (by decide) (fun c_5 => ?_) (fun c_5 => ?_)
        · have h := ite_f c_5 h
          exact B87 _ _ M hW hS ls l1 l2 l3 l4 (lv_sub hl [0, 1, 2, 3, 4] rfl) h
        · have h := ite_t c_5 h
          refine lv_aload_n hx hb dX6_plotOf_58 rfl (lv_at hl 0 rfl) ?_
          refine lv_iload hx hb dX6_plotOf_59 (lv_at hl 4 rfl) ?_
          obtain ⟨r_6, e_7, h⟩ := bnd_e h
          refine kV_I (As := [.int l4]) (rest := []) ⟨hx, hb, hml, hown, hts⟩ (tX6_rankOf l G S0 M l4 r_6 e_7) (cwV 1 hts gX6_plotOf_X6_rankOf rfl rfl rfl ⟨rfl, hdX6_rankOf⟩ ⟨Nat.le_of_ble_eq_true rfl, Nat.le_of_ble_eq_true rfl⟩) (va_recv hK.1 hW.1 (ci := 6) (q0 := 159) rfl lkM) hK hW hS hA rfl hl.1 rfl (Nat.le_of_ble_eq_true rfl) dX6_plotOf_61 ⟨Nat.zero_le _, Nat.zero_le _⟩ (fun H locs hW hS => ?_)
          refine lv_iload_n hx hb dX6_plotOf_64 rfl (lv_at hl 2 rfl) ?_
          refine lv_icmp_ne (tgt := 87) hx hb dX6_plotOf_65 (by decide) (fun c_8 => ?_) (fun c_8 => ?_)
          · have h := ite_f c_8 h
            exact B87 _ _ M hW hS ls l1 l2 l3 l4 (lv_sub hl [0, 1, 2, 3, 4] rfl) h
          · have h := ite_t c_8 h
            refine lv_aload_n hx hb dX6_plotOf_68 rfl (lv_at hl 0 rfl) ?_
            refine lv_iload hx hb dX6_plotOf_69 (lv_at hl 4 rfl) ?_
            refine lv_iload_n hx hb dX6_plotOf_71 rfl (lv_at hl 3 rfl) ?_
            refine lv_iconst (v := 2) hx hb dX6_plotOf_72 (by decide) ?_
            refine lv_icmp_ne (tgt := 80) hx hb dX6_plotOf_73 (by decide) (fun c_9 => ?_) (fun c_9 => ?_)
            · have h := ite_f c_9 h
              refine lv_iconst (v := 1) hx hb dX6_plotOf_80 (by decide) ?_
              refine lv_iload_n hx hb dX6_plotOf_81 rfl (lv_at hl 3 rfl) ?_
              refine lv_iadd hx hb dX6_plotOf_82 ?_
              exact B83 _ _ M hW hS ls ((1 + l3)) l4 (lv_sub hl [] rfl) h
            · have h := ite_t c_9 h
              refine lv_iconst (v := 0) hx hb dX6_plotOf_76 (by decide) ?_
              refine lv_goto (tgt := 83) hx hb dX6_plotOf_77 (by decide) ?_
              exact B83 _ _ M hW hS ls 0 l4 (lv_sub hl [] rfl) h
  have B28 : ∀ (H : Heap) (locs : List Loc) (M : St) (_ : WD G S0 M H) (_ : va_S (Aw G) s.heap H locs) (ls : Array Slot) (_ : lv_has ls 5 []) (h : f6_plotOf_b28 M  = some (rr, M')), WI p l e (headSpec wsX6_plotOf rX6_plotOf).room s m args below meth cd G rr S0 M' H locs (F0 m 28 ls []) := by
    intro H locs M hW hS ls hl h
    unfold f6_plotOf_b28 at h
    refine lv_bipush (v := (-2)) hx hb dX6_plotOf_28 (by decide) ?_
    obtain ⟨rfl, rfl⟩ := Prod.mk.inj (Option.some.inj h)
    exact W.iret hx hb hr (fun t ht hw => ⟨⟨_, (), rfl, rfl, hW.ret ht⟩, hS.F ht⟩) hS.2.2 dX6_plotOf_30
  unfold f6_plotOf at h
  refine lv_aload_n hx hb dX6_plotOf_0 rfl (lv_at hl 0 rfl) ?_
  refine lv_iconst (v := 0) hx hb dX6_plotOf_1 (by decide) ?_
  obtain ⟨M_1, eM_1, h⟩ := nam_e h
  refine va_put (D := G.1) (ci := 6) (v := .int 0) (ty := .int) (C := RX6) (T := TX6) (N := 14) hx hb hts hiX6 tyX6 tyX6_ok nmX6 hown hK.1 hW.1 (hW.D hA) hS 159 lkM rfl 0 (by decide) (hts _ (List.mem_of_getElem? (i := 1) rfl)) (fun _ h9 => h9) rfl (by decide +kernel) rfl rfl (Nat.le_of_ble_eq_true rfl) dX6_plotOf_2 (fun H locs hP hD hS => ?_)
  have hW := upM0 hW hP
  rw [← eM_1] at hW
  refine lv_aload_n hx hb dX6_plotOf_5 rfl (lv_at hl 0 rfl) ?_
  refine lv_iload_n hx hb dX6_plotOf_6 rfl (lv_at hl 1 rfl) ?_
  obtain ⟨r_2, e_3, h⟩ := bnd_e h
  refine kV_I (As := [.int p1]) (rest := []) ⟨hx, hb, hml, hown, hts⟩ (tX6_isHere l G S0 M_1 p1 r_2 e_3) (cwV 1 hts gX6_plotOf_X6_isHere rfl rfl rfl ⟨rfl, hdX6_isHere⟩ ⟨Nat.le_of_ble_eq_true rfl, Nat.le_of_ble_eq_true rfl⟩) (va_recv hK.1 hW.1 (ci := 6) (q0 := 159) rfl lkM) hK hW hS hA rfl hl.1 rfl (Nat.le_of_ble_eq_true rfl) dX6_plotOf_7 ⟨Nat.zero_le _, Nat.zero_le _⟩ (fun H locs hW hS => ?_)
  refine lv_if_ne (tgt := 15) hx hb dX6_plotOf_10 (by decide) (fun c_4 => ?_) (fun c_4 => ?_)
  · have h := ite_f c_4 h
    refine lv_iload_n hx hb dX6_plotOf_15 rfl (lv_at hl 2 rfl) ?_
    refine lv_if_lt (tgt := 28) hx hb dX6_plotOf_16 (by decide) (fun c_5 => ?_) (fun c_5 => ?_)
    · have h := ite_t c_5 h
      exact B28 _ _ M_1 hW hS ls (lv_sub hl [] rfl) h
    · have h := ite_f c_5 h
      refine lv_iload_n hx hb dX6_plotOf_19 rfl (lv_at hl 3 rfl) ?_
      refine lv_iconst (v := 0) hx hb dX6_plotOf_20 (by decide) ?_
      refine lv_iconst (v := 2) hx hb dX6_plotOf_21 (by decide) ?_
      obtain ⟨r_6, e_7, h⟩ := bnd_e h
      refine kS_I (As := [.int p3, .int 0, .int 2]) (rest := []) ⟨hx, hb, hml, hown, hts⟩ (tX6_in l G S0 M_1 p3 0 2 r_6 e_7) (va_cwS 3 hts gX6_plotOf_X6_in rfl rfl rfl hdX6_in ⟨Nat.le_of_ble_eq_true rfl, Nat.le_of_ble_eq_true rfl⟩) hK hW hS hA rfl hl.1 rfl (Nat.le_of_ble_eq_true rfl) dX6_plotOf_22 ⟨Nat.zero_le _, Nat.zero_le _⟩ (fun H locs hW hS => ?_)
      refine lv_if_ne (tgt := 31) hx hb dX6_plotOf_25 (by decide) (fun c_8 => ?_) (fun c_8 => ?_)
      · have h := ite_f c_8 h
        refine lv_iconst (v := 0) hx hb dX6_plotOf_31 (by decide) ?_
        refine lv_istore (lv' := [(4, .int 0), (0, .ref (gad G 159)), (1, .int p1), (2, .int p2), (3, .int p3)]) hx hb dX6_plotOf_32 hl (by decide) rfl (fun ls hl => ?_)
        exact B34 fuelN _ _ M_1 hW hS ls p1 p2 p3 0 (lv_sub hl [1, 2, 3, 4, 0] rfl) h
      · have h := ite_t c_8 h
        exact B28 _ _ M_1 hW hS ls (lv_sub hl [] rfl) h
  · have h := ite_t c_4 h
    refine lv_iconst (v := (-1)) hx hb dX6_plotOf_13 (by decide) ?_
    obtain ⟨rfl, rfl⟩ := Prod.mk.inj (Option.some.inj h)
    exact W.iret hx hb hr (fun t ht hw => ⟨⟨_, (), rfl, rfl, hW.ret ht⟩, hS.F ht⟩) hS.2.2 dX6_plotOf_14
abbrev rX6_song : Room := { frames := 5, cells := 0, slots := 0, locals := 111 }
set_option maxRecDepth 100000 in
set_option maxHeartbeats 8000000 in
theorem tX6_song (l : Launch) (G : WG) (S0 M0 : St) (p1 : Int32) (p2 : Int32) (rr : Int32) (M' : St) (h : f6_song M0 p1 p2 = some (rr, M')) : CtI l yX6_song wsX6_song rX6_song G [.ref (gad G 159), .int p1, .int p2] S0 M0 rr S0 M' := by
  refine Met.ofW (cc := cX6_song) (maxL := 3) (ret := (some .int)) (by decide) rfl ?_
  intro p e s m args below meth cd s₁ B hml hv
  obtain ⟨hargs, hK, hW⟩ := hv
  have hx := B.exec
  have hb := B.bytes
  have hr := B.returns
  have hts := atoms_spec (ws := wsX6_song) B.pre
  have hown : s.vm.findClass RX6 = some m.cls := findClass_of_methodNamed B.named
  have hlocks := B.notSynchronized
  have hA : ∀ q, Aw G q → Aw G q := fun _ h => h
  have hS : va_S (Aw G) s.heap s.heap [] := va_S.rf
  have he0 : entryFrame m args 3 = F0 m 0 ((lg_sl ([.ref (gad G 159), .int p1, .int p2]) ++ List.replicate (3 - (lg_sl ([.ref (gad G 159), .int p1, .int p2])).length) Slot.unset).toArray) [] := by rw [hargs]; exact lg_entry_eq _ _ _
  have hl := lv_entry ([.ref (gad G 159), .int p1, .int p2]) (n := 3) (Nat.le_of_ble_eq_true rfl)
  rw [he0]
  generalize (lg_sl ([.ref (gad G 159), .int p1, .int p2]) ++ List.replicate (3 - (lg_sl ([.ref (gad G 159), .int p1, .int p2])).length) Slot.unset).toArray = ls at hl ⊢
  have hl : lv_has ls 3 [(0, .ref (gad G 159)), (1, .int p1), (2, .int p2)] := hl
  have hiX6 : ∀ w ∈ u_ws RX6 TX6 14, w ∈ wsX6_song := by decide +kernel
  unfold f6_song at h
  refine lv_aload_n hx hb dX6_song_0 rfl (lv_at hl 0 rfl) ?_
  refine lv_iconst (v := 0) hx hb dX6_song_1 (by decide) ?_
  obtain ⟨M_1, eM_1, h⟩ := nam_e h
  refine va_put (D := G.1) (ci := 6) (v := .int 0) (ty := .int) (C := RX6) (T := TX6) (N := 14) hx hb hts hiX6 tyX6 tyX6_ok nmX6 hown hK.1 hW.1 (hW.D hA) hS 159 lkM rfl 0 (by decide) (hts _ (List.mem_of_getElem? (i := 1) rfl)) (fun _ h9 => h9) rfl (by decide +kernel) rfl rfl (Nat.le_of_ble_eq_true rfl) dX6_song_2 (fun H locs hP hD hS => ?_)
  have hW := upM0 hW hP
  rw [← eM_1] at hW
  refine lv_aload_n hx hb dX6_song_5 rfl (lv_at hl 0 rfl) ?_
  refine lv_iload_n hx hb dX6_song_6 rfl (lv_at hl 1 rfl) ?_
  obtain ⟨r_2, e_3, h⟩ := bnd_e h
  refine kV_I (As := [.int p1]) (rest := []) ⟨hx, hb, hml, hown, hts⟩ (tX6_isSong l G S0 M_1 p1 r_2 e_3) (cwV 1 hts gX6_song_X6_isSong rfl rfl rfl ⟨rfl, hdX6_isSong⟩ ⟨Nat.le_of_ble_eq_true rfl, Nat.le_of_ble_eq_true rfl⟩) (va_recv hK.1 hW.1 (ci := 6) (q0 := 159) rfl lkM) hK hW hS hA rfl hl.1 rfl (Nat.le_of_ble_eq_true rfl) dX6_song_7 ⟨Nat.zero_le _, Nat.zero_le _⟩ (fun H locs hW hS => ?_)
  refine lv_if_ne (tgt := 15) hx hb dX6_song_10 (by decide) (fun c_4 => ?_) (fun c_4 => ?_)
  · have h := ite_f c_4 h
    refine lv_iload_n hx hb dX6_song_15 rfl (lv_at hl 2 rfl) ?_
    by_cases c_5 : Int32.toInt p2 < 0 ∨ 3 < Int32.toInt p2
    · have h := ite_t c_5 h
      refine lv_tableOut (tgt := 74) hx hb dX6_song_16 c_5 (by decide) ?_
      refine lv_bipush (v := (-2)) hx hb dX6_song_74 (by decide) ?_
      obtain ⟨rfl, rfl⟩ := Prod.mk.inj (Option.some.inj h)
      exact W.iret hx hb hr (fun t ht hw => ⟨⟨_, (), rfl, rfl, hW.ret ht⟩, hS.F ht⟩) hS.2.2 dX6_song_76
    · have h := ite_f c_5 h
      by_cases c_6 : (p2 : Int32) = 0
      · have h := ite_t c_6 h
        refine lv_tableIn (off := 32) (tgt := 48) hx hb dX6_song_16 (by rw [c_6]; decide) (by rw [c_6]; decide) (by rw [c_6]; rfl) (by decide) ?_
        refine lv_aload_n hx hb dX6_song_48 rfl (lv_at hl 0 rfl) ?_
        refine lv_iload_n hx hb dX6_song_49 rfl (lv_at hl 1 rfl) ?_
        refine lv_iload_n hx hb dX6_song_50 rfl (lv_at hl 2 rfl) ?_
        obtain ⟨r_7, e_8, h⟩ := bnd_e h
        refine kV_I (As := [.int p1, .int p2]) (rest := []) ⟨hx, hb, hml, hown, hts⟩ (tX6_ofSong l G S0 M_1 p1 p2 r_7 e_8) (cwV 2 hts gX6_song_X6_ofSong rfl rfl rfl ⟨rfl, hdX6_ofSong⟩ ⟨Nat.le_of_ble_eq_true rfl, Nat.le_of_ble_eq_true rfl⟩) (va_recv hK.1 hW.1 (ci := 6) (q0 := 159) rfl lkM) hK hW hS hA rfl hl.1 rfl (Nat.le_of_ble_eq_true rfl) dX6_song_51 ⟨Nat.zero_le _, Nat.zero_le _⟩ (fun H locs hW hS => ?_)
        obtain ⟨rfl, rfl⟩ := Prod.mk.inj (Option.some.inj h)
        exact W.iret hx hb hr (fun t ht hw => ⟨⟨_, (), rfl, rfl, hW.ret ht⟩, hS.F ht⟩) hS.2.2 dX6_song_54
      · have h := ite_f c_6 h
        by_cases c_9 : (p2 : Int32) = 1
        · have h := ite_t c_9 h
          refine lv_tableIn (off := 32) (tgt := 48) hx hb dX6_song_16 (by rw [c_9]; decide) (by rw [c_9]; decide) (by rw [c_9]; rfl) (by decide) ?_
          refine lv_aload_n hx hb dX6_song_48 rfl (lv_at hl 0 rfl) ?_
          refine lv_iload_n hx hb dX6_song_49 rfl (lv_at hl 1 rfl) ?_
          refine lv_iload_n hx hb dX6_song_50 rfl (lv_at hl 2 rfl) ?_
          obtain ⟨r_10, e_11, h⟩ := bnd_e h
          refine kV_I (As := [.int p1, .int p2]) (rest := []) ⟨hx, hb, hml, hown, hts⟩ (tX6_ofSong l G S0 M_1 p1 p2 r_10 e_11) (cwV 2 hts gX6_song_X6_ofSong rfl rfl rfl ⟨rfl, hdX6_ofSong⟩ ⟨Nat.le_of_ble_eq_true rfl, Nat.le_of_ble_eq_true rfl⟩) (va_recv hK.1 hW.1 (ci := 6) (q0 := 159) rfl lkM) hK hW hS hA rfl hl.1 rfl (Nat.le_of_ble_eq_true rfl) dX6_song_51 ⟨Nat.zero_le _, Nat.zero_le _⟩ (fun H locs hW hS => ?_)
          obtain ⟨rfl, rfl⟩ := Prod.mk.inj (Option.some.inj h)
          exact W.iret hx hb hr (fun t ht hw => ⟨⟨_, (), rfl, rfl, hW.ret ht⟩, hS.F ht⟩) hS.2.2 dX6_song_54
        · have h := ite_f c_9 h
          by_cases c_12 : (p2 : Int32) = 2
          · have h := ite_t c_12 h
            refine lv_tableIn (off := 39) (tgt := 55) hx hb dX6_song_16 (by rw [c_12]; decide) (by rw [c_12]; decide) (by rw [c_12]; rfl) (by decide) ?_
            refine lv_aload_n hx hb dX6_song_55 rfl (lv_at hl 0 rfl) ?_
            refine lv_iload_n hx hb dX6_song_56 rfl (lv_at hl 1 rfl) ?_
            refine lv_iconst (v := 2) hx hb dX6_song_57 (by decide) ?_
            obtain ⟨r_13, e_14, h⟩ := bnd_e h
            refine kV_I (As := [.int p1, .int 2]) (rest := []) ⟨hx, hb, hml, hown, hts⟩ (tX6_ofSong l G S0 M_1 p1 2 r_13 e_14) (cwV 2 hts gX6_song_X6_ofSong rfl rfl rfl ⟨rfl, hdX6_ofSong⟩ ⟨Nat.le_of_ble_eq_true rfl, Nat.le_of_ble_eq_true rfl⟩) (va_recv hK.1 hW.1 (ci := 6) (q0 := 159) rfl lkM) hK hW hS hA rfl hl.1 rfl (Nat.le_of_ble_eq_true rfl) dX6_song_58 ⟨Nat.zero_le _, Nat.zero_le _⟩ (fun H locs hW hS => ?_)
            obtain ⟨r_15, e_16, h⟩ := bnd_e h
            refine kS_F (As := [.int r_13]) (rest := []) ⟨hx, hb, hml, hown, hts⟩ (tX6_loud l G S0 M_1 r_13 r_15 e_16) (va_cwS 1 hts gX6_song_X6_loud rfl rfl rfl hdX6_loud ⟨Nat.le_of_ble_eq_true rfl, Nat.le_of_ble_eq_true rfl⟩) hK hW hS hA rfl hl.1 rfl (Nat.le_of_ble_eq_true rfl) dX6_song_61 ⟨Nat.zero_le _, Nat.zero_le _⟩ (fun H locs hW hS => ?_)
            obtain ⟨r_17, e_18, h⟩ := bnd_e h
            refine kS_I (As := [.float r_15]) (rest := []) ⟨hx, hb, hml, hown, hts⟩ (tJxf58ca_floatToIntBits_5c35a l G S0 M_1 r_15 r_17 e_18) (va_cwS 1 hts gX6_song_Jxf58ca_floatToIntBits_5c35a rfl rfl rfl hdJxf58ca_floatToIntBits_5c35a ⟨Nat.le_of_ble_eq_true rfl, Nat.le_of_ble_eq_true rfl⟩) hK hW hS hA rfl hl.1 rfl (Nat.le_of_ble_eq_true rfl) dX6_song_64 ⟨Nat.zero_le _, Nat.zero_le _⟩ (fun H locs hW hS => ?_)
            obtain ⟨rfl, rfl⟩ := Prod.mk.inj (Option.some.inj h)
            exact W.iret hx hb hr (fun t ht hw => ⟨⟨_, (), rfl, rfl, hW.ret ht⟩, hS.F ht⟩) hS.2.2 dX6_song_67
          · have h := ite_f c_12 h
            by_cases c_19 : (p2 : Int32) = 3
            · have h := ite_t c_19 h
              refine lv_tableIn (off := 52) (tgt := 68) hx hb dX6_song_16 (by rw [c_19]; decide) (by rw [c_19]; decide) (by rw [c_19]; rfl) (by decide) ?_
              refine lv_aload_n hx hb dX6_song_68 rfl (lv_at hl 0 rfl) ?_
              refine lv_iload_n hx hb dX6_song_69 rfl (lv_at hl 1 rfl) ?_
              obtain ⟨r_20, e_21, h⟩ := bnd_e h
              refine kV_I (As := [.int p1]) (rest := []) ⟨hx, hb, hml, hown, hts⟩ (tX6_singer l G S0 M_1 p1 r_20 e_21) (cwV 1 hts gX6_song_X6_singer rfl rfl rfl ⟨rfl, hdX6_singer⟩ ⟨Nat.le_of_ble_eq_true rfl, Nat.le_of_ble_eq_true rfl⟩) (va_recv hK.1 hW.1 (ci := 6) (q0 := 159) rfl lkM) hK hW hS hA rfl hl.1 rfl (Nat.le_of_ble_eq_true rfl) dX6_song_70 ⟨Nat.zero_le _, Nat.zero_le _⟩ (fun H locs hW hS => ?_)
              obtain ⟨rfl, rfl⟩ := Prod.mk.inj (Option.some.inj h)
              exact W.iret hx hb hr (fun t ht hw => ⟨⟨_, (), rfl, rfl, hW.ret ht⟩, hS.F ht⟩) hS.2.2 dX6_song_73
            · have h := ite_f c_19 h
              cases h
  · have h := ite_t c_4 h
    refine lv_iconst (v := (-1)) hx hb dX6_song_13 (by decide) ?_
    obtain ⟨rfl, rfl⟩ := Prod.mk.inj (Option.some.inj h)
    exact W.iret hx hb hr (fun t ht hw => ⟨⟨_, (), rfl, rfl, hW.ret ht⟩, hS.F ht⟩) hS.2.2 dX6_song_14
abbrev rX6_outside : Room := { frames := 0, cells := 0, slots := 0, locals := 0 }
set_option maxRecDepth 100000 in
set_option maxHeartbeats 8000000 in
theorem tX6_outside (l : Launch) (G : WG) (S0 M0 : St) (p0 : Int32) (p1 : Int32) (p2 : Int32) (rr : Int32) (h : f6_outside p0 p1 p2 = some (rr)) : CtI l yX6_outside wsX6_outside rX6_outside G [.int p0, .int p1, .int p2] S0 M0 rr S0 M0 := by
  refine Met.ofW (cc := cX6_outside) (maxL := 3) (ret := (some .int)) (by decide) rfl ?_
  intro p e s m args below meth cd s₁ B hml hv
  obtain ⟨hargs, hK, hW⟩ := hv
  have hx := B.exec
  have hb := B.bytes
  have hr := B.returns
  have hts := atoms_spec (ws := wsX6_outside) B.pre
  have hown : s.vm.findClass RX6 = some m.cls := findClass_of_methodNamed B.named
  have hlocks := B.notSynchronized
  have hA : ∀ q, Aw G q → Aw G q := fun _ h => h
  have hS : va_S (Aw G) s.heap s.heap [] := va_S.rf
  have he0 : entryFrame m args 3 = F0 m 0 ((lg_sl ([.int p0, .int p1, .int p2]) ++ List.replicate (3 - (lg_sl ([.int p0, .int p1, .int p2])).length) Slot.unset).toArray) [] := by rw [hargs]; exact lg_entry_eq _ _ _
  have hl := lv_entry ([.int p0, .int p1, .int p2]) (n := 3) (Nat.le_of_ble_eq_true rfl)
  rw [he0]
  generalize (lg_sl ([.int p0, .int p1, .int p2]) ++ List.replicate (3 - (lg_sl ([.int p0, .int p1, .int p2])).length) Slot.unset).toArray = ls at hl ⊢
  have hl : lv_has ls 3 [(0, .int p0), (1, .int p1), (2, .int p2)] := hl
  have B23 : ∀ (H : Heap) (locs : List Loc) (_ : WD G S0 M0 H) (_ : va_S (Aw G) s.heap H locs) (ls : Array Slot) (k0 : Int32) (_ : lv_has ls 3 []) (h : f6_outside_b23  k0 = some (rr)), WI p l e (headSpec wsX6_outside rX6_outside).room s m args below meth cd G rr S0 M0 H locs (F0 m 23 ls [.int k0]) := by
    intro H locs hW hS ls k0 hl h
    unfold f6_outside_b23 at h
    obtain rfl := Option.some.inj h
    exact W.iret hx hb hr (fun t ht hw => ⟨⟨_, (), rfl, rfl, hW.ret ht⟩, hS.F ht⟩) hS.2.2 dX6_outside_23
  unfold f6_outside at h
  refine lv_iload_n hx hb dX6_outside_0 rfl (lv_at hl 0 rfl) ?_
  refine lv_iload_n hx hb dX6_outside_1 rfl (lv_at hl 1 rfl) ?_
  refine lv_icmp_ge (tgt := 11) hx hb dX6_outside_2 (by decide) (fun c_1 => ?_) (fun c_1 => ?_)
  · have h := ite_t c_1 h
    refine lv_iload_n hx hb dX6_outside_11 rfl (lv_at hl 0 rfl) ?_
    refine lv_iload_n hx hb dX6_outside_12 rfl (lv_at hl 2 rfl) ?_
    refine lv_icmp_le (tgt := 22) hx hb dX6_outside_13 (by decide) (fun c_2 => ?_) (fun c_2 => ?_)
    · have h := ite_t c_2 h
      refine lv_iconst (v := 0) hx hb dX6_outside_22 (by decide) ?_
      exact B23 _ _ hW hS ls 0 (lv_sub hl [] rfl) h
    · have h := ite_f c_2 h
      refine lv_iload_n hx hb dX6_outside_16 rfl (lv_at hl 0 rfl) ?_
      refine lv_iload_n hx hb dX6_outside_17 rfl (lv_at hl 2 rfl) ?_
      refine lv_isub hx hb dX6_outside_18 ?_
      refine lv_goto (tgt := 23) hx hb dX6_outside_19 (by decide) ?_
      exact B23 _ _ hW hS ls ((p0 - p2)) (lv_sub hl [] rfl) h
  · have h := ite_f c_1 h
    refine lv_iload_n hx hb dX6_outside_5 rfl (lv_at hl 1 rfl) ?_
    refine lv_iload_n hx hb dX6_outside_6 rfl (lv_at hl 0 rfl) ?_
    refine lv_isub hx hb dX6_outside_7 ?_
    refine lv_goto (tgt := 23) hx hb dX6_outside_8 (by decide) ?_
    exact B23 _ _ hW hS ls ((p1 - p0)) (lv_sub hl [] rfl) h
abbrev rX6_distance : Room := { frames := 2, cells := 0, slots := 0, locals := 43 }
set_option maxRecDepth 100000 in
set_option maxHeartbeats 8000000 in
theorem tX6_distance (l : Launch) (G : WG) (S0 M0 : St) (p1 : Int32) (p2 : Int32) (p3 : Int32) (rr : Int32) (h : f6_distance M0 p1 p2 p3 = some (rr)) : CtI l yX6_distance wsX6_distance rX6_distance G [.ref (gad G 159), .int p1, .int p2, .int p3] S0 M0 rr S0 M0 := by
  refine Met.ofW (cc := cX6_distance) (maxL := 4) (ret := (some .int)) (by decide) rfl ?_
  intro p e s m args below meth cd s₁ B hml hv
  obtain ⟨hargs, hK, hW⟩ := hv
  have hx := B.exec
  have hb := B.bytes
  have hr := B.returns
  have hts := atoms_spec (ws := wsX6_distance) B.pre
  have hown : s.vm.findClass RX6 = some m.cls := findClass_of_methodNamed B.named
  have hlocks := B.notSynchronized
  have hA : ∀ q, Aw G q → Aw G q := fun _ h => h
  have hS : va_S (Aw G) s.heap s.heap [] := va_S.rf
  have he0 : entryFrame m args 4 = F0 m 0 ((lg_sl ([.ref (gad G 159), .int p1, .int p2, .int p3]) ++ List.replicate (4 - (lg_sl ([.ref (gad G 159), .int p1, .int p2, .int p3])).length) Slot.unset).toArray) [] := by rw [hargs]; exact lg_entry_eq _ _ _
  have hl := lv_entry ([.ref (gad G 159), .int p1, .int p2, .int p3]) (n := 4) (Nat.le_of_ble_eq_true rfl)
  rw [he0]
  generalize (lg_sl ([.ref (gad G 159), .int p1, .int p2, .int p3]) ++ List.replicate (4 - (lg_sl ([.ref (gad G 159), .int p1, .int p2, .int p3])).length) Slot.unset).toArray = ls at hl ⊢
  have hl : lv_has ls 4 [(0, .ref (gad G 159)), (1, .int p1), (2, .int p2), (3, .int p3)] := hl
  unfold f6_distance at h
  refine lv_iload_n hx hb dX6_distance_0 rfl (lv_at hl 2 rfl) ?_
  refine lv_aload_n hx hb dX6_distance_1 rfl (lv_at hl 0 rfl) ?_
  refine lv_iload_n hx hb dX6_distance_2 rfl (lv_at hl 1 rfl) ?_
  refine lv_iconst (v := 1) hx hb dX6_distance_3 (by decide) ?_
  obtain ⟨r_1, e_2, h⟩ := bnd_e h
  refine kV_I (As := [.int p1, .int 1]) (rest := [.int p2]) ⟨hx, hb, hml, hown, hts⟩ (tX6_ofPlot l G S0 M0 p1 1 r_1 e_2) (cwV 2 hts gX6_distance_X6_ofPlot rfl rfl rfl ⟨rfl, hdX6_ofPlot⟩ ⟨Nat.le_of_ble_eq_true rfl, Nat.le_of_ble_eq_true rfl⟩) (va_recv hK.1 hW.1 (ci := 6) (q0 := 159) rfl lkM) hK hW hS hA rfl hl.1 rfl (Nat.le_of_ble_eq_true rfl) dX6_distance_4 ⟨Nat.zero_le _, Nat.zero_le _⟩ (fun H locs hW hS => ?_)
  refine lv_aload_n hx hb dX6_distance_7 rfl (lv_at hl 0 rfl) ?_
  refine lv_iload_n hx hb dX6_distance_8 rfl (lv_at hl 1 rfl) ?_
  obtain ⟨r_3, e_4, h⟩ := bnd_e h
  refine kV_I (As := [.int p1]) (rest := [.int r_1, .int p2]) ⟨hx, hb, hml, hown, hts⟩ (tX6_lastX l G S0 M0 p1 r_3 e_4) (cwV 1 hts gX6_distance_X6_lastX rfl rfl rfl ⟨rfl, hdX6_lastX⟩ ⟨Nat.le_of_ble_eq_true rfl, Nat.le_of_ble_eq_true rfl⟩) (va_recv hK.1 hW.1 (ci := 6) (q0 := 159) rfl lkM) hK hW hS hA rfl hl.1 rfl (Nat.le_of_ble_eq_true rfl) dX6_distance_9 ⟨Nat.zero_le _, Nat.zero_le _⟩ (fun H locs hW hS => ?_)
  obtain ⟨r_5, e_6, h⟩ := bnd_e h
  refine kS_I (As := [.int p2, .int r_1, .int r_3]) (rest := []) ⟨hx, hb, hml, hown, hts⟩ (tX6_outside l G S0 M0 p2 r_1 r_3 r_5 e_6) (va_cwS 3 hts gX6_distance_X6_outside rfl rfl rfl hdX6_outside ⟨Nat.le_of_ble_eq_true rfl, Nat.le_of_ble_eq_true rfl⟩) hK hW hS hA rfl hl.1 rfl (Nat.le_of_ble_eq_true rfl) dX6_distance_12 ⟨Nat.zero_le _, Nat.zero_le _⟩ (fun H locs hW hS => ?_)
  refine lv_iload_n hx hb dX6_distance_15 rfl (lv_at hl 3 rfl) ?_
  refine lv_aload_n hx hb dX6_distance_16 rfl (lv_at hl 0 rfl) ?_
  refine lv_iload_n hx hb dX6_distance_17 rfl (lv_at hl 1 rfl) ?_
  refine lv_iconst (v := 2) hx hb dX6_distance_18 (by decide) ?_
  obtain ⟨r_7, e_8, h⟩ := bnd_e h
  refine kV_I (As := [.int p1, .int 2]) (rest := [.int p3, .int r_5]) ⟨hx, hb, hml, hown, hts⟩ (tX6_ofPlot l G S0 M0 p1 2 r_7 e_8) (cwV 2 hts gX6_distance_X6_ofPlot rfl rfl rfl ⟨rfl, hdX6_ofPlot⟩ ⟨Nat.le_of_ble_eq_true rfl, Nat.le_of_ble_eq_true rfl⟩) (va_recv hK.1 hW.1 (ci := 6) (q0 := 159) rfl lkM) hK hW hS hA rfl hl.1 rfl (Nat.le_of_ble_eq_true rfl) dX6_distance_19 ⟨Nat.zero_le _, Nat.zero_le _⟩ (fun H locs hW hS => ?_)
  refine lv_aload_n hx hb dX6_distance_22 rfl (lv_at hl 0 rfl) ?_
  refine lv_iload_n hx hb dX6_distance_23 rfl (lv_at hl 1 rfl) ?_
  obtain ⟨r_9, e_10, h⟩ := bnd_e h
  refine kV_I (As := [.int p1]) (rest := [.int r_7, .int p3, .int r_5]) ⟨hx, hb, hml, hown, hts⟩ (tX6_lastY l G S0 M0 p1 r_9 e_10) (cwV 1 hts gX6_distance_X6_lastY rfl rfl rfl ⟨rfl, hdX6_lastY⟩ ⟨Nat.le_of_ble_eq_true rfl, Nat.le_of_ble_eq_true rfl⟩) (va_recv hK.1 hW.1 (ci := 6) (q0 := 159) rfl lkM) hK hW hS hA rfl hl.1 rfl (Nat.le_of_ble_eq_true rfl) dX6_distance_24 ⟨Nat.zero_le _, Nat.zero_le _⟩ (fun H locs hW hS => ?_)
  obtain ⟨r_11, e_12, h⟩ := bnd_e h
  refine kS_I (As := [.int p3, .int r_7, .int r_9]) (rest := [.int r_5]) ⟨hx, hb, hml, hown, hts⟩ (tX6_outside l G S0 M0 p3 r_7 r_9 r_11 e_12) (va_cwS 3 hts gX6_distance_X6_outside rfl rfl rfl hdX6_outside ⟨Nat.le_of_ble_eq_true rfl, Nat.le_of_ble_eq_true rfl⟩) hK hW hS hA rfl hl.1 rfl (Nat.le_of_ble_eq_true rfl) dX6_distance_27 ⟨Nat.zero_le _, Nat.zero_le _⟩ (fun H locs hW hS => ?_)
  refine lv_iadd hx hb dX6_distance_30 ?_
  obtain rfl := Option.some.inj h
  exact W.iret hx hb hr (fun t ht hw => ⟨⟨_, (), rfl, rfl, hW.ret ht⟩, hS.F ht⟩) hS.2.2 dX6_distance_31
abbrev rX6_nextOnWay : Room := { frames := 3, cells := 0, slots := 0, locals := 69 }
set_option maxRecDepth 100000 in
set_option maxHeartbeats 8000000 in
theorem tX6_nextOnWay (l : Launch) (G : WG) (S0 M0 : St) (p1 : Int32) (p2 : Int32) (p3 : Int32) (rr : Int32) (h : f6_nextOnWay M0 p1 p2 p3 = some (rr)) : CtI l yX6_nextOnWay wsX6_nextOnWay rX6_nextOnWay G [.ref (gad G 159), .int p1, .int p2, .int p3] S0 M0 rr S0 M0 := by
  refine Met.ofW (cc := cX6_nextOnWay) (maxL := 9) (ret := (some .int)) (by decide) rfl ?_
  intro p e s m args below meth cd s₁ B hml hv
  obtain ⟨hargs, hK, hW⟩ := hv
  have hx := B.exec
  have hb := B.bytes
  have hr := B.returns
  have hts := atoms_spec (ws := wsX6_nextOnWay) B.pre
  have hown : s.vm.findClass RX6 = some m.cls := findClass_of_methodNamed B.named
  have hlocks := B.notSynchronized
  have hA : ∀ q, Aw G q → Aw G q := fun _ h => h
  have hS : va_S (Aw G) s.heap s.heap [] := va_S.rf
  have he0 : entryFrame m args 9 = F0 m 0 ((lg_sl ([.ref (gad G 159), .int p1, .int p2, .int p3]) ++ List.replicate (9 - (lg_sl ([.ref (gad G 159), .int p1, .int p2, .int p3])).length) Slot.unset).toArray) [] := by rw [hargs]; exact lg_entry_eq _ _ _
  have hl := lv_entry ([.ref (gad G 159), .int p1, .int p2, .int p3]) (n := 9) (Nat.le_of_ble_eq_true rfl)
  rw [he0]
  generalize (lg_sl ([.ref (gad G 159), .int p1, .int p2, .int p3]) ++ List.replicate (9 - (lg_sl ([.ref (gad G 159), .int p1, .int p2, .int p3])).length) Slot.unset).toArray = ls at hl ⊢
  have hl : lv_has ls 9 [(0, .ref (gad G 159)), (1, .int p1), (2, .int p2), (3, .int p3)] := hl
  have hiX6 : ∀ w ∈ u_ws RX6 TX6 14, w ∈ wsX6_nextOnWay := by decide +kernel
  have B11 : ∀ (n : Nat), ∀ (H : Heap) (locs : List Loc) (_ : WD G S0 M0 H) (_ : va_S (Aw G) s.heap H locs) (ls : Array Slot) (l1 : Int32) (l2 : Int32) (l3 : Int32) (l4 : Int32) (l5 : Int32) (l6 : Int32) (_ : lv_has ls 9 [(0, .ref (gad G 159)), (1, .int l1), (2, .int l2), (3, .int l3), (4, .int l4), (5, .int l5), (6, .int l6)]) (h : f6_nextOnWay_b11 M0 l1 l2 l3 n l4 l5 l6 = some (rr)), WI p l e (headSpec wsX6_nextOnWay rX6_nextOnWay).room s m args below meth cd G rr S0 M0 H locs (F0 m 11 ls []) := by
    intro n
    induction n with
    | zero => intro H locs hW hS ls l1 l2 l3 l4 l5 l6 hl h; cases (show (none : Option (Int32)) = some _ from h)
    | succ n ih =>
      have B108 : ∀ (H : Heap) (locs : List Loc) (_ : WD G S0 M0 H) (_ : va_S (Aw G) s.heap H locs) (ls : Array Slot) (l1 : Int32) (l2 : Int32) (l3 : Int32) (l4 : Int32) (l5 : Int32) (l6 : Int32) (_ : lv_has ls 9 [(0, .ref (gad G 159)), (1, .int l1), (2, .int l2), (3, .int l3), (4, .int l4), (5, .int l5), (6, .int l6)]) (h : f6_nextOnWay_b108 M0 (f6_nextOnWay_b11 M0 l1 l2 l3 n) l1 l2 l3 l4 l5 l6 = some (rr)), WI p l e (headSpec wsX6_nextOnWay rX6_nextOnWay).room s m args below meth cd G rr S0 M0 H locs (F0 m 108 ls []) := by
        intro H locs hW hS ls l1 l2 l3 l4 l5 l6 hl h
        unfold f6_nextOnWay_b108 at h
        refine lv_iinc (v := (l6 + 1)) (lv' := [(6, .int ((l6 + 1))), (0, .ref (gad G 159)), (1, .int l1), (2, .int l2), (3, .int l3), (4, .int l4), (5, .int l5)]) hx hb dX6_nextOnWay_108 hl (k := 6) rfl rfl (by decide) rfl (fun ls hl => ?_)
        refine lv_goto (tgt := 11) hx hb dX6_nextOnWay_111 (by decide) ?_
        exact ih _ _ hW hS ls l1 l2 l3 l4 l5 ((l6 + 1)) (lv_sub hl [1, 2, 3, 4, 5, 6, 0] rfl) h
      have B106 : ∀ (H : Heap) (locs : List Loc) (_ : WD G S0 M0 H) (_ : va_S (Aw G) s.heap H locs) (ls : Array Slot) (l1 : Int32) (l2 : Int32) (l3 : Int32) (l4 : Int32) (l6 : Int32) (k0 : Int32) (_ : lv_has ls 9 [(0, .ref (gad G 159)), (1, .int l1), (2, .int l2), (3, .int l3), (4, .int l4), (6, .int l6)]) (h : f6_nextOnWay_b106 M0 (f6_nextOnWay_b11 M0 l1 l2 l3 n) l1 l2 l3 l4 l6 k0 = some (rr)), WI p l e (headSpec wsX6_nextOnWay rX6_nextOnWay).room s m args below meth cd G rr S0 M0 H locs (F0 m 106 ls [.int k0]) := by
        intro H locs hW hS ls l1 l2 l3 l4 l6 k0 hl h
        unfold f6_nextOnWay_b106 at h
        refine lv_istore (lv' := [(5, .int k0), (0, .ref (gad G 159)), (1, .int l1), (2, .int l2), (3, .int l3), (4, .int l4), (6, .int l6)]) hx hb dX6_nextOnWay_106 hl (by decide) rfl (fun ls hl => ?_)
        exact B108 _ _ hW hS ls l1 l2 l3 l4 k0 l6 (lv_sub hl [1, 2, 3, 4, 5, 0, 6] rfl) h
      have B92 : ∀ (H : Heap) (locs : List Loc) (_ : WD G S0 M0 H) (_ : va_S (Aw G) s.heap H locs) (ls : Array Slot) (l1 : Int32) (l2 : Int32) (l3 : Int32) (l5 : Int32) (l6 : Int32) (l7 : Int32) (l8 : Int32) (k0 : Int32) (_ : lv_has ls 9 [(0, .ref (gad G 159)), (1, .int l1), (2, .int l2), (3, .int l3), (5, .int l5), (6, .int l6), (7, .int l7), (8, .int l8)]) (h : f6_nextOnWay_b92 M0 (f6_nextOnWay_b11 M0 l1 l2 l3 n) l1 l2 l3 l5 l6 l7 l8 k0 = some (rr)), WI p l e (headSpec wsX6_nextOnWay rX6_nextOnWay).room s m args below meth cd G rr S0 M0 H locs (F0 m 92 ls [.int k0]) := by
        intro H locs hW hS ls l1 l2 l3 l5 l6 l7 l8 k0 hl h
        unfold f6_nextOnWay_b92 at h
        refine lv_istore (lv' := [(4, .int k0), (0, .ref (gad G 159)), (1, .int l1), (2, .int l2), (3, .int l3), (5, .int l5), (6, .int l6), (7, .int l7), (8, .int l8)]) hx hb dX6_nextOnWay_92 hl (by decide) rfl (fun ls hl => ?_)
        refine lv_iload hx hb dX6_nextOnWay_94 (lv_at hl 8 rfl) ?_
        refine lv_if_eq (tgt := 104) hx hb dX6_nextOnWay_96 (by decide) (fun c_1 => ?_) (fun c_1 => ?_)
        · have h := ite_t c_1 h
          refine lv_iload hx hb dX6_nextOnWay_104 (lv_at hl 5 rfl) ?_
          exact B106 _ _ hW hS ls l1 l2 l3 k0 l6 l5 (lv_sub hl [1, 2, 3, 4, 0, 6] rfl) h
        · have h := ite_f c_1 h
          refine lv_iload hx hb dX6_nextOnWay_99 (lv_at hl 7 rfl) ?_
          refine lv_goto (tgt := 106) hx hb dX6_nextOnWay_101 (by decide) ?_
          exact B106 _ _ hW hS ls l1 l2 l3 k0 l6 l7 (lv_sub hl [1, 2, 3, 4, 0, 6] rfl) h
      have B78 : ∀ (H : Heap) (locs : List Loc) (_ : WD G S0 M0 H) (_ : va_S (Aw G) s.heap H locs) (ls : Array Slot) (l1 : Int32) (l2 : Int32) (l3 : Int32) (l4 : Int32) (l5 : Int32) (l6 : Int32) (l7 : Int32) (k0 : Int32) (_ : lv_has ls 9 [(0, .ref (gad G 159)), (1, .int l1), (2, .int l2), (3, .int l3), (4, .int l4), (5, .int l5), (6, .int l6), (7, .int l7)]) (h : f6_nextOnWay_b78 M0 (f6_nextOnWay_b11 M0 l1 l2 l3 n) l1 l2 l3 l4 l5 l6 l7 k0 = some (rr)), WI p l e (headSpec wsX6_nextOnWay rX6_nextOnWay).room s m args below meth cd G rr S0 M0 H locs (F0 m 78 ls [.int k0]) := by
        intro H locs hW hS ls l1 l2 l3 l4 l5 l6 l7 k0 hl h
        unfold f6_nextOnWay_b78 at h
        refine lv_istore (lv' := [(8, .int k0), (0, .ref (gad G 159)), (1, .int l1), (2, .int l2), (3, .int l3), (4, .int l4), (5, .int l5), (6, .int l6), (7, .int l7)]) hx hb dX6_nextOnWay_78 hl (by decide) rfl (fun ls hl => ?_)
        refine lv_iload hx hb dX6_nextOnWay_80 (lv_at hl 0 rfl) ?_
        refine lv_if_eq (tgt := 90) hx hb dX6_nextOnWay_82 (by decide) (fun c_1 => ?_) (fun c_1 => ?_)
        · have h := ite_t c_1 h
          refine lv_iload hx hb dX6_nextOnWay_90 (lv_at hl 5 rfl) ?_
          exact B92 _ _ hW hS ls l1 l2 l3 l5 l6 l7 k0 l4 (lv_sub hl [1, 2, 3, 4, 6, 7, 8, 0] rfl) h
        · have h := ite_f c_1 h
          refine lv_iload hx hb dX6_nextOnWay_85 (lv_at hl 7 rfl) ?_
          refine lv_goto (tgt := 92) hx hb dX6_nextOnWay_87 (by decide) ?_
          exact B92 _ _ hW hS ls l1 l2 l3 l5 l6 l7 k0 l6 (lv_sub hl [1, 2, 3, 4, 6, 7, 8, 0] rfl) h
      have B73 : ∀ (H : Heap) (locs : List Loc) (_ : WD G S0 M0 H) (_ : va_S (Aw G) s.heap H locs) (ls : Array Slot) (l1 : Int32) (l2 : Int32) (l3 : Int32) (l4 : Int32) (l5 : Int32) (l6 : Int32) (l7 : Int32) (_ : lv_has ls 9 [(0, .ref (gad G 159)), (1, .int l1), (2, .int l2), (3, .int l3), (4, .int l4), (5, .int l5), (6, .int l6), (7, .int l7)]) (h : f6_nextOnWay_b73 M0 (f6_nextOnWay_b11 M0 l1 l2 l3 n) l1 l2 l3 l4 l5 l6 l7 = some (rr)), WI p l e (headSpec wsX6_nextOnWay rX6_nextOnWay).room s m args below meth cd G rr S0 M0 H locs (F0 m 73 ls []) := by
        intro H locs hW hS ls l1 l2 l3 l4 l5 l6 l7 hl h
        unfold f6_nextOnWay_b73 at h
        refine lv_iconst (v := 1) hx hb dX6_nextOnWay_73 (by decide) ?_
        refine lv_goto (tgt := 78) hx hb dX6_nextOnWay_74 (by decide) ?_
        exact B78 _ _ hW hS ls l1 l2 l3 l4 l5 l6 l7 1 (lv_sub hl [0, 1, 2, 3, 4, 5, 6, 7] rfl) h
      have B77 : ∀ (H : Heap) (locs : List Loc) (_ : WD G S0 M0 H) (_ : va_S (Aw G) s.heap H locs) (ls : Array Slot) (l1 : Int32) (l2 : Int32) (l3 : Int32) (l4 : Int32) (l5 : Int32) (l6 : Int32) (l7 : Int32) (_ : lv_has ls 9 [(0, .ref (gad G 159)), (1, .int l1), (2, .int l2), (3, .int l3), (4, .int l4), (5, .int l5), (6, .int l6), (7, .int l7)]) (h : f6_nextOnWay_b77 M0 (f6_nextOnWay_b11 M0 l1 l2 l3 n) l1 l2 l3 l4 l5 l6 l7 = some (rr)), WI p l e (headSpec wsX6_nextOnWay rX6_nextOnWay).room s m args below meth cd G rr S0 M0 H locs (F0 m 77 ls []) := by
        intro H locs hW hS ls l1 l2 l3 l4 l5 l6 l7 hl h
        unfold f6_nextOnWay_b77 at h
        refine lv_iconst (v := 0) hx hb dX6_nextOnWay_77 (by decide) ?_
        exact B78 _ _ hW hS ls l1 l2 l3 l4 l5 l6 l7 0 (lv_sub hl [0, 1, 2, 3, 4, 5, 6, 7] rfl) h
      intro H locs hW hS ls l1 l2 l3 l4 l5 l6 hl h
      rw [f6_nextOnWay_b11] at h
      refine lv_iload hx hb dX6_nextOnWay_11 (lv_at hl 6 rfl) ?_
      refine lv_aload_n hx hb dX6_nextOnWay_13 rfl (lv_at hl 0 rfl) ?_
      refine va_get (D := G.1) (ci := 6) (v := .ref (gad G (160 + 0))) (C := RX6) (T := TX6) (N := 14) hx hb hts hiX6 hown hK.1 hW.1 159 lkM rfl 1 (by decide) (hts _ (List.mem_of_getElem? (i := 2) rfl)) (fun _ h9 => h9) rfl dX6_nextOnWay_14 ?_
      refine lv_iconst (v := 1) hx hb dX6_nextOnWay_17 (by decide) ?_
      obtain ⟨x_1, nx_1, ex_1, h⟩ := arr_e h
      refine va_iald hx hb hK.1 hW.1 (160 + 0) 0 (lkMa (j := 0) (by omega)) rfl nx_1 dX6_nextOnWay_18 ?_
      refine lv_ni ex_1 ?_
      refine lv_icmp_ge (tgt := 114) hx hb dX6_nextOnWay_19 (by decide) (fun c_2 => ?_) (fun c_2 => ?_)
      · have h := ite_t c_2 h
        refine lv_iload hx hb dX6_nextOnWay_114 (lv_at hl 4 rfl) ?_
        obtain rfl := Option.some.inj h
        exact W.iret hx hb hr (fun t ht hw => ⟨⟨_, (), rfl, rfl, hW.ret ht⟩, hS.F ht⟩) hS.2.2 dX6_nextOnWay_116
      · have h := ite_f c_2 h
        refine lv_iload hx hb dX6_nextOnWay_22 (lv_at hl 6 rfl) ?_
        refine lv_iload_n hx hb dX6_nextOnWay_24 rfl (lv_at hl 1 rfl) ?_
        refine lv_icmp_eq (tgt := 108) hx hb dX6_nextOnWay_25 (by decide) (fun c_3 => ?_) (fun c_3 => ?_)
        · have h := ite_t c_3 h
          exact B108 _ _ hW hS ls l1 l2 l3 l4 l5 l6 (lv_sub hl [0, 1, 2, 3, 4, 5, 6] rfl) h
        · have h := ite_f c_3 h
          refine lv_aload_n hx hb dX6_nextOnWay_28 rfl (lv_at hl 0 rfl) ?_
          refine lv_iload_n hx hb dX6_nextOnWay_29 rfl (lv_at hl 1 rfl) ?_
          refine lv_iload hx hb dX6_nextOnWay_30 (lv_at hl 6 rfl) ?_
          obtain ⟨r_4, e_5, h⟩ := bnd_e h
          refine kV_I (As := [.int l1, .int l6]) (rest := []) ⟨hx, hb, hml, hown, hts⟩ (tX6_touch l G S0 M0 l1 l6 r_4 e_5) (cwV 2 hts gX6_nextOnWay_X6_touch rfl rfl rfl ⟨rfl, hdX6_touch⟩ ⟨Nat.le_of_ble_eq_true rfl, Nat.le_of_ble_eq_true rfl⟩) (va_recv hK.1 hW.1 (ci := 6) (q0 := 159) rfl lkM) hK hW hS hA rfl hl.1 rfl (Nat.le_of_ble_eq_true rfl) dX6_nextOnWay_32 ⟨Nat.zero_le _, Nat.zero_le _⟩ (fun H locs hW hS => ?_)
          refine lv_if_eq (tgt := 108) hx hb dX6_nextOnWay_35 (by decide) (fun c_6 => ?_) (fun c_6 => ?_)
          · have h := ite_t c_6 h
            exact B108 _ _ hW hS ls l1 l2 l3 l4 l5 l6 (lv_sub hl [0, 1, 2, 3, 4, 5, 6] rfl) h
          · have h := ite_f c_6 h
            refine lv_aload_n hx hb dX6_nextOnWay_38 rfl (lv_at hl 0 rfl) ?_
            refine lv_iload hx hb dX6_nextOnWay_39 (lv_at hl 6 rfl) ?_
            refine lv_iload_n hx hb dX6_nextOnWay_41 rfl (lv_at hl 2 rfl) ?_
            refine lv_iload_n hx hb dX6_nextOnWay_42 rfl (lv_at hl 3 rfl) ?_
            obtain ⟨r_7, e_8, h⟩ := bnd_e h
            refine kV_I (As := [.int l6, .int l2, .int l3]) (rest := []) ⟨hx, hb, hml, hown, hts⟩ (tX6_distance l G S0 M0 l6 l2 l3 r_7 e_8) (cwV 3 hts gX6_nextOnWay_X6_distance rfl rfl rfl ⟨rfl, hdX6_distance⟩ ⟨Nat.le_of_ble_eq_true rfl, Nat.le_of_ble_eq_true rfl⟩) (va_recv hK.1 hW.1 (ci := 6) (q0 := 159) rfl lkM) hK hW hS hA rfl hl.1 rfl (Nat.le_of_ble_eq_true rfl) dX6_nextOnWay_43 ⟨Nat.zero_le _, Nat.zero_le _⟩ (fun H locs hW hS => ?_)
            refine lv_istore (lv' := [(7, .int r_7), (0, .ref (gad G 159)), (1, .int l1), (2, .int l2), (3, .int l3), (4, .int l4), (5, .int l5), (6, .int l6)]) hx hb dX6_nextOnWay_46 hl (by decide) rfl (fun ls hl => ?_)
            refine lv_iload hx hb dX6_nextOnWay_48 (lv_at hl 0 rfl) ?_
            refine lv_iload hx hb dX6_nextOnWay_50 (lv_at hl 6 rfl) ?_
            refine lv_icmp_lt (tgt := 73) hx hb dX6_nextOnWay_52 (by decide) (fun c_9 => ?_) (fun c_9 => ?_)
            · have h := ite_t c_9 h
              exact B73 _ _ hW hS ls l1 l2 l3 l4 l5 l6 r_7 (lv_sub hl [1, 2, 3, 4, 5, 6, 7, 0] rfl) h
            · have h := ite_f c_9 h
              refine lv_iload hx hb dX6_nextOnWay_55 (lv_at hl 0 rfl) ?_
              refine lv_iload hx hb dX6_nextOnWay_57 (lv_at hl 6 rfl) ?_
              refine lv_icmp_ne (tgt := 77) hx hb dX6_nextOnWay_59 (by decide) (fun c_10 => ?_) (fun c_10 => ?_)
              · have h := ite_f c_10 h
                exact B77 _ _ hW hS ls l1 l2 l3 l4 l5 l6 r_7 (lv_sub hl [1, 2, 3, 4, 5, 6, 7, 0] rfl) h
              · have h := ite_t c_10 h
                refine lv_aload_n hx hb dX6_nextOnWay_62 rfl (lv_at hl 1 rfl) ?_
                refine lv_iload hx hb dX6_nextOnWay_63 (lv_at hl 7 rfl) ?_
                refine lv_iload hx hb dX6_nextOnWay_65 (lv_at hl 5 rfl) ?_
                obtain ⟨r_11, e_12, h⟩ := bnd_e h
                refine kV_I (As := [.int l6, .int l4]) (rest := []) ⟨hx, hb, hml, hown, hts⟩ (tX6_isAhead l G S0 M0 l6 l4 r_11 e_12) (cwV 2 hts gX6_nextOnWay_X6_isAhead rfl rfl rfl ⟨rfl, hdX6_isAhead⟩ ⟨Nat.le_of_ble_eq_true rfl, Nat.le_of_ble_eq_true rfl⟩) (va_recv hK.1 hW.1 (ci := 6) (q0 := 159) rfl lkM) hK hW hS hA rfl hl.1 rfl (Nat.le_of_ble_eq_true rfl) dX6_nextOnWay_67 ⟨Nat.zero_le _, Nat.zero_le _⟩ (fun H locs hW hS => ?_)
                refine lv_if_eq (tgt := 77) hx hb dX6_nextOnWay_70 (by decide) (fun c_13 => ?_) (fun c_13 => ?_)
                · have h := ite_t c_13 h
                  exact B77 _ _ hW hS ls l1 l2 l3 l4 l5 l6 r_7 (lv_sub hl [1, 2, 3, 4, 5, 6, 7, 0] rfl) h
                · have h := ite_f c_13 h
                  exact B73 _ _ hW hS ls l1 l2 l3 l4 l5 l6 r_7 (lv_sub hl [1, 2, 3, 4, 5, 6, 7, 0] rfl) h
  unfold f6_nextOnWay at h
  refine lv_bipush (v := (-5)) hx hb dX6_nextOnWay_0 (by decide) ?_
  refine lv_istore (lv' := [(4, .int ((-5))), (0, .ref (gad G 159)), (1, .int p1), (2, .int p2), (3, .int p3)]) hx hb dX6_nextOnWay_2 hl (by decide) rfl (fun ls hl => ?_)
  refine lv_ldc hx hb hown (hts _ (List.mem_of_getElem? (i := 1) rfl)) dX6_nextOnWay_4 ?_
  refine lv_istore (lv' := [(5, .int 100000), (4, .int ((-5))), (0, .ref (gad G 159)), (1, .int p1), (2, .int p2), (3, .int p3)]) hx hb dX6_nextOnWay_6 hl (by decide) rfl (fun ls hl => ?_)
  refine lv_iconst (v := 0) hx hb dX6_nextOnWay_8 (by decide) ?_
  refine lv_istore (lv' := [(6, .int 0), (5, .int 100000), (4, .int ((-5))), (0, .ref (gad G 159)), (1, .int p1), (2, .int p2), (3, .int p3)]) hx hb dX6_nextOnWay_9 hl (by decide) rfl (fun ls hl => ?_)
  exact B11 fuelN _ _ hW hS ls p1 p2 p3 ((-5)) 100000 0 (lv_sub hl [3, 4, 5, 6, 2, 1, 0] rfl) h
abbrev rX6_onWay : Room := { frames := 4, cells := 0, slots := 0, locals := 97 }
set_option maxRecDepth 100000 in
set_option maxHeartbeats 8000000 in
theorem tX6_onWay (l : Launch) (G : WG) (S0 M0 : St) (p1 : Int32) (p2 : Int32) (p3 : Int32) (p4 : Int32) (rr : Int32) (h : f6_onWay M0 p1 p2 p3 p4 = some (rr)) : CtI l yX6_onWay wsX6_onWay rX6_onWay G [.ref (gad G 159), .int p1, .int p2, .int p3, .int p4] S0 M0 rr S0 M0 := by
  refine Met.ofW (cc := cX6_onWay) (maxL := 7) (ret := (some .int)) (by decide) rfl ?_
  intro p e s m args below meth cd s₁ B hml hv
  obtain ⟨hargs, hK, hW⟩ := hv
  have hx := B.exec
  have hb := B.bytes
  have hr := B.returns
  have hts := atoms_spec (ws := wsX6_onWay) B.pre
  have hown : s.vm.findClass RX6 = some m.cls := findClass_of_methodNamed B.named
  have hlocks := B.notSynchronized
  have hA : ∀ q, Aw G q → Aw G q := fun _ h => h
  have hS : va_S (Aw G) s.heap s.heap [] := va_S.rf
  have he0 : entryFrame m args 7 = F0 m 0 ((lg_sl ([.ref (gad G 159), .int p1, .int p2, .int p3, .int p4]) ++ List.replicate (7 - (lg_sl ([.ref (gad G 159), .int p1, .int p2, .int p3, .int p4])).length) Slot.unset).toArray) [] := by rw [hargs]; exact lg_entry_eq _ _ _
  have hl := lv_entry ([.ref (gad G 159), .int p1, .int p2, .int p3, .int p4]) (n := 7) (Nat.le_of_ble_eq_true rfl)
  rw [he0]
  generalize (lg_sl ([.ref (gad G 159), .int p1, .int p2, .int p3, .int p4]) ++ List.replicate (7 - (lg_sl ([.ref (gad G 159), .int p1, .int p2, .int p3, .int p4])).length) Slot.unset).toArray = ls at hl ⊢
  have hl : lv_has ls 7 [(0, .ref (gad G 159)), (1, .int p1), (2, .int p2), (3, .int p3), (4, .int p4)] := hl
  have B69 : ∀ (H : Heap) (locs : List Loc) (_ : WD G S0 M0 H) (_ : va_S (Aw G) s.heap H locs) (ls : Array Slot) (k0 : Int32) (_ : lv_has ls 7 []) (h : f6_onWay_b69 M0 k0 = some (rr)), WI p l e (headSpec wsX6_onWay rX6_onWay).room s m args below meth cd G rr S0 M0 H locs (F0 m 69 ls [.int k0]) := by
    intro H locs hW hS ls k0 hl h
    unfold f6_onWay_b69 at h
    obtain rfl := Option.some.inj h
    exact W.iret hx hb hr (fun t ht hw => ⟨⟨_, (), rfl, rfl, hW.ret ht⟩, hS.F ht⟩) hS.2.2 dX6_onWay_69
  have B55 : ∀ (H : Heap) (locs : List Loc) (_ : WD G S0 M0 H) (_ : va_S (Aw G) s.heap H locs) (ls : Array Slot) (l4 : Int32) (l5 : Int32) (l6 : Int32) (_ : lv_has ls 7 [(4, .int l4), (5, .int l5), (6, .int l6)]) (h : f6_onWay_b55 M0 l4 l5 l6 = some (rr)), WI p l e (headSpec wsX6_onWay rX6_onWay).room s m args below meth cd G rr S0 M0 H locs (F0 m 55 ls []) := by
    intro H locs hW hS ls l4 l5 l6 hl h
    unfold f6_onWay_b55 at h
    refine lv_iload hx hb dX6_onWay_55 (lv_at hl 2 rfl) ?_
    refine lv_iload hx hb dX6_onWay_57 (lv_at hl 0 rfl) ?_
    refine lv_icmp_ne (tgt := 67) hx hb dX6_onWay_59 (by decide) (fun c_1 => ?_) (fun c_1 => ?_)
    · have h := ite_f c_1 h
      refine lv_bipush (v := (-5)) hx hb dX6_onWay_67 (by decide) ?_
      exact B69 _ _ hW hS ls ((-5)) (lv_sub hl [] rfl) h
    · have h := ite_t c_1 h
      refine lv_iload hx hb dX6_onWay_62 (lv_at hl 1 rfl) ?_
      refine lv_goto (tgt := 69) hx hb dX6_onWay_64 (by decide) ?_
      exact B69 _ _ hW hS ls l5 (lv_sub hl [] rfl) h
  have B21 : ∀ (n : Nat), ∀ (H : Heap) (locs : List Loc) (_ : WD G S0 M0 H) (_ : va_S (Aw G) s.heap H locs) (ls : Array Slot) (l2 : Int32) (l3 : Int32) (l4 : Int32) (l5 : Int32) (l6 : Int32) (_ : lv_has ls 7 [(0, .ref (gad G 159)), (2, .int l2), (3, .int l3), (4, .int l4), (5, .int l5), (6, .int l6)]) (h : f6_onWay_b21 M0 l2 l3 l4 n l5 l6 = some (rr)), WI p l e (headSpec wsX6_onWay rX6_onWay).room s m args below meth cd G rr S0 M0 H locs (F0 m 21 ls []) := by
    intro n
    induction n with
    | zero => intro H locs hW hS ls l2 l3 l4 l5 l6 hl h; cases (show (none : Option (Int32)) = some _ from h)
    | succ n ih =>
      intro H locs hW hS ls l2 l3 l4 l5 l6 hl h
      rw [f6_onWay_b21] at h
      refine lv_iload hx hb dX6_onWay_21 (lv_at hl 5 rfl) ?_
      refine lv_iload hx hb dX6_onWay_23 (lv_at hl 3 rfl) ?_
      refine lv_icmp_ge (tgt := 55) hx hb dX6_onWay_25 (by decide) (fun c_1 => ?_) (fun c_1 => ?_)
      · have h := ite_t c_1 h
        exact B55 _ _ hW hS ls l4 l5 l6 (lv_sub hl [3, 4, 5] rfl) h
      · have h := ite_f c_1 h
        refine lv_aload_n hx hb dX6_onWay_28 rfl (lv_at hl 0 rfl) ?_
        refine lv_iload hx hb dX6_onWay_29 (lv_at hl 4 rfl) ?_
        refine lv_iload_n hx hb dX6_onWay_31 rfl (lv_at hl 1 rfl) ?_
        refine lv_iload_n hx hb dX6_onWay_32 rfl (lv_at hl 2 rfl) ?_
        obtain ⟨r_2, e_3, h⟩ := bnd_e h
        refine kV_I (As := [.int l5, .int l2, .int l3]) (rest := []) ⟨hx, hb, hml, hown, hts⟩ (tX6_has l G S0 M0 l5 l2 l3 r_2 e_3) (cwV 3 hts gX6_onWay_X6_has rfl rfl rfl ⟨rfl, hdX6_has⟩ ⟨Nat.le_of_ble_eq_true rfl, Nat.le_of_ble_eq_true rfl⟩) (va_recv hK.1 hW.1 (ci := 6) (q0 := 159) rfl lkM) hK hW hS hA rfl hl.1 rfl (Nat.le_of_ble_eq_true rfl) dX6_onWay_33 ⟨Nat.zero_le _, Nat.zero_le _⟩ (fun H locs hW hS => ?_)
        refine lv_if_ne (tgt := 55) hx hb dX6_onWay_36 (by decide) (fun c_4 => ?_) (fun c_4 => ?_)
        · have h := ite_f c_4 h
          exact B55 _ _ hW hS ls l4 l5 l6 (lv_sub hl [3, 4, 5] rfl) h
        · have h := ite_t c_4 h
          refine lv_aload_n hx hb dX6_onWay_39 rfl (lv_at hl 0 rfl) ?_
          refine lv_iload hx hb dX6_onWay_40 (lv_at hl 4 rfl) ?_
          refine lv_iload_n hx hb dX6_onWay_42 rfl (lv_at hl 1 rfl) ?_
          refine lv_iload_n hx hb dX6_onWay_43 rfl (lv_at hl 2 rfl) ?_
          obtain ⟨r_5, e_6, h⟩ := bnd_e h
          refine kV_I (As := [.int l5, .int l2, .int l3]) (rest := []) ⟨hx, hb, hml, hown, hts⟩ (tX6_nextOnWay l G S0 M0 l5 l2 l3 r_5 e_6) (cwV 3 hts gX6_onWay_X6_nextOnWay rfl rfl rfl ⟨rfl, hdX6_nextOnWay⟩ ⟨Nat.le_of_ble_eq_true rfl, Nat.le_of_ble_eq_true rfl⟩) (va_recv hK.1 hW.1 (ci := 6) (q0 := 159) rfl lkM) hK hW hS hA rfl hl.1 rfl (Nat.le_of_ble_eq_true rfl) dX6_onWay_44 ⟨Nat.zero_le _, Nat.zero_le _⟩ (fun H locs hW hS => ?_)
          refine lv_istore (lv' := [(5, .int r_5), (0, .ref (gad G 159)), (2, .int l2), (3, .int l3), (4, .int l4), (6, .int l6)]) hx hb dX6_onWay_47 hl (by decide) rfl (fun ls hl => ?_)
          refine lv_iinc (v := (l6 + 1)) (lv' := [(6, .int ((l6 + 1))), (5, .int r_5), (0, .ref (gad G 159)), (2, .int l2), (3, .int l3), (4, .int l4)]) hx hb dX6_onWay_49 hl (k := 5) rfl rfl (by decide) rfl (fun ls hl => ?_)
          refine lv_goto (tgt := 21) hx hb dX6_onWay_52 (by decide) ?_
          exact ih _ _ hW hS ls l2 l3 l4 r_5 ((l6 + 1)) (lv_sub hl [2, 3, 4, 5, 1, 0] rfl) h
  unfold f6_onWay at h
  refine lv_aload_n hx hb dX6_onWay_0 rfl (lv_at hl 0 rfl) ?_
  refine lv_aload_n hx hb dX6_onWay_1 rfl (lv_at hl 0 rfl) ?_
  refine lv_iload_n hx hb dX6_onWay_2 rfl (lv_at hl 1 rfl) ?_
  refine lv_iconst (v := 1) hx hb dX6_onWay_3 (by decide) ?_
  obtain ⟨r_1, e_2, h⟩ := bnd_e h
  refine kV_I (As := [.int p1, .int 1]) (rest := [.ref (gad G 159)]) ⟨hx, hb, hml, hown, hts⟩ (tX6_ofCamper l G S0 M0 p1 1 r_1 e_2) (cwV 2 hts gX6_onWay_X6_ofCamper rfl rfl rfl ⟨rfl, hdX6_ofCamper⟩ ⟨Nat.le_of_ble_eq_true rfl, Nat.le_of_ble_eq_true rfl⟩) (va_recv hK.1 hW.1 (ci := 6) (q0 := 159) rfl lkM) hK hW hS hA rfl hl.1 rfl (Nat.le_of_ble_eq_true rfl) dX6_onWay_4 ⟨Nat.zero_le _, Nat.zero_le _⟩ (fun H locs hW hS => ?_)
  refine lv_aload_n hx hb dX6_onWay_7 rfl (lv_at hl 0 rfl) ?_
  refine lv_iload_n hx hb dX6_onWay_8 rfl (lv_at hl 1 rfl) ?_
  refine lv_iconst (v := 2) hx hb dX6_onWay_9 (by decide) ?_
  obtain ⟨r_3, e_4, h⟩ := bnd_e h
  refine kV_I (As := [.int p1, .int 2]) (rest := [.int r_1, .ref (gad G 159)]) ⟨hx, hb, hml, hown, hts⟩ (tX6_ofCamper l G S0 M0 p1 2 r_3 e_4) (cwV 2 hts gX6_onWay_X6_ofCamper rfl rfl rfl ⟨rfl, hdX6_ofCamper⟩ ⟨Nat.le_of_ble_eq_true rfl, Nat.le_of_ble_eq_true rfl⟩) (va_recv hK.1 hW.1 (ci := 6) (q0 := 159) rfl lkM) hK hW hS hA rfl hl.1 rfl (Nat.le_of_ble_eq_true rfl) dX6_onWay_10 ⟨Nat.zero_le _, Nat.zero_le _⟩ (fun H locs hW hS => ?_)
  obtain ⟨r_5, e_6, h⟩ := bnd_e h
  refine kV_I (As := [.int r_1, .int r_3]) (rest := []) ⟨hx, hb, hml, hown, hts⟩ (tX6_plotAt l G S0 M0 r_1 r_3 r_5 e_6) (cwV 2 hts gX6_onWay_X6_plotAt rfl rfl rfl ⟨rfl, hdX6_plotAt⟩ ⟨Nat.le_of_ble_eq_true rfl, Nat.le_of_ble_eq_true rfl⟩) (va_recv hK.1 hW.1 (ci := 6) (q0 := 159) rfl lkM) hK hW hS hA rfl hl.1 rfl (Nat.le_of_ble_eq_true rfl) dX6_onWay_13 ⟨Nat.zero_le _, Nat.zero_le _⟩ (fun H locs hW hS => ?_)
  refine lv_istore (lv' := [(5, .int r_5), (0, .ref (gad G 159)), (1, .int p1), (2, .int p2), (3, .int p3), (4, .int p4)]) hx hb dX6_onWay_16 hl (by decide) rfl (fun ls hl => ?_)
  refine lv_iconst (v := 0) hx hb dX6_onWay_18 (by decide) ?_
  refine lv_istore (lv' := [(6, .int 0), (5, .int r_5), (0, .ref (gad G 159)), (1, .int p1), (2, .int p2), (3, .int p3), (4, .int p4)]) hx hb dX6_onWay_19 hl (by decide) rfl (fun ls hl => ?_)
  exact B21 fuelN _ _ hW hS ls p2 p3 p4 r_5 0 (lv_sub hl [2, 4, 5, 6, 1, 0] rfl) h
abbrev rX6_way : Room := { frames := 5, cells := 0, slots := 0, locals := 123 }
set_option maxRecDepth 100000 in
set_option maxHeartbeats 8000000 in
theorem tX6_way (l : Launch) (G : WG) (S0 M0 : St) (p1 : Int32) (p2 : Int32) (p3 : Int32) (p4 : Int32) (p5 : Int32) (rr : Int32) (M' : St) (h : f6_way M0 p1 p2 p3 p4 p5 = some (rr, M')) : CtI l yX6_way wsX6_way rX6_way G [.ref (gad G 159), .int p1, .int p2, .int p3, .int p4, .int p5] S0 M0 rr S0 M' := by
  refine Met.ofW (cc := cX6_way) (maxL := 7) (ret := (some .int)) (by decide) rfl ?_
  intro p e s m args below meth cd s₁ B hml hv
  obtain ⟨hargs, hK, hW⟩ := hv
  have hx := B.exec
  have hb := B.bytes
  have hr := B.returns
  have hts := atoms_spec (ws := wsX6_way) B.pre
  have hown : s.vm.findClass RX6 = some m.cls := findClass_of_methodNamed B.named
  have hlocks := B.notSynchronized
  have hA : ∀ q, Aw G q → Aw G q := fun _ h => h
  have hS : va_S (Aw G) s.heap s.heap [] := va_S.rf
  have he0 : entryFrame m args 7 = F0 m 0 ((lg_sl ([.ref (gad G 159), .int p1, .int p2, .int p3, .int p4, .int p5]) ++ List.replicate (7 - (lg_sl ([.ref (gad G 159), .int p1, .int p2, .int p3, .int p4, .int p5])).length) Slot.unset).toArray) [] := by rw [hargs]; exact lg_entry_eq _ _ _
  have hl := lv_entry ([.ref (gad G 159), .int p1, .int p2, .int p3, .int p4, .int p5]) (n := 7) (Nat.le_of_ble_eq_true rfl)
  rw [he0]
  generalize (lg_sl ([.ref (gad G 159), .int p1, .int p2, .int p3, .int p4, .int p5]) ++ List.replicate (7 - (lg_sl ([.ref (gad G 159), .int p1, .int p2, .int p3, .int p4, .int p5])).length) Slot.unset).toArray = ls at hl ⊢
  have hl : lv_has ls 7 [(0, .ref (gad G 159)), (1, .int p1), (2, .int p2), (3, .int p3), (4, .int p4), (5, .int p5)] := hl
  have hiX6 : ∀ w ∈ u_ws RX6 TX6 14, w ∈ wsX6_way := by decide +kernel
  have B93 : ∀ (H : Heap) (locs : List Loc) (M : St) (_ : WD G S0 M H) (_ : va_S (Aw G) s.heap H locs) (ls : Array Slot) (k0 : Int32) (_ : lv_has ls 7 []) (h : f6_way_b93 M k0 = some (rr, M')), WI p l e (headSpec wsX6_way rX6_way).room s m args below meth cd G rr S0 M' H locs (F0 m 93 ls [.int k0]) := by
    intro H locs M hW hS ls k0 hl h
    unfold f6_way_b93 at h
    obtain ⟨rfl, rfl⟩ := Prod.mk.inj (Option.some.inj h)
    exact W.iret hx hb hr (fun t ht hw => ⟨⟨_, (), rfl, rfl, hW.ret ht⟩, hS.F ht⟩) hS.2.2 dX6_way_93
  have B38 : ∀ (H : Heap) (locs : List Loc) (M : St) (_ : WD G S0 M H) (_ : va_S (Aw G) s.heap H locs) (ls : Array Slot) (_ : lv_has ls 7 []) (h : f6_way_b38 M  = some (rr, M')), WI p l e (headSpec wsX6_way rX6_way).room s m args below meth cd G rr S0 M' H locs (F0 m 38 ls []) := by
    intro H locs M hW hS ls hl h
    unfold f6_way_b38 at h
    refine lv_bipush (v := (-2)) hx hb dX6_way_38 (by decide) ?_
    obtain ⟨rfl, rfl⟩ := Prod.mk.inj (Option.some.inj h)
    exact W.iret hx hb hr (fun t ht hw => ⟨⟨_, (), rfl, rfl, hW.ret ht⟩, hS.F ht⟩) hS.2.2 dX6_way_40
  have B21 : ∀ (H : Heap) (locs : List Loc) (M : St) (_ : WD G S0 M H) (_ : va_S (Aw G) s.heap H locs) (ls : Array Slot) (_ : lv_has ls 7 []) (h : f6_way_b21 M  = some (rr, M')), WI p l e (headSpec wsX6_way rX6_way).room s m args below meth cd G rr S0 M' H locs (F0 m 21 ls []) := by
    intro H locs M hW hS ls hl h
    unfold f6_way_b21 at h
    refine lv_iconst (v := (-1)) hx hb dX6_way_21 (by decide) ?_
    obtain ⟨rfl, rfl⟩ := Prod.mk.inj (Option.some.inj h)
    exact W.iret hx hb hr (fun t ht hw => ⟨⟨_, (), rfl, rfl, hW.ret ht⟩, hS.F ht⟩) hS.2.2 dX6_way_22
  unfold f6_way at h
  refine lv_aload_n hx hb dX6_way_0 rfl (lv_at hl 0 rfl) ?_
  refine lv_iconst (v := 0) hx hb dX6_way_1 (by decide) ?_
  obtain ⟨M_1, eM_1, h⟩ := nam_e h
  refine va_put (D := G.1) (ci := 6) (v := .int 0) (ty := .int) (C := RX6) (T := TX6) (N := 14) hx hb hts hiX6 tyX6 tyX6_ok nmX6 hown hK.1 hW.1 (hW.D hA) hS 159 lkM rfl 0 (by decide) (hts _ (List.mem_of_getElem? (i := 1) rfl)) (fun _ h9 => h9) rfl (by decide +kernel) rfl rfl (Nat.le_of_ble_eq_true rfl) dX6_way_2 (fun H locs hP hD hS => ?_)
  have hW := upM0 hW hP
  rw [← eM_1] at hW
  refine lv_aload_n hx hb dX6_way_5 rfl (lv_at hl 0 rfl) ?_
  refine lv_iload_n hx hb dX6_way_6 rfl (lv_at hl 1 rfl) ?_
  obtain ⟨r_2, e_3, h⟩ := bnd_e h
  refine kV_I (As := [.int p1]) (rest := []) ⟨hx, hb, hml, hown, hts⟩ (tX6_isHere l G S0 M_1 p1 r_2 e_3) (cwV 1 hts gX6_way_X6_isHere rfl rfl rfl ⟨rfl, hdX6_isHere⟩ ⟨Nat.le_of_ble_eq_true rfl, Nat.le_of_ble_eq_true rfl⟩) (va_recv hK.1 hW.1 (ci := 6) (q0 := 159) rfl lkM) hK hW hS hA rfl hl.1 rfl (Nat.le_of_ble_eq_true rfl) dX6_way_7 ⟨Nat.zero_le _, Nat.zero_le _⟩ (fun H locs hW hS => ?_)
  refine lv_if_eq (tgt := 21) hx hb dX6_way_10 (by decide) (fun c_4 => ?_) (fun c_4 => ?_)
  · have h := ite_t c_4 h
    exact B21 _ _ M_1 hW hS ls (lv_sub hl [] rfl) h
  · have h := ite_f c_4 h
    refine lv_iload_n hx hb dX6_way_13 rfl (lv_at hl 2 rfl) ?_
    refine lv_iload_n hx hb dX6_way_14 rfl (lv_at hl 3 rfl) ?_
    obtain ⟨r_5, e_6, h⟩ := bnd_e h
    refine kS_I (As := [.int p2, .int p3]) (rest := []) ⟨hx, hb, hml, hown, hts⟩ (tX6_isPoint l G S0 M_1 p2 p3 r_5 e_6) (va_cwS 2 hts gX6_way_X6_isPoint rfl rfl rfl hdX6_isPoint ⟨Nat.le_of_ble_eq_true rfl, Nat.le_of_ble_eq_true rfl⟩) hK hW hS hA rfl hl.1 rfl (Nat.le_of_ble_eq_true rfl) dX6_way_15 ⟨Nat.zero_le _, Nat.zero_le _⟩ (fun H locs hW hS => ?_)
    refine lv_if_ne (tgt := 23) hx hb dX6_way_18 (by decide) (fun c_7 => ?_) (fun c_7 => ?_)
    · have h := ite_f c_7 h
      refine lv_iload hx hb dX6_way_23 (lv_at hl 4 rfl) ?_
      refine lv_if_lt (tgt := 38) hx hb dX6_way_25 (by decide) (fun c_8 => ?_) (fun c_8 => ?_)
      · have h := ite_t c_8 h
        exact B38 _ _ M_1 hW hS ls (lv_sub hl [] rfl) h
      · have h := ite_f c_8 h
        refine lv_iload hx hb dX6_way_28 (lv_at hl 5 rfl) ?_
        refine lv_iconst (v := 0) hx hb dX6_way_30 (by decide) ?_
        refine lv_iconst (v := 2) hx hb dX6_way_31 (by decide) ?_
        obtain ⟨r_9, e_10, h⟩ := bnd_e h
        refine kS_I (As := [.int p5, .int 0, .int 2]) (rest := []) ⟨hx, hb, hml, hown, hts⟩ (tX6_in l G S0 M_1 p5 0 2 r_9 e_10) (va_cwS 3 hts gX6_way_X6_in rfl rfl rfl hdX6_in ⟨Nat.le_of_ble_eq_true rfl, Nat.le_of_ble_eq_true rfl⟩) hK hW hS hA rfl hl.1 rfl (Nat.le_of_ble_eq_true rfl) dX6_way_32 ⟨Nat.zero_le _, Nat.zero_le _⟩ (fun H locs hW hS => ?_)
        refine lv_if_ne (tgt := 41) hx hb dX6_way_35 (by decide) (fun c_11 => ?_) (fun c_11 => ?_)
        · have h := ite_f c_11 h
          refine lv_aload_n hx hb dX6_way_41 rfl (lv_at hl 0 rfl) ?_
          refine lv_iload_n hx hb dX6_way_42 rfl (lv_at hl 1 rfl) ?_
          refine lv_iload_n hx hb dX6_way_43 rfl (lv_at hl 2 rfl) ?_
          refine lv_iload_n hx hb dX6_way_44 rfl (lv_at hl 3 rfl) ?_
          refine lv_iload hx hb dX6_way_45 (lv_at hl 4 rfl) ?_
          obtain ⟨r_12, e_13, h⟩ := bnd_e h
          refine kV_I (As := [.int p1, .int p2, .int p3, .int p4]) (rest := []) ⟨hx, hb, hml, hown, hts⟩ (tX6_onWay l G S0 M_1 p1 p2 p3 p4 r_12 e_13) (cwV 4 hts gX6_way_X6_onWay rfl rfl rfl ⟨rfl, hdX6_onWay⟩ ⟨Nat.le_of_ble_eq_true rfl, Nat.le_of_ble_eq_true rfl⟩) (va_recv hK.1 hW.1 (ci := 6) (q0 := 159) rfl lkM) hK hW hS hA rfl hl.1 rfl (Nat.le_of_ble_eq_true rfl) dX6_way_47 ⟨Nat.zero_le _, Nat.zero_le _⟩ (fun H locs hW hS => ?_)
          refine lv_istore (lv' := [(6, .int r_12), (0, .ref (gad G 159)), (1, .int p1), (2, .int p2), (3, .int p3), (4, .int p4), (5, .int p5)]) hx hb dX6_way_50 hl (by decide) rfl (fun ls hl => ?_)
          refine lv_iload hx hb dX6_way_52 (lv_at hl 0 rfl) ?_
          refine lv_bipush (v := (-5)) hx hb dX6_way_54 (by decide) ?_
          refine lv_icmp_ne (tgt := 64) hx hb dX6_way_56 (by decide) (fun c_14 => ?_) (fun c_14 => ?_)
          · have h := ite_f c_14 h
            refine lv_iload hx hb dX6_way_64 (lv_at hl 6 rfl) ?_
            refine lv_if_ne (tgt := 81) hx hb dX6_way_66 (by decide) (fun c_15 => ?_) (fun c_15 => ?_)
            · have h := ite_f c_15 h
              refine lv_aload_n hx hb dX6_way_81 rfl (lv_at hl 1 rfl) ?_
              refine lv_iload hx hb dX6_way_82 (lv_at hl 0 rfl) ?_
              refine lv_iconst (v := 1) hx hb dX6_way_84 (by decide) ?_
              refine lv_iload hx hb dX6_way_85 (lv_at hl 6 rfl) ?_
              refine lv_iadd hx hb dX6_way_87 ?_
              refine lv_iconst (v := 1) hx hb dX6_way_88 (by decide) ?_
              refine lv_isub hx hb dX6_way_89 ?_
              obtain ⟨r_16, e_17, h⟩ := bnd_e h
              refine kV_I (As := [.int r_12, .int (((1 + p5) - 1))]) (rest := []) ⟨hx, hb, hml, hown, hts⟩ (tX6_ofPlot l G S0 M_1 r_12 (((1 + p5) - 1)) r_16 e_17) (cwV 2 hts gX6_way_X6_ofPlot rfl rfl rfl ⟨rfl, hdX6_ofPlot⟩ ⟨Nat.le_of_ble_eq_true rfl, Nat.le_of_ble_eq_true rfl⟩) (va_recv hK.1 hW.1 (ci := 6) (q0 := 159) rfl lkM) hK hW hS hA rfl hl.1 rfl (Nat.le_of_ble_eq_true rfl) dX6_way_90 ⟨Nat.zero_le _, Nat.zero_le _⟩ (fun H locs hW hS => ?_)
              exact B93 _ _ M_1 hW hS ls r_16 (lv_sub hl [] rfl) h
            · have h := ite_t c_15 h
              refine lv_aload_n hx hb dX6_way_69 rfl (lv_at hl 1 rfl) ?_
              refine lv_iload hx hb dX6_way_70 (lv_at hl 0 rfl) ?_
              refine lv_iconst (v := 3) hx hb dX6_way_72 (by decide) ?_
              obtain ⟨r_18, e_19, h⟩ := bnd_e h
              refine kV_I (As := [.int r_12, .int 3]) (rest := []) ⟨hx, hb, hml, hown, hts⟩ (tX6_ofPlot l G S0 M_1 r_12 3 r_18 e_19) (cwV 2 hts gX6_way_X6_ofPlot rfl rfl rfl ⟨rfl, hdX6_ofPlot⟩ ⟨Nat.le_of_ble_eq_true rfl, Nat.le_of_ble_eq_true rfl⟩) (va_recv hK.1 hW.1 (ci := 6) (q0 := 159) rfl lkM) hK hW hS hA rfl hl.1 rfl (Nat.le_of_ble_eq_true rfl) dX6_way_73 ⟨Nat.zero_le _, Nat.zero_le _⟩ (fun H locs hW hS => ?_)
              refine lv_iconst (v := 1) hx hb dX6_way_76 (by decide) ?_
              refine lv_isub hx hb dX6_way_77 ?_
              refine lv_goto (tgt := 93) hx hb dX6_way_78 (by decide) ?_
              exact B93 _ _ M_1 hW hS ls ((r_18 - 1)) (lv_sub hl [] rfl) h
          · have h := ite_t c_14 h
            refine lv_bipush (v := (-5)) hx hb dX6_way_59 (by decide) ?_
            refine lv_goto (tgt := 93) hx hb dX6_way_61 (by decide) ?_
            exact B93 _ _ M_1 hW hS ls ((-5)) (lv_sub hl [] rfl) h
        · have h := ite_t c_11 h
          exact B38 _ _ M_1 hW hS ls (lv_sub hl [] rfl) h
    · have h := ite_t c_7 h
      exact B21 _ _ M_1 hW hS ls (lv_sub hl [] rfl) h
abbrev rX6_would : Room := { frames := 6, cells := 0, slots := 0, locals := 134 }
set_option maxRecDepth 100000 in
set_option maxHeartbeats 8000000 in
theorem tX6_would (l : Launch) (G : WG) (S0 M0 : St) (p1 : Int32) (p2 : Int32) (p3 : Int32) (rr : Int32) (M' : St) (h : f6_would M0 p1 p2 p3 = some (rr, M')) : CtI l yX6_would wsX6_would rX6_would G [.ref (gad G 159), .int p1, .int p2, .int p3] S0 M0 rr S0 M' := by
  refine Met.ofW (cc := cX6_would) (maxL := 8) (ret := (some .int)) (by decide) rfl ?_
  intro p e s m args below meth cd s₁ B hml hv
  obtain ⟨hargs, hK, hW⟩ := hv
  have hx := B.exec
  have hb := B.bytes
  have hr := B.returns
  have hts := atoms_spec (ws := wsX6_would) B.pre
  have hown : s.vm.findClass RX6 = some m.cls := findClass_of_methodNamed B.named
  have hlocks := B.notSynchronized
  have hA : ∀ q, Aw G q → Aw G q := fun _ h => h
  have hS : va_S (Aw G) s.heap s.heap [] := va_S.rf
  have he0 : entryFrame m args 8 = F0 m 0 ((lg_sl ([.ref (gad G 159), .int p1, .int p2, .int p3]) ++ List.replicate (8 - (lg_sl ([.ref (gad G 159), .int p1, .int p2, .int p3])).length) Slot.unset).toArray) [] := by rw [hargs]; exact lg_entry_eq _ _ _
  have hl := lv_entry ([.ref (gad G 159), .int p1, .int p2, .int p3]) (n := 8) (Nat.le_of_ble_eq_true rfl)
  rw [he0]
  generalize (lg_sl ([.ref (gad G 159), .int p1, .int p2, .int p3]) ++ List.replicate (8 - (lg_sl ([.ref (gad G 159), .int p1, .int p2, .int p3])).length) Slot.unset).toArray = ls at hl ⊢
  have hl : lv_has ls 8 [(0, .ref (gad G 159)), (1, .int p1), (2, .int p2), (3, .int p3)] := hl
  have hiX6 : ∀ w ∈ u_ws RX6 TX6 14, w ∈ wsX6_would := by decide +kernel
  have B75 : ∀ (H : Heap) (locs : List Loc) (M : St) (_ : WD G S0 M H) (_ : va_S (Aw G) s.heap H locs) (ls : Array Slot) (k0 : Int32) (_ : lv_has ls 8 []) (h : f6_would_b75 M k0 = some (rr, M')), WI p l e (headSpec wsX6_would rX6_would).room s m args below meth cd G rr S0 M' H locs (F0 m 75 ls [.int k0]) := by
    intro H locs M hW hS ls k0 hl h
    unfold f6_would_b75 at h
    obtain ⟨rfl, rfl⟩ := Prod.mk.inj (Option.some.inj h)
    exact W.iret hx hb hr (fun t ht hw => ⟨⟨_, (), rfl, rfl, hW.ret ht⟩, hS.F ht⟩) hS.2.2 dX6_would_75
  have B112 : ∀ (H : Heap) (locs : List Loc) (M : St) (_ : WD G S0 M H) (_ : va_S (Aw G) s.heap H locs) (ls : Array Slot) (k0 : Int32) (_ : lv_has ls 8 [(0, .ref (gad G 159))]) (h : f6_would_b112 M k0 = some (rr, M')), WI p l e (headSpec wsX6_would rX6_would).room s m args below meth cd G rr S0 M' H locs (F0 m 112 ls [.int k0]) := by
    intro H locs M hW hS ls k0 hl h
    unfold f6_would_b112 at h
    refine lv_istore (lv' := [(7, .int k0), (0, .ref (gad G 159))]) hx hb dX6_would_112 hl (by decide) rfl (fun ls hl => ?_)
    refine lv_aload_n hx hb dX6_would_114 rfl (lv_at hl 1 rfl) ?_
    obtain ⟨M_1, e_2, h⟩ := bnd_e h
    refine kV_V (As := []) (rest := []) ⟨hx, hb, hml, hown, hts⟩ (tX6_takeBack l G S0 M M_1 e_2) (cwV 0 hts gX6_would_X6_takeBack rfl rfl rfl ⟨rfl, hdX6_takeBack⟩ ⟨Nat.le_of_ble_eq_true rfl, Nat.le_of_ble_eq_true rfl⟩) (va_recv hK.1 hW.1 (ci := 6) (q0 := 159) rfl lkM) hK hW hS hA rfl hl.1 rfl (Nat.le_of_ble_eq_true rfl) dX6_would_115 ⟨Nat.zero_le _, Nat.zero_le _⟩ (fun H locs hW hS => ?_)
    refine lv_iload hx hb dX6_would_118 (lv_at hl 0 rfl) ?_
    obtain ⟨rfl, rfl⟩ := Prod.mk.inj (Option.some.inj h)
    exact W.iret hx hb hr (fun t ht hw => ⟨⟨_, (), rfl, rfl, hW.ret ht⟩, hS.F ht⟩) hS.2.2 dX6_would_120
  unfold f6_would at h
  refine lv_aload_n hx hb dX6_would_0 rfl (lv_at hl 0 rfl) ?_
  refine lv_iconst (v := 0) hx hb dX6_would_1 (by decide) ?_
  obtain ⟨M_1, eM_1, h⟩ := nam_e h
  refine va_put (D := G.1) (ci := 6) (v := .int 0) (ty := .int) (C := RX6) (T := TX6) (N := 14) hx hb hts hiX6 tyX6 tyX6_ok nmX6 hown hK.1 hW.1 (hW.D hA) hS 159 lkM rfl 0 (by decide) (hts _ (List.mem_of_getElem? (i := 1) rfl)) (fun _ h9 => h9) rfl (by decide +kernel) rfl rfl (Nat.le_of_ble_eq_true rfl) dX6_would_2 (fun H locs hP hD hS => ?_)
  have hW := upM0 hW hP
  rw [← eM_1] at hW
  refine lv_iload_n hx hb dX6_would_5 rfl (lv_at hl 1 rfl) ?_
  refine lv_iload_n hx hb dX6_would_6 rfl (lv_at hl 2 rfl) ?_
  obtain ⟨r_2, e_3, h⟩ := bnd_e h
  refine kS_I (As := [.int p1, .int p2]) (rest := []) ⟨hx, hb, hml, hown, hts⟩ (tX6_isPoint l G S0 M_1 p1 p2 r_2 e_3) (va_cwS 2 hts gX6_would_X6_isPoint rfl rfl rfl hdX6_isPoint ⟨Nat.le_of_ble_eq_true rfl, Nat.le_of_ble_eq_true rfl⟩) hK hW hS hA rfl hl.1 rfl (Nat.le_of_ble_eq_true rfl) dX6_would_7 ⟨Nat.zero_le _, Nat.zero_le _⟩ (fun H locs hW hS => ?_)
  refine lv_if_ne (tgt := 15) hx hb dX6_would_10 (by decide) (fun c_4 => ?_) (fun c_4 => ?_)
  · have h := ite_f c_4 h
    refine lv_iload_n hx hb dX6_would_15 rfl (lv_at hl 3 rfl) ?_
    refine lv_iconst (v := 0) hx hb dX6_would_16 (by decide) ?_
    refine lv_iconst (v := 2) hx hb dX6_would_17 (by decide) ?_
    obtain ⟨r_5, e_6, h⟩ := bnd_e h
    refine kS_I (As := [.int p3, .int 0, .int 2]) (rest := []) ⟨hx, hb, hml, hown, hts⟩ (tX6_in l G S0 M_1 p3 0 2 r_5 e_6) (va_cwS 3 hts gX6_would_X6_in rfl rfl rfl hdX6_in ⟨Nat.le_of_ble_eq_true rfl, Nat.le_of_ble_eq_true rfl⟩) hK hW hS hA rfl hl.1 rfl (Nat.le_of_ble_eq_true rfl) dX6_would_18 ⟨Nat.zero_le _, Nat.zero_le _⟩ (fun H locs hW hS => ?_)
    refine lv_if_ne (tgt := 27) hx hb dX6_would_21 (by decide) (fun c_7 => ?_) (fun c_7 => ?_)
    · have h := ite_f c_7 h
      refine lv_aload_n hx hb dX6_would_27 rfl (lv_at hl 0 rfl) ?_
      refine lv_iload_n hx hb dX6_would_28 rfl (lv_at hl 1 rfl) ?_
      refine lv_iload_n hx hb dX6_would_29 rfl (lv_at hl 2 rfl) ?_
      obtain ⟨r_8, e_9, h⟩ := bnd_e h
      refine kV_I (As := [.int p1, .int p2]) (rest := []) ⟨hx, hb, hml, hown, hts⟩ (tX6_refuses l G S0 M_1 p1 p2 r_8 e_9) (cwV 2 hts gX6_would_X6_refuses rfl rfl rfl ⟨rfl, hdX6_refuses⟩ ⟨Nat.le_of_ble_eq_true rfl, Nat.le_of_ble_eq_true rfl⟩) (va_recv hK.1 hW.1 (ci := 6) (q0 := 159) rfl lkM) hK hW hS hA rfl hl.1 rfl (Nat.le_of_ble_eq_true rfl) dX6_would_30 ⟨Nat.zero_le _, Nat.zero_le _⟩ (fun H locs hW hS => ?_)
      refine lv_istore (lv' := [(4, .int r_8), (0, .ref (gad G 159)), (1, .int p1), (2, .int p2), (3, .int p3)]) hx hb dX6_would_33 hl (by decide) rfl (fun ls hl => ?_)
      refine lv_iload hx hb dX6_would_35 (lv_at hl 0 rfl) ?_
      refine lv_if_eq (tgt := 43) hx hb dX6_would_37 (by decide) (fun c_10 => ?_) (fun c_10 => ?_)
      · have h := ite_t c_10 h
        refine lv_aload_n hx hb dX6_would_43 rfl (lv_at hl 1 rfl) ?_
        refine lv_aload_n hx hb dX6_would_44 rfl (lv_at hl 1 rfl) ?_
        refine lv_iload_n hx hb dX6_would_45 rfl (lv_at hl 2 rfl) ?_
        refine lv_iload_n hx hb dX6_would_46 rfl (lv_at hl 3 rfl) ?_
        obtain ⟨r_11, e_12, h⟩ := bnd_e h
        refine kV_I (As := [.int p1, .int p2]) (rest := [.ref (gad G 159)]) ⟨hx, hb, hml, hown, hts⟩ (tX6_plotAt l G S0 M_1 p1 p2 r_11 e_12) (cwV 2 hts gX6_would_X6_plotAt rfl rfl rfl ⟨rfl, hdX6_plotAt⟩ ⟨Nat.le_of_ble_eq_true rfl, Nat.le_of_ble_eq_true rfl⟩) (va_recv hK.1 hW.1 (ci := 6) (q0 := 159) rfl lkM) hK hW hS hA rfl hl.1 rfl (Nat.le_of_ble_eq_true rfl) dX6_would_47 ⟨Nat.zero_le _, Nat.zero_le _⟩ (fun H locs hW hS => ?_)
        refine lv_iconst (v := 3) hx hb dX6_would_50 (by decide) ?_
        obtain ⟨r_13, e_14, h⟩ := bnd_e h
        refine kV_I (As := [.int r_11, .int 3]) (rest := []) ⟨hx, hb, hml, hown, hts⟩ (tX6_ofPlot l G S0 M_1 r_11 3 r_13 e_14) (cwV 2 hts gX6_would_X6_ofPlot rfl rfl rfl ⟨rfl, hdX6_ofPlot⟩ ⟨Nat.le_of_ble_eq_true rfl, Nat.le_of_ble_eq_true rfl⟩) (va_recv hK.1 hW.1 (ci := 6) (q0 := 159) rfl lkM) hK hW hS hA rfl hl.1 rfl (Nat.le_of_ble_eq_true rfl) dX6_would_51 ⟨Nat.zero_le _, Nat.zero_le _⟩ (fun H locs hW hS => ?_)
        refine lv_istore (lv' := [(5, .int r_13), (4, .int r_8), (0, .ref (gad G 159)), (1, .int p1), (2, .int p2), (3, .int p3)]) hx hb dX6_would_54 hl (by decide) rfl (fun ls hl => ?_)
        refine lv_iload_n hx hb dX6_would_56 rfl (lv_at hl 5 rfl) ?_
        refine lv_iconst (v := 2) hx hb dX6_would_57 (by decide) ?_
        refine lv_icmp_ne (tgt := 76) hx hb dX6_would_58 (by decide) (fun c_15 => ?_) (fun c_15 => ?_)
        · have h := ite_f c_15 h
          refine lv_aload_n hx hb dX6_would_76 rfl (lv_at hl 2 rfl) ?_
          obtain ⟨M_16, e_17, h⟩ := bnd_e h
          refine kV_V (As := []) (rest := []) ⟨hx, hb, hml, hown, hts⟩ (tX6_putAside l G S0 M_1 M_16 e_17) (cwV 0 hts gX6_would_X6_putAside rfl rfl rfl ⟨rfl, hdX6_putAside⟩ ⟨Nat.le_of_ble_eq_true rfl, Nat.le_of_ble_eq_true rfl⟩) (va_recv hK.1 hW.1 (ci := 6) (q0 := 159) rfl lkM) hK hW hS hA rfl hl.1 rfl (Nat.le_of_ble_eq_true rfl) dX6_would_77 ⟨Nat.zero_le _, Nat.zero_le _⟩ (fun H locs hW hS => ?_)
          refine lv_aload_n hx hb dX6_would_80 rfl (lv_at hl 2 rfl) ?_
          refine lv_iload_n hx hb dX6_would_81 rfl (lv_at hl 3 rfl) ?_
          refine lv_iload_n hx hb dX6_would_82 rfl (lv_at hl 4 rfl) ?_
          obtain ⟨r_18, M_19, e_20, h⟩ := bd2_e h
          refine kV_I (As := [.int p1, .int p2]) (rest := []) ⟨hx, hb, hml, hown, hts⟩ (tX6_comes l G S0 M_16 p1 p2 r_18 M_19 e_20) (cwV 2 hts gX6_would_X6_comes rfl rfl rfl ⟨rfl, hdX6_comes⟩ ⟨Nat.le_of_ble_eq_true rfl, Nat.le_of_ble_eq_true rfl⟩) (va_recv hK.1 hW.1 (ci := 6) (q0 := 159) rfl lkM) hK hW hS hA rfl hl.1 rfl (Nat.le_of_ble_eq_true rfl) dX6_would_83 ⟨Nat.zero_le _, Nat.zero_le _⟩ (fun H locs hW hS => ?_)
          refine lv_istore (lv' := [(6, .int r_18), (5, .int r_13), (4, .int r_8), (0, .ref (gad G 159)), (1, .int p1), (2, .int p2), (3, .int p3)]) hx hb dX6_would_86 hl (by decide) rfl (fun ls hl => ?_)
          refine lv_iload_n hx hb dX6_would_88 rfl (lv_at hl 6 rfl) ?_
          refine lv_if_ne (tgt := 106) hx hb dX6_would_89 (by decide) (fun c_21 => ?_) (fun c_21 => ?_)
          · have h := ite_f c_21 h
            refine lv_aload_n hx hb dX6_would_106 rfl (lv_at hl 3 rfl) ?_
            refine lv_iload hx hb dX6_would_107 (lv_at hl 0 rfl) ?_
            obtain ⟨r_22, e_23, h⟩ := bnd_e h
            refine kV_I (As := [.int r_18]) (rest := []) ⟨hx, hb, hml, hown, hts⟩ (tX6_songsOf l G S0 M_19 r_18 r_22 e_23) (cwV 1 hts gX6_would_X6_songsOf rfl rfl rfl ⟨rfl, hdX6_songsOf⟩ ⟨Nat.le_of_ble_eq_true rfl, Nat.le_of_ble_eq_true rfl⟩) (va_recv hK.1 hW.1 (ci := 6) (q0 := 159) rfl lkM) hK hW hS hA rfl hl.1 rfl (Nat.le_of_ble_eq_true rfl) dX6_would_109 ⟨Nat.zero_le _, Nat.zero_le _⟩ (fun H locs hW hS => ?_)
            exact B112 _ _ M_19 hW hS ls r_22 (lv_sub hl [3] rfl) h
          · have h := ite_t c_21 h
            refine lv_aload_n hx hb dX6_would_92 rfl (lv_at hl 3 rfl) ?_
            refine lv_aload_n hx hb dX6_would_93 rfl (lv_at hl 3 rfl) ?_
            refine lv_iload_n hx hb dX6_would_94 rfl (lv_at hl 4 rfl) ?_
            refine lv_iload_n hx hb dX6_would_95 rfl (lv_at hl 5 rfl) ?_
            obtain ⟨r_24, e_25, h⟩ := bnd_e h
            refine kV_I (As := [.int p1, .int p2]) (rest := [.ref (gad G 159)]) ⟨hx, hb, hml, hown, hts⟩ (tX6_plotAt l G S0 M_19 p1 p2 r_24 e_25) (cwV 2 hts gX6_would_X6_plotAt rfl rfl rfl ⟨rfl, hdX6_plotAt⟩ ⟨Nat.le_of_ble_eq_true rfl, Nat.le_of_ble_eq_true rfl⟩) (va_recv hK.1 hW.1 (ci := 6) (q0 := 159) rfl lkM) hK hW hS hA rfl hl.1 rfl (Nat.le_of_ble_eq_true rfl) dX6_would_96 ⟨Nat.zero_le _, Nat.zero_le _⟩ (fun H locs hW hS => ?_)
            refine lv_iconst (v := 0) hx hb dX6_would_99 (by decide) ?_
            obtain ⟨r_26, e_27, h⟩ := bnd_e h
            refine kV_I (As := [.int r_24, .int 0]) (rest := []) ⟨hx, hb, hml, hown, hts⟩ (tX6_ofPlot l G S0 M_19 r_24 0 r_26 e_27) (cwV 2 hts gX6_would_X6_ofPlot rfl rfl rfl ⟨rfl, hdX6_ofPlot⟩ ⟨Nat.le_of_ble_eq_true rfl, Nat.le_of_ble_eq_true rfl⟩) (va_recv hK.1 hW.1 (ci := 6) (q0 := 159) rfl lkM) hK hW hS hA rfl hl.1 rfl (Nat.le_of_ble_eq_true rfl) dX6_would_100 ⟨Nat.zero_le _, Nat.zero_le _⟩ (fun H locs hW hS => ?_)
            refine lv_goto (tgt := 112) hx hb dX6_would_103 (by decide) ?_
            exact B112 _ _ M_19 hW hS ls r_26 (lv_sub hl [3] rfl) h
        · have h := ite_t c_15 h
          refine lv_iload hx hb dX6_would_61 (lv_at hl 0 rfl) ?_
          refine lv_if_ne (tgt := 71) hx hb dX6_would_63 (by decide) (fun c_28 => ?_) (fun c_28 => ?_)
          · have h := ite_f c_28 h
            refine lv_iload hx hb dX6_would_71 (lv_at hl 0 rfl) ?_
            refine lv_iconst (v := 1) hx hb dX6_would_73 (by decide) ?_
            refine lv_isub hx hb dX6_would_74 ?_
            exact B75 _ _ M_1 hW hS ls ((r_13 - 1)) (lv_sub hl [] rfl) h
          · have h := ite_t c_28 h
            refine lv_bipush (v := (-5)) hx hb dX6_would_66 (by decide) ?_
            refine lv_goto (tgt := 75) hx hb dX6_would_68 (by decide) ?_
            exact B75 _ _ M_1 hW hS ls ((-5)) (lv_sub hl [] rfl) h
      · have h := ite_f c_10 h
        refine lv_iload hx hb dX6_would_40 (lv_at hl 0 rfl) ?_
        obtain ⟨rfl, rfl⟩ := Prod.mk.inj (Option.some.inj h)
        exact W.iret hx hb hr (fun t ht hw => ⟨⟨_, (), rfl, rfl, hW.ret ht⟩, hS.F ht⟩) hS.2.2 dX6_would_42
    · have h := ite_t c_7 h
      refine lv_bipush (v := (-2)) hx hb dX6_would_24 (by decide) ?_
      obtain ⟨rfl, rfl⟩ := Prod.mk.inj (Option.some.inj h)
      exact W.iret hx hb hr (fun t ht hw => ⟨⟨_, (), rfl, rfl, hW.ret ht⟩, hS.F ht⟩) hS.2.2 dX6_would_26
  · have h := ite_t c_4 h
    refine lv_iconst (v := (-1)) hx hb dX6_would_13 (by decide) ?_
    obtain ⟨rfl, rfl⟩ := Prod.mk.inj (Option.some.inj h)
    exact W.iret hx hb hr (fun t ht hw => ⟨⟨_, (), rfl, rfl, hW.ret ht⟩, hS.F ht⟩) hS.2.2 dX6_would_14
