abbrev rX3_add : Room := { frames := 3, cells := 0, slots := 0, locals := 66 }
set_option maxRecDepth 100000 in
set_option maxHeartbeats 8000000 in
theorem tX3_add (l : Launch) (G : WG) (S0 M0 : St) (c : Nat) (hc : c < 7) (p1 : Int32) (p2 : Int32) (p3 : Int32) (p4 : Int32) (S' : St) (h : f3_add S0 c p1 p2 p3 p4 = some (S')) : CtV l yX3_add wsX3_add rX3_add G [.ref (gad G (7 + c)), .int p1, .int p2, .int p3, .int p4] S0 M0 S' M0 := by
  refine Met.ofW (cc := cX3_add) (maxL := 5) (ret := none) (by decide) rfl ?_
  intro p e s m args below meth cd s₁ B hml hv
  obtain ⟨hargs, hK, hW⟩ := hv
  have hx := B.exec
  have hb := B.bytes
  have hr := B.returns
  have hts := atoms_spec (ws := wsX3_add) B.pre
  have hown : s.vm.findClass RX3 = some m.cls := findClass_of_methodNamed B.named
  have hlocks := B.notSynchronized
  have hA : ∀ q, Aw G q → Aw G q := fun _ h => h
  have hS : va_S (Aw G) s.heap s.heap [] := va_S.rf
  have he0 : entryFrame m args 5 = F0 m 0 ((lg_sl ([.ref (gad G (7 + c)), .int p1, .int p2, .int p3, .int p4]) ++ List.replicate (5 - (lg_sl ([.ref (gad G (7 + c)), .int p1, .int p2, .int p3, .int p4])).length) Slot.unset).toArray) [] := by rw [hargs]; exact lg_entry_eq _ _ _
  have hl := lv_entry ([.ref (gad G (7 + c)), .int p1, .int p2, .int p3, .int p4]) (n := 5) (Nat.le_of_ble_eq_true rfl)
  rw [he0]
  generalize (lg_sl ([.ref (gad G (7 + c)), .int p1, .int p2, .int p3, .int p4]) ++ List.replicate (5 - (lg_sl ([.ref (gad G (7 + c)), .int p1, .int p2, .int p3, .int p4])).length) Slot.unset).toArray = ls at hl ⊢
  have hl : lv_has ls 5 [(0, .ref (gad G (7 + c))), (1, .int p1), (2, .int p2), (3, .int p3), (4, .int p4)] := hl
  have hiX3 : ∀ w ∈ u_ws RX3 TX3 5, w ∈ wsX3_add := by decide +kernel
  have B33 : ∀ (H : Heap) (locs : List Loc) (S : St) (_ : WD G S M0 H) (_ : va_S (Aw G) s.heap H locs) (ls : Array Slot) (_ : lv_has ls 5 []) (h : f3_add_b33 S c  = some (S')), WV p l e (headSpec wsX3_add rX3_add).room s m args below meth cd G S' M0 H locs (F0 m 33 ls []) := by
    intro H locs S hW hS ls hl h
    unfold f3_add_b33 at h
    obtain rfl := Option.some.inj h
    exact W.vret hx hb hr (fun t ht hw => ⟨⟨(), rfl, trivial, hW.ret ht⟩, hS.F ht⟩) hS.2.2 dX3_add_33
  unfold f3_add at h
  refine lv_aload_n hx hb dX3_add_0 rfl (lv_at hl 0 rfl) ?_
  refine va_get (D := G.1) (ci := 3) (v := .int (S0.1 (6 * c + 0))) (C := RX3) (T := TX3) (N := 5) hx hb hts hiX3 hown hK.1 hW.1 (7 + c) (lkP (c := c) (by omega)) rfl 4 (by decide) (hts _ (List.mem_of_getElem? (i := 1) rfl)) (fun _ h9 => h9) rfl dX3_add_1 ?_
  refine lv_sipush (v := 181) hx hb dX3_add_4 (by decide) ?_
  refine lv_icmp_ge (tgt := 33) hx hb dX3_add_7 (by decide) (fun c_1 => ?_) (fun c_1 => ?_)
  · have h := ite_t c_1 h
    exact B33 _ _ S0 hW hS ls (lv_sub hl [] rfl) h
  · have h := ite_f c_1 h
    refine lv_aload_n hx hb dX3_add_10 rfl (lv_at hl 0 rfl) ?_
    refine lv_aload_n hx hb dX3_add_11 rfl (lv_at hl 0 rfl) ?_
    refine va_get (D := G.1) (ci := 3) (v := .int (S0.1 (6 * c + 0))) (C := RX3) (T := TX3) (N := 5) hx hb hts hiX3 hown hK.1 hW.1 (7 + c) (lkP (c := c) (by omega)) rfl 4 (by decide) (hts _ (List.mem_of_getElem? (i := 1) rfl)) (fun _ h9 => h9) rfl dX3_add_12 ?_
    refine lv_iload_n hx hb dX3_add_15 rfl (lv_at hl 1 rfl) ?_
    refine lv_iload_n hx hb dX3_add_16 rfl (lv_at hl 2 rfl) ?_
    refine lv_iload_n hx hb dX3_add_17 rfl (lv_at hl 3 rfl) ?_
    refine lv_iload hx hb dX3_add_18 (lv_at hl 4 rfl) ?_
    obtain ⟨S_2, e_3, h⟩ := bnd_e h
    refine kV_V (As := [.int (S0.1 (6 * c + 0)), .int p1, .int p2, .int p3, .int p4]) (rest := []) ⟨hx, hb, hml, hown, hts⟩ (tX3_put l G S0 M0 c (by omega) (S0.1 (6 * c + 0)) p1 p2 p3 p4 S_2 e_3) (cwV 5 hts gX3_add_X3_put rfl rfl rfl ⟨rfl, hdX3_put⟩ ⟨Nat.le_of_ble_eq_true rfl, Nat.le_of_ble_eq_true rfl⟩) (va_recv hK.1 hW.1 (ci := 3) (q0 := (7 + c)) rfl (lkP (c := c) (by omega))) hK hW hS hA rfl hl.1 rfl (Nat.le_of_ble_eq_true rfl) dX3_add_20 ⟨Nat.zero_le _, Nat.zero_le _⟩ (fun H locs hW hS => ?_)
    refine lv_aload_n hx hb dX3_add_23 rfl (lv_at hl 0 rfl) ?_
    refine lv_dup hx hb dX3_add_24 rfl ?_
    refine va_get (D := G.1) (ci := 3) (v := .int (S_2.1 (6 * c + 0))) (C := RX3) (T := TX3) (N := 5) hx hb hts hiX3 hown hK.1 hW.1 (7 + c) (lkP (c := c) (by omega)) rfl 4 (by decide) (hts _ (List.mem_of_getElem? (i := 1) rfl)) (fun _ h9 => h9) rfl dX3_add_25 ?_
    refine lv_iconst (v := 1) hx hb dX3_add_28 (by decide) ?_
    refine lv_iadd hx hb dX3_add_29 ?_
    obtain ⟨S_4, eS_4, h⟩ := nam_e h
    refine va_put (D := G.1) (ci := 3) (v := .int ((S_2.1 (6 * c + 0) + 1))) (ty := .int) (C := RX3) (T := TX3) (N := 5) hx hb hts hiX3 tyX3 tyX3_ok nmX3 hown hK.1 hW.1 (hW.D hA) hS (7 + c) (lkP (c := c) (by omega)) rfl 4 (by decide) (hts _ (List.mem_of_getElem? (i := 1) rfl)) (fun _ h9 => h9) rfl (by decide +kernel) rfl rfl (Nat.le_of_ble_eq_true rfl) dX3_add_30 (fun H locs hP hD hS => ?_)
    have hW := upP0 (c := c) (by omega) hW hP
    rw [← eS_4] at hW
    exact B33 _ _ S_4 hW hS ls (lv_sub hl [] rfl) h
abbrev rX3_halveDown : Room := { frames := 4, cells := 0, slots := 0, locals := 90 }
set_option maxRecDepth 100000 in
set_option maxHeartbeats 8000000 in
theorem tX3_halveDown (l : Launch) (G : WG) (S0 M0 : St) (c : Nat) (hc : c < 7) (p1 : Int32) (p2 : Int32) (p3 : Int32) (p4 : Int32) (p5 : Int32) (S' : St) (h : f3_halveDown S0 c p1 p2 p3 p4 p5 = some (S')) : CtV l yX3_halveDown wsX3_halveDown rX3_halveDown G [.ref (gad G (7 + c)), .int p1, .int p2, .int p3, .int p4, .int p5] S0 M0 S' M0 := by
  refine Met.ofW (cc := cX3_halveDown) (maxL := 8) (ret := none) (by decide) rfl ?_
  intro p e s m args below meth cd s₁ B hml hv
  obtain ⟨hargs, hK, hW⟩ := hv
  have hx := B.exec
  have hb := B.bytes
  have hr := B.returns
  have hts := atoms_spec (ws := wsX3_halveDown) B.pre
  have hown : s.vm.findClass RX3 = some m.cls := findClass_of_methodNamed B.named
  have hlocks := B.notSynchronized
  have hA : ∀ q, Aw G q → Aw G q := fun _ h => h
  have hS : va_S (Aw G) s.heap s.heap [] := va_S.rf
  have he0 : entryFrame m args 8 = F0 m 0 ((lg_sl ([.ref (gad G (7 + c)), .int p1, .int p2, .int p3, .int p4, .int p5]) ++ List.replicate (8 - (lg_sl ([.ref (gad G (7 + c)), .int p1, .int p2, .int p3, .int p4, .int p5])).length) Slot.unset).toArray) [] := by rw [hargs]; exact lg_entry_eq _ _ _
  have hl := lv_entry ([.ref (gad G (7 + c)), .int p1, .int p2, .int p3, .int p4, .int p5]) (n := 8) (Nat.le_of_ble_eq_true rfl)
  rw [he0]
  generalize (lg_sl ([.ref (gad G (7 + c)), .int p1, .int p2, .int p3, .int p4, .int p5]) ++ List.replicate (8 - (lg_sl ([.ref (gad G (7 + c)), .int p1, .int p2, .int p3, .int p4, .int p5])).length) Slot.unset).toArray = ls at hl ⊢
  have hl : lv_has ls 8 [(0, .ref (gad G (7 + c))), (1, .int p1), (2, .int p2), (3, .int p3), (4, .int p4), (5, .int p5)] := hl
  have hiX3 : ∀ w ∈ u_ws RX3 TX3 5, w ∈ wsX3_halveDown := by decide +kernel
  have B22 : ∀ (n : Nat), ∀ (H : Heap) (locs : List Loc) (S : St) (_ : WD G S M0 H) (_ : va_S (Aw G) s.heap H locs) (ls : Array Slot) (l1 : Int32) (l2 : Int32) (l3 : Int32) (l4 : Int32) (l5 : Int32) (l6 : Int32) (l7 : Int32) (_ : lv_has ls 8 [(0, .ref (gad G (7 + c))), (1, .int l1), (2, .int l2), (3, .int l3), (4, .int l4), (5, .int l5), (6, .int l6), (7, .int l7)]) (h : f3_halveDown_b22 c l1 l2 l3 l4 l5 l6 n S l7 = some (S')), WV p l e (headSpec wsX3_halveDown rX3_halveDown).room s m args below meth cd G S' M0 H locs (F0 m 22 ls []) := by
    intro n
    induction n with
    | zero => intro H locs S hW hS ls l1 l2 l3 l4 l5 l6 l7 hl h; cases (show (none : Option (St)) = some _ from h)
    | succ n ih =>
      intro H locs S hW hS ls l1 l2 l3 l4 l5 l6 l7 hl h
      rw [f3_halveDown_b22] at h
      refine lv_iload hx hb dX3_halveDown_22 (lv_at hl 7 rfl) ?_
      refine lv_iload hx hb dX3_halveDown_24 (lv_at hl 4 rfl) ?_
      refine lv_icmp_gt (tgt := 65) hx hb dX3_halveDown_26 (by decide) (fun c_1 => ?_) (fun c_1 => ?_)
      · have h := ite_t c_1 h
        refine lv_aload_n hx hb dX3_halveDown_65 rfl (lv_at hl 0 rfl) ?_
        refine lv_iload_n hx hb dX3_halveDown_66 rfl (lv_at hl 1 rfl) ?_
        refine lv_iload_n hx hb dX3_halveDown_67 rfl (lv_at hl 2 rfl) ?_
        refine lv_iload_n hx hb dX3_halveDown_68 rfl (lv_at hl 3 rfl) ?_
        refine lv_iload hx hb dX3_halveDown_69 (lv_at hl 4 rfl) ?_
        refine lv_iload hx hb dX3_halveDown_71 (lv_at hl 5 rfl) ?_
        obtain ⟨S_2, e_3, h⟩ := bnd_e h
        refine kV_V (As := [.int l1, .int l2, .int l3, .int l4, .int l5]) (rest := []) ⟨hx, hb, hml, hown, hts⟩ (tX3_put l G S M0 c (by omega) l1 l2 l3 l4 l5 S_2 e_3) (cwV 5 hts gX3_halveDown_X3_put rfl rfl rfl ⟨rfl, hdX3_put⟩ ⟨Nat.le_of_ble_eq_true rfl, Nat.le_of_ble_eq_true rfl⟩) (va_recv hK.1 hW.1 (ci := 3) (q0 := (7 + c)) rfl (lkP (c := c) (by omega))) hK hW hS hA rfl hl.1 rfl (Nat.le_of_ble_eq_true rfl) dX3_halveDown_73 ⟨Nat.zero_le _, Nat.zero_le _⟩ (fun H locs hW hS => ?_)
        obtain rfl := Option.some.inj h
        exact W.vret hx hb hr (fun t ht hw => ⟨⟨(), rfl, trivial, hW.ret ht⟩, hS.F ht⟩) hS.2.2 dX3_halveDown_76
      · have h := ite_f c_1 h
        refine lv_aload_n hx hb dX3_halveDown_29 rfl (lv_at hl 0 rfl) ?_
        refine lv_iload_n hx hb dX3_halveDown_30 rfl (lv_at hl 2 rfl) ?_
        refine lv_iload hx hb dX3_halveDown_31 (lv_at hl 7 rfl) ?_
        obtain ⟨r_4, e_5, h⟩ := bnd_e h
        refine kSN_I (As := [.int l2, .int l7]) (rest := [.ref (gad G (7 + c))]) ⟨hx, hb, hml, hown, hts⟩ (tX5_partX0 l G S M0 l2 l7 r_4 e_5) ⟨va_cnB 2 hts gX3_halveDown_X5_partX0_n120 rfl rfl rfl (hK.2 _ (List.mem_of_getElem? (i := 17) rfl)) (hts _ (List.mem_of_getElem? (i := 10) rfl)) hdX5_partX0 ⟨Nat.le_of_ble_eq_true rfl, Nat.le_of_ble_eq_true rfl⟩, (hts _ (List.mem_of_getElem? (i := 9) rfl)), trivial⟩ hK hW hS hA rfl hl.1 rfl (Nat.le_of_ble_eq_true rfl) dX3_halveDown_33 ⟨Nat.zero_le _, Nat.zero_le _⟩ (fun H locs hW hS => ?_)
        refine lv_iload hx hb dX3_halveDown_36 (lv_at hl 7 rfl) ?_
        obtain ⟨r_6, e_7, h⟩ := bnd_e h
        refine kSN_I (As := [.int r_4, .int l7]) (rest := [.ref (gad G (7 + c))]) ⟨hx, hb, hml, hown, hts⟩ (tX5_otherHalfX0 l G S M0 r_4 l7 r_6 e_7) ⟨va_cnB 2 hts gX3_halveDown_X5_otherHalfX0_n59 rfl rfl rfl (hK.2 _ (List.mem_of_getElem? (i := 18) rfl)) (hts _ (List.mem_of_getElem? (i := 10) rfl)) hdX5_otherHalfX0 ⟨Nat.le_of_ble_eq_true rfl, Nat.le_of_ble_eq_true rfl⟩, (hts _ (List.mem_of_getElem? (i := 15) rfl)), trivial⟩ hK hW hS hA rfl hl.1 rfl (Nat.le_of_ble_eq_true rfl) dX3_halveDown_38 ⟨Nat.zero_le _, Nat.zero_le _⟩ (fun H locs hW hS => ?_)
        refine lv_iload_n hx hb dX3_halveDown_41 rfl (lv_at hl 3 rfl) ?_
        refine lv_iload hx hb dX3_halveDown_42 (lv_at hl 7 rfl) ?_
        obtain ⟨r_8, e_9, h⟩ := bnd_e h
        refine kSN_I (As := [.int l3, .int l7]) (rest := [.int r_6, .ref (gad G (7 + c))]) ⟨hx, hb, hml, hown, hts⟩ (tX5_partY0 l G S M0 l3 l7 r_8 e_9) ⟨va_cnB 2 hts gX3_halveDown_X5_partY0_n123 rfl rfl rfl (hK.2 _ (List.mem_of_getElem? (i := 19) rfl)) (hts _ (List.mem_of_getElem? (i := 10) rfl)) hdX5_partY0 ⟨Nat.le_of_ble_eq_true rfl, Nat.le_of_ble_eq_true rfl⟩, (hts _ (List.mem_of_getElem? (i := 17) rfl)), trivial⟩ hK hW hS hA rfl hl.1 rfl (Nat.le_of_ble_eq_true rfl) dX3_halveDown_44 ⟨Nat.zero_le _, Nat.zero_le _⟩ (fun H locs hW hS => ?_)
        refine lv_iload hx hb dX3_halveDown_47 (lv_at hl 7 rfl) ?_
        obtain ⟨r_10, e_11, h⟩ := bnd_e h
        refine kSN_I (As := [.int r_8, .int l7]) (rest := [.int r_6, .ref (gad G (7 + c))]) ⟨hx, hb, hml, hown, hts⟩ (tX5_otherHalfY0 l G S M0 r_8 l7 r_10 e_11) ⟨va_cnB 2 hts gX3_halveDown_X5_otherHalfY0_n62 rfl rfl rfl (hK.2 _ (List.mem_of_getElem? (i := 20) rfl)) (hts _ (List.mem_of_getElem? (i := 10) rfl)) hdX5_otherHalfY0 ⟨Nat.le_of_ble_eq_true rfl, Nat.le_of_ble_eq_true rfl⟩, (hts _ (List.mem_of_getElem? (i := 22) rfl)), trivial⟩ hK hW hS hA rfl hl.1 rfl (Nat.le_of_ble_eq_true rfl) dX3_halveDown_49 ⟨Nat.zero_le _, Nat.zero_le _⟩ (fun H locs hW hS => ?_)
        refine lv_iload hx hb dX3_halveDown_52 (lv_at hl 7 rfl) ?_
        refine lv_iload hx hb dX3_halveDown_54 (lv_at hl 6 rfl) ?_
        obtain ⟨S_12, e_13, h⟩ := bnd_e h
        refine kV_V (As := [.int r_6, .int r_10, .int l7, .int l6]) (rest := []) ⟨hx, hb, hml, hown, hts⟩ (tX3_add l G S M0 c (by omega) r_6 r_10 l7 l6 S_12 e_13) (cwV 4 hts gX3_halveDown_X3_add rfl rfl rfl ⟨rfl, hdX3_add⟩ ⟨Nat.le_of_ble_eq_true rfl, Nat.le_of_ble_eq_true rfl⟩) (va_recv hK.1 hW.1 (ci := 3) (q0 := (7 + c)) rfl (lkP (c := c) (by omega))) hK hW hS hA rfl hl.1 rfl (Nat.le_of_ble_eq_true rfl) dX3_halveDown_56 ⟨Nat.zero_le _, Nat.zero_le _⟩ (fun H locs hW hS => ?_)
        refine lv_iinc (v := (l7 + 1)) (lv' := [(7, .int ((l7 + 1))), (0, .ref (gad G (7 + c))), (1, .int l1), (2, .int l2), (3, .int l3), (4, .int l4), (5, .int l5), (6, .int l6)]) hx hb dX3_halveDown_59 hl (k := 7) rfl rfl (by decide) rfl (fun ls hl => ?_)
        refine lv_goto (tgt := 22) hx hb dX3_halveDown_62 (by decide) ?_
        exact ih _ _ S_12 hW hS ls l1 l2 l3 l4 l5 l6 ((l7 + 1)) (lv_sub hl [1, 2, 3, 4, 5, 6, 7, 0] rfl) h
  unfold f3_halveDown at h
  refine lv_aload_n hx hb dX3_halveDown_0 rfl (lv_at hl 0 rfl) ?_
  refine va_get (D := G.1) (ci := 3) (v := .ref (gad G (14 + (10 * c + 3)))) (C := RX3) (T := TX3) (N := 5) hx hb hts hiX3 hown hK.1 hW.1 (7 + c) (lkP (c := c) (by omega)) rfl 3 (by decide) (hts _ (List.mem_of_getElem? (i := 1) rfl)) (fun _ h9 => h9) rfl dX3_halveDown_1 ?_
  refine lv_iload_n hx hb dX3_halveDown_4 rfl (lv_at hl 1 rfl) ?_
  obtain ⟨r_1, e_2, h⟩ := bnd_e h
  refine kV_I (As := [.int p1]) (rest := []) ⟨hx, hb, hml, hown, hts⟩ (tX4_at l G S0 M0 ((10 * c + 3)) (by omega) p1 r_1 e_2) (cwV 1 hts gX3_halveDown_X4_at rfl rfl rfl ⟨rfl, hdX4_at⟩ ⟨Nat.le_of_ble_eq_true rfl, Nat.le_of_ble_eq_true rfl⟩) (va_recv hK.1 hW.1 (ci := 4) (q0 := (14 + (10 * c + 3))) rfl (lkR (r := (10 * c + 3)) (by omega))) hK hW hS hA rfl hl.1 rfl (Nat.le_of_ble_eq_true rfl) dX3_halveDown_5 ⟨Nat.zero_le _, Nat.zero_le _⟩ (fun H locs hW hS => ?_)
  refine lv_istore (lv' := [(6, .int r_1), (0, .ref (gad G (7 + c))), (1, .int p1), (2, .int p2), (3, .int p3), (4, .int p4), (5, .int p5)]) hx hb dX3_halveDown_8 hl (by decide) rfl (fun ls hl => ?_)
  refine lv_aload_n hx hb dX3_halveDown_10 rfl (lv_at hl 1 rfl) ?_
  refine va_get (D := G.1) (ci := 3) (v := .ref (gad G (14 + (10 * c + 2)))) (C := RX3) (T := TX3) (N := 5) hx hb hts hiX3 hown hK.1 hW.1 (7 + c) (lkP (c := c) (by omega)) rfl 2 (by decide) (hts _ (List.mem_of_getElem? (i := 2) rfl)) (fun _ h9 => h9) rfl dX3_halveDown_11 ?_
  refine lv_iload_n hx hb dX3_halveDown_14 rfl (lv_at hl 2 rfl) ?_
  obtain ⟨r_3, e_4, h⟩ := bnd_e h
  refine kV_I (As := [.int p1]) (rest := []) ⟨hx, hb, hml, hown, hts⟩ (tX4_at l G S0 M0 ((10 * c + 2)) (by omega) p1 r_3 e_4) (cwV 1 hts gX3_halveDown_X4_at rfl rfl rfl ⟨rfl, hdX4_at⟩ ⟨Nat.le_of_ble_eq_true rfl, Nat.le_of_ble_eq_true rfl⟩) (va_recv hK.1 hW.1 (ci := 4) (q0 := (14 + (10 * c + 2))) rfl (lkR (r := (10 * c + 2)) (by omega))) hK hW hS hA rfl hl.1 rfl (Nat.le_of_ble_eq_true rfl) dX3_halveDown_15 ⟨Nat.zero_le _, Nat.zero_le _⟩ (fun H locs hW hS => ?_)
  refine lv_iconst (v := 1) hx hb dX3_halveDown_18 (by decide) ?_
  refine lv_iadd hx hb dX3_halveDown_19 ?_
  obtain ⟨x_5, ex_5, h⟩ := nam_e h
  refine lv_ni ex_5 ?_
  refine lv_istore (lv' := [(7, .int x_5), (6, .int r_1), (0, .ref (gad G (7 + c))), (1, .int p1), (2, .int p2), (3, .int p3), (4, .int p4), (5, .int p5)]) hx hb dX3_halveDown_20 hl (by decide) rfl (fun ls hl => ?_)
  exact B22 fuelN _ _ S0 hW hS ls p1 p2 p3 p4 p5 r_1 x_5 (lv_sub hl [2, 3, 4, 5, 6, 7, 1, 0] rfl) h
abbrev rX0_pitch : Room := { frames := 1, cells := 0, slots := 0, locals := 22 }
set_option maxRecDepth 100000 in
set_option maxHeartbeats 8000000 in
theorem tX0_pitch (l : Launch) (G : WG) (S0 M0 : St) (c : Nat) (hc : c < 7) (p1 : Int32) (p2 : Int32) (p3 : Int32) (S' : St) (h : f0_pitch S0 c p1 p2 p3 = some (S')) : CtV l yX0_pitch wsX0_pitch rX0_pitch G [.ref (gad G c), .int p1, .int p2, .int p3] S0 M0 S' M0 := by
  refine Met.ofW (cc := cX0_pitch) (maxL := 4) (ret := none) (by decide) rfl ?_
  intro p e s m args below meth cd s₁ B hml hv
  obtain ⟨hargs, hK, hW⟩ := hv
  have hx := B.exec
  have hb := B.bytes
  have hr := B.returns
  have hts := atoms_spec (ws := wsX0_pitch) B.pre
  have hown : s.vm.findClass RX0 = some m.cls := findClass_of_methodNamed B.named
  have hlocks := B.notSynchronized
  have hA : ∀ q, Aw G q → Aw G q := fun _ h => h
  have hS : va_S (Aw G) s.heap s.heap [] := va_S.rf
  have he0 : entryFrame m args 4 = F0 m 0 ((lg_sl ([.ref (gad G c), .int p1, .int p2, .int p3]) ++ List.replicate (4 - (lg_sl ([.ref (gad G c), .int p1, .int p2, .int p3])).length) Slot.unset).toArray) [] := by rw [hargs]; exact lg_entry_eq _ _ _
  have hl := lv_entry ([.ref (gad G c), .int p1, .int p2, .int p3]) (n := 4) (Nat.le_of_ble_eq_true rfl)
  rw [he0]
  generalize (lg_sl ([.ref (gad G c), .int p1, .int p2, .int p3]) ++ List.replicate (4 - (lg_sl ([.ref (gad G c), .int p1, .int p2, .int p3])).length) Slot.unset).toArray = ls at hl ⊢
  have hl : lv_has ls 4 [(0, .ref (gad G c)), (1, .int p1), (2, .int p2), (3, .int p3)] := hl
  have hiX0 : ∀ w ∈ u_ws RX0 TX0 12, w ∈ wsX0_pitch := by decide +kernel
  unfold f0_pitch at h
  refine lv_aload_n hx hb dX0_pitch_0 rfl (lv_at hl 0 rfl) ?_
  refine va_get (D := G.1) (ci := 0) (v := .ref (gad G (14 + (10 * c + 4)))) (C := RX0) (T := TX0) (N := 12) hx hb hts hiX0 hown hK.1 hW.1 c (lkC (c := c) (by omega)) rfl 1 (by decide) (hts _ (List.mem_of_getElem? (i := 1) rfl)) (fun _ h9 => h9) rfl dX0_pitch_1 ?_
  refine lv_iload_n hx hb dX0_pitch_4 rfl (lv_at hl 1 rfl) ?_
  refine lv_iload_n hx hb dX0_pitch_5 rfl (lv_at hl 2 rfl) ?_
  obtain ⟨S_1, e_2, h⟩ := bnd_e h
  refine kV_V (As := [.int p1, .int p2]) (rest := []) ⟨hx, hb, hml, hown, hts⟩ (tX4_put l G S0 M0 ((10 * c + 4)) (by omega) p1 p2 S_1 e_2) (cwV 2 hts gX0_pitch_X4_put rfl rfl rfl ⟨rfl, hdX4_put⟩ ⟨Nat.le_of_ble_eq_true rfl, Nat.le_of_ble_eq_true rfl⟩) (va_recv hK.1 hW.1 (ci := 4) (q0 := (14 + (10 * c + 4))) rfl (lkR (r := (10 * c + 4)) (by omega))) hK hW hS hA rfl hl.1 rfl (Nat.le_of_ble_eq_true rfl) dX0_pitch_6 ⟨Nat.zero_le _, Nat.zero_le _⟩ (fun H locs hW hS => ?_)
  refine lv_aload_n hx hb dX0_pitch_9 rfl (lv_at hl 0 rfl) ?_
  refine va_get (D := G.1) (ci := 0) (v := .ref (gad G (14 + (10 * c + 5)))) (C := RX0) (T := TX0) (N := 12) hx hb hts hiX0 hown hK.1 hW.1 c (lkC (c := c) (by omega)) rfl 2 (by decide) (hts _ (List.mem_of_getElem? (i := 2) rfl)) (fun _ h9 => h9) rfl dX0_pitch_10 ?_
  refine lv_iload_n hx hb dX0_pitch_13 rfl (lv_at hl 1 rfl) ?_
  refine lv_iload_n hx hb dX0_pitch_14 rfl (lv_at hl 3 rfl) ?_
  obtain ⟨S_3, e_4, h⟩ := bnd_e h
  refine kV_V (As := [.int p1, .int p3]) (rest := []) ⟨hx, hb, hml, hown, hts⟩ (tX4_put l G S_1 M0 ((10 * c + 5)) (by omega) p1 p3 S_3 e_4) (cwV 2 hts gX0_pitch_X4_put rfl rfl rfl ⟨rfl, hdX4_put⟩ ⟨Nat.le_of_ble_eq_true rfl, Nat.le_of_ble_eq_true rfl⟩) (va_recv hK.1 hW.1 (ci := 4) (q0 := (14 + (10 * c + 5))) rfl (lkR (r := (10 * c + 5)) (by omega))) hK hW hS hA rfl hl.1 rfl (Nat.le_of_ble_eq_true rfl) dX0_pitch_15 ⟨Nat.zero_le _, Nat.zero_le _⟩ (fun H locs hW hS => ?_)
  obtain rfl := Option.some.inj h
  exact W.vret hx hb hr (fun t ht hw => ⟨⟨(), rfl, trivial, hW.ret ht⟩, hS.F ht⟩) hS.2.2 dX0_pitch_18
abbrev rX0_settle : Room := { frames := 5, cells := 0, slots := 0, locals := 117 }
set_option maxRecDepth 100000 in
set_option maxHeartbeats 8000000 in
theorem tX0_settle (l : Launch) (G : WG) (S0 M0 : St) (c : Nat) (hc : c < 7) (p1 : Int32) (p2 : Int32) (p3 : Int32) (rr : Int32) (S' : St) (h : f0_settle S0 c p1 p2 p3 = some (rr, S')) : CtI l yX0_settle wsX0_settle rX0_settle G [.ref (gad G c), .int p1, .int p2, .int p3] S0 M0 rr S' M0 := by
  refine Met.ofW (cc := cX0_settle) (maxL := 6) (ret := (some .int)) (by decide) rfl ?_
  intro p e s m args below meth cd s₁ B hml hv
  obtain ⟨hargs, hK, hW⟩ := hv
  have hx := B.exec
  have hb := B.bytes
  have hr := B.returns
  have hts := atoms_spec (ws := wsX0_settle) B.pre
  have hown : s.vm.findClass RX0 = some m.cls := findClass_of_methodNamed B.named
  have hlocks := B.notSynchronized
  have hA : ∀ q, Aw G q → Aw G q := fun _ h => h
  have hS : va_S (Aw G) s.heap s.heap [] := va_S.rf
  have he0 : entryFrame m args 6 = F0 m 0 ((lg_sl ([.ref (gad G c), .int p1, .int p2, .int p3]) ++ List.replicate (6 - (lg_sl ([.ref (gad G c), .int p1, .int p2, .int p3])).length) Slot.unset).toArray) [] := by rw [hargs]; exact lg_entry_eq _ _ _
  have hl := lv_entry ([.ref (gad G c), .int p1, .int p2, .int p3]) (n := 6) (Nat.le_of_ble_eq_true rfl)
  rw [he0]
  generalize (lg_sl ([.ref (gad G c), .int p1, .int p2, .int p3]) ++ List.replicate (6 - (lg_sl ([.ref (gad G c), .int p1, .int p2, .int p3])).length) Slot.unset).toArray = ls at hl ⊢
  have hl : lv_has ls 6 [(0, .ref (gad G c)), (1, .int p1), (2, .int p2), (3, .int p3)] := hl
  have hiX0 : ∀ w ∈ u_ws RX0 TX0 12, w ∈ wsX0_settle := by decide +kernel
  unfold f0_settle at h
  refine lv_aload_n hx hb dX0_settle_0 rfl (lv_at hl 0 rfl) ?_
  refine va_get (D := G.1) (ci := 0) (v := .int (S0.1 (6 * c + 1))) (C := RX0) (T := TX0) (N := 12) hx hb hts hiX0 hown hK.1 hW.1 c (lkC (c := c) (by omega)) rfl 7 (by decide) (hts _ (List.mem_of_getElem? (i := 1) rfl)) (fun _ h9 => h9) rfl dX0_settle_1 ?_
  obtain ⟨x_1, ex_1, h⟩ := nam_e h
  refine lv_ni ex_1 ?_
  refine lv_istore (lv' := [(4, .int x_1), (0, .ref (gad G c)), (1, .int p1), (2, .int p2), (3, .int p3)]) hx hb dX0_settle_4 hl (by decide) rfl (fun ls hl => ?_)
  refine lv_aload_n hx hb dX0_settle_6 rfl (lv_at hl 1 rfl) ?_
  refine va_get (D := G.1) (ci := 0) (v := .ref (gad G (7 + c))) (C := RX0) (T := TX0) (N := 12) hx hb hts hiX0 hown hK.1 hW.1 c (lkC (c := c) (by omega)) rfl 0 (by decide) (hts _ (List.mem_of_getElem? (i := 2) rfl)) (fun _ h9 => h9) rfl dX0_settle_7 ?_
  refine lv_iload_n hx hb dX0_settle_10 rfl (lv_at hl 2 rfl) ?_
  refine lv_iload_n hx hb dX0_settle_11 rfl (lv_at hl 3 rfl) ?_
  obtain ⟨r_2, e_3, h⟩ := bnd_e h
  refine kV_I (As := [.int p1, .int p2]) (rest := []) ⟨hx, hb, hml, hown, hts⟩ (tX3_find l G S0 M0 c (by omega) p1 p2 r_2 e_3) (cwV 2 hts gX0_settle_X3_find rfl rfl rfl ⟨rfl, hdX3_find⟩ ⟨Nat.le_of_ble_eq_true rfl, Nat.le_of_ble_eq_true rfl⟩) (va_recv hK.1 hW.1 (ci := 3) (q0 := (7 + c)) rfl (lkP (c := c) (by omega))) hK hW hS hA rfl hl.1 rfl (Nat.le_of_ble_eq_true rfl) dX0_settle_12 ⟨Nat.zero_le _, Nat.zero_le _⟩ (fun H locs hW hS => ?_)
  refine lv_istore (lv' := [(5, .int r_2), (4, .int x_1), (0, .ref (gad G c)), (1, .int p1), (2, .int p2), (3, .int p3)]) hx hb dX0_settle_15 hl (by decide) rfl (fun ls hl => ?_)
  refine lv_aload_n hx hb dX0_settle_17 rfl (lv_at hl 2 rfl) ?_
  refine lv_dup hx hb dX0_settle_18 rfl ?_
  refine va_get (D := G.1) (ci := 0) (v := .int (S0.1 (6 * c + 3))) (C := RX0) (T := TX0) (N := 12) hx hb hts hiX0 hown hK.1 hW.1 c (lkC (c := c) (by omega)) rfl 9 (by decide) (hts _ (List.mem_of_getElem? (i := 3) rfl)) (fun _ h9 => h9) rfl dX0_settle_19 ?_
  refine lv_iload_n hx hb dX0_settle_22 rfl (lv_at hl 5 rfl) ?_
  refine lv_aload_n hx hb dX0_settle_23 rfl (lv_at hl 2 rfl) ?_
  refine va_get (D := G.1) (ci := 0) (v := .ref (gad G (7 + c))) (C := RX0) (T := TX0) (N := 12) hx hb hts hiX0 hown hK.1 hW.1 c (lkC (c := c) (by omega)) rfl 0 (by decide) (hts _ (List.mem_of_getElem? (i := 2) rfl)) (fun _ h9 => h9) rfl dX0_settle_24 ?_
  refine lv_iload hx hb dX0_settle_27 (lv_at hl 0 rfl) ?_
  obtain ⟨r_4, e_5, h⟩ := bnd_e h
  refine kV_I (As := [.int r_2]) (rest := [.int p3, .int (S0.1 (6 * c + 3)), .ref (gad G c)]) ⟨hx, hb, hml, hown, hts⟩ (tX3_depthOf l G S0 M0 c (by omega) r_2 r_4 e_5) (cwV 1 hts gX0_settle_X3_depthOf rfl rfl rfl ⟨rfl, hdX3_depthOf⟩ ⟨Nat.le_of_ble_eq_true rfl, Nat.le_of_ble_eq_true rfl⟩) (va_recv hK.1 hW.1 (ci := 3) (q0 := (7 + c)) rfl (lkP (c := c) (by omega))) hK hW hS hA rfl hl.1 rfl (Nat.le_of_ble_eq_true rfl) dX0_settle_29 ⟨Nat.zero_le _, Nat.zero_le _⟩ (fun H locs hW hS => ?_)
  refine lv_isub hx hb dX0_settle_32 ?_
  refine lv_iadd hx hb dX0_settle_33 ?_
  obtain ⟨S_6, eS_6, h⟩ := nam_e h
  refine va_put (D := G.1) (ci := 0) (v := .int ((S0.1 (6 * c + 3) + (p3 - r_4)))) (ty := .int) (C := RX0) (T := TX0) (N := 12) hx hb hts hiX0 tyX0 tyX0_ok nmX0 hown hK.1 hW.1 (hW.D hA) hS c (lkC (c := c) (by omega)) rfl 9 (by decide) (hts _ (List.mem_of_getElem? (i := 3) rfl)) (fun _ h9 => h9) rfl (by decide +kernel) rfl rfl (Nat.le_of_ble_eq_true rfl) dX0_settle_34 (fun H locs hP hD hS => ?_)
  have hW := upC3 (c := c) (by omega) hW hP
  rw [← eS_6] at hW
  refine lv_aload_n hx hb dX0_settle_37 rfl (lv_at hl 2 rfl) ?_
  refine va_get (D := G.1) (ci := 0) (v := .ref (gad G (7 + c))) (C := RX0) (T := TX0) (N := 12) hx hb hts hiX0 hown hK.1 hW.1 c (lkC (c := c) (by omega)) rfl 0 (by decide) (hts _ (List.mem_of_getElem? (i := 2) rfl)) (fun _ h9 => h9) rfl dX0_settle_38 ?_
  refine lv_iload hx hb dX0_settle_41 (lv_at hl 0 rfl) ?_
  refine lv_iload_n hx hb dX0_settle_43 rfl (lv_at hl 3 rfl) ?_
  refine lv_iload_n hx hb dX0_settle_44 rfl (lv_at hl 4 rfl) ?_
  refine lv_iload_n hx hb dX0_settle_45 rfl (lv_at hl 5 rfl) ?_
  refine lv_iload hx hb dX0_settle_46 (lv_at hl 1 rfl) ?_
  obtain ⟨S_7, e_8, h⟩ := bnd_e h
  refine kV_V (As := [.int r_2, .int p1, .int p2, .int p3, .int x_1]) (rest := []) ⟨hx, hb, hml, hown, hts⟩ (tX3_halveDown l G S_6 M0 c (by omega) r_2 p1 p2 p3 x_1 S_7 e_8) (cwV 5 hts gX0_settle_X3_halveDown rfl rfl rfl ⟨rfl, hdX3_halveDown⟩ ⟨Nat.le_of_ble_eq_true rfl, Nat.le_of_ble_eq_true rfl⟩) (va_recv hK.1 hW.1 (ci := 3) (q0 := (7 + c)) rfl (lkP (c := c) (by omega))) hK hW hS hA rfl hl.1 rfl (Nat.le_of_ble_eq_true rfl) dX0_settle_48 ⟨Nat.zero_le _, Nat.zero_le _⟩ (fun H locs hW hS => ?_)
  refine lv_aload_n hx hb dX0_settle_51 rfl (lv_at hl 2 rfl) ?_
  refine va_get (D := G.1) (ci := 0) (v := .ref (gad G (14 + (10 * c + 6)))) (C := RX0) (T := TX0) (N := 12) hx hb hts hiX0 hown hK.1 hW.1 c (lkC (c := c) (by omega)) rfl 3 (by decide) (hts _ (List.mem_of_getElem? (i := 4) rfl)) (fun _ h9 => h9) rfl dX0_settle_52 ?_
  refine lv_iload hx hb dX0_settle_55 (lv_at hl 1 rfl) ?_
  refine lv_iconst (v := 1) hx hb dX0_settle_57 (by decide) ?_
  obtain ⟨S_9, e_10, h⟩ := bnd_e h
  refine kV_V (As := [.int x_1, .int 1]) (rest := []) ⟨hx, hb, hml, hown, hts⟩ (tX4_put l G S_7 M0 ((10 * c + 6)) (by omega) x_1 1 S_9 e_10) (cwV 2 hts gX0_settle_X4_put rfl rfl rfl ⟨rfl, hdX4_put⟩ ⟨Nat.le_of_ble_eq_true rfl, Nat.le_of_ble_eq_true rfl⟩) (va_recv hK.1 hW.1 (ci := 4) (q0 := (14 + (10 * c + 6))) rfl (lkR (r := (10 * c + 6)) (by omega))) hK hW hS hA rfl hl.1 rfl (Nat.le_of_ble_eq_true rfl) dX0_settle_58 ⟨Nat.zero_le _, Nat.zero_le _⟩ (fun H locs hW hS => ?_)
  refine lv_aload_n hx hb dX0_settle_61 rfl (lv_at hl 2 rfl) ?_
  refine lv_iload hx hb dX0_settle_62 (lv_at hl 1 rfl) ?_
  refine lv_iload_n hx hb dX0_settle_64 rfl (lv_at hl 3 rfl) ?_
  refine lv_iload_n hx hb dX0_settle_65 rfl (lv_at hl 4 rfl) ?_
  obtain ⟨S_11, e_12, h⟩ := bnd_e h
  refine kV_V (As := [.int x_1, .int p1, .int p2]) (rest := []) ⟨hx, hb, hml, hown, hts⟩ (tX0_pitch l G S_9 M0 c (by omega) x_1 p1 p2 S_11 e_12) (cwV 3 hts gX0_settle_X0_pitch rfl rfl rfl ⟨rfl, hdX0_pitch⟩ ⟨Nat.le_of_ble_eq_true rfl, Nat.le_of_ble_eq_true rfl⟩) (va_recv hK.1 hW.1 (ci := 0) (q0 := c) rfl (lkC (c := c) (by omega))) hK hW hS hA rfl hl.1 rfl (Nat.le_of_ble_eq_true rfl) dX0_settle_66 ⟨Nat.zero_le _, Nat.zero_le _⟩ (fun H locs hW hS => ?_)
  refine lv_aload_n hx hb dX0_settle_69 rfl (lv_at hl 2 rfl) ?_
  refine lv_iload hx hb dX0_settle_70 (lv_at hl 1 rfl) ?_
  refine lv_iconst (v := 1) hx hb dX0_settle_72 (by decide) ?_
  refine lv_iadd hx hb dX0_settle_73 ?_
  obtain ⟨S_13, eS_13, h⟩ := nam_e h
  refine va_put (D := G.1) (ci := 0) (v := .int ((x_1 + 1))) (ty := .int) (C := RX0) (T := TX0) (N := 12) hx hb hts hiX0 tyX0 tyX0_ok nmX0 hown hK.1 hW.1 (hW.D hA) hS c (lkC (c := c) (by omega)) rfl 7 (by decide) (hts _ (List.mem_of_getElem? (i := 1) rfl)) (fun _ h9 => h9) rfl (by decide +kernel) rfl rfl (Nat.le_of_ble_eq_true rfl) dX0_settle_74 (fun H locs hP hD hS => ?_)
  have hW := upC1 (c := c) (by omega) hW hP
  rw [← eS_13] at hW
  refine lv_iload hx hb dX0_settle_77 (lv_at hl 1 rfl) ?_
  obtain ⟨rfl, rfl⟩ := Prod.mk.inj (Option.some.inj h)
  exact W.iret hx hb hr (fun t ht hw => ⟨⟨_, (), rfl, rfl, hW.ret ht⟩, hS.F ht⟩) hS.2.2 dX0_settle_79
abbrev rX3_joinAll : Room := { frames := 3, cells := 0, slots := 0, locals := 66 }
set_option maxRecDepth 100000 in
set_option maxHeartbeats 8000000 in
theorem tX3_joinAll (l : Launch) (G : WG) (S0 M0 : St) (c : Nat) (hc : c < 7) (S' : St) (h : f3_joinAll S0 c = some (S')) : CtV l yX3_joinAll wsX3_joinAll rX3_joinAll G [.ref (gad G (7 + c))] S0 M0 S' M0 := by
  refine Met.ofW (cc := cX3_joinAll) (maxL := 1) (ret := none) (by decide) rfl ?_
  intro p e s m args below meth cd s₁ B hml hv
  obtain ⟨hargs, hK, hW⟩ := hv
  have hx := B.exec
  have hb := B.bytes
  have hr := B.returns
  have hts := atoms_spec (ws := wsX3_joinAll) B.pre
  have hown : s.vm.findClass RX3 = some m.cls := findClass_of_methodNamed B.named
  have hlocks := B.notSynchronized
  have hA : ∀ q, Aw G q → Aw G q := fun _ h => h
  have hS : va_S (Aw G) s.heap s.heap [] := va_S.rf
  have he0 : entryFrame m args 1 = F0 m 0 ((lg_sl ([.ref (gad G (7 + c))]) ++ List.replicate (1 - (lg_sl ([.ref (gad G (7 + c))])).length) Slot.unset).toArray) [] := by rw [hargs]; exact lg_entry_eq _ _ _
  have hl := lv_entry ([.ref (gad G (7 + c))]) (n := 1) (Nat.le_of_ble_eq_true rfl)
  rw [he0]
  generalize (lg_sl ([.ref (gad G (7 + c))]) ++ List.replicate (1 - (lg_sl ([.ref (gad G (7 + c))])).length) Slot.unset).toArray = ls at hl ⊢
  have hl : lv_has ls 1 [(0, .ref (gad G (7 + c)))] := hl
  have hiX3 : ∀ w ∈ u_ws RX3 TX3 5, w ∈ wsX3_joinAll := by decide +kernel
  unfold f3_joinAll at h
  refine lv_aload_n hx hb dX3_joinAll_0 rfl (lv_at hl 0 rfl) ?_
  refine lv_iconst (v := 0) hx hb dX3_joinAll_1 (by decide) ?_
  refine lv_iconst (v := 0) hx hb dX3_joinAll_2 (by decide) ?_
  refine lv_iconst (v := 0) hx hb dX3_joinAll_3 (by decide) ?_
  refine lv_iconst (v := 0) hx hb dX3_joinAll_4 (by decide) ?_
  refine lv_iconst (v := (-1)) hx hb dX3_joinAll_5 (by decide) ?_
  obtain ⟨S_1, e_2, h⟩ := bnd_e h
  refine kV_V (As := [.int 0, .int 0, .int 0, .int 0, .int ((-1))]) (rest := []) ⟨hx, hb, hml, hown, hts⟩ (tX3_put l G S0 M0 c (by omega) 0 0 0 0 ((-1)) S_1 e_2) (cwV 5 hts gX3_joinAll_X3_put rfl rfl rfl ⟨rfl, hdX3_put⟩ ⟨Nat.le_of_ble_eq_true rfl, Nat.le_of_ble_eq_true rfl⟩) (va_recv hK.1 hW.1 (ci := 3) (q0 := (7 + c)) rfl (lkP (c := c) (by omega))) hK hW hS hA rfl hl.1 rfl (Nat.le_of_ble_eq_true rfl) dX3_joinAll_6 ⟨Nat.zero_le _, Nat.zero_le _⟩ (fun H locs hW hS => ?_)
  refine lv_aload_n hx hb dX3_joinAll_9 rfl (lv_at hl 0 rfl) ?_
  refine lv_iconst (v := 1) hx hb dX3_joinAll_10 (by decide) ?_
  obtain ⟨S_3, eS_3, h⟩ := nam_e h
  refine va_put (D := G.1) (ci := 3) (v := .int 1) (ty := .int) (C := RX3) (T := TX3) (N := 5) hx hb hts hiX3 tyX3 tyX3_ok nmX3 hown hK.1 hW.1 (hW.D hA) hS (7 + c) (lkP (c := c) (by omega)) rfl 4 (by decide) (hts _ (List.mem_of_getElem? (i := 1) rfl)) (fun _ h9 => h9) rfl (by decide +kernel) rfl rfl (Nat.le_of_ble_eq_true rfl) dX3_joinAll_11 (fun H locs hP hD hS => ?_)
  have hW := upP0 (c := c) (by omega) hW hP
  rw [← eS_3] at hW
  obtain rfl := Option.some.inj h
  exact W.vret hx hb hr (fun t ht hw => ⟨⟨(), rfl, trivial, hW.ret ht⟩, hS.F ht⟩) hS.2.2 dX3_joinAll_14
abbrev rX3_isCornerLower : Room := { frames := 1, cells := 0, slots := 0, locals := 21 }
set_option maxRecDepth 100000 in
set_option maxHeartbeats 8000000 in
theorem tX3_isCornerLower (l : Launch) (G : WG) (S0 M0 : St) (c : Nat) (hc : c < 7) (p1 : Int32) (p2 : Int32) (rr : Int32) (h : f3_isCornerLower S0 c p1 p2 = some (rr)) : CtI l yX3_isCornerLower wsX3_isCornerLower rX3_isCornerLower G [.ref (gad G (7 + c)), .int p1, .int p2] S0 M0 rr S0 M0 := by
  refine Met.ofW (cc := cX3_isCornerLower) (maxL := 3) (ret := (some .boolean)) (by decide) rfl ?_
  intro p e s m args below meth cd s₁ B hml hv
  obtain ⟨hargs, hK, hW⟩ := hv
  have hx := B.exec
  have hb := B.bytes
  have hr := B.returns
  have hts := atoms_spec (ws := wsX3_isCornerLower) B.pre
  have hown : s.vm.findClass RX3 = some m.cls := findClass_of_methodNamed B.named
  have hlocks := B.notSynchronized
  have hA : ∀ q, Aw G q → Aw G q := fun _ h => h
  have hS : va_S (Aw G) s.heap s.heap [] := va_S.rf
  have he0 : entryFrame m args 3 = F0 m 0 ((lg_sl ([.ref (gad G (7 + c)), .int p1, .int p2]) ++ List.replicate (3 - (lg_sl ([.ref (gad G (7 + c)), .int p1, .int p2])).length) Slot.unset).toArray) [] := by rw [hargs]; exact lg_entry_eq _ _ _
  have hl := lv_entry ([.ref (gad G (7 + c)), .int p1, .int p2]) (n := 3) (Nat.le_of_ble_eq_true rfl)
  rw [he0]
  generalize (lg_sl ([.ref (gad G (7 + c)), .int p1, .int p2]) ++ List.replicate (3 - (lg_sl ([.ref (gad G (7 + c)), .int p1, .int p2])).length) Slot.unset).toArray = ls at hl ⊢
  have hl : lv_has ls 3 [(0, .ref (gad G (7 + c))), (1, .int p1), (2, .int p2)] := hl
  have hiX3 : ∀ w ∈ u_ws RX3 TX3 5, w ∈ wsX3_isCornerLower := by decide +kernel
  have B43 : ∀ (H : Heap) (locs : List Loc) (_ : WD G S0 M0 H) (_ : va_S (Aw G) s.heap H locs) (ls : Array Slot) (k0 : Int32) (_ : lv_has ls 3 []) (h : f3_isCornerLower_b43 S0 c k0 = some (rr)), WI p l e (headSpec wsX3_isCornerLower rX3_isCornerLower).room s m args below meth cd G rr S0 M0 H locs (F0 m 43 ls [.int k0]) := by
    intro H locs hW hS ls k0 hl h
    unfold f3_isCornerLower_b43 at h
    obtain ⟨z_1, h⟩ := isz_e h
    obtain rfl := Option.some.inj h
    exact W.zret (ty := .boolean) hx hb hr (nz_1 z_1) (fun t ht hw => ⟨⟨_, (), rfl, rfl, hW.ret ht⟩, hS.F ht⟩) hS.2.2 dX3_isCornerLower_43
  have B68 : ∀ (H : Heap) (locs : List Loc) (_ : WD G S0 M0 H) (_ : va_S (Aw G) s.heap H locs) (ls : Array Slot) (k0 : Int32) (_ : lv_has ls 3 []) (h : f3_isCornerLower_b68 S0 c k0 = some (rr)), WI p l e (headSpec wsX3_isCornerLower rX3_isCornerLower).room s m args below meth cd G rr S0 M0 H locs (F0 m 68 ls [.int k0]) := by
    intro H locs hW hS ls k0 hl h
    unfold f3_isCornerLower_b68 at h
    obtain ⟨z_1, h⟩ := isz_e h
    obtain rfl := Option.some.inj h
    exact W.zret (ty := .boolean) hx hb hr (nz_1 z_1) (fun t ht hw => ⟨⟨_, (), rfl, rfl, hW.ret ht⟩, hS.F ht⟩) hS.2.2 dX3_isCornerLower_68
  unfold f3_isCornerLower at h
  refine lv_aload_n hx hb dX3_isCornerLower_0 rfl (lv_at hl 0 rfl) ?_
  refine va_get (D := G.1) (ci := 3) (v := .ref (gad G (14 + (10 * c + 0)))) (C := RX3) (T := TX3) (N := 5) hx hb hts hiX3 hown hK.1 hW.1 (7 + c) (lkP (c := c) (by omega)) rfl 0 (by decide) (hts _ (List.mem_of_getElem? (i := 1) rfl)) (fun _ h9 => h9) rfl dX3_isCornerLower_1 ?_
  refine lv_iload_n hx hb dX3_isCornerLower_4 rfl (lv_at hl 1 rfl) ?_
  obtain ⟨r_1, e_2, h⟩ := bnd_e h
  refine kV_I (As := [.int p1]) (rest := []) ⟨hx, hb, hml, hown, hts⟩ (tX4_at l G S0 M0 ((10 * c + 0)) (by omega) p1 r_1 e_2) (cwV 1 hts gX3_isCornerLower_X4_at rfl rfl rfl ⟨rfl, hdX4_at⟩ ⟨Nat.le_of_ble_eq_true rfl, Nat.le_of_ble_eq_true rfl⟩) (va_recv hK.1 hW.1 (ci := 4) (q0 := (14 + (10 * c + 0))) rfl (lkR (r := (10 * c + 0)) (by omega))) hK hW hS hA rfl hl.1 rfl (Nat.le_of_ble_eq_true rfl) dX3_isCornerLower_5 ⟨Nat.zero_le _, Nat.zero_le _⟩ (fun H locs hW hS => ?_)
  refine lv_aload_n hx hb dX3_isCornerLower_8 rfl (lv_at hl 0 rfl) ?_
  refine va_get (D := G.1) (ci := 3) (v := .ref (gad G (14 + (10 * c + 0)))) (C := RX3) (T := TX3) (N := 5) hx hb hts hiX3 hown hK.1 hW.1 (7 + c) (lkP (c := c) (by omega)) rfl 0 (by decide) (hts _ (List.mem_of_getElem? (i := 1) rfl)) (fun _ h9 => h9) rfl dX3_isCornerLower_9 ?_
  refine lv_iload_n hx hb dX3_isCornerLower_12 rfl (lv_at hl 2 rfl) ?_
  obtain ⟨r_3, e_4, h⟩ := bnd_e h
  refine kV_I (As := [.int p2]) (rest := [.int r_1]) ⟨hx, hb, hml, hown, hts⟩ (tX4_at l G S0 M0 ((10 * c + 0)) (by omega) p2 r_3 e_4) (cwV 1 hts gX3_isCornerLower_X4_at rfl rfl rfl ⟨rfl, hdX4_at⟩ ⟨Nat.le_of_ble_eq_true rfl, Nat.le_of_ble_eq_true rfl⟩) (va_recv hK.1 hW.1 (ci := 4) (q0 := (14 + (10 * c + 0))) rfl (lkR (r := (10 * c + 0)) (by omega))) hK hW hS hA rfl hl.1 rfl (Nat.le_of_ble_eq_true rfl) dX3_isCornerLower_13 ⟨Nat.zero_le _, Nat.zero_le _⟩ (fun H locs hW hS => ?_)
  refine lv_icmp_eq (tgt := 44) hx hb dX3_isCornerLower_16 (by decide) (fun c_5 => ?_) (fun c_5 => ?_)
  · have h := ite_t c_5 h
    refine lv_aload_n hx hb dX3_isCornerLower_44 rfl (lv_at hl 0 rfl) ?_
    refine va_get (D := G.1) (ci := 3) (v := .ref (gad G (14 + (10 * c + 1)))) (C := RX3) (T := TX3) (N := 5) hx hb hts hiX3 hown hK.1 hW.1 (7 + c) (lkP (c := c) (by omega)) rfl 1 (by decide) (hts _ (List.mem_of_getElem? (i := 2) rfl)) (fun _ h9 => h9) rfl dX3_isCornerLower_45 ?_
    refine lv_iload_n hx hb dX3_isCornerLower_48 rfl (lv_at hl 1 rfl) ?_
    obtain ⟨r_6, e_7, h⟩ := bnd_e h
    refine kV_I (As := [.int p1]) (rest := []) ⟨hx, hb, hml, hown, hts⟩ (tX4_at l G S0 M0 ((10 * c + 1)) (by omega) p1 r_6 e_7) (cwV 1 hts gX3_isCornerLower_X4_at rfl rfl rfl ⟨rfl, hdX4_at⟩ ⟨Nat.le_of_ble_eq_true rfl, Nat.le_of_ble_eq_true rfl⟩) (va_recv hK.1 hW.1 (ci := 4) (q0 := (14 + (10 * c + 1))) rfl (lkR (r := (10 * c + 1)) (by omega))) hK hW hS hA rfl hl.1 rfl (Nat.le_of_ble_eq_true rfl) dX3_isCornerLower_49 ⟨Nat.zero_le _, Nat.zero_le _⟩ (fun H locs hW hS => ?_)
    refine lv_aload_n hx hb dX3_isCornerLower_52 rfl (lv_at hl 0 rfl) ?_
    refine va_get (D := G.1) (ci := 3) (v := .ref (gad G (14 + (10 * c + 1)))) (C := RX3) (T := TX3) (N := 5) hx hb hts hiX3 hown hK.1 hW.1 (7 + c) (lkP (c := c) (by omega)) rfl 1 (by decide) (hts _ (List.mem_of_getElem? (i := 2) rfl)) (fun _ h9 => h9) rfl dX3_isCornerLower_53 ?_
    refine lv_iload_n hx hb dX3_isCornerLower_56 rfl (lv_at hl 2 rfl) ?_
    obtain ⟨r_8, e_9, h⟩ := bnd_e h
    refine kV_I (As := [.int p2]) (rest := [.int r_6]) ⟨hx, hb, hml, hown, hts⟩ (tX4_at l G S0 M0 ((10 * c + 1)) (by omega) p2 r_8 e_9) (cwV 1 hts gX3_isCornerLower_X4_at rfl rfl rfl ⟨rfl, hdX4_at⟩ ⟨Nat.le_of_ble_eq_true rfl, Nat.le_of_ble_eq_true rfl⟩) (va_recv hK.1 hW.1 (ci := 4) (q0 := (14 + (10 * c + 1))) rfl (lkR (r := (10 * c + 1)) (by omega))) hK hW hS hA rfl hl.1 rfl (Nat.le_of_ble_eq_true rfl) dX3_isCornerLower_57 ⟨Nat.zero_le _, Nat.zero_le _⟩ (fun H locs hW hS => ?_)
    refine lv_icmp_ge (tgt := 67) hx hb dX3_isCornerLower_60 (by decide) (fun c_10 => ?_) (fun c_10 => ?_)
    · have h := ite_t c_10 h
      refine lv_iconst (v := 0) hx hb dX3_isCornerLower_67 (by decide) ?_
      exact B68 _ _ hW hS ls 0 (lv_sub hl [] rfl) h
    · have h := ite_f c_10 h
      refine lv_iconst (v := 1) hx hb dX3_isCornerLower_63 (by decide) ?_
      refine lv_goto (tgt := 68) hx hb dX3_isCornerLower_64 (by decide) ?_
      exact B68 _ _ hW hS ls 1 (lv_sub hl [] rfl) h
  · have h := ite_f c_5 h
    refine lv_aload_n hx hb dX3_isCornerLower_19 rfl (lv_at hl 0 rfl) ?_
    refine va_get (D := G.1) (ci := 3) (v := .ref (gad G (14 + (10 * c + 0)))) (C := RX3) (T := TX3) (N := 5) hx hb hts hiX3 hown hK.1 hW.1 (7 + c) (lkP (c := c) (by omega)) rfl 0 (by decide) (hts _ (List.mem_of_getElem? (i := 1) rfl)) (fun _ h9 => h9) rfl dX3_isCornerLower_20 ?_
    refine lv_iload_n hx hb dX3_isCornerLower_23 rfl (lv_at hl 1 rfl) ?_
    obtain ⟨r_11, e_12, h⟩ := bnd_e h
    refine kV_I (As := [.int p1]) (rest := []) ⟨hx, hb, hml, hown, hts⟩ (tX4_at l G S0 M0 ((10 * c + 0)) (by omega) p1 r_11 e_12) (cwV 1 hts gX3_isCornerLower_X4_at rfl rfl rfl ⟨rfl, hdX4_at⟩ ⟨Nat.le_of_ble_eq_true rfl, Nat.le_of_ble_eq_true rfl⟩) (va_recv hK.1 hW.1 (ci := 4) (q0 := (14 + (10 * c + 0))) rfl (lkR (r := (10 * c + 0)) (by omega))) hK hW hS hA rfl hl.1 rfl (Nat.le_of_ble_eq_true rfl) dX3_isCornerLower_24 ⟨Nat.zero_le _, Nat.zero_le _⟩ (fun H locs hW hS => ?_)
    refine lv_aload_n hx hb dX3_isCornerLower_27 rfl (lv_at hl 0 rfl) ?_
    refine va_get (D := G.1) (ci := 3) (v := .ref (gad G (14 + (10 * c + 0)))) (C := RX3) (T := TX3) (N := 5) hx hb hts hiX3 hown hK.1 hW.1 (7 + c) (lkP (c := c) (by omega)) rfl 0 (by decide) (hts _ (List.mem_of_getElem? (i := 1) rfl)) (fun _ h9 => h9) rfl dX3_isCornerLower_28 ?_
    refine lv_iload_n hx hb dX3_isCornerLower_31 rfl (lv_at hl 2 rfl) ?_
    obtain ⟨r_13, e_14, h⟩ := bnd_e h
    refine kV_I (As := [.int p2]) (rest := [.int r_11]) ⟨hx, hb, hml, hown, hts⟩ (tX4_at l G S0 M0 ((10 * c + 0)) (by omega) p2 r_13 e_14) (cwV 1 hts gX3_isCornerLower_X4_at rfl rfl rfl ⟨rfl, hdX4_at⟩ ⟨Nat.le_of_ble_eq_true rfl, Nat.le_of_ble_eq_true rfl⟩) (va_recv hK.1 hW.1 (ci := 4) (q0 := (14 + (10 * c + 0))) rfl (lkR (r := (10 * c + 0)) (by omega))) hK hW hS hA rfl hl.1 rfl (Nat.le_of_ble_eq_true rfl) dX3_isCornerLower_32 ⟨Nat.zero_le _, Nat.zero_le _⟩ (fun H locs hW hS => ?_)
    refine lv_icmp_ge (tgt := 42) hx hb dX3_isCornerLower_35 (by decide) (fun c_15 => ?_) (fun c_15 => ?_)
    · have h := ite_t c_15 h
      refine lv_iconst (v := 0) hx hb dX3_isCornerLower_42 (by decide) ?_
      exact B43 _ _ hW hS ls 0 (lv_sub hl [] rfl) h
    · have h := ite_f c_15 h
      refine lv_iconst (v := 1) hx hb dX3_isCornerLower_38 (by decide) ?_
      refine lv_goto (tgt := 43) hx hb dX3_isCornerLower_39 (by decide) ?_
      exact B43 _ _ hW hS ls 1 (lv_sub hl [] rfl) h
abbrev rX3_isGivenBefore : Room := { frames := 2, cells := 0, slots := 0, locals := 43 }
set_option maxRecDepth 100000 in
set_option maxHeartbeats 8000000 in
theorem tX3_isGivenBefore (l : Launch) (G : WG) (S0 M0 : St) (c : Nat) (hc : c < 7) (p1 : Int32) (p2 : Int32) (rr : Int32) (h : f3_isGivenBefore S0 c p1 p2 = some (rr)) : CtI l yX3_isGivenBefore wsX3_isGivenBefore rX3_isGivenBefore G [.ref (gad G (7 + c)), .int p1, .int p2] S0 M0 rr S0 M0 := by
  refine Met.ofW (cc := cX3_isGivenBefore) (maxL := 3) (ret := (some .boolean)) (by decide) rfl ?_
  intro p e s m args below meth cd s₁ B hml hv
  obtain ⟨hargs, hK, hW⟩ := hv
  have hx := B.exec
  have hb := B.bytes
  have hr := B.returns
  have hts := atoms_spec (ws := wsX3_isGivenBefore) B.pre
  have hown : s.vm.findClass RX3 = some m.cls := findClass_of_methodNamed B.named
  have hlocks := B.notSynchronized
  have hA : ∀ q, Aw G q → Aw G q := fun _ h => h
  have hS : va_S (Aw G) s.heap s.heap [] := va_S.rf
  have he0 : entryFrame m args 3 = F0 m 0 ((lg_sl ([.ref (gad G (7 + c)), .int p1, .int p2]) ++ List.replicate (3 - (lg_sl ([.ref (gad G (7 + c)), .int p1, .int p2])).length) Slot.unset).toArray) [] := by rw [hargs]; exact lg_entry_eq _ _ _
  have hl := lv_entry ([.ref (gad G (7 + c)), .int p1, .int p2]) (n := 3) (Nat.le_of_ble_eq_true rfl)
  rw [he0]
  generalize (lg_sl ([.ref (gad G (7 + c)), .int p1, .int p2]) ++ List.replicate (3 - (lg_sl ([.ref (gad G (7 + c)), .int p1, .int p2])).length) Slot.unset).toArray = ls at hl ⊢
  have hl : lv_has ls 3 [(0, .ref (gad G (7 + c))), (1, .int p1), (2, .int p2)] := hl
  have hiX3 : ∀ w ∈ u_ws RX3 TX3 5, w ∈ wsX3_isGivenBefore := by decide +kernel
  have B43 : ∀ (H : Heap) (locs : List Loc) (_ : WD G S0 M0 H) (_ : va_S (Aw G) s.heap H locs) (ls : Array Slot) (k0 : Int32) (_ : lv_has ls 3 []) (h : f3_isGivenBefore_b43 S0 c k0 = some (rr)), WI p l e (headSpec wsX3_isGivenBefore rX3_isGivenBefore).room s m args below meth cd G rr S0 M0 H locs (F0 m 43 ls [.int k0]) := by
    intro H locs hW hS ls k0 hl h
    unfold f3_isGivenBefore_b43 at h
    obtain ⟨z_1, h⟩ := isz_e h
    obtain rfl := Option.some.inj h
    exact W.zret (ty := .boolean) hx hb hr (nz_1 z_1) (fun t ht hw => ⟨⟨_, (), rfl, rfl, hW.ret ht⟩, hS.F ht⟩) hS.2.2 dX3_isGivenBefore_43
  unfold f3_isGivenBefore at h
  refine lv_aload_n hx hb dX3_isGivenBefore_0 rfl (lv_at hl 0 rfl) ?_
  refine va_get (D := G.1) (ci := 3) (v := .ref (gad G (14 + (10 * c + 2)))) (C := RX3) (T := TX3) (N := 5) hx hb hts hiX3 hown hK.1 hW.1 (7 + c) (lkP (c := c) (by omega)) rfl 2 (by decide) (hts _ (List.mem_of_getElem? (i := 1) rfl)) (fun _ h9 => h9) rfl dX3_isGivenBefore_1 ?_
  refine lv_iload_n hx hb dX3_isGivenBefore_4 rfl (lv_at hl 1 rfl) ?_
  obtain ⟨r_1, e_2, h⟩ := bnd_e h
  refine kV_I (As := [.int p1]) (rest := []) ⟨hx, hb, hml, hown, hts⟩ (tX4_at l G S0 M0 ((10 * c + 2)) (by omega) p1 r_1 e_2) (cwV 1 hts gX3_isGivenBefore_X4_at rfl rfl rfl ⟨rfl, hdX4_at⟩ ⟨Nat.le_of_ble_eq_true rfl, Nat.le_of_ble_eq_true rfl⟩) (va_recv hK.1 hW.1 (ci := 4) (q0 := (14 + (10 * c + 2))) rfl (lkR (r := (10 * c + 2)) (by omega))) hK hW hS hA rfl hl.1 rfl (Nat.le_of_ble_eq_true rfl) dX3_isGivenBefore_5 ⟨Nat.zero_le _, Nat.zero_le _⟩ (fun H locs hW hS => ?_)
  refine lv_aload_n hx hb dX3_isGivenBefore_8 rfl (lv_at hl 0 rfl) ?_
  refine va_get (D := G.1) (ci := 3) (v := .ref (gad G (14 + (10 * c + 2)))) (C := RX3) (T := TX3) (N := 5) hx hb hts hiX3 hown hK.1 hW.1 (7 + c) (lkP (c := c) (by omega)) rfl 2 (by decide) (hts _ (List.mem_of_getElem? (i := 1) rfl)) (fun _ h9 => h9) rfl dX3_isGivenBefore_9 ?_
  refine lv_iload_n hx hb dX3_isGivenBefore_12 rfl (lv_at hl 2 rfl) ?_
  obtain ⟨r_3, e_4, h⟩ := bnd_e h
  refine kV_I (As := [.int p2]) (rest := [.int r_1]) ⟨hx, hb, hml, hown, hts⟩ (tX4_at l G S0 M0 ((10 * c + 2)) (by omega) p2 r_3 e_4) (cwV 1 hts gX3_isGivenBefore_X4_at rfl rfl rfl ⟨rfl, hdX4_at⟩ ⟨Nat.le_of_ble_eq_true rfl, Nat.le_of_ble_eq_true rfl⟩) (va_recv hK.1 hW.1 (ci := 4) (q0 := (14 + (10 * c + 2))) rfl (lkR (r := (10 * c + 2)) (by omega))) hK hW hS hA rfl hl.1 rfl (Nat.le_of_ble_eq_true rfl) dX3_isGivenBefore_13 ⟨Nat.zero_le _, Nat.zero_le _⟩ (fun H locs hW hS => ?_)
  refine lv_icmp_eq (tgt := 44) hx hb dX3_isGivenBefore_16 (by decide) (fun c_5 => ?_) (fun c_5 => ?_)
  · have h := ite_t c_5 h
    refine lv_aload_n hx hb dX3_isGivenBefore_44 rfl (lv_at hl 0 rfl) ?_
    refine lv_iload_n hx hb dX3_isGivenBefore_45 rfl (lv_at hl 1 rfl) ?_
    refine lv_iload_n hx hb dX3_isGivenBefore_46 rfl (lv_at hl 2 rfl) ?_
    obtain ⟨r_6, e_7, h⟩ := bnd_e h
    refine kV_I (As := [.int p1, .int p2]) (rest := []) ⟨hx, hb, hml, hown, hts⟩ (tX3_isCornerLower l G S0 M0 c (by omega) p1 p2 r_6 e_7) (cwV 2 hts gX3_isGivenBefore_X3_isCornerLower rfl rfl rfl ⟨rfl, hdX3_isCornerLower⟩ ⟨Nat.le_of_ble_eq_true rfl, Nat.le_of_ble_eq_true rfl⟩) (va_recv hK.1 hW.1 (ci := 3) (q0 := (7 + c)) rfl (lkP (c := c) (by omega))) hK hW hS hA rfl hl.1 rfl (Nat.le_of_ble_eq_true rfl) dX3_isGivenBefore_47 ⟨Nat.zero_le _, Nat.zero_le _⟩ (fun H locs hW hS => ?_)
    obtain ⟨z_8, h⟩ := isz_e h
    obtain rfl := Option.some.inj h
    exact W.zret (ty := .boolean) hx hb hr (nz_1 z_8) (fun t ht hw => ⟨⟨_, (), rfl, rfl, hW.ret ht⟩, hS.F ht⟩) hS.2.2 dX3_isGivenBefore_50
  · have h := ite_f c_5 h
    refine lv_aload_n hx hb dX3_isGivenBefore_19 rfl (lv_at hl 0 rfl) ?_
    refine va_get (D := G.1) (ci := 3) (v := .ref (gad G (14 + (10 * c + 2)))) (C := RX3) (T := TX3) (N := 5) hx hb hts hiX3 hown hK.1 hW.1 (7 + c) (lkP (c := c) (by omega)) rfl 2 (by decide) (hts _ (List.mem_of_getElem? (i := 1) rfl)) (fun _ h9 => h9) rfl dX3_isGivenBefore_20 ?_
    refine lv_iload_n hx hb dX3_isGivenBefore_23 rfl (lv_at hl 1 rfl) ?_
    obtain ⟨r_9, e_10, h⟩ := bnd_e h
    refine kV_I (As := [.int p1]) (rest := []) ⟨hx, hb, hml, hown, hts⟩ (tX4_at l G S0 M0 ((10 * c + 2)) (by omega) p1 r_9 e_10) (cwV 1 hts gX3_isGivenBefore_X4_at rfl rfl rfl ⟨rfl, hdX4_at⟩ ⟨Nat.le_of_ble_eq_true rfl, Nat.le_of_ble_eq_true rfl⟩) (va_recv hK.1 hW.1 (ci := 4) (q0 := (14 + (10 * c + 2))) rfl (lkR (r := (10 * c + 2)) (by omega))) hK hW hS hA rfl hl.1 rfl (Nat.le_of_ble_eq_true rfl) dX3_isGivenBefore_24 ⟨Nat.zero_le _, Nat.zero_le _⟩ (fun H locs hW hS => ?_)
    refine lv_aload_n hx hb dX3_isGivenBefore_27 rfl (lv_at hl 0 rfl) ?_
    refine va_get (D := G.1) (ci := 3) (v := .ref (gad G (14 + (10 * c + 2)))) (C := RX3) (T := TX3) (N := 5) hx hb hts hiX3 hown hK.1 hW.1 (7 + c) (lkP (c := c) (by omega)) rfl 2 (by decide) (hts _ (List.mem_of_getElem? (i := 1) rfl)) (fun _ h9 => h9) rfl dX3_isGivenBefore_28 ?_
    refine lv_iload_n hx hb dX3_isGivenBefore_31 rfl (lv_at hl 2 rfl) ?_
    obtain ⟨r_11, e_12, h⟩ := bnd_e h
    refine kV_I (As := [.int p2]) (rest := [.int r_9]) ⟨hx, hb, hml, hown, hts⟩ (tX4_at l G S0 M0 ((10 * c + 2)) (by omega) p2 r_11 e_12) (cwV 1 hts gX3_isGivenBefore_X4_at rfl rfl rfl ⟨rfl, hdX4_at⟩ ⟨Nat.le_of_ble_eq_true rfl, Nat.le_of_ble_eq_true rfl⟩) (va_recv hK.1 hW.1 (ci := 4) (q0 := (14 + (10 * c + 2))) rfl (lkR (r := (10 * c + 2)) (by omega))) hK hW hS hA rfl hl.1 rfl (Nat.le_of_ble_eq_true rfl) dX3_isGivenBefore_32 ⟨Nat.zero_le _, Nat.zero_le _⟩ (fun H locs hW hS => ?_)
    refine lv_icmp_le (tgt := 42) hx hb dX3_isGivenBefore_35 (by decide) (fun c_13 => ?_) (fun c_13 => ?_)
    · have h := ite_t c_13 h
      refine lv_iconst (v := 0) hx hb dX3_isGivenBefore_42 (by decide) ?_
      exact B43 _ _ hW hS ls 0 (lv_sub hl [] rfl) h
    · have h := ite_f c_13 h
      refine lv_iconst (v := 1) hx hb dX3_isGivenBefore_38 (by decide) ?_
      refine lv_goto (tgt := 43) hx hb dX3_isGivenBefore_39 (by decide) ?_
      exact B43 _ _ hW hS ls 1 (lv_sub hl [] rfl) h
abbrev rX3_firstToGive : Room := { frames := 3, cells := 0, slots := 0, locals := 65 }
set_option maxRecDepth 100000 in
set_option maxHeartbeats 8000000 in
theorem tX3_firstToGive (l : Launch) (G : WG) (S0 M0 : St) (c : Nat) (hc : c < 7) (p1 : Int32) (rr : Int32) (h : f3_firstToGive S0 c p1 = some (rr)) : CtI l yX3_firstToGive wsX3_firstToGive rX3_firstToGive G [.ref (gad G (7 + c)), .int p1] S0 M0 rr S0 M0 := by
  refine Met.ofW (cc := cX3_firstToGive) (maxL := 4) (ret := (some .int)) (by decide) rfl ?_
  intro p e s m args below meth cd s₁ B hml hv
  obtain ⟨hargs, hK, hW⟩ := hv
  have hx := B.exec
  have hb := B.bytes
  have hr := B.returns
  have hts := atoms_spec (ws := wsX3_firstToGive) B.pre
  have hown : s.vm.findClass RX3 = some m.cls := findClass_of_methodNamed B.named
  have hlocks := B.notSynchronized
  have hA : ∀ q, Aw G q → Aw G q := fun _ h => h
  have hS : va_S (Aw G) s.heap s.heap [] := va_S.rf
  have he0 : entryFrame m args 4 = F0 m 0 ((lg_sl ([.ref (gad G (7 + c)), .int p1]) ++ List.replicate (4 - (lg_sl ([.ref (gad G (7 + c)), .int p1])).length) Slot.unset).toArray) [] := by rw [hargs]; exact lg_entry_eq _ _ _
  have hl := lv_entry ([.ref (gad G (7 + c)), .int p1]) (n := 4) (Nat.le_of_ble_eq_true rfl)
  rw [he0]
  generalize (lg_sl ([.ref (gad G (7 + c)), .int p1]) ++ List.replicate (4 - (lg_sl ([.ref (gad G (7 + c)), .int p1])).length) Slot.unset).toArray = ls at hl ⊢
  have hl : lv_has ls 4 [(0, .ref (gad G (7 + c))), (1, .int p1)] := hl
  have hiX3 : ∀ w ∈ u_ws RX3 TX3 5, w ∈ wsX3_firstToGive := by decide +kernel
  have B4 : ∀ (n : Nat), ∀ (H : Heap) (locs : List Loc) (_ : WD G S0 M0 H) (_ : va_S (Aw G) s.heap H locs) (ls : Array Slot) (l1 : Int32) (l2 : Int32) (l3 : Int32) (_ : lv_has ls 4 [(0, .ref (gad G (7 + c))), (1, .int l1), (2, .int l2), (3, .int l3)]) (h : f3_firstToGive_b4 S0 c l1 n l2 l3 = some (rr)), WI p l e (headSpec wsX3_firstToGive rX3_firstToGive).room s m args below meth cd G rr S0 M0 H locs (F0 m 4 ls []) := by
    intro n
    induction n with
    | zero => intro H locs hW hS ls l1 l2 l3 hl h; cases (show (none : Option (Int32)) = some _ from h)
    | succ n ih =>
      have B40 : ∀ (H : Heap) (locs : List Loc) (_ : WD G S0 M0 H) (_ : va_S (Aw G) s.heap H locs) (ls : Array Slot) (l1 : Int32) (l2 : Int32) (l3 : Int32) (_ : lv_has ls 4 [(0, .ref (gad G (7 + c))), (1, .int l1), (2, .int l2), (3, .int l3)]) (h : f3_firstToGive_b40 S0 c (f3_firstToGive_b4 S0 c l1 n) l1 l2 l3 = some (rr)), WI p l e (headSpec wsX3_firstToGive rX3_firstToGive).room s m args below meth cd G rr S0 M0 H locs (F0 m 40 ls []) := by
        intro H locs hW hS ls l1 l2 l3 hl h
        unfold f3_firstToGive_b40 at h
        refine lv_iinc (v := (l3 + 1)) (lv' := [(3, .int ((l3 + 1))), (0, .ref (gad G (7 + c))), (1, .int l1), (2, .int l2)]) hx hb dX3_firstToGive_40 hl (k := 3) rfl rfl (by decide) rfl (fun ls hl => ?_)
        refine lv_goto (tgt := 4) hx hb dX3_firstToGive_43 (by decide) ?_
        exact ih _ _ hW hS ls l1 l2 ((l3 + 1)) (lv_sub hl [1, 2, 3, 0] rfl) h
      have B38 : ∀ (H : Heap) (locs : List Loc) (_ : WD G S0 M0 H) (_ : va_S (Aw G) s.heap H locs) (ls : Array Slot) (l1 : Int32) (l3 : Int32) (_ : lv_has ls 4 [(0, .ref (gad G (7 + c))), (1, .int l1), (3, .int l3)]) (h : f3_firstToGive_b38 S0 c (f3_firstToGive_b4 S0 c l1 n) l1 l3 = some (rr)), WI p l e (headSpec wsX3_firstToGive rX3_firstToGive).room s m args below meth cd G rr S0 M0 H locs (F0 m 38 ls []) := by
        intro H locs hW hS ls l1 l3 hl h
        unfold f3_firstToGive_b38 at h
        refine lv_iload_n hx hb dX3_firstToGive_38 rfl (lv_at hl 2 rfl) ?_
        refine lv_istore_n (lv' := [(2, .int l3), (0, .ref (gad G (7 + c))), (1, .int l1), (3, .int l3)]) hx hb dX3_firstToGive_39 rfl hl (by decide) rfl (fun ls hl => ?_)
        exact B40 _ _ hW hS ls l1 l3 l3 (lv_sub hl [1, 2, 0, 3] rfl) h
      intro H locs hW hS ls l1 l2 l3 hl h
      rw [f3_firstToGive_b4] at h
      refine lv_iload_n hx hb dX3_firstToGive_4 rfl (lv_at hl 3 rfl) ?_
      refine lv_aload_n hx hb dX3_firstToGive_5 rfl (lv_at hl 0 rfl) ?_
      refine va_get (D := G.1) (ci := 3) (v := .int (S0.1 (6 * c + 0))) (C := RX3) (T := TX3) (N := 5) hx hb hts hiX3 hown hK.1 hW.1 (7 + c) (lkP (c := c) (by omega)) rfl 4 (by decide) (hts _ (List.mem_of_getElem? (i := 1) rfl)) (fun _ h9 => h9) rfl dX3_firstToGive_6 ?_
      refine lv_icmp_ge (tgt := 46) hx hb dX3_firstToGive_9 (by decide) (fun c_1 => ?_) (fun c_1 => ?_)
      · have h := ite_t c_1 h
        refine lv_iload_n hx hb dX3_firstToGive_46 rfl (lv_at hl 2 rfl) ?_
        obtain rfl := Option.some.inj h
        exact W.iret hx hb hr (fun t ht hw => ⟨⟨_, (), rfl, rfl, hW.ret ht⟩, hS.F ht⟩) hS.2.2 dX3_firstToGive_47
      · have h := ite_f c_1 h
        refine lv_aload_n hx hb dX3_firstToGive_12 rfl (lv_at hl 0 rfl) ?_
        refine va_get (D := G.1) (ci := 3) (v := .ref (gad G (14 + (10 * c + 3)))) (C := RX3) (T := TX3) (N := 5) hx hb hts hiX3 hown hK.1 hW.1 (7 + c) (lkP (c := c) (by omega)) rfl 3 (by decide) (hts _ (List.mem_of_getElem? (i := 2) rfl)) (fun _ h9 => h9) rfl dX3_firstToGive_13 ?_
        refine lv_iload_n hx hb dX3_firstToGive_16 rfl (lv_at hl 3 rfl) ?_
        obtain ⟨r_2, e_3, h⟩ := bnd_e h
        refine kV_I (As := [.int l3]) (rest := []) ⟨hx, hb, hml, hown, hts⟩ (tX4_at l G S0 M0 ((10 * c + 3)) (by omega) l3 r_2 e_3) (cwV 1 hts gX3_firstToGive_X4_at rfl rfl rfl ⟨rfl, hdX4_at⟩ ⟨Nat.le_of_ble_eq_true rfl, Nat.le_of_ble_eq_true rfl⟩) (va_recv hK.1 hW.1 (ci := 4) (q0 := (14 + (10 * c + 3))) rfl (lkR (r := (10 * c + 3)) (by omega))) hK hW hS hA rfl hl.1 rfl (Nat.le_of_ble_eq_true rfl) dX3_firstToGive_17 ⟨Nat.zero_le _, Nat.zero_le _⟩ (fun H locs hW hS => ?_)
        refine lv_iload_n hx hb dX3_firstToGive_20 rfl (lv_at hl 1 rfl) ?_
        refine lv_icmp_ne (tgt := 40) hx hb dX3_firstToGive_21 (by decide) (fun c_4 => ?_) (fun c_4 => ?_)
        · have h := ite_f c_4 h
          exact B40 _ _ hW hS ls l1 l2 l3 (lv_sub hl [0, 1, 2, 3] rfl) h
        · have h := ite_t c_4 h
          refine lv_iload_n hx hb dX3_firstToGive_24 rfl (lv_at hl 2 rfl) ?_
          refine lv_iconst (v := (-1)) hx hb dX3_firstToGive_25 (by decide) ?_
          refine lv_icmp_eq (tgt := 38) hx hb dX3_firstToGive_26 (by decide) (fun c_5 => ?_) (fun c_5 => ?_)
          · have h := ite_t c_5 h
            exact B38 _ _ hW hS ls l1 l3 (lv_sub hl [0, 1, 3] rfl) h
          · have h := ite_f c_5 h
            refine lv_aload_n hx hb dX3_firstToGive_29 rfl (lv_at hl 0 rfl) ?_
            refine lv_iload_n hx hb dX3_firstToGive_30 rfl (lv_at hl 3 rfl) ?_
            refine lv_iload_n hx hb dX3_firstToGive_31 rfl (lv_at hl 2 rfl) ?_
            obtain ⟨r_6, e_7, h⟩ := bnd_e h
            refine kV_I (As := [.int l3, .int l2]) (rest := []) ⟨hx, hb, hml, hown, hts⟩ (tX3_isGivenBefore l G S0 M0 c (by omega) l3 l2 r_6 e_7) (cwV 2 hts gX3_firstToGive_X3_isGivenBefore rfl rfl rfl ⟨rfl, hdX3_isGivenBefore⟩ ⟨Nat.le_of_ble_eq_true rfl, Nat.le_of_ble_eq_true rfl⟩) (va_recv hK.1 hW.1 (ci := 3) (q0 := (7 + c)) rfl (lkP (c := c) (by omega))) hK hW hS hA rfl hl.1 rfl (Nat.le_of_ble_eq_true rfl) dX3_firstToGive_32 ⟨Nat.zero_le _, Nat.zero_le _⟩ (fun H locs hW hS => ?_)
            refine lv_if_eq (tgt := 40) hx hb dX3_firstToGive_35 (by decide) (fun c_8 => ?_) (fun c_8 => ?_)
            · have h := ite_t c_8 h
              exact B40 _ _ hW hS ls l1 l2 l3 (lv_sub hl [0, 1, 2, 3] rfl) h
            · have h := ite_f c_8 h
              exact B38 _ _ hW hS ls l1 l3 (lv_sub hl [0, 1, 3] rfl) h
  unfold f3_firstToGive at h
  refine lv_iconst (v := (-1)) hx hb dX3_firstToGive_0 (by decide) ?_
  refine lv_istore_n (lv' := [(2, .int ((-1))), (0, .ref (gad G (7 + c))), (1, .int p1)]) hx hb dX3_firstToGive_1 rfl hl (by decide) rfl (fun ls hl => ?_)
  refine lv_iconst (v := 0) hx hb dX3_firstToGive_2 (by decide) ?_
  refine lv_istore_n (lv' := [(3, .int 0), (2, .int ((-1))), (0, .ref (gad G (7 + c))), (1, .int p1)]) hx hb dX3_firstToGive_3 rfl hl (by decide) rfl (fun ls hl => ?_)
  exact B4 fuelN _ _ hW hS ls p1 ((-1)) 0 (lv_sub hl [2, 3, 1, 0] rfl) h
abbrev rX3_otherHalf : Room := { frames := 3, cells := 0, slots := 0, locals := 70 }
set_option maxRecDepth 100000 in
set_option maxHeartbeats 8000000 in
theorem tX3_otherHalf (l : Launch) (G : WG) (S0 M0 : St) (c : Nat) (hc : c < 7) (p1 : Int32) (rr : Int32) (h : f3_otherHalf S0 c p1 = some (rr)) : CtI l yX3_otherHalf wsX3_otherHalf rX3_otherHalf G [.ref (gad G (7 + c)), .int p1] S0 M0 rr S0 M0 := by
  refine Met.ofW (cc := cX3_otherHalf) (maxL := 4) (ret := (some .int)) (by decide) rfl ?_
  intro p e s m args below meth cd s₁ B hml hv
  obtain ⟨hargs, hK, hW⟩ := hv
  have hx := B.exec
  have hb := B.bytes
  have hr := B.returns
  have hts := atoms_spec (ws := wsX3_otherHalf) B.pre
  have hown : s.vm.findClass RX3 = some m.cls := findClass_of_methodNamed B.named
  have hlocks := B.notSynchronized
  have hA : ∀ q, Aw G q → Aw G q := fun _ h => h
  have hS : va_S (Aw G) s.heap s.heap [] := va_S.rf
  have he0 : entryFrame m args 4 = F0 m 0 ((lg_sl ([.ref (gad G (7 + c)), .int p1]) ++ List.replicate (4 - (lg_sl ([.ref (gad G (7 + c)), .int p1])).length) Slot.unset).toArray) [] := by rw [hargs]; exact lg_entry_eq _ _ _
  have hl := lv_entry ([.ref (gad G (7 + c)), .int p1]) (n := 4) (Nat.le_of_ble_eq_true rfl)
  rw [he0]
  generalize (lg_sl ([.ref (gad G (7 + c)), .int p1]) ++ List.replicate (4 - (lg_sl ([.ref (gad G (7 + c)), .int p1])).length) Slot.unset).toArray = ls at hl ⊢
  have hl : lv_has ls 4 [(0, .ref (gad G (7 + c))), (1, .int p1)] := hl
  have hiX3 : ∀ w ∈ u_ws RX3 TX3 5, w ∈ wsX3_otherHalf := by decide +kernel
  have B61 : ∀ (H : Heap) (locs : List Loc) (_ : WD G S0 M0 H) (_ : va_S (Aw G) s.heap H locs) (ls : Array Slot) (k0 : Int32) (_ : lv_has ls 4 []) (h : f3_otherHalf_b61 S0 c k0 = some (rr)), WI p l e (headSpec wsX3_otherHalf rX3_otherHalf).room s m args below meth cd G rr S0 M0 H locs (F0 m 61 ls [.int k0]) := by
    intro H locs hW hS ls k0 hl h
    unfold f3_otherHalf_b61 at h
    obtain rfl := Option.some.inj h
    exact W.iret hx hb hr (fun t ht hw => ⟨⟨_, (), rfl, rfl, hW.ret ht⟩, hS.F ht⟩) hS.2.2 dX3_otherHalf_61
  unfold f3_otherHalf at h
  refine lv_aload_n hx hb dX3_otherHalf_0 rfl (lv_at hl 0 rfl) ?_
  refine va_get (D := G.1) (ci := 3) (v := .ref (gad G (14 + (10 * c + 2)))) (C := RX3) (T := TX3) (N := 5) hx hb hts hiX3 hown hK.1 hW.1 (7 + c) (lkP (c := c) (by omega)) rfl 2 (by decide) (hts _ (List.mem_of_getElem? (i := 1) rfl)) (fun _ h9 => h9) rfl dX3_otherHalf_1 ?_
  refine lv_iload_n hx hb dX3_otherHalf_4 rfl (lv_at hl 1 rfl) ?_
  obtain ⟨r_1, e_2, h⟩ := bnd_e h
  refine kV_I (As := [.int p1]) (rest := []) ⟨hx, hb, hml, hown, hts⟩ (tX4_at l G S0 M0 ((10 * c + 2)) (by omega) p1 r_1 e_2) (cwV 1 hts gX3_otherHalf_X4_at rfl rfl rfl ⟨rfl, hdX4_at⟩ ⟨Nat.le_of_ble_eq_true rfl, Nat.le_of_ble_eq_true rfl⟩) (va_recv hK.1 hW.1 (ci := 4) (q0 := (14 + (10 * c + 2))) rfl (lkR (r := (10 * c + 2)) (by omega))) hK hW hS hA rfl hl.1 rfl (Nat.le_of_ble_eq_true rfl) dX3_otherHalf_5 ⟨Nat.zero_le _, Nat.zero_le _⟩ (fun H locs hW hS => ?_)
  refine lv_istore_n (lv' := [(2, .int r_1), (0, .ref (gad G (7 + c))), (1, .int p1)]) hx hb dX3_otherHalf_8 rfl hl (by decide) rfl (fun ls hl => ?_)
  refine lv_iload_n hx hb dX3_otherHalf_9 rfl (lv_at hl 0 rfl) ?_
  refine lv_if_ne (tgt := 15) hx hb dX3_otherHalf_10 (by decide) (fun c_3 => ?_) (fun c_3 => ?_)
  · have h := ite_f c_3 h
    refine lv_aload_n hx hb dX3_otherHalf_15 rfl (lv_at hl 1 rfl) ?_
    refine lv_aload_n hx hb dX3_otherHalf_16 rfl (lv_at hl 1 rfl) ?_
    refine va_get (D := G.1) (ci := 3) (v := .ref (gad G (14 + (10 * c + 0)))) (C := RX3) (T := TX3) (N := 5) hx hb hts hiX3 hown hK.1 hW.1 (7 + c) (lkP (c := c) (by omega)) rfl 0 (by decide) (hts _ (List.mem_of_getElem? (i := 2) rfl)) (fun _ h9 => h9) rfl dX3_otherHalf_17 ?_
    refine lv_iload_n hx hb dX3_otherHalf_20 rfl (lv_at hl 2 rfl) ?_
    obtain ⟨r_4, e_5, h⟩ := bnd_e h
    refine kV_I (As := [.int p1]) (rest := [.ref (gad G (7 + c))]) ⟨hx, hb, hml, hown, hts⟩ (tX4_at l G S0 M0 ((10 * c + 0)) (by omega) p1 r_4 e_5) (cwV 1 hts gX3_otherHalf_X4_at rfl rfl rfl ⟨rfl, hdX4_at⟩ ⟨Nat.le_of_ble_eq_true rfl, Nat.le_of_ble_eq_true rfl⟩) (va_recv hK.1 hW.1 (ci := 4) (q0 := (14 + (10 * c + 0))) rfl (lkR (r := (10 * c + 0)) (by omega))) hK hW hS hA rfl hl.1 rfl (Nat.le_of_ble_eq_true rfl) dX3_otherHalf_21 ⟨Nat.zero_le _, Nat.zero_le _⟩ (fun H locs hW hS => ?_)
    refine lv_iload_n hx hb dX3_otherHalf_24 rfl (lv_at hl 0 rfl) ?_
    obtain ⟨r_6, e_7, h⟩ := bnd_e h
    refine kSN_I (As := [.int r_4, .int r_1]) (rest := [.ref (gad G (7 + c))]) ⟨hx, hb, hml, hown, hts⟩ (tX5_otherHalfX0 l G S0 M0 r_4 r_1 r_6 e_7) ⟨va_cnB 2 hts gX3_otherHalf_X5_otherHalfX0_n59 rfl rfl rfl (hK.2 _ (List.mem_of_getElem? (i := 18) rfl)) (hts _ (List.mem_of_getElem? (i := 11) rfl)) hdX5_otherHalfX0 ⟨Nat.le_of_ble_eq_true rfl, Nat.le_of_ble_eq_true rfl⟩, (hts _ (List.mem_of_getElem? (i := 10) rfl)), trivial⟩ hK hW hS hA rfl hl.1 rfl (Nat.le_of_ble_eq_true rfl) dX3_otherHalf_25 ⟨Nat.zero_le _, Nat.zero_le _⟩ (fun H locs hW hS => ?_)
    refine lv_aload_n hx hb dX3_otherHalf_28 rfl (lv_at hl 1 rfl) ?_
    refine va_get (D := G.1) (ci := 3) (v := .ref (gad G (14 + (10 * c + 1)))) (C := RX3) (T := TX3) (N := 5) hx hb hts hiX3 hown hK.1 hW.1 (7 + c) (lkP (c := c) (by omega)) rfl 1 (by decide) (hts _ (List.mem_of_getElem? (i := 3) rfl)) (fun _ h9 => h9) rfl dX3_otherHalf_29 ?_
    refine lv_iload_n hx hb dX3_otherHalf_32 rfl (lv_at hl 2 rfl) ?_
    obtain ⟨r_8, e_9, h⟩ := bnd_e h
    refine kV_I (As := [.int p1]) (rest := [.int r_6, .ref (gad G (7 + c))]) ⟨hx, hb, hml, hown, hts⟩ (tX4_at l G S0 M0 ((10 * c + 1)) (by omega) p1 r_8 e_9) (cwV 1 hts gX3_otherHalf_X4_at rfl rfl rfl ⟨rfl, hdX4_at⟩ ⟨Nat.le_of_ble_eq_true rfl, Nat.le_of_ble_eq_true rfl⟩) (va_recv hK.1 hW.1 (ci := 4) (q0 := (14 + (10 * c + 1))) rfl (lkR (r := (10 * c + 1)) (by omega))) hK hW hS hA rfl hl.1 rfl (Nat.le_of_ble_eq_true rfl) dX3_otherHalf_33 ⟨Nat.zero_le _, Nat.zero_le _⟩ (fun H locs hW hS => ?_)
    refine lv_iload_n hx hb dX3_otherHalf_36 rfl (lv_at hl 0 rfl) ?_
    obtain ⟨r_10, e_11, h⟩ := bnd_e h
    refine kSN_I (As := [.int r_8, .int r_1]) (rest := [.int r_6, .ref (gad G (7 + c))]) ⟨hx, hb, hml, hown, hts⟩ (tX5_otherHalfY0 l G S0 M0 r_8 r_1 r_10 e_11) ⟨va_cnB 2 hts gX3_otherHalf_X5_otherHalfY0_n62 rfl rfl rfl (hK.2 _ (List.mem_of_getElem? (i := 20) rfl)) (hts _ (List.mem_of_getElem? (i := 11) rfl)) hdX5_otherHalfY0 ⟨Nat.le_of_ble_eq_true rfl, Nat.le_of_ble_eq_true rfl⟩, (hts _ (List.mem_of_getElem? (i := 16) rfl)), trivial⟩ hK hW hS hA rfl hl.1 rfl (Nat.le_of_ble_eq_true rfl) dX3_otherHalf_37 ⟨Nat.zero_le _, Nat.zero_le _⟩ (fun H locs hW hS => ?_)
    obtain ⟨r_12, e_13, h⟩ := bnd_e h
    refine kV_I (As := [.int r_6, .int r_10]) (rest := []) ⟨hx, hb, hml, hown, hts⟩ (tX3_find l G S0 M0 c (by omega) r_6 r_10 r_12 e_13) (cwV 2 hts gX3_otherHalf_X3_find rfl rfl rfl ⟨rfl, hdX3_find⟩ ⟨Nat.le_of_ble_eq_true rfl, Nat.le_of_ble_eq_true rfl⟩) (va_recv hK.1 hW.1 (ci := 3) (q0 := (7 + c)) rfl (lkP (c := c) (by omega))) hK hW hS hA rfl hl.1 rfl (Nat.le_of_ble_eq_true rfl) dX3_otherHalf_40 ⟨Nat.zero_le _, Nat.zero_le _⟩ (fun H locs hW hS => ?_)
    refine lv_istore_n (lv' := [(3, .int r_12), (2, .int r_1), (0, .ref (gad G (7 + c))), (1, .int p1)]) hx hb dX3_otherHalf_43 rfl hl (by decide) rfl (fun ls hl => ?_)
    refine lv_aload_n hx hb dX3_otherHalf_44 rfl (lv_at hl 2 rfl) ?_
    refine va_get (D := G.1) (ci := 3) (v := .ref (gad G (14 + (10 * c + 2)))) (C := RX3) (T := TX3) (N := 5) hx hb hts hiX3 hown hK.1 hW.1 (7 + c) (lkP (c := c) (by omega)) rfl 2 (by decide) (hts _ (List.mem_of_getElem? (i := 1) rfl)) (fun _ h9 => h9) rfl dX3_otherHalf_45 ?_
    refine lv_iload_n hx hb dX3_otherHalf_48 rfl (lv_at hl 0 rfl) ?_
    obtain ⟨r_14, e_15, h⟩ := bnd_e h
    refine kV_I (As := [.int r_12]) (rest := []) ⟨hx, hb, hml, hown, hts⟩ (tX4_at l G S0 M0 ((10 * c + 2)) (by omega) r_12 r_14 e_15) (cwV 1 hts gX3_otherHalf_X4_at rfl rfl rfl ⟨rfl, hdX4_at⟩ ⟨Nat.le_of_ble_eq_true rfl, Nat.le_of_ble_eq_true rfl⟩) (va_recv hK.1 hW.1 (ci := 4) (q0 := (14 + (10 * c + 2))) rfl (lkR (r := (10 * c + 2)) (by omega))) hK hW hS hA rfl hl.1 rfl (Nat.le_of_ble_eq_true rfl) dX3_otherHalf_49 ⟨Nat.zero_le _, Nat.zero_le _⟩ (fun H locs hW hS => ?_)
    refine lv_iload_n hx hb dX3_otherHalf_52 rfl (lv_at hl 1 rfl) ?_
    refine lv_icmp_ne (tgt := 60) hx hb dX3_otherHalf_53 (by decide) (fun c_16 => ?_) (fun c_16 => ?_)
    · have h := ite_f c_16 h
      refine lv_iconst (v := (-1)) hx hb dX3_otherHalf_60 (by decide) ?_
      exact B61 _ _ hW hS ls ((-1)) (lv_sub hl [] rfl) h
    · have h := ite_t c_16 h
      refine lv_iload_n hx hb dX3_otherHalf_56 rfl (lv_at hl 0 rfl) ?_
      refine lv_goto (tgt := 61) hx hb dX3_otherHalf_57 (by decide) ?_
      exact B61 _ _ hW hS ls r_12 (lv_sub hl [] rfl) h
  · have h := ite_t c_3 h
    refine lv_iconst (v := (-1)) hx hb dX3_otherHalf_13 (by decide) ?_
    obtain rfl := Option.some.inj h
    exact W.iret hx hb hr (fun t ht hw => ⟨⟨_, (), rfl, rfl, hW.ret ht⟩, hS.F ht⟩) hS.2.2 dX3_otherHalf_14
abbrev rX3_x0Of : Room := { frames := 1, cells := 0, slots := 0, locals := 21 }
set_option maxRecDepth 100000 in
set_option maxHeartbeats 8000000 in
theorem tX3_x0Of (l : Launch) (G : WG) (S0 M0 : St) (c : Nat) (hc : c < 7) (p1 : Int32) (rr : Int32) (h : f3_x0Of S0 c p1 = some (rr)) : CtI l yX3_x0Of wsX3_x0Of rX3_x0Of G [.ref (gad G (7 + c)), .int p1] S0 M0 rr S0 M0 := by
  refine Met.ofW (cc := cX3_x0Of) (maxL := 2) (ret := (some .int)) (by decide) rfl ?_
  intro p e s m args below meth cd s₁ B hml hv
  obtain ⟨hargs, hK, hW⟩ := hv
  have hx := B.exec
  have hb := B.bytes
  have hr := B.returns
  have hts := atoms_spec (ws := wsX3_x0Of) B.pre
  have hown : s.vm.findClass RX3 = some m.cls := findClass_of_methodNamed B.named
  have hlocks := B.notSynchronized
  have hA : ∀ q, Aw G q → Aw G q := fun _ h => h
  have hS : va_S (Aw G) s.heap s.heap [] := va_S.rf
  have he0 : entryFrame m args 2 = F0 m 0 ((lg_sl ([.ref (gad G (7 + c)), .int p1]) ++ List.replicate (2 - (lg_sl ([.ref (gad G (7 + c)), .int p1])).length) Slot.unset).toArray) [] := by rw [hargs]; exact lg_entry_eq _ _ _
  have hl := lv_entry ([.ref (gad G (7 + c)), .int p1]) (n := 2) (Nat.le_of_ble_eq_true rfl)
  rw [he0]
  generalize (lg_sl ([.ref (gad G (7 + c)), .int p1]) ++ List.replicate (2 - (lg_sl ([.ref (gad G (7 + c)), .int p1])).length) Slot.unset).toArray = ls at hl ⊢
  have hl : lv_has ls 2 [(0, .ref (gad G (7 + c))), (1, .int p1)] := hl
  have hiX3 : ∀ w ∈ u_ws RX3 TX3 5, w ∈ wsX3_x0Of := by decide +kernel
  unfold f3_x0Of at h
  refine lv_aload_n hx hb dX3_x0Of_0 rfl (lv_at hl 0 rfl) ?_
  refine va_get (D := G.1) (ci := 3) (v := .ref (gad G (14 + (10 * c + 0)))) (C := RX3) (T := TX3) (N := 5) hx hb hts hiX3 hown hK.1 hW.1 (7 + c) (lkP (c := c) (by omega)) rfl 0 (by decide) (hts _ (List.mem_of_getElem? (i := 1) rfl)) (fun _ h9 => h9) rfl dX3_x0Of_1 ?_
  refine lv_iload_n hx hb dX3_x0Of_4 rfl (lv_at hl 1 rfl) ?_
  obtain ⟨r_1, e_2, h⟩ := bnd_e h
  refine kV_I (As := [.int p1]) (rest := []) ⟨hx, hb, hml, hown, hts⟩ (tX4_at l G S0 M0 ((10 * c + 0)) (by omega) p1 r_1 e_2) (cwV 1 hts gX3_x0Of_X4_at rfl rfl rfl ⟨rfl, hdX4_at⟩ ⟨Nat.le_of_ble_eq_true rfl, Nat.le_of_ble_eq_true rfl⟩) (va_recv hK.1 hW.1 (ci := 4) (q0 := (14 + (10 * c + 0))) rfl (lkR (r := (10 * c + 0)) (by omega))) hK hW hS hA rfl hl.1 rfl (Nat.le_of_ble_eq_true rfl) dX3_x0Of_5 ⟨Nat.zero_le _, Nat.zero_le _⟩ (fun H locs hW hS => ?_)
  obtain rfl := Option.some.inj h
  exact W.iret hx hb hr (fun t ht hw => ⟨⟨_, (), rfl, rfl, hW.ret ht⟩, hS.F ht⟩) hS.2.2 dX3_x0Of_8
abbrev rX3_x1Of : Room := { frames := 1, cells := 0, slots := 0, locals := 21 }
set_option maxRecDepth 100000 in
set_option maxHeartbeats 8000000 in
theorem tX3_x1Of (l : Launch) (G : WG) (S0 M0 : St) (c : Nat) (hc : c < 7) (p1 : Int32) (rr : Int32) (h : f3_x1Of S0 c p1 = some (rr)) : CtI l yX3_x1Of wsX3_x1Of rX3_x1Of G [.ref (gad G (7 + c)), .int p1] S0 M0 rr S0 M0 := by
  refine Met.ofW (cc := cX3_x1Of) (maxL := 2) (ret := (some .int)) (by decide) rfl ?_
  intro p e s m args below meth cd s₁ B hml hv
  obtain ⟨hargs, hK, hW⟩ := hv
  have hx := B.exec
  have hb := B.bytes
  have hr := B.returns
  have hts := atoms_spec (ws := wsX3_x1Of) B.pre
  have hown : s.vm.findClass RX3 = some m.cls := findClass_of_methodNamed B.named
  have hlocks := B.notSynchronized
  have hA : ∀ q, Aw G q → Aw G q := fun _ h => h
  have hS : va_S (Aw G) s.heap s.heap [] := va_S.rf
  have he0 : entryFrame m args 2 = F0 m 0 ((lg_sl ([.ref (gad G (7 + c)), .int p1]) ++ List.replicate (2 - (lg_sl ([.ref (gad G (7 + c)), .int p1])).length) Slot.unset).toArray) [] := by rw [hargs]; exact lg_entry_eq _ _ _
  have hl := lv_entry ([.ref (gad G (7 + c)), .int p1]) (n := 2) (Nat.le_of_ble_eq_true rfl)
  rw [he0]
  generalize (lg_sl ([.ref (gad G (7 + c)), .int p1]) ++ List.replicate (2 - (lg_sl ([.ref (gad G (7 + c)), .int p1])).length) Slot.unset).toArray = ls at hl ⊢
  have hl : lv_has ls 2 [(0, .ref (gad G (7 + c))), (1, .int p1)] := hl
  have hiX3 : ∀ w ∈ u_ws RX3 TX3 5, w ∈ wsX3_x1Of := by decide +kernel
  unfold f3_x1Of at h
  refine lv_aload_n hx hb dX3_x1Of_0 rfl (lv_at hl 0 rfl) ?_
  refine va_get (D := G.1) (ci := 3) (v := .ref (gad G (14 + (10 * c + 0)))) (C := RX3) (T := TX3) (N := 5) hx hb hts hiX3 hown hK.1 hW.1 (7 + c) (lkP (c := c) (by omega)) rfl 0 (by decide) (hts _ (List.mem_of_getElem? (i := 1) rfl)) (fun _ h9 => h9) rfl dX3_x1Of_1 ?_
  refine lv_iload_n hx hb dX3_x1Of_4 rfl (lv_at hl 1 rfl) ?_
  obtain ⟨r_1, e_2, h⟩ := bnd_e h
  refine kV_I (As := [.int p1]) (rest := []) ⟨hx, hb, hml, hown, hts⟩ (tX4_at l G S0 M0 ((10 * c + 0)) (by omega) p1 r_1 e_2) (cwV 1 hts gX3_x1Of_X4_at rfl rfl rfl ⟨rfl, hdX4_at⟩ ⟨Nat.le_of_ble_eq_true rfl, Nat.le_of_ble_eq_true rfl⟩) (va_recv hK.1 hW.1 (ci := 4) (q0 := (14 + (10 * c + 0))) rfl (lkR (r := (10 * c + 0)) (by omega))) hK hW hS hA rfl hl.1 rfl (Nat.le_of_ble_eq_true rfl) dX3_x1Of_5 ⟨Nat.zero_le _, Nat.zero_le _⟩ (fun H locs hW hS => ?_)
  refine lv_aload_n hx hb dX3_x1Of_8 rfl (lv_at hl 0 rfl) ?_
  refine va_get (D := G.1) (ci := 3) (v := .ref (gad G (14 + (10 * c + 2)))) (C := RX3) (T := TX3) (N := 5) hx hb hts hiX3 hown hK.1 hW.1 (7 + c) (lkP (c := c) (by omega)) rfl 2 (by decide) (hts _ (List.mem_of_getElem? (i := 2) rfl)) (fun _ h9 => h9) rfl dX3_x1Of_9 ?_
  refine lv_iload_n hx hb dX3_x1Of_12 rfl (lv_at hl 1 rfl) ?_
  obtain ⟨r_3, e_4, h⟩ := bnd_e h
  refine kV_I (As := [.int p1]) (rest := [.int r_1]) ⟨hx, hb, hml, hown, hts⟩ (tX4_at l G S0 M0 ((10 * c + 2)) (by omega) p1 r_3 e_4) (cwV 1 hts gX3_x1Of_X4_at rfl rfl rfl ⟨rfl, hdX4_at⟩ ⟨Nat.le_of_ble_eq_true rfl, Nat.le_of_ble_eq_true rfl⟩) (va_recv hK.1 hW.1 (ci := 4) (q0 := (14 + (10 * c + 2))) rfl (lkR (r := (10 * c + 2)) (by omega))) hK hW hS hA rfl hl.1 rfl (Nat.le_of_ble_eq_true rfl) dX3_x1Of_13 ⟨Nat.zero_le _, Nat.zero_le _⟩ (fun H locs hW hS => ?_)
  obtain ⟨r_5, e_6, h⟩ := bnd_e h
  refine kSN_I (As := [.int r_3]) (rest := [.int r_1]) ⟨hx, hb, hml, hown, hts⟩ (tX5_widthAt l G S0 M0 r_3 r_5 e_6) ⟨va_cnB 1 hts gX3_x1Of_X5_widthAt_n45 rfl rfl rfl (hK.2 _ (List.mem_of_getElem? (i := 13) rfl)) (hts _ (List.mem_of_getElem? (i := 10) rfl)) hdX5_widthAt ⟨Nat.le_of_ble_eq_true rfl, Nat.le_of_ble_eq_true rfl⟩, (hts _ (List.mem_of_getElem? (i := 9) rfl)), trivial⟩ hK hW hS hA rfl hl.1 rfl (Nat.le_of_ble_eq_true rfl) dX3_x1Of_16 ⟨Nat.zero_le _, Nat.zero_le _⟩ (fun H locs hW hS => ?_)
  refine lv_iadd hx hb dX3_x1Of_19 ?_
  refine lv_iconst (v := 1) hx hb dX3_x1Of_20 (by decide) ?_
  refine lv_isub hx hb dX3_x1Of_21 ?_
  obtain rfl := Option.some.inj h
  exact W.iret hx hb hr (fun t ht hw => ⟨⟨_, (), rfl, rfl, hW.ret ht⟩, hS.F ht⟩) hS.2.2 dX3_x1Of_22
abbrev rX3_y0Of : Room := { frames := 1, cells := 0, slots := 0, locals := 21 }
set_option maxRecDepth 100000 in
set_option maxHeartbeats 8000000 in
theorem tX3_y0Of (l : Launch) (G : WG) (S0 M0 : St) (c : Nat) (hc : c < 7) (p1 : Int32) (rr : Int32) (h : f3_y0Of S0 c p1 = some (rr)) : CtI l yX3_y0Of wsX3_y0Of rX3_y0Of G [.ref (gad G (7 + c)), .int p1] S0 M0 rr S0 M0 := by
  refine Met.ofW (cc := cX3_y0Of) (maxL := 2) (ret := (some .int)) (by decide) rfl ?_
  intro p e s m args below meth cd s₁ B hml hv
  obtain ⟨hargs, hK, hW⟩ := hv
  have hx := B.exec
  have hb := B.bytes
  have hr := B.returns
  have hts := atoms_spec (ws := wsX3_y0Of) B.pre
  have hown : s.vm.findClass RX3 = some m.cls := findClass_of_methodNamed B.named
  have hlocks := B.notSynchronized
  have hA : ∀ q, Aw G q → Aw G q := fun _ h => h
  have hS : va_S (Aw G) s.heap s.heap [] := va_S.rf
  have he0 : entryFrame m args 2 = F0 m 0 ((lg_sl ([.ref (gad G (7 + c)), .int p1]) ++ List.replicate (2 - (lg_sl ([.ref (gad G (7 + c)), .int p1])).length) Slot.unset).toArray) [] := by rw [hargs]; exact lg_entry_eq _ _ _
  have hl := lv_entry ([.ref (gad G (7 + c)), .int p1]) (n := 2) (Nat.le_of_ble_eq_true rfl)
  rw [he0]
  generalize (lg_sl ([.ref (gad G (7 + c)), .int p1]) ++ List.replicate (2 - (lg_sl ([.ref (gad G (7 + c)), .int p1])).length) Slot.unset).toArray = ls at hl ⊢
  have hl : lv_has ls 2 [(0, .ref (gad G (7 + c))), (1, .int p1)] := hl
  have hiX3 : ∀ w ∈ u_ws RX3 TX3 5, w ∈ wsX3_y0Of := by decide +kernel
  unfold f3_y0Of at h
  refine lv_aload_n hx hb dX3_y0Of_0 rfl (lv_at hl 0 rfl) ?_
  refine va_get (D := G.1) (ci := 3) (v := .ref (gad G (14 + (10 * c + 1)))) (C := RX3) (T := TX3) (N := 5) hx hb hts hiX3 hown hK.1 hW.1 (7 + c) (lkP (c := c) (by omega)) rfl 1 (by decide) (hts _ (List.mem_of_getElem? (i := 1) rfl)) (fun _ h9 => h9) rfl dX3_y0Of_1 ?_
  refine lv_iload_n hx hb dX3_y0Of_4 rfl (lv_at hl 1 rfl) ?_
  obtain ⟨r_1, e_2, h⟩ := bnd_e h
  refine kV_I (As := [.int p1]) (rest := []) ⟨hx, hb, hml, hown, hts⟩ (tX4_at l G S0 M0 ((10 * c + 1)) (by omega) p1 r_1 e_2) (cwV 1 hts gX3_y0Of_X4_at rfl rfl rfl ⟨rfl, hdX4_at⟩ ⟨Nat.le_of_ble_eq_true rfl, Nat.le_of_ble_eq_true rfl⟩) (va_recv hK.1 hW.1 (ci := 4) (q0 := (14 + (10 * c + 1))) rfl (lkR (r := (10 * c + 1)) (by omega))) hK hW hS hA rfl hl.1 rfl (Nat.le_of_ble_eq_true rfl) dX3_y0Of_5 ⟨Nat.zero_le _, Nat.zero_le _⟩ (fun H locs hW hS => ?_)
  obtain rfl := Option.some.inj h
  exact W.iret hx hb hr (fun t ht hw => ⟨⟨_, (), rfl, rfl, hW.ret ht⟩, hS.F ht⟩) hS.2.2 dX3_y0Of_8
abbrev rX3_y1Of : Room := { frames := 1, cells := 0, slots := 0, locals := 21 }
set_option maxRecDepth 100000 in
set_option maxHeartbeats 8000000 in
theorem tX3_y1Of (l : Launch) (G : WG) (S0 M0 : St) (c : Nat) (hc : c < 7) (p1 : Int32) (rr : Int32) (h : f3_y1Of S0 c p1 = some (rr)) : CtI l yX3_y1Of wsX3_y1Of rX3_y1Of G [.ref (gad G (7 + c)), .int p1] S0 M0 rr S0 M0 := by
  refine Met.ofW (cc := cX3_y1Of) (maxL := 2) (ret := (some .int)) (by decide) rfl ?_
  intro p e s m args below meth cd s₁ B hml hv
  obtain ⟨hargs, hK, hW⟩ := hv
  have hx := B.exec
  have hb := B.bytes
  have hr := B.returns
  have hts := atoms_spec (ws := wsX3_y1Of) B.pre
  have hown : s.vm.findClass RX3 = some m.cls := findClass_of_methodNamed B.named
  have hlocks := B.notSynchronized
  have hA : ∀ q, Aw G q → Aw G q := fun _ h => h
  have hS : va_S (Aw G) s.heap s.heap [] := va_S.rf
  have he0 : entryFrame m args 2 = F0 m 0 ((lg_sl ([.ref (gad G (7 + c)), .int p1]) ++ List.replicate (2 - (lg_sl ([.ref (gad G (7 + c)), .int p1])).length) Slot.unset).toArray) [] := by rw [hargs]; exact lg_entry_eq _ _ _
  have hl := lv_entry ([.ref (gad G (7 + c)), .int p1]) (n := 2) (Nat.le_of_ble_eq_true rfl)
  rw [he0]
  generalize (lg_sl ([.ref (gad G (7 + c)), .int p1]) ++ List.replicate (2 - (lg_sl ([.ref (gad G (7 + c)), .int p1])).length) Slot.unset).toArray = ls at hl ⊢
  have hl : lv_has ls 2 [(0, .ref (gad G (7 + c))), (1, .int p1)] := hl
  have hiX3 : ∀ w ∈ u_ws RX3 TX3 5, w ∈ wsX3_y1Of := by decide +kernel
  unfold f3_y1Of at h
  refine lv_aload_n hx hb dX3_y1Of_0 rfl (lv_at hl 0 rfl) ?_
  refine va_get (D := G.1) (ci := 3) (v := .ref (gad G (14 + (10 * c + 1)))) (C := RX3) (T := TX3) (N := 5) hx hb hts hiX3 hown hK.1 hW.1 (7 + c) (lkP (c := c) (by omega)) rfl 1 (by decide) (hts _ (List.mem_of_getElem? (i := 1) rfl)) (fun _ h9 => h9) rfl dX3_y1Of_1 ?_
  refine lv_iload_n hx hb dX3_y1Of_4 rfl (lv_at hl 1 rfl) ?_
  obtain ⟨r_1, e_2, h⟩ := bnd_e h
  refine kV_I (As := [.int p1]) (rest := []) ⟨hx, hb, hml, hown, hts⟩ (tX4_at l G S0 M0 ((10 * c + 1)) (by omega) p1 r_1 e_2) (cwV 1 hts gX3_y1Of_X4_at rfl rfl rfl ⟨rfl, hdX4_at⟩ ⟨Nat.le_of_ble_eq_true rfl, Nat.le_of_ble_eq_true rfl⟩) (va_recv hK.1 hW.1 (ci := 4) (q0 := (14 + (10 * c + 1))) rfl (lkR (r := (10 * c + 1)) (by omega))) hK hW hS hA rfl hl.1 rfl (Nat.le_of_ble_eq_true rfl) dX3_y1Of_5 ⟨Nat.zero_le _, Nat.zero_le _⟩ (fun H locs hW hS => ?_)
  refine lv_aload_n hx hb dX3_y1Of_8 rfl (lv_at hl 0 rfl) ?_
  refine va_get (D := G.1) (ci := 3) (v := .ref (gad G (14 + (10 * c + 2)))) (C := RX3) (T := TX3) (N := 5) hx hb hts hiX3 hown hK.1 hW.1 (7 + c) (lkP (c := c) (by omega)) rfl 2 (by decide) (hts _ (List.mem_of_getElem? (i := 2) rfl)) (fun _ h9 => h9) rfl dX3_y1Of_9 ?_
  refine lv_iload_n hx hb dX3_y1Of_12 rfl (lv_at hl 1 rfl) ?_
  obtain ⟨r_3, e_4, h⟩ := bnd_e h
  refine kV_I (As := [.int p1]) (rest := [.int r_1]) ⟨hx, hb, hml, hown, hts⟩ (tX4_at l G S0 M0 ((10 * c + 2)) (by omega) p1 r_3 e_4) (cwV 1 hts gX3_y1Of_X4_at rfl rfl rfl ⟨rfl, hdX4_at⟩ ⟨Nat.le_of_ble_eq_true rfl, Nat.le_of_ble_eq_true rfl⟩) (va_recv hK.1 hW.1 (ci := 4) (q0 := (14 + (10 * c + 2))) rfl (lkR (r := (10 * c + 2)) (by omega))) hK hW hS hA rfl hl.1 rfl (Nat.le_of_ble_eq_true rfl) dX3_y1Of_13 ⟨Nat.zero_le _, Nat.zero_le _⟩ (fun H locs hW hS => ?_)
  obtain ⟨r_5, e_6, h⟩ := bnd_e h
  refine kSN_I (As := [.int r_3]) (rest := [.int r_1]) ⟨hx, hb, hml, hown, hts⟩ (tX5_heightAt l G S0 M0 r_3 r_5 e_6) ⟨va_cnB 1 hts gX3_y1Of_X5_heightAt_n48 rfl rfl rfl (hK.2 _ (List.mem_of_getElem? (i := 14) rfl)) (hts _ (List.mem_of_getElem? (i := 10) rfl)) hdX5_heightAt ⟨Nat.le_of_ble_eq_true rfl, Nat.le_of_ble_eq_true rfl⟩, (hts _ (List.mem_of_getElem? (i := 9) rfl)), trivial⟩ hK hW hS hA rfl hl.1 rfl (Nat.le_of_ble_eq_true rfl) dX3_y1Of_16 ⟨Nat.zero_le _, Nat.zero_le _⟩ (fun H locs hW hS => ?_)
  refine lv_iadd hx hb dX3_y1Of_19 ?_
  refine lv_iconst (v := 1) hx hb dX3_y1Of_20 (by decide) ?_
  refine lv_isub hx hb dX3_y1Of_21 ?_
  obtain rfl := Option.some.inj h
  exact W.iret hx hb hr (fun t ht hw => ⟨⟨_, (), rfl, rfl, hW.ret ht⟩, hS.F ht⟩) hS.2.2 dX3_y1Of_22
abbrev rX3_areBeside : Room := { frames := 2, cells := 0, slots := 0, locals := 42 }
set_option maxRecDepth 100000 in
set_option maxHeartbeats 8000000 in
theorem tX3_areBeside (l : Launch) (G : WG) (S0 M0 : St) (c : Nat) (hc : c < 7) (p1 : Int32) (p2 : Int32) (rr : Int32) (h : f3_areBeside S0 c p1 p2 = some (rr)) : CtI l yX3_areBeside wsX3_areBeside rX3_areBeside G [.ref (gad G (7 + c)), .int p1, .int p2] S0 M0 rr S0 M0 := by
  refine Met.ofW (cc := cX3_areBeside) (maxL := 7) (ret := (some .boolean)) (by decide) rfl ?_
  intro p e s m args below meth cd s₁ B hml hv
  obtain ⟨hargs, hK, hW⟩ := hv
  have hx := B.exec
  have hb := B.bytes
  have hr := B.returns
  have hts := atoms_spec (ws := wsX3_areBeside) B.pre
  have hown : s.vm.findClass RX3 = some m.cls := findClass_of_methodNamed B.named
  have hlocks := B.notSynchronized
  have hA : ∀ q, Aw G q → Aw G q := fun _ h => h
  have hS : va_S (Aw G) s.heap s.heap [] := va_S.rf
  have he0 : entryFrame m args 7 = F0 m 0 ((lg_sl ([.ref (gad G (7 + c)), .int p1, .int p2]) ++ List.replicate (7 - (lg_sl ([.ref (gad G (7 + c)), .int p1, .int p2])).length) Slot.unset).toArray) [] := by rw [hargs]; exact lg_entry_eq _ _ _
  have hl := lv_entry ([.ref (gad G (7 + c)), .int p1, .int p2]) (n := 7) (Nat.le_of_ble_eq_true rfl)
  rw [he0]
  generalize (lg_sl ([.ref (gad G (7 + c)), .int p1, .int p2]) ++ List.replicate (7 - (lg_sl ([.ref (gad G (7 + c)), .int p1, .int p2])).length) Slot.unset).toArray = ls at hl ⊢
  have hl : lv_has ls 7 [(0, .ref (gad G (7 + c))), (1, .int p1), (2, .int p2)] := hl
  have B163 : ∀ (H : Heap) (locs : List Loc) (_ : WD G S0 M0 H) (_ : va_S (Aw G) s.heap H locs) (ls : Array Slot) (k0 : Int32) (_ : lv_has ls 7 []) (h : f3_areBeside_b163 S0 c k0 = some (rr)), WI p l e (headSpec wsX3_areBeside rX3_areBeside).room s m args below meth cd G rr S0 M0 H locs (F0 m 163 ls [.int k0]) := by
    intro H locs hW hS ls k0 hl h
    unfold f3_areBeside_b163 at h
    obtain ⟨z_1, h⟩ := isz_e h
    obtain rfl := Option.some.inj h
    exact W.zret (ty := .boolean) hx hb hr (nz_1 z_1) (fun t ht hw => ⟨⟨_, (), rfl, rfl, hW.ret ht⟩, hS.F ht⟩) hS.2.2 dX3_areBeside_163
  have B158 : ∀ (H : Heap) (locs : List Loc) (_ : WD G S0 M0 H) (_ : va_S (Aw G) s.heap H locs) (ls : Array Slot) (_ : lv_has ls 7 []) (h : f3_areBeside_b158 S0 c  = some (rr)), WI p l e (headSpec wsX3_areBeside rX3_areBeside).room s m args below meth cd G rr S0 M0 H locs (F0 m 158 ls []) := by
    intro H locs hW hS ls hl h
    unfold f3_areBeside_b158 at h
    refine lv_iconst (v := 1) hx hb dX3_areBeside_158 (by decide) ?_
    refine lv_goto (tgt := 163) hx hb dX3_areBeside_159 (by decide) ?_
    exact B163 _ _ hW hS ls 1 (lv_sub hl [] rfl) h
  have B162 : ∀ (H : Heap) (locs : List Loc) (_ : WD G S0 M0 H) (_ : va_S (Aw G) s.heap H locs) (ls : Array Slot) (_ : lv_has ls 7 []) (h : f3_areBeside_b162 S0 c  = some (rr)), WI p l e (headSpec wsX3_areBeside rX3_areBeside).room s m args below meth cd G rr S0 M0 H locs (F0 m 162 ls []) := by
    intro H locs hW hS ls hl h
    unfold f3_areBeside_b162 at h
    refine lv_iconst (v := 0) hx hb dX3_areBeside_162 (by decide) ?_
    exact B163 _ _ hW hS ls 0 (lv_sub hl [] rfl) h
  have B149 : ∀ (H : Heap) (locs : List Loc) (_ : WD G S0 M0 H) (_ : va_S (Aw G) s.heap H locs) (ls : Array Slot) (l3 : Int32) (l6 : Int32) (_ : lv_has ls 7 [(3, .int l3), (6, .int l6)]) (h : f3_areBeside_b149 S0 c l3 l6 = some (rr)), WI p l e (headSpec wsX3_areBeside rX3_areBeside).room s m args below meth cd G rr S0 M0 H locs (F0 m 149 ls []) := by
    intro H locs hW hS ls l3 l6 hl h
    unfold f3_areBeside_b149 at h
    refine lv_iload hx hb dX3_areBeside_149 (lv_at hl 1 rfl) ?_
    refine lv_if_eq (tgt := 162) hx hb dX3_areBeside_151 (by decide) (fun c_1 => ?_) (fun c_1 => ?_)
    · have h := ite_t c_1 h
      exact B162 _ _ hW hS ls (lv_sub hl [] rfl) h
    · have h := ite_f c_1 h
      refine lv_iload_n hx hb dX3_areBeside_154 rfl (lv_at hl 0 rfl) ?_
      refine lv_if_eq (tgt := 162) hx hb dX3_areBeside_155 (by decide) (fun c_2 => ?_) (fun c_2 => ?_)
      · have h := ite_t c_2 h
        exact B162 _ _ hW hS ls (lv_sub hl [] rfl) h
      · have h := ite_f c_2 h
        exact B158 _ _ hW hS ls (lv_sub hl [] rfl) h
  have B137 : ∀ (H : Heap) (locs : List Loc) (_ : WD G S0 M0 H) (_ : va_S (Aw G) s.heap H locs) (ls : Array Slot) (l3 : Int32) (l4 : Int32) (l5 : Int32) (k0 : Int32) (_ : lv_has ls 7 [(3, .int l3), (4, .int l4), (5, .int l5)]) (h : f3_areBeside_b137 S0 c l3 l4 l5 k0 = some (rr)), WI p l e (headSpec wsX3_areBeside rX3_areBeside).room s m args below meth cd G rr S0 M0 H locs (F0 m 137 ls [.int k0]) := by
    intro H locs hW hS ls l3 l4 l5 k0 hl h
    unfold f3_areBeside_b137 at h
    refine lv_istore (lv' := [(6, .int k0), (3, .int l3), (4, .int l4), (5, .int l5)]) hx hb dX3_areBeside_137 hl (by decide) rfl (fun ls hl => ?_)
    refine lv_iload hx hb dX3_areBeside_139 (lv_at hl 3 rfl) ?_
    refine lv_if_eq (tgt := 149) hx hb dX3_areBeside_141 (by decide) (fun c_1 => ?_) (fun c_1 => ?_)
    · have h := ite_t c_1 h
      exact B149 _ _ hW hS ls l3 k0 (lv_sub hl [1, 0] rfl) h
    · have h := ite_f c_1 h
      refine lv_iload hx hb dX3_areBeside_144 (lv_at hl 2 rfl) ?_
      refine lv_if_ne (tgt := 158) hx hb dX3_areBeside_146 (by decide) (fun c_2 => ?_) (fun c_2 => ?_)
      · have h := ite_f c_2 h
        exact B158 _ _ hW hS ls (lv_sub hl [] rfl) h
      · have h := ite_t c_2 h
        exact B149 _ _ hW hS ls l3 k0 (lv_sub hl [1, 0] rfl) h
  have B132 : ∀ (H : Heap) (locs : List Loc) (_ : WD G S0 M0 H) (_ : va_S (Aw G) s.heap H locs) (ls : Array Slot) (l3 : Int32) (l4 : Int32) (l5 : Int32) (_ : lv_has ls 7 [(3, .int l3), (4, .int l4), (5, .int l5)]) (h : f3_areBeside_b132 S0 c l3 l4 l5 = some (rr)), WI p l e (headSpec wsX3_areBeside rX3_areBeside).room s m args below meth cd G rr S0 M0 H locs (F0 m 132 ls []) := by
    intro H locs hW hS ls l3 l4 l5 hl h
    unfold f3_areBeside_b132 at h
    refine lv_iconst (v := 1) hx hb dX3_areBeside_132 (by decide) ?_
    refine lv_goto (tgt := 137) hx hb dX3_areBeside_133 (by decide) ?_
    exact B137 _ _ hW hS ls l3 l4 l5 1 (lv_sub hl [0, 1, 2] rfl) h
  have B100 : ∀ (H : Heap) (locs : List Loc) (_ : WD G S0 M0 H) (_ : va_S (Aw G) s.heap H locs) (ls : Array Slot) (l1 : Int32) (l2 : Int32) (l3 : Int32) (l4 : Int32) (k0 : Int32) (_ : lv_has ls 7 [(0, .ref (gad G (7 + c))), (1, .int l1), (2, .int l2), (3, .int l3), (4, .int l4)]) (h : f3_areBeside_b100 S0 c l1 l2 l3 l4 k0 = some (rr)), WI p l e (headSpec wsX3_areBeside rX3_areBeside).room s m args below meth cd G rr S0 M0 H locs (F0 m 100 ls [.int k0]) := by
    intro H locs hW hS ls l1 l2 l3 l4 k0 hl h
    unfold f3_areBeside_b100 at h
    refine lv_istore (lv' := [(5, .int k0), (0, .ref (gad G (7 + c))), (1, .int l1), (2, .int l2), (3, .int l3), (4, .int l4)]) hx hb dX3_areBeside_100 hl (by decide) rfl (fun ls hl => ?_)
    refine lv_aload_n hx hb dX3_areBeside_102 rfl (lv_at hl 1 rfl) ?_
    refine lv_iload_n hx hb dX3_areBeside_103 rfl (lv_at hl 2 rfl) ?_
    obtain ⟨r_1, e_2, h⟩ := bnd_e h
    refine kV_I (As := [.int l1]) (rest := []) ⟨hx, hb, hml, hown, hts⟩ (tX3_y1Of l G S0 M0 c (by omega) l1 r_1 e_2) (cwV 1 hts gX3_areBeside_X3_y1Of rfl rfl rfl ⟨rfl, hdX3_y1Of⟩ ⟨Nat.le_of_ble_eq_true rfl, Nat.le_of_ble_eq_true rfl⟩) (va_recv hK.1 hW.1 (ci := 3) (q0 := (7 + c)) rfl (lkP (c := c) (by omega))) hK hW hS hA rfl hl.1 rfl (Nat.le_of_ble_eq_true rfl) dX3_areBeside_104 ⟨Nat.zero_le _, Nat.zero_le _⟩ (fun H locs hW hS => ?_)
    refine lv_iconst (v := 1) hx hb dX3_areBeside_107 (by decide) ?_
    refine lv_iadd hx hb dX3_areBeside_108 ?_
    refine lv_aload_n hx hb dX3_areBeside_109 rfl (lv_at hl 1 rfl) ?_
    refine lv_iload_n hx hb dX3_areBeside_110 rfl (lv_at hl 3 rfl) ?_
    obtain ⟨r_3, e_4, h⟩ := bnd_e h
    refine kV_I (As := [.int l2]) (rest := [.int ((r_1 + 1))]) ⟨hx, hb, hml, hown, hts⟩ (tX3_y0Of l G S0 M0 c (by omega) l2 r_3 e_4) (cwV 1 hts gX3_areBeside_X3_y0Of rfl rfl rfl ⟨rfl, hdX3_y0Of⟩ ⟨Nat.le_of_ble_eq_true rfl, Nat.le_of_ble_eq_true rfl⟩) (va_recv hK.1 hW.1 (ci := 3) (q0 := (7 + c)) rfl (lkP (c := c) (by omega))) hK hW hS hA rfl hl.1 rfl (Nat.le_of_ble_eq_true rfl) dX3_areBeside_111 ⟨Nat.zero_le _, Nat.zero_le _⟩ (fun H locs hW hS => ?_)
    refine lv_icmp_eq (tgt := 132) hx hb dX3_areBeside_114 (by decide) (fun c_5 => ?_) (fun c_5 => ?_)
    · have h := ite_t c_5 h
      exact B132 _ _ hW hS ls l3 l4 k0 (lv_sub hl [4, 5, 0] rfl) h
    · have h := ite_f c_5 h
      refine lv_aload_n hx hb dX3_areBeside_117 rfl (lv_at hl 1 rfl) ?_
      refine lv_iload_n hx hb dX3_areBeside_118 rfl (lv_at hl 3 rfl) ?_
      obtain ⟨r_6, e_7, h⟩ := bnd_e h
      refine kV_I (As := [.int l2]) (rest := []) ⟨hx, hb, hml, hown, hts⟩ (tX3_y1Of l G S0 M0 c (by omega) l2 r_6 e_7) (cwV 1 hts gX3_areBeside_X3_y1Of rfl rfl rfl ⟨rfl, hdX3_y1Of⟩ ⟨Nat.le_of_ble_eq_true rfl, Nat.le_of_ble_eq_true rfl⟩) (va_recv hK.1 hW.1 (ci := 3) (q0 := (7 + c)) rfl (lkP (c := c) (by omega))) hK hW hS hA rfl hl.1 rfl (Nat.le_of_ble_eq_true rfl) dX3_areBeside_119 ⟨Nat.zero_le _, Nat.zero_le _⟩ (fun H locs hW hS => ?_)
      refine lv_iconst (v := 1) hx hb dX3_areBeside_122 (by decide) ?_
      refine lv_iadd hx hb dX3_areBeside_123 ?_
      refine lv_aload_n hx hb dX3_areBeside_124 rfl (lv_at hl 1 rfl) ?_
      refine lv_iload_n hx hb dX3_areBeside_125 rfl (lv_at hl 2 rfl) ?_
      obtain ⟨r_8, e_9, h⟩ := bnd_e h
      refine kV_I (As := [.int l1]) (rest := [.int ((r_6 + 1))]) ⟨hx, hb, hml, hown, hts⟩ (tX3_y0Of l G S0 M0 c (by omega) l1 r_8 e_9) (cwV 1 hts gX3_areBeside_X3_y0Of rfl rfl rfl ⟨rfl, hdX3_y0Of⟩ ⟨Nat.le_of_ble_eq_true rfl, Nat.le_of_ble_eq_true rfl⟩) (va_recv hK.1 hW.1 (ci := 3) (q0 := (7 + c)) rfl (lkP (c := c) (by omega))) hK hW hS hA rfl hl.1 rfl (Nat.le_of_ble_eq_true rfl) dX3_areBeside_126 ⟨Nat.zero_le _, Nat.zero_le _⟩ (fun H locs hW hS => ?_)
      refine lv_icmp_ne (tgt := 136) hx hb dX3_areBeside_129 (by decide) (fun c_10 => ?_) (fun c_10 => ?_)
      · have h := ite_f c_10 h
        refine lv_iconst (v := 0) hx hb dX3_areBeside_136 (by decide) ?_
        exact B137 _ _ hW hS ls l3 l4 k0 0 (lv_sub hl [4, 5, 0] rfl) h
      · have h := ite_t c_10 h
        exact B132 _ _ hW hS ls l3 l4 k0 (lv_sub hl [4, 5, 0] rfl) h
  have B95 : ∀ (H : Heap) (locs : List Loc) (_ : WD G S0 M0 H) (_ : va_S (Aw G) s.heap H locs) (ls : Array Slot) (l1 : Int32) (l2 : Int32) (l3 : Int32) (l4 : Int32) (_ : lv_has ls 7 [(0, .ref (gad G (7 + c))), (1, .int l1), (2, .int l2), (3, .int l3), (4, .int l4)]) (h : f3_areBeside_b95 S0 c l1 l2 l3 l4 = some (rr)), WI p l e (headSpec wsX3_areBeside rX3_areBeside).room s m args below meth cd G rr S0 M0 H locs (F0 m 95 ls []) := by
    intro H locs hW hS ls l1 l2 l3 l4 hl h
    unfold f3_areBeside_b95 at h
    refine lv_iconst (v := 1) hx hb dX3_areBeside_95 (by decide) ?_
    refine lv_goto (tgt := 100) hx hb dX3_areBeside_96 (by decide) ?_
    exact B100 _ _ hW hS ls l1 l2 l3 l4 1 (lv_sub hl [0, 1, 2, 3, 4] rfl) h
  have B63 : ∀ (H : Heap) (locs : List Loc) (_ : WD G S0 M0 H) (_ : va_S (Aw G) s.heap H locs) (ls : Array Slot) (l1 : Int32) (l2 : Int32) (l3 : Int32) (k0 : Int32) (_ : lv_has ls 7 [(0, .ref (gad G (7 + c))), (1, .int l1), (2, .int l2), (3, .int l3)]) (h : f3_areBeside_b63 S0 c l1 l2 l3 k0 = some (rr)), WI p l e (headSpec wsX3_areBeside rX3_areBeside).room s m args below meth cd G rr S0 M0 H locs (F0 m 63 ls [.int k0]) := by
    intro H locs hW hS ls l1 l2 l3 k0 hl h
    unfold f3_areBeside_b63 at h
    refine lv_istore (lv' := [(4, .int k0), (0, .ref (gad G (7 + c))), (1, .int l1), (2, .int l2), (3, .int l3)]) hx hb dX3_areBeside_63 hl (by decide) rfl (fun ls hl => ?_)
    refine lv_aload_n hx hb dX3_areBeside_65 rfl (lv_at hl 1 rfl) ?_
    refine lv_iload_n hx hb dX3_areBeside_66 rfl (lv_at hl 2 rfl) ?_
    obtain ⟨r_1, e_2, h⟩ := bnd_e h
    refine kV_I (As := [.int l1]) (rest := []) ⟨hx, hb, hml, hown, hts⟩ (tX3_x1Of l G S0 M0 c (by omega) l1 r_1 e_2) (cwV 1 hts gX3_areBeside_X3_x1Of rfl rfl rfl ⟨rfl, hdX3_x1Of⟩ ⟨Nat.le_of_ble_eq_true rfl, Nat.le_of_ble_eq_true rfl⟩) (va_recv hK.1 hW.1 (ci := 3) (q0 := (7 + c)) rfl (lkP (c := c) (by omega))) hK hW hS hA rfl hl.1 rfl (Nat.le_of_ble_eq_true rfl) dX3_areBeside_67 ⟨Nat.zero_le _, Nat.zero_le _⟩ (fun H locs hW hS => ?_)
    refine lv_iconst (v := 1) hx hb dX3_areBeside_70 (by decide) ?_
    refine lv_iadd hx hb dX3_areBeside_71 ?_
    refine lv_aload_n hx hb dX3_areBeside_72 rfl (lv_at hl 1 rfl) ?_
    refine lv_iload_n hx hb dX3_areBeside_73 rfl (lv_at hl 3 rfl) ?_
    obtain ⟨r_3, e_4, h⟩ := bnd_e h
    refine kV_I (As := [.int l2]) (rest := [.int ((r_1 + 1))]) ⟨hx, hb, hml, hown, hts⟩ (tX3_x0Of l G S0 M0 c (by omega) l2 r_3 e_4) (cwV 1 hts gX3_areBeside_X3_x0Of rfl rfl rfl ⟨rfl, hdX3_x0Of⟩ ⟨Nat.le_of_ble_eq_true rfl, Nat.le_of_ble_eq_true rfl⟩) (va_recv hK.1 hW.1 (ci := 3) (q0 := (7 + c)) rfl (lkP (c := c) (by omega))) hK hW hS hA rfl hl.1 rfl (Nat.le_of_ble_eq_true rfl) dX3_areBeside_74 ⟨Nat.zero_le _, Nat.zero_le _⟩ (fun H locs hW hS => ?_)
    refine lv_icmp_eq (tgt := 95) hx hb dX3_areBeside_77 (by decide) (fun c_5 => ?_) (fun c_5 => ?_)
    · have h := ite_t c_5 h
      exact B95 _ _ hW hS ls l1 l2 l3 k0 (lv_sub hl [1, 2, 3, 4, 0] rfl) h
    · have h := ite_f c_5 h
      refine lv_aload_n hx hb dX3_areBeside_80 rfl (lv_at hl 1 rfl) ?_
      refine lv_iload_n hx hb dX3_areBeside_81 rfl (lv_at hl 3 rfl) ?_
      obtain ⟨r_6, e_7, h⟩ := bnd_e h
      refine kV_I (As := [.int l2]) (rest := []) ⟨hx, hb, hml, hown, hts⟩ (tX3_x1Of l G S0 M0 c (by omega) l2 r_6 e_7) (cwV 1 hts gX3_areBeside_X3_x1Of rfl rfl rfl ⟨rfl, hdX3_x1Of⟩ ⟨Nat.le_of_ble_eq_true rfl, Nat.le_of_ble_eq_true rfl⟩) (va_recv hK.1 hW.1 (ci := 3) (q0 := (7 + c)) rfl (lkP (c := c) (by omega))) hK hW hS hA rfl hl.1 rfl (Nat.le_of_ble_eq_true rfl) dX3_areBeside_82 ⟨Nat.zero_le _, Nat.zero_le _⟩ (fun H locs hW hS => ?_)
      refine lv_iconst (v := 1) hx hb dX3_areBeside_85 (by decide) ?_
      refine lv_iadd hx hb dX3_areBeside_86 ?_
      refine lv_aload_n hx hb dX3_areBeside_87 rfl (lv_at hl 1 rfl) ?_
      refine lv_iload_n hx hb dX3_areBeside_88 rfl (lv_at hl 2 rfl) ?_
      obtain ⟨r_8, e_9, h⟩ := bnd_e h
      refine kV_I (As := [.int l1]) (rest := [.int ((r_6 + 1))]) ⟨hx, hb, hml, hown, hts⟩ (tX3_x0Of l G S0 M0 c (by omega) l1 r_8 e_9) (cwV 1 hts gX3_areBeside_X3_x0Of rfl rfl rfl ⟨rfl, hdX3_x0Of⟩ ⟨Nat.le_of_ble_eq_true rfl, Nat.le_of_ble_eq_true rfl⟩) (va_recv hK.1 hW.1 (ci := 3) (q0 := (7 + c)) rfl (lkP (c := c) (by omega))) hK hW hS hA rfl hl.1 rfl (Nat.le_of_ble_eq_true rfl) dX3_areBeside_89 ⟨Nat.zero_le _, Nat.zero_le _⟩ (fun H locs hW hS => ?_)
      refine lv_icmp_ne (tgt := 99) hx hb dX3_areBeside_92 (by decide) (fun c_10 => ?_) (fun c_10 => ?_)
      · have h := ite_f c_10 h
        refine lv_iconst (v := 0) hx hb dX3_areBeside_99 (by decide) ?_
        exact B100 _ _ hW hS ls l1 l2 l3 k0 0 (lv_sub hl [1, 2, 3, 4, 0] rfl) h
      · have h := ite_t c_10 h
        exact B95 _ _ hW hS ls l1 l2 l3 k0 (lv_sub hl [1, 2, 3, 4, 0] rfl) h
  have B62 : ∀ (H : Heap) (locs : List Loc) (_ : WD G S0 M0 H) (_ : va_S (Aw G) s.heap H locs) (ls : Array Slot) (l1 : Int32) (l2 : Int32) (l3 : Int32) (_ : lv_has ls 7 [(0, .ref (gad G (7 + c))), (1, .int l1), (2, .int l2), (3, .int l3)]) (h : f3_areBeside_b62 S0 c l1 l2 l3 = some (rr)), WI p l e (headSpec wsX3_areBeside rX3_areBeside).room s m args below meth cd G rr S0 M0 H locs (F0 m 62 ls []) := by
    intro H locs hW hS ls l1 l2 l3 hl h
    unfold f3_areBeside_b62 at h
    refine lv_iconst (v := 0) hx hb dX3_areBeside_62 (by decide) ?_
    exact B63 _ _ hW hS ls l1 l2 l3 0 (lv_sub hl [0, 1, 2, 3] rfl) h
  have B31 : ∀ (H : Heap) (locs : List Loc) (_ : WD G S0 M0 H) (_ : va_S (Aw G) s.heap H locs) (ls : Array Slot) (l1 : Int32) (l2 : Int32) (k0 : Int32) (_ : lv_has ls 7 [(0, .ref (gad G (7 + c))), (1, .int l1), (2, .int l2)]) (h : f3_areBeside_b31 S0 c l1 l2 k0 = some (rr)), WI p l e (headSpec wsX3_areBeside rX3_areBeside).room s m args below meth cd G rr S0 M0 H locs (F0 m 31 ls [.int k0]) := by
    intro H locs hW hS ls l1 l2 k0 hl h
    unfold f3_areBeside_b31 at h
    refine lv_istore_n (lv' := [(3, .int k0), (0, .ref (gad G (7 + c))), (1, .int l1), (2, .int l2)]) hx hb dX3_areBeside_31 rfl hl (by decide) rfl (fun ls hl => ?_)
    refine lv_aload_n hx hb dX3_areBeside_32 rfl (lv_at hl 1 rfl) ?_
    refine lv_iload_n hx hb dX3_areBeside_33 rfl (lv_at hl 2 rfl) ?_
    obtain ⟨r_1, e_2, h⟩ := bnd_e h
    refine kV_I (As := [.int l1]) (rest := []) ⟨hx, hb, hml, hown, hts⟩ (tX3_y0Of l G S0 M0 c (by omega) l1 r_1 e_2) (cwV 1 hts gX3_areBeside_X3_y0Of rfl rfl rfl ⟨rfl, hdX3_y0Of⟩ ⟨Nat.le_of_ble_eq_true rfl, Nat.le_of_ble_eq_true rfl⟩) (va_recv hK.1 hW.1 (ci := 3) (q0 := (7 + c)) rfl (lkP (c := c) (by omega))) hK hW hS hA rfl hl.1 rfl (Nat.le_of_ble_eq_true rfl) dX3_areBeside_34 ⟨Nat.zero_le _, Nat.zero_le _⟩ (fun H locs hW hS => ?_)
    refine lv_aload_n hx hb dX3_areBeside_37 rfl (lv_at hl 1 rfl) ?_
    refine lv_iload_n hx hb dX3_areBeside_38 rfl (lv_at hl 3 rfl) ?_
    obtain ⟨r_3, e_4, h⟩ := bnd_e h
    refine kV_I (As := [.int l2]) (rest := [.int r_1]) ⟨hx, hb, hml, hown, hts⟩ (tX3_y1Of l G S0 M0 c (by omega) l2 r_3 e_4) (cwV 1 hts gX3_areBeside_X3_y1Of rfl rfl rfl ⟨rfl, hdX3_y1Of⟩ ⟨Nat.le_of_ble_eq_true rfl, Nat.le_of_ble_eq_true rfl⟩) (va_recv hK.1 hW.1 (ci := 3) (q0 := (7 + c)) rfl (lkP (c := c) (by omega))) hK hW hS hA rfl hl.1 rfl (Nat.le_of_ble_eq_true rfl) dX3_areBeside_39 ⟨Nat.zero_le _, Nat.zero_le _⟩ (fun H locs hW hS => ?_)
    refine lv_icmp_gt (tgt := 62) hx hb dX3_areBeside_42 (by decide) (fun c_5 => ?_) (fun c_5 => ?_)
    · have h := ite_t c_5 h
      exact B62 _ _ hW hS ls l1 l2 k0 (lv_sub hl [1, 2, 3, 0] rfl) h
    · have h := ite_f c_5 h
      refine lv_aload_n hx hb dX3_areBeside_45 rfl (lv_at hl 1 rfl) ?_
      refine lv_iload_n hx hb dX3_areBeside_46 rfl (lv_at hl 3 rfl) ?_
      obtain ⟨r_6, e_7, h⟩ := bnd_e h
      refine kV_I (As := [.int l2]) (rest := []) ⟨hx, hb, hml, hown, hts⟩ (tX3_y0Of l G S0 M0 c (by omega) l2 r_6 e_7) (cwV 1 hts gX3_areBeside_X3_y0Of rfl rfl rfl ⟨rfl, hdX3_y0Of⟩ ⟨Nat.le_of_ble_eq_true rfl, Nat.le_of_ble_eq_true rfl⟩) (va_recv hK.1 hW.1 (ci := 3) (q0 := (7 + c)) rfl (lkP (c := c) (by omega))) hK hW hS hA rfl hl.1 rfl (Nat.le_of_ble_eq_true rfl) dX3_areBeside_47 ⟨Nat.zero_le _, Nat.zero_le _⟩ (fun H locs hW hS => ?_)
      refine lv_aload_n hx hb dX3_areBeside_50 rfl (lv_at hl 1 rfl) ?_
      refine lv_iload_n hx hb dX3_areBeside_51 rfl (lv_at hl 2 rfl) ?_
      obtain ⟨r_8, e_9, h⟩ := bnd_e h
      refine kV_I (As := [.int l1]) (rest := [.int r_6]) ⟨hx, hb, hml, hown, hts⟩ (tX3_y1Of l G S0 M0 c (by omega) l1 r_8 e_9) (cwV 1 hts gX3_areBeside_X3_y1Of rfl rfl rfl ⟨rfl, hdX3_y1Of⟩ ⟨Nat.le_of_ble_eq_true rfl, Nat.le_of_ble_eq_true rfl⟩) (va_recv hK.1 hW.1 (ci := 3) (q0 := (7 + c)) rfl (lkP (c := c) (by omega))) hK hW hS hA rfl hl.1 rfl (Nat.le_of_ble_eq_true rfl) dX3_areBeside_52 ⟨Nat.zero_le _, Nat.zero_le _⟩ (fun H locs hW hS => ?_)
      refine lv_icmp_gt (tgt := 62) hx hb dX3_areBeside_55 (by decide) (fun c_10 => ?_) (fun c_10 => ?_)
      · have h := ite_t c_10 h
        exact B62 _ _ hW hS ls l1 l2 k0 (lv_sub hl [1, 2, 3, 0] rfl) h
      · have h := ite_f c_10 h
        refine lv_iconst (v := 1) hx hb dX3_areBeside_58 (by decide) ?_
        refine lv_goto (tgt := 63) hx hb dX3_areBeside_59 (by decide) ?_
        exact B63 _ _ hW hS ls l1 l2 k0 1 (lv_sub hl [1, 2, 3, 0] rfl) h
  have B30 : ∀ (H : Heap) (locs : List Loc) (_ : WD G S0 M0 H) (_ : va_S (Aw G) s.heap H locs) (ls : Array Slot) (l1 : Int32) (l2 : Int32) (_ : lv_has ls 7 [(0, .ref (gad G (7 + c))), (1, .int l1), (2, .int l2)]) (h : f3_areBeside_b30 S0 c l1 l2 = some (rr)), WI p l e (headSpec wsX3_areBeside rX3_areBeside).room s m args below meth cd G rr S0 M0 H locs (F0 m 30 ls []) := by
    intro H locs hW hS ls l1 l2 hl h
    unfold f3_areBeside_b30 at h
    refine lv_iconst (v := 0) hx hb dX3_areBeside_30 (by decide) ?_
    exact B31 _ _ hW hS ls l1 l2 0 (lv_sub hl [0, 1, 2] rfl) h
  unfold f3_areBeside at h
  refine lv_aload_n hx hb dX3_areBeside_0 rfl (lv_at hl 0 rfl) ?_
  refine lv_iload_n hx hb dX3_areBeside_1 rfl (lv_at hl 1 rfl) ?_
  obtain ⟨r_1, e_2, h⟩ := bnd_e h
  refine kV_I (As := [.int p1]) (rest := []) ⟨hx, hb, hml, hown, hts⟩ (tX3_x0Of l G S0 M0 c (by omega) p1 r_1 e_2) (cwV 1 hts gX3_areBeside_X3_x0Of rfl rfl rfl ⟨rfl, hdX3_x0Of⟩ ⟨Nat.le_of_ble_eq_true rfl, Nat.le_of_ble_eq_true rfl⟩) (va_recv hK.1 hW.1 (ci := 3) (q0 := (7 + c)) rfl (lkP (c := c) (by omega))) hK hW hS hA rfl hl.1 rfl (Nat.le_of_ble_eq_true rfl) dX3_areBeside_2 ⟨Nat.zero_le _, Nat.zero_le _⟩ (fun H locs hW hS => ?_)
  refine lv_aload_n hx hb dX3_areBeside_5 rfl (lv_at hl 0 rfl) ?_
  refine lv_iload_n hx hb dX3_areBeside_6 rfl (lv_at hl 2 rfl) ?_
  obtain ⟨r_3, e_4, h⟩ := bnd_e h
  refine kV_I (As := [.int p2]) (rest := [.int r_1]) ⟨hx, hb, hml, hown, hts⟩ (tX3_x1Of l G S0 M0 c (by omega) p2 r_3 e_4) (cwV 1 hts gX3_areBeside_X3_x1Of rfl rfl rfl ⟨rfl, hdX3_x1Of⟩ ⟨Nat.le_of_ble_eq_true rfl, Nat.le_of_ble_eq_true rfl⟩) (va_recv hK.1 hW.1 (ci := 3) (q0 := (7 + c)) rfl (lkP (c := c) (by omega))) hK hW hS hA rfl hl.1 rfl (Nat.le_of_ble_eq_true rfl) dX3_areBeside_7 ⟨Nat.zero_le _, Nat.zero_le _⟩ (fun H locs hW hS => ?_)
  refine lv_icmp_gt (tgt := 30) hx hb dX3_areBeside_10 (by decide) (fun c_5 => ?_) (fun c_5 => ?_)
  · have h := ite_t c_5 h
    exact B30 _ _ hW hS ls p1 p2 (lv_sub hl [0, 1, 2] rfl) h
  · have h := ite_f c_5 h
    refine lv_aload_n hx hb dX3_areBeside_13 rfl (lv_at hl 0 rfl) ?_
    refine lv_iload_n hx hb dX3_areBeside_14 rfl (lv_at hl 2 rfl) ?_
    obtain ⟨r_6, e_7, h⟩ := bnd_e h
    refine kV_I (As := [.int p2]) (rest := []) ⟨hx, hb, hml, hown, hts⟩ (tX3_x0Of l G S0 M0 c (by omega) p2 r_6 e_7) (cwV 1 hts gX3_areBeside_X3_x0Of rfl rfl rfl ⟨rfl, hdX3_x0Of⟩ ⟨Nat.le_of_ble_eq_true rfl, Nat.le_of_ble_eq_true rfl⟩) (va_recv hK.1 hW.1 (ci := 3) (q0 := (7 + c)) rfl (lkP (c := c) (by omega))) hK hW hS hA rfl hl.1 rfl (Nat.le_of_ble_eq_true rfl) dX3_areBeside_15 ⟨Nat.zero_le _, Nat.zero_le _⟩ (fun H locs hW hS => ?_)
    refine lv_aload_n hx hb dX3_areBeside_18 rfl (lv_at hl 0 rfl) ?_
    refine lv_iload_n hx hb dX3_areBeside_19 rfl (lv_at hl 1 rfl) ?_
    obtain ⟨r_8, e_9, h⟩ := bnd_e h
    refine kV_I (As := [.int p1]) (rest := [.int r_6]) ⟨hx, hb, hml, hown, hts⟩ (tX3_x1Of l G S0 M0 c (by omega) p1 r_8 e_9) (cwV 1 hts gX3_areBeside_X3_x1Of rfl rfl rfl ⟨rfl, hdX3_x1Of⟩ ⟨Nat.le_of_ble_eq_true rfl, Nat.le_of_ble_eq_true rfl⟩) (va_recv hK.1 hW.1 (ci := 3) (q0 := (7 + c)) rfl (lkP (c := c) (by omega))) hK hW hS hA rfl hl.1 rfl (Nat.le_of_ble_eq_true rfl) dX3_areBeside_20 ⟨Nat.zero_le _, Nat.zero_le _⟩ (fun H locs hW hS => ?_)
    refine lv_icmp_gt (tgt := 30) hx hb dX3_areBeside_23 (by decide) (fun c_10 => ?_) (fun c_10 => ?_)
    · have h := ite_t c_10 h
      exact B30 _ _ hW hS ls p1 p2 (lv_sub hl [0, 1, 2] rfl) h
    · have h := ite_f c_10 h
      refine lv_iconst (v := 1) hx hb dX3_areBeside_26 (by decide) ?_
      refine lv_goto (tgt := 31) hx hb dX3_areBeside_27 (by decide) ?_
      exact B31 _ _ hW hS ls p1 p2 1 (lv_sub hl [0, 1, 2] rfl) h
abbrev rX5_markOf : Room := { frames := 0, cells := 0, slots := 0, locals := 0 }
set_option maxRecDepth 100000 in
set_option maxHeartbeats 8000000 in
theorem tX5_markOf (l : Launch) (G : WG) (S0 M0 : St) (p0 : Int32) (rr : Int32) (h : f5_markOf p0 = some (rr)) : CtI l yX5_markOf wsX5_markOf rX5_markOf G [.int p0] S0 M0 rr S0 M0 := by
  refine Met.ofW (cc := cX5_markOf) (maxL := 1) (ret := (some .int)) (by decide) rfl ?_
  intro p e s m args below meth cd s₁ B hml hv
  obtain ⟨hargs, hK, hW⟩ := hv
  have hx := B.exec
  have hb := B.bytes
  have hr := B.returns
  have hts := atoms_spec (ws := wsX5_markOf) B.pre
  have hown : s.vm.findClass RX5 = some m.cls := findClass_of_methodNamed B.named
  have hlocks := B.notSynchronized
  have hA : ∀ q, Aw G q → Aw G q := fun _ h => h
  have hS : va_S (Aw G) s.heap s.heap [] := va_S.rf
  have he0 : entryFrame m args 1 = F0 m 0 ((lg_sl ([.int p0]) ++ List.replicate (1 - (lg_sl ([.int p0])).length) Slot.unset).toArray) [] := by rw [hargs]; exact lg_entry_eq _ _ _
  have hl := lv_entry ([.int p0]) (n := 1) (Nat.le_of_ble_eq_true rfl)
  rw [he0]
  generalize (lg_sl ([.int p0]) ++ List.replicate (1 - (lg_sl ([.int p0])).length) Slot.unset).toArray = ls at hl ⊢
  have hl : lv_has ls 1 [(0, .int p0)] := hl
  have B17 : ∀ (H : Heap) (locs : List Loc) (_ : WD G S0 M0 H) (_ : va_S (Aw G) s.heap H locs) (ls : Array Slot) (k0 : Int32) (_ : lv_has ls 1 []) (h : f5_markOf_b17  k0 = some (rr)), WI p l e (headSpec wsX5_markOf rX5_markOf).room s m args below meth cd G rr S0 M0 H locs (F0 m 17 ls [.int k0]) := by
    intro H locs hW hS ls k0 hl h
    unfold f5_markOf_b17 at h
    obtain rfl := Option.some.inj h
    exact W.iret hx hb hr (fun t ht hw => ⟨⟨_, (), rfl, rfl, hW.ret ht⟩, hS.F ht⟩) hS.2.2 dX5_markOf_17
  have B16 : ∀ (H : Heap) (locs : List Loc) (_ : WD G S0 M0 H) (_ : va_S (Aw G) s.heap H locs) (ls : Array Slot) (_ : lv_has ls 1 []) (h : f5_markOf_b16   = some (rr)), WI p l e (headSpec wsX5_markOf rX5_markOf).room s m args below meth cd G rr S0 M0 H locs (F0 m 16 ls []) := by
    intro H locs hW hS ls hl h
    unfold f5_markOf_b16 at h
    refine lv_iconst (v := 0) hx hb dX5_markOf_16 (by decide) ?_
    exact B17 _ _ hW hS ls 0 (lv_sub hl [] rfl) h
  unfold f5_markOf at h
  refine lv_iload_n hx hb dX5_markOf_0 rfl (lv_at hl 0 rfl) ?_
  refine lv_if_lt (tgt := 16) hx hb dX5_markOf_1 (by decide) (fun c_1 => ?_) (fun c_1 => ?_)
  · have h := ite_t c_1 h
    exact B16 _ _ hW hS ls (lv_sub hl [] rfl) h
  · have h := ite_f c_1 h
    refine lv_iload_n hx hb dX5_markOf_4 rfl (lv_at hl 0 rfl) ?_
    refine lv_bipush (v := 16) hx hb dX5_markOf_5 (by decide) ?_
    refine lv_icmp_ge (tgt := 16) hx hb dX5_markOf_7 (by decide) (fun c_2 => ?_) (fun c_2 => ?_)
    · have h := ite_t c_2 h
      exact B16 _ _ hW hS ls (lv_sub hl [] rfl) h
    · have h := ite_f c_2 h
      refine lv_iconst (v := 1) hx hb dX5_markOf_10 (by decide) ?_
      refine lv_iload_n hx hb dX5_markOf_11 rfl (lv_at hl 0 rfl) ?_
      refine lv_ishl hx hb dX5_markOf_12 ?_
      refine lv_goto (tgt := 17) hx hb dX5_markOf_13 (by decide) ?_
      exact B17 _ _ hW hS ls (((1 : Int32) <<< ((p0 : Int32) &&& 31))) (lv_sub hl [] rfl) h
abbrev rX3_ownersBeside : Room := { frames := 3, cells := 0, slots := 0, locals := 68 }
set_option maxRecDepth 100000 in
set_option maxHeartbeats 8000000 in
theorem tX3_ownersBeside (l : Launch) (G : WG) (S0 M0 : St) (c : Nat) (hc : c < 7) (p1 : Int32) (rr : Int32) (h : f3_ownersBeside S0 c p1 = some (rr)) : CtI l yX3_ownersBeside wsX3_ownersBeside rX3_ownersBeside G [.ref (gad G (7 + c)), .int p1] S0 M0 rr S0 M0 := by
  refine Met.ofW (cc := cX3_ownersBeside) (maxL := 4) (ret := (some .int)) (by decide) rfl ?_
  intro p e s m args below meth cd s₁ B hml hv
  obtain ⟨hargs, hK, hW⟩ := hv
  have hx := B.exec
  have hb := B.bytes
  have hr := B.returns
  have hts := atoms_spec (ws := wsX3_ownersBeside) B.pre
  have hown : s.vm.findClass RX3 = some m.cls := findClass_of_methodNamed B.named
  have hlocks := B.notSynchronized
  have hA : ∀ q, Aw G q → Aw G q := fun _ h => h
  have hS : va_S (Aw G) s.heap s.heap [] := va_S.rf
  have he0 : entryFrame m args 4 = F0 m 0 ((lg_sl ([.ref (gad G (7 + c)), .int p1]) ++ List.replicate (4 - (lg_sl ([.ref (gad G (7 + c)), .int p1])).length) Slot.unset).toArray) [] := by rw [hargs]; exact lg_entry_eq _ _ _
  have hl := lv_entry ([.ref (gad G (7 + c)), .int p1]) (n := 4) (Nat.le_of_ble_eq_true rfl)
  rw [he0]
  generalize (lg_sl ([.ref (gad G (7 + c)), .int p1]) ++ List.replicate (4 - (lg_sl ([.ref (gad G (7 + c)), .int p1])).length) Slot.unset).toArray = ls at hl ⊢
  have hl : lv_has ls 4 [(0, .ref (gad G (7 + c))), (1, .int p1)] := hl
  have hiX3 : ∀ w ∈ u_ws RX3 TX3 5, w ∈ wsX3_ownersBeside := by decide +kernel
  have B4 : ∀ (n : Nat), ∀ (H : Heap) (locs : List Loc) (_ : WD G S0 M0 H) (_ : va_S (Aw G) s.heap H locs) (ls : Array Slot) (l1 : Int32) (l2 : Int32) (l3 : Int32) (_ : lv_has ls 4 [(0, .ref (gad G (7 + c))), (1, .int l1), (2, .int l2), (3, .int l3)]) (h : f3_ownersBeside_b4 S0 c l1 n l2 l3 = some (rr)), WI p l e (headSpec wsX3_ownersBeside rX3_ownersBeside).room s m args below meth cd G rr S0 M0 H locs (F0 m 4 ls []) := by
    intro n
    induction n with
    | zero => intro H locs hW hS ls l1 l2 l3 hl h; cases (show (none : Option (Int32)) = some _ from h)
    | succ n ih =>
      have B35 : ∀ (H : Heap) (locs : List Loc) (_ : WD G S0 M0 H) (_ : va_S (Aw G) s.heap H locs) (ls : Array Slot) (l1 : Int32) (l2 : Int32) (l3 : Int32) (_ : lv_has ls 4 [(0, .ref (gad G (7 + c))), (1, .int l1), (2, .int l2), (3, .int l3)]) (h : f3_ownersBeside_b35 S0 c (f3_ownersBeside_b4 S0 c l1 n) l1 l2 l3 = some (rr)), WI p l e (headSpec wsX3_ownersBeside rX3_ownersBeside).room s m args below meth cd G rr S0 M0 H locs (F0 m 35 ls []) := by
        intro H locs hW hS ls l1 l2 l3 hl h
        unfold f3_ownersBeside_b35 at h
        refine lv_iinc (v := (l3 + 1)) (lv' := [(3, .int ((l3 + 1))), (0, .ref (gad G (7 + c))), (1, .int l1), (2, .int l2)]) hx hb dX3_ownersBeside_35 hl (k := 3) rfl rfl (by decide) rfl (fun ls hl => ?_)
        refine lv_goto (tgt := 4) hx hb dX3_ownersBeside_38 (by decide) ?_
        exact ih _ _ hW hS ls l1 l2 ((l3 + 1)) (lv_sub hl [1, 2, 3, 0] rfl) h
      intro H locs hW hS ls l1 l2 l3 hl h
      rw [f3_ownersBeside_b4] at h
      refine lv_iload_n hx hb dX3_ownersBeside_4 rfl (lv_at hl 3 rfl) ?_
      refine lv_aload_n hx hb dX3_ownersBeside_5 rfl (lv_at hl 0 rfl) ?_
      refine va_get (D := G.1) (ci := 3) (v := .int (S0.1 (6 * c + 0))) (C := RX3) (T := TX3) (N := 5) hx hb hts hiX3 hown hK.1 hW.1 (7 + c) (lkP (c := c) (by omega)) rfl 4 (by decide) (hts _ (List.mem_of_getElem? (i := 1) rfl)) (fun _ h9 => h9) rfl dX3_ownersBeside_6 ?_
      refine lv_icmp_ge (tgt := 41) hx hb dX3_ownersBeside_9 (by decide) (fun c_1 => ?_) (fun c_1 => ?_)
      · have h := ite_t c_1 h
        refine lv_iload_n hx hb dX3_ownersBeside_41 rfl (lv_at hl 2 rfl) ?_
        obtain rfl := Option.some.inj h
        exact W.iret hx hb hr (fun t ht hw => ⟨⟨_, (), rfl, rfl, hW.ret ht⟩, hS.F ht⟩) hS.2.2 dX3_ownersBeside_42
      · have h := ite_f c_1 h
        refine lv_aload_n hx hb dX3_ownersBeside_12 rfl (lv_at hl 0 rfl) ?_
        refine lv_iload_n hx hb dX3_ownersBeside_13 rfl (lv_at hl 1 rfl) ?_
        refine lv_iload_n hx hb dX3_ownersBeside_14 rfl (lv_at hl 3 rfl) ?_
        obtain ⟨r_2, e_3, h⟩ := bnd_e h
        refine kV_I (As := [.int l1, .int l3]) (rest := []) ⟨hx, hb, hml, hown, hts⟩ (tX3_areBeside l G S0 M0 c (by omega) l1 l3 r_2 e_3) (cwV 2 hts gX3_ownersBeside_X3_areBeside rfl rfl rfl ⟨rfl, hdX3_areBeside⟩ ⟨Nat.le_of_ble_eq_true rfl, Nat.le_of_ble_eq_true rfl⟩) (va_recv hK.1 hW.1 (ci := 3) (q0 := (7 + c)) rfl (lkP (c := c) (by omega))) hK hW hS hA rfl hl.1 rfl (Nat.le_of_ble_eq_true rfl) dX3_ownersBeside_15 ⟨Nat.zero_le _, Nat.zero_le _⟩ (fun H locs hW hS => ?_)
        refine lv_if_eq (tgt := 35) hx hb dX3_ownersBeside_18 (by decide) (fun c_4 => ?_) (fun c_4 => ?_)
        · have h := ite_t c_4 h
          exact B35 _ _ hW hS ls l1 l2 l3 (lv_sub hl [0, 1, 2, 3] rfl) h
        · have h := ite_f c_4 h
          refine lv_iload_n hx hb dX3_ownersBeside_21 rfl (lv_at hl 2 rfl) ?_
          refine lv_aload_n hx hb dX3_ownersBeside_22 rfl (lv_at hl 0 rfl) ?_
          refine va_get (D := G.1) (ci := 3) (v := .ref (gad G (14 + (10 * c + 3)))) (C := RX3) (T := TX3) (N := 5) hx hb hts hiX3 hown hK.1 hW.1 (7 + c) (lkP (c := c) (by omega)) rfl 3 (by decide) (hts _ (List.mem_of_getElem? (i := 2) rfl)) (fun _ h9 => h9) rfl dX3_ownersBeside_23 ?_
          refine lv_iload_n hx hb dX3_ownersBeside_26 rfl (lv_at hl 3 rfl) ?_
          obtain ⟨r_5, e_6, h⟩ := bnd_e h
          refine kV_I (As := [.int l3]) (rest := [.int l2]) ⟨hx, hb, hml, hown, hts⟩ (tX4_at l G S0 M0 ((10 * c + 3)) (by omega) l3 r_5 e_6) (cwV 1 hts gX3_ownersBeside_X4_at rfl rfl rfl ⟨rfl, hdX4_at⟩ ⟨Nat.le_of_ble_eq_true rfl, Nat.le_of_ble_eq_true rfl⟩) (va_recv hK.1 hW.1 (ci := 4) (q0 := (14 + (10 * c + 3))) rfl (lkR (r := (10 * c + 3)) (by omega))) hK hW hS hA rfl hl.1 rfl (Nat.le_of_ble_eq_true rfl) dX3_ownersBeside_27 ⟨Nat.zero_le _, Nat.zero_le _⟩ (fun H locs hW hS => ?_)
          obtain ⟨r_7, e_8, h⟩ := bnd_e h
          refine kSN_I (As := [.int r_5]) (rest := [.int l2]) ⟨hx, hb, hml, hown, hts⟩ (tX5_markOf l G S0 M0 r_5 r_7 e_8) ⟨va_cnB 1 hts gX3_ownersBeside_X5_markOf_n81 rfl rfl rfl (hK.2 _ (List.mem_of_getElem? (i := 21) rfl)) (hts _ (List.mem_of_getElem? (i := 25) rfl)) hdX5_markOf ⟨Nat.le_of_ble_eq_true rfl, Nat.le_of_ble_eq_true rfl⟩, (hts _ (List.mem_of_getElem? (i := 38) rfl)), trivial⟩ hK hW hS hA rfl hl.1 rfl (Nat.le_of_ble_eq_true rfl) dX3_ownersBeside_30 ⟨Nat.zero_le _, Nat.zero_le _⟩ (fun H locs hW hS => ?_)
          refine lv_ior hx hb dX3_ownersBeside_33 ?_
          obtain ⟨x_9, ex_9, h⟩ := nam_e h
          refine lv_ni ex_9 ?_
          refine lv_istore_n (lv' := [(2, .int x_9), (0, .ref (gad G (7 + c))), (1, .int l1), (3, .int l3)]) hx hb dX3_ownersBeside_34 rfl hl (by decide) rfl (fun ls hl => ?_)
          exact B35 _ _ hW hS ls l1 x_9 l3 (lv_sub hl [1, 2, 0, 3] rfl) h
  unfold f3_ownersBeside at h
  refine lv_iconst (v := 0) hx hb dX3_ownersBeside_0 (by decide) ?_
  refine lv_istore_n (lv' := [(2, .int 0), (0, .ref (gad G (7 + c))), (1, .int p1)]) hx hb dX3_ownersBeside_1 rfl hl (by decide) rfl (fun ls hl => ?_)
  refine lv_iconst (v := 0) hx hb dX3_ownersBeside_2 (by decide) ?_
  refine lv_istore_n (lv' := [(3, .int 0), (2, .int 0), (0, .ref (gad G (7 + c))), (1, .int p1)]) hx hb dX3_ownersBeside_3 rfl hl (by decide) rfl (fun ls hl => ?_)
  exact B4 fuelN _ _ hW hS ls p1 0 0 (lv_sub hl [2, 3, 1, 0] rfl) h
abbrev rX5_isMarked : Room := { frames := 1, cells := 0, slots := 0, locals := 20 }
set_option maxRecDepth 100000 in
set_option maxHeartbeats 8000000 in
theorem tX5_isMarked (l : Launch) (G : WG) (S0 M0 : St) (p0 : Int32) (p1 : Int32) (rr : Int32) (h : f5_isMarked p0 p1 = some (rr)) : CtI l yX5_isMarked wsX5_isMarked rX5_isMarked G [.int p0, .int p1] S0 M0 rr S0 M0 := by
  refine Met.ofW (cc := cX5_isMarked) (maxL := 2) (ret := (some .boolean)) (by decide) rfl ?_
  intro p e s m args below meth cd s₁ B hml hv
  obtain ⟨hargs, hK, hW⟩ := hv
  have hx := B.exec
  have hb := B.bytes
  have hr := B.returns
  have hts := atoms_spec (ws := wsX5_isMarked) B.pre
  have hown : s.vm.findClass RX5 = some m.cls := findClass_of_methodNamed B.named
  have hlocks := B.notSynchronized
  have hA : ∀ q, Aw G q → Aw G q := fun _ h => h
  have hS : va_S (Aw G) s.heap s.heap [] := va_S.rf
  have he0 : entryFrame m args 2 = F0 m 0 ((lg_sl ([.int p0, .int p1]) ++ List.replicate (2 - (lg_sl ([.int p0, .int p1])).length) Slot.unset).toArray) [] := by rw [hargs]; exact lg_entry_eq _ _ _
  have hl := lv_entry ([.int p0, .int p1]) (n := 2) (Nat.le_of_ble_eq_true rfl)
  rw [he0]
  generalize (lg_sl ([.int p0, .int p1]) ++ List.replicate (2 - (lg_sl ([.int p0, .int p1])).length) Slot.unset).toArray = ls at hl ⊢
  have hl : lv_has ls 2 [(0, .int p0), (1, .int p1)] := hl
  have B14 : ∀ (H : Heap) (locs : List Loc) (_ : WD G S0 M0 H) (_ : va_S (Aw G) s.heap H locs) (ls : Array Slot) (k0 : Int32) (_ : lv_has ls 2 []) (h : f5_isMarked_b14  k0 = some (rr)), WI p l e (headSpec wsX5_isMarked rX5_isMarked).room s m args below meth cd G rr S0 M0 H locs (F0 m 14 ls [.int k0]) := by
    intro H locs hW hS ls k0 hl h
    unfold f5_isMarked_b14 at h
    obtain ⟨z_1, h⟩ := isz_e h
    obtain rfl := Option.some.inj h
    exact W.zret (ty := .boolean) hx hb hr (nz_1 z_1) (fun t ht hw => ⟨⟨_, (), rfl, rfl, hW.ret ht⟩, hS.F ht⟩) hS.2.2 dX5_isMarked_14
  unfold f5_isMarked at h
  refine lv_iload_n hx hb dX5_isMarked_0 rfl (lv_at hl 0 rfl) ?_
  refine lv_iload_n hx hb dX5_isMarked_1 rfl (lv_at hl 1 rfl) ?_
  obtain ⟨r_1, e_2, h⟩ := bnd_e h
  refine kS_I (As := [.int p1]) (rest := [.int p0]) ⟨hx, hb, hml, hown, hts⟩ (tX5_markOf l G S0 M0 p1 r_1 e_2) (va_cwS 1 hts gX5_isMarked_X5_markOf rfl rfl rfl hdX5_markOf ⟨Nat.le_of_ble_eq_true rfl, Nat.le_of_ble_eq_true rfl⟩) hK hW hS hA rfl hl.1 rfl (Nat.le_of_ble_eq_true rfl) dX5_isMarked_2 ⟨Nat.zero_le _, Nat.zero_le _⟩ (fun H locs hW hS => ?_)
  refine lv_iand hx hb dX5_isMarked_5 ?_
  refine lv_if_eq (tgt := 13) hx hb dX5_isMarked_6 (by decide) (fun c_3 => ?_) (fun c_3 => ?_)
  · have h := ite_t c_3 h
    refine lv_iconst (v := 0) hx hb dX5_isMarked_13 (by decide) ?_
    exact B14 _ _ hW hS ls 0 (lv_sub hl [] rfl) h
  · have h := ite_f c_3 h
    refine lv_iconst (v := 1) hx hb dX5_isMarked_9 (by decide) ?_
    refine lv_goto (tgt := 14) hx hb dX5_isMarked_10 (by decide) ?_
    exact B14 _ _ hW hS ls 1 (lv_sub hl [] rfl) h
abbrev rX3_pointsOf : Room := { frames := 1, cells := 0, slots := 0, locals := 21 }
set_option maxRecDepth 100000 in
set_option maxHeartbeats 8000000 in
theorem tX3_pointsOf (l : Launch) (G : WG) (S0 M0 : St) (c : Nat) (hc : c < 7) (p1 : Int32) (rr : Int32) (h : f3_pointsOf S0 c p1 = some (rr)) : CtI l yX3_pointsOf wsX3_pointsOf rX3_pointsOf G [.ref (gad G (7 + c)), .int p1] S0 M0 rr S0 M0 := by
  refine Met.ofW (cc := cX3_pointsOf) (maxL := 4) (ret := (some .int)) (by decide) rfl ?_
  intro p e s m args below meth cd s₁ B hml hv
  obtain ⟨hargs, hK, hW⟩ := hv
  have hx := B.exec
  have hb := B.bytes
  have hr := B.returns
  have hts := atoms_spec (ws := wsX3_pointsOf) B.pre
  have hown : s.vm.findClass RX3 = some m.cls := findClass_of_methodNamed B.named
  have hlocks := B.notSynchronized
  have hA : ∀ q, Aw G q → Aw G q := fun _ h => h
  have hS : va_S (Aw G) s.heap s.heap [] := va_S.rf
  have he0 : entryFrame m args 4 = F0 m 0 ((lg_sl ([.ref (gad G (7 + c)), .int p1]) ++ List.replicate (4 - (lg_sl ([.ref (gad G (7 + c)), .int p1])).length) Slot.unset).toArray) [] := by rw [hargs]; exact lg_entry_eq _ _ _
  have hl := lv_entry ([.ref (gad G (7 + c)), .int p1]) (n := 4) (Nat.le_of_ble_eq_true rfl)
  rw [he0]
  generalize (lg_sl ([.ref (gad G (7 + c)), .int p1]) ++ List.replicate (4 - (lg_sl ([.ref (gad G (7 + c)), .int p1])).length) Slot.unset).toArray = ls at hl ⊢
  have hl : lv_has ls 4 [(0, .ref (gad G (7 + c))), (1, .int p1)] := hl
  have hiX3 : ∀ w ∈ u_ws RX3 TX3 5, w ∈ wsX3_pointsOf := by decide +kernel
  have B4 : ∀ (n : Nat), ∀ (H : Heap) (locs : List Loc) (_ : WD G S0 M0 H) (_ : va_S (Aw G) s.heap H locs) (ls : Array Slot) (l1 : Int32) (l2 : Int32) (l3 : Int32) (_ : lv_has ls 4 [(0, .ref (gad G (7 + c))), (1, .int l1), (2, .int l2), (3, .int l3)]) (h : f3_pointsOf_b4 S0 c l1 n l2 l3 = some (rr)), WI p l e (headSpec wsX3_pointsOf rX3_pointsOf).room s m args below meth cd G rr S0 M0 H locs (F0 m 4 ls []) := by
    intro n
    induction n with
    | zero => intro H locs hW hS ls l1 l2 l3 hl h; cases (show (none : Option (Int32)) = some _ from h)
    | succ n ih =>
      have B50 : ∀ (H : Heap) (locs : List Loc) (_ : WD G S0 M0 H) (_ : va_S (Aw G) s.heap H locs) (ls : Array Slot) (l1 : Int32) (l2 : Int32) (l3 : Int32) (_ : lv_has ls 4 [(0, .ref (gad G (7 + c))), (1, .int l1), (2, .int l2), (3, .int l3)]) (h : f3_pointsOf_b50 S0 c (f3_pointsOf_b4 S0 c l1 n) l1 l2 l3 = some (rr)), WI p l e (headSpec wsX3_pointsOf rX3_pointsOf).room s m args below meth cd G rr S0 M0 H locs (F0 m 50 ls []) := by
        intro H locs hW hS ls l1 l2 l3 hl h
        unfold f3_pointsOf_b50 at h
        refine lv_iinc (v := (l3 + 1)) (lv' := [(3, .int ((l3 + 1))), (0, .ref (gad G (7 + c))), (1, .int l1), (2, .int l2)]) hx hb dX3_pointsOf_50 hl (k := 3) rfl rfl (by decide) rfl (fun ls hl => ?_)
        refine lv_goto (tgt := 4) hx hb dX3_pointsOf_53 (by decide) ?_
        exact ih _ _ hW hS ls l1 l2 ((l3 + 1)) (lv_sub hl [1, 2, 3, 0] rfl) h
      intro H locs hW hS ls l1 l2 l3 hl h
      rw [f3_pointsOf_b4] at h
      refine lv_iload_n hx hb dX3_pointsOf_4 rfl (lv_at hl 3 rfl) ?_
      refine lv_aload_n hx hb dX3_pointsOf_5 rfl (lv_at hl 0 rfl) ?_
      refine va_get (D := G.1) (ci := 3) (v := .int (S0.1 (6 * c + 0))) (C := RX3) (T := TX3) (N := 5) hx hb hts hiX3 hown hK.1 hW.1 (7 + c) (lkP (c := c) (by omega)) rfl 4 (by decide) (hts _ (List.mem_of_getElem? (i := 1) rfl)) (fun _ h9 => h9) rfl dX3_pointsOf_6 ?_
      refine lv_icmp_ge (tgt := 56) hx hb dX3_pointsOf_9 (by decide) (fun c_1 => ?_) (fun c_1 => ?_)
      · have h := ite_t c_1 h
        refine lv_iload_n hx hb dX3_pointsOf_56 rfl (lv_at hl 2 rfl) ?_
        obtain rfl := Option.some.inj h
        exact W.iret hx hb hr (fun t ht hw => ⟨⟨_, (), rfl, rfl, hW.ret ht⟩, hS.F ht⟩) hS.2.2 dX3_pointsOf_57
      · have h := ite_f c_1 h
        refine lv_aload_n hx hb dX3_pointsOf_12 rfl (lv_at hl 0 rfl) ?_
        refine va_get (D := G.1) (ci := 3) (v := .ref (gad G (14 + (10 * c + 3)))) (C := RX3) (T := TX3) (N := 5) hx hb hts hiX3 hown hK.1 hW.1 (7 + c) (lkP (c := c) (by omega)) rfl 3 (by decide) (hts _ (List.mem_of_getElem? (i := 2) rfl)) (fun _ h9 => h9) rfl dX3_pointsOf_13 ?_
        refine lv_iload_n hx hb dX3_pointsOf_16 rfl (lv_at hl 3 rfl) ?_
        obtain ⟨r_2, e_3, h⟩ := bnd_e h
        refine kV_I (As := [.int l3]) (rest := []) ⟨hx, hb, hml, hown, hts⟩ (tX4_at l G S0 M0 ((10 * c + 3)) (by omega) l3 r_2 e_3) (cwV 1 hts gX3_pointsOf_X4_at rfl rfl rfl ⟨rfl, hdX4_at⟩ ⟨Nat.le_of_ble_eq_true rfl, Nat.le_of_ble_eq_true rfl⟩) (va_recv hK.1 hW.1 (ci := 4) (q0 := (14 + (10 * c + 3))) rfl (lkR (r := (10 * c + 3)) (by omega))) hK hW hS hA rfl hl.1 rfl (Nat.le_of_ble_eq_true rfl) dX3_pointsOf_17 ⟨Nat.zero_le _, Nat.zero_le _⟩ (fun H locs hW hS => ?_)
        refine lv_iload_n hx hb dX3_pointsOf_20 rfl (lv_at hl 1 rfl) ?_
        refine lv_icmp_ne (tgt := 50) hx hb dX3_pointsOf_21 (by decide) (fun c_4 => ?_) (fun c_4 => ?_)
        · have h := ite_f c_4 h
          exact B50 _ _ hW hS ls l1 l2 l3 (lv_sub hl [0, 1, 2, 3] rfl) h
        · have h := ite_t c_4 h
          refine lv_iload_n hx hb dX3_pointsOf_24 rfl (lv_at hl 2 rfl) ?_
          refine lv_aload_n hx hb dX3_pointsOf_25 rfl (lv_at hl 0 rfl) ?_
          refine va_get (D := G.1) (ci := 3) (v := .ref (gad G (14 + (10 * c + 2)))) (C := RX3) (T := TX3) (N := 5) hx hb hts hiX3 hown hK.1 hW.1 (7 + c) (lkP (c := c) (by omega)) rfl 2 (by decide) (hts _ (List.mem_of_getElem? (i := 3) rfl)) (fun _ h9 => h9) rfl dX3_pointsOf_26 ?_
          refine lv_iload_n hx hb dX3_pointsOf_29 rfl (lv_at hl 3 rfl) ?_
          obtain ⟨r_5, e_6, h⟩ := bnd_e h
          refine kV_I (As := [.int l3]) (rest := [.int l2]) ⟨hx, hb, hml, hown, hts⟩ (tX4_at l G S0 M0 ((10 * c + 2)) (by omega) l3 r_5 e_6) (cwV 1 hts gX3_pointsOf_X4_at rfl rfl rfl ⟨rfl, hdX4_at⟩ ⟨Nat.le_of_ble_eq_true rfl, Nat.le_of_ble_eq_true rfl⟩) (va_recv hK.1 hW.1 (ci := 4) (q0 := (14 + (10 * c + 2))) rfl (lkR (r := (10 * c + 2)) (by omega))) hK hW hS hA rfl hl.1 rfl (Nat.le_of_ble_eq_true rfl) dX3_pointsOf_30 ⟨Nat.zero_le _, Nat.zero_le _⟩ (fun H locs hW hS => ?_)
          obtain ⟨r_7, e_8, h⟩ := bnd_e h
          refine kSN_I (As := [.int r_5]) (rest := [.int l2]) ⟨hx, hb, hml, hown, hts⟩ (tX5_widthAt l G S0 M0 r_5 r_7 e_8) ⟨va_cnB 1 hts gX3_pointsOf_X5_widthAt_n45 rfl rfl rfl (hK.2 _ (List.mem_of_getElem? (i := 13) rfl)) (hts _ (List.mem_of_getElem? (i := 11) rfl)) hdX5_widthAt ⟨Nat.le_of_ble_eq_true rfl, Nat.le_of_ble_eq_true rfl⟩, (hts _ (List.mem_of_getElem? (i := 10) rfl)), trivial⟩ hK hW hS hA rfl hl.1 rfl (Nat.le_of_ble_eq_true rfl) dX3_pointsOf_33 ⟨Nat.zero_le _, Nat.zero_le _⟩ (fun H locs hW hS => ?_)
          refine lv_aload_n hx hb dX3_pointsOf_36 rfl (lv_at hl 0 rfl) ?_
          refine va_get (D := G.1) (ci := 3) (v := .ref (gad G (14 + (10 * c + 2)))) (C := RX3) (T := TX3) (N := 5) hx hb hts hiX3 hown hK.1 hW.1 (7 + c) (lkP (c := c) (by omega)) rfl 2 (by decide) (hts _ (List.mem_of_getElem? (i := 3) rfl)) (fun _ h9 => h9) rfl dX3_pointsOf_37 ?_
          refine lv_iload_n hx hb dX3_pointsOf_40 rfl (lv_at hl 3 rfl) ?_
          obtain ⟨r_9, e_10, h⟩ := bnd_e h
          refine kV_I (As := [.int l3]) (rest := [.int r_7, .int l2]) ⟨hx, hb, hml, hown, hts⟩ (tX4_at l G S0 M0 ((10 * c + 2)) (by omega) l3 r_9 e_10) (cwV 1 hts gX3_pointsOf_X4_at rfl rfl rfl ⟨rfl, hdX4_at⟩ ⟨Nat.le_of_ble_eq_true rfl, Nat.le_of_ble_eq_true rfl⟩) (va_recv hK.1 hW.1 (ci := 4) (q0 := (14 + (10 * c + 2))) rfl (lkR (r := (10 * c + 2)) (by omega))) hK hW hS hA rfl hl.1 rfl (Nat.le_of_ble_eq_true rfl) dX3_pointsOf_41 ⟨Nat.zero_le _, Nat.zero_le _⟩ (fun H locs hW hS => ?_)
          obtain ⟨r_11, e_12, h⟩ := bnd_e h
          refine kSN_I (As := [.int r_9]) (rest := [.int r_7, .int l2]) ⟨hx, hb, hml, hown, hts⟩ (tX5_heightAt l G S0 M0 r_9 r_11 e_12) ⟨va_cnB 1 hts gX3_pointsOf_X5_heightAt_n48 rfl rfl rfl (hK.2 _ (List.mem_of_getElem? (i := 14) rfl)) (hts _ (List.mem_of_getElem? (i := 11) rfl)) hdX5_heightAt ⟨Nat.le_of_ble_eq_true rfl, Nat.le_of_ble_eq_true rfl⟩, (hts _ (List.mem_of_getElem? (i := 13) rfl)), trivial⟩ hK hW hS hA rfl hl.1 rfl (Nat.le_of_ble_eq_true rfl) dX3_pointsOf_44 ⟨Nat.zero_le _, Nat.zero_le _⟩ (fun H locs hW hS => ?_)
          refine lv_imul hx hb dX3_pointsOf_47 ?_
          refine lv_iadd hx hb dX3_pointsOf_48 ?_
          obtain ⟨x_13, ex_13, h⟩ := nam_e h
          refine lv_ni ex_13 ?_
          refine lv_istore_n (lv' := [(2, .int x_13), (0, .ref (gad G (7 + c))), (1, .int l1), (3, .int l3)]) hx hb dX3_pointsOf_49 rfl hl (by decide) rfl (fun ls hl => ?_)
          exact B50 _ _ hW hS ls l1 x_13 l3 (lv_sub hl [1, 2, 0, 3] rfl) h
  unfold f3_pointsOf at h
  refine lv_iconst (v := 0) hx hb dX3_pointsOf_0 (by decide) ?_
  refine lv_istore_n (lv' := [(2, .int 0), (0, .ref (gad G (7 + c))), (1, .int p1)]) hx hb dX3_pointsOf_1 rfl hl (by decide) rfl (fun ls hl => ?_)
  refine lv_iconst (v := 0) hx hb dX3_pointsOf_2 (by decide) ?_
  refine lv_istore_n (lv' := [(3, .int 0), (2, .int 0), (0, .ref (gad G (7 + c))), (1, .int p1)]) hx hb dX3_pointsOf_3 rfl hl (by decide) rfl (fun ls hl => ?_)
  exact B4 fuelN _ _ hW hS ls p1 0 0 (lv_sub hl [2, 3, 1, 0] rfl) h
