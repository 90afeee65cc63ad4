abbrev rX3_add : Room := { frames := 3, cells := 0, slots := 0, locals := 66 }
set_option maxRecDepth 100000 in
set_option maxHeartbeats 8000000 in
theorem tX3_add (l : Launch) (G : WG) (S0 M0 : St) (c : Nat) (hc : c < 7) (p1 : Int32) (p2 : Int32) (p3 : Int32) (p4 : Int32) (S' : St) (h : f3_add S0 c p1 p2 p3 p4 = some (S')) : CtV l yX3_add wsX3_add rX3_add G [.ref (gad G (7 + c)), .int p1, .int p2, .int p3, .int p4] S0 M0 S' M0 := by
  refine Met.ofW (cc := cX3_add) (maxL := 5) (ret := none) (by decide) rfl ?_
  intro p e s m args below meth cd s₁ B hml hv
  obtain ⟨hargs, hK, hW⟩ := hv
  have hx := B.exec
  have hb := B.bytes
  have hr := B.returns
  have hts := atoms_spec (ws := wsX3_add) B.pre
  have hown : s.vm.findClass RX3 = some m.cls := findClass_of_methodNamed B.named
  have hlocks := B.notSynchronized
  have hA : ∀ q, Aw G q → Aw G q := fun _ h => h
  have hS : va_S (Aw G) s.heap s.heap [] := va_S.rf
  have he0 : entryFrame m args 5 = F0 m 0 ((lg_sl ([.ref (gad G (7 + c)), .int p1, .int p2, .int p3, .int p4]) ++ List.replicate (5 - (lg_sl ([.ref (gad G (7 + c)), .int p1, .int p2, .int p3, .int p4])).length) Slot.unset).toArray) [] := by rw [hargs]; exact lg_entry_eq _ _ _
  have hl := lv_entry ([.ref (gad G (7 + c)), .int p1, .int p2, .int p3, .int p4]) (n := 5) (Nat.le_of_ble_eq_true rfl)
  rw [he0]
  generalize (lg_sl ([.ref (gad G (7 + c)), .int p1, .int p2, .int p3, .int p4]) ++ List.replicate (5 - (lg_sl ([.ref (gad G (7 + c)), .int p1, .int p2, .int p3, .int p4])).length) Slot.unset).toArray = ls at hl ⊢
  have hl : lv_has ls 5 [(0, .ref (gad G (7 + c))), (1, .int p1), (2, .int p2), (3, .int p3), (4, .int p4)] := hl
  have hiX3 : ∀ w ∈ u_ws RX3 TX3 5, w ∈ wsX3_add := by decide +kernel
  have B33 : ∀ (H : Heap) (locs : List Loc) (S : St) (_ : WD G S M0 H) (_ : va_S (Aw G) s.heap H locs) (ls : Array Slot) (_ : lv_has ls 5 []) (h : f3_add_b33 S c  = some (S')), WV p l e (headSpec wsX3_add rX3_add).room s m args below meth cd G S' M0 H locs (F0 m 33 ls []) := by
    intro H locs S hW hS ls hl h
    unfold f3_add_b33 at h
    obtain rfl := Option.some.inj h
    exact W.vret hx hb hr (fun t ht hw => ⟨⟨(), rfl, trivial, hW.ret ht⟩, hS.F ht⟩) hS.2.2 dX3_add_33
  unfold f3_add at h
  refine lv_aload_n hx hb dX3_add_0 rfl (lv_at hl 0 rfl) ?_
  refine va_get (D := G.1) (ci := 3) (v := .int (S0.1 (6 * c + 0))) (C := RX3) (T := TX3) (N := 5) hx hb hts hiX3 hown hK.1 hW.1 (7 + c) (lkP (c := c) (by omega)) rfl 4 (by decide) (hts _ (List.mem_of_getElem? (i := 1) rfl)) (fun _ h9 => h9) rfl dX3_add_1 ?_
  refine lv_sipush (v := 181) hx hb dX3_add_4 (by decide) ?_
  refine lv_icmp_ge (tgt := 33) hx hb dX3_add_7 (by decide) (fun c_1 => ?_) (fun c_1 => ?_)
  · have h := ite_t c_1 h
    exact B33 _ _ S0 hW hS ls (lv_sub hl [] rfl) h
  · have h := ite_f c_1 h
    refine lv_aload_n hx hb dX3_add_10 rfl (lv_at hl 0 rfl) ?_
    refine lv_aload_n hx hb dX3_add_11 rfl (lv_at hl 0 rfl) ?_
    refine va_get (D := G.1) (ci := 3) (v := .int (S0.1 (6 * c + 0))) (C := RX3) (T := TX3) (N := 5) hx hb hts hiX3 hown hK.1 hW.1 (7 + c) (lkP (c := c) (by omega)) rfl 4 (by decide) (hts _ (List.mem_of_getElem? (i := 1) rfl)) (fun _ h9 => h9) rfl dX3_add_12 ?_
    refine lv_iload_n hx hb dX3_add_15 rfl (lv_at hl 1 rfl) ?_
    refine lv_iload_n hx hb dX3_add_16 rfl (lv_at hl 2 rfl) ?_
    refine lv_iload_n hx hb dX3_add_17 rfl (lv_at hl 3 rfl) ?_
    refine lv_iload hx hb dX3_add_18 (lv_at hl 4 rfl) ?_
    obtain ⟨S_2, e_3, h⟩ := bnd_e h
    refine kV_V (As := [.int (S0.1 (6 * c + 0)), .int p1, .int p2, .int p3, .int p4]) (rest := []) ⟨hx, hb, hml, hown, hts⟩ (tX3_put l G S0 M0 c (by omega) (S0.1 (6 * c + 0)) p1 p2 p3 p4 S_2 e_3) (cwV 5 hts gX3_add_X3_put rfl rfl rfl ⟨rfl, hdX3_put⟩ ⟨Nat.le_of_ble_eq_true rfl, Nat.le_of_ble_eq_true rfl⟩) (va_recv hK.1 hW.1 (ci := 3) (q0 := (7 + c)) rfl (lkP (c := c) (by omega))) hK hW hS hA rfl hl.1 rfl (Nat.le_of_ble_eq_true rfl) dX3_add_20 ⟨Nat.zero_le _, Nat.zero_le _⟩ (fun H locs hW hS => ?_)
    refine lv_aload_n hx hb dX3_add_23 rfl (lv_at hl 0 rfl) ?_
    refine lv_dup hx hb dX3_add_24 rfl ?_
    refine va_get (D := G.1) (ci := 3) (v := .int (S_2.1 (6 * c + 0))) (C := RX3) (T := TX3) (N := 5) hx hb hts hiX3 hown hK.1 hW.1 (7 + c) (lkP (c := c) (by omega)) rfl 4 (by decide) (hts _ (List.mem_of_getElem? (i := 1) rfl)) (fun _ h9 => h9) rfl dX3_add_25 ?_
    refine lv_iconst (v := 1) hx hb dX3_add_28 (by decide) ?_
    refine lv_iadd hx hb dX3_add_29 ?_
    obtain ⟨S_4, eS_4, h⟩ := nam_e h
    refine va_put (D := G.1) (ci := 3) (v := .int ((S_2.1 (6 * c + 0) + 1))) (ty := .int) (C := RX3) (T := TX3) (N := 5) hx hb hts hiX3 tyX3 tyX3_ok nmX3 hown hK.1 hW.1 (hW.D hA) hS (7 + c) (lkP (c := c) (by omega)) rfl 4 (by decide) (hts _ (List.mem_of_getElem? (i := 1) rfl)) (fun _ h9 => h9) rfl (by decide +kernel) rfl rfl (Nat.le_of_ble_eq_true rfl) dX3_add_30 (fun H locs hP hD hS => ?_)
    have hW := upP0 (c := c) (by omega) hW hP
    rw [← eS_4] at hW
    exact B33 _ _ S_4 hW hS ls (lv_sub hl [] rfl) h
abbrev rX3_halveDown : Room := { frames := 4, cells := 0, slots := 0, locals := 90 }
set_option maxRecDepth 100000 in
set_option maxHeartbeats 8000000 in
theorem tX3_halveDown (l : Launch) (G : WG) (S0 M0 : St) (c : Nat) (hc : c < 7) (p1 : Int32) (p2 : Int32) (p3 : Int32) (p4 : Int32) (p5 : Int32) (S' : St) (h : f3_halveDown S0 c p1 p2 p3 p4 p5 = some (S')) : CtV l yX3_halveDown wsX3_halveDown rX3_halveDown G [.ref (gad G (7 + c)), .int p1, .int p2, .int p3, .int p4, .int p5] S0 M0 S' M0 := by
  refine Met.ofW (cc := cX3_halveDown) (maxL := 8) (ret := none) (by decide) rfl ?_
  intro p e s m args below meth cd s₁ B hml hv
  obtain ⟨hargs, hK, hW⟩ := hv
  have hx := B.exec
  have hb := B.bytes
  have hr := B.returns
  have hts := atoms_spec (ws := wsX3_halveDown) B.pre
  have hown : s.vm.findClass RX3 = some m.cls := findClass_of_methodNamed B.named
  have hlocks := B.notSynchronized
  have hA : ∀ q, Aw G q → Aw G q := fun _ h => h
  have hS : va_S (Aw G) s.heap s.heap [] := va_S.rf
  have he0 : entryFrame m args 8 = F0 m 0 ((lg_sl ([.ref (gad G (7 + c)), .int p1, .int p2, .int p3, .int p4, .int p5]) ++ List.replicate (8 - (lg_sl ([.ref (gad G (7 + c)), .int p1, .int p2, .int p3, .int p4, .int p5])).length) Slot.unset).toArray) [] := by rw [hargs]; exact lg_entry_eq _ _ _
  have hl := lv_entry ([.ref (gad G (7 + c)), .int p1, .int p2, .int p3, .int p4, .int p5]) (n := 8) (Nat.le_of_ble_eq_true rfl)
  rw [he0]
  generalize (lg_sl ([.ref (gad G (7 + c)), .int p1, .int p2, .int p3, .int p4, .int p5]) ++ List.replicate (8 - (lg_sl ([.ref (gad G (7 + c)), .int p1, .int p2, .int p3, .int p4, .int p5])).length) Slot.unset).toArray = ls at hl ⊢
  have hl : lv_has ls 8 [(0, .ref (gad G (7 + c))), (1, .int p1), (2, .int p2), (3, .int p3), (4, .int p4), (5, .int p5)] := hl
  have hiX3 : ∀ w ∈ u_ws RX3 TX3 5, w ∈ wsX3_halveDown := by decide +kernel
  have B22 : ∀ (n : Nat), ∀ (H : Heap) (locs : List Loc) (S : St) (_ : WD G S M0 H) (_ : va_S (Aw G) s.heap H locs) (ls : Array Slot) (l1 : Int32) (l2 : Int32) (l3 : Int32) (l4 : Int32) (l5 : Int32) (l6 : Int32) (l7 : Int32) (_ : lv_has ls 8 [(0, .ref (gad G (7 + c))), (1, .int l1), (2, .int l2), (3, .int l3), (4, .int l4), (5, .int l5), (6, .int l6), (7, .int l7)]) (h : f3_halveDown_b22 c l1 l2 l3 l4 l5 l6 n S l7 = some (S')), WV p l e (headSpec wsX3_halveDown rX3_halveDown).room s m args below meth cd G S' M0 H locs (F0 m 22 ls []) := by
    intro n
    induction n with
    | zero => intro H locs S hW hS ls l1 l2 l3 l4 l5 l6 l7 hl h; cases (show (none : Option (St)) = some _ from h)
    | succ n ih =>
      intro H locs S hW hS ls l1 l2 l3 l4 l5 l6 l7 hl h
      rw [f3_halveDown_b22] at h
      refine lv_iload hx hb dX3_halveDown_22 (lv_at hl 7 rfl) ?_
      refine lv_iload hx hb dX3_halveDown_24 (lv_at hl 4 rfl) ?_
      refine lv_icmp_gt (tgt := 65) hx hb dX3_halveDown_26 (by decide) (fun c_1 => ?_) (fun c_1 => ?_)
      · have h := ite_t c_1 h
        refine lv_aload_n hx hb dX3_halveDown_65 rfl (lv_at hl 0 rfl) ?_
        refine lv_iload_n hx hb dX3_halveDown_66 rfl (lv_at hl 1 rfl) ?_
        refine lv_iload_n hx hb dX3_halveDown_67 rfl (lv_at hl 2 rfl) ?_
        refine lv_iload_n hx hb dX3_halveDown_68 rfl (lv_at hl 3 rfl) ?_
        refine lv_iload hx hb dX3_halveDown_69 (lv_at hl 4 rfl) ?_
        refine lv_iload hx hb dX3_halveDown_71 (lv_at hl 5 rfl) ?_
        obtain ⟨S_2, e_3, h⟩ := bnd_e h
        refine kV_V (As := [.int l1, .int l2, .int l3, .int l4, .int l5]) (rest := []) ⟨hx, hb, hml, hown, hts⟩ (tX3_put l G S M0 c (by omega) l1 l2 l3 l4 l5 S_2 e_3) (cwV 5 hts gX3_halveDown_X3_put rfl rfl rfl ⟨rfl, hdX3_put⟩ ⟨Nat.le_of_ble_eq_true rfl, Nat.le_of_ble_eq_true rfl⟩) (va_recv hK.1 hW.1 (ci := 3) (q0 := (7 + c)) rfl (lkP (c := c) (by omega))) hK hW hS hA rfl hl.1 rfl (Nat.le_of_ble_eq_true rfl) dX3_halveDown_73 ⟨Nat.zero_le _, Nat.zero_le _⟩ (fun H locs hW hS => ?_)
        obtain rfl := Option.some.inj h
        exact W.vret hx hb hr (fun t ht hw => ⟨⟨(), rfl, trivial, hW.ret ht⟩, hS.F ht⟩) hS.2.2 dX3_halveDown_76
      · have h := ite_f c_1 h
        refine lv_aload_n hx hb dX3_halveDown_29 rfl (lv_at hl 0 rfl) ?_
        refine lv_iload_n hx hb dX3_halveDown_30 rfl (lv_at hl 2 rfl) ?_
        refine lv_iload hx hb dX3_halveDown_31 (lv_at hl 7 rfl) ?_
        obtain ⟨r_4, e_5, h⟩ := bnd_e h
        refine kSN_I (As := [.int l2, .int l7]) (rest := [.ref (gad G (7 + c))]) ⟨hx, hb, hml, hown, hts⟩ (tX5_partX0 l G S M0 l2 l7 r_4 e_5) ⟨va_cnB 2 hts gX3_halveDown_X5_partX0_n120 rfl rfl rfl (hK.2 _ (List.mem_of_getElem? (i := 18) rfl)) (hts _ (List.mem_of_getElem? (i := 10) rfl)) hdX5_partX0 ⟨Nat.le_of_ble_eq_true rfl, Nat.le_of_ble_eq_true rfl⟩, (hts _ (List.mem_of_getElem? (i := 9) rfl)), trivial⟩ hK hW hS hA rfl hl.1 rfl (Nat.le_of_ble_eq_true rfl) dX3_halveDown_33 ⟨Nat.zero_le _, Nat.zero_le _⟩ (fun H locs hW hS => ?_)
        refine lv_iload hx hb dX3_halveDown_36 (lv_at hl 7 rfl) ?_
        obtain ⟨r_6, e_7, h⟩ := bnd_e h
        refine kSN_I (As := [.int r_4, .int l7]) (rest := [.ref (gad G (7 + c))]) ⟨hx, hb, hml, hown, hts⟩ (tX5_otherHalfX0 l G S M0 r_4 l7 r_6 e_7) ⟨va_cnB 2 hts gX3_halveDown_X5_otherHalfX0_n59 rfl rfl rfl (hK.2 _ (List.mem_of_getElem? (i := 19) rfl)) (hts _ (List.mem_of_getElem? (i := 10) rfl)) hdX5_otherHalfX0 ⟨Nat.le_of_ble_eq_true rfl, Nat.le_of_ble_eq_true rfl⟩, (hts _ (List.mem_of_getElem? (i := 15) rfl)), trivial⟩ hK hW hS hA rfl hl.1 rfl (Nat.le_of_ble_eq_true rfl) dX3_halveDown_38 ⟨Nat.zero_le _, Nat.zero_le _⟩ (fun H locs hW hS => ?_)
        refine lv_iload_n hx hb dX3_halveDown_41 rfl (lv_at hl 3 rfl) ?_
        refine lv_iload hx hb dX3_halveDown_42 (lv_at hl 7 rfl) ?_
        obtain ⟨r_8, e_9, h⟩ := bnd_e h
        refine kSN_I (As := [.int l3, .int l7]) (rest := [.int r_6, .ref (gad G (7 + c))]) ⟨hx, hb, hml, hown, hts⟩ (tX5_partY0 l G S M0 l3 l7 r_8 e_9) ⟨va_cnB 2 hts gX3_halveDown_X5_partY0_n123 rfl rfl rfl (hK.2 _ (List.mem_of_getElem? (i := 20) rfl)) (hts _ (List.mem_of_getElem? (i := 10) rfl)) hdX5_partY0 ⟨Nat.le_of_ble_eq_true rfl, Nat.le_of_ble_eq_true rfl⟩, (hts _ (List.mem_of_getElem? (i := 17) rfl)), trivial⟩ hK hW hS hA rfl hl.1 rfl (Nat.le_of_ble_eq_true rfl) dX3_halveDown_44 ⟨Nat.zero_le _, Nat.zero_le _⟩ (fun H locs hW hS => ?_)
        refine lv_iload hx hb dX3_halveDown_47 (lv_at hl 7 rfl) ?_
        obtain ⟨r_10, e_11, h⟩ := bnd_e h
        refine kSN_I (As := [.int r_8, .int l7]) (rest := [.int r_6, .ref (gad G (7 + c))]) ⟨hx, hb, hml, hown, hts⟩ (tX5_otherHalfY0 l G S M0 r_8 l7 r_10 e_11) ⟨va_cnB 2 hts gX3_halveDown_X5_otherHalfY0_n62 rfl rfl rfl (hK.2 _ (List.mem_of_getElem? (i := 21) rfl)) (hts _ (List.mem_of_getElem? (i := 10) rfl)) hdX5_otherHalfY0 ⟨Nat.le_of_ble_eq_true rfl, Nat.le_of_ble_eq_true rfl⟩, (hts _ (List.mem_of_getElem? (i := 22) rfl)), trivial⟩ hK hW hS hA rfl hl.1 rfl (Nat.le_of_ble_eq_true rfl) dX3_halveDown_49 ⟨Nat.zero_le _, Nat.zero_le _⟩ (fun H locs hW hS => ?_)
        refine lv_iload hx hb dX3_halveDown_52 (lv_at hl 7 rfl) ?_
        refine lv_iload hx hb dX3_halveDown_54 (lv_at hl 6 rfl) ?_
        obtain ⟨S_12, e_13, h⟩ := bnd_e h
        refine kV_V (As := [.int r_6, .int r_10, .int l7, .int l6]) (rest := []) ⟨hx, hb, hml, hown, hts⟩ (tX3_add l G S M0 c (by omega) r_6 r_10 l7 l6 S_12 e_13) (cwV 4 hts gX3_halveDown_X3_add rfl rfl rfl ⟨rfl, hdX3_add⟩ ⟨Nat.le_of_ble_eq_true rfl, Nat.le_of_ble_eq_true rfl⟩) (va_recv hK.1 hW.1 (ci := 3) (q0 := (7 + c)) rfl (lkP (c := c) (by omega))) hK hW hS hA rfl hl.1 rfl (Nat.le_of_ble_eq_true rfl) dX3_halveDown_56 ⟨Nat.zero_le _, Nat.zero_le _⟩ (fun H locs hW hS => ?_)
        refine lv_iinc (v := (l7 + 1)) (lv' := [(7, .int ((l7 + 1))), (0, .ref (gad G (7 + c))), (1, .int l1), (2, .int l2), (3, .int l3), (4, .int l4), (5, .int l5), (6, .int l6)]) hx hb dX3_halveDown_59 hl (k := 7) rfl rfl (by decide) rfl (fun ls hl => ?_)
        refine lv_goto (tgt := 22) hx hb dX3_halveDown_62 (by decide) ?_
        exact ih _ _ S_12 hW hS ls l1 l2 l3 l4 l5 l6 ((l7 + 1)) (lv_sub hl [1, 2, 3, 4, 5, 6, 7, 0] rfl) h
  unfold f3_halveDown at h
  refine lv_aload_n hx hb dX3_halveDown_0 rfl (lv_at hl 0 rfl) ?_
  refine va_get (D := G.1) (ci := 3) (v := .ref (gad G (14 + (10 * c + 3)))) (C := RX3) (T := TX3) (N := 5) hx hb hts hiX3 hown hK.1 hW.1 (7 + c) (lkP (c := c) (by omega)) rfl 3 (by decide) (hts _ (List.mem_of_getElem? (i := 1) rfl)) (fun _ h9 => h9) rfl dX3_halveDown_1 ?_
  refine lv_iload_n hx hb dX3_halveDown_4 rfl (lv_at hl 1 rfl) ?_
  obtain ⟨r_1, e_2, h⟩ := bnd_e h
  refine kV_I (As := [.int p1]) (rest := []) ⟨hx, hb, hml, hown, hts⟩ (tX4_at l G S0 M0 ((10 * c + 3)) (by omega) p1 r_1 e_2) (cwV 1 hts gX3_halveDown_X4_at rfl rfl rfl ⟨rfl, hdX4_at⟩ ⟨Nat.le_of_ble_eq_true rfl, Nat.le_of_ble_eq_true rfl⟩) (va_recv hK.1 hW.1 (ci := 4) (q0 := (14 + (10 * c + 3))) rfl (lkR (r := (10 * c + 3)) (by omega))) hK hW hS hA rfl hl.1 rfl (Nat.le_of_ble_eq_true rfl) dX3_halveDown_5 ⟨Nat.zero_le _, Nat.zero_le _⟩ (fun H locs hW hS => ?_)
  refine lv_istore (lv' := [(6, .int r_1), (0, .ref (gad G (7 + c))), (1, .int p1), (2, .int p2), (3, .int p3), (4, .int p4), (5, .int p5)]) hx hb dX3_halveDown_8 hl (by decide) rfl (fun ls hl => ?_)
  refine lv_aload_n hx hb dX3_halveDown_10 rfl (lv_at hl 1 rfl) ?_
  refine va_get (D := G.1) (ci := 3) (v := .ref (gad G (14 + (10 * c + 2)))) (C := RX3) (T := TX3) (N := 5) hx hb hts hiX3 hown hK.1 hW.1 (7 + c) (lkP (c := c) (by omega)) rfl 2 (by decide) (hts _ (List.mem_of_getElem? (i := 2) rfl)) (fun _ h9 => h9) rfl dX3_halveDown_11 ?_
  refine lv_iload_n hx hb dX3_halveDown_14 rfl (lv_at hl 2 rfl) ?_
  obtain ⟨r_3, e_4, h⟩ := bnd_e h
  refine kV_I (As := [.int p1]) (rest := []) ⟨hx, hb, hml, hown, hts⟩ (tX4_at l G S0 M0 ((10 * c + 2)) (by omega) p1 r_3 e_4) (cwV 1 hts gX3_halveDown_X4_at rfl rfl rfl ⟨rfl, hdX4_at⟩ ⟨Nat.le_of_ble_eq_true rfl, Nat.le_of_ble_eq_true rfl⟩) (va_recv hK.1 hW.1 (ci := 4) (q0 := (14 + (10 * c + 2))) rfl (lkR (r := (10 * c + 2)) (by omega))) hK hW hS hA rfl hl.1 rfl (Nat.le_of_ble_eq_true rfl) dX3_halveDown_15 ⟨Nat.zero_le _, Nat.zero_le _⟩ (fun H locs hW hS => ?_)
  refine lv_iconst (v := 1) hx hb dX3_halveDown_18 (by decide) ?_
  refine lv_iadd hx hb dX3_halveDown_19 ?_
  obtain ⟨x_5, ex_5, h⟩ := nam_e h
  refine lv_ni ex_5 ?_
  refine lv_istore (lv' := [(7, .int x_5), (6, .int r_1), (0, .ref (gad G (7 + c))), (1, .int p1), (2, .int p2), (3, .int p3), (4, .int p4), (5, .int p5)]) hx hb dX3_halveDown_20 hl (by decide) rfl (fun ls hl => ?_)
  exact B22 fuelN _ _ S0 hW hS ls p1 p2 p3 p4 p5 r_1 x_5 (lv_sub hl [2, 3, 4, 5, 6, 7, 1, 0] rfl) h
abbrev rX0_pitch : Room := { frames := 1, cells := 0, slots := 0, locals := 22 }
set_option maxRecDepth 100000 in
set_option maxHeartbeats 8000000 in
theorem tX0_pitch (l : Launch) (G : WG) (S0 M0 : St) (c : Nat) (hc : c < 7) (p1 : Int32) (p2 : Int32) (p3 : Int32) (S' : St) (h : f0_pitch S0 c p1 p2 p3 = some (S')) : CtV l yX0_pitch wsX0_pitch rX0_pitch G [.ref (gad G c), .int p1, .int p2, .int p3] S0 M0 S' M0 := by
  refine Met.ofW (cc := cX0_pitch) (maxL := 4) (ret := none) (by decide) rfl ?_
  intro p e s m args below meth cd s₁ B hml hv
  obtain ⟨hargs, hK, hW⟩ := hv
  have hx := B.exec
  have hb := B.bytes
  have hr := B.returns
  have hts := atoms_spec (ws := wsX0_pitch) B.pre
  have hown : s.vm.findClass RX0 = some m.cls := findClass_of_methodNamed B.named
  have hlocks := B.notSynchronized
  have hA : ∀ q, Aw G q → Aw G q := fun _ h => h
  have hS : va_S (Aw G) s.heap s.heap [] := va_S.rf
  have he0 : entryFrame m args 4 = F0 m 0 ((lg_sl ([.ref (gad G c), .int p1, .int p2, .int p3]) ++ List.replicate (4 - (lg_sl ([.ref (gad G c), .int p1, .int p2, .int p3])).length) Slot.unset).toArray) [] := by rw [hargs]; exact lg_entry_eq _ _ _
  have hl := lv_entry ([.ref (gad G c), .int p1, .int p2, .int p3]) (n := 4) (Nat.le_of_ble_eq_true rfl)
  rw [he0]
  generalize (lg_sl ([.ref (gad G c), .int p1, .int p2, .int p3]) ++ List.replicate (4 - (lg_sl ([.ref (gad G c), .int p1, .int p2, .int p3])).length) Slot.unset).toArray = ls at hl ⊢
  have hl : lv_has ls 4 [(0, .ref (gad G c)), (1, .int p1), (2, .int p2), (3, .int p3)] := hl
  have hiX0 : ∀ w ∈ u_ws RX0 TX0 12, w ∈ wsX0_pitch := by decide +kernel
  unfold f0_pitch at h
  refine lv_aload_n hx hb dX0_pitch_0 rfl (lv_at hl 0 rfl) ?_
  refine va_get (D := G.1) (ci := 0) (v := .ref (gad G (14 + (10 * c + 4)))) (C := RX0) (T := TX0) (N := 12) hx hb hts hiX0 hown hK.1 hW.1 c (lkC (c := c) (by omega)) rfl 1 (by decide) (hts _ (List.mem_of_getElem? (i := 1) rfl)) (fun _ h9 => h9) rfl dX0_pitch_1 ?_
  refine lv_iload_n hx hb dX0_pitch_4 rfl (lv_at hl 1 rfl) ?_
  refine lv_iload_n hx hb dX0_pitch_5 rfl (lv_at hl 2 rfl) ?_
  obtain ⟨S_1, e_2, h⟩ := bnd_e h
  refine kV_V (As := [.int p1, .int p2]) (rest := []) ⟨hx, hb, hml, hown, hts⟩ (tX4_put l G S0 M0 ((10 * c + 4)) (by omega) p1 p2 S_1 e_2) (cwV 2 hts gX0_pitch_X4_put rfl rfl rfl ⟨rfl, hdX4_put⟩ ⟨Nat.le_of_ble_eq_true rfl, Nat.le_of_ble_eq_true rfl⟩) (va_recv hK.1 hW.1 (ci := 4) (q0 := (14 + (10 * c + 4))) rfl (lkR (r := (10 * c + 4)) (by omega))) hK hW hS hA rfl hl.1 rfl (Nat.le_of_ble_eq_true rfl) dX0_pitch_6 ⟨Nat.zero_le _, Nat.zero_le _⟩ (fun H locs hW hS => ?_)
  refine lv_aload_n hx hb dX0_pitch_9 rfl (lv_at hl 0 rfl) ?_
  refine va_get (D := G.1) (ci := 0) (v := .ref (gad G (14 + (10 * c + 5)))) (C := RX0) (T := TX0) (N := 12) hx hb hts hiX0 hown hK.1 hW.1 c (lkC (c := c) (by omega)) rfl 2 (by decide) (hts _ (List.mem_of_getElem? (i := 2) rfl)) (fun _ h9 => h9) rfl dX0_pitch_10 ?_
  refine lv_iload_n hx hb dX0_pitch_13 rfl (lv_at hl 1 rfl) ?_
  refine lv_iload_n hx hb dX0_pitch_14 rfl (lv_at hl 3 rfl) ?_
  obtain ⟨S_3, e_4, h⟩ := bnd_e h
  refine kV_V (As := [.int p1, .int p3]) (rest := []) ⟨hx, hb, hml, hown, hts⟩ (tX4_put l G S_1 M0 ((10 * c + 5)) (by omega) p1 p3 S_3 e_4) (cwV 2 hts gX0_pitch_X4_put rfl rfl rfl ⟨rfl, hdX4_put⟩ ⟨Nat.le_of_ble_eq_true rfl, Nat.le_of_ble_eq_true rfl⟩) (va_recv hK.1 hW.1 (ci := 4) (q0 := (14 + (10 * c + 5))) rfl (lkR (r := (10 * c + 5)) (by omega))) hK hW hS hA rfl hl.1 rfl (Nat.le_of_ble_eq_true rfl) dX0_pitch_15 ⟨Nat.zero_le _, Nat.zero_le _⟩ (fun H locs hW hS => ?_)
  obtain rfl := Option.some.inj h
  exact W.vret hx hb hr (fun t ht hw => ⟨⟨(), rfl, trivial, hW.ret ht⟩, hS.F ht⟩) hS.2.2 dX0_pitch_18
abbrev rX0_settle : Room := { frames := 5, cells := 0, slots := 0, locals := 117 }
set_option maxRecDepth 100000 in
set_option maxHeartbeats 8000000 in
theorem tX0_settle (l : Launch) (G : WG) (S0 M0 : St) (c : Nat) (hc : c < 7) (p1 : Int32) (p2 : Int32) (p3 : Int32) (rr : Int32) (S' : St) (h : f0_settle S0 c p1 p2 p3 = some (rr, S')) : CtI l yX0_settle wsX0_settle rX0_settle G [.ref (gad G c), .int p1, .int p2, .int p3] S0 M0 rr S' M0 := by
  refine Met.ofW (cc := cX0_settle) (maxL := 6) (ret := (some .int)) (by decide) rfl ?_
  intro p e s m args below meth cd s₁ B hml hv
  obtain ⟨hargs, hK, hW⟩ := hv
  have hx := B.exec
  have hb := B.bytes
  have hr := B.returns
  have hts := atoms_spec (ws := wsX0_settle) B.pre
  have hown : s.vm.findClass RX0 = some m.cls := findClass_of_methodNamed B.named
  have hlocks := B.notSynchronized
  have hA : ∀ q, Aw G q → Aw G q := fun _ h => h
  have hS : va_S (Aw G) s.heap s.heap [] := va_S.rf
  have he0 : entryFrame m args 6 = F0 m 0 ((lg_sl ([.ref (gad G c), .int p1, .int p2, .int p3]) ++ List.replicate (6 - (lg_sl ([.ref (gad G c), .int p1, .int p2, .int p3])).length) Slot.unset).toArray) [] := by rw [hargs]; exact lg_entry_eq _ _ _
  have hl := lv_entry ([.ref (gad G c), .int p1, .int p2, .int p3]) (n := 6) (Nat.le_of_ble_eq_true rfl)
  rw [he0]
  generalize (lg_sl ([.ref (gad G c), .int p1, .int p2, .int p3]) ++ List.replicate (6 - (lg_sl ([.ref (gad G c), .int p1, .int p2, .int p3])).length) Slot.unset).toArray = ls at hl ⊢
  have hl : lv_has ls 6 [(0, .ref (gad G c)), (1, .int p1), (2, .int p2), (3, .int p3)] := hl
  have hiX0 : ∀ w ∈ u_ws RX0 TX0 12, w ∈ wsX0_settle := by decide +kernel
  unfold f0_settle at h
  refine lv_aload_n hx hb dX0_settle_0 rfl (lv_at hl 0 rfl) ?_
  refine va_get (D := G.1) (ci := 0) (v := .int (S0.1 (6 * c + 1))) (C := RX0) (T := TX0) (N := 12) hx hb hts hiX0 hown hK.1 hW.1 c (lkC (c := c) (by omega)) rfl 7 (by decide) (hts _ (List.mem_of_getElem? (i := 1) rfl)) (fun _ h9 => h9) rfl dX0_settle_1 ?_
  obtain ⟨x_1, ex_1, h⟩ := nam_e h
  refine lv_ni ex_1 ?_
  refine lv_istore (lv' := [(4, .int x_1), (0, .ref (gad G c)), (1, .int p1), (2, .int p2), (3, .int p3)]) hx hb dX0_settle_4 hl (by decide) rfl (fun ls hl => ?_)
  refine lv_aload_n hx hb dX0_settle_6 rfl (lv_at hl 1 rfl) ?_
  refine va_get (D := G.1) (ci := 0) (v := .ref (gad G (7 + c))) (C := RX0) (T := TX0) (N := 12) hx hb hts hiX0 hown hK.1 hW.1 c (lkC (c := c) (by omega)) rfl 0 (by decide) (hts _ (List.mem_of_getElem? (i := 2) rfl)) (fun _ h9 => h9) rfl dX0_settle_7 ?_
  refine lv_iload_n hx hb dX0_settle_10 rfl (lv_at hl 2 rfl) ?_
  refine lv_iload_n hx hb dX0_settle_11 rfl (lv_at hl 3 rfl) ?_
  obtain ⟨r_2, e_3, h⟩ := bnd_e h
  refine kV_I (As := [.int p1, .int p2]) (rest := []) ⟨hx, hb, hml, hown, hts⟩ (tX3_find l G S0 M0 c (by omega) p1 p2 r_2 e_3) (cwV 2 hts gX0_settle_X3_find rfl rfl rfl ⟨rfl, hdX3_find⟩ ⟨Nat.le_of_ble_eq_true rfl, Nat.le_of_ble_eq_true rfl⟩) (va_recv hK.1 hW.1 (ci := 3) (q0 := (7 + c)) rfl (lkP (c := c) (by omega))) hK hW hS hA rfl hl.1 rfl (Nat.le_of_ble_eq_true rfl) dX0_settle_12 ⟨Nat.zero_le _, Nat.zero_le _⟩ (fun H locs hW hS => ?_)
  refine lv_istore (lv' := [(5, .int r_2), (4, .int x_1), (0, .ref (gad G c)), (1, .int p1), (2, .int p2), (3, .int p3)]) hx hb dX0_settle_15 hl (by decide) rfl (fun ls hl => ?_)
  refine lv_aload_n hx hb dX0_settle_17 rfl (lv_at hl 2 rfl) ?_
  refine lv_dup hx hb dX0_settle_18 rfl ?_
  refine va_get (D := G.1) (ci := 0) (v := .int (S0.1 (6 * c + 3))) (C := RX0) (T := TX0) (N := 12) hx hb hts hiX0 hown hK.1 hW.1 c (lkC (c := c) (by omega)) rfl 9 (by decide) (hts _ (List.mem_of_getElem? (i := 3) rfl)) (fun _ h9 => h9) rfl dX0_settle_19 ?_
  refine lv_iload_n hx hb dX0_settle_22 rfl (lv_at hl 5 rfl) ?_
  refine lv_aload_n hx hb dX0_settle_23 rfl (lv_at hl 2 rfl) ?_
  refine va_get (D := G.1) (ci := 0) (v := .ref (gad G (7 + c))) (C := RX0) (T := TX0) (N := 12) hx hb hts hiX0 hown hK.1 hW.1 c (lkC (c := c) (by omega)) rfl 0 (by decide) (hts _ (List.mem_of_getElem? (i := 2) rfl)) (fun _ h9 => h9) rfl dX0_settle_24 ?_
  refine lv_iload hx hb dX0_settle_27 (lv_at hl 0 rfl) ?_
  obtain ⟨r_4, e_5, h⟩ := bnd_e h
  refine kV_I (As := [.int r_2]) (rest := [.int p3, .int (S0.1 (6 * c + 3)), .ref (gad G c)]) ⟨hx, hb, hml, hown, hts⟩ (tX3_depthOf l G S0 M0 c (by omega) r_2 r_4 e_5) (cwV 1 hts gX0_settle_X3_depthOf rfl rfl rfl ⟨rfl, hdX3_depthOf⟩ ⟨Nat.le_of_ble_eq_true rfl, Nat.le_of_ble_eq_true rfl⟩) (va_recv hK.1 hW.1 (ci := 3) (q0 := (7 + c)) rfl (lkP (c := c) (by omega))) hK hW hS hA rfl hl.1 rfl (Nat.le_of_ble_eq_true rfl) dX0_settle_29 ⟨Nat.zero_le _, Nat.zero_le _⟩ (fun H locs hW hS => ?_)
  refine lv_isub hx hb dX0_settle_32 ?_
  refine lv_iadd hx hb dX0_settle_33 ?_
  obtain ⟨S_6, eS_6, h⟩ := nam_e h
  refine va_put (D := G.1) (ci := 0) (v := .int ((S0.1 (6 * c + 3) + (p3 - r_4)))) (ty := .int) (C := RX0) (T := TX0) (N := 12) hx hb hts hiX0 tyX0 tyX0_ok nmX0 hown hK.1 hW.1 (hW.D hA) hS c (lkC (c := c) (by omega)) rfl 9 (by decide) (hts _ (List.mem_of_getElem? (i := 3) rfl)) (fun _ h9 => h9) rfl (by decide +kernel) rfl rfl (Nat.le_of_ble_eq_true rfl) dX0_settle_34 (fun H locs hP hD hS => ?_)
  have hW := upC3 (c := c) (by omega) hW hP
  rw [← eS_6] at hW
  refine lv_aload_n hx hb dX0_settle_37 rfl (lv_at hl 2 rfl) ?_
  refine va_get (D := G.1) (ci := 0) (v := .ref (gad G (7 + c))) (C := RX0) (T := TX0) (N := 12) hx hb hts hiX0 hown hK.1 hW.1 c (lkC (c := c) (by omega)) rfl 0 (by decide) (hts _ (List.mem_of_getElem? (i := 2) rfl)) (fun _ h9 => h9) rfl dX0_settle_38 ?_
  refine lv_iload hx hb dX0_settle_41 (lv_at hl 0 rfl) ?_
  refine lv_iload_n hx hb dX0_settle_43 rfl (lv_at hl 3 rfl) ?_
  refine lv_iload_n hx hb dX0_settle_44 rfl (lv_at hl 4 rfl) ?_
  refine lv_iload_n hx hb dX0_settle_45 rfl (lv_at hl 5 rfl) ?_
  refine lv_iload hx hb dX0_settle_46 (lv_at hl 1 rfl) ?_
  obtain ⟨S_7, e_8, h⟩ := bnd_e h
  refine kV_V (As := [.int r_2, .int p1, .int p2, .int p3, .int x_1]) (rest := []) ⟨hx, hb, hml, hown, hts⟩ (tX3_halveDown l G S_6 M0 c (by omega) r_2 p1 p2 p3 x_1 S_7 e_8) (cwV 5 hts gX0_settle_X3_halveDown rfl rfl rfl ⟨rfl, hdX3_halveDown⟩ ⟨Nat.le_of_ble_eq_true rfl, Nat.le_of_ble_eq_true rfl⟩) (va_recv hK.1 hW.1 (ci := 3) (q0 := (7 + c)) rfl (lkP (c := c) (by omega))) hK hW hS hA rfl hl.1 rfl (Nat.le_of_ble_eq_true rfl) dX0_settle_48 ⟨Nat.zero_le _, Nat.zero_le _⟩ (fun H locs hW hS => ?_)
  refine lv_aload_n hx hb dX0_settle_51 rfl (lv_at hl 2 rfl) ?_
  refine va_get (D := G.1) (ci := 0) (v := .ref (gad G (14 + (10 * c + 6)))) (C := RX0) (T := TX0) (N := 12) hx hb hts hiX0 hown hK.1 hW.1 c (lkC (c := c) (by omega)) rfl 3 (by decide) (hts _ (List.mem_of_getElem? (i := 4) rfl)) (fun _ h9 => h9) rfl dX0_settle_52 ?_
  refine lv_iload hx hb dX0_settle_55 (lv_at hl 1 rfl) ?_
  refine lv_iconst (v := 1) hx hb dX0_settle_57 (by decide) ?_
  obtain ⟨S_9, e_10, h⟩ := bnd_e h
  refine kV_V (As := [.int x_1, .int 1]) (rest := []) ⟨hx, hb, hml, hown, hts⟩ (tX4_put l G S_7 M0 ((10 * c + 6)) (by omega) x_1 1 S_9 e_10) (cwV 2 hts gX0_settle_X4_put rfl rfl rfl ⟨rfl, hdX4_put⟩ ⟨Nat.le_of_ble_eq_true rfl, Nat.le_of_ble_eq_true rfl⟩) (va_recv hK.1 hW.1 (ci := 4) (q0 := (14 + (10 * c + 6))) rfl (lkR (r := (10 * c + 6)) (by omega))) hK hW hS hA rfl hl.1 rfl (Nat.le_of_ble_eq_true rfl) dX0_settle_58 ⟨Nat.zero_le _, Nat.zero_le _⟩ (fun H locs hW hS => ?_)
  refine lv_aload_n hx hb dX0_settle_61 rfl (lv_at hl 2 rfl) ?_
  refine lv_iload hx hb dX0_settle_62 (lv_at hl 1 rfl) ?_
  refine lv_iload_n hx hb dX0_settle_64 rfl (lv_at hl 3 rfl) ?_
  refine lv_iload_n hx hb dX0_settle_65 rfl (lv_at hl 4 rfl) ?_
  obtain ⟨S_11, e_12, h⟩ := bnd_e h
  refine kV_V (As := [.int x_1, .int p1, .int p2]) (rest := []) ⟨hx, hb, hml, hown, hts⟩ (tX0_pitch l G S_9 M0 c (by omega) x_1 p1 p2 S_11 e_12) (cwV 3 hts gX0_settle_X0_pitch rfl rfl rfl ⟨rfl, hdX0_pitch⟩ ⟨Nat.le_of_ble_eq_true rfl, Nat.le_of_ble_eq_true rfl⟩) (va_recv hK.1 hW.1 (ci := 0) (q0 := c) rfl (lkC (c := c) (by omega))) hK hW hS hA rfl hl.1 rfl (Nat.le_of_ble_eq_true rfl) dX0_settle_66 ⟨Nat.zero_le _, Nat.zero_le _⟩ (fun H locs hW hS => ?_)
  refine lv_aload_n hx hb dX0_settle_69 rfl (lv_at hl 2 rfl) ?_
  refine lv_iload hx hb dX0_settle_70 (lv_at hl 1 rfl) ?_
  refine lv_iconst (v := 1) hx hb dX0_settle_72 (by decide) ?_
  refine lv_iadd hx hb dX0_settle_73 ?_
  obtain ⟨S_13, eS_13, h⟩ := nam_e h
  refine va_put (D := G.1) (ci := 0) (v := .int ((x_1 + 1))) (ty := .int) (C := RX0) (T := TX0) (N := 12) hx hb hts hiX0 tyX0 tyX0_ok nmX0 hown hK.1 hW.1 (hW.D hA) hS c (lkC (c := c) (by omega)) rfl 7 (by decide) (hts _ (List.mem_of_getElem? (i := 1) rfl)) (fun _ h9 => h9) rfl (by decide +kernel) rfl rfl (Nat.le_of_ble_eq_true rfl) dX0_settle_74 (fun H locs hP hD hS => ?_)
  have hW := upC1 (c := c) (by omega) hW hP
  rw [← eS_13] at hW
  refine lv_iload hx hb dX0_settle_77 (lv_at hl 1 rfl) ?_
  obtain ⟨rfl, rfl⟩ := Prod.mk.inj (Option.some.inj h)
  exact W.iret hx hb hr (fun t ht hw => ⟨⟨_, (), rfl, rfl, hW.ret ht⟩, hS.F ht⟩) hS.2.2 dX0_settle_79
abbrev rX5_isPoint : Room := { frames := 0, cells := 0, slots := 0, locals := 0 }
set_option maxRecDepth 100000 in
set_option maxHeartbeats 8000000 in
theorem tX5_isPoint (l : Launch) (G : WG) (S0 M0 : St) (p0 : Int32) (p1 : Int32) (rr : Int32) (h : f5_isPoint p0 p1 = some (rr)) : CtI l yX5_isPoint wsX5_isPoint rX5_isPoint G [.int p0, .int p1] S0 M0 rr S0 M0 := by
  refine Met.ofW (cc := cX5_isPoint) (maxL := 2) (ret := (some .boolean)) (by decide) rfl ?_
  intro p e s m args below meth cd s₁ B hml hv
  obtain ⟨hargs, hK, hW⟩ := hv
  have hx := B.exec
  have hb := B.bytes
  have hr := B.returns
  have hts := atoms_spec (ws := wsX5_isPoint) B.pre
  have hown : s.vm.findClass RX5 = some m.cls := findClass_of_methodNamed B.named
  have hlocks := B.notSynchronized
  have hA : ∀ q, Aw G q → Aw G q := fun _ h => h
  have hS : va_S (Aw G) s.heap s.heap [] := va_S.rf
  have he0 : entryFrame m args 2 = F0 m 0 ((lg_sl ([.int p0, .int p1]) ++ List.replicate (2 - (lg_sl ([.int p0, .int p1])).length) Slot.unset).toArray) [] := by rw [hargs]; exact lg_entry_eq _ _ _
  have hl := lv_entry ([.int p0, .int p1]) (n := 2) (Nat.le_of_ble_eq_true rfl)
  rw [he0]
  generalize (lg_sl ([.int p0, .int p1]) ++ List.replicate (2 - (lg_sl ([.int p0, .int p1])).length) Slot.unset).toArray = ls at hl ⊢
  have hl : lv_has ls 2 [(0, .int p0), (1, .int p1)] := hl
  have B25 : ∀ (H : Heap) (locs : List Loc) (_ : WD G S0 M0 H) (_ : va_S (Aw G) s.heap H locs) (ls : Array Slot) (k0 : Int32) (_ : lv_has ls 2 []) (h : f5_isPoint_b25  k0 = some (rr)), WI p l e (headSpec wsX5_isPoint rX5_isPoint).room s m args below meth cd G rr S0 M0 H locs (F0 m 25 ls [.int k0]) := by
    intro H locs hW hS ls k0 hl h
    unfold f5_isPoint_b25 at h
    obtain ⟨z_1, h⟩ := isz_e h
    obtain rfl := Option.some.inj h
    exact W.zret (ty := .boolean) hx hb hr (nz_1 z_1) (fun t ht hw => ⟨⟨_, (), rfl, rfl, hW.ret ht⟩, hS.F ht⟩) hS.2.2 dX5_isPoint_25
  have B24 : ∀ (H : Heap) (locs : List Loc) (_ : WD G S0 M0 H) (_ : va_S (Aw G) s.heap H locs) (ls : Array Slot) (_ : lv_has ls 2 []) (h : f5_isPoint_b24   = some (rr)), WI p l e (headSpec wsX5_isPoint rX5_isPoint).room s m args below meth cd G rr S0 M0 H locs (F0 m 24 ls []) := by
    intro H locs hW hS ls hl h
    unfold f5_isPoint_b24 at h
    refine lv_iconst (v := 0) hx hb dX5_isPoint_24 (by decide) ?_
    exact B25 _ _ hW hS ls 0 (lv_sub hl [] rfl) h
  unfold f5_isPoint at h
  refine lv_iload_n hx hb dX5_isPoint_0 rfl (lv_at hl 0 rfl) ?_
  refine lv_if_lt (tgt := 24) hx hb dX5_isPoint_1 (by decide) (fun c_1 => ?_) (fun c_1 => ?_)
  · have h := ite_t c_1 h
    exact B24 _ _ hW hS ls (lv_sub hl [] rfl) h
  · have h := ite_f c_1 h
    refine lv_iload_n hx hb dX5_isPoint_4 rfl (lv_at hl 0 rfl) ?_
    refine lv_bipush (v := 64) hx hb dX5_isPoint_5 (by decide) ?_
    refine lv_icmp_ge (tgt := 24) hx hb dX5_isPoint_7 (by decide) (fun c_2 => ?_) (fun c_2 => ?_)
    · have h := ite_t c_2 h
      exact B24 _ _ hW hS ls (lv_sub hl [] rfl) h
    · have h := ite_f c_2 h
      refine lv_iload_n hx hb dX5_isPoint_10 rfl (lv_at hl 1 rfl) ?_
      refine lv_if_lt (tgt := 24) hx hb dX5_isPoint_11 (by decide) (fun c_3 => ?_) (fun c_3 => ?_)
      · have h := ite_t c_3 h
        exact B24 _ _ hW hS ls (lv_sub hl [] rfl) h
      · have h := ite_f c_3 h
        refine lv_iload_n hx hb dX5_isPoint_14 rfl (lv_at hl 1 rfl) ?_
        refine lv_bipush (v := 64) hx hb dX5_isPoint_15 (by decide) ?_
        refine lv_icmp_ge (tgt := 24) hx hb dX5_isPoint_17 (by decide) (fun c_4 => ?_) (fun c_4 => ?_)
        · have h := ite_t c_4 h
          exact B24 _ _ hW hS ls (lv_sub hl [] rfl) h
        · have h := ite_f c_4 h
          refine lv_iconst (v := 1) hx hb dX5_isPoint_20 (by decide) ?_
          refine lv_goto (tgt := 25) hx hb dX5_isPoint_21 (by decide) ?_
          exact B25 _ _ hW hS ls 1 (lv_sub hl [] rfl) h
abbrev rX0_putSong : Room := { frames := 1, cells := 0, slots := 0, locals := 22 }
set_option maxRecDepth 100000 in
set_option maxHeartbeats 8000000 in
theorem tX0_putSong (l : Launch) (G : WG) (S0 M0 : St) (c : Nat) (hc : c < 7) (p1 : Int32) (p2 : Int32) (p3 : Int32) (S' : St) (h : f0_putSong S0 c p1 p2 p3 = some (S')) : CtV l yX0_putSong wsX0_putSong rX0_putSong G [.ref (gad G c), .int p1, .int p2, .int p3] S0 M0 S' M0 := by
  refine Met.ofW (cc := cX0_putSong) (maxL := 4) (ret := none) (by decide) rfl ?_
  intro p e s m args below meth cd s₁ B hml hv
  obtain ⟨hargs, hK, hW⟩ := hv
  have hx := B.exec
  have hb := B.bytes
  have hr := B.returns
  have hts := atoms_spec (ws := wsX0_putSong) B.pre
  have hown : s.vm.findClass RX0 = some m.cls := findClass_of_methodNamed B.named
  have hlocks := B.notSynchronized
  have hA : ∀ q, Aw G q → Aw G q := fun _ h => h
  have hS : va_S (Aw G) s.heap s.heap [] := va_S.rf
  have he0 : entryFrame m args 4 = F0 m 0 ((lg_sl ([.ref (gad G c), .int p1, .int p2, .int p3]) ++ List.replicate (4 - (lg_sl ([.ref (gad G c), .int p1, .int p2, .int p3])).length) Slot.unset).toArray) [] := by rw [hargs]; exact lg_entry_eq _ _ _
  have hl := lv_entry ([.ref (gad G c), .int p1, .int p2, .int p3]) (n := 4) (Nat.le_of_ble_eq_true rfl)
  rw [he0]
  generalize (lg_sl ([.ref (gad G c), .int p1, .int p2, .int p3]) ++ List.replicate (4 - (lg_sl ([.ref (gad G c), .int p1, .int p2, .int p3])).length) Slot.unset).toArray = ls at hl ⊢
  have hl : lv_has ls 4 [(0, .ref (gad G c)), (1, .int p1), (2, .int p2), (3, .int p3)] := hl
  have hiX0 : ∀ w ∈ u_ws RX0 TX0 12, w ∈ wsX0_putSong := by decide +kernel
  unfold f0_putSong at h
  refine lv_aload_n hx hb dX0_putSong_0 rfl (lv_at hl 0 rfl) ?_
  refine va_get (D := G.1) (ci := 0) (v := .ref (gad G (14 + (10 * c + 7)))) (C := RX0) (T := TX0) (N := 12) hx hb hts hiX0 hown hK.1 hW.1 c (lkC (c := c) (by omega)) rfl 4 (by decide) (hts _ (List.mem_of_getElem? (i := 1) rfl)) (fun _ h9 => h9) rfl dX0_putSong_1 ?_
  refine lv_iload_n hx hb dX0_putSong_4 rfl (lv_at hl 1 rfl) ?_
  refine lv_iload_n hx hb dX0_putSong_5 rfl (lv_at hl 2 rfl) ?_
  obtain ⟨S_1, e_2, h⟩ := bnd_e h
  refine kV_V (As := [.int p1, .int p2]) (rest := []) ⟨hx, hb, hml, hown, hts⟩ (tX4_put l G S0 M0 ((10 * c + 7)) (by omega) p1 p2 S_1 e_2) (cwV 2 hts gX0_putSong_X4_put rfl rfl rfl ⟨rfl, hdX4_put⟩ ⟨Nat.le_of_ble_eq_true rfl, Nat.le_of_ble_eq_true rfl⟩) (va_recv hK.1 hW.1 (ci := 4) (q0 := (14 + (10 * c + 7))) rfl (lkR (r := (10 * c + 7)) (by omega))) hK hW hS hA rfl hl.1 rfl (Nat.le_of_ble_eq_true rfl) dX0_putSong_6 ⟨Nat.zero_le _, Nat.zero_le _⟩ (fun H locs hW hS => ?_)
  refine lv_aload_n hx hb dX0_putSong_9 rfl (lv_at hl 0 rfl) ?_
  refine va_get (D := G.1) (ci := 0) (v := .ref (gad G (14 + (10 * c + 8)))) (C := RX0) (T := TX0) (N := 12) hx hb hts hiX0 hown hK.1 hW.1 c (lkC (c := c) (by omega)) rfl 5 (by decide) (hts _ (List.mem_of_getElem? (i := 2) rfl)) (fun _ h9 => h9) rfl dX0_putSong_10 ?_
  refine lv_iload_n hx hb dX0_putSong_13 rfl (lv_at hl 1 rfl) ?_
  refine lv_iload_n hx hb dX0_putSong_14 rfl (lv_at hl 3 rfl) ?_
  obtain ⟨S_3, e_4, h⟩ := bnd_e h
  refine kV_V (As := [.int p1, .int p3]) (rest := []) ⟨hx, hb, hml, hown, hts⟩ (tX4_put l G S_1 M0 ((10 * c + 8)) (by omega) p1 p3 S_3 e_4) (cwV 2 hts gX0_putSong_X4_put rfl rfl rfl ⟨rfl, hdX4_put⟩ ⟨Nat.le_of_ble_eq_true rfl, Nat.le_of_ble_eq_true rfl⟩) (va_recv hK.1 hW.1 (ci := 4) (q0 := (14 + (10 * c + 8))) rfl (lkR (r := (10 * c + 8)) (by omega))) hK hW hS hA rfl hl.1 rfl (Nat.le_of_ble_eq_true rfl) dX0_putSong_15 ⟨Nat.zero_le _, Nat.zero_le _⟩ (fun H locs hW hS => ?_)
  obtain rfl := Option.some.inj h
  exact W.vret hx hb hr (fun t ht hw => ⟨⟨(), rfl, trivial, hW.ret ht⟩, hS.F ht⟩) hS.2.2 dX0_putSong_18
abbrev rX0_addSong : Room := { frames := 2, cells := 0, slots := 0, locals := 45 }
set_option maxRecDepth 100000 in
set_option maxHeartbeats 8000000 in
theorem tX0_addSong (l : Launch) (G : WG) (S0 M0 : St) (c : Nat) (hc : c < 7) (p1 : Int32) (p2 : Int32) (p3 : Int32) (rr : Int32) (S' : St) (h : f0_addSong S0 c p1 p2 p3 = some (rr, S')) : CtI l yX0_addSong wsX0_addSong rX0_addSong G [.ref (gad G c), .int p1, .int p2, .int p3] S0 M0 rr S' M0 := by
  refine Met.ofW (cc := cX0_addSong) (maxL := 5) (ret := (some .int)) (by decide) rfl ?_
  intro p e s m args below meth cd s₁ B hml hv
  obtain ⟨hargs, hK, hW⟩ := hv
  have hx := B.exec
  have hb := B.bytes
  have hr := B.returns
  have hts := atoms_spec (ws := wsX0_addSong) B.pre
  have hown : s.vm.findClass RX0 = some m.cls := findClass_of_methodNamed B.named
  have hlocks := B.notSynchronized
  have hA : ∀ q, Aw G q → Aw G q := fun _ h => h
  have hS : va_S (Aw G) s.heap s.heap [] := va_S.rf
  have he0 : entryFrame m args 5 = F0 m 0 ((lg_sl ([.ref (gad G c), .int p1, .int p2, .int p3]) ++ List.replicate (5 - (lg_sl ([.ref (gad G c), .int p1, .int p2, .int p3])).length) Slot.unset).toArray) [] := by rw [hargs]; exact lg_entry_eq _ _ _
  have hl := lv_entry ([.ref (gad G c), .int p1, .int p2, .int p3]) (n := 5) (Nat.le_of_ble_eq_true rfl)
  rw [he0]
  generalize (lg_sl ([.ref (gad G c), .int p1, .int p2, .int p3]) ++ List.replicate (5 - (lg_sl ([.ref (gad G c), .int p1, .int p2, .int p3])).length) Slot.unset).toArray = ls at hl ⊢
  have hl : lv_has ls 5 [(0, .ref (gad G c)), (1, .int p1), (2, .int p2), (3, .int p3)] := hl
  have hiX0 : ∀ w ∈ u_ws RX0 TX0 12, w ∈ wsX0_addSong := by decide +kernel
  unfold f0_addSong at h
  refine lv_aload_n hx hb dX0_addSong_0 rfl (lv_at hl 0 rfl) ?_
  refine va_get (D := G.1) (ci := 0) (v := .int (S0.1 (6 * c + 2))) (C := RX0) (T := TX0) (N := 12) hx hb hts hiX0 hown hK.1 hW.1 c (lkC (c := c) (by omega)) rfl 8 (by decide) (hts _ (List.mem_of_getElem? (i := 1) rfl)) (fun _ h9 => h9) rfl dX0_addSong_1 ?_
  obtain ⟨x_1, ex_1, h⟩ := nam_e h
  refine lv_ni ex_1 ?_
  refine lv_istore (lv' := [(4, .int x_1), (0, .ref (gad G c)), (1, .int p1), (2, .int p2), (3, .int p3)]) hx hb dX0_addSong_4 hl (by decide) rfl (fun ls hl => ?_)
  refine lv_aload_n hx hb dX0_addSong_6 rfl (lv_at hl 1 rfl) ?_
  refine va_get (D := G.1) (ci := 0) (v := .ref (gad G (14 + (10 * c + 9)))) (C := RX0) (T := TX0) (N := 12) hx hb hts hiX0 hown hK.1 hW.1 c (lkC (c := c) (by omega)) rfl 6 (by decide) (hts _ (List.mem_of_getElem? (i := 2) rfl)) (fun _ h9 => h9) rfl dX0_addSong_7 ?_
  refine lv_iload hx hb dX0_addSong_10 (lv_at hl 0 rfl) ?_
  refine lv_iload_n hx hb dX0_addSong_12 rfl (lv_at hl 4 rfl) ?_
  obtain ⟨S_2, e_3, h⟩ := bnd_e h
  refine kV_V (As := [.int x_1, .int p3]) (rest := []) ⟨hx, hb, hml, hown, hts⟩ (tX4_put l G S0 M0 ((10 * c + 9)) (by omega) x_1 p3 S_2 e_3) (cwV 2 hts gX0_addSong_X4_put rfl rfl rfl ⟨rfl, hdX4_put⟩ ⟨Nat.le_of_ble_eq_true rfl, Nat.le_of_ble_eq_true rfl⟩) (va_recv hK.1 hW.1 (ci := 4) (q0 := (14 + (10 * c + 9))) rfl (lkR (r := (10 * c + 9)) (by omega))) hK hW hS hA rfl hl.1 rfl (Nat.le_of_ble_eq_true rfl) dX0_addSong_13 ⟨Nat.zero_le _, Nat.zero_le _⟩ (fun H locs hW hS => ?_)
  refine lv_aload_n hx hb dX0_addSong_16 rfl (lv_at hl 1 rfl) ?_
  refine lv_iload hx hb dX0_addSong_17 (lv_at hl 0 rfl) ?_
  refine lv_iload_n hx hb dX0_addSong_19 rfl (lv_at hl 2 rfl) ?_
  refine lv_iload_n hx hb dX0_addSong_20 rfl (lv_at hl 3 rfl) ?_
  obtain ⟨S_4, e_5, h⟩ := bnd_e h
  refine kV_V (As := [.int x_1, .int p1, .int p2]) (rest := []) ⟨hx, hb, hml, hown, hts⟩ (tX0_putSong l G S_2 M0 c (by omega) x_1 p1 p2 S_4 e_5) (cwV 3 hts gX0_addSong_X0_putSong rfl rfl rfl ⟨rfl, hdX0_putSong⟩ ⟨Nat.le_of_ble_eq_true rfl, Nat.le_of_ble_eq_true rfl⟩) (va_recv hK.1 hW.1 (ci := 0) (q0 := c) rfl (lkC (c := c) (by omega))) hK hW hS hA rfl hl.1 rfl (Nat.le_of_ble_eq_true rfl) dX0_addSong_21 ⟨Nat.zero_le _, Nat.zero_le _⟩ (fun H locs hW hS => ?_)
  refine lv_aload_n hx hb dX0_addSong_24 rfl (lv_at hl 1 rfl) ?_
  refine lv_iload hx hb dX0_addSong_25 (lv_at hl 0 rfl) ?_
  refine lv_iconst (v := 1) hx hb dX0_addSong_27 (by decide) ?_
  refine lv_iadd hx hb dX0_addSong_28 ?_
  obtain ⟨S_6, eS_6, h⟩ := nam_e h
  refine va_put (D := G.1) (ci := 0) (v := .int ((x_1 + 1))) (ty := .int) (C := RX0) (T := TX0) (N := 12) hx hb hts hiX0 tyX0 tyX0_ok nmX0 hown hK.1 hW.1 (hW.D hA) hS c (lkC (c := c) (by omega)) rfl 8 (by decide) (hts _ (List.mem_of_getElem? (i := 1) rfl)) (fun _ h9 => h9) rfl (by decide +kernel) rfl rfl (Nat.le_of_ble_eq_true rfl) dX0_addSong_29 (fun H locs hP hD hS => ?_)
  have hW := upC2 (c := c) (by omega) hW hP
  rw [← eS_6] at hW
  refine lv_iload hx hb dX0_addSong_32 (lv_at hl 0 rfl) ?_
  obtain ⟨rfl, rfl⟩ := Prod.mk.inj (Option.some.inj h)
  exact W.iret hx hb hr (fun t ht hw => ⟨⟨_, (), rfl, rfl, hW.ret ht⟩, hS.F ht⟩) hS.2.2 dX0_addSong_34
abbrev rX5_isMarked : Room := { frames := 1, cells := 0, slots := 0, locals := 20 }
set_option maxRecDepth 100000 in
set_option maxHeartbeats 8000000 in
theorem tX5_isMarked (l : Launch) (G : WG) (S0 M0 : St) (p0 : Int32) (p1 : Int32) (rr : Int32) (h : f5_isMarked p0 p1 = some (rr)) : CtI l yX5_isMarked wsX5_isMarked rX5_isMarked G [.int p0, .int p1] S0 M0 rr S0 M0 := by
  refine Met.ofW (cc := cX5_isMarked) (maxL := 2) (ret := (some .boolean)) (by decide) rfl ?_
  intro p e s m args below meth cd s₁ B hml hv
  obtain ⟨hargs, hK, hW⟩ := hv
  have hx := B.exec
  have hb := B.bytes
  have hr := B.returns
  have hts := atoms_spec (ws := wsX5_isMarked) B.pre
  have hown : s.vm.findClass RX5 = some m.cls := findClass_of_methodNamed B.named
  have hlocks := B.notSynchronized
  have hA : ∀ q, Aw G q → Aw G q := fun _ h => h
  have hS : va_S (Aw G) s.heap s.heap [] := va_S.rf
  have he0 : entryFrame m args 2 = F0 m 0 ((lg_sl ([.int p0, .int p1]) ++ List.replicate (2 - (lg_sl ([.int p0, .int p1])).length) Slot.unset).toArray) [] := by rw [hargs]; exact lg_entry_eq _ _ _
  have hl := lv_entry ([.int p0, .int p1]) (n := 2) (Nat.le_of_ble_eq_true rfl)
  rw [he0]
  generalize (lg_sl ([.int p0, .int p1]) ++ List.replicate (2 - (lg_sl ([.int p0, .int p1])).length) Slot.unset).toArray = ls at hl ⊢
  have hl : lv_has ls 2 [(0, .int p0), (1, .int p1)] := hl
  have B14 : ∀ (H : Heap) (locs : List Loc) (_ : WD G S0 M0 H) (_ : va_S (Aw G) s.heap H locs) (ls : Array Slot) (k0 : Int32) (_ : lv_has ls 2 []) (h : f5_isMarked_b14  k0 = some (rr)), WI p l e (headSpec wsX5_isMarked rX5_isMarked).room s m args below meth cd G rr S0 M0 H locs (F0 m 14 ls [.int k0]) := by
    intro H locs hW hS ls k0 hl h
    unfold f5_isMarked_b14 at h
    obtain ⟨z_1, h⟩ := isz_e h
    obtain rfl := Option.some.inj h
    exact W.zret (ty := .boolean) hx hb hr (nz_1 z_1) (fun t ht hw => ⟨⟨_, (), rfl, rfl, hW.ret ht⟩, hS.F ht⟩) hS.2.2 dX5_isMarked_14
  unfold f5_isMarked at h
  refine lv_iload_n hx hb dX5_isMarked_0 rfl (lv_at hl 0 rfl) ?_
  refine lv_iload_n hx hb dX5_isMarked_1 rfl (lv_at hl 1 rfl) ?_
  obtain ⟨r_1, e_2, h⟩ := bnd_e h
  refine kS_I (As := [.int p1]) (rest := [.int p0]) ⟨hx, hb, hml, hown, hts⟩ (tX5_markOf l G S0 M0 p1 r_1 e_2) (va_cwS 1 hts gX5_isMarked_X5_markOf rfl rfl rfl hdX5_markOf ⟨Nat.le_of_ble_eq_true rfl, Nat.le_of_ble_eq_true rfl⟩) hK hW hS hA rfl hl.1 rfl (Nat.le_of_ble_eq_true rfl) dX5_isMarked_2 ⟨Nat.zero_le _, Nat.zero_le _⟩ (fun H locs hW hS => ?_)
  refine lv_iand hx hb dX5_isMarked_5 ?_
  refine lv_if_eq (tgt := 13) hx hb dX5_isMarked_6 (by decide) (fun c_3 => ?_) (fun c_3 => ?_)
  · have h := ite_t c_3 h
    refine lv_iconst (v := 0) hx hb dX5_isMarked_13 (by decide) ?_
    exact B14 _ _ hW hS ls 0 (lv_sub hl [] rfl) h
  · have h := ite_f c_3 h
    refine lv_iconst (v := 1) hx hb dX5_isMarked_9 (by decide) ?_
    refine lv_goto (tgt := 14) hx hb dX5_isMarked_10 (by decide) ?_
    exact B14 _ _ hW hS ls 1 (lv_sub hl [] rfl) h
abbrev rX3_giveTo : Room := { frames := 1, cells := 0, slots := 0, locals := 22 }
set_option maxRecDepth 100000 in
set_option maxHeartbeats 8000000 in
theorem tX3_giveTo (l : Launch) (G : WG) (S0 M0 : St) (c : Nat) (hc : c < 7) (p1 : Int32) (p2 : Int32) (S' : St) (h : f3_giveTo S0 c p1 p2 = some (S')) : CtV l yX3_giveTo wsX3_giveTo rX3_giveTo G [.ref (gad G (7 + c)), .int p1, .int p2] S0 M0 S' M0 := by
  refine Met.ofW (cc := cX3_giveTo) (maxL := 3) (ret := none) (by decide) rfl ?_
  intro p e s m args below meth cd s₁ B hml hv
  obtain ⟨hargs, hK, hW⟩ := hv
  have hx := B.exec
  have hb := B.bytes
  have hr := B.returns
  have hts := atoms_spec (ws := wsX3_giveTo) B.pre
  have hown : s.vm.findClass RX3 = some m.cls := findClass_of_methodNamed B.named
  have hlocks := B.notSynchronized
  have hA : ∀ q, Aw G q → Aw G q := fun _ h => h
  have hS : va_S (Aw G) s.heap s.heap [] := va_S.rf
  have he0 : entryFrame m args 3 = F0 m 0 ((lg_sl ([.ref (gad G (7 + c)), .int p1, .int p2]) ++ List.replicate (3 - (lg_sl ([.ref (gad G (7 + c)), .int p1, .int p2])).length) Slot.unset).toArray) [] := by rw [hargs]; exact lg_entry_eq _ _ _
  have hl := lv_entry ([.ref (gad G (7 + c)), .int p1, .int p2]) (n := 3) (Nat.le_of_ble_eq_true rfl)
  rw [he0]
  generalize (lg_sl ([.ref (gad G (7 + c)), .int p1, .int p2]) ++ List.replicate (3 - (lg_sl ([.ref (gad G (7 + c)), .int p1, .int p2])).length) Slot.unset).toArray = ls at hl ⊢
  have hl : lv_has ls 3 [(0, .ref (gad G (7 + c))), (1, .int p1), (2, .int p2)] := hl
  have hiX3 : ∀ w ∈ u_ws RX3 TX3 5, w ∈ wsX3_giveTo := by decide +kernel
  unfold f3_giveTo at h
  refine lv_aload_n hx hb dX3_giveTo_0 rfl (lv_at hl 0 rfl) ?_
  refine va_get (D := G.1) (ci := 3) (v := .ref (gad G (14 + (10 * c + 3)))) (C := RX3) (T := TX3) (N := 5) hx hb hts hiX3 hown hK.1 hW.1 (7 + c) (lkP (c := c) (by omega)) rfl 3 (by decide) (hts _ (List.mem_of_getElem? (i := 1) rfl)) (fun _ h9 => h9) rfl dX3_giveTo_1 ?_
  refine lv_iload_n hx hb dX3_giveTo_4 rfl (lv_at hl 1 rfl) ?_
  refine lv_iload_n hx hb dX3_giveTo_5 rfl (lv_at hl 2 rfl) ?_
  obtain ⟨S_1, e_2, h⟩ := bnd_e h
  refine kV_V (As := [.int p1, .int p2]) (rest := []) ⟨hx, hb, hml, hown, hts⟩ (tX4_put l G S0 M0 ((10 * c + 3)) (by omega) p1 p2 S_1 e_2) (cwV 2 hts gX3_giveTo_X4_put rfl rfl rfl ⟨rfl, hdX4_put⟩ ⟨Nat.le_of_ble_eq_true rfl, Nat.le_of_ble_eq_true rfl⟩) (va_recv hK.1 hW.1 (ci := 4) (q0 := (14 + (10 * c + 3))) rfl (lkR (r := (10 * c + 3)) (by omega))) hK hW hS hA rfl hl.1 rfl (Nat.le_of_ble_eq_true rfl) dX3_giveTo_6 ⟨Nat.zero_le _, Nat.zero_le _⟩ (fun H locs hW hS => ?_)
  obtain rfl := Option.some.inj h
  exact W.vret hx hb hr (fun t ht hw => ⟨⟨(), rfl, trivial, hW.ret ht⟩, hS.F ht⟩) hS.2.2 dX3_giveTo_9
abbrev rX3_otherHalf : Room := { frames := 3, cells := 0, slots := 0, locals := 70 }
set_option maxRecDepth 100000 in
set_option maxHeartbeats 8000000 in
theorem tX3_otherHalf (l : Launch) (G : WG) (S0 M0 : St) (c : Nat) (hc : c < 7) (p1 : Int32) (rr : Int32) (h : f3_otherHalf S0 c p1 = some (rr)) : CtI l yX3_otherHalf wsX3_otherHalf rX3_otherHalf G [.ref (gad G (7 + c)), .int p1] S0 M0 rr S0 M0 := by
  refine Met.ofW (cc := cX3_otherHalf) (maxL := 4) (ret := (some .int)) (by decide) rfl ?_
  intro p e s m args below meth cd s₁ B hml hv
  obtain ⟨hargs, hK, hW⟩ := hv
  have hx := B.exec
  have hb := B.bytes
  have hr := B.returns
  have hts := atoms_spec (ws := wsX3_otherHalf) B.pre
  have hown : s.vm.findClass RX3 = some m.cls := findClass_of_methodNamed B.named
  have hlocks := B.notSynchronized
  have hA : ∀ q, Aw G q → Aw G q := fun _ h => h
  have hS : va_S (Aw G) s.heap s.heap [] := va_S.rf
  have he0 : entryFrame m args 4 = F0 m 0 ((lg_sl ([.ref (gad G (7 + c)), .int p1]) ++ List.replicate (4 - (lg_sl ([.ref (gad G (7 + c)), .int p1])).length) Slot.unset).toArray) [] := by rw [hargs]; exact lg_entry_eq _ _ _
  have hl := lv_entry ([.ref (gad G (7 + c)), .int p1]) (n := 4) (Nat.le_of_ble_eq_true rfl)
  rw [he0]
  generalize (lg_sl ([.ref (gad G (7 + c)), .int p1]) ++ List.replicate (4 - (lg_sl ([.ref (gad G (7 + c)), .int p1])).length) Slot.unset).toArray = ls at hl ⊢
  have hl : lv_has ls 4 [(0, .ref (gad G (7 + c))), (1, .int p1)] := hl
  have hiX3 : ∀ w ∈ u_ws RX3 TX3 5, w ∈ wsX3_otherHalf := by decide +kernel
  have B61 : ∀ (H : Heap) (locs : List Loc) (_ : WD G S0 M0 H) (_ : va_S (Aw G) s.heap H locs) (ls : Array Slot) (k0 : Int32) (_ : lv_has ls 4 []) (h : f3_otherHalf_b61 S0 c k0 = some (rr)), WI p l e (headSpec wsX3_otherHalf rX3_otherHalf).room s m args below meth cd G rr S0 M0 H locs (F0 m 61 ls [.int k0]) := by
    intro H locs hW hS ls k0 hl h
    unfold f3_otherHalf_b61 at h
    obtain rfl := Option.some.inj h
    exact W.iret hx hb hr (fun t ht hw => ⟨⟨_, (), rfl, rfl, hW.ret ht⟩, hS.F ht⟩) hS.2.2 dX3_otherHalf_61
  unfold f3_otherHalf at h
  refine lv_aload_n hx hb dX3_otherHalf_0 rfl (lv_at hl 0 rfl) ?_
  refine va_get (D := G.1) (ci := 3) (v := .ref (gad G (14 + (10 * c + 2)))) (C := RX3) (T := TX3) (N := 5) hx hb hts hiX3 hown hK.1 hW.1 (7 + c) (lkP (c := c) (by omega)) rfl 2 (by decide) (hts _ (List.mem_of_getElem? (i := 1) rfl)) (fun _ h9 => h9) rfl dX3_otherHalf_1 ?_
  refine lv_iload_n hx hb dX3_otherHalf_4 rfl (lv_at hl 1 rfl) ?_
  obtain ⟨r_1, e_2, h⟩ := bnd_e h
  refine kV_I (As := [.int p1]) (rest := []) ⟨hx, hb, hml, hown, hts⟩ (tX4_at l G S0 M0 ((10 * c + 2)) (by omega) p1 r_1 e_2) (cwV 1 hts gX3_otherHalf_X4_at rfl rfl rfl ⟨rfl, hdX4_at⟩ ⟨Nat.le_of_ble_eq_true rfl, Nat.le_of_ble_eq_true rfl⟩) (va_recv hK.1 hW.1 (ci := 4) (q0 := (14 + (10 * c + 2))) rfl (lkR (r := (10 * c + 2)) (by omega))) hK hW hS hA rfl hl.1 rfl (Nat.le_of_ble_eq_true rfl) dX3_otherHalf_5 ⟨Nat.zero_le _, Nat.zero_le _⟩ (fun H locs hW hS => ?_)
  refine lv_istore_n (lv' := [(2, .int r_1), (0, .ref (gad G (7 + c))), (1, .int p1)]) hx hb dX3_otherHalf_8 rfl hl (by decide) rfl (fun ls hl => ?_)
  refine lv_iload_n hx hb dX3_otherHalf_9 rfl (lv_at hl 0 rfl) ?_
  refine lv_if_ne (tgt := 15) hx hb dX3_otherHalf_10 (by decide) (fun c_3 => ?_) (fun c_3 => ?_)
  · have h := ite_f c_3 h
    refine lv_aload_n hx hb dX3_otherHalf_15 rfl (lv_at hl 1 rfl) ?_
    refine lv_aload_n hx hb dX3_otherHalf_16 rfl (lv_at hl 1 rfl) ?_
    refine va_get (D := G.1) (ci := 3) (v := .ref (gad G (14 + (10 * c + 0)))) (C := RX3) (T := TX3) (N := 5) hx hb hts hiX3 hown hK.1 hW.1 (7 + c) (lkP (c := c) (by omega)) rfl 0 (by decide) (hts _ (List.mem_of_getElem? (i := 2) rfl)) (fun _ h9 => h9) rfl dX3_otherHalf_17 ?_
    refine lv_iload_n hx hb dX3_otherHalf_20 rfl (lv_at hl 2 rfl) ?_
    obtain ⟨r_4, e_5, h⟩ := bnd_e h
    refine kV_I (As := [.int p1]) (rest := [.ref (gad G (7 + c))]) ⟨hx, hb, hml, hown, hts⟩ (tX4_at l G S0 M0 ((10 * c + 0)) (by omega) p1 r_4 e_5) (cwV 1 hts gX3_otherHalf_X4_at rfl rfl rfl ⟨rfl, hdX4_at⟩ ⟨Nat.le_of_ble_eq_true rfl, Nat.le_of_ble_eq_true rfl⟩) (va_recv hK.1 hW.1 (ci := 4) (q0 := (14 + (10 * c + 0))) rfl (lkR (r := (10 * c + 0)) (by omega))) hK hW hS hA rfl hl.1 rfl (Nat.le_of_ble_eq_true rfl) dX3_otherHalf_21 ⟨Nat.zero_le _, Nat.zero_le _⟩ (fun H locs hW hS => ?_)
    refine lv_iload_n hx hb dX3_otherHalf_24 rfl (lv_at hl 0 rfl) ?_
    obtain ⟨r_6, e_7, h⟩ := bnd_e h
    refine kSN_I (As := [.int r_4, .int r_1]) (rest := [.ref (gad G (7 + c))]) ⟨hx, hb, hml, hown, hts⟩ (tX5_otherHalfX0 l G S0 M0 r_4 r_1 r_6 e_7) ⟨va_cnB 2 hts gX3_otherHalf_X5_otherHalfX0_n59 rfl rfl rfl (hK.2 _ (List.mem_of_getElem? (i := 19) rfl)) (hts _ (List.mem_of_getElem? (i := 11) rfl)) hdX5_otherHalfX0 ⟨Nat.le_of_ble_eq_true rfl, Nat.le_of_ble_eq_true rfl⟩, (hts _ (List.mem_of_getElem? (i := 10) rfl)), trivial⟩ hK hW hS hA rfl hl.1 rfl (Nat.le_of_ble_eq_true rfl) dX3_otherHalf_25 ⟨Nat.zero_le _, Nat.zero_le _⟩ (fun H locs hW hS => ?_)
    refine lv_aload_n hx hb dX3_otherHalf_28 rfl (lv_at hl 1 rfl) ?_
    refine va_get (D := G.1) (ci := 3) (v := .ref (gad G (14 + (10 * c + 1)))) (C := RX3) (T := TX3) (N := 5) hx hb hts hiX3 hown hK.1 hW.1 (7 + c) (lkP (c := c) (by omega)) rfl 1 (by decide) (hts _ (List.mem_of_getElem? (i := 3) rfl)) (fun _ h9 => h9) rfl dX3_otherHalf_29 ?_
    refine lv_iload_n hx hb dX3_otherHalf_32 rfl (lv_at hl 2 rfl) ?_
    obtain ⟨r_8, e_9, h⟩ := bnd_e h
    refine kV_I (As := [.int p1]) (rest := [.int r_6, .ref (gad G (7 + c))]) ⟨hx, hb, hml, hown, hts⟩ (tX4_at l G S0 M0 ((10 * c + 1)) (by omega) p1 r_8 e_9) (cwV 1 hts gX3_otherHalf_X4_at rfl rfl rfl ⟨rfl, hdX4_at⟩ ⟨Nat.le_of_ble_eq_true rfl, Nat.le_of_ble_eq_true rfl⟩) (va_recv hK.1 hW.1 (ci := 4) (q0 := (14 + (10 * c + 1))) rfl (lkR (r := (10 * c + 1)) (by omega))) hK hW hS hA rfl hl.1 rfl (Nat.le_of_ble_eq_true rfl) dX3_otherHalf_33 ⟨Nat.zero_le _, Nat.zero_le _⟩ (fun H locs hW hS => ?_)
    refine lv_iload_n hx hb dX3_otherHalf_36 rfl (lv_at hl 0 rfl) ?_
    obtain ⟨r_10, e_11, h⟩ := bnd_e h
    refine kSN_I (As := [.int r_8, .int r_1]) (rest := [.int r_6, .ref (gad G (7 + c))]) ⟨hx, hb, hml, hown, hts⟩ (tX5_otherHalfY0 l G S0 M0 r_8 r_1 r_10 e_11) ⟨va_cnB 2 hts gX3_otherHalf_X5_otherHalfY0_n62 rfl rfl rfl (hK.2 _ (List.mem_of_getElem? (i := 21) rfl)) (hts _ (List.mem_of_getElem? (i := 11) rfl)) hdX5_otherHalfY0 ⟨Nat.le_of_ble_eq_true rfl, Nat.le_of_ble_eq_true rfl⟩, (hts _ (List.mem_of_getElem? (i := 16) rfl)), trivial⟩ hK hW hS hA rfl hl.1 rfl (Nat.le_of_ble_eq_true rfl) dX3_otherHalf_37 ⟨Nat.zero_le _, Nat.zero_le _⟩ (fun H locs hW hS => ?_)
    obtain ⟨r_12, e_13, h⟩ := bnd_e h
    refine kV_I (As := [.int r_6, .int r_10]) (rest := []) ⟨hx, hb, hml, hown, hts⟩ (tX3_find l G S0 M0 c (by omega) r_6 r_10 r_12 e_13) (cwV 2 hts gX3_otherHalf_X3_find rfl rfl rfl ⟨rfl, hdX3_find⟩ ⟨Nat.le_of_ble_eq_true rfl, Nat.le_of_ble_eq_true rfl⟩) (va_recv hK.1 hW.1 (ci := 3) (q0 := (7 + c)) rfl (lkP (c := c) (by omega))) hK hW hS hA rfl hl.1 rfl (Nat.le_of_ble_eq_true rfl) dX3_otherHalf_40 ⟨Nat.zero_le _, Nat.zero_le _⟩ (fun H locs hW hS => ?_)
    refine lv_istore_n (lv' := [(3, .int r_12), (2, .int r_1), (0, .ref (gad G (7 + c))), (1, .int p1)]) hx hb dX3_otherHalf_43 rfl hl (by decide) rfl (fun ls hl => ?_)
    refine lv_aload_n hx hb dX3_otherHalf_44 rfl (lv_at hl 2 rfl) ?_
    refine va_get (D := G.1) (ci := 3) (v := .ref (gad G (14 + (10 * c + 2)))) (C := RX3) (T := TX3) (N := 5) hx hb hts hiX3 hown hK.1 hW.1 (7 + c) (lkP (c := c) (by omega)) rfl 2 (by decide) (hts _ (List.mem_of_getElem? (i := 1) rfl)) (fun _ h9 => h9) rfl dX3_otherHalf_45 ?_
    refine lv_iload_n hx hb dX3_otherHalf_48 rfl (lv_at hl 0 rfl) ?_
    obtain ⟨r_14, e_15, h⟩ := bnd_e h
    refine kV_I (As := [.int r_12]) (rest := []) ⟨hx, hb, hml, hown, hts⟩ (tX4_at l G S0 M0 ((10 * c + 2)) (by omega) r_12 r_14 e_15) (cwV 1 hts gX3_otherHalf_X4_at rfl rfl rfl ⟨rfl, hdX4_at⟩ ⟨Nat.le_of_ble_eq_true rfl, Nat.le_of_ble_eq_true rfl⟩) (va_recv hK.1 hW.1 (ci := 4) (q0 := (14 + (10 * c + 2))) rfl (lkR (r := (10 * c + 2)) (by omega))) hK hW hS hA rfl hl.1 rfl (Nat.le_of_ble_eq_true rfl) dX3_otherHalf_49 ⟨Nat.zero_le _, Nat.zero_le _⟩ (fun H locs hW hS => ?_)
    refine lv_iload_n hx hb dX3_otherHalf_52 rfl (lv_at hl 1 rfl) ?_
    refine lv_icmp_ne (tgt := 60) hx hb dX3_otherHalf_53 (by decide) (fun c_16 => ?_) (fun c_16 => ?_)
    · have h := ite_f c_16 h
      refine lv_iconst (v := (-1)) hx hb dX3_otherHalf_60 (by decide) ?_
      exact B61 _ _ hW hS ls ((-1)) (lv_sub hl [] rfl) h
    · have h := ite_t c_16 h
      refine lv_iload_n hx hb dX3_otherHalf_56 rfl (lv_at hl 0 rfl) ?_
      refine lv_goto (tgt := 61) hx hb dX3_otherHalf_57 (by decide) ?_
      exact B61 _ _ hW hS ls r_12 (lv_sub hl [] rfl) h
  · have h := ite_t c_3 h
    refine lv_iconst (v := (-1)) hx hb dX3_otherHalf_13 (by decide) ?_
    obtain rfl := Option.some.inj h
    exact W.iret hx hb hr (fun t ht hw => ⟨⟨_, (), rfl, rfl, hW.ret ht⟩, hS.F ht⟩) hS.2.2 dX3_otherHalf_14
abbrev rX3_remove : Room := { frames := 1, cells := 0, slots := 0, locals := 22 }
set_option maxRecDepth 100000 in
set_option maxHeartbeats 8000000 in
theorem tX3_remove (l : Launch) (G : WG) (S0 M0 : St) (c : Nat) (hc : c < 7) (p1 : Int32) (S' : St) (h : f3_remove S0 c p1 = some (S')) : CtV l yX3_remove wsX3_remove rX3_remove G [.ref (gad G (7 + c)), .int p1] S0 M0 S' M0 := by
  refine Met.ofW (cc := cX3_remove) (maxL := 3) (ret := none) (by decide) rfl ?_
  intro p e s m args below meth cd s₁ B hml hv
  obtain ⟨hargs, hK, hW⟩ := hv
  have hx := B.exec
  have hb := B.bytes
  have hr := B.returns
  have hts := atoms_spec (ws := wsX3_remove) B.pre
  have hown : s.vm.findClass RX3 = some m.cls := findClass_of_methodNamed B.named
  have hlocks := B.notSynchronized
  have hA : ∀ q, Aw G q → Aw G q := fun _ h => h
  have hS : va_S (Aw G) s.heap s.heap [] := va_S.rf
  have he0 : entryFrame m args 3 = F0 m 0 ((lg_sl ([.ref (gad G (7 + c)), .int p1]) ++ List.replicate (3 - (lg_sl ([.ref (gad G (7 + c)), .int p1])).length) Slot.unset).toArray) [] := by rw [hargs]; exact lg_entry_eq _ _ _
  have hl := lv_entry ([.ref (gad G (7 + c)), .int p1]) (n := 3) (Nat.le_of_ble_eq_true rfl)
  rw [he0]
  generalize (lg_sl ([.ref (gad G (7 + c)), .int p1]) ++ List.replicate (3 - (lg_sl ([.ref (gad G (7 + c)), .int p1])).length) Slot.unset).toArray = ls at hl ⊢
  have hl : lv_has ls 3 [(0, .ref (gad G (7 + c))), (1, .int p1)] := hl
  have hiX3 : ∀ w ∈ u_ws RX3 TX3 5, w ∈ wsX3_remove := by decide +kernel
  unfold f3_remove at h
  refine lv_aload_n hx hb dX3_remove_0 rfl (lv_at hl 0 rfl) ?_
  refine va_get (D := G.1) (ci := 3) (v := .int (S0.1 (6 * c + 0))) (C := RX3) (T := TX3) (N := 5) hx hb hts hiX3 hown hK.1 hW.1 (7 + c) (lkP (c := c) (by omega)) rfl 4 (by decide) (hts _ (List.mem_of_getElem? (i := 1) rfl)) (fun _ h9 => h9) rfl dX3_remove_1 ?_
  refine lv_iconst (v := 1) hx hb dX3_remove_4 (by decide) ?_
  refine lv_isub hx hb dX3_remove_5 ?_
  obtain ⟨x_1, ex_1, h⟩ := nam_e h
  refine lv_ni ex_1 ?_
  refine lv_istore_n (lv' := [(2, .int x_1), (0, .ref (gad G (7 + c))), (1, .int p1)]) hx hb dX3_remove_6 rfl hl (by decide) rfl (fun ls hl => ?_)
  refine lv_aload_n hx hb dX3_remove_7 rfl (lv_at hl 1 rfl) ?_
  refine va_get (D := G.1) (ci := 3) (v := .ref (gad G (14 + (10 * c + 0)))) (C := RX3) (T := TX3) (N := 5) hx hb hts hiX3 hown hK.1 hW.1 (7 + c) (lkP (c := c) (by omega)) rfl 0 (by decide) (hts _ (List.mem_of_getElem? (i := 2) rfl)) (fun _ h9 => h9) rfl dX3_remove_8 ?_
  refine lv_iload_n hx hb dX3_remove_11 rfl (lv_at hl 2 rfl) ?_
  refine lv_aload_n hx hb dX3_remove_12 rfl (lv_at hl 1 rfl) ?_
  refine va_get (D := G.1) (ci := 3) (v := .ref (gad G (14 + (10 * c + 0)))) (C := RX3) (T := TX3) (N := 5) hx hb hts hiX3 hown hK.1 hW.1 (7 + c) (lkP (c := c) (by omega)) rfl 0 (by decide) (hts _ (List.mem_of_getElem? (i := 2) rfl)) (fun _ h9 => h9) rfl dX3_remove_13 ?_
  refine lv_iload_n hx hb dX3_remove_16 rfl (lv_at hl 0 rfl) ?_
  obtain ⟨r_2, e_3, h⟩ := bnd_e h
  refine kV_I (As := [.int x_1]) (rest := [.int p1, .ref (gad G (14 + (10 * c + 0)))]) ⟨hx, hb, hml, hown, hts⟩ (tX4_at l G S0 M0 ((10 * c + 0)) (by omega) x_1 r_2 e_3) (cwV 1 hts gX3_remove_X4_at rfl rfl rfl ⟨rfl, hdX4_at⟩ ⟨Nat.le_of_ble_eq_true rfl, Nat.le_of_ble_eq_true rfl⟩) (va_recv hK.1 hW.1 (ci := 4) (q0 := (14 + (10 * c + 0))) rfl (lkR (r := (10 * c + 0)) (by omega))) hK hW hS hA rfl hl.1 rfl (Nat.le_of_ble_eq_true rfl) dX3_remove_17 ⟨Nat.zero_le _, Nat.zero_le _⟩ (fun H locs hW hS => ?_)
  obtain ⟨S_4, e_5, h⟩ := bnd_e h
  refine kV_V (As := [.int p1, .int r_2]) (rest := []) ⟨hx, hb, hml, hown, hts⟩ (tX4_put l G S0 M0 ((10 * c + 0)) (by omega) p1 r_2 S_4 e_5) (cwV 2 hts gX3_remove_X4_put rfl rfl rfl ⟨rfl, hdX4_put⟩ ⟨Nat.le_of_ble_eq_true rfl, Nat.le_of_ble_eq_true rfl⟩) (va_recv hK.1 hW.1 (ci := 4) (q0 := (14 + (10 * c + 0))) rfl (lkR (r := (10 * c + 0)) (by omega))) hK hW hS hA rfl hl.1 rfl (Nat.le_of_ble_eq_true rfl) dX3_remove_20 ⟨Nat.zero_le _, Nat.zero_le _⟩ (fun H locs hW hS => ?_)
  refine lv_aload_n hx hb dX3_remove_23 rfl (lv_at hl 1 rfl) ?_
  refine va_get (D := G.1) (ci := 3) (v := .ref (gad G (14 + (10 * c + 1)))) (C := RX3) (T := TX3) (N := 5) hx hb hts hiX3 hown hK.1 hW.1 (7 + c) (lkP (c := c) (by omega)) rfl 1 (by decide) (hts _ (List.mem_of_getElem? (i := 3) rfl)) (fun _ h9 => h9) rfl dX3_remove_24 ?_
  refine lv_iload_n hx hb dX3_remove_27 rfl (lv_at hl 2 rfl) ?_
  refine lv_aload_n hx hb dX3_remove_28 rfl (lv_at hl 1 rfl) ?_
  refine va_get (D := G.1) (ci := 3) (v := .ref (gad G (14 + (10 * c + 1)))) (C := RX3) (T := TX3) (N := 5) hx hb hts hiX3 hown hK.1 hW.1 (7 + c) (lkP (c := c) (by omega)) rfl 1 (by decide) (hts _ (List.mem_of_getElem? (i := 3) rfl)) (fun _ h9 => h9) rfl dX3_remove_29 ?_
  refine lv_iload_n hx hb dX3_remove_32 rfl (lv_at hl 0 rfl) ?_
  obtain ⟨r_6, e_7, h⟩ := bnd_e h
  refine kV_I (As := [.int x_1]) (rest := [.int p1, .ref (gad G (14 + (10 * c + 1)))]) ⟨hx, hb, hml, hown, hts⟩ (tX4_at l G S_4 M0 ((10 * c + 1)) (by omega) x_1 r_6 e_7) (cwV 1 hts gX3_remove_X4_at rfl rfl rfl ⟨rfl, hdX4_at⟩ ⟨Nat.le_of_ble_eq_true rfl, Nat.le_of_ble_eq_true rfl⟩) (va_recv hK.1 hW.1 (ci := 4) (q0 := (14 + (10 * c + 1))) rfl (lkR (r := (10 * c + 1)) (by omega))) hK hW hS hA rfl hl.1 rfl (Nat.le_of_ble_eq_true rfl) dX3_remove_33 ⟨Nat.zero_le _, Nat.zero_le _⟩ (fun H locs hW hS => ?_)
  obtain ⟨S_8, e_9, h⟩ := bnd_e h
  refine kV_V (As := [.int p1, .int r_6]) (rest := []) ⟨hx, hb, hml, hown, hts⟩ (tX4_put l G S_4 M0 ((10 * c + 1)) (by omega) p1 r_6 S_8 e_9) (cwV 2 hts gX3_remove_X4_put rfl rfl rfl ⟨rfl, hdX4_put⟩ ⟨Nat.le_of_ble_eq_true rfl, Nat.le_of_ble_eq_true rfl⟩) (va_recv hK.1 hW.1 (ci := 4) (q0 := (14 + (10 * c + 1))) rfl (lkR (r := (10 * c + 1)) (by omega))) hK hW hS hA rfl hl.1 rfl (Nat.le_of_ble_eq_true rfl) dX3_remove_36 ⟨Nat.zero_le _, Nat.zero_le _⟩ (fun H locs hW hS => ?_)
  refine lv_aload_n hx hb dX3_remove_39 rfl (lv_at hl 1 rfl) ?_
  refine va_get (D := G.1) (ci := 3) (v := .ref (gad G (14 + (10 * c + 2)))) (C := RX3) (T := TX3) (N := 5) hx hb hts hiX3 hown hK.1 hW.1 (7 + c) (lkP (c := c) (by omega)) rfl 2 (by decide) (hts _ (List.mem_of_getElem? (i := 4) rfl)) (fun _ h9 => h9) rfl dX3_remove_40 ?_
  refine lv_iload_n hx hb dX3_remove_43 rfl (lv_at hl 2 rfl) ?_
  refine lv_aload_n hx hb dX3_remove_44 rfl (lv_at hl 1 rfl) ?_
  refine va_get (D := G.1) (ci := 3) (v := .ref (gad G (14 + (10 * c + 2)))) (C := RX3) (T := TX3) (N := 5) hx hb hts hiX3 hown hK.1 hW.1 (7 + c) (lkP (c := c) (by omega)) rfl 2 (by decide) (hts _ (List.mem_of_getElem? (i := 4) rfl)) (fun _ h9 => h9) rfl dX3_remove_45 ?_
  refine lv_iload_n hx hb dX3_remove_48 rfl (lv_at hl 0 rfl) ?_
  obtain ⟨r_10, e_11, h⟩ := bnd_e h
  refine kV_I (As := [.int x_1]) (rest := [.int p1, .ref (gad G (14 + (10 * c + 2)))]) ⟨hx, hb, hml, hown, hts⟩ (tX4_at l G S_8 M0 ((10 * c + 2)) (by omega) x_1 r_10 e_11) (cwV 1 hts gX3_remove_X4_at rfl rfl rfl ⟨rfl, hdX4_at⟩ ⟨Nat.le_of_ble_eq_true rfl, Nat.le_of_ble_eq_true rfl⟩) (va_recv hK.1 hW.1 (ci := 4) (q0 := (14 + (10 * c + 2))) rfl (lkR (r := (10 * c + 2)) (by omega))) hK hW hS hA rfl hl.1 rfl (Nat.le_of_ble_eq_true rfl) dX3_remove_49 ⟨Nat.zero_le _, Nat.zero_le _⟩ (fun H locs hW hS => ?_)
  obtain ⟨S_12, e_13, h⟩ := bnd_e h
  refine kV_V (As := [.int p1, .int r_10]) (rest := []) ⟨hx, hb, hml, hown, hts⟩ (tX4_put l G S_8 M0 ((10 * c + 2)) (by omega) p1 r_10 S_12 e_13) (cwV 2 hts gX3_remove_X4_put rfl rfl rfl ⟨rfl, hdX4_put⟩ ⟨Nat.le_of_ble_eq_true rfl, Nat.le_of_ble_eq_true rfl⟩) (va_recv hK.1 hW.1 (ci := 4) (q0 := (14 + (10 * c + 2))) rfl (lkR (r := (10 * c + 2)) (by omega))) hK hW hS hA rfl hl.1 rfl (Nat.le_of_ble_eq_true rfl) dX3_remove_52 ⟨Nat.zero_le _, Nat.zero_le _⟩ (fun H locs hW hS => ?_)
  refine lv_aload_n hx hb dX3_remove_55 rfl (lv_at hl 1 rfl) ?_
  refine va_get (D := G.1) (ci := 3) (v := .ref (gad G (14 + (10 * c + 3)))) (C := RX3) (T := TX3) (N := 5) hx hb hts hiX3 hown hK.1 hW.1 (7 + c) (lkP (c := c) (by omega)) rfl 3 (by decide) (hts _ (List.mem_of_getElem? (i := 5) rfl)) (fun _ h9 => h9) rfl dX3_remove_56 ?_
  refine lv_iload_n hx hb dX3_remove_59 rfl (lv_at hl 2 rfl) ?_
  refine lv_aload_n hx hb dX3_remove_60 rfl (lv_at hl 1 rfl) ?_
  refine va_get (D := G.1) (ci := 3) (v := .ref (gad G (14 + (10 * c + 3)))) (C := RX3) (T := TX3) (N := 5) hx hb hts hiX3 hown hK.1 hW.1 (7 + c) (lkP (c := c) (by omega)) rfl 3 (by decide) (hts _ (List.mem_of_getElem? (i := 5) rfl)) (fun _ h9 => h9) rfl dX3_remove_61 ?_
  refine lv_iload_n hx hb dX3_remove_64 rfl (lv_at hl 0 rfl) ?_
  obtain ⟨r_14, e_15, h⟩ := bnd_e h
  refine kV_I (As := [.int x_1]) (rest := [.int p1, .ref (gad G (14 + (10 * c + 3)))]) ⟨hx, hb, hml, hown, hts⟩ (tX4_at l G S_12 M0 ((10 * c + 3)) (by omega) x_1 r_14 e_15) (cwV 1 hts gX3_remove_X4_at rfl rfl rfl ⟨rfl, hdX4_at⟩ ⟨Nat.le_of_ble_eq_true rfl, Nat.le_of_ble_eq_true rfl⟩) (va_recv hK.1 hW.1 (ci := 4) (q0 := (14 + (10 * c + 3))) rfl (lkR (r := (10 * c + 3)) (by omega))) hK hW hS hA rfl hl.1 rfl (Nat.le_of_ble_eq_true rfl) dX3_remove_65 ⟨Nat.zero_le _, Nat.zero_le _⟩ (fun H locs hW hS => ?_)
  obtain ⟨S_16, e_17, h⟩ := bnd_e h
  refine kV_V (As := [.int p1, .int r_14]) (rest := []) ⟨hx, hb, hml, hown, hts⟩ (tX4_put l G S_12 M0 ((10 * c + 3)) (by omega) p1 r_14 S_16 e_17) (cwV 2 hts gX3_remove_X4_put rfl rfl rfl ⟨rfl, hdX4_put⟩ ⟨Nat.le_of_ble_eq_true rfl, Nat.le_of_ble_eq_true rfl⟩) (va_recv hK.1 hW.1 (ci := 4) (q0 := (14 + (10 * c + 3))) rfl (lkR (r := (10 * c + 3)) (by omega))) hK hW hS hA rfl hl.1 rfl (Nat.le_of_ble_eq_true rfl) dX3_remove_68 ⟨Nat.zero_le _, Nat.zero_le _⟩ (fun H locs hW hS => ?_)
  refine lv_aload_n hx hb dX3_remove_71 rfl (lv_at hl 1 rfl) ?_
  refine lv_iload_n hx hb dX3_remove_72 rfl (lv_at hl 0 rfl) ?_
  obtain ⟨S_18, eS_18, h⟩ := nam_e h
  refine va_put (D := G.1) (ci := 3) (v := .int x_1) (ty := .int) (C := RX3) (T := TX3) (N := 5) hx hb hts hiX3 tyX3 tyX3_ok nmX3 hown hK.1 hW.1 (hW.D hA) hS (7 + c) (lkP (c := c) (by omega)) rfl 4 (by decide) (hts _ (List.mem_of_getElem? (i := 1) rfl)) (fun _ h9 => h9) rfl (by decide +kernel) rfl rfl (Nat.le_of_ble_eq_true rfl) dX3_remove_73 (fun H locs hP hD hS => ?_)
  have hW := upP0 (c := c) (by omega) hW hP
  rw [← eS_18] at hW
  obtain rfl := Option.some.inj h
  exact W.vret hx hb hr (fun t ht hw => ⟨⟨(), rfl, trivial, hW.ret ht⟩, hS.F ht⟩) hS.2.2 dX3_remove_76
abbrev rX3_join : Room := { frames := 3, cells := 0, slots := 0, locals := 66 }
set_option maxRecDepth 100000 in
set_option maxHeartbeats 8000000 in
theorem tX3_join (l : Launch) (G : WG) (S0 M0 : St) (c : Nat) (hc : c < 7) (p1 : Int32) (p2 : Int32) (p3 : Int32) (S' : St) (h : f3_join S0 c p1 p2 p3 = some (S')) : CtV l yX3_join wsX3_join rX3_join G [.ref (gad G (7 + c)), .int p1, .int p2, .int p3] S0 M0 S' M0 := by
  refine Met.ofW (cc := cX3_join) (maxL := 4) (ret := none) (by decide) rfl ?_
  intro p e s m args below meth cd s₁ B hml hv
  obtain ⟨hargs, hK, hW⟩ := hv
  have hx := B.exec
  have hb := B.bytes
  have hr := B.returns
  have hts := atoms_spec (ws := wsX3_join) B.pre
  have hown : s.vm.findClass RX3 = some m.cls := findClass_of_methodNamed B.named
  have hlocks := B.notSynchronized
  have hA : ∀ q, Aw G q → Aw G q := fun _ h => h
  have hS : va_S (Aw G) s.heap s.heap [] := va_S.rf
  have he0 : entryFrame m args 4 = F0 m 0 ((lg_sl ([.ref (gad G (7 + c)), .int p1, .int p2, .int p3]) ++ List.replicate (4 - (lg_sl ([.ref (gad G (7 + c)), .int p1, .int p2, .int p3])).length) Slot.unset).toArray) [] := by rw [hargs]; exact lg_entry_eq _ _ _
  have hl := lv_entry ([.ref (gad G (7 + c)), .int p1, .int p2, .int p3]) (n := 4) (Nat.le_of_ble_eq_true rfl)
  rw [he0]
  generalize (lg_sl ([.ref (gad G (7 + c)), .int p1, .int p2, .int p3]) ++ List.replicate (4 - (lg_sl ([.ref (gad G (7 + c)), .int p1, .int p2, .int p3])).length) Slot.unset).toArray = ls at hl ⊢
  have hl : lv_has ls 4 [(0, .ref (gad G (7 + c))), (1, .int p1), (2, .int p2), (3, .int p3)] := hl
  have hiX3 : ∀ w ∈ u_ws RX3 TX3 5, w ∈ wsX3_join := by decide +kernel
  unfold f3_join at h
  refine lv_aload_n hx hb dX3_join_0 rfl (lv_at hl 0 rfl) ?_
  refine lv_iload_n hx hb dX3_join_1 rfl (lv_at hl 2 rfl) ?_
  refine lv_aload_n hx hb dX3_join_2 rfl (lv_at hl 0 rfl) ?_
  refine va_get (D := G.1) (ci := 3) (v := .ref (gad G (14 + (10 * c + 0)))) (C := RX3) (T := TX3) (N := 5) hx hb hts hiX3 hown hK.1 hW.1 (7 + c) (lkP (c := c) (by omega)) rfl 0 (by decide) (hts _ (List.mem_of_getElem? (i := 1) rfl)) (fun _ h9 => h9) rfl dX3_join_3 ?_
  refine lv_iload_n hx hb dX3_join_6 rfl (lv_at hl 2 rfl) ?_
  obtain ⟨r_1, e_2, h⟩ := bnd_e h
  refine kV_I (As := [.int p2]) (rest := [.int p2, .ref (gad G (7 + c))]) ⟨hx, hb, hml, hown, hts⟩ (tX4_at l G S0 M0 ((10 * c + 0)) (by omega) p2 r_1 e_2) (cwV 1 hts gX3_join_X4_at rfl rfl rfl ⟨rfl, hdX4_at⟩ ⟨Nat.le_of_ble_eq_true rfl, Nat.le_of_ble_eq_true rfl⟩) (va_recv hK.1 hW.1 (ci := 4) (q0 := (14 + (10 * c + 0))) rfl (lkR (r := (10 * c + 0)) (by omega))) hK hW hS hA rfl hl.1 rfl (Nat.le_of_ble_eq_true rfl) dX3_join_7 ⟨Nat.zero_le _, Nat.zero_le _⟩ (fun H locs hW hS => ?_)
  refine lv_aload_n hx hb dX3_join_10 rfl (lv_at hl 0 rfl) ?_
  refine va_get (D := G.1) (ci := 3) (v := .ref (gad G (14 + (10 * c + 1)))) (C := RX3) (T := TX3) (N := 5) hx hb hts hiX3 hown hK.1 hW.1 (7 + c) (lkP (c := c) (by omega)) rfl 1 (by decide) (hts _ (List.mem_of_getElem? (i := 2) rfl)) (fun _ h9 => h9) rfl dX3_join_11 ?_
  refine lv_iload_n hx hb dX3_join_14 rfl (lv_at hl 2 rfl) ?_
  obtain ⟨r_3, e_4, h⟩ := bnd_e h
  refine kV_I (As := [.int p2]) (rest := [.int r_1, .int p2, .ref (gad G (7 + c))]) ⟨hx, hb, hml, hown, hts⟩ (tX4_at l G S0 M0 ((10 * c + 1)) (by omega) p2 r_3 e_4) (cwV 1 hts gX3_join_X4_at rfl rfl rfl ⟨rfl, hdX4_at⟩ ⟨Nat.le_of_ble_eq_true rfl, Nat.le_of_ble_eq_true rfl⟩) (va_recv hK.1 hW.1 (ci := 4) (q0 := (14 + (10 * c + 1))) rfl (lkR (r := (10 * c + 1)) (by omega))) hK hW hS hA rfl hl.1 rfl (Nat.le_of_ble_eq_true rfl) dX3_join_15 ⟨Nat.zero_le _, Nat.zero_le _⟩ (fun H locs hW hS => ?_)
  refine lv_aload_n hx hb dX3_join_18 rfl (lv_at hl 0 rfl) ?_
  refine va_get (D := G.1) (ci := 3) (v := .ref (gad G (14 + (10 * c + 2)))) (C := RX3) (T := TX3) (N := 5) hx hb hts hiX3 hown hK.1 hW.1 (7 + c) (lkP (c := c) (by omega)) rfl 2 (by decide) (hts _ (List.mem_of_getElem? (i := 3) rfl)) (fun _ h9 => h9) rfl dX3_join_19 ?_
  refine lv_iload_n hx hb dX3_join_22 rfl (lv_at hl 2 rfl) ?_
  obtain ⟨r_5, e_6, h⟩ := bnd_e h
  refine kV_I (As := [.int p2]) (rest := [.int r_3, .int r_1, .int p2, .ref (gad G (7 + c))]) ⟨hx, hb, hml, hown, hts⟩ (tX4_at l G S0 M0 ((10 * c + 2)) (by omega) p2 r_5 e_6) (cwV 1 hts gX3_join_X4_at rfl rfl rfl ⟨rfl, hdX4_at⟩ ⟨Nat.le_of_ble_eq_true rfl, Nat.le_of_ble_eq_true rfl⟩) (va_recv hK.1 hW.1 (ci := 4) (q0 := (14 + (10 * c + 2))) rfl (lkR (r := (10 * c + 2)) (by omega))) hK hW hS hA rfl hl.1 rfl (Nat.le_of_ble_eq_true rfl) dX3_join_23 ⟨Nat.zero_le _, Nat.zero_le _⟩ (fun H locs hW hS => ?_)
  refine lv_iconst (v := 1) hx hb dX3_join_26 (by decide) ?_
  refine lv_isub hx hb dX3_join_27 ?_
  refine lv_iload_n hx hb dX3_join_28 rfl (lv_at hl 3 rfl) ?_
  obtain ⟨S_7, e_8, h⟩ := bnd_e h
  refine kV_V (As := [.int p2, .int r_1, .int r_3, .int ((r_5 - 1)), .int p3]) (rest := []) ⟨hx, hb, hml, hown, hts⟩ (tX3_put l G S0 M0 c (by omega) p2 r_1 r_3 ((r_5 - 1)) p3 S_7 e_8) (cwV 5 hts gX3_join_X3_put rfl rfl rfl ⟨rfl, hdX3_put⟩ ⟨Nat.le_of_ble_eq_true rfl, Nat.le_of_ble_eq_true rfl⟩) (va_recv hK.1 hW.1 (ci := 3) (q0 := (7 + c)) rfl (lkP (c := c) (by omega))) hK hW hS hA rfl hl.1 rfl (Nat.le_of_ble_eq_true rfl) dX3_join_29 ⟨Nat.zero_le _, Nat.zero_le _⟩ (fun H locs hW hS => ?_)
  refine lv_aload_n hx hb dX3_join_32 rfl (lv_at hl 0 rfl) ?_
  refine lv_iload_n hx hb dX3_join_33 rfl (lv_at hl 1 rfl) ?_
  obtain ⟨S_9, e_10, h⟩ := bnd_e h
  refine kV_V (As := [.int p1]) (rest := []) ⟨hx, hb, hml, hown, hts⟩ (tX3_remove l G S_7 M0 c (by omega) p1 S_9 e_10) (cwV 1 hts gX3_join_X3_remove rfl rfl rfl ⟨rfl, hdX3_remove⟩ ⟨Nat.le_of_ble_eq_true rfl, Nat.le_of_ble_eq_true rfl⟩) (va_recv hK.1 hW.1 (ci := 3) (q0 := (7 + c)) rfl (lkP (c := c) (by omega))) hK hW hS hA rfl hl.1 rfl (Nat.le_of_ble_eq_true rfl) dX3_join_34 ⟨Nat.zero_le _, Nat.zero_le _⟩ (fun H locs hW hS => ?_)
  obtain rfl := Option.some.inj h
  exact W.vret hx hb hr (fun t ht hw => ⟨⟨(), rfl, trivial, hW.ret ht⟩, hS.F ht⟩) hS.2.2 dX3_join_37
abbrev rX0_passOn : Room := { frames := 4, cells := 0, slots := 0, locals := 93 }
set_option maxRecDepth 100000 in
set_option maxHeartbeats 8000000 in
theorem tX0_passOn (l : Launch) (G : WG) (S0 M0 : St) (c : Nat) (hc : c < 7) (p1 : Int32) (p2 : Int32) (S' : St) (h : f0_passOn S0 c p1 p2 = some (S')) : CtV l yX0_passOn wsX0_passOn rX0_passOn G [.ref (gad G c), .int p1, .int p2] S0 M0 S' M0 := by
  refine Met.ofW (cc := cX0_passOn) (maxL := 4) (ret := none) (by decide) rfl ?_
  intro p e s m args below meth cd s₁ B hml hv
  obtain ⟨hargs, hK, hW⟩ := hv
  have hx := B.exec
  have hb := B.bytes
  have hr := B.returns
  have hts := atoms_spec (ws := wsX0_passOn) B.pre
  have hown : s.vm.findClass RX0 = some m.cls := findClass_of_methodNamed B.named
  have hlocks := B.notSynchronized
  have hA : ∀ q, Aw G q → Aw G q := fun _ h => h
  have hS : va_S (Aw G) s.heap s.heap [] := va_S.rf
  have he0 : entryFrame m args 4 = F0 m 0 ((lg_sl ([.ref (gad G c), .int p1, .int p2]) ++ List.replicate (4 - (lg_sl ([.ref (gad G c), .int p1, .int p2])).length) Slot.unset).toArray) [] := by rw [hargs]; exact lg_entry_eq _ _ _
  have hl := lv_entry ([.ref (gad G c), .int p1, .int p2]) (n := 4) (Nat.le_of_ble_eq_true rfl)
  rw [he0]
  generalize (lg_sl ([.ref (gad G c), .int p1, .int p2]) ++ List.replicate (4 - (lg_sl ([.ref (gad G c), .int p1, .int p2])).length) Slot.unset).toArray = ls at hl ⊢
  have hl : lv_has ls 4 [(0, .ref (gad G c)), (1, .int p1), (2, .int p2)] := hl
  have hiX0 : ∀ w ∈ u_ws RX0 TX0 12, w ∈ wsX0_passOn := by decide +kernel
  have B55 : ∀ (H : Heap) (locs : List Loc) (S : St) (_ : WD G S M0 H) (_ : va_S (Aw G) s.heap H locs) (ls : Array Slot) (_ : lv_has ls 4 []) (h : f0_passOn_b55 S c  = some (S')), WV p l e (headSpec wsX0_passOn rX0_passOn).room s m args below meth cd G S' M0 H locs (F0 m 55 ls []) := by
    intro H locs S hW hS ls hl h
    unfold f0_passOn_b55 at h
    obtain rfl := Option.some.inj h
    exact W.vret hx hb hr (fun t ht hw => ⟨⟨(), rfl, trivial, hW.ret ht⟩, hS.F ht⟩) hS.2.2 dX0_passOn_55
  unfold f0_passOn at h
  refine lv_aload_n hx hb dX0_passOn_0 rfl (lv_at hl 0 rfl) ?_
  refine va_get (D := G.1) (ci := 0) (v := .ref (gad G (7 + c))) (C := RX0) (T := TX0) (N := 12) hx hb hts hiX0 hown hK.1 hW.1 c (lkC (c := c) (by omega)) rfl 0 (by decide) (hts _ (List.mem_of_getElem? (i := 1) rfl)) (fun _ h9 => h9) rfl dX0_passOn_1 ?_
  refine lv_iload_n hx hb dX0_passOn_4 rfl (lv_at hl 1 rfl) ?_
  refine lv_iload_n hx hb dX0_passOn_5 rfl (lv_at hl 2 rfl) ?_
  obtain ⟨S_1, e_2, h⟩ := bnd_e h
  refine kV_V (As := [.int p1, .int p2]) (rest := []) ⟨hx, hb, hml, hown, hts⟩ (tX3_giveTo l G S0 M0 c (by omega) p1 p2 S_1 e_2) (cwV 2 hts gX0_passOn_X3_giveTo rfl rfl rfl ⟨rfl, hdX3_giveTo⟩ ⟨Nat.le_of_ble_eq_true rfl, Nat.le_of_ble_eq_true rfl⟩) (va_recv hK.1 hW.1 (ci := 3) (q0 := (7 + c)) rfl (lkP (c := c) (by omega))) hK hW hS hA rfl hl.1 rfl (Nat.le_of_ble_eq_true rfl) dX0_passOn_6 ⟨Nat.zero_le _, Nat.zero_le _⟩ (fun H locs hW hS => ?_)
  refine lv_aload_n hx hb dX0_passOn_9 rfl (lv_at hl 0 rfl) ?_
  refine va_get (D := G.1) (ci := 0) (v := .ref (gad G (7 + c))) (C := RX0) (T := TX0) (N := 12) hx hb hts hiX0 hown hK.1 hW.1 c (lkC (c := c) (by omega)) rfl 0 (by decide) (hts _ (List.mem_of_getElem? (i := 1) rfl)) (fun _ h9 => h9) rfl dX0_passOn_10 ?_
  refine lv_iload_n hx hb dX0_passOn_13 rfl (lv_at hl 1 rfl) ?_
  obtain ⟨r_3, e_4, h⟩ := bnd_e h
  refine kV_I (As := [.int p1]) (rest := []) ⟨hx, hb, hml, hown, hts⟩ (tX3_otherHalf l G S_1 M0 c (by omega) p1 r_3 e_4) (cwV 1 hts gX0_passOn_X3_otherHalf rfl rfl rfl ⟨rfl, hdX3_otherHalf⟩ ⟨Nat.le_of_ble_eq_true rfl, Nat.le_of_ble_eq_true rfl⟩) (va_recv hK.1 hW.1 (ci := 3) (q0 := (7 + c)) rfl (lkP (c := c) (by omega))) hK hW hS hA rfl hl.1 rfl (Nat.le_of_ble_eq_true rfl) dX0_passOn_14 ⟨Nat.zero_le _, Nat.zero_le _⟩ (fun H locs hW hS => ?_)
  refine lv_istore_n (lv' := [(3, .int r_3), (0, .ref (gad G c)), (1, .int p1), (2, .int p2)]) hx hb dX0_passOn_17 rfl hl (by decide) rfl (fun ls hl => ?_)
  refine lv_iload_n hx hb dX0_passOn_18 rfl (lv_at hl 0 rfl) ?_
  refine lv_iconst (v := (-1)) hx hb dX0_passOn_19 (by decide) ?_
  refine lv_icmp_eq (tgt := 55) hx hb dX0_passOn_20 (by decide) (fun c_5 => ?_) (fun c_5 => ?_)
  · have h := ite_t c_5 h
    exact B55 _ _ S_1 hW hS ls (lv_sub hl [] rfl) h
  · have h := ite_f c_5 h
    refine lv_aload_n hx hb dX0_passOn_23 rfl (lv_at hl 1 rfl) ?_
    refine va_get (D := G.1) (ci := 0) (v := .ref (gad G (7 + c))) (C := RX0) (T := TX0) (N := 12) hx hb hts hiX0 hown hK.1 hW.1 c (lkC (c := c) (by omega)) rfl 0 (by decide) (hts _ (List.mem_of_getElem? (i := 1) rfl)) (fun _ h9 => h9) rfl dX0_passOn_24 ?_
    refine lv_iload_n hx hb dX0_passOn_27 rfl (lv_at hl 0 rfl) ?_
    obtain ⟨r_6, e_7, h⟩ := bnd_e h
    refine kV_I (As := [.int r_3]) (rest := []) ⟨hx, hb, hml, hown, hts⟩ (tX3_ownerOf l G S_1 M0 c (by omega) r_3 r_6 e_7) (cwV 1 hts gX0_passOn_X3_ownerOf rfl rfl rfl ⟨rfl, hdX3_ownerOf⟩ ⟨Nat.le_of_ble_eq_true rfl, Nat.le_of_ble_eq_true rfl⟩) (va_recv hK.1 hW.1 (ci := 3) (q0 := (7 + c)) rfl (lkP (c := c) (by omega))) hK hW hS hA rfl hl.1 rfl (Nat.le_of_ble_eq_true rfl) dX0_passOn_28 ⟨Nat.zero_le _, Nat.zero_le _⟩ (fun H locs hW hS => ?_)
    refine lv_iload_n hx hb dX0_passOn_31 rfl (lv_at hl 3 rfl) ?_
    refine lv_icmp_ne (tgt := 55) hx hb dX0_passOn_32 (by decide) (fun c_8 => ?_) (fun c_8 => ?_)
    · have h := ite_f c_8 h
      exact B55 _ _ S_1 hW hS ls (lv_sub hl [] rfl) h
    · have h := ite_t c_8 h
      refine lv_aload_n hx hb dX0_passOn_35 rfl (lv_at hl 1 rfl) ?_
      refine va_get (D := G.1) (ci := 0) (v := .ref (gad G (7 + c))) (C := RX0) (T := TX0) (N := 12) hx hb hts hiX0 hown hK.1 hW.1 c (lkC (c := c) (by omega)) rfl 0 (by decide) (hts _ (List.mem_of_getElem? (i := 1) rfl)) (fun _ h9 => h9) rfl dX0_passOn_36 ?_
      refine lv_iload_n hx hb dX0_passOn_39 rfl (lv_at hl 2 rfl) ?_
      refine lv_iload_n hx hb dX0_passOn_40 rfl (lv_at hl 0 rfl) ?_
      refine lv_iload_n hx hb dX0_passOn_41 rfl (lv_at hl 3 rfl) ?_
      obtain ⟨S_9, e_10, h⟩ := bnd_e h
      refine kV_V (As := [.int p1, .int r_3, .int p2]) (rest := []) ⟨hx, hb, hml, hown, hts⟩ (tX3_join l G S_1 M0 c (by omega) p1 r_3 p2 S_9 e_10) (cwV 3 hts gX0_passOn_X3_join rfl rfl rfl ⟨rfl, hdX3_join⟩ ⟨Nat.le_of_ble_eq_true rfl, Nat.le_of_ble_eq_true rfl⟩) (va_recv hK.1 hW.1 (ci := 3) (q0 := (7 + c)) rfl (lkP (c := c) (by omega))) hK hW hS hA rfl hl.1 rfl (Nat.le_of_ble_eq_true rfl) dX0_passOn_42 ⟨Nat.zero_le _, Nat.zero_le _⟩ (fun H locs hW hS => ?_)
      refine lv_aload_n hx hb dX0_passOn_45 rfl (lv_at hl 1 rfl) ?_
      refine lv_dup hx hb dX0_passOn_46 rfl ?_
      refine va_get (D := G.1) (ci := 0) (v := .int (S_9.1 (6 * c + 4))) (C := RX0) (T := TX0) (N := 12) hx hb hts hiX0 hown hK.1 hW.1 c (lkC (c := c) (by omega)) rfl 10 (by decide) (hts _ (List.mem_of_getElem? (i := 2) rfl)) (fun _ h9 => h9) rfl dX0_passOn_47 ?_
      refine lv_iconst (v := 1) hx hb dX0_passOn_50 (by decide) ?_
      refine lv_iadd hx hb dX0_passOn_51 ?_
      obtain ⟨S_11, eS_11, h⟩ := nam_e h
      refine va_put (D := G.1) (ci := 0) (v := .int ((S_9.1 (6 * c + 4) + 1))) (ty := .int) (C := RX0) (T := TX0) (N := 12) hx hb hts hiX0 tyX0 tyX0_ok nmX0 hown hK.1 hW.1 (hW.D hA) hS c (lkC (c := c) (by omega)) rfl 10 (by decide) (hts _ (List.mem_of_getElem? (i := 2) rfl)) (fun _ h9 => h9) rfl (by decide +kernel) rfl rfl (Nat.le_of_ble_eq_true rfl) dX0_passOn_52 (fun H locs hP hD hS => ?_)
      have hW := upC4 (c := c) (by omega) hW hP
      rw [← eS_11] at hW
      exact B55 _ _ S_11 hW hS ls (lv_sub hl [] rfl) h
abbrev rX3_joinAll : Room := { frames := 3, cells := 0, slots := 0, locals := 66 }
set_option maxRecDepth 100000 in
set_option maxHeartbeats 8000000 in
theorem tX3_joinAll (l : Launch) (G : WG) (S0 M0 : St) (c : Nat) (hc : c < 7) (S' : St) (h : f3_joinAll S0 c = some (S')) : CtV l yX3_joinAll wsX3_joinAll rX3_joinAll G [.ref (gad G (7 + c))] S0 M0 S' M0 := by
  refine Met.ofW (cc := cX3_joinAll) (maxL := 1) (ret := none) (by decide) rfl ?_
  intro p e s m args below meth cd s₁ B hml hv
  obtain ⟨hargs, hK, hW⟩ := hv
  have hx := B.exec
  have hb := B.bytes
  have hr := B.returns
  have hts := atoms_spec (ws := wsX3_joinAll) B.pre
  have hown : s.vm.findClass RX3 = some m.cls := findClass_of_methodNamed B.named
  have hlocks := B.notSynchronized
  have hA : ∀ q, Aw G q → Aw G q := fun _ h => h
  have hS : va_S (Aw G) s.heap s.heap [] := va_S.rf
  have he0 : entryFrame m args 1 = F0 m 0 ((lg_sl ([.ref (gad G (7 + c))]) ++ List.replicate (1 - (lg_sl ([.ref (gad G (7 + c))])).length) Slot.unset).toArray) [] := by rw [hargs]; exact lg_entry_eq _ _ _
  have hl := lv_entry ([.ref (gad G (7 + c))]) (n := 1) (Nat.le_of_ble_eq_true rfl)
  rw [he0]
  generalize (lg_sl ([.ref (gad G (7 + c))]) ++ List.replicate (1 - (lg_sl ([.ref (gad G (7 + c))])).length) Slot.unset).toArray = ls at hl ⊢
  have hl : lv_has ls 1 [(0, .ref (gad G (7 + c)))] := hl
  have hiX3 : ∀ w ∈ u_ws RX3 TX3 5, w ∈ wsX3_joinAll := by decide +kernel
  unfold f3_joinAll at h
  refine lv_aload_n hx hb dX3_joinAll_0 rfl (lv_at hl 0 rfl) ?_
  refine lv_iconst (v := 0) hx hb dX3_joinAll_1 (by decide) ?_
  refine lv_iconst (v := 0) hx hb dX3_joinAll_2 (by decide) ?_
  refine lv_iconst (v := 0) hx hb dX3_joinAll_3 (by decide) ?_
  refine lv_iconst (v := 0) hx hb dX3_joinAll_4 (by decide) ?_
  refine lv_iconst (v := (-1)) hx hb dX3_joinAll_5 (by decide) ?_
  obtain ⟨S_1, e_2, h⟩ := bnd_e h
  refine kV_V (As := [.int 0, .int 0, .int 0, .int 0, .int ((-1))]) (rest := []) ⟨hx, hb, hml, hown, hts⟩ (tX3_put l G S0 M0 c (by omega) 0 0 0 0 ((-1)) S_1 e_2) (cwV 5 hts gX3_joinAll_X3_put rfl rfl rfl ⟨rfl, hdX3_put⟩ ⟨Nat.le_of_ble_eq_true rfl, Nat.le_of_ble_eq_true rfl⟩) (va_recv hK.1 hW.1 (ci := 3) (q0 := (7 + c)) rfl (lkP (c := c) (by omega))) hK hW hS hA rfl hl.1 rfl (Nat.le_of_ble_eq_true rfl) dX3_joinAll_6 ⟨Nat.zero_le _, Nat.zero_le _⟩ (fun H locs hW hS => ?_)
  refine lv_aload_n hx hb dX3_joinAll_9 rfl (lv_at hl 0 rfl) ?_
  refine lv_iconst (v := 1) hx hb dX3_joinAll_10 (by decide) ?_
  obtain ⟨S_3, eS_3, h⟩ := nam_e h
  refine va_put (D := G.1) (ci := 3) (v := .int 1) (ty := .int) (C := RX3) (T := TX3) (N := 5) hx hb hts hiX3 tyX3 tyX3_ok nmX3 hown hK.1 hW.1 (hW.D hA) hS (7 + c) (lkP (c := c) (by omega)) rfl 4 (by decide) (hts _ (List.mem_of_getElem? (i := 1) rfl)) (fun _ h9 => h9) rfl (by decide +kernel) rfl rfl (Nat.le_of_ble_eq_true rfl) dX3_joinAll_11 (fun H locs hP hD hS => ?_)
  have hW := upP0 (c := c) (by omega) hW hP
  rw [← eS_3] at hW
  obtain rfl := Option.some.inj h
  exact W.vret hx hb hr (fun t ht hw => ⟨⟨(), rfl, trivial, hW.ret ht⟩, hS.F ht⟩) hS.2.2 dX3_joinAll_14
abbrev rX3_isGivenBefore : Room := { frames := 2, cells := 0, slots := 0, locals := 43 }
set_option maxRecDepth 100000 in
set_option maxHeartbeats 8000000 in
theorem tX3_isGivenBefore (l : Launch) (G : WG) (S0 M0 : St) (c : Nat) (hc : c < 7) (p1 : Int32) (p2 : Int32) (rr : Int32) (h : f3_isGivenBefore S0 c p1 p2 = some (rr)) : CtI l yX3_isGivenBefore wsX3_isGivenBefore rX3_isGivenBefore G [.ref (gad G (7 + c)), .int p1, .int p2] S0 M0 rr S0 M0 := by
  refine Met.ofW (cc := cX3_isGivenBefore) (maxL := 3) (ret := (some .boolean)) (by decide) rfl ?_
  intro p e s m args below meth cd s₁ B hml hv
  obtain ⟨hargs, hK, hW⟩ := hv
  have hx := B.exec
  have hb := B.bytes
  have hr := B.returns
  have hts := atoms_spec (ws := wsX3_isGivenBefore) B.pre
  have hown : s.vm.findClass RX3 = some m.cls := findClass_of_methodNamed B.named
  have hlocks := B.notSynchronized
  have hA : ∀ q, Aw G q → Aw G q := fun _ h => h
  have hS : va_S (Aw G) s.heap s.heap [] := va_S.rf
  have he0 : entryFrame m args 3 = F0 m 0 ((lg_sl ([.ref (gad G (7 + c)), .int p1, .int p2]) ++ List.replicate (3 - (lg_sl ([.ref (gad G (7 + c)), .int p1, .int p2])).length) Slot.unset).toArray) [] := by rw [hargs]; exact lg_entry_eq _ _ _
  have hl := lv_entry ([.ref (gad G (7 + c)), .int p1, .int p2]) (n := 3) (Nat.le_of_ble_eq_true rfl)
  rw [he0]
  generalize (lg_sl ([.ref (gad G (7 + c)), .int p1, .int p2]) ++ List.replicate (3 - (lg_sl ([.ref (gad G (7 + c)), .int p1, .int p2])).length) Slot.unset).toArray = ls at hl ⊢
  have hl : lv_has ls 3 [(0, .ref (gad G (7 + c))), (1, .int p1), (2, .int p2)] := hl
  have hiX3 : ∀ w ∈ u_ws RX3 TX3 5, w ∈ wsX3_isGivenBefore := by decide +kernel
  have B43 : ∀ (H : Heap) (locs : List Loc) (_ : WD G S0 M0 H) (_ : va_S (Aw G) s.heap H locs) (ls : Array Slot) (k0 : Int32) (_ : lv_has ls 3 []) (h : f3_isGivenBefore_b43 S0 c k0 = some (rr)), WI p l e (headSpec wsX3_isGivenBefore rX3_isGivenBefore).room s m args below meth cd G rr S0 M0 H locs (F0 m 43 ls [.int k0]) := by
    intro H locs hW hS ls k0 hl h
    unfold f3_isGivenBefore_b43 at h
    obtain ⟨z_1, h⟩ := isz_e h
    obtain rfl := Option.some.inj h
    exact W.zret (ty := .boolean) hx hb hr (nz_1 z_1) (fun t ht hw => ⟨⟨_, (), rfl, rfl, hW.ret ht⟩, hS.F ht⟩) hS.2.2 dX3_isGivenBefore_43
  unfold f3_isGivenBefore at h
  refine lv_aload_n hx hb dX3_isGivenBefore_0 rfl (lv_at hl 0 rfl) ?_
  refine va_get (D := G.1) (ci := 3) (v := .ref (gad G (14 + (10 * c + 2)))) (C := RX3) (T := TX3) (N := 5) hx hb hts hiX3 hown hK.1 hW.1 (7 + c) (lkP (c := c) (by omega)) rfl 2 (by decide) (hts _ (List.mem_of_getElem? (i := 1) rfl)) (fun _ h9 => h9) rfl dX3_isGivenBefore_1 ?_
  refine lv_iload_n hx hb dX3_isGivenBefore_4 rfl (lv_at hl 1 rfl) ?_
  obtain ⟨r_1, e_2, h⟩ := bnd_e h
  refine kV_I (As := [.int p1]) (rest := []) ⟨hx, hb, hml, hown, hts⟩ (tX4_at l G S0 M0 ((10 * c + 2)) (by omega) p1 r_1 e_2) (cwV 1 hts gX3_isGivenBefore_X4_at rfl rfl rfl ⟨rfl, hdX4_at⟩ ⟨Nat.le_of_ble_eq_true rfl, Nat.le_of_ble_eq_true rfl⟩) (va_recv hK.1 hW.1 (ci := 4) (q0 := (14 + (10 * c + 2))) rfl (lkR (r := (10 * c + 2)) (by omega))) hK hW hS hA rfl hl.1 rfl (Nat.le_of_ble_eq_true rfl) dX3_isGivenBefore_5 ⟨Nat.zero_le _, Nat.zero_le _⟩ (fun H locs hW hS => ?_)
  refine lv_aload_n hx hb dX3_isGivenBefore_8 rfl (lv_at hl 0 rfl) ?_
  refine va_get (D := G.1) (ci := 3) (v := .ref (gad G (14 + (10 * c + 2)))) (C := RX3) (T := TX3) (N := 5) hx hb hts hiX3 hown hK.1 hW.1 (7 + c) (lkP (c := c) (by omega)) rfl 2 (by decide) (hts _ (List.mem_of_getElem? (i := 1) rfl)) (fun _ h9 => h9) rfl dX3_isGivenBefore_9 ?_
  refine lv_iload_n hx hb dX3_isGivenBefore_12 rfl (lv_at hl 2 rfl) ?_
  obtain ⟨r_3, e_4, h⟩ := bnd_e h
  refine kV_I (As := [.int p2]) (rest := [.int r_1]) ⟨hx, hb, hml, hown, hts⟩ (tX4_at l G S0 M0 ((10 * c + 2)) (by omega) p2 r_3 e_4) (cwV 1 hts gX3_isGivenBefore_X4_at rfl rfl rfl ⟨rfl, hdX4_at⟩ ⟨Nat.le_of_ble_eq_true rfl, Nat.le_of_ble_eq_true rfl⟩) (va_recv hK.1 hW.1 (ci := 4) (q0 := (14 + (10 * c + 2))) rfl (lkR (r := (10 * c + 2)) (by omega))) hK hW hS hA rfl hl.1 rfl (Nat.le_of_ble_eq_true rfl) dX3_isGivenBefore_13 ⟨Nat.zero_le _, Nat.zero_le _⟩ (fun H locs hW hS => ?_)
  refine lv_icmp_eq (tgt := 44) hx hb dX3_isGivenBefore_16 (by decide) (fun c_5 => ?_) (fun c_5 => ?_)
  · have h := ite_t c_5 h
    refine lv_aload_n hx hb dX3_isGivenBefore_44 rfl (lv_at hl 0 rfl) ?_
    refine lv_iload_n hx hb dX3_isGivenBefore_45 rfl (lv_at hl 1 rfl) ?_
    refine lv_iload_n hx hb dX3_isGivenBefore_46 rfl (lv_at hl 2 rfl) ?_
    obtain ⟨r_6, e_7, h⟩ := bnd_e h
    refine kV_I (As := [.int p1, .int p2]) (rest := []) ⟨hx, hb, hml, hown, hts⟩ (tX3_isCornerLower l G S0 M0 c (by omega) p1 p2 r_6 e_7) (cwV 2 hts gX3_isGivenBefore_X3_isCornerLower rfl rfl rfl ⟨rfl, hdX3_isCornerLower⟩ ⟨Nat.le_of_ble_eq_true rfl, Nat.le_of_ble_eq_true rfl⟩) (va_recv hK.1 hW.1 (ci := 3) (q0 := (7 + c)) rfl (lkP (c := c) (by omega))) hK hW hS hA rfl hl.1 rfl (Nat.le_of_ble_eq_true rfl) dX3_isGivenBefore_47 ⟨Nat.zero_le _, Nat.zero_le _⟩ (fun H locs hW hS => ?_)
    obtain ⟨z_8, h⟩ := isz_e h
    obtain rfl := Option.some.inj h
    exact W.zret (ty := .boolean) hx hb hr (nz_1 z_8) (fun t ht hw => ⟨⟨_, (), rfl, rfl, hW.ret ht⟩, hS.F ht⟩) hS.2.2 dX3_isGivenBefore_50
  · have h := ite_f c_5 h
    refine lv_aload_n hx hb dX3_isGivenBefore_19 rfl (lv_at hl 0 rfl) ?_
    refine va_get (D := G.1) (ci := 3) (v := .ref (gad G (14 + (10 * c + 2)))) (C := RX3) (T := TX3) (N := 5) hx hb hts hiX3 hown hK.1 hW.1 (7 + c) (lkP (c := c) (by omega)) rfl 2 (by decide) (hts _ (List.mem_of_getElem? (i := 1) rfl)) (fun _ h9 => h9) rfl dX3_isGivenBefore_20 ?_
    refine lv_iload_n hx hb dX3_isGivenBefore_23 rfl (lv_at hl 1 rfl) ?_
    obtain ⟨r_9, e_10, h⟩ := bnd_e h
    refine kV_I (As := [.int p1]) (rest := []) ⟨hx, hb, hml, hown, hts⟩ (tX4_at l G S0 M0 ((10 * c + 2)) (by omega) p1 r_9 e_10) (cwV 1 hts gX3_isGivenBefore_X4_at rfl rfl rfl ⟨rfl, hdX4_at⟩ ⟨Nat.le_of_ble_eq_true rfl, Nat.le_of_ble_eq_true rfl⟩) (va_recv hK.1 hW.1 (ci := 4) (q0 := (14 + (10 * c + 2))) rfl (lkR (r := (10 * c + 2)) (by omega))) hK hW hS hA rfl hl.1 rfl (Nat.le_of_ble_eq_true rfl) dX3_isGivenBefore_24 ⟨Nat.zero_le _, Nat.zero_le _⟩ (fun H locs hW hS => ?_)
    refine lv_aload_n hx hb dX3_isGivenBefore_27 rfl (lv_at hl 0 rfl) ?_
    refine va_get (D := G.1) (ci := 3) (v := .ref (gad G (14 + (10 * c + 2)))) (C := RX3) (T := TX3) (N := 5) hx hb hts hiX3 hown hK.1 hW.1 (7 + c) (lkP (c := c) (by omega)) rfl 2 (by decide) (hts _ (List.mem_of_getElem? (i := 1) rfl)) (fun _ h9 => h9) rfl dX3_isGivenBefore_28 ?_
    refine lv_iload_n hx hb dX3_isGivenBefore_31 rfl (lv_at hl 2 rfl) ?_
    obtain ⟨r_11, e_12, h⟩ := bnd_e h
    refine kV_I (As := [.int p2]) (rest := [.int r_9]) ⟨hx, hb, hml, hown, hts⟩ (tX4_at l G S0 M0 ((10 * c + 2)) (by omega) p2 r_11 e_12) (cwV 1 hts gX3_isGivenBefore_X4_at rfl rfl rfl ⟨rfl, hdX4_at⟩ ⟨Nat.le_of_ble_eq_true rfl, Nat.le_of_ble_eq_true rfl⟩) (va_recv hK.1 hW.1 (ci := 4) (q0 := (14 + (10 * c + 2))) rfl (lkR (r := (10 * c + 2)) (by omega))) hK hW hS hA rfl hl.1 rfl (Nat.le_of_ble_eq_true rfl) dX3_isGivenBefore_32 ⟨Nat.zero_le _, Nat.zero_le _⟩ (fun H locs hW hS => ?_)
    refine lv_icmp_le (tgt := 42) hx hb dX3_isGivenBefore_35 (by decide) (fun c_13 => ?_) (fun c_13 => ?_)
    · have h := ite_t c_13 h
      refine lv_iconst (v := 0) hx hb dX3_isGivenBefore_42 (by decide) ?_
      exact B43 _ _ hW hS ls 0 (lv_sub hl [] rfl) h
    · have h := ite_f c_13 h
      refine lv_iconst (v := 1) hx hb dX3_isGivenBefore_38 (by decide) ?_
      refine lv_goto (tgt := 43) hx hb dX3_isGivenBefore_39 (by decide) ?_
      exact B43 _ _ hW hS ls 1 (lv_sub hl [] rfl) h
abbrev rX3_firstToGive : Room := { frames := 3, cells := 0, slots := 0, locals := 65 }
set_option maxRecDepth 100000 in
set_option maxHeartbeats 8000000 in
theorem tX3_firstToGive (l : Launch) (G : WG) (S0 M0 : St) (c : Nat) (hc : c < 7) (p1 : Int32) (rr : Int32) (h : f3_firstToGive S0 c p1 = some (rr)) : CtI l yX3_firstToGive wsX3_firstToGive rX3_firstToGive G [.ref (gad G (7 + c)), .int p1] S0 M0 rr S0 M0 := by
  refine Met.ofW (cc := cX3_firstToGive) (maxL := 4) (ret := (some .int)) (by decide) rfl ?_
  intro p e s m args below meth cd s₁ B hml hv
  obtain ⟨hargs, hK, hW⟩ := hv
  have hx := B.exec
  have hb := B.bytes
  have hr := B.returns
  have hts := atoms_spec (ws := wsX3_firstToGive) B.pre
  have hown : s.vm.findClass RX3 = some m.cls := findClass_of_methodNamed B.named
  have hlocks := B.notSynchronized
  have hA : ∀ q, Aw G q → Aw G q := fun _ h => h
  have hS : va_S (Aw G) s.heap s.heap [] := va_S.rf
  have he0 : entryFrame m args 4 = F0 m 0 ((lg_sl ([.ref (gad G (7 + c)), .int p1]) ++ List.replicate (4 - (lg_sl ([.ref (gad G (7 + c)), .int p1])).length) Slot.unset).toArray) [] := by rw [hargs]; exact lg_entry_eq _ _ _
  have hl := lv_entry ([.ref (gad G (7 + c)), .int p1]) (n := 4) (Nat.le_of_ble_eq_true rfl)
  rw [he0]
  generalize (lg_sl ([.ref (gad G (7 + c)), .int p1]) ++ List.replicate (4 - (lg_sl ([.ref (gad G (7 + c)), .int p1])).length) Slot.unset).toArray = ls at hl ⊢
  have hl : lv_has ls 4 [(0, .ref (gad G (7 + c))), (1, .int p1)] := hl
  have hiX3 : ∀ w ∈ u_ws RX3 TX3 5, w ∈ wsX3_firstToGive := by decide +kernel
  have B4 : ∀ (n : Nat), ∀ (H : Heap) (locs : List Loc) (_ : WD G S0 M0 H) (_ : va_S (Aw G) s.heap H locs) (ls : Array Slot) (l1 : Int32) (l2 : Int32) (l3 : Int32) (_ : lv_has ls 4 [(0, .ref (gad G (7 + c))), (1, .int l1), (2, .int l2), (3, .int l3)]) (h : f3_firstToGive_b4 S0 c l1 n l2 l3 = some (rr)), WI p l e (headSpec wsX3_firstToGive rX3_firstToGive).room s m args below meth cd G rr S0 M0 H locs (F0 m 4 ls []) := by
    intro n
    induction n with
    | zero => intro H locs hW hS ls l1 l2 l3 hl h; cases (show (none : Option (Int32)) = some _ from h)
    | succ n ih =>
      have B40 : ∀ (H : Heap) (locs : List Loc) (_ : WD G S0 M0 H) (_ : va_S (Aw G) s.heap H locs) (ls : Array Slot) (l1 : Int32) (l2 : Int32) (l3 : Int32) (_ : lv_has ls 4 [(0, .ref (gad G (7 + c))), (1, .int l1), (2, .int l2), (3, .int l3)]) (h : f3_firstToGive_b40 S0 c (f3_firstToGive_b4 S0 c l1 n) l1 l2 l3 = some (rr)), WI p l e (headSpec wsX3_firstToGive rX3_firstToGive).room s m args below meth cd G rr S0 M0 H locs (F0 m 40 ls []) := by
        intro H locs hW hS ls l1 l2 l3 hl h
        unfold f3_firstToGive_b40 at h
        refine lv_iinc (v := (l3 + 1)) (lv' := [(3, .int ((l3 + 1))), (0, .ref (gad G (7 + c))), (1, .int l1), (2, .int l2)]) hx hb dX3_firstToGive_40 hl (k := 3) rfl rfl (by decide) rfl (fun ls hl => ?_)
        refine lv_goto (tgt := 4) hx hb dX3_firstToGive_43 (by decide) ?_
        exact ih _ _ hW hS ls l1 l2 ((l3 + 1)) (lv_sub hl [1, 2, 3, 0] rfl) h
      have B38 : ∀ (H : Heap) (locs : List Loc) (_ : WD G S0 M0 H) (_ : va_S (Aw G) s.heap H locs) (ls : Array Slot) (l1 : Int32) (l3 : Int32) (_ : lv_has ls 4 [(0, .ref (gad G (7 + c))), (1, .int l1), (3, .int l3)]) (h : f3_firstToGive_b38 S0 c (f3_firstToGive_b4 S0 c l1 n) l1 l3 = some (rr)), WI p l e (headSpec wsX3_firstToGive rX3_firstToGive).room s m args below meth cd G rr S0 M0 H locs (F0 m 38 ls []) := by
        intro H locs hW hS ls l1 l3 hl h
        unfold f3_firstToGive_b38 at h
        refine lv_iload_n hx hb dX3_firstToGive_38 rfl (lv_at hl 2 rfl) ?_
        refine lv_istore_n (lv' := [(2, .int l3), (0, .ref (gad G (7 + c))), (1, .int l1), (3, .int l3)]) hx hb dX3_firstToGive_39 rfl hl (by decide) rfl (fun ls hl => ?_)
        exact B40 _ _ hW hS ls l1 l3 l3 (lv_sub hl [1, 2, 0, 3] rfl) h
      intro H locs hW hS ls l1 l2 l3 hl h
      rw [f3_firstToGive_b4] at h
      refine lv_iload_n hx hb dX3_firstToGive_4 rfl (lv_at hl 3 rfl) ?_
      refine lv_aload_n hx hb dX3_firstToGive_5 rfl (lv_at hl 0 rfl) ?_
      refine va_get (D := G.1) (ci := 3) (v := .int (S0.1 (6 * c + 0))) (C := RX3) (T := TX3) (N := 5) hx hb hts hiX3 hown hK.1 hW.1 (7 + c) (lkP (c := c) (by omega)) rfl 4 (by decide) (hts _ (List.mem_of_getElem? (i := 1) rfl)) (fun _ h9 => h9) rfl dX3_firstToGive_6 ?_
      refine lv_icmp_ge (tgt := 46) hx hb dX3_firstToGive_9 (by decide) (fun c_1 => ?_) (fun c_1 => ?_)
      · have h := ite_t c_1 h
        refine lv_iload_n hx hb dX3_firstToGive_46 rfl (lv_at hl 2 rfl) ?_
        obtain rfl := Option.some.inj h
        exact W.iret hx hb hr (fun t ht hw => ⟨⟨_, (), rfl, rfl, hW.ret ht⟩, hS.F ht⟩) hS.2.2 dX3_firstToGive_47
      · have h := ite_f c_1 h
        refine lv_aload_n hx hb dX3_firstToGive_12 rfl (lv_at hl 0 rfl) ?_
        refine va_get (D := G.1) (ci := 3) (v := .ref (gad G (14 + (10 * c + 3)))) (C := RX3) (T := TX3) (N := 5) hx hb hts hiX3 hown hK.1 hW.1 (7 + c) (lkP (c := c) (by omega)) rfl 3 (by decide) (hts _ (List.mem_of_getElem? (i := 2) rfl)) (fun _ h9 => h9) rfl dX3_firstToGive_13 ?_
        refine lv_iload_n hx hb dX3_firstToGive_16 rfl (lv_at hl 3 rfl) ?_
        obtain ⟨r_2, e_3, h⟩ := bnd_e h
        refine kV_I (As := [.int l3]) (rest := []) ⟨hx, hb, hml, hown, hts⟩ (tX4_at l G S0 M0 ((10 * c + 3)) (by omega) l3 r_2 e_3) (cwV 1 hts gX3_firstToGive_X4_at rfl rfl rfl ⟨rfl, hdX4_at⟩ ⟨Nat.le_of_ble_eq_true rfl, Nat.le_of_ble_eq_true rfl⟩) (va_recv hK.1 hW.1 (ci := 4) (q0 := (14 + (10 * c + 3))) rfl (lkR (r := (10 * c + 3)) (by omega))) hK hW hS hA rfl hl.1 rfl (Nat.le_of_ble_eq_true rfl) dX3_firstToGive_17 ⟨Nat.zero_le _, Nat.zero_le _⟩ (fun H locs hW hS => ?_)
        refine lv_iload_n hx hb dX3_firstToGive_20 rfl (lv_at hl 1 rfl) ?_
        refine lv_icmp_ne (tgt := 40) hx hb dX3_firstToGive_21 (by decide) (fun c_4 => ?_) (fun c_4 => ?_)
        · have h := ite_f c_4 h
          exact B40 _ _ hW hS ls l1 l2 l3 (lv_sub hl [0, 1, 2, 3] rfl) h
        · have h := ite_t c_4 h
          refine lv_iload_n hx hb dX3_firstToGive_24 rfl (lv_at hl 2 rfl) ?_
          refine lv_iconst (v := (-1)) hx hb dX3_firstToGive_25 (by decide) ?_
          refine lv_icmp_eq (tgt := 38) hx hb dX3_firstToGive_26 (by decide) (fun c_5 => ?_) (fun c_5 => ?_)
          · have h := ite_t c_5 h
            exact B38 _ _ hW hS ls l1 l3 (lv_sub hl [0, 1, 3] rfl) h
          · have h := ite_f c_5 h
            refine lv_aload_n hx hb dX3_firstToGive_29 rfl (lv_at hl 0 rfl) ?_
            refine lv_iload_n hx hb dX3_firstToGive_30 rfl (lv_at hl 3 rfl) ?_
            refine lv_iload_n hx hb dX3_firstToGive_31 rfl (lv_at hl 2 rfl) ?_
            obtain ⟨r_6, e_7, h⟩ := bnd_e h
            refine kV_I (As := [.int l3, .int l2]) (rest := []) ⟨hx, hb, hml, hown, hts⟩ (tX3_isGivenBefore l G S0 M0 c (by omega) l3 l2 r_6 e_7) (cwV 2 hts gX3_firstToGive_X3_isGivenBefore rfl rfl rfl ⟨rfl, hdX3_isGivenBefore⟩ ⟨Nat.le_of_ble_eq_true rfl, Nat.le_of_ble_eq_true rfl⟩) (va_recv hK.1 hW.1 (ci := 3) (q0 := (7 + c)) rfl (lkP (c := c) (by omega))) hK hW hS hA rfl hl.1 rfl (Nat.le_of_ble_eq_true rfl) dX3_firstToGive_32 ⟨Nat.zero_le _, Nat.zero_le _⟩ (fun H locs hW hS => ?_)
            refine lv_if_eq (tgt := 40) hx hb dX3_firstToGive_35 (by decide) (fun c_8 => ?_) (fun c_8 => ?_)
            · have h := ite_t c_8 h
              exact B40 _ _ hW hS ls l1 l2 l3 (lv_sub hl [0, 1, 2, 3] rfl) h
            · have h := ite_f c_8 h
              exact B38 _ _ hW hS ls l1 l3 (lv_sub hl [0, 1, 3] rfl) h
  unfold f3_firstToGive at h
  refine lv_iconst (v := (-1)) hx hb dX3_firstToGive_0 (by decide) ?_
  refine lv_istore_n (lv' := [(2, .int ((-1))), (0, .ref (gad G (7 + c))), (1, .int p1)]) hx hb dX3_firstToGive_1 rfl hl (by decide) rfl (fun ls hl => ?_)
  refine lv_iconst (v := 0) hx hb dX3_firstToGive_2 (by decide) ?_
  refine lv_istore_n (lv' := [(3, .int 0), (2, .int ((-1))), (0, .ref (gad G (7 + c))), (1, .int p1)]) hx hb dX3_firstToGive_3 rfl hl (by decide) rfl (fun ls hl => ?_)
  exact B4 fuelN _ _ hW hS ls p1 ((-1)) 0 (lv_sub hl [2, 3, 1, 0] rfl) h
abbrev rX0_leastOf : Room := { frames := 2, cells := 0, slots := 0, locals := 44 }
set_option maxRecDepth 100000 in
set_option maxHeartbeats 8000000 in
theorem tX0_leastOf (l : Launch) (G : WG) (S0 M0 : St) (c : Nat) (hc : c < 7) (p1 : Int32) (rr : Int32) (h : f0_leastOf S0 c p1 = some (rr)) : CtI l yX0_leastOf wsX0_leastOf rX0_leastOf G [.ref (gad G c), .int p1] S0 M0 rr S0 M0 := by
  refine Met.ofW (cc := cX0_leastOf) (maxL := 6) (ret := (some .int)) (by decide) rfl ?_
  intro p e s m args below meth cd s₁ B hml hv
  obtain ⟨hargs, hK, hW⟩ := hv
  have hx := B.exec
  have hb := B.bytes
  have hr := B.returns
  have hts := atoms_spec (ws := wsX0_leastOf) B.pre
  have hown : s.vm.findClass RX0 = some m.cls := findClass_of_methodNamed B.named
  have hlocks := B.notSynchronized
  have hA : ∀ q, Aw G q → Aw G q := fun _ h => h
  have hS : va_S (Aw G) s.heap s.heap [] := va_S.rf
  have he0 : entryFrame m args 6 = F0 m 0 ((lg_sl ([.ref (gad G c), .int p1]) ++ List.replicate (6 - (lg_sl ([.ref (gad G c), .int p1])).length) Slot.unset).toArray) [] := by rw [hargs]; exact lg_entry_eq _ _ _
  have hl := lv_entry ([.ref (gad G c), .int p1]) (n := 6) (Nat.le_of_ble_eq_true rfl)
  rw [he0]
  generalize (lg_sl ([.ref (gad G c), .int p1]) ++ List.replicate (6 - (lg_sl ([.ref (gad G c), .int p1])).length) Slot.unset).toArray = ls at hl ⊢
  have hl : lv_has ls 6 [(0, .ref (gad G c)), (1, .int p1)] := hl
  have hiX0 : ∀ w ∈ u_ws RX0 TX0 12, w ∈ wsX0_leastOf := by decide +kernel
  have B7 : ∀ (n : Nat), ∀ (H : Heap) (locs : List Loc) (_ : WD G S0 M0 H) (_ : va_S (Aw G) s.heap H locs) (ls : Array Slot) (l1 : Int32) (l2 : Int32) (l3 : Int32) (l4 : Int32) (_ : lv_has ls 6 [(0, .ref (gad G c)), (1, .int l1), (2, .int l2), (3, .int l3), (4, .int l4)]) (h : f0_leastOf_b7 S0 c l1 n l2 l3 l4 = some (rr)), WI p l e (headSpec wsX0_leastOf rX0_leastOf).room s m args below meth cd G rr S0 M0 H locs (F0 m 7 ls []) := by
    intro n
    induction n with
    | zero => intro H locs hW hS ls l1 l2 l3 l4 hl h; cases (show (none : Option (Int32)) = some _ from h)
    | succ n ih =>
      have B62 : ∀ (H : Heap) (locs : List Loc) (_ : WD G S0 M0 H) (_ : va_S (Aw G) s.heap H locs) (ls : Array Slot) (l1 : Int32) (l2 : Int32) (l3 : Int32) (l4 : Int32) (_ : lv_has ls 6 [(0, .ref (gad G c)), (1, .int l1), (2, .int l2), (3, .int l3), (4, .int l4)]) (h : f0_leastOf_b62 S0 c (f0_leastOf_b7 S0 c l1 n) l1 l2 l3 l4 = some (rr)), WI p l e (headSpec wsX0_leastOf rX0_leastOf).room s m args below meth cd G rr S0 M0 H locs (F0 m 62 ls []) := by
        intro H locs hW hS ls l1 l2 l3 l4 hl h
        unfold f0_leastOf_b62 at h
        refine lv_iinc (v := (l4 + 1)) (lv' := [(4, .int ((l4 + 1))), (0, .ref (gad G c)), (1, .int l1), (2, .int l2), (3, .int l3)]) hx hb dX0_leastOf_62 hl (k := 4) rfl rfl (by decide) rfl (fun ls hl => ?_)
        refine lv_goto (tgt := 7) hx hb dX0_leastOf_65 (by decide) ?_
        exact ih _ _ hW hS ls l1 l2 l3 ((l4 + 1)) (lv_sub hl [1, 2, 3, 4, 0] rfl) h
      have B56 : ∀ (H : Heap) (locs : List Loc) (_ : WD G S0 M0 H) (_ : va_S (Aw G) s.heap H locs) (ls : Array Slot) (l1 : Int32) (l4 : Int32) (l5 : Int32) (_ : lv_has ls 6 [(0, .ref (gad G c)), (1, .int l1), (4, .int l4), (5, .int l5)]) (h : f0_leastOf_b56 S0 c (f0_leastOf_b7 S0 c l1 n) l1 l4 l5 = some (rr)), WI p l e (headSpec wsX0_leastOf rX0_leastOf).room s m args below meth cd G rr S0 M0 H locs (F0 m 56 ls []) := by
        intro H locs hW hS ls l1 l4 l5 hl h
        unfold f0_leastOf_b56 at h
        refine lv_iload hx hb dX0_leastOf_56 (lv_at hl 2 rfl) ?_
        refine lv_istore_n (lv' := [(2, .int l4), (0, .ref (gad G c)), (1, .int l1), (4, .int l4), (5, .int l5)]) hx hb dX0_leastOf_58 rfl hl (by decide) rfl (fun ls hl => ?_)
        refine lv_iload hx hb dX0_leastOf_59 (lv_at hl 4 rfl) ?_
        refine lv_istore_n (lv' := [(3, .int l5), (2, .int l4), (0, .ref (gad G c)), (1, .int l1), (4, .int l4), (5, .int l5)]) hx hb dX0_leastOf_61 rfl hl (by decide) rfl (fun ls hl => ?_)
        exact B62 _ _ hW hS ls l1 l4 l5 l4 (lv_sub hl [2, 3, 1, 0, 4] rfl) h
      intro H locs hW hS ls l1 l2 l3 l4 hl h
      rw [f0_leastOf_b7] at h
      refine lv_iload hx hb dX0_leastOf_7 (lv_at hl 4 rfl) ?_
      refine lv_aload_n hx hb dX0_leastOf_9 rfl (lv_at hl 0 rfl) ?_
      refine va_get (D := G.1) (ci := 0) (v := .int (S0.1 (6 * c + 1))) (C := RX0) (T := TX0) (N := 12) hx hb hts hiX0 hown hK.1 hW.1 c (lkC (c := c) (by omega)) rfl 7 (by decide) (hts _ (List.mem_of_getElem? (i := 1) rfl)) (fun _ h9 => h9) rfl dX0_leastOf_10 ?_
      refine lv_icmp_ge (tgt := 68) hx hb dX0_leastOf_13 (by decide) (fun c_1 => ?_) (fun c_1 => ?_)
      · have h := ite_t c_1 h
        refine lv_iload_n hx hb dX0_leastOf_68 rfl (lv_at hl 2 rfl) ?_
        obtain rfl := Option.some.inj h
        exact W.iret hx hb hr (fun t ht hw => ⟨⟨_, (), rfl, rfl, hW.ret ht⟩, hS.F ht⟩) hS.2.2 dX0_leastOf_69
      · have h := ite_f c_1 h
        refine lv_aload_n hx hb dX0_leastOf_16 rfl (lv_at hl 0 rfl) ?_
        refine lv_iload hx hb dX0_leastOf_17 (lv_at hl 4 rfl) ?_
        obtain ⟨r_2, e_3, h⟩ := bnd_e h
        refine kV_I (As := [.int l4]) (rest := []) ⟨hx, hb, hml, hown, hts⟩ (tX0_isHere l G S0 M0 c (by omega) l4 r_2 e_3) (cwV 1 hts gX0_leastOf_X0_isHere rfl rfl rfl ⟨rfl, hdX0_isHere⟩ ⟨Nat.le_of_ble_eq_true rfl, Nat.le_of_ble_eq_true rfl⟩) (va_recv hK.1 hW.1 (ci := 0) (q0 := c) rfl (lkC (c := c) (by omega))) hK hW hS hA rfl hl.1 rfl (Nat.le_of_ble_eq_true rfl) dX0_leastOf_19 ⟨Nat.zero_le _, Nat.zero_le _⟩ (fun H locs hW hS => ?_)
        refine lv_if_eq (tgt := 62) hx hb dX0_leastOf_22 (by decide) (fun c_4 => ?_) (fun c_4 => ?_)
        · have h := ite_t c_4 h
          exact B62 _ _ hW hS ls l1 l2 l3 l4 (lv_sub hl [0, 1, 2, 3, 4] rfl) h
        · have h := ite_f c_4 h
          refine lv_iload_n hx hb dX0_leastOf_25 rfl (lv_at hl 1 rfl) ?_
          refine lv_iload hx hb dX0_leastOf_26 (lv_at hl 4 rfl) ?_
          obtain ⟨r_5, e_6, h⟩ := bnd_e h
          refine kSN_I (As := [.int l1, .int l4]) (rest := []) ⟨hx, hb, hml, hown, hts⟩ (tX5_isMarked l G S0 M0 l1 l4 r_5 e_6) ⟨va_cnB 2 hts gX0_leastOf_X5_isMarked_n144 rfl rfl rfl (hK.2 _ (List.mem_of_getElem? (i := 22) rfl)) (hts _ (List.mem_of_getElem? (i := 16) rfl)) hdX5_isMarked ⟨Nat.le_of_ble_eq_true rfl, Nat.le_of_ble_eq_true rfl⟩, (hts _ (List.mem_of_getElem? (i := 15) rfl)), trivial⟩ hK hW hS hA rfl hl.1 rfl (Nat.le_of_ble_eq_true rfl) dX0_leastOf_28 ⟨Nat.zero_le _, Nat.zero_le _⟩ (fun H locs hW hS => ?_)
          refine lv_if_eq (tgt := 62) hx hb dX0_leastOf_31 (by decide) (fun c_7 => ?_) (fun c_7 => ?_)
          · have h := ite_t c_7 h
            exact B62 _ _ hW hS ls l1 l2 l3 l4 (lv_sub hl [0, 1, 2, 3, 4] rfl) h
          · have h := ite_f c_7 h
            refine lv_aload_n hx hb dX0_leastOf_34 rfl (lv_at hl 0 rfl) ?_
            refine va_get (D := G.1) (ci := 0) (v := .ref (gad G (7 + c))) (C := RX0) (T := TX0) (N := 12) hx hb hts hiX0 hown hK.1 hW.1 c (lkC (c := c) (by omega)) rfl 0 (by decide) (hts _ (List.mem_of_getElem? (i := 2) rfl)) (fun _ h9 => h9) rfl dX0_leastOf_35 ?_
            refine lv_iload hx hb dX0_leastOf_38 (lv_at hl 4 rfl) ?_
            obtain ⟨r_8, e_9, h⟩ := bnd_e h
            refine kV_I (As := [.int l4]) (rest := []) ⟨hx, hb, hml, hown, hts⟩ (tX3_pointsOf l G S0 M0 c (by omega) l4 r_8 e_9) (cwV 1 hts gX0_leastOf_X3_pointsOf rfl rfl rfl ⟨rfl, hdX3_pointsOf⟩ ⟨Nat.le_of_ble_eq_true rfl, Nat.le_of_ble_eq_true rfl⟩) (va_recv hK.1 hW.1 (ci := 3) (q0 := (7 + c)) rfl (lkP (c := c) (by omega))) hK hW hS hA rfl hl.1 rfl (Nat.le_of_ble_eq_true rfl) dX0_leastOf_40 ⟨Nat.zero_le _, Nat.zero_le _⟩ (fun H locs hW hS => ?_)
            refine lv_istore (lv' := [(5, .int r_8), (0, .ref (gad G c)), (1, .int l1), (2, .int l2), (3, .int l3), (4, .int l4)]) hx hb dX0_leastOf_43 hl (by decide) rfl (fun ls hl => ?_)
            refine lv_iload_n hx hb dX0_leastOf_45 rfl (lv_at hl 3 rfl) ?_
            refine lv_iconst (v := (-1)) hx hb dX0_leastOf_46 (by decide) ?_
            refine lv_icmp_eq (tgt := 56) hx hb dX0_leastOf_47 (by decide) (fun c_10 => ?_) (fun c_10 => ?_)
            · have h := ite_t c_10 h
              exact B56 _ _ hW hS ls l1 l4 r_8 (lv_sub hl [1, 2, 5, 0] rfl) h
            · have h := ite_f c_10 h
              refine lv_iload hx hb dX0_leastOf_50 (lv_at hl 0 rfl) ?_
              refine lv_iload_n hx hb dX0_leastOf_52 rfl (lv_at hl 4 rfl) ?_
              refine lv_icmp_ge (tgt := 62) hx hb dX0_leastOf_53 (by decide) (fun c_11 => ?_) (fun c_11 => ?_)
              · have h := ite_t c_11 h
                exact B62 _ _ hW hS ls l1 l2 l3 l4 (lv_sub hl [1, 2, 3, 4, 5] rfl) h
              · have h := ite_f c_11 h
                exact B56 _ _ hW hS ls l1 l4 r_8 (lv_sub hl [1, 2, 5, 0] rfl) h
  unfold f0_leastOf at h
  refine lv_iconst (v := (-1)) hx hb dX0_leastOf_0 (by decide) ?_
  refine lv_istore_n (lv' := [(2, .int ((-1))), (0, .ref (gad G c)), (1, .int p1)]) hx hb dX0_leastOf_1 rfl hl (by decide) rfl (fun ls hl => ?_)
  refine lv_iconst (v := 0) hx hb dX0_leastOf_2 (by decide) ?_
  refine lv_istore_n (lv' := [(3, .int 0), (2, .int ((-1))), (0, .ref (gad G c)), (1, .int p1)]) hx hb dX0_leastOf_3 rfl hl (by decide) rfl (fun ls hl => ?_)
  refine lv_iconst (v := 0) hx hb dX0_leastOf_4 (by decide) ?_
  refine lv_istore (lv' := [(4, .int 0), (3, .int 0), (2, .int ((-1))), (0, .ref (gad G c)), (1, .int p1)]) hx hb dX0_leastOf_5 hl (by decide) rfl (fun ls hl => ?_)
  exact B7 fuelN _ _ hW hS ls p1 ((-1)) 0 0 (lv_sub hl [3, 4, 2, 1, 0] rfl) h
abbrev rX0_giveAway : Room := { frames := 4, cells := 0, slots := 0, locals := 93 }
set_option maxRecDepth 100000 in
set_option maxHeartbeats 8000000 in
theorem tX0_giveAway (l : Launch) (G : WG) (S0 M0 : St) (c : Nat) (hc : c < 7) (p1 : Int32) (S' : St) (h : f0_giveAway S0 c p1 = some (S')) : CtV l yX0_giveAway wsX0_giveAway rX0_giveAway G [.ref (gad G c), .int p1] S0 M0 S' M0 := by
  refine Met.ofW (cc := cX0_giveAway) (maxL := 3) (ret := none) (by decide) rfl ?_
  intro p e s m args below meth cd s₁ B hml hv
  obtain ⟨hargs, hK, hW⟩ := hv
  have hx := B.exec
  have hb := B.bytes
  have hr := B.returns
  have hts := atoms_spec (ws := wsX0_giveAway) B.pre
  have hown : s.vm.findClass RX0 = some m.cls := findClass_of_methodNamed B.named
  have hlocks := B.notSynchronized
  have hA : ∀ q, Aw G q → Aw G q := fun _ h => h
  have hS : va_S (Aw G) s.heap s.heap [] := va_S.rf
  have he0 : entryFrame m args 3 = F0 m 0 ((lg_sl ([.ref (gad G c), .int p1]) ++ List.replicate (3 - (lg_sl ([.ref (gad G c), .int p1])).length) Slot.unset).toArray) [] := by rw [hargs]; exact lg_entry_eq _ _ _
  have hl := lv_entry ([.ref (gad G c), .int p1]) (n := 3) (Nat.le_of_ble_eq_true rfl)
  rw [he0]
  generalize (lg_sl ([.ref (gad G c), .int p1]) ++ List.replicate (3 - (lg_sl ([.ref (gad G c), .int p1])).length) Slot.unset).toArray = ls at hl ⊢
  have hl : lv_has ls 3 [(0, .ref (gad G c)), (1, .int p1)] := hl
  have hiX0 : ∀ w ∈ u_ws RX0 TX0 12, w ∈ wsX0_giveAway := by decide +kernel
  have B74 : ∀ (H : Heap) (locs : List Loc) (S : St) (_ : WD G S M0 H) (_ : va_S (Aw G) s.heap H locs) (ls : Array Slot) (_ : lv_has ls 3 []) (h : f0_giveAway_b74 S c  = some (S')), WV p l e (headSpec wsX0_giveAway rX0_giveAway).room s m args below meth cd G S' M0 H locs (F0 m 74 ls []) := by
    intro H locs S hW hS ls hl h
    unfold f0_giveAway_b74 at h
    obtain rfl := Option.some.inj h
    exact W.vret hx hb hr (fun t ht hw => ⟨⟨(), rfl, trivial, hW.ret ht⟩, hS.F ht⟩) hS.2.2 dX0_giveAway_74
  unfold f0_giveAway at h
  refine lv_aload_n hx hb dX0_giveAway_0 rfl (lv_at hl 0 rfl) ?_
  refine va_get (D := G.1) (ci := 0) (v := .ref (gad G (7 + c))) (C := RX0) (T := TX0) (N := 12) hx hb hts hiX0 hown hK.1 hW.1 c (lkC (c := c) (by omega)) rfl 0 (by decide) (hts _ (List.mem_of_getElem? (i := 1) rfl)) (fun _ h9 => h9) rfl dX0_giveAway_1 ?_
  refine lv_iload_n hx hb dX0_giveAway_4 rfl (lv_at hl 1 rfl) ?_
  obtain ⟨r_1, e_2, h⟩ := bnd_e h
  refine kV_I (As := [.int p1]) (rest := []) ⟨hx, hb, hml, hown, hts⟩ (tX3_otherHalf l G S0 M0 c (by omega) p1 r_1 e_2) (cwV 1 hts gX0_giveAway_X3_otherHalf rfl rfl rfl ⟨rfl, hdX3_otherHalf⟩ ⟨Nat.le_of_ble_eq_true rfl, Nat.le_of_ble_eq_true rfl⟩) (va_recv hK.1 hW.1 (ci := 3) (q0 := (7 + c)) rfl (lkP (c := c) (by omega))) hK hW hS hA rfl hl.1 rfl (Nat.le_of_ble_eq_true rfl) dX0_giveAway_5 ⟨Nat.zero_le _, Nat.zero_le _⟩ (fun H locs hW hS => ?_)
  refine lv_istore_n (lv' := [(2, .int r_1), (0, .ref (gad G c)), (1, .int p1)]) hx hb dX0_giveAway_8 rfl hl (by decide) rfl (fun ls hl => ?_)
  refine lv_iload_n hx hb dX0_giveAway_9 rfl (lv_at hl 0 rfl) ?_
  refine lv_iconst (v := (-1)) hx hb dX0_giveAway_10 (by decide) ?_
  refine lv_icmp_ne (tgt := 47) hx hb dX0_giveAway_11 (by decide) (fun c_3 => ?_) (fun c_3 => ?_)
  · have h := ite_f c_3 h
    refine lv_aload_n hx hb dX0_giveAway_47 rfl (lv_at hl 1 rfl) ?_
    refine va_get (D := G.1) (ci := 0) (v := .ref (gad G (7 + c))) (C := RX0) (T := TX0) (N := 12) hx hb hts hiX0 hown hK.1 hW.1 c (lkC (c := c) (by omega)) rfl 0 (by decide) (hts _ (List.mem_of_getElem? (i := 1) rfl)) (fun _ h9 => h9) rfl dX0_giveAway_48 ?_
    refine lv_iload_n hx hb dX0_giveAway_51 rfl (lv_at hl 2 rfl) ?_
    refine lv_iload_n hx hb dX0_giveAway_52 rfl (lv_at hl 0 rfl) ?_
    refine lv_aload_n hx hb dX0_giveAway_53 rfl (lv_at hl 1 rfl) ?_
    refine va_get (D := G.1) (ci := 0) (v := .ref (gad G (7 + c))) (C := RX0) (T := TX0) (N := 12) hx hb hts hiX0 hown hK.1 hW.1 c (lkC (c := c) (by omega)) rfl 0 (by decide) (hts _ (List.mem_of_getElem? (i := 1) rfl)) (fun _ h9 => h9) rfl dX0_giveAway_54 ?_
    refine lv_iload_n hx hb dX0_giveAway_57 rfl (lv_at hl 0 rfl) ?_
    obtain ⟨r_4, e_5, h⟩ := bnd_e h
    refine kV_I (As := [.int r_1]) (rest := [.int r_1, .int p1, .ref (gad G (7 + c))]) ⟨hx, hb, hml, hown, hts⟩ (tX3_ownerOf l G S0 M0 c (by omega) r_1 r_4 e_5) (cwV 1 hts gX0_giveAway_X3_ownerOf rfl rfl rfl ⟨rfl, hdX3_ownerOf⟩ ⟨Nat.le_of_ble_eq_true rfl, Nat.le_of_ble_eq_true rfl⟩) (va_recv hK.1 hW.1 (ci := 3) (q0 := (7 + c)) rfl (lkP (c := c) (by omega))) hK hW hS hA rfl hl.1 rfl (Nat.le_of_ble_eq_true rfl) dX0_giveAway_58 ⟨Nat.zero_le _, Nat.zero_le _⟩ (fun H locs hW hS => ?_)
    obtain ⟨S_6, e_7, h⟩ := bnd_e h
    refine kV_V (As := [.int p1, .int r_1, .int r_4]) (rest := []) ⟨hx, hb, hml, hown, hts⟩ (tX3_join l G S0 M0 c (by omega) p1 r_1 r_4 S_6 e_7) (cwV 3 hts gX0_giveAway_X3_join rfl rfl rfl ⟨rfl, hdX3_join⟩ ⟨Nat.le_of_ble_eq_true rfl, Nat.le_of_ble_eq_true rfl⟩) (va_recv hK.1 hW.1 (ci := 3) (q0 := (7 + c)) rfl (lkP (c := c) (by omega))) hK hW hS hA rfl hl.1 rfl (Nat.le_of_ble_eq_true rfl) dX0_giveAway_61 ⟨Nat.zero_le _, Nat.zero_le _⟩ (fun H locs hW hS => ?_)
    refine lv_aload_n hx hb dX0_giveAway_64 rfl (lv_at hl 1 rfl) ?_
    refine lv_dup hx hb dX0_giveAway_65 rfl ?_
    refine va_get (D := G.1) (ci := 0) (v := .int (S_6.1 (6 * c + 4))) (C := RX0) (T := TX0) (N := 12) hx hb hts hiX0 hown hK.1 hW.1 c (lkC (c := c) (by omega)) rfl 10 (by decide) (hts _ (List.mem_of_getElem? (i := 3) rfl)) (fun _ h9 => h9) rfl dX0_giveAway_66 ?_
    refine lv_iconst (v := 1) hx hb dX0_giveAway_69 (by decide) ?_
    refine lv_iadd hx hb dX0_giveAway_70 ?_
    obtain ⟨S_8, eS_8, h⟩ := nam_e h
    refine va_put (D := G.1) (ci := 0) (v := .int ((S_6.1 (6 * c + 4) + 1))) (ty := .int) (C := RX0) (T := TX0) (N := 12) hx hb hts hiX0 tyX0 tyX0_ok nmX0 hown hK.1 hW.1 (hW.D hA) hS c (lkC (c := c) (by omega)) rfl 10 (by decide) (hts _ (List.mem_of_getElem? (i := 3) rfl)) (fun _ h9 => h9) rfl (by decide +kernel) rfl rfl (Nat.le_of_ble_eq_true rfl) dX0_giveAway_71 (fun H locs hP hD hS => ?_)
    have hW := upC4 (c := c) (by omega) hW hP
    rw [← eS_8] at hW
    exact B74 _ _ S_8 hW hS ls (lv_sub hl [] rfl) h
  · have h := ite_t c_3 h
    refine lv_aload_n hx hb dX0_giveAway_14 rfl (lv_at hl 1 rfl) ?_
    refine va_get (D := G.1) (ci := 0) (v := .ref (gad G (7 + c))) (C := RX0) (T := TX0) (N := 12) hx hb hts hiX0 hown hK.1 hW.1 c (lkC (c := c) (by omega)) rfl 0 (by decide) (hts _ (List.mem_of_getElem? (i := 1) rfl)) (fun _ h9 => h9) rfl dX0_giveAway_15 ?_
    refine lv_iload_n hx hb dX0_giveAway_18 rfl (lv_at hl 2 rfl) ?_
    refine lv_aload_n hx hb dX0_giveAway_19 rfl (lv_at hl 1 rfl) ?_
    refine lv_aload_n hx hb dX0_giveAway_20 rfl (lv_at hl 1 rfl) ?_
    refine va_get (D := G.1) (ci := 0) (v := .ref (gad G (7 + c))) (C := RX0) (T := TX0) (N := 12) hx hb hts hiX0 hown hK.1 hW.1 c (lkC (c := c) (by omega)) rfl 0 (by decide) (hts _ (List.mem_of_getElem? (i := 1) rfl)) (fun _ h9 => h9) rfl dX0_giveAway_21 ?_
    refine lv_iload_n hx hb dX0_giveAway_24 rfl (lv_at hl 2 rfl) ?_
    obtain ⟨r_9, e_10, h⟩ := bnd_e h
    refine kV_I (As := [.int p1]) (rest := [.ref (gad G c), .int p1, .ref (gad G (7 + c))]) ⟨hx, hb, hml, hown, hts⟩ (tX3_ownersBeside l G S0 M0 c (by omega) p1 r_9 e_10) (cwV 1 hts gX0_giveAway_X3_ownersBeside rfl rfl rfl ⟨rfl, hdX3_ownersBeside⟩ ⟨Nat.le_of_ble_eq_true rfl, Nat.le_of_ble_eq_true rfl⟩) (va_recv hK.1 hW.1 (ci := 3) (q0 := (7 + c)) rfl (lkP (c := c) (by omega))) hK hW hS hA rfl hl.1 rfl (Nat.le_of_ble_eq_true rfl) dX0_giveAway_25 ⟨Nat.zero_le _, Nat.zero_le _⟩ (fun H locs hW hS => ?_)
    obtain ⟨r_11, e_12, h⟩ := bnd_e h
    refine kV_I (As := [.int r_9]) (rest := [.int p1, .ref (gad G (7 + c))]) ⟨hx, hb, hml, hown, hts⟩ (tX0_leastOf l G S0 M0 c (by omega) r_9 r_11 e_12) (cwV 1 hts gX0_giveAway_X0_leastOf rfl rfl rfl ⟨rfl, hdX0_leastOf⟩ ⟨Nat.le_of_ble_eq_true rfl, Nat.le_of_ble_eq_true rfl⟩) (va_recv hK.1 hW.1 (ci := 0) (q0 := c) rfl (lkC (c := c) (by omega))) hK hW hS hA rfl hl.1 rfl (Nat.le_of_ble_eq_true rfl) dX0_giveAway_28 ⟨Nat.zero_le _, Nat.zero_le _⟩ (fun H locs hW hS => ?_)
    obtain ⟨S_13, e_14, h⟩ := bnd_e h
    refine kV_V (As := [.int p1, .int r_11]) (rest := []) ⟨hx, hb, hml, hown, hts⟩ (tX3_giveTo l G S0 M0 c (by omega) p1 r_11 S_13 e_14) (cwV 2 hts gX0_giveAway_X3_giveTo rfl rfl rfl ⟨rfl, hdX3_giveTo⟩ ⟨Nat.le_of_ble_eq_true rfl, Nat.le_of_ble_eq_true rfl⟩) (va_recv hK.1 hW.1 (ci := 3) (q0 := (7 + c)) rfl (lkP (c := c) (by omega))) hK hW hS hA rfl hl.1 rfl (Nat.le_of_ble_eq_true rfl) dX0_giveAway_31 ⟨Nat.zero_le _, Nat.zero_le _⟩ (fun H locs hW hS => ?_)
    refine lv_aload_n hx hb dX0_giveAway_34 rfl (lv_at hl 1 rfl) ?_
    refine lv_dup hx hb dX0_giveAway_35 rfl ?_
    refine va_get (D := G.1) (ci := 0) (v := .int (S_13.1 (6 * c + 5))) (C := RX0) (T := TX0) (N := 12) hx hb hts hiX0 hown hK.1 hW.1 c (lkC (c := c) (by omega)) rfl 11 (by decide) (hts _ (List.mem_of_getElem? (i := 2) rfl)) (fun _ h9 => h9) rfl dX0_giveAway_36 ?_
    refine lv_iconst (v := 1) hx hb dX0_giveAway_39 (by decide) ?_
    refine lv_iadd hx hb dX0_giveAway_40 ?_
    obtain ⟨S_15, eS_15, h⟩ := nam_e h
    refine va_put (D := G.1) (ci := 0) (v := .int ((S_13.1 (6 * c + 5) + 1))) (ty := .int) (C := RX0) (T := TX0) (N := 12) hx hb hts hiX0 tyX0 tyX0_ok nmX0 hown hK.1 hW.1 (hW.D hA) hS c (lkC (c := c) (by omega)) rfl 11 (by decide) (hts _ (List.mem_of_getElem? (i := 2) rfl)) (fun _ h9 => h9) rfl (by decide +kernel) rfl rfl (Nat.le_of_ble_eq_true rfl) dX0_giveAway_41 (fun H locs hP hD hS => ?_)
    have hW := upC5 (c := c) (by omega) hW hP
    rw [← eS_15] at hW
    refine lv_goto (tgt := 74) hx hb dX0_giveAway_44 (by decide) ?_
    exact B74 _ _ S_15 hW hS ls (lv_sub hl [] rfl) h
abbrev rX0_sendAway : Room := { frames := 5, cells := 0, slots := 0, locals := 115 }
set_option maxRecDepth 100000 in
set_option maxHeartbeats 8000000 in
theorem tX0_sendAway (l : Launch) (G : WG) (S0 M0 : St) (c : Nat) (hc : c < 7) (p1 : Int32) (S' : St) (h : f0_sendAway S0 c p1 = some (S')) : CtV l yX0_sendAway wsX0_sendAway rX0_sendAway G [.ref (gad G c), .int p1] S0 M0 S' M0 := by
  refine Met.ofW (cc := cX0_sendAway) (maxL := 4) (ret := none) (by decide) rfl ?_
  intro p e s m args below meth cd s₁ B hml hv
  obtain ⟨hargs, hK, hW⟩ := hv
  have hx := B.exec
  have hb := B.bytes
  have hr := B.returns
  have hts := atoms_spec (ws := wsX0_sendAway) B.pre
  have hown : s.vm.findClass RX0 = some m.cls := findClass_of_methodNamed B.named
  have hlocks := B.notSynchronized
  have hA : ∀ q, Aw G q → Aw G q := fun _ h => h
  have hS : va_S (Aw G) s.heap s.heap [] := va_S.rf
  have he0 : entryFrame m args 4 = F0 m 0 ((lg_sl ([.ref (gad G c), .int p1]) ++ List.replicate (4 - (lg_sl ([.ref (gad G c), .int p1])).length) Slot.unset).toArray) [] := by rw [hargs]; exact lg_entry_eq _ _ _
  have hl := lv_entry ([.ref (gad G c), .int p1]) (n := 4) (Nat.le_of_ble_eq_true rfl)
  rw [he0]
  generalize (lg_sl ([.ref (gad G c), .int p1]) ++ List.replicate (4 - (lg_sl ([.ref (gad G c), .int p1])).length) Slot.unset).toArray = ls at hl ⊢
  have hl : lv_has ls 4 [(0, .ref (gad G c)), (1, .int p1)] := hl
  have hiX0 : ∀ w ∈ u_ws RX0 TX0 12, w ∈ wsX0_sendAway := by decide +kernel
  have B26 : ∀ (n : Nat), ∀ (H : Heap) (locs : List Loc) (S : St) (_ : WD G S M0 H) (_ : va_S (Aw G) s.heap H locs) (ls : Array Slot) (l1 : Int32) (l2 : Int32) (_ : lv_has ls 4 [(0, .ref (gad G c)), (1, .int l1), (2, .int l2)]) (h : f0_sendAway_b26 c l1 n S l2 = some (S')), WV p l e (headSpec wsX0_sendAway rX0_sendAway).room s m args below meth cd G S' M0 H locs (F0 m 26 ls []) := by
    intro n
    induction n with
    | zero => intro H locs S hW hS ls l1 l2 hl h; cases (show (none : Option (St)) = some _ from h)
    | succ n ih =>
      intro H locs S hW hS ls l1 l2 hl h
      rw [f0_sendAway_b26] at h
      refine lv_iload_n hx hb dX0_sendAway_26 rfl (lv_at hl 2 rfl) ?_
      refine lv_sipush (v := 181) hx hb dX0_sendAway_27 (by decide) ?_
      refine lv_icmp_ge (tgt := 59) hx hb dX0_sendAway_30 (by decide) (fun c_1 => ?_) (fun c_1 => ?_)
      · have h := ite_t c_1 h
        obtain rfl := Option.some.inj h
        exact W.vret hx hb hr (fun t ht hw => ⟨⟨(), rfl, trivial, hW.ret ht⟩, hS.F ht⟩) hS.2.2 dX0_sendAway_59
      · have h := ite_f c_1 h
        refine lv_aload_n hx hb dX0_sendAway_33 rfl (lv_at hl 0 rfl) ?_
        refine va_get (D := G.1) (ci := 0) (v := .ref (gad G (7 + c))) (C := RX0) (T := TX0) (N := 12) hx hb hts hiX0 hown hK.1 hW.1 c (lkC (c := c) (by omega)) rfl 0 (by decide) (hts _ (List.mem_of_getElem? (i := 2) rfl)) (fun _ h9 => h9) rfl dX0_sendAway_34 ?_
        refine lv_iload_n hx hb dX0_sendAway_37 rfl (lv_at hl 1 rfl) ?_
        obtain ⟨r_2, e_3, h⟩ := bnd_e h
        refine kV_I (As := [.int l1]) (rest := []) ⟨hx, hb, hml, hown, hts⟩ (tX3_firstToGive l G S M0 c (by omega) l1 r_2 e_3) (cwV 1 hts gX0_sendAway_X3_firstToGive rfl rfl rfl ⟨rfl, hdX3_firstToGive⟩ ⟨Nat.le_of_ble_eq_true rfl, Nat.le_of_ble_eq_true rfl⟩) (va_recv hK.1 hW.1 (ci := 3) (q0 := (7 + c)) rfl (lkP (c := c) (by omega))) hK hW hS hA rfl hl.1 rfl (Nat.le_of_ble_eq_true rfl) dX0_sendAway_38 ⟨Nat.zero_le _, Nat.zero_le _⟩ (fun H locs hW hS => ?_)
        refine lv_istore_n (lv' := [(3, .int r_2), (0, .ref (gad G c)), (1, .int l1), (2, .int l2)]) hx hb dX0_sendAway_41 rfl hl (by decide) rfl (fun ls hl => ?_)
        refine lv_iload_n hx hb dX0_sendAway_42 rfl (lv_at hl 0 rfl) ?_
        refine lv_iconst (v := (-1)) hx hb dX0_sendAway_43 (by decide) ?_
        refine lv_icmp_ne (tgt := 48) hx hb dX0_sendAway_44 (by decide) (fun c_4 => ?_) (fun c_4 => ?_)
        · have h := ite_f c_4 h
          refine lv_aload_n hx hb dX0_sendAway_48 rfl (lv_at hl 1 rfl) ?_
          refine lv_iload_n hx hb dX0_sendAway_49 rfl (lv_at hl 0 rfl) ?_
          obtain ⟨S_5, e_6, h⟩ := bnd_e h
          refine kV_V (As := [.int r_2]) (rest := []) ⟨hx, hb, hml, hown, hts⟩ (tX0_giveAway l G S M0 c (by omega) r_2 S_5 e_6) (cwV 1 hts gX0_sendAway_X0_giveAway rfl rfl rfl ⟨rfl, hdX0_giveAway⟩ ⟨Nat.le_of_ble_eq_true rfl, Nat.le_of_ble_eq_true rfl⟩) (va_recv hK.1 hW.1 (ci := 0) (q0 := c) rfl (lkC (c := c) (by omega))) hK hW hS hA rfl hl.1 rfl (Nat.le_of_ble_eq_true rfl) dX0_sendAway_50 ⟨Nat.zero_le _, Nat.zero_le _⟩ (fun H locs hW hS => ?_)
          refine lv_iinc (v := (l2 + 1)) (lv' := [(2, .int ((l2 + 1))), (3, .int r_2), (0, .ref (gad G c)), (1, .int l1)]) hx hb dX0_sendAway_53 hl (k := 3) rfl rfl (by decide) rfl (fun ls hl => ?_)
          refine lv_goto (tgt := 26) hx hb dX0_sendAway_56 (by decide) ?_
          exact ih _ _ S_5 hW hS ls l1 ((l2 + 1)) (lv_sub hl [2, 3, 0] rfl) h
        · have h := ite_t c_4 h
          obtain rfl := Option.some.inj h
          exact W.vret hx hb hr (fun t ht hw => ⟨⟨(), rfl, trivial, hW.ret ht⟩, hS.F ht⟩) hS.2.2 dX0_sendAway_47
  unfold f0_sendAway at h
  refine lv_aload_n hx hb dX0_sendAway_0 rfl (lv_at hl 0 rfl) ?_
  refine va_get (D := G.1) (ci := 0) (v := .ref (gad G (14 + (10 * c + 6)))) (C := RX0) (T := TX0) (N := 12) hx hb hts hiX0 hown hK.1 hW.1 c (lkC (c := c) (by omega)) rfl 3 (by decide) (hts _ (List.mem_of_getElem? (i := 1) rfl)) (fun _ h9 => h9) rfl dX0_sendAway_1 ?_
  refine lv_iload_n hx hb dX0_sendAway_4 rfl (lv_at hl 1 rfl) ?_
  refine lv_iconst (v := 0) hx hb dX0_sendAway_5 (by decide) ?_
  obtain ⟨S_1, e_2, h⟩ := bnd_e h
  refine kV_V (As := [.int p1, .int 0]) (rest := []) ⟨hx, hb, hml, hown, hts⟩ (tX4_put l G S0 M0 ((10 * c + 6)) (by omega) p1 0 S_1 e_2) (cwV 2 hts gX0_sendAway_X4_put rfl rfl rfl ⟨rfl, hdX4_put⟩ ⟨Nat.le_of_ble_eq_true rfl, Nat.le_of_ble_eq_true rfl⟩) (va_recv hK.1 hW.1 (ci := 4) (q0 := (14 + (10 * c + 6))) rfl (lkR (r := (10 * c + 6)) (by omega))) hK hW hS hA rfl hl.1 rfl (Nat.le_of_ble_eq_true rfl) dX0_sendAway_6 ⟨Nat.zero_le _, Nat.zero_le _⟩ (fun H locs hW hS => ?_)
  refine lv_aload_n hx hb dX0_sendAway_9 rfl (lv_at hl 0 rfl) ?_
  obtain ⟨r_3, e_4, h⟩ := bnd_e h
  refine kV_I (As := []) (rest := []) ⟨hx, hb, hml, hown, hts⟩ (tX0_campersHere l G S_1 M0 c (by omega) r_3 e_4) (cwV 0 hts gX0_sendAway_X0_campersHere rfl rfl rfl ⟨rfl, hdX0_campersHere⟩ ⟨Nat.le_of_ble_eq_true rfl, Nat.le_of_ble_eq_true rfl⟩) (va_recv hK.1 hW.1 (ci := 0) (q0 := c) rfl (lkC (c := c) (by omega))) hK hW hS hA rfl hl.1 rfl (Nat.le_of_ble_eq_true rfl) dX0_sendAway_10 ⟨Nat.zero_le _, Nat.zero_le _⟩ (fun H locs hW hS => ?_)
  refine lv_if_ne (tgt := 24) hx hb dX0_sendAway_13 (by decide) (fun c_5 => ?_) (fun c_5 => ?_)
  · have h := ite_f c_5 h
    refine lv_iconst (v := 0) hx hb dX0_sendAway_24 (by decide) ?_
    refine lv_istore_n (lv' := [(2, .int 0), (0, .ref (gad G c)), (1, .int p1)]) hx hb dX0_sendAway_25 rfl hl (by decide) rfl (fun ls hl => ?_)
    exact B26 fuelN _ _ S_1 hW hS ls p1 0 (lv_sub hl [1, 2, 0] rfl) h
  · have h := ite_t c_5 h
    refine lv_aload_n hx hb dX0_sendAway_16 rfl (lv_at hl 0 rfl) ?_
    refine va_get (D := G.1) (ci := 0) (v := .ref (gad G (7 + c))) (C := RX0) (T := TX0) (N := 12) hx hb hts hiX0 hown hK.1 hW.1 c (lkC (c := c) (by omega)) rfl 0 (by decide) (hts _ (List.mem_of_getElem? (i := 2) rfl)) (fun _ h9 => h9) rfl dX0_sendAway_17 ?_
    obtain ⟨S_6, e_7, h⟩ := bnd_e h
    refine kV_V (As := []) (rest := []) ⟨hx, hb, hml, hown, hts⟩ (tX3_joinAll l G S_1 M0 c (by omega) S_6 e_7) (cwV 0 hts gX0_sendAway_X3_joinAll rfl rfl rfl ⟨rfl, hdX3_joinAll⟩ ⟨Nat.le_of_ble_eq_true rfl, Nat.le_of_ble_eq_true rfl⟩) (va_recv hK.1 hW.1 (ci := 3) (q0 := (7 + c)) rfl (lkP (c := c) (by omega))) hK hW hS hA rfl hl.1 rfl (Nat.le_of_ble_eq_true rfl) dX0_sendAway_20 ⟨Nat.zero_le _, Nat.zero_le _⟩ (fun H locs hW hS => ?_)
    obtain rfl := Option.some.inj h
    exact W.vret hx hb hr (fun t ht hw => ⟨⟨(), rfl, trivial, hW.ret ht⟩, hS.F ht⟩) hS.2.2 dX0_sendAway_23
