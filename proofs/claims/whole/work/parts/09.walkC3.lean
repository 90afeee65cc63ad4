abbrev rX6_wants : Room := { frames := 1, cells := 0, slots := 0, locals := 20 }
set_option maxRecDepth 100000 in
set_option maxHeartbeats 8000000 in
theorem tX6_wants (l : Launch) (G : WG) (S0 M0 : St) (p1 : Int32) (M' : St) (h : f6_wants M0 p1 = some (M')) : CtV l yX6_wants wsX6_wants rX6_wants G [.ref (gad G 159), .int p1] S0 M0 S0 M' := by
  refine Met.ofW (cc := cX6_wants) (maxL := 2) (ret := none) (by decide) rfl ?_
  intro p e s m args below meth cd s₁ B hml hv
  obtain ⟨hargs, hK, hW⟩ := hv
  have hx := B.exec
  have hb := B.bytes
  have hr := B.returns
  have hts := atoms_spec (ws := wsX6_wants) B.pre
  have hown : s.vm.findClass RX6 = some m.cls := findClass_of_methodNamed B.named
  have hlocks := B.notSynchronized
  have hA : ∀ q, Aw G q → Aw G q := fun _ h => h
  have hS : va_S (Aw G) s.heap s.heap [] := va_S.rf
  have he0 : entryFrame m args 2 = F0 m 0 ((lg_sl ([.ref (gad G 159), .int p1]) ++ List.replicate (2 - (lg_sl ([.ref (gad G 159), .int p1])).length) Slot.unset).toArray) [] := by rw [hargs]; exact lg_entry_eq _ _ _
  have hl := lv_entry ([.ref (gad G 159), .int p1]) (n := 2) (Nat.le_of_ble_eq_true rfl)
  rw [he0]
  generalize (lg_sl ([.ref (gad G 159), .int p1]) ++ List.replicate (2 - (lg_sl ([.ref (gad G 159), .int p1])).length) Slot.unset).toArray = ls at hl ⊢
  have hl : lv_has ls 2 [(0, .ref (gad G 159)), (1, .int p1)] := hl
  have hiX6 : ∀ w ∈ u_ws RX6 TX6 14, w ∈ wsX6_wants := by decide +kernel
  have B41 : ∀ (H : Heap) (locs : List Loc) (M : St) (_ : WD G S0 M H) (_ : va_S (Aw G) s.heap H locs) (ls : Array Slot) (k0 : Int32) (k1 : Int32) (_ : lv_has ls 2 []) (h : f6_wants_b41 M k0 k1 = some (M')), WV p l e (headSpec wsX6_wants rX6_wants).room s m args below meth cd G S0 M' H locs (F0 m 41 ls [.int k0, .int k1, .ref (gad G 159)]) := by
    intro H locs M hW hS ls k0 k1 hl h
    unfold f6_wants_b41 at h
    refine lv_iadd hx hb dX6_wants_41 ?_
    obtain ⟨M_1, eM_1, h⟩ := nam_e h
    refine va_put (D := G.1) (ci := 6) (v := .int ((k1 + k0))) (ty := .int) (C := RX6) (T := TX6) (N := 14) hx hb hts hiX6 tyX6 tyX6_ok nmX6 hown hK.1 hW.1 (hW.D hA) hS 159 lkM rfl 9 (by decide) (hts _ (List.mem_of_getElem? (i := 2) rfl)) (fun _ h9 => h9) rfl (by decide +kernel) rfl rfl (Nat.le_of_ble_eq_true rfl) dX6_wants_42 (fun H locs hP hD hS => ?_)
    have hW := upM4 hW hP
    rw [← eM_1] at hW
    obtain rfl := Option.some.inj h
    exact W.vret hx hb hr (fun t ht hw => ⟨⟨(), rfl, trivial, hW.ret ht⟩, hS.F ht⟩) hS.2.2 dX6_wants_45
  have B21 : ∀ (H : Heap) (locs : List Loc) (M : St) (_ : WD G S0 M H) (_ : va_S (Aw G) s.heap H locs) (ls : Array Slot) (k0 : Int32) (_ : lv_has ls 2 [(0, .ref (gad G 159))]) (h : f6_wants_b21 M k0 = some (M')), WV p l e (headSpec wsX6_wants rX6_wants).room s m args below meth cd G S0 M' H locs (F0 m 21 ls [.int k0, .ref (gad G 159)]) := by
    intro H locs M hW hS ls k0 hl h
    unfold f6_wants_b21 at h
    obtain ⟨z_1, h⟩ := isz_e h
    obtain ⟨M_2, eM_2, h⟩ := nam_e h
    refine va_put (D := G.1) (ci := 6) (v := .int k0) (ty := .boolean) (C := RX6) (T := TX6) (N := 14) hx hb hts hiX6 tyX6 tyX6_ok nmX6 hown hK.1 hW.1 (hW.D hA) hS 159 lkM rfl 10 (by decide) (hts _ (List.mem_of_getElem? (i := 1) rfl)) (fun _ h9 => h9) rfl (by decide +kernel) (nz_1 z_1) (nz_2 z_1) (Nat.le_of_ble_eq_true rfl) dX6_wants_21 (fun H locs hP hD hS => ?_)
    have hW := upM5 hW hP
    rw [← eM_2] at hW
    refine lv_aload_n hx hb dX6_wants_24 rfl (lv_at hl 0 rfl) ?_
    refine lv_dup hx hb dX6_wants_25 rfl ?_
    refine va_get (D := G.1) (ci := 6) (v := .int (M_2.1 4)) (C := RX6) (T := TX6) (N := 14) hx hb hts hiX6 hown hK.1 hW.1 159 lkM rfl 9 (by decide) (hts _ (List.mem_of_getElem? (i := 2) rfl)) (fun _ h9 => h9) rfl dX6_wants_26 ?_
    refine lv_aload_n hx hb dX6_wants_29 rfl (lv_at hl 0 rfl) ?_
    refine va_get (D := G.1) (ci := 6) (v := .int (M_2.1 5)) (C := RX6) (T := TX6) (N := 14) hx hb hts hiX6 hown hK.1 hW.1 159 lkM rfl 10 (by decide) (hts _ (List.mem_of_getElem? (i := 1) rfl)) (fun _ h9 => h9) rfl dX6_wants_30 ?_
    refine lv_if_eq (tgt := 40) hx hb dX6_wants_33 (by decide) (fun c_3 => ?_) (fun c_3 => ?_)
    · have h := ite_t c_3 h
      refine lv_iconst (v := 0) hx hb dX6_wants_40 (by decide) ?_
      exact B41 _ _ M_2 hW hS ls 0 (M_2.1 4) (lv_sub hl [] rfl) h
    · have h := ite_f c_3 h
      refine lv_iconst (v := 1) hx hb dX6_wants_36 (by decide) ?_
      refine lv_goto (tgt := 41) hx hb dX6_wants_37 (by decide) ?_
      exact B41 _ _ M_2 hW hS ls 1 (M_2.1 4) (lv_sub hl [] rfl) h
  have B20 : ∀ (H : Heap) (locs : List Loc) (M : St) (_ : WD G S0 M H) (_ : va_S (Aw G) s.heap H locs) (ls : Array Slot) (_ : lv_has ls 2 [(0, .ref (gad G 159))]) (h : f6_wants_b20 M  = some (M')), WV p l e (headSpec wsX6_wants rX6_wants).room s m args below meth cd G S0 M' H locs (F0 m 20 ls [.ref (gad G 159)]) := by
    intro H locs M hW hS ls hl h
    unfold f6_wants_b20 at h
    refine lv_iconst (v := 0) hx hb dX6_wants_20 (by decide) ?_
    exact B21 _ _ M hW hS ls 0 (lv_sub hl [0] rfl) h
  unfold f6_wants at h
  refine lv_aload_n hx hb dX6_wants_0 rfl (lv_at hl 0 rfl) ?_
  refine lv_aload_n hx hb dX6_wants_1 rfl (lv_at hl 0 rfl) ?_
  refine va_get (D := G.1) (ci := 6) (v := .int (M0.1 5)) (C := RX6) (T := TX6) (N := 14) hx hb hts hiX6 hown hK.1 hW.1 159 lkM rfl 10 (by decide) (hts _ (List.mem_of_getElem? (i := 1) rfl)) (fun _ h9 => h9) rfl dX6_wants_2 ?_
  refine lv_if_eq (tgt := 20) hx hb dX6_wants_5 (by decide) (fun c_1 => ?_) (fun c_1 => ?_)
  · have h := ite_t c_1 h
    exact B20 _ _ M0 hW hS ls (lv_sub hl [0] rfl) h
  · have h := ite_f c_1 h
    refine lv_aload_n hx hb dX6_wants_8 rfl (lv_at hl 0 rfl) ?_
    obtain ⟨r_2, e_3, h⟩ := bnd_e h
    refine kV_I (As := []) (rest := [.ref (gad G 159)]) ⟨hx, hb, hml, hown, hts⟩ (tX6_sign l G S0 M0 r_2 e_3) (cwV 0 hts gX6_wants_X6_sign rfl rfl rfl ⟨rfl, hdX6_sign⟩ ⟨Nat.le_of_ble_eq_true rfl, Nat.le_of_ble_eq_true rfl⟩) (va_recv hK.1 hW.1 (ci := 6) (q0 := 159) rfl lkM) hK hW hS hA rfl hl.1 rfl (Nat.le_of_ble_eq_true rfl) dX6_wants_9 ⟨Nat.zero_le _, Nat.zero_le _⟩ (fun H locs hW hS => ?_)
    refine lv_iload_n hx hb dX6_wants_12 rfl (lv_at hl 1 rfl) ?_
    refine lv_icmp_ne (tgt := 20) hx hb dX6_wants_13 (by decide) (fun c_4 => ?_) (fun c_4 => ?_)
    · have h := ite_f c_4 h
      exact B20 _ _ M0 hW hS ls (lv_sub hl [0] rfl) h
    · have h := ite_t c_4 h
      refine lv_iconst (v := 1) hx hb dX6_wants_16 (by decide) ?_
      refine lv_goto (tgt := 21) hx hb dX6_wants_17 (by decide) ?_
      exact B21 _ _ M0 hW hS ls 1 (lv_sub hl [0] rfl) h
abbrev rX6_readsPoint : Room := { frames := 2, cells := 0, slots := 0, locals := 43 }
set_option maxRecDepth 100000 in
set_option maxHeartbeats 8000000 in
theorem tX6_readsPoint (l : Launch) (G : WG) (S0 M0 : St) (M' : St) (h : f6_readsPoint M0 = some (M')) : CtV l yX6_readsPoint wsX6_readsPoint rX6_readsPoint G [.ref (gad G 159)] S0 M0 S0 M' := by
  refine Met.ofW (cc := cX6_readsPoint) (maxL := 1) (ret := none) (by decide) rfl ?_
  intro p e s m args below meth cd s₁ B hml hv
  obtain ⟨hargs, hK, hW⟩ := hv
  have hx := B.exec
  have hb := B.bytes
  have hr := B.returns
  have hts := atoms_spec (ws := wsX6_readsPoint) B.pre
  have hown : s.vm.findClass RX6 = some m.cls := findClass_of_methodNamed B.named
  have hlocks := B.notSynchronized
  have hA : ∀ q, Aw G q → Aw G q := fun _ h => h
  have hS : va_S (Aw G) s.heap s.heap [] := va_S.rf
  have he0 : entryFrame m args 1 = F0 m 0 ((lg_sl ([.ref (gad G 159)]) ++ List.replicate (1 - (lg_sl ([.ref (gad G 159)])).length) Slot.unset).toArray) [] := by rw [hargs]; exact lg_entry_eq _ _ _
  have hl := lv_entry ([.ref (gad G 159)]) (n := 1) (Nat.le_of_ble_eq_true rfl)
  rw [he0]
  generalize (lg_sl ([.ref (gad G 159)]) ++ List.replicate (1 - (lg_sl ([.ref (gad G 159)])).length) Slot.unset).toArray = ls at hl ⊢
  have hl : lv_has ls 1 [(0, .ref (gad G 159))] := hl
  have hiX6 : ∀ w ∈ u_ws RX6 TX6 14, w ∈ wsX6_readsPoint := by decide +kernel
  have B49 : ∀ (H : Heap) (locs : List Loc) (M : St) (_ : WD G S0 M H) (_ : va_S (Aw G) s.heap H locs) (ls : Array Slot) (k0 : Int32) (k1 : Int32) (_ : lv_has ls 1 []) (h : f6_readsPoint_b49 M k0 k1 = some (M')), WV p l e (headSpec wsX6_readsPoint rX6_readsPoint).room s m args below meth cd G S0 M' H locs (F0 m 49 ls [.int k0, .int k1, .ref (gad G 159)]) := by
    intro H locs M hW hS ls k0 k1 hl h
    unfold f6_readsPoint_b49 at h
    refine lv_iadd hx hb dX6_readsPoint_49 ?_
    obtain ⟨M_1, eM_1, h⟩ := nam_e h
    refine va_put (D := G.1) (ci := 6) (v := .int ((k1 + k0))) (ty := .int) (C := RX6) (T := TX6) (N := 14) hx hb hts hiX6 tyX6 tyX6_ok nmX6 hown hK.1 hW.1 (hW.D hA) hS 159 lkM rfl 13 (by decide) (hts _ (List.mem_of_getElem? (i := 2) rfl)) (fun _ h9 => h9) rfl (by decide +kernel) rfl rfl (Nat.le_of_ble_eq_true rfl) dX6_readsPoint_50 (fun H locs hP hD hS => ?_)
    have hW := upM6 hW hP
    rw [← eM_1] at hW
    obtain rfl := Option.some.inj h
    exact W.vret hx hb hr (fun t ht hw => ⟨⟨(), rfl, trivial, hW.ret ht⟩, hS.F ht⟩) hS.2.2 dX6_readsPoint_53
  unfold f6_readsPoint at h
  refine lv_aload_n hx hb dX6_readsPoint_0 rfl (lv_at hl 0 rfl) ?_
  refine va_get (D := G.1) (ci := 6) (v := .ref (gad G (160 + 5))) (C := RX6) (T := TX6) (N := 14) hx hb hts hiX6 hown hK.1 hW.1 159 lkM rfl 11 (by decide) (hts _ (List.mem_of_getElem? (i := 1) rfl)) (fun _ h9 => h9) rfl dX6_readsPoint_1 ?_
  refine lv_aload_n hx hb dX6_readsPoint_4 rfl (lv_at hl 0 rfl) ?_
  refine va_get (D := G.1) (ci := 6) (v := .int (M0.1 6)) (C := RX6) (T := TX6) (N := 14) hx hb hts hiX6 hown hK.1 hW.1 159 lkM rfl 13 (by decide) (hts _ (List.mem_of_getElem? (i := 2) rfl)) (fun _ h9 => h9) rfl dX6_readsPoint_5 ?_
  refine lv_aload_n hx hb dX6_readsPoint_8 rfl (lv_at hl 0 rfl) ?_
  obtain ⟨r_1, M_2, e_3, h⟩ := bd2_e h
  refine kV_I (As := []) (rest := [.int (M0.1 6), .ref (gad G (160 + 5))]) ⟨hx, hb, hml, hown, hts⟩ (tX6_number l G S0 M0 r_1 M_2 e_3) (cwV 0 hts gX6_readsPoint_X6_number rfl rfl rfl ⟨rfl, hdX6_number⟩ ⟨Nat.le_of_ble_eq_true rfl, Nat.le_of_ble_eq_true rfl⟩) (va_recv hK.1 hW.1 (ci := 6) (q0 := 159) rfl lkM) hK hW hS hA rfl hl.1 rfl (Nat.le_of_ble_eq_true rfl) dX6_readsPoint_9 ⟨Nat.zero_le _, Nat.zero_le _⟩ (fun H locs hW hS => ?_)
  obtain ⟨n_5, h⟩ := sto_e h
  obtain ⟨M_4, eM_4, h⟩ := nam_e h
  refine va_iast hx hb hK.1 hW.1 (hW.D hA) hS (160 + 5) 0 (lkMa (j := 5) (by omega)) rfl n_5 dX6_readsPoint_12 (fun H locs hP hD hS => ?_)
  have hW := upMa (j := 5) (by omega) hW hP
  rw [← eM_4] at hW
  refine lv_aload_n hx hb dX6_readsPoint_13 rfl (lv_at hl 0 rfl) ?_
  refine lv_bipush (v := 44) hx hb dX6_readsPoint_14 (by decide) ?_
  obtain ⟨M_6, e_7, h⟩ := bnd_e h
  refine kV_V (As := [.int 44]) (rest := []) ⟨hx, hb, hml, hown, hts⟩ (tX6_wants l G S0 M_4 44 M_6 e_7) (cwV 1 hts gX6_readsPoint_X6_wants rfl rfl rfl ⟨rfl, hdX6_wants⟩ ⟨Nat.le_of_ble_eq_true rfl, Nat.le_of_ble_eq_true rfl⟩) (va_recv hK.1 hW.1 (ci := 6) (q0 := 159) rfl lkM) hK hW hS hA rfl hl.1 rfl (Nat.le_of_ble_eq_true rfl) dX6_readsPoint_16 ⟨Nat.zero_le _, Nat.zero_le _⟩ (fun H locs hW hS => ?_)
  refine lv_aload_n hx hb dX6_readsPoint_19 rfl (lv_at hl 0 rfl) ?_
  refine va_get (D := G.1) (ci := 6) (v := .ref (gad G (160 + 6))) (C := RX6) (T := TX6) (N := 14) hx hb hts hiX6 hown hK.1 hW.1 159 lkM rfl 12 (by decide) (hts _ (List.mem_of_getElem? (i := 3) rfl)) (fun _ h9 => h9) rfl dX6_readsPoint_20 ?_
  refine lv_aload_n hx hb dX6_readsPoint_23 rfl (lv_at hl 0 rfl) ?_
  refine va_get (D := G.1) (ci := 6) (v := .int (M_6.1 6)) (C := RX6) (T := TX6) (N := 14) hx hb hts hiX6 hown hK.1 hW.1 159 lkM rfl 13 (by decide) (hts _ (List.mem_of_getElem? (i := 2) rfl)) (fun _ h9 => h9) rfl dX6_readsPoint_24 ?_
  refine lv_aload_n hx hb dX6_readsPoint_27 rfl (lv_at hl 0 rfl) ?_
  obtain ⟨r_8, M_9, e_10, h⟩ := bd2_e h
  refine kV_I (As := []) (rest := [.int (M_6.1 6), .ref (gad G (160 + 6))]) ⟨hx, hb, hml, hown, hts⟩ (tX6_number l G S0 M_6 r_8 M_9 e_10) (cwV 0 hts gX6_readsPoint_X6_number rfl rfl rfl ⟨rfl, hdX6_number⟩ ⟨Nat.le_of_ble_eq_true rfl, Nat.le_of_ble_eq_true rfl⟩) (va_recv hK.1 hW.1 (ci := 6) (q0 := 159) rfl lkM) hK hW hS hA rfl hl.1 rfl (Nat.le_of_ble_eq_true rfl) dX6_readsPoint_28 ⟨Nat.zero_le _, Nat.zero_le _⟩ (fun H locs hW hS => ?_)
  obtain ⟨n_12, h⟩ := sto_e h
  obtain ⟨M_11, eM_11, h⟩ := nam_e h
  refine va_iast hx hb hK.1 hW.1 (hW.D hA) hS (160 + 6) 0 (lkMa (j := 6) (by omega)) rfl n_12 dX6_readsPoint_31 (fun H locs hP hD hS => ?_)
  have hW := upMa (j := 6) (by omega) hW hP
  rw [← eM_11] at hW
  refine lv_aload_n hx hb dX6_readsPoint_32 rfl (lv_at hl 0 rfl) ?_
  refine lv_dup hx hb dX6_readsPoint_33 rfl ?_
  refine va_get (D := G.1) (ci := 6) (v := .int (M_11.1 6)) (C := RX6) (T := TX6) (N := 14) hx hb hts hiX6 hown hK.1 hW.1 159 lkM rfl 13 (by decide) (hts _ (List.mem_of_getElem? (i := 2) rfl)) (fun _ h9 => h9) rfl dX6_readsPoint_34 ?_
  refine lv_aload_n hx hb dX6_readsPoint_37 rfl (lv_at hl 0 rfl) ?_
  refine va_get (D := G.1) (ci := 6) (v := .int (M_11.1 5)) (C := RX6) (T := TX6) (N := 14) hx hb hts hiX6 hown hK.1 hW.1 159 lkM rfl 10 (by decide) (hts _ (List.mem_of_getElem? (i := 4) rfl)) (fun _ h9 => h9) rfl dX6_readsPoint_38 ?_
  refine lv_if_eq (tgt := 48) hx hb dX6_readsPoint_41 (by decide) (fun c_13 => ?_) (fun c_13 => ?_)
  · have h := ite_t c_13 h
    refine lv_iconst (v := 0) hx hb dX6_readsPoint_48 (by decide) ?_
    exact B49 _ _ M_11 hW hS ls 0 (M_11.1 6) (lv_sub hl [] rfl) h
  · have h := ite_f c_13 h
    refine lv_iconst (v := 1) hx hb dX6_readsPoint_44 (by decide) ?_
    refine lv_goto (tgt := 49) hx hb dX6_readsPoint_45 (by decide) ?_
    exact B49 _ _ M_11 hW hS ls 1 (M_11.1 6) (lv_sub hl [] rfl) h
abbrev rX6_reads : Room := { frames := 3, cells := 0, slots := 0, locals := 63 }
set_option maxRecDepth 100000 in
set_option maxHeartbeats 8000000 in
theorem tX6_reads (l : Launch) (G : WG) (S0 M0 : St) (rr : Int32) (M' : St) (h : f6_reads M0 = some (rr, M')) : CtI l yX6_reads wsX6_reads rX6_reads G [.ref (gad G 159)] S0 M0 rr S0 M' := by
  refine Met.ofW (cc := cX6_reads) (maxL := 1) (ret := (some .int)) (by decide) rfl ?_
  intro p e s m args below meth cd s₁ B hml hv
  obtain ⟨hargs, hK, hW⟩ := hv
  have hx := B.exec
  have hb := B.bytes
  have hr := B.returns
  have hts := atoms_spec (ws := wsX6_reads) B.pre
  have hown : s.vm.findClass RX6 = some m.cls := findClass_of_methodNamed B.named
  have hlocks := B.notSynchronized
  have hA : ∀ q, Aw G q → Aw G q := fun _ h => h
  have hS : va_S (Aw G) s.heap s.heap [] := va_S.rf
  have he0 : entryFrame m args 1 = F0 m 0 ((lg_sl ([.ref (gad G 159)]) ++ List.replicate (1 - (lg_sl ([.ref (gad G 159)])).length) Slot.unset).toArray) [] := by rw [hargs]; exact lg_entry_eq _ _ _
  have hl := lv_entry ([.ref (gad G 159)]) (n := 1) (Nat.le_of_ble_eq_true rfl)
  rw [he0]
  generalize (lg_sl ([.ref (gad G 159)]) ++ List.replicate (1 - (lg_sl ([.ref (gad G 159)])).length) Slot.unset).toArray = ls at hl ⊢
  have hl : lv_has ls 1 [(0, .ref (gad G 159))] := hl
  have hiX6 : ∀ w ∈ u_ws RX6 TX6 14, w ∈ wsX6_reads := by decide +kernel
  have B73 : ∀ (H : Heap) (locs : List Loc) (M : St) (_ : WD G S0 M H) (_ : va_S (Aw G) s.heap H locs) (ls : Array Slot) (k0 : Int32) (_ : lv_has ls 1 []) (h : f6_reads_b73 M k0 = some (rr, M')), WI p l e (headSpec wsX6_reads rX6_reads).room s m args below meth cd G rr S0 M' H locs (F0 m 73 ls [.int k0]) := by
    intro H locs M hW hS ls k0 hl h
    unfold f6_reads_b73 at h
    obtain ⟨rfl, rfl⟩ := Prod.mk.inj (Option.some.inj h)
    exact W.iret hx hb hr (fun t ht hw => ⟨⟨_, (), rfl, rfl, hW.ret ht⟩, hS.F ht⟩) hS.2.2 dX6_reads_73
  have B57 : ∀ (H : Heap) (locs : List Loc) (M : St) (_ : WD G S0 M H) (_ : va_S (Aw G) s.heap H locs) (ls : Array Slot) (_ : lv_has ls 1 [(0, .ref (gad G 159))]) (h : f6_reads_b57 M  = some (rr, M')), WI p l e (headSpec wsX6_reads rX6_reads).room s m args below meth cd G rr S0 M' H locs (F0 m 57 ls []) := by
    intro H locs M hW hS ls hl h
    unfold f6_reads_b57 at h
    refine lv_aload_n hx hb dX6_reads_57 rfl (lv_at hl 0 rfl) ?_
    refine va_get (D := G.1) (ci := 6) (v := .int (M.1 5)) (C := RX6) (T := TX6) (N := 14) hx hb hts hiX6 hown hK.1 hW.1 159 lkM rfl 10 (by decide) (hts _ (List.mem_of_getElem? (i := 2) rfl)) (fun _ h9 => h9) rfl dX6_reads_58 ?_
    refine lv_if_eq (tgt := 69) hx hb dX6_reads_61 (by decide) (fun c_1 => ?_) (fun c_1 => ?_)
    · have h := ite_t c_1 h
      refine lv_aload_n hx hb dX6_reads_69 rfl (lv_at hl 0 rfl) ?_
      refine va_get (D := G.1) (ci := 6) (v := .int (M.1 4)) (C := RX6) (T := TX6) (N := 14) hx hb hts hiX6 hown hK.1 hW.1 159 lkM rfl 9 (by decide) (hts _ (List.mem_of_getElem? (i := 1) rfl)) (fun _ h9 => h9) rfl dX6_reads_70 ?_
      exact B73 _ _ M hW hS ls (M.1 4) (lv_sub hl [] rfl) h
    · have h := ite_f c_1 h
      refine lv_bipush (v := (-5)) hx hb dX6_reads_64 (by decide) ?_
      refine lv_goto (tgt := 73) hx hb dX6_reads_66 (by decide) ?_
      exact B73 _ _ M hW hS ls ((-5)) (lv_sub hl [] rfl) h
  have B19 : ∀ (n : Nat), ∀ (H : Heap) (locs : List Loc) (M : St) (_ : WD G S0 M H) (_ : va_S (Aw G) s.heap H locs) (ls : Array Slot) (_ : lv_has ls 1 [(0, .ref (gad G 159))]) (h : f6_reads_b19  n M = some (rr, M')), WI p l e (headSpec wsX6_reads rX6_reads).room s m args below meth cd G rr S0 M' H locs (F0 m 19 ls []) := by
    intro n
    induction n with
    | zero => intro H locs M hW hS ls hl h; cases (show (none : Option (Int32 × St)) = some _ from h)
    | succ n ih =>
      intro H locs M hW hS ls hl h
      rw [f6_reads_b19] at h
      refine lv_aload_n hx hb dX6_reads_19 rfl (lv_at hl 0 rfl) ?_
      refine va_get (D := G.1) (ci := 6) (v := .int (M.1 5)) (C := RX6) (T := TX6) (N := 14) hx hb hts hiX6 hown hK.1 hW.1 159 lkM rfl 10 (by decide) (hts _ (List.mem_of_getElem? (i := 2) rfl)) (fun _ h9 => h9) rfl dX6_reads_20 ?_
      refine lv_if_eq (tgt := 57) hx hb dX6_reads_23 (by decide) (fun c_1 => ?_) (fun c_1 => ?_)
      · have h := ite_t c_1 h
        exact B57 _ _ M hW hS ls (lv_sub hl [0] rfl) h
      · have h := ite_f c_1 h
        refine lv_aload_n hx hb dX6_reads_26 rfl (lv_at hl 0 rfl) ?_
        refine va_get (D := G.1) (ci := 6) (v := .int (M.1 4)) (C := RX6) (T := TX6) (N := 14) hx hb hts hiX6 hown hK.1 hW.1 159 lkM rfl 9 (by decide) (hts _ (List.mem_of_getElem? (i := 1) rfl)) (fun _ h9 => h9) rfl dX6_reads_27 ?_
        refine lv_aload_n hx hb dX6_reads_30 rfl (lv_at hl 0 rfl) ?_
        refine va_get (D := G.1) (ci := 6) (v := .int (M.1 3)) (C := RX6) (T := TX6) (N := 14) hx hb hts hiX6 hown hK.1 hW.1 159 lkM rfl 8 (by decide) (hts _ (List.mem_of_getElem? (i := 4) rfl)) (fun _ h9 => h9) rfl dX6_reads_31 ?_
        refine lv_icmp_ge (tgt := 57) hx hb dX6_reads_34 (by decide) (fun c_2 => ?_) (fun c_2 => ?_)
        · have h := ite_t c_2 h
          exact B57 _ _ M hW hS ls (lv_sub hl [0] rfl) h
        · have h := ite_f c_2 h
          refine lv_aload_n hx hb dX6_reads_37 rfl (lv_at hl 0 rfl) ?_
          refine lv_bipush (v := 59) hx hb dX6_reads_38 (by decide) ?_
          obtain ⟨M_3, e_4, h⟩ := bnd_e h
          refine kV_V (As := [.int 59]) (rest := []) ⟨hx, hb, hml, hown, hts⟩ (tX6_wants l G S0 M 59 M_3 e_4) (cwV 1 hts gX6_reads_X6_wants rfl rfl rfl ⟨rfl, hdX6_wants⟩ ⟨Nat.le_of_ble_eq_true rfl, Nat.le_of_ble_eq_true rfl⟩) (va_recv hK.1 hW.1 (ci := 6) (q0 := 159) rfl lkM) hK hW hS hA rfl hl.1 rfl (Nat.le_of_ble_eq_true rfl) dX6_reads_40 ⟨Nat.zero_le _, Nat.zero_le _⟩ (fun H locs hW hS => ?_)
          refine lv_aload_n hx hb dX6_reads_43 rfl (lv_at hl 0 rfl) ?_
          refine va_get (D := G.1) (ci := 6) (v := .int (M_3.1 5)) (C := RX6) (T := TX6) (N := 14) hx hb hts hiX6 hown hK.1 hW.1 159 lkM rfl 10 (by decide) (hts _ (List.mem_of_getElem? (i := 2) rfl)) (fun _ h9 => h9) rfl dX6_reads_44 ?_
          refine lv_if_eq (tgt := 19) hx hb dX6_reads_47 (by decide) (fun c_5 => ?_) (fun c_5 => ?_)
          · have h := ite_t c_5 h
            exact ih _ _ M_3 hW hS ls (lv_sub hl [0] rfl) h
          · have h := ite_f c_5 h
            refine lv_aload_n hx hb dX6_reads_50 rfl (lv_at hl 0 rfl) ?_
            obtain ⟨M_6, e_7, h⟩ := bnd_e h
            refine kV_V (As := []) (rest := []) ⟨hx, hb, hml, hown, hts⟩ (tX6_readsPoint l G S0 M_3 M_6 e_7) (cwV 0 hts gX6_reads_X6_readsPoint rfl rfl rfl ⟨rfl, hdX6_readsPoint⟩ ⟨Nat.le_of_ble_eq_true rfl, Nat.le_of_ble_eq_true rfl⟩) (va_recv hK.1 hW.1 (ci := 6) (q0 := 159) rfl lkM) hK hW hS hA rfl hl.1 rfl (Nat.le_of_ble_eq_true rfl) dX6_reads_51 ⟨Nat.zero_le _, Nat.zero_le _⟩ (fun H locs hW hS => ?_)
            refine lv_goto (tgt := 19) hx hb dX6_reads_54 (by decide) ?_
            exact ih _ _ M_6 hW hS ls (lv_sub hl [0] rfl) h
  unfold f6_reads at h
  refine lv_aload_n hx hb dX6_reads_0 rfl (lv_at hl 0 rfl) ?_
  refine lv_iconst (v := 0) hx hb dX6_reads_1 (by decide) ?_
  obtain ⟨M_1, eM_1, h⟩ := nam_e h
  refine va_put (D := G.1) (ci := 6) (v := .int 0) (ty := .int) (C := RX6) (T := TX6) (N := 14) hx hb hts hiX6 tyX6 tyX6_ok nmX6 hown hK.1 hW.1 (hW.D hA) hS 159 lkM rfl 9 (by decide) (hts _ (List.mem_of_getElem? (i := 1) rfl)) (fun _ h9 => h9) rfl (by decide +kernel) rfl rfl (Nat.le_of_ble_eq_true rfl) dX6_reads_2 (fun H locs hP hD hS => ?_)
  have hW := upM4 hW hP
  rw [← eM_1] at hW
  refine lv_aload_n hx hb dX6_reads_5 rfl (lv_at hl 0 rfl) ?_
  refine lv_iconst (v := 1) hx hb dX6_reads_6 (by decide) ?_
  obtain ⟨M_2, eM_2, h⟩ := nam_e h
  refine va_put (D := G.1) (ci := 6) (v := .int 1) (ty := .boolean) (C := RX6) (T := TX6) (N := 14) hx hb hts hiX6 tyX6 tyX6_ok nmX6 hown hK.1 hW.1 (hW.D hA) hS 159 lkM rfl 10 (by decide) (hts _ (List.mem_of_getElem? (i := 2) rfl)) (fun _ h9 => h9) rfl (by decide +kernel) rfl rfl (Nat.le_of_ble_eq_true rfl) dX6_reads_7 (fun H locs hP hD hS => ?_)
  have hW := upM5 hW hP
  rw [← eM_2] at hW
  refine lv_aload_n hx hb dX6_reads_10 rfl (lv_at hl 0 rfl) ?_
  refine lv_iconst (v := 0) hx hb dX6_reads_11 (by decide) ?_
  obtain ⟨M_3, eM_3, h⟩ := nam_e h
  refine va_put (D := G.1) (ci := 6) (v := .int 0) (ty := .int) (C := RX6) (T := TX6) (N := 14) hx hb hts hiX6 tyX6 tyX6_ok nmX6 hown hK.1 hW.1 (hW.D hA) hS 159 lkM rfl 13 (by decide) (hts _ (List.mem_of_getElem? (i := 3) rfl)) (fun _ h9 => h9) rfl (by decide +kernel) rfl rfl (Nat.le_of_ble_eq_true rfl) dX6_reads_12 (fun H locs hP hD hS => ?_)
  have hW := upM6 hW hP
  rw [← eM_3] at hW
  refine lv_aload_n hx hb dX6_reads_15 rfl (lv_at hl 0 rfl) ?_
  obtain ⟨M_4, e_5, h⟩ := bnd_e h
  refine kV_V (As := []) (rest := []) ⟨hx, hb, hml, hown, hts⟩ (tX6_readsPoint l G S0 M_3 M_4 e_5) (cwV 0 hts gX6_reads_X6_readsPoint rfl rfl rfl ⟨rfl, hdX6_readsPoint⟩ ⟨Nat.le_of_ble_eq_true rfl, Nat.le_of_ble_eq_true rfl⟩) (va_recv hK.1 hW.1 (ci := 6) (q0 := 159) rfl lkM) hK hW hS hA rfl hl.1 rfl (Nat.le_of_ble_eq_true rfl) dX6_reads_16 ⟨Nat.zero_le _, Nat.zero_le _⟩ (fun H locs hW hS => ?_)
  exact B19 fuelN _ _ M_4 hW hS ls (lv_sub hl [0] rfl) h
abbrev rX6_comeAll : Room := { frames := 5, cells := 0, slots := 0, locals := 115 }
set_option maxRecDepth 100000 in
set_option maxHeartbeats 8000000 in
theorem tX6_comeAll (l : Launch) (G : WG) (S0 M0 : St) (rr : Int32) (M' : St) (h : f6_comeAll M0 = some (rr, M')) : CtI l yX6_comeAll wsX6_comeAll rX6_comeAll G [.ref (gad G 159)] S0 M0 rr S0 M' := by
  refine Met.ofW (cc := cX6_comeAll) (maxL := 4) (ret := (some .int)) (by decide) rfl ?_
  intro p e s m args below meth cd s₁ B hml hv
  obtain ⟨hargs, hK, hW⟩ := hv
  have hx := B.exec
  have hb := B.bytes
  have hr := B.returns
  have hts := atoms_spec (ws := wsX6_comeAll) B.pre
  have hown : s.vm.findClass RX6 = some m.cls := findClass_of_methodNamed B.named
  have hlocks := B.notSynchronized
  have hA : ∀ q, Aw G q → Aw G q := fun _ h => h
  have hS : va_S (Aw G) s.heap s.heap [] := va_S.rf
  have he0 : entryFrame m args 4 = F0 m 0 ((lg_sl ([.ref (gad G 159)]) ++ List.replicate (4 - (lg_sl ([.ref (gad G 159)])).length) Slot.unset).toArray) [] := by rw [hargs]; exact lg_entry_eq _ _ _
  have hl := lv_entry ([.ref (gad G 159)]) (n := 4) (Nat.le_of_ble_eq_true rfl)
  rw [he0]
  generalize (lg_sl ([.ref (gad G 159)]) ++ List.replicate (4 - (lg_sl ([.ref (gad G 159)])).length) Slot.unset).toArray = ls at hl ⊢
  have hl : lv_has ls 4 [(0, .ref (gad G 159))] := hl
  have hiX6 : ∀ w ∈ u_ws RX6 TX6 14, w ∈ wsX6_comeAll := by decide +kernel
  have B27 : ∀ (n : Nat), ∀ (H : Heap) (locs : List Loc) (M : St) (_ : WD G S0 M H) (_ : va_S (Aw G) s.heap H locs) (ls : Array Slot) (l2 : Int32) (_ : lv_has ls 4 [(0, .ref (gad G 159)), (2, .int l2)]) (h : f6_comeAll_b27  n M l2 = some (rr, M')), WI p l e (headSpec wsX6_comeAll rX6_comeAll).room s m args below meth cd G rr S0 M' H locs (F0 m 27 ls []) := by
    intro n
    induction n with
    | zero => intro H locs M hW hS ls l2 hl h; cases (show (none : Option (Int32 × St)) = some _ from h)
    | succ n ih =>
      intro H locs M hW hS ls l2 hl h
      rw [f6_comeAll_b27] at h
      refine lv_iload_n hx hb dX6_comeAll_27 rfl (lv_at hl 1 rfl) ?_
      refine lv_aload_n hx hb dX6_comeAll_28 rfl (lv_at hl 0 rfl) ?_
      refine va_get (D := G.1) (ci := 6) (v := .int (M.1 6)) (C := RX6) (T := TX6) (N := 14) hx hb hts hiX6 hown hK.1 hW.1 159 lkM rfl 13 (by decide) (hts _ (List.mem_of_getElem? (i := 2) rfl)) (fun _ h9 => h9) rfl dX6_comeAll_29 ?_
      refine lv_icmp_ge (tgt := 85) hx hb dX6_comeAll_32 (by decide) (fun c_1 => ?_) (fun c_1 => ?_)
      · have h := ite_t c_1 h
        refine lv_aload_n hx hb dX6_comeAll_85 rfl (lv_at hl 0 rfl) ?_
        obtain ⟨M_2, e_3, h⟩ := bnd_e h
        refine kV_V (As := []) (rest := []) ⟨hx, hb, hml, hown, hts⟩ (tX6_swapsAside l G S0 M M_2 e_3) (cwV 0 hts gX6_comeAll_X6_swapsAside rfl rfl rfl ⟨rfl, hdX6_swapsAside⟩ ⟨Nat.le_of_ble_eq_true rfl, Nat.le_of_ble_eq_true rfl⟩) (va_recv hK.1 hW.1 (ci := 6) (q0 := 159) rfl lkM) hK hW hS hA rfl hl.1 rfl (Nat.le_of_ble_eq_true rfl) dX6_comeAll_86 ⟨Nat.zero_le _, Nat.zero_le _⟩ (fun H locs hW hS => ?_)
        refine lv_aload_n hx hb dX6_comeAll_89 rfl (lv_at hl 0 rfl) ?_
        obtain ⟨M_4, e_5, h⟩ := bnd_e h
        refine kV_V (As := []) (rest := []) ⟨hx, hb, hml, hown, hts⟩ (tX6_records l G S0 M_2 M_4 e_5) (cwV 0 hts gX6_comeAll_X6_records rfl rfl rfl ⟨rfl, hdX6_records⟩ ⟨Nat.le_of_ble_eq_true rfl, Nat.le_of_ble_eq_true rfl⟩) (va_recv hK.1 hW.1 (ci := 6) (q0 := 159) rfl lkM) hK hW hS hA rfl hl.1 rfl (Nat.le_of_ble_eq_true rfl) dX6_comeAll_90 ⟨Nat.zero_le _, Nat.zero_le _⟩ (fun H locs hW hS => ?_)
        refine lv_aload_n hx hb dX6_comeAll_93 rfl (lv_at hl 0 rfl) ?_
        obtain ⟨M_6, e_7, h⟩ := bnd_e h
        refine kV_V (As := []) (rest := []) ⟨hx, hb, hml, hown, hts⟩ (tX6_swapsAside l G S0 M_4 M_6 e_7) (cwV 0 hts gX6_comeAll_X6_swapsAside rfl rfl rfl ⟨rfl, hdX6_swapsAside⟩ ⟨Nat.le_of_ble_eq_true rfl, Nat.le_of_ble_eq_true rfl⟩) (va_recv hK.1 hW.1 (ci := 6) (q0 := 159) rfl lkM) hK hW hS hA rfl hl.1 rfl (Nat.le_of_ble_eq_true rfl) dX6_comeAll_94 ⟨Nat.zero_le _, Nat.zero_le _⟩ (fun H locs hW hS => ?_)
        refine lv_aload_n hx hb dX6_comeAll_97 rfl (lv_at hl 0 rfl) ?_
        refine va_get (D := G.1) (ci := 6) (v := .int (M_6.1 6)) (C := RX6) (T := TX6) (N := 14) hx hb hts hiX6 hown hK.1 hW.1 159 lkM rfl 13 (by decide) (hts _ (List.mem_of_getElem? (i := 2) rfl)) (fun _ h9 => h9) rfl dX6_comeAll_98 ?_
        obtain ⟨rfl, rfl⟩ := Prod.mk.inj (Option.some.inj h)
        exact W.iret hx hb hr (fun t ht hw => ⟨⟨_, (), rfl, rfl, hW.ret ht⟩, hS.F ht⟩) hS.2.2 dX6_comeAll_101
      · have h := ite_f c_1 h
        refine lv_aload_n hx hb dX6_comeAll_35 rfl (lv_at hl 0 rfl) ?_
        refine lv_aload_n hx hb dX6_comeAll_36 rfl (lv_at hl 0 rfl) ?_
        refine va_get (D := G.1) (ci := 6) (v := .ref (gad G (160 + 5))) (C := RX6) (T := TX6) (N := 14) hx hb hts hiX6 hown hK.1 hW.1 159 lkM rfl 11 (by decide) (hts _ (List.mem_of_getElem? (i := 3) rfl)) (fun _ h9 => h9) rfl dX6_comeAll_37 ?_
        refine lv_iload_n hx hb dX6_comeAll_40 rfl (lv_at hl 1 rfl) ?_
        obtain ⟨x_8, nx_8, ex_8, h⟩ := arr_e h
        refine va_iald hx hb hK.1 hW.1 (160 + 5) 0 (lkMa (j := 5) (by omega)) rfl nx_8 dX6_comeAll_41 ?_
        refine lv_ni ex_8 ?_
        refine lv_aload_n hx hb dX6_comeAll_42 rfl (lv_at hl 0 rfl) ?_
        refine va_get (D := G.1) (ci := 6) (v := .ref (gad G (160 + 6))) (C := RX6) (T := TX6) (N := 14) hx hb hts hiX6 hown hK.1 hW.1 159 lkM rfl 12 (by decide) (hts _ (List.mem_of_getElem? (i := 4) rfl)) (fun _ h9 => h9) rfl dX6_comeAll_43 ?_
        refine lv_iload_n hx hb dX6_comeAll_46 rfl (lv_at hl 1 rfl) ?_
        obtain ⟨x_9, nx_9, ex_9, h⟩ := arr_e h
        refine va_iald hx hb hK.1 hW.1 (160 + 6) 0 (lkMa (j := 6) (by omega)) rfl nx_9 dX6_comeAll_47 ?_
        refine lv_ni ex_9 ?_
        obtain ⟨r_10, e_11, h⟩ := bnd_e h
        refine kV_I (As := [.int x_8, .int x_9]) (rest := []) ⟨hx, hb, hml, hown, hts⟩ (tX6_refuses l G S0 M x_8 x_9 r_10 e_11) (cwV 2 hts gX6_comeAll_X6_refuses rfl rfl rfl ⟨rfl, hdX6_refuses⟩ ⟨Nat.le_of_ble_eq_true rfl, Nat.le_of_ble_eq_true rfl⟩) (va_recv hK.1 hW.1 (ci := 6) (q0 := 159) rfl lkM) hK hW hS hA rfl hl.1 rfl (Nat.le_of_ble_eq_true rfl) dX6_comeAll_48 ⟨Nat.zero_le _, Nat.zero_le _⟩ (fun H locs hW hS => ?_)
        refine lv_istore_n (lv' := [(3, .int r_10), (0, .ref (gad G 159)), (2, .int l2)]) hx hb dX6_comeAll_51 rfl hl (by decide) rfl (fun ls hl => ?_)
        refine lv_iload_n hx hb dX6_comeAll_52 rfl (lv_at hl 0 rfl) ?_
        refine lv_if_eq (tgt := 62) hx hb dX6_comeAll_53 (by decide) (fun c_12 => ?_) (fun c_12 => ?_)
        · have h := ite_t c_12 h
          refine lv_aload_n hx hb dX6_comeAll_62 rfl (lv_at hl 1 rfl) ?_
          refine lv_aload_n hx hb dX6_comeAll_63 rfl (lv_at hl 1 rfl) ?_
          refine va_get (D := G.1) (ci := 6) (v := .ref (gad G (160 + 5))) (C := RX6) (T := TX6) (N := 14) hx hb hts hiX6 hown hK.1 hW.1 159 lkM rfl 11 (by decide) (hts _ (List.mem_of_getElem? (i := 3) rfl)) (fun _ h9 => h9) rfl dX6_comeAll_64 ?_
          refine lv_iload_n hx hb dX6_comeAll_67 rfl (lv_at hl 2 rfl) ?_
          obtain ⟨x_13, nx_13, ex_13, h⟩ := arr_e h
          refine va_iald hx hb hK.1 hW.1 (160 + 5) 0 (lkMa (j := 5) (by omega)) rfl nx_13 dX6_comeAll_68 ?_
          refine lv_ni ex_13 ?_
          refine lv_aload_n hx hb dX6_comeAll_69 rfl (lv_at hl 1 rfl) ?_
          refine va_get (D := G.1) (ci := 6) (v := .ref (gad G (160 + 6))) (C := RX6) (T := TX6) (N := 14) hx hb hts hiX6 hown hK.1 hW.1 159 lkM rfl 12 (by decide) (hts _ (List.mem_of_getElem? (i := 4) rfl)) (fun _ h9 => h9) rfl dX6_comeAll_70 ?_
          refine lv_iload_n hx hb dX6_comeAll_73 rfl (lv_at hl 2 rfl) ?_
          obtain ⟨x_14, nx_14, ex_14, h⟩ := arr_e h
          refine va_iald hx hb hK.1 hW.1 (160 + 6) 0 (lkMa (j := 6) (by omega)) rfl nx_14 dX6_comeAll_74 ?_
          refine lv_ni ex_14 ?_
          obtain ⟨r_15, M_16, e_17, h⟩ := bd2_e h
          refine kV_I (As := [.int x_13, .int x_14]) (rest := []) ⟨hx, hb, hml, hown, hts⟩ (tX6_comes l G S0 M x_13 x_14 r_15 M_16 e_17) (cwV 2 hts gX6_comeAll_X6_comes rfl rfl rfl ⟨rfl, hdX6_comes⟩ ⟨Nat.le_of_ble_eq_true rfl, Nat.le_of_ble_eq_true rfl⟩) (va_recv hK.1 hW.1 (ci := 6) (q0 := 159) rfl lkM) hK hW hS hA rfl hl.1 rfl (Nat.le_of_ble_eq_true rfl) dX6_comeAll_75 ⟨Nat.zero_le _, Nat.zero_le _⟩ (fun H locs hW hS => ?_)
          refine lv_pop hx hb dX6_comeAll_78 rfl ?_
          refine lv_iinc (v := (l2 + 1)) (lv' := [(2, .int ((l2 + 1))), (3, .int r_10), (0, .ref (gad G 159))]) hx hb dX6_comeAll_79 hl (k := 2) rfl rfl (by decide) rfl (fun ls hl => ?_)
          refine lv_goto (tgt := 27) hx hb dX6_comeAll_82 (by decide) ?_
          exact ih _ _ M_16 hW hS ls ((l2 + 1)) (lv_sub hl [2, 0] rfl) h
        · have h := ite_f c_12 h
          refine lv_aload_n hx hb dX6_comeAll_56 rfl (lv_at hl 1 rfl) ?_
          obtain ⟨M_18, e_19, h⟩ := bnd_e h
          refine kV_V (As := []) (rest := []) ⟨hx, hb, hml, hown, hts⟩ (tX6_takeBack l G S0 M M_18 e_19) (cwV 0 hts gX6_comeAll_X6_takeBack rfl rfl rfl ⟨rfl, hdX6_takeBack⟩ ⟨Nat.le_of_ble_eq_true rfl, Nat.le_of_ble_eq_true rfl⟩) (va_recv hK.1 hW.1 (ci := 6) (q0 := 159) rfl lkM) hK hW hS hA rfl hl.1 rfl (Nat.le_of_ble_eq_true rfl) dX6_comeAll_57 ⟨Nat.zero_le _, Nat.zero_le _⟩ (fun H locs hW hS => ?_)
          refine lv_iload_n hx hb dX6_comeAll_60 rfl (lv_at hl 0 rfl) ?_
          obtain ⟨rfl, rfl⟩ := Prod.mk.inj (Option.some.inj h)
          exact W.iret hx hb hr (fun t ht hw => ⟨⟨_, (), rfl, rfl, hW.ret ht⟩, hS.F ht⟩) hS.2.2 dX6_comeAll_61
  unfold f6_comeAll at h
  refine lv_aload_n hx hb dX6_comeAll_0 rfl (lv_at hl 0 rfl) ?_
  refine lv_iconst (v := 0) hx hb dX6_comeAll_1 (by decide) ?_
  obtain ⟨M_1, eM_1, h⟩ := nam_e h
  refine va_put (D := G.1) (ci := 6) (v := .int 0) (ty := .int) (C := RX6) (T := TX6) (N := 14) hx hb hts hiX6 tyX6 tyX6_ok nmX6 hown hK.1 hW.1 (hW.D hA) hS 159 lkM rfl 0 (by decide) (hts _ (List.mem_of_getElem? (i := 1) rfl)) (fun _ h9 => h9) rfl (by decide +kernel) rfl rfl (Nat.le_of_ble_eq_true rfl) dX6_comeAll_2 (fun H locs hP hD hS => ?_)
  have hW := upM0 hW hP
  rw [← eM_1] at hW
  refine lv_aload_n hx hb dX6_comeAll_5 rfl (lv_at hl 0 rfl) ?_
  obtain ⟨r_2, M_3, e_4, h⟩ := bd2_e h
  refine kV_I (As := []) (rest := []) ⟨hx, hb, hml, hown, hts⟩ (tX6_reads l G S0 M_1 r_2 M_3 e_4) (cwV 0 hts gX6_comeAll_X6_reads rfl rfl rfl ⟨rfl, hdX6_reads⟩ ⟨Nat.le_of_ble_eq_true rfl, Nat.le_of_ble_eq_true rfl⟩) (va_recv hK.1 hW.1 (ci := 6) (q0 := 159) rfl lkM) hK hW hS hA rfl hl.1 rfl (Nat.le_of_ble_eq_true rfl) dX6_comeAll_6 ⟨Nat.zero_le _, Nat.zero_le _⟩ (fun H locs hW hS => ?_)
  refine lv_istore_n (lv' := [(1, .int r_2), (0, .ref (gad G 159))]) hx hb dX6_comeAll_9 rfl hl (by decide) rfl (fun ls hl => ?_)
  refine lv_iload_n hx hb dX6_comeAll_10 rfl (lv_at hl 0 rfl) ?_
  refine lv_bipush (v := (-5)) hx hb dX6_comeAll_11 (by decide) ?_
  refine lv_icmp_eq (tgt := 21) hx hb dX6_comeAll_13 (by decide) (fun c_5 => ?_) (fun c_5 => ?_)
  · have h := ite_t c_5 h
    refine lv_aload_n hx hb dX6_comeAll_21 rfl (lv_at hl 1 rfl) ?_
    obtain ⟨M_6, e_7, h⟩ := bnd_e h
    refine kV_V (As := []) (rest := []) ⟨hx, hb, hml, hown, hts⟩ (tX6_putAside l G S0 M_3 M_6 e_7) (cwV 0 hts gX6_comeAll_X6_putAside rfl rfl rfl ⟨rfl, hdX6_putAside⟩ ⟨Nat.le_of_ble_eq_true rfl, Nat.le_of_ble_eq_true rfl⟩) (va_recv hK.1 hW.1 (ci := 6) (q0 := 159) rfl lkM) hK hW hS hA rfl hl.1 rfl (Nat.le_of_ble_eq_true rfl) dX6_comeAll_22 ⟨Nat.zero_le _, Nat.zero_le _⟩ (fun H locs hW hS => ?_)
    refine lv_iconst (v := 0) hx hb dX6_comeAll_25 (by decide) ?_
    refine lv_istore_n (lv' := [(2, .int 0), (1, .int r_2), (0, .ref (gad G 159))]) hx hb dX6_comeAll_26 rfl hl (by decide) rfl (fun ls hl => ?_)
    exact B27 fuelN _ _ M_6 hW hS ls 0 (lv_sub hl [2, 0] rfl) h
  · have h := ite_f c_5 h
    refine lv_bipush (v := (-100)) hx hb dX6_comeAll_16 (by decide) ?_
    refine lv_iload_n hx hb dX6_comeAll_18 rfl (lv_at hl 0 rfl) ?_
    refine lv_isub hx hb dX6_comeAll_19 ?_
    obtain ⟨rfl, rfl⟩ := Prod.mk.inj (Option.some.inj h)
    exact W.iret hx hb hr (fun t ht hw => ⟨⟨_, (), rfl, rfl, hW.ret ht⟩, hS.F ht⟩) hS.2.2 dX6_comeAll_20
abbrev rX6_firstToGive : Room := { frames := 2, cells := 0, slots := 0, locals := 45 }
set_option maxRecDepth 100000 in
set_option maxHeartbeats 8000000 in
theorem tX6_firstToGive (l : Launch) (G : WG) (S0 M0 : St) (p1 : Int32) (rr : Int32) (h : f6_firstToGive M0 p1 = some (rr)) : CtI l yX6_firstToGive wsX6_firstToGive rX6_firstToGive G [.ref (gad G 159), .int p1] S0 M0 rr S0 M0 := by
  refine Met.ofW (cc := cX6_firstToGive) (maxL := 5) (ret := (some .int)) (by decide) rfl ?_
  intro p e s m args below meth cd s₁ B hml hv
  obtain ⟨hargs, hK, hW⟩ := hv
  have hx := B.exec
  have hb := B.bytes
  have hr := B.returns
  have hts := atoms_spec (ws := wsX6_firstToGive) B.pre
  have hown : s.vm.findClass RX6 = some m.cls := findClass_of_methodNamed B.named
  have hlocks := B.notSynchronized
  have hA : ∀ q, Aw G q → Aw G q := fun _ h => h
  have hS : va_S (Aw G) s.heap s.heap [] := va_S.rf
  have he0 : entryFrame m args 5 = F0 m 0 ((lg_sl ([.ref (gad G 159), .int p1]) ++ List.replicate (5 - (lg_sl ([.ref (gad G 159), .int p1])).length) Slot.unset).toArray) [] := by rw [hargs]; exact lg_entry_eq _ _ _
  have hl := lv_entry ([.ref (gad G 159), .int p1]) (n := 5) (Nat.le_of_ble_eq_true rfl)
  rw [he0]
  generalize (lg_sl ([.ref (gad G 159), .int p1]) ++ List.replicate (5 - (lg_sl ([.ref (gad G 159), .int p1])).length) Slot.unset).toArray = ls at hl ⊢
  have hl : lv_has ls 5 [(0, .ref (gad G 159)), (1, .int p1)] := hl
  have hiX6 : ∀ w ∈ u_ws RX6 TX6 14, w ∈ wsX6_firstToGive := by decide +kernel
  have B5 : ∀ (n : Nat), ∀ (H : Heap) (locs : List Loc) (_ : WD G S0 M0 H) (_ : va_S (Aw G) s.heap H locs) (ls : Array Slot) (l1 : Int32) (l2 : Int32) (l3 : Int32) (_ : lv_has ls 5 [(0, .ref (gad G 159)), (1, .int l1), (2, .int l2), (3, .int l3)]) (h : f6_firstToGive_b5 M0 l1 n l2 l3 = some (rr)), WI p l e (headSpec wsX6_firstToGive rX6_firstToGive).room s m args below meth cd G rr S0 M0 H locs (F0 m 5 ls []) := by
    intro n
    induction n with
    | zero => intro H locs hW hS ls l1 l2 l3 hl h; cases (show (none : Option (Int32)) = some _ from h)
    | succ n ih =>
      have B77 : ∀ (H : Heap) (locs : List Loc) (_ : WD G S0 M0 H) (_ : va_S (Aw G) s.heap H locs) (ls : Array Slot) (l1 : Int32) (l2 : Int32) (l3 : Int32) (_ : lv_has ls 5 [(0, .ref (gad G 159)), (1, .int l1), (2, .int l2), (3, .int l3)]) (h : f6_firstToGive_b77 M0 (f6_firstToGive_b5 M0 l1 n) l1 l2 l3 = some (rr)), WI p l e (headSpec wsX6_firstToGive rX6_firstToGive).room s m args below meth cd G rr S0 M0 H locs (F0 m 77 ls []) := by
        intro H locs hW hS ls l1 l2 l3 hl h
        unfold f6_firstToGive_b77 at h
        refine lv_iinc (v := (l3 + 1)) (lv' := [(3, .int ((l3 + 1))), (0, .ref (gad G 159)), (1, .int l1), (2, .int l2)]) hx hb dX6_firstToGive_77 hl (k := 3) rfl rfl (by decide) rfl (fun ls hl => ?_)
        refine lv_goto (tgt := 5) hx hb dX6_firstToGive_80 (by decide) ?_
        exact ih _ _ hW hS ls l1 l2 ((l3 + 1)) (lv_sub hl [1, 2, 3, 0] rfl) h
      have B76 : ∀ (H : Heap) (locs : List Loc) (_ : WD G S0 M0 H) (_ : va_S (Aw G) s.heap H locs) (ls : Array Slot) (l1 : Int32) (l3 : Int32) (k0 : Int32) (_ : lv_has ls 5 [(0, .ref (gad G 159)), (1, .int l1), (3, .int l3)]) (h : f6_firstToGive_b76 M0 (f6_firstToGive_b5 M0 l1 n) l1 l3 k0 = some (rr)), WI p l e (headSpec wsX6_firstToGive rX6_firstToGive).room s m args below meth cd G rr S0 M0 H locs (F0 m 76 ls [.int k0]) := by
        intro H locs hW hS ls l1 l3 k0 hl h
        unfold f6_firstToGive_b76 at h
        refine lv_istore_n (lv' := [(2, .int k0), (0, .ref (gad G 159)), (1, .int l1), (3, .int l3)]) hx hb dX6_firstToGive_76 rfl hl (by decide) rfl (fun ls hl => ?_)
        exact B77 _ _ hW hS ls l1 k0 l3 (lv_sub hl [1, 2, 0, 3] rfl) h
      have B71 : ∀ (H : Heap) (locs : List Loc) (_ : WD G S0 M0 H) (_ : va_S (Aw G) s.heap H locs) (ls : Array Slot) (l1 : Int32) (l3 : Int32) (_ : lv_has ls 5 [(0, .ref (gad G 159)), (1, .int l1), (3, .int l3)]) (h : f6_firstToGive_b71 M0 (f6_firstToGive_b5 M0 l1 n) l1 l3 = some (rr)), WI p l e (headSpec wsX6_firstToGive rX6_firstToGive).room s m args below meth cd G rr S0 M0 H locs (F0 m 71 ls []) := by
        intro H locs hW hS ls l1 l3 hl h
        unfold f6_firstToGive_b71 at h
        refine lv_iload_n hx hb dX6_firstToGive_71 rfl (lv_at hl 2 rfl) ?_
        refine lv_goto (tgt := 76) hx hb dX6_firstToGive_72 (by decide) ?_
        exact B76 _ _ hW hS ls l1 l3 l3 (lv_sub hl [0, 1, 2] rfl) h
      have B75 : ∀ (H : Heap) (locs : List Loc) (_ : WD G S0 M0 H) (_ : va_S (Aw G) s.heap H locs) (ls : Array Slot) (l1 : Int32) (l2 : Int32) (l3 : Int32) (_ : lv_has ls 5 [(0, .ref (gad G 159)), (1, .int l1), (2, .int l2), (3, .int l3)]) (h : f6_firstToGive_b75 M0 (f6_firstToGive_b5 M0 l1 n) l1 l2 l3 = some (rr)), WI p l e (headSpec wsX6_firstToGive rX6_firstToGive).room s m args below meth cd G rr S0 M0 H locs (F0 m 75 ls []) := by
        intro H locs hW hS ls l1 l2 l3 hl h
        unfold f6_firstToGive_b75 at h
        refine lv_iload_n hx hb dX6_firstToGive_75 rfl (lv_at hl 2 rfl) ?_
        exact B76 _ _ hW hS ls l1 l3 l2 (lv_sub hl [0, 1, 3] rfl) h
      have B50 : ∀ (H : Heap) (locs : List Loc) (_ : WD G S0 M0 H) (_ : va_S (Aw G) s.heap H locs) (ls : Array Slot) (l1 : Int32) (l2 : Int32) (l3 : Int32) (k0 : Int32) (_ : lv_has ls 5 [(0, .ref (gad G 159)), (1, .int l1), (2, .int l2), (3, .int l3)]) (h : f6_firstToGive_b50 M0 (f6_firstToGive_b5 M0 l1 n) l1 l2 l3 k0 = some (rr)), WI p l e (headSpec wsX6_firstToGive rX6_firstToGive).room s m args below meth cd G rr S0 M0 H locs (F0 m 50 ls [.int k0]) := by
        intro H locs hW hS ls l1 l2 l3 k0 hl h
        unfold f6_firstToGive_b50 at h
        refine lv_istore (lv' := [(4, .int k0), (0, .ref (gad G 159)), (1, .int l1), (2, .int l2), (3, .int l3)]) hx hb dX6_firstToGive_50 hl (by decide) rfl (fun ls hl => ?_)
        refine lv_iload hx hb dX6_firstToGive_52 (lv_at hl 0 rfl) ?_
        refine lv_if_gt (tgt := 71) hx hb dX6_firstToGive_54 (by decide) (fun c_1 => ?_) (fun c_1 => ?_)
        · have h := ite_t c_1 h
          exact B71 _ _ hW hS ls l1 l3 (lv_sub hl [1, 2, 4] rfl) h
        · have h := ite_f c_1 h
          refine lv_iload hx hb dX6_firstToGive_57 (lv_at hl 0 rfl) ?_
          refine lv_if_ne (tgt := 75) hx hb dX6_firstToGive_59 (by decide) (fun c_2 => ?_) (fun c_2 => ?_)
          · have h := ite_f c_2 h
            exact B75 _ _ hW hS ls l1 l2 l3 (lv_sub hl [1, 2, 3, 4] rfl) h
          · have h := ite_t c_2 h
            refine lv_aload_n hx hb dX6_firstToGive_62 rfl (lv_at hl 1 rfl) ?_
            refine lv_iload_n hx hb dX6_firstToGive_63 rfl (lv_at hl 4 rfl) ?_
            refine lv_iload_n hx hb dX6_firstToGive_64 rfl (lv_at hl 3 rfl) ?_
            obtain ⟨r_3, e_4, h⟩ := bnd_e h
            refine kV_I (As := [.int l3, .int l2]) (rest := []) ⟨hx, hb, hml, hown, hts⟩ (tX6_isAhead l G S0 M0 l3 l2 r_3 e_4) (cwV 2 hts gX6_firstToGive_X6_isAhead rfl rfl rfl ⟨rfl, hdX6_isAhead⟩ ⟨Nat.le_of_ble_eq_true rfl, Nat.le_of_ble_eq_true rfl⟩) (va_recv hK.1 hW.1 (ci := 6) (q0 := 159) rfl lkM) hK hW hS hA rfl hl.1 rfl (Nat.le_of_ble_eq_true rfl) dX6_firstToGive_65 ⟨Nat.zero_le _, Nat.zero_le _⟩ (fun H locs hW hS => ?_)
            refine lv_if_eq (tgt := 75) hx hb dX6_firstToGive_68 (by decide) (fun c_5 => ?_) (fun c_5 => ?_)
            · have h := ite_t c_5 h
              exact B75 _ _ hW hS ls l1 l2 l3 (lv_sub hl [1, 2, 3, 4] rfl) h
            · have h := ite_f c_5 h
              exact B71 _ _ hW hS ls l1 l3 (lv_sub hl [1, 2, 4] rfl) h
      intro H locs hW hS ls l1 l2 l3 hl h
      rw [f6_firstToGive_b5] at h
      refine lv_iload_n hx hb dX6_firstToGive_5 rfl (lv_at hl 3 rfl) ?_
      refine lv_aload_n hx hb dX6_firstToGive_6 rfl (lv_at hl 0 rfl) ?_
      refine va_get (D := G.1) (ci := 6) (v := .ref (gad G (160 + 0))) (C := RX6) (T := TX6) (N := 14) hx hb hts hiX6 hown hK.1 hW.1 159 lkM rfl 1 (by decide) (hts _ (List.mem_of_getElem? (i := 1) rfl)) (fun _ h9 => h9) rfl dX6_firstToGive_7 ?_
      refine lv_iconst (v := 1) hx hb dX6_firstToGive_10 (by decide) ?_
      obtain ⟨x_1, nx_1, ex_1, h⟩ := arr_e h
      refine va_iald hx hb hK.1 hW.1 (160 + 0) 0 (lkMa (j := 0) (by omega)) rfl nx_1 dX6_firstToGive_11 ?_
      refine lv_ni ex_1 ?_
      refine lv_icmp_ge (tgt := 83) hx hb dX6_firstToGive_12 (by decide) (fun c_2 => ?_) (fun c_2 => ?_)
      · have h := ite_t c_2 h
        refine lv_iload_n hx hb dX6_firstToGive_83 rfl (lv_at hl 2 rfl) ?_
        obtain rfl := Option.some.inj h
        exact W.iret hx hb hr (fun t ht hw => ⟨⟨_, (), rfl, rfl, hW.ret ht⟩, hS.F ht⟩) hS.2.2 dX6_firstToGive_84
      · have h := ite_f c_2 h
        refine lv_aload_n hx hb dX6_firstToGive_15 rfl (lv_at hl 0 rfl) ?_
        refine lv_iload_n hx hb dX6_firstToGive_16 rfl (lv_at hl 3 rfl) ?_
        refine lv_iconst (v := 3) hx hb dX6_firstToGive_17 (by decide) ?_
        obtain ⟨r_3, e_4, h⟩ := bnd_e h
        refine kV_I (As := [.int l3, .int 3]) (rest := []) ⟨hx, hb, hml, hown, hts⟩ (tX6_ofPlot l G S0 M0 l3 3 r_3 e_4) (cwV 2 hts gX6_firstToGive_X6_ofPlot rfl rfl rfl ⟨rfl, hdX6_ofPlot⟩ ⟨Nat.le_of_ble_eq_true rfl, Nat.le_of_ble_eq_true rfl⟩) (va_recv hK.1 hW.1 (ci := 6) (q0 := 159) rfl lkM) hK hW hS hA rfl hl.1 rfl (Nat.le_of_ble_eq_true rfl) dX6_firstToGive_18 ⟨Nat.zero_le _, Nat.zero_le _⟩ (fun H locs hW hS => ?_)
        refine lv_iload_n hx hb dX6_firstToGive_21 rfl (lv_at hl 1 rfl) ?_
        refine lv_iconst (v := 1) hx hb dX6_firstToGive_22 (by decide) ?_
        refine lv_iadd hx hb dX6_firstToGive_23 ?_
        refine lv_icmp_ne (tgt := 77) hx hb dX6_firstToGive_24 (by decide) (fun c_5 => ?_) (fun c_5 => ?_)
        · have h := ite_f c_5 h
          exact B77 _ _ hW hS ls l1 l2 l3 (lv_sub hl [0, 1, 2, 3] rfl) h
        · have h := ite_t c_5 h
          refine lv_iload_n hx hb dX6_firstToGive_27 rfl (lv_at hl 2 rfl) ?_
          refine lv_bipush (v := (-5)) hx hb dX6_firstToGive_28 (by decide) ?_
          refine lv_icmp_ne (tgt := 37) hx hb dX6_firstToGive_30 (by decide) (fun c_6 => ?_) (fun c_6 => ?_)
          · have h := ite_f c_6 h
            refine lv_aload_n hx hb dX6_firstToGive_37 rfl (lv_at hl 0 rfl) ?_
            refine lv_iload_n hx hb dX6_firstToGive_38 rfl (lv_at hl 3 rfl) ?_
            refine lv_iconst (v := 0) hx hb dX6_firstToGive_39 (by decide) ?_
            obtain ⟨r_7, e_8, h⟩ := bnd_e h
            refine kV_I (As := [.int l3, .int 0]) (rest := []) ⟨hx, hb, hml, hown, hts⟩ (tX6_ofPlot l G S0 M0 l3 0 r_7 e_8) (cwV 2 hts gX6_firstToGive_X6_ofPlot rfl rfl rfl ⟨rfl, hdX6_ofPlot⟩ ⟨Nat.le_of_ble_eq_true rfl, Nat.le_of_ble_eq_true rfl⟩) (va_recv hK.1 hW.1 (ci := 6) (q0 := 159) rfl lkM) hK hW hS hA rfl hl.1 rfl (Nat.le_of_ble_eq_true rfl) dX6_firstToGive_40 ⟨Nat.zero_le _, Nat.zero_le _⟩ (fun H locs hW hS => ?_)
            refine lv_aload_n hx hb dX6_firstToGive_43 rfl (lv_at hl 0 rfl) ?_
            refine lv_iload_n hx hb dX6_firstToGive_44 rfl (lv_at hl 2 rfl) ?_
            refine lv_iconst (v := 0) hx hb dX6_firstToGive_45 (by decide) ?_
            obtain ⟨r_9, e_10, h⟩ := bnd_e h
            refine kV_I (As := [.int l2, .int 0]) (rest := [.int r_7]) ⟨hx, hb, hml, hown, hts⟩ (tX6_ofPlot l G S0 M0 l2 0 r_9 e_10) (cwV 2 hts gX6_firstToGive_X6_ofPlot rfl rfl rfl ⟨rfl, hdX6_ofPlot⟩ ⟨Nat.le_of_ble_eq_true rfl, Nat.le_of_ble_eq_true rfl⟩) (va_recv hK.1 hW.1 (ci := 6) (q0 := 159) rfl lkM) hK hW hS hA rfl hl.1 rfl (Nat.le_of_ble_eq_true rfl) dX6_firstToGive_46 ⟨Nat.zero_le _, Nat.zero_le _⟩ (fun H locs hW hS => ?_)
            refine lv_isub hx hb dX6_firstToGive_49 ?_
            exact B50 _ _ hW hS ls l1 l2 l3 ((r_7 - r_9)) (lv_sub hl [0, 1, 2, 3] rfl) h
          · have h := ite_t c_6 h
            refine lv_iconst (v := 1) hx hb dX6_firstToGive_33 (by decide) ?_
            refine lv_goto (tgt := 50) hx hb dX6_firstToGive_34 (by decide) ?_
            exact B50 _ _ hW hS ls l1 l2 l3 1 (lv_sub hl [0, 1, 2, 3] rfl) h
  unfold f6_firstToGive at h
  refine lv_bipush (v := (-5)) hx hb dX6_firstToGive_0 (by decide) ?_
  refine lv_istore_n (lv' := [(2, .int ((-5))), (0, .ref (gad G 159)), (1, .int p1)]) hx hb dX6_firstToGive_2 rfl hl (by decide) rfl (fun ls hl => ?_)
  refine lv_iconst (v := 0) hx hb dX6_firstToGive_3 (by decide) ?_
  refine lv_istore_n (lv' := [(3, .int 0), (2, .int ((-5))), (0, .ref (gad G 159)), (1, .int p1)]) hx hb dX6_firstToGive_4 rfl hl (by decide) rfl (fun ls hl => ?_)
  exact B5 fuelN _ _ hW hS ls p1 ((-5)) 0 (lv_sub hl [2, 3, 1, 0] rfl) h
abbrev rX6_smallestBeside : Room := { frames := 4, cells := 0, slots := 0, locals := 93 }
set_option maxRecDepth 100000 in
set_option maxHeartbeats 8000000 in
theorem tX6_smallestBeside (l : Launch) (G : WG) (S0 M0 : St) (p1 : Int32) (p2 : Int32) (rr : Int32) (h : f6_smallestBeside M0 p1 p2 = some (rr)) : CtI l yX6_smallestBeside wsX6_smallestBeside rX6_smallestBeside G [.ref (gad G 159), .int p1, .int p2] S0 M0 rr S0 M0 := by
  refine Met.ofW (cc := cX6_smallestBeside) (maxL := 6) (ret := (some .int)) (by decide) rfl ?_
  intro p e s m args below meth cd s₁ B hml hv
  obtain ⟨hargs, hK, hW⟩ := hv
  have hx := B.exec
  have hb := B.bytes
  have hr := B.returns
  have hts := atoms_spec (ws := wsX6_smallestBeside) B.pre
  have hown : s.vm.findClass RX6 = some m.cls := findClass_of_methodNamed B.named
  have hlocks := B.notSynchronized
  have hA : ∀ q, Aw G q → Aw G q := fun _ h => h
  have hS : va_S (Aw G) s.heap s.heap [] := va_S.rf
  have he0 : entryFrame m args 6 = F0 m 0 ((lg_sl ([.ref (gad G 159), .int p1, .int p2]) ++ List.replicate (6 - (lg_sl ([.ref (gad G 159), .int p1, .int p2])).length) Slot.unset).toArray) [] := by rw [hargs]; exact lg_entry_eq _ _ _
  have hl := lv_entry ([.ref (gad G 159), .int p1, .int p2]) (n := 6) (Nat.le_of_ble_eq_true rfl)
  rw [he0]
  generalize (lg_sl ([.ref (gad G 159), .int p1, .int p2]) ++ List.replicate (6 - (lg_sl ([.ref (gad G 159), .int p1, .int p2])).length) Slot.unset).toArray = ls at hl ⊢
  have hl : lv_has ls 6 [(0, .ref (gad G 159)), (1, .int p1), (2, .int p2)] := hl
  have B6 : ∀ (n : Nat), ∀ (H : Heap) (locs : List Loc) (_ : WD G S0 M0 H) (_ : va_S (Aw G) s.heap H locs) (ls : Array Slot) (l1 : Int32) (l2 : Int32) (l3 : Int32) (l4 : Int32) (_ : lv_has ls 6 [(0, .ref (gad G 159)), (1, .int l1), (2, .int l2), (3, .int l3), (4, .int l4)]) (h : f6_smallestBeside_b6 M0 l1 l2 n l3 l4 = some (rr)), WI p l e (headSpec wsX6_smallestBeside rX6_smallestBeside).room s m args below meth cd G rr S0 M0 H locs (F0 m 6 ls []) := by
    intro n
    induction n with
    | zero => intro H locs hW hS ls l1 l2 l3 l4 hl h; cases (show (none : Option (Int32)) = some _ from h)
    | succ n ih =>
      have B76 : ∀ (H : Heap) (locs : List Loc) (_ : WD G S0 M0 H) (_ : va_S (Aw G) s.heap H locs) (ls : Array Slot) (l1 : Int32) (l2 : Int32) (l4 : Int32) (k0 : Int32) (_ : lv_has ls 6 [(0, .ref (gad G 159)), (1, .int l1), (2, .int l2), (4, .int l4)]) (h : f6_smallestBeside_b76 M0 (f6_smallestBeside_b6 M0 l1 l2 n) l1 l2 l4 k0 = some (rr)), WI p l e (headSpec wsX6_smallestBeside rX6_smallestBeside).room s m args below meth cd G rr S0 M0 H locs (F0 m 76 ls [.int k0]) := by
        intro H locs hW hS ls l1 l2 l4 k0 hl h
        unfold f6_smallestBeside_b76 at h
        refine lv_istore_n (lv' := [(3, .int k0), (0, .ref (gad G 159)), (1, .int l1), (2, .int l2), (4, .int l4)]) hx hb dX6_smallestBeside_76 rfl hl (by decide) rfl (fun ls hl => ?_)
        refine lv_iinc (v := (l4 + 1)) (lv' := [(4, .int ((l4 + 1))), (3, .int k0), (0, .ref (gad G 159)), (1, .int l1), (2, .int l2)]) hx hb dX6_smallestBeside_77 hl (k := 4) rfl rfl (by decide) rfl (fun ls hl => ?_)
        refine lv_goto (tgt := 6) hx hb dX6_smallestBeside_80 (by decide) ?_
        exact ih _ _ hW hS ls l1 l2 k0 ((l4 + 1)) (lv_sub hl [2, 3, 4, 1, 0] rfl) h
      have B70 : ∀ (H : Heap) (locs : List Loc) (_ : WD G S0 M0 H) (_ : va_S (Aw G) s.heap H locs) (ls : Array Slot) (l1 : Int32) (l2 : Int32) (l4 : Int32) (_ : lv_has ls 6 [(0, .ref (gad G 159)), (1, .int l1), (2, .int l2), (4, .int l4)]) (h : f6_smallestBeside_b70 M0 (f6_smallestBeside_b6 M0 l1 l2 n) l1 l2 l4 = some (rr)), WI p l e (headSpec wsX6_smallestBeside rX6_smallestBeside).room s m args below meth cd G rr S0 M0 H locs (F0 m 70 ls []) := by
        intro H locs hW hS ls l1 l2 l4 hl h
        unfold f6_smallestBeside_b70 at h
        refine lv_iload hx hb dX6_smallestBeside_70 (lv_at hl 3 rfl) ?_
        refine lv_goto (tgt := 76) hx hb dX6_smallestBeside_72 (by decide) ?_
        exact B76 _ _ hW hS ls l1 l2 l4 l4 (lv_sub hl [0, 1, 2, 3] rfl) h
      have B75 : ∀ (H : Heap) (locs : List Loc) (_ : WD G S0 M0 H) (_ : va_S (Aw G) s.heap H locs) (ls : Array Slot) (l1 : Int32) (l2 : Int32) (l3 : Int32) (l4 : Int32) (_ : lv_has ls 6 [(0, .ref (gad G 159)), (1, .int l1), (2, .int l2), (3, .int l3), (4, .int l4)]) (h : f6_smallestBeside_b75 M0 (f6_smallestBeside_b6 M0 l1 l2 n) l1 l2 l3 l4 = some (rr)), WI p l e (headSpec wsX6_smallestBeside rX6_smallestBeside).room s m args below meth cd G rr S0 M0 H locs (F0 m 75 ls []) := by
        intro H locs hW hS ls l1 l2 l3 l4 hl h
        unfold f6_smallestBeside_b75 at h
        refine lv_iload_n hx hb dX6_smallestBeside_75 rfl (lv_at hl 3 rfl) ?_
        exact B76 _ _ hW hS ls l1 l2 l4 l3 (lv_sub hl [0, 1, 2, 4] rfl) h
      have B43 : ∀ (H : Heap) (locs : List Loc) (_ : WD G S0 M0 H) (_ : va_S (Aw G) s.heap H locs) (ls : Array Slot) (l1 : Int32) (l2 : Int32) (l3 : Int32) (l4 : Int32) (k0 : Int32) (_ : lv_has ls 6 [(0, .ref (gad G 159)), (1, .int l1), (2, .int l2), (3, .int l3), (4, .int l4)]) (h : f6_smallestBeside_b43 M0 (f6_smallestBeside_b6 M0 l1 l2 n) l1 l2 l3 l4 k0 = some (rr)), WI p l e (headSpec wsX6_smallestBeside rX6_smallestBeside).room s m args below meth cd G rr S0 M0 H locs (F0 m 43 ls [.int k0]) := by
        intro H locs hW hS ls l1 l2 l3 l4 k0 hl h
        unfold f6_smallestBeside_b43 at h
        refine lv_istore (lv' := [(5, .int k0), (0, .ref (gad G 159)), (1, .int l1), (2, .int l2), (3, .int l3), (4, .int l4)]) hx hb dX6_smallestBeside_43 hl (by decide) rfl (fun ls hl => ?_)
        refine lv_iload hx hb dX6_smallestBeside_45 (lv_at hl 0 rfl) ?_
        refine lv_if_eq (tgt := 75) hx hb dX6_smallestBeside_47 (by decide) (fun c_1 => ?_) (fun c_1 => ?_)
        · have h := ite_t c_1 h
          exact B75 _ _ hW hS ls l1 l2 l3 l4 (lv_sub hl [1, 2, 3, 4, 5] rfl) h
        · have h := ite_f c_1 h
          refine lv_iload_n hx hb dX6_smallestBeside_50 rfl (lv_at hl 4 rfl) ?_
          refine lv_bipush (v := (-5)) hx hb dX6_smallestBeside_51 (by decide) ?_
          refine lv_icmp_eq (tgt := 70) hx hb dX6_smallestBeside_53 (by decide) (fun c_2 => ?_) (fun c_2 => ?_)
          · have h := ite_t c_2 h
            exact B70 _ _ hW hS ls l1 l2 l4 (lv_sub hl [1, 2, 3, 5] rfl) h
          · have h := ite_f c_2 h
            refine lv_aload_n hx hb dX6_smallestBeside_56 rfl (lv_at hl 1 rfl) ?_
            refine lv_iload hx hb dX6_smallestBeside_57 (lv_at hl 5 rfl) ?_
            obtain ⟨r_3, e_4, h⟩ := bnd_e h
            refine kV_I (As := [.int l4]) (rest := []) ⟨hx, hb, hml, hown, hts⟩ (tX6_areaOf l G S0 M0 l4 r_3 e_4) (cwV 1 hts gX6_smallestBeside_X6_areaOf rfl rfl rfl ⟨rfl, hdX6_areaOf⟩ ⟨Nat.le_of_ble_eq_true rfl, Nat.le_of_ble_eq_true rfl⟩) (va_recv hK.1 hW.1 (ci := 6) (q0 := 159) rfl lkM) hK hW hS hA rfl hl.1 rfl (Nat.le_of_ble_eq_true rfl) dX6_smallestBeside_59 ⟨Nat.zero_le _, Nat.zero_le _⟩ (fun H locs hW hS => ?_)
            refine lv_aload_n hx hb dX6_smallestBeside_62 rfl (lv_at hl 1 rfl) ?_
            refine lv_iload_n hx hb dX6_smallestBeside_63 rfl (lv_at hl 4 rfl) ?_
            obtain ⟨r_5, e_6, h⟩ := bnd_e h
            refine kV_I (As := [.int l3]) (rest := [.int r_3]) ⟨hx, hb, hml, hown, hts⟩ (tX6_areaOf l G S0 M0 l3 r_5 e_6) (cwV 1 hts gX6_smallestBeside_X6_areaOf rfl rfl rfl ⟨rfl, hdX6_areaOf⟩ ⟨Nat.le_of_ble_eq_true rfl, Nat.le_of_ble_eq_true rfl⟩) (va_recv hK.1 hW.1 (ci := 6) (q0 := 159) rfl lkM) hK hW hS hA rfl hl.1 rfl (Nat.le_of_ble_eq_true rfl) dX6_smallestBeside_64 ⟨Nat.zero_le _, Nat.zero_le _⟩ (fun H locs hW hS => ?_)
            refine lv_icmp_ge (tgt := 75) hx hb dX6_smallestBeside_67 (by decide) (fun c_7 => ?_) (fun c_7 => ?_)
            · have h := ite_t c_7 h
              exact B75 _ _ hW hS ls l1 l2 l3 l4 (lv_sub hl [1, 2, 3, 4, 5] rfl) h
            · have h := ite_f c_7 h
              exact B70 _ _ hW hS ls l1 l2 l4 (lv_sub hl [1, 2, 3, 5] rfl) h
      have B42 : ∀ (H : Heap) (locs : List Loc) (_ : WD G S0 M0 H) (_ : va_S (Aw G) s.heap H locs) (ls : Array Slot) (l1 : Int32) (l2 : Int32) (l3 : Int32) (l4 : Int32) (_ : lv_has ls 6 [(0, .ref (gad G 159)), (1, .int l1), (2, .int l2), (3, .int l3), (4, .int l4)]) (h : f6_smallestBeside_b42 M0 (f6_smallestBeside_b6 M0 l1 l2 n) l1 l2 l3 l4 = some (rr)), WI p l e (headSpec wsX6_smallestBeside rX6_smallestBeside).room s m args below meth cd G rr S0 M0 H locs (F0 m 42 ls []) := by
        intro H locs hW hS ls l1 l2 l3 l4 hl h
        unfold f6_smallestBeside_b42 at h
        refine lv_iconst (v := 0) hx hb dX6_smallestBeside_42 (by decide) ?_
        exact B43 _ _ hW hS ls l1 l2 l3 l4 0 (lv_sub hl [0, 1, 2, 3, 4] rfl) h
      intro H locs hW hS ls l1 l2 l3 l4 hl h
      rw [f6_smallestBeside_b6] at h
      refine lv_iload hx hb dX6_smallestBeside_6 (lv_at hl 4 rfl) ?_
      refine lv_bipush (v := 16) hx hb dX6_smallestBeside_8 (by decide) ?_
      refine lv_icmp_ge (tgt := 83) hx hb dX6_smallestBeside_10 (by decide) (fun c_1 => ?_) (fun c_1 => ?_)
      · have h := ite_t c_1 h
        refine lv_iload_n hx hb dX6_smallestBeside_83 rfl (lv_at hl 3 rfl) ?_
        obtain rfl := Option.some.inj h
        exact W.iret hx hb hr (fun t ht hw => ⟨⟨_, (), rfl, rfl, hW.ret ht⟩, hS.F ht⟩) hS.2.2 dX6_smallestBeside_84
      · have h := ite_f c_1 h
        refine lv_iload hx hb dX6_smallestBeside_13 (lv_at hl 4 rfl) ?_
        refine lv_iload_n hx hb dX6_smallestBeside_15 rfl (lv_at hl 2 rfl) ?_
        refine lv_icmp_eq (tgt := 42) hx hb dX6_smallestBeside_16 (by decide) (fun c_2 => ?_) (fun c_2 => ?_)
        · have h := ite_t c_2 h
          exact B42 _ _ hW hS ls l1 l2 l3 l4 (lv_sub hl [0, 1, 2, 3, 4] rfl) h
        · have h := ite_f c_2 h
          refine lv_aload_n hx hb dX6_smallestBeside_19 rfl (lv_at hl 0 rfl) ?_
          refine lv_iload hx hb dX6_smallestBeside_20 (lv_at hl 4 rfl) ?_
          obtain ⟨r_3, e_4, h⟩ := bnd_e h
          refine kV_I (As := [.int l4]) (rest := []) ⟨hx, hb, hml, hown, hts⟩ (tX6_isHere l G S0 M0 l4 r_3 e_4) (cwV 1 hts gX6_smallestBeside_X6_isHere rfl rfl rfl ⟨rfl, hdX6_isHere⟩ ⟨Nat.le_of_ble_eq_true rfl, Nat.le_of_ble_eq_true rfl⟩) (va_recv hK.1 hW.1 (ci := 6) (q0 := 159) rfl lkM) hK hW hS hA rfl hl.1 rfl (Nat.le_of_ble_eq_true rfl) dX6_smallestBeside_22 ⟨Nat.zero_le _, Nat.zero_le _⟩ (fun H locs hW hS => ?_)
          refine lv_if_eq (tgt := 42) hx hb dX6_smallestBeside_25 (by decide) (fun c_5 => ?_) (fun c_5 => ?_)
          · have h := ite_t c_5 h
            exact B42 _ _ hW hS ls l1 l2 l3 l4 (lv_sub hl [0, 1, 2, 3, 4] rfl) h
          · have h := ite_f c_5 h
            refine lv_aload_n hx hb dX6_smallestBeside_28 rfl (lv_at hl 0 rfl) ?_
            refine lv_iload_n hx hb dX6_smallestBeside_29 rfl (lv_at hl 1 rfl) ?_
            refine lv_iload hx hb dX6_smallestBeside_30 (lv_at hl 4 rfl) ?_
            obtain ⟨r_6, e_7, h⟩ := bnd_e h
            refine kV_I (As := [.int l1, .int l4]) (rest := []) ⟨hx, hb, hml, hown, hts⟩ (tX6_touches l G S0 M0 l1 l4 r_6 e_7) (cwV 2 hts gX6_smallestBeside_X6_touches rfl rfl rfl ⟨rfl, hdX6_touches⟩ ⟨Nat.le_of_ble_eq_true rfl, Nat.le_of_ble_eq_true rfl⟩) (va_recv hK.1 hW.1 (ci := 6) (q0 := 159) rfl lkM) hK hW hS hA rfl hl.1 rfl (Nat.le_of_ble_eq_true rfl) dX6_smallestBeside_32 ⟨Nat.zero_le _, Nat.zero_le _⟩ (fun H locs hW hS => ?_)
            refine lv_if_eq (tgt := 42) hx hb dX6_smallestBeside_35 (by decide) (fun c_8 => ?_) (fun c_8 => ?_)
            · have h := ite_t c_8 h
              exact B42 _ _ hW hS ls l1 l2 l3 l4 (lv_sub hl [0, 1, 2, 3, 4] rfl) h
            · have h := ite_f c_8 h
              refine lv_iconst (v := 1) hx hb dX6_smallestBeside_38 (by decide) ?_
              refine lv_goto (tgt := 43) hx hb dX6_smallestBeside_39 (by decide) ?_
              exact B43 _ _ hW hS ls l1 l2 l3 l4 1 (lv_sub hl [0, 1, 2, 3, 4] rfl) h
  unfold f6_smallestBeside at h
  refine lv_bipush (v := (-5)) hx hb dX6_smallestBeside_0 (by decide) ?_
  refine lv_istore_n (lv' := [(3, .int ((-5))), (0, .ref (gad G 159)), (1, .int p1), (2, .int p2)]) hx hb dX6_smallestBeside_2 rfl hl (by decide) rfl (fun ls hl => ?_)
  refine lv_iconst (v := 0) hx hb dX6_smallestBeside_3 (by decide) ?_
  refine lv_istore (lv' := [(4, .int 0), (3, .int ((-5))), (0, .ref (gad G 159)), (1, .int p1), (2, .int p2)]) hx hb dX6_smallestBeside_4 hl (by decide) rfl (fun ls hl => ?_)
  exact B6 fuelN _ _ hW hS ls p1 p2 ((-5)) 0 (lv_sub hl [2, 3, 4, 1, 0] rfl) h
abbrev rX6_givesAway : Room := { frames := 5, cells := 0, slots := 0, locals := 118 }
set_option maxRecDepth 100000 in
set_option maxHeartbeats 8000000 in
theorem tX6_givesAway (l : Launch) (G : WG) (S0 M0 : St) (p1 : Int32) (p2 : Int32) (M' : St) (h : f6_givesAway M0 p1 p2 = some (M')) : CtV l yX6_givesAway wsX6_givesAway rX6_givesAway G [.ref (gad G 159), .int p1, .int p2] S0 M0 S0 M' := by
  refine Met.ofW (cc := cX6_givesAway) (maxL := 5) (ret := none) (by decide) rfl ?_
  intro p e s m args below meth cd s₁ B hml hv
  obtain ⟨hargs, hK, hW⟩ := hv
  have hx := B.exec
  have hb := B.bytes
  have hr := B.returns
  have hts := atoms_spec (ws := wsX6_givesAway) B.pre
  have hown : s.vm.findClass RX6 = some m.cls := findClass_of_methodNamed B.named
  have hlocks := B.notSynchronized
  have hA : ∀ q, Aw G q → Aw G q := fun _ h => h
  have hS : va_S (Aw G) s.heap s.heap [] := va_S.rf
  have he0 : entryFrame m args 5 = F0 m 0 ((lg_sl ([.ref (gad G 159), .int p1, .int p2]) ++ List.replicate (5 - (lg_sl ([.ref (gad G 159), .int p1, .int p2])).length) Slot.unset).toArray) [] := by rw [hargs]; exact lg_entry_eq _ _ _
  have hl := lv_entry ([.ref (gad G 159), .int p1, .int p2]) (n := 5) (Nat.le_of_ble_eq_true rfl)
  rw [he0]
  generalize (lg_sl ([.ref (gad G 159), .int p1, .int p2]) ++ List.replicate (5 - (lg_sl ([.ref (gad G 159), .int p1, .int p2])).length) Slot.unset).toArray = ls at hl ⊢
  have hl : lv_has ls 5 [(0, .ref (gad G 159)), (1, .int p1), (2, .int p2)] := hl
  have hiX6 : ∀ w ∈ u_ws RX6 TX6 14, w ∈ wsX6_givesAway := by decide +kernel
  have B62 : ∀ (H : Heap) (locs : List Loc) (M : St) (_ : WD G S0 M H) (_ : va_S (Aw G) s.heap H locs) (ls : Array Slot) (_ : lv_has ls 5 []) (h : f6_givesAway_b62 M  = some (M')), WV p l e (headSpec wsX6_givesAway rX6_givesAway).room s m args below meth cd G S0 M' H locs (F0 m 62 ls []) := by
    intro H locs M hW hS ls hl h
    unfold f6_givesAway_b62 at h
    obtain rfl := Option.some.inj h
    exact W.vret hx hb hr (fun t ht hw => ⟨⟨(), rfl, trivial, hW.ret ht⟩, hS.F ht⟩) hS.2.2 dX6_givesAway_62
  unfold f6_givesAway at h
  refine lv_aload_n hx hb dX6_givesAway_0 rfl (lv_at hl 0 rfl) ?_
  refine lv_iload_n hx hb dX6_givesAway_1 rfl (lv_at hl 1 rfl) ?_
  obtain ⟨r_1, e_2, h⟩ := bnd_e h
  refine kV_I (As := [.int p1]) (rest := []) ⟨hx, hb, hml, hown, hts⟩ (tX6_otherHalf l G S0 M0 p1 r_1 e_2) (cwV 1 hts gX6_givesAway_X6_otherHalf rfl rfl rfl ⟨rfl, hdX6_otherHalf⟩ ⟨Nat.le_of_ble_eq_true rfl, Nat.le_of_ble_eq_true rfl⟩) (va_recv hK.1 hW.1 (ci := 6) (q0 := 159) rfl lkM) hK hW hS hA rfl hl.1 rfl (Nat.le_of_ble_eq_true rfl) dX6_givesAway_2 ⟨Nat.zero_le _, Nat.zero_le _⟩ (fun H locs hW hS => ?_)
  refine lv_istore_n (lv' := [(3, .int r_1), (0, .ref (gad G 159)), (1, .int p1), (2, .int p2)]) hx hb dX6_givesAway_5 rfl hl (by decide) rfl (fun ls hl => ?_)
  refine lv_aload_n hx hb dX6_givesAway_6 rfl (lv_at hl 1 rfl) ?_
  refine lv_iload_n hx hb dX6_givesAway_7 rfl (lv_at hl 2 rfl) ?_
  refine lv_iload_n hx hb dX6_givesAway_8 rfl (lv_at hl 3 rfl) ?_
  obtain ⟨r_3, e_4, h⟩ := bnd_e h
  refine kV_I (As := [.int p1, .int p2]) (rest := []) ⟨hx, hb, hml, hown, hts⟩ (tX6_smallestBeside l G S0 M0 p1 p2 r_3 e_4) (cwV 2 hts gX6_givesAway_X6_smallestBeside rfl rfl rfl ⟨rfl, hdX6_smallestBeside⟩ ⟨Nat.le_of_ble_eq_true rfl, Nat.le_of_ble_eq_true rfl⟩) (va_recv hK.1 hW.1 (ci := 6) (q0 := 159) rfl lkM) hK hW hS hA rfl hl.1 rfl (Nat.le_of_ble_eq_true rfl) dX6_givesAway_9 ⟨Nat.zero_le _, Nat.zero_le _⟩ (fun H locs hW hS => ?_)
  refine lv_istore (lv' := [(4, .int r_3), (3, .int r_1), (0, .ref (gad G 159)), (1, .int p1), (2, .int p2)]) hx hb dX6_givesAway_12 hl (by decide) rfl (fun ls hl => ?_)
  refine lv_iload_n hx hb dX6_givesAway_14 rfl (lv_at hl 1 rfl) ?_
  refine lv_bipush (v := (-5)) hx hb dX6_givesAway_15 (by decide) ?_
  refine lv_icmp_eq (tgt := 35) hx hb dX6_givesAway_17 (by decide) (fun c_5 => ?_) (fun c_5 => ?_)
  · have h := ite_t c_5 h
    refine lv_aload_n hx hb dX6_givesAway_35 rfl (lv_at hl 2 rfl) ?_
    refine va_get (D := G.1) (ci := 6) (v := .ref (gad G (160 + 0))) (C := RX6) (T := TX6) (N := 14) hx hb hts hiX6 hown hK.1 hW.1 159 lkM rfl 1 (by decide) (hts _ (List.mem_of_getElem? (i := 1) rfl)) (fun _ h9 => h9) rfl dX6_givesAway_36 ?_
    refine lv_bipush (v := 54) hx hb dX6_givesAway_39 (by decide) ?_
    refine lv_iconst (v := 4) hx hb dX6_givesAway_41 (by decide) ?_
    refine lv_iload_n hx hb dX6_givesAway_42 rfl (lv_at hl 3 rfl) ?_
    refine lv_imul hx hb dX6_givesAway_43 ?_
    refine lv_iadd hx hb dX6_givesAway_44 ?_
    refine lv_iconst (v := 3) hx hb dX6_givesAway_45 (by decide) ?_
    refine lv_iadd hx hb dX6_givesAway_46 ?_
    refine lv_iload hx hb dX6_givesAway_47 (lv_at hl 0 rfl) ?_
    refine lv_iconst (v := 1) hx hb dX6_givesAway_49 (by decide) ?_
    refine lv_iadd hx hb dX6_givesAway_50 ?_
    obtain ⟨n_7, h⟩ := sto_e h
    obtain ⟨M_6, eM_6, h⟩ := nam_e h
    refine va_iast hx hb hK.1 hW.1 (hW.D hA) hS (160 + 0) 0 (lkMa (j := 0) (by omega)) rfl n_7 dX6_givesAway_51 (fun H locs hP hD hS => ?_)
    have hW := upMa (j := 0) (by omega) hW hP
    rw [← eM_6] at hW
    refine lv_aload_n hx hb dX6_givesAway_52 rfl (lv_at hl 2 rfl) ?_
    refine va_get (D := G.1) (ci := 6) (v := .ref (gad G (160 + 0))) (C := RX6) (T := TX6) (N := 14) hx hb hts hiX6 hown hK.1 hW.1 159 lkM rfl 1 (by decide) (hts _ (List.mem_of_getElem? (i := 1) rfl)) (fun _ h9 => h9) rfl dX6_givesAway_53 ?_
    refine lv_iconst (v := 5) hx hb dX6_givesAway_56 (by decide) ?_
    refine lv_dup2_11 hx hb dX6_givesAway_57 rfl rfl ?_
    obtain ⟨x_8, nx_8, ex_8, h⟩ := arr_e h
    refine va_iald hx hb hK.1 hW.1 (160 + 0) 0 (lkMa (j := 0) (by omega)) rfl nx_8 dX6_givesAway_58 ?_
    refine lv_ni ex_8 ?_
    refine lv_iconst (v := 1) hx hb dX6_givesAway_59 (by decide) ?_
    refine lv_iadd hx hb dX6_givesAway_60 ?_
    obtain ⟨n_10, h⟩ := sto_e h
    obtain ⟨M_9, eM_9, h⟩ := nam_e h
    refine va_iast hx hb hK.1 hW.1 (hW.D hA) hS (160 + 0) 0 (lkMa (j := 0) (by omega)) rfl n_10 dX6_givesAway_61 (fun H locs hP hD hS => ?_)
    have hW := upMa (j := 0) (by omega) hW hP
    rw [← eM_9] at hW
    exact B62 _ _ M_9 hW hS ls (lv_sub hl [] rfl) h
  · have h := ite_f c_5 h
    refine lv_aload_n hx hb dX6_givesAway_20 rfl (lv_at hl 2 rfl) ?_
    refine lv_iload_n hx hb dX6_givesAway_21 rfl (lv_at hl 3 rfl) ?_
    refine lv_iload_n hx hb dX6_givesAway_22 rfl (lv_at hl 1 rfl) ?_
    refine lv_aload_n hx hb dX6_givesAway_23 rfl (lv_at hl 2 rfl) ?_
    refine lv_iload_n hx hb dX6_givesAway_24 rfl (lv_at hl 1 rfl) ?_
    refine lv_iconst (v := 3) hx hb dX6_givesAway_25 (by decide) ?_
    obtain ⟨r_11, e_12, h⟩ := bnd_e h
    refine kV_I (As := [.int r_1, .int 3]) (rest := [.int r_1, .int p1, .ref (gad G 159)]) ⟨hx, hb, hml, hown, hts⟩ (tX6_ofPlot l G S0 M0 r_1 3 r_11 e_12) (cwV 2 hts gX6_givesAway_X6_ofPlot rfl rfl rfl ⟨rfl, hdX6_ofPlot⟩ ⟨Nat.le_of_ble_eq_true rfl, Nat.le_of_ble_eq_true rfl⟩) (va_recv hK.1 hW.1 (ci := 6) (q0 := 159) rfl lkM) hK hW hS hA rfl hl.1 rfl (Nat.le_of_ble_eq_true rfl) dX6_givesAway_26 ⟨Nat.zero_le _, Nat.zero_le _⟩ (fun H locs hW hS => ?_)
    obtain ⟨M_13, e_14, h⟩ := bnd_e h
    refine kV_V (As := [.int p1, .int r_1, .int r_11]) (rest := []) ⟨hx, hb, hml, hown, hts⟩ (tX6_joins l G S0 M0 p1 r_1 r_11 M_13 e_14) (cwV 3 hts gX6_givesAway_X6_joins rfl rfl rfl ⟨rfl, hdX6_joins⟩ ⟨Nat.le_of_ble_eq_true rfl, Nat.le_of_ble_eq_true rfl⟩) (va_recv hK.1 hW.1 (ci := 6) (q0 := 159) rfl lkM) hK hW hS hA rfl hl.1 rfl (Nat.le_of_ble_eq_true rfl) dX6_givesAway_29 ⟨Nat.zero_le _, Nat.zero_le _⟩ (fun H locs hW hS => ?_)
    refine lv_goto (tgt := 62) hx hb dX6_givesAway_32 (by decide) ?_
    exact B62 _ _ M_13 hW hS ls (lv_sub hl [] rfl) h
abbrev rX6_leave : Room := { frames := 6, cells := 0, slots := 0, locals := 142 }
set_option maxRecDepth 100000 in
set_option maxHeartbeats 8000000 in
theorem tX6_leave (l : Launch) (G : WG) (S0 M0 : St) (p1 : Int32) (rr : Int32) (M' : St) (h : f6_leave M0 p1 = some (rr, M')) : CtI l yX6_leave wsX6_leave rX6_leave G [.ref (gad G 159), .int p1] S0 M0 rr S0 M' := by
  refine Met.ofW (cc := cX6_leave) (maxL := 3) (ret := (some .int)) (by decide) rfl ?_
  intro p e s m args below meth cd s₁ B hml hv
  obtain ⟨hargs, hK, hW⟩ := hv
  have hx := B.exec
  have hb := B.bytes
  have hr := B.returns
  have hts := atoms_spec (ws := wsX6_leave) B.pre
  have hown : s.vm.findClass RX6 = some m.cls := findClass_of_methodNamed B.named
  have hlocks := B.notSynchronized
  have hA : ∀ q, Aw G q → Aw G q := fun _ h => h
  have hS : va_S (Aw G) s.heap s.heap [] := va_S.rf
  have he0 : entryFrame m args 3 = F0 m 0 ((lg_sl ([.ref (gad G 159), .int p1]) ++ List.replicate (3 - (lg_sl ([.ref (gad G 159), .int p1])).length) Slot.unset).toArray) [] := by rw [hargs]; exact lg_entry_eq _ _ _
  have hl := lv_entry ([.ref (gad G 159), .int p1]) (n := 3) (Nat.le_of_ble_eq_true rfl)
  rw [he0]
  generalize (lg_sl ([.ref (gad G 159), .int p1]) ++ List.replicate (3 - (lg_sl ([.ref (gad G 159), .int p1])).length) Slot.unset).toArray = ls at hl ⊢
  have hl : lv_has ls 3 [(0, .ref (gad G 159)), (1, .int p1)] := hl
  have hiX6 : ∀ w ∈ u_ws RX6 TX6 14, w ∈ wsX6_leave := by decide +kernel
  have B57 : ∀ (n : Nat), ∀ (H : Heap) (locs : List Loc) (M : St) (_ : WD G S0 M H) (_ : va_S (Aw G) s.heap H locs) (ls : Array Slot) (l1 : Int32) (l2 : Int32) (_ : lv_has ls 3 [(0, .ref (gad G 159)), (1, .int l1), (2, .int l2)]) (h : f6_leave_b57 l1 n M l2 = some (rr, M')), WI p l e (headSpec wsX6_leave rX6_leave).room s m args below meth cd G rr S0 M' H locs (F0 m 57 ls []) := by
    intro n
    induction n with
    | zero => intro H locs M hW hS ls l1 l2 hl h; cases (show (none : Option (Int32 × St)) = some _ from h)
    | succ n ih =>
      intro H locs M hW hS ls l1 l2 hl h
      rw [f6_leave_b57] at h
      refine lv_iload_n hx hb dX6_leave_57 rfl (lv_at hl 2 rfl) ?_
      refine lv_bipush (v := (-5)) hx hb dX6_leave_58 (by decide) ?_
      refine lv_icmp_eq (tgt := 78) hx hb dX6_leave_60 (by decide) (fun c_1 => ?_) (fun c_1 => ?_)
      · have h := ite_t c_1 h
        refine lv_aload_n hx hb dX6_leave_78 rfl (lv_at hl 0 rfl) ?_
        obtain ⟨r_2, e_3, h⟩ := bnd_e h
        refine kV_I (As := []) (rest := []) ⟨hx, hb, hml, hown, hts⟩ (tX6_onField l G S0 M r_2 e_3) (cwV 0 hts gX6_leave_X6_onField rfl rfl rfl ⟨rfl, hdX6_onField⟩ ⟨Nat.le_of_ble_eq_true rfl, Nat.le_of_ble_eq_true rfl⟩) (va_recv hK.1 hW.1 (ci := 6) (q0 := 159) rfl lkM) hK hW hS hA rfl hl.1 rfl (Nat.le_of_ble_eq_true rfl) dX6_leave_79 ⟨Nat.zero_le _, Nat.zero_le _⟩ (fun H locs hW hS => ?_)
        obtain ⟨rfl, rfl⟩ := Prod.mk.inj (Option.some.inj h)
        exact W.iret hx hb hr (fun t ht hw => ⟨⟨_, (), rfl, rfl, hW.ret ht⟩, hS.F ht⟩) hS.2.2 dX6_leave_82
      · have h := ite_f c_1 h
        refine lv_aload_n hx hb dX6_leave_63 rfl (lv_at hl 0 rfl) ?_
        refine lv_iload_n hx hb dX6_leave_64 rfl (lv_at hl 2 rfl) ?_
        refine lv_iload_n hx hb dX6_leave_65 rfl (lv_at hl 1 rfl) ?_
        obtain ⟨M_4, e_5, h⟩ := bnd_e h
        refine kV_V (As := [.int l2, .int l1]) (rest := []) ⟨hx, hb, hml, hown, hts⟩ (tX6_givesAway l G S0 M l2 l1 M_4 e_5) (cwV 2 hts gX6_leave_X6_givesAway rfl rfl rfl ⟨rfl, hdX6_givesAway⟩ ⟨Nat.le_of_ble_eq_true rfl, Nat.le_of_ble_eq_true rfl⟩) (va_recv hK.1 hW.1 (ci := 6) (q0 := 159) rfl lkM) hK hW hS hA rfl hl.1 rfl (Nat.le_of_ble_eq_true rfl) dX6_leave_66 ⟨Nat.zero_le _, Nat.zero_le _⟩ (fun H locs hW hS => ?_)
        refine lv_aload_n hx hb dX6_leave_69 rfl (lv_at hl 0 rfl) ?_
        refine lv_iload_n hx hb dX6_leave_70 rfl (lv_at hl 1 rfl) ?_
        obtain ⟨r_6, e_7, h⟩ := bnd_e h
        refine kV_I (As := [.int l1]) (rest := []) ⟨hx, hb, hml, hown, hts⟩ (tX6_firstToGive l G S0 M_4 l1 r_6 e_7) (cwV 1 hts gX6_leave_X6_firstToGive rfl rfl rfl ⟨rfl, hdX6_firstToGive⟩ ⟨Nat.le_of_ble_eq_true rfl, Nat.le_of_ble_eq_true rfl⟩) (va_recv hK.1 hW.1 (ci := 6) (q0 := 159) rfl lkM) hK hW hS hA rfl hl.1 rfl (Nat.le_of_ble_eq_true rfl) dX6_leave_71 ⟨Nat.zero_le _, Nat.zero_le _⟩ (fun H locs hW hS => ?_)
        refine lv_istore_n (lv' := [(2, .int r_6), (0, .ref (gad G 159)), (1, .int l1)]) hx hb dX6_leave_74 rfl hl (by decide) rfl (fun ls hl => ?_)
        refine lv_goto (tgt := 57) hx hb dX6_leave_75 (by decide) ?_
        exact ih _ _ M_4 hW hS ls l1 r_6 (lv_sub hl [1, 2, 0] rfl) h
  unfold f6_leave at h
  refine lv_aload_n hx hb dX6_leave_0 rfl (lv_at hl 0 rfl) ?_
  refine lv_iconst (v := 0) hx hb dX6_leave_1 (by decide) ?_
  obtain ⟨M_1, eM_1, h⟩ := nam_e h
  refine va_put (D := G.1) (ci := 6) (v := .int 0) (ty := .int) (C := RX6) (T := TX6) (N := 14) hx hb hts hiX6 tyX6 tyX6_ok nmX6 hown hK.1 hW.1 (hW.D hA) hS 159 lkM rfl 0 (by decide) (hts _ (List.mem_of_getElem? (i := 1) rfl)) (fun _ h9 => h9) rfl (by decide +kernel) rfl rfl (Nat.le_of_ble_eq_true rfl) dX6_leave_2 (fun H locs hP hD hS => ?_)
  have hW := upM0 hW hP
  rw [← eM_1] at hW
  refine lv_aload_n hx hb dX6_leave_5 rfl (lv_at hl 0 rfl) ?_
  refine lv_iload_n hx hb dX6_leave_6 rfl (lv_at hl 1 rfl) ?_
  obtain ⟨r_2, e_3, h⟩ := bnd_e h
  refine kV_I (As := [.int p1]) (rest := []) ⟨hx, hb, hml, hown, hts⟩ (tX6_isHere l G S0 M_1 p1 r_2 e_3) (cwV 1 hts gX6_leave_X6_isHere rfl rfl rfl ⟨rfl, hdX6_isHere⟩ ⟨Nat.le_of_ble_eq_true rfl, Nat.le_of_ble_eq_true rfl⟩) (va_recv hK.1 hW.1 (ci := 6) (q0 := 159) rfl lkM) hK hW hS hA rfl hl.1 rfl (Nat.le_of_ble_eq_true rfl) dX6_leave_7 ⟨Nat.zero_le _, Nat.zero_le _⟩ (fun H locs hW hS => ?_)
  refine lv_if_ne (tgt := 15) hx hb dX6_leave_10 (by decide) (fun c_4 => ?_) (fun c_4 => ?_)
  · have h := ite_f c_4 h
    refine lv_aload_n hx hb dX6_leave_15 rfl (lv_at hl 0 rfl) ?_
    obtain ⟨M_5, e_6, h⟩ := bnd_e h
    refine kV_V (As := []) (rest := []) ⟨hx, hb, hml, hown, hts⟩ (tX6_records l G S0 M_1 M_5 e_6) (cwV 0 hts gX6_leave_X6_records rfl rfl rfl ⟨rfl, hdX6_records⟩ ⟨Nat.le_of_ble_eq_true rfl, Nat.le_of_ble_eq_true rfl⟩) (va_recv hK.1 hW.1 (ci := 6) (q0 := 159) rfl lkM) hK hW hS hA rfl hl.1 rfl (Nat.le_of_ble_eq_true rfl) dX6_leave_16 ⟨Nat.zero_le _, Nat.zero_le _⟩ (fun H locs hW hS => ?_)
    refine lv_aload_n hx hb dX6_leave_19 rfl (lv_at hl 0 rfl) ?_
    refine lv_iload_n hx hb dX6_leave_20 rfl (lv_at hl 1 rfl) ?_
    refine lv_iconst (v := 0) hx hb dX6_leave_21 (by decide) ?_
    refine lv_iconst (v := 0) hx hb dX6_leave_22 (by decide) ?_
    obtain ⟨M_7, e_8, h⟩ := bnd_e h
    refine kV_V (As := [.int p1, .int 0, .int 0]) (rest := []) ⟨hx, hb, hml, hown, hts⟩ (tX6_layCamper l G S0 M_5 p1 0 0 M_7 e_8) (cwV 3 hts gX6_leave_X6_layCamper rfl rfl rfl ⟨rfl, hdX6_layCamper⟩ ⟨Nat.le_of_ble_eq_true rfl, Nat.le_of_ble_eq_true rfl⟩) (va_recv hK.1 hW.1 (ci := 6) (q0 := 159) rfl lkM) hK hW hS hA rfl hl.1 rfl (Nat.le_of_ble_eq_true rfl) dX6_leave_23 ⟨Nat.zero_le _, Nat.zero_le _⟩ (fun H locs hW hS => ?_)
    refine lv_aload_n hx hb dX6_leave_26 rfl (lv_at hl 0 rfl) ?_
    obtain ⟨r_9, e_10, h⟩ := bnd_e h
    refine kV_I (As := []) (rest := []) ⟨hx, hb, hml, hown, hts⟩ (tX6_onField l G S0 M_7 r_9 e_10) (cwV 0 hts gX6_leave_X6_onField rfl rfl rfl ⟨rfl, hdX6_onField⟩ ⟨Nat.le_of_ble_eq_true rfl, Nat.le_of_ble_eq_true rfl⟩) (va_recv hK.1 hW.1 (ci := 6) (q0 := 159) rfl lkM) hK hW hS hA rfl hl.1 rfl (Nat.le_of_ble_eq_true rfl) dX6_leave_27 ⟨Nat.zero_le _, Nat.zero_le _⟩ (fun H locs hW hS => ?_)
    refine lv_if_ne (tgt := 51) hx hb dX6_leave_30 (by decide) (fun c_11 => ?_) (fun c_11 => ?_)
    · have h := ite_f c_11 h
      refine lv_aload_n hx hb dX6_leave_51 rfl (lv_at hl 0 rfl) ?_
      refine lv_iload_n hx hb dX6_leave_52 rfl (lv_at hl 1 rfl) ?_
      obtain ⟨r_12, e_13, h⟩ := bnd_e h
      refine kV_I (As := [.int p1]) (rest := []) ⟨hx, hb, hml, hown, hts⟩ (tX6_firstToGive l G S0 M_7 p1 r_12 e_13) (cwV 1 hts gX6_leave_X6_firstToGive rfl rfl rfl ⟨rfl, hdX6_firstToGive⟩ ⟨Nat.le_of_ble_eq_true rfl, Nat.le_of_ble_eq_true rfl⟩) (va_recv hK.1 hW.1 (ci := 6) (q0 := 159) rfl lkM) hK hW hS hA rfl hl.1 rfl (Nat.le_of_ble_eq_true rfl) dX6_leave_53 ⟨Nat.zero_le _, Nat.zero_le _⟩ (fun H locs hW hS => ?_)
      refine lv_istore_n (lv' := [(2, .int r_12), (0, .ref (gad G 159)), (1, .int p1)]) hx hb dX6_leave_56 rfl hl (by decide) rfl (fun ls hl => ?_)
      exact B57 fuelN _ _ M_7 hW hS ls p1 r_12 (lv_sub hl [1, 2, 0] rfl) h
    · have h := ite_t c_11 h
      refine lv_aload_n hx hb dX6_leave_33 rfl (lv_at hl 0 rfl) ?_
      refine va_get (D := G.1) (ci := 6) (v := .ref (gad G (160 + 0))) (C := RX6) (T := TX6) (N := 14) hx hb hts hiX6 hown hK.1 hW.1 159 lkM rfl 1 (by decide) (hts _ (List.mem_of_getElem? (i := 2) rfl)) (fun _ h9 => h9) rfl dX6_leave_34 ?_
      refine lv_iconst (v := 1) hx hb dX6_leave_37 (by decide) ?_
      refine lv_iconst (v := 1) hx hb dX6_leave_38 (by decide) ?_
      obtain ⟨n_15, h⟩ := sto_e h
      obtain ⟨M_14, eM_14, h⟩ := nam_e h
      refine va_iast hx hb hK.1 hW.1 (hW.D hA) hS (160 + 0) 0 (lkMa (j := 0) (by omega)) rfl n_15 dX6_leave_39 (fun H locs hP hD hS => ?_)
      have hW := upMa (j := 0) (by omega) hW hP
      rw [← eM_14] at hW
      refine lv_aload_n hx hb dX6_leave_40 rfl (lv_at hl 0 rfl) ?_
      refine lv_iconst (v := 0) hx hb dX6_leave_41 (by decide) ?_
      refine lv_iconst (v := 0) hx hb dX6_leave_42 (by decide) ?_
      refine lv_iconst (v := 0) hx hb dX6_leave_43 (by decide) ?_
      refine lv_iconst (v := 0) hx hb dX6_leave_44 (by decide) ?_
      refine lv_iconst (v := 0) hx hb dX6_leave_45 (by decide) ?_
      obtain ⟨M_16, e_17, h⟩ := bnd_e h
      refine kV_V (As := [.int 0, .int 0, .int 0, .int 0, .int 0]) (rest := []) ⟨hx, hb, hml, hown, hts⟩ (tX6_layPlot l G S0 M_14 0 0 0 0 0 M_16 e_17) (cwV 5 hts gX6_leave_X6_layPlot rfl rfl rfl ⟨rfl, hdX6_layPlot⟩ ⟨Nat.le_of_ble_eq_true rfl, Nat.le_of_ble_eq_true rfl⟩) (va_recv hK.1 hW.1 (ci := 6) (q0 := 159) rfl lkM) hK hW hS hA rfl hl.1 rfl (Nat.le_of_ble_eq_true rfl) dX6_leave_46 ⟨Nat.zero_le _, Nat.zero_le _⟩ (fun H locs hW hS => ?_)
      refine lv_iconst (v := 0) hx hb dX6_leave_49 (by decide) ?_
      obtain ⟨rfl, rfl⟩ := Prod.mk.inj (Option.some.inj h)
      exact W.iret hx hb hr (fun t ht hw => ⟨⟨_, (), rfl, rfl, hW.ret ht⟩, hS.F ht⟩) hS.2.2 dX6_leave_50
  · have h := ite_t c_4 h
    refine lv_iconst (v := (-1)) hx hb dX6_leave_13 (by decide) ?_
    obtain ⟨rfl, rfl⟩ := Prod.mk.inj (Option.some.inj h)
    exact W.iret hx hb hr (fun t ht hw => ⟨⟨_, (), rfl, rfl, hW.ret ht⟩, hS.F ht⟩) hS.2.2 dX6_leave_14
abbrev rX6_moveTent : Room := { frames := 4, cells := 0, slots := 0, locals := 89 }
set_option maxRecDepth 100000 in
set_option maxHeartbeats 8000000 in
theorem tX6_moveTent (l : Launch) (G : WG) (S0 M0 : St) (p1 : Int32) (p2 : Int32) (p3 : Int32) (rr : Int32) (M' : St) (h : f6_moveTent M0 p1 p2 p3 = some (rr, M')) : CtI l yX6_moveTent wsX6_moveTent rX6_moveTent G [.ref (gad G 159), .int p1, .int p2, .int p3] S0 M0 rr S0 M' := by
  refine Met.ofW (cc := cX6_moveTent) (maxL := 5) (ret := (some .int)) (by decide) rfl ?_
  intro p e s m args below meth cd s₁ B hml hv
  obtain ⟨hargs, hK, hW⟩ := hv
  have hx := B.exec
  have hb := B.bytes
  have hr := B.returns
  have hts := atoms_spec (ws := wsX6_moveTent) B.pre
  have hown : s.vm.findClass RX6 = some m.cls := findClass_of_methodNamed B.named
  have hlocks := B.notSynchronized
  have hA : ∀ q, Aw G q → Aw G q := fun _ h => h
  have hS : va_S (Aw G) s.heap s.heap [] := va_S.rf
  have he0 : entryFrame m args 5 = F0 m 0 ((lg_sl ([.ref (gad G 159), .int p1, .int p2, .int p3]) ++ List.replicate (5 - (lg_sl ([.ref (gad G 159), .int p1, .int p2, .int p3])).length) Slot.unset).toArray) [] := by rw [hargs]; exact lg_entry_eq _ _ _
  have hl := lv_entry ([.ref (gad G 159), .int p1, .int p2, .int p3]) (n := 5) (Nat.le_of_ble_eq_true rfl)
  rw [he0]
  generalize (lg_sl ([.ref (gad G 159), .int p1, .int p2, .int p3]) ++ List.replicate (5 - (lg_sl ([.ref (gad G 159), .int p1, .int p2, .int p3])).length) Slot.unset).toArray = ls at hl ⊢
  have hl : lv_has ls 5 [(0, .ref (gad G 159)), (1, .int p1), (2, .int p2), (3, .int p3)] := hl
  have hiX6 : ∀ w ∈ u_ws RX6 TX6 14, w ∈ wsX6_moveTent := by decide +kernel
  have B70 : ∀ (H : Heap) (locs : List Loc) (M : St) (_ : WD G S0 M H) (_ : va_S (Aw G) s.heap H locs) (ls : Array Slot) (l1 : Int32) (l2 : Int32) (l3 : Int32) (l4 : Int32) (_ : lv_has ls 5 [(0, .ref (gad G 159)), (1, .int l1), (2, .int l2), (3, .int l3), (4, .int l4)]) (h : f6_moveTent_b70 M l1 l2 l3 l4 = some (rr, M')), WI p l e (headSpec wsX6_moveTent rX6_moveTent).room s m args below meth cd G rr S0 M' H locs (F0 m 70 ls []) := by
    intro H locs M hW hS ls l1 l2 l3 l4 hl h
    unfold f6_moveTent_b70 at h
    refine lv_aload_n hx hb dX6_moveTent_70 rfl (lv_at hl 0 rfl) ?_
    obtain ⟨M_1, e_2, h⟩ := bnd_e h
    refine kV_V (As := []) (rest := []) ⟨hx, hb, hml, hown, hts⟩ (tX6_records l G S0 M M_1 e_2) (cwV 0 hts gX6_moveTent_X6_records rfl rfl rfl ⟨rfl, hdX6_records⟩ ⟨Nat.le_of_ble_eq_true rfl, Nat.le_of_ble_eq_true rfl⟩) (va_recv hK.1 hW.1 (ci := 6) (q0 := 159) rfl lkM) hK hW hS hA rfl hl.1 rfl (Nat.le_of_ble_eq_true rfl) dX6_moveTent_71 ⟨Nat.zero_le _, Nat.zero_le _⟩ (fun H locs hW hS => ?_)
    refine lv_aload_n hx hb dX6_moveTent_74 rfl (lv_at hl 0 rfl) ?_
    refine lv_iload_n hx hb dX6_moveTent_75 rfl (lv_at hl 1 rfl) ?_
    refine lv_iconst (v := 1) hx hb dX6_moveTent_76 (by decide) ?_
    refine lv_iload_n hx hb dX6_moveTent_77 rfl (lv_at hl 2 rfl) ?_
    obtain ⟨M_3, e_4, h⟩ := bnd_e h
    refine kV_V (As := [.int l1, .int 1, .int l2]) (rest := []) ⟨hx, hb, hml, hown, hts⟩ (tX6_layCamper l G S0 M_1 l1 1 l2 M_3 e_4) (cwV 3 hts gX6_moveTent_X6_layCamper rfl rfl rfl ⟨rfl, hdX6_layCamper⟩ ⟨Nat.le_of_ble_eq_true rfl, Nat.le_of_ble_eq_true rfl⟩) (va_recv hK.1 hW.1 (ci := 6) (q0 := 159) rfl lkM) hK hW hS hA rfl hl.1 rfl (Nat.le_of_ble_eq_true rfl) dX6_moveTent_78 ⟨Nat.zero_le _, Nat.zero_le _⟩ (fun H locs hW hS => ?_)
    refine lv_aload_n hx hb dX6_moveTent_81 rfl (lv_at hl 0 rfl) ?_
    refine lv_iload_n hx hb dX6_moveTent_82 rfl (lv_at hl 1 rfl) ?_
    refine lv_iconst (v := 2) hx hb dX6_moveTent_83 (by decide) ?_
    refine lv_iload_n hx hb dX6_moveTent_84 rfl (lv_at hl 3 rfl) ?_
    obtain ⟨M_5, e_6, h⟩ := bnd_e h
    refine kV_V (As := [.int l1, .int 2, .int l3]) (rest := []) ⟨hx, hb, hml, hown, hts⟩ (tX6_layCamper l G S0 M_3 l1 2 l3 M_5 e_6) (cwV 3 hts gX6_moveTent_X6_layCamper rfl rfl rfl ⟨rfl, hdX6_layCamper⟩ ⟨Nat.le_of_ble_eq_true rfl, Nat.le_of_ble_eq_true rfl⟩) (va_recv hK.1 hW.1 (ci := 6) (q0 := 159) rfl lkM) hK hW hS hA rfl hl.1 rfl (Nat.le_of_ble_eq_true rfl) dX6_moveTent_85 ⟨Nat.zero_le _, Nat.zero_le _⟩ (fun H locs hW hS => ?_)
    refine lv_aload_n hx hb dX6_moveTent_88 rfl (lv_at hl 0 rfl) ?_
    refine lv_iload hx hb dX6_moveTent_89 (lv_at hl 4 rfl) ?_
    refine lv_iconst (v := 0) hx hb dX6_moveTent_91 (by decide) ?_
    obtain ⟨r_7, e_8, h⟩ := bnd_e h
    refine kV_I (As := [.int l4, .int 0]) (rest := []) ⟨hx, hb, hml, hown, hts⟩ (tX6_ofPlot l G S0 M_5 l4 0 r_7 e_8) (cwV 2 hts gX6_moveTent_X6_ofPlot rfl rfl rfl ⟨rfl, hdX6_ofPlot⟩ ⟨Nat.le_of_ble_eq_true rfl, Nat.le_of_ble_eq_true rfl⟩) (va_recv hK.1 hW.1 (ci := 6) (q0 := 159) rfl lkM) hK hW hS hA rfl hl.1 rfl (Nat.le_of_ble_eq_true rfl) dX6_moveTent_92 ⟨Nat.zero_le _, Nat.zero_le _⟩ (fun H locs hW hS => ?_)
    obtain ⟨rfl, rfl⟩ := Prod.mk.inj (Option.some.inj h)
    exact W.iret hx hb hr (fun t ht hw => ⟨⟨_, (), rfl, rfl, hW.ret ht⟩, hS.F ht⟩) hS.2.2 dX6_moveTent_95
  have B21 : ∀ (H : Heap) (locs : List Loc) (M : St) (_ : WD G S0 M H) (_ : va_S (Aw G) s.heap H locs) (ls : Array Slot) (_ : lv_has ls 5 []) (h : f6_moveTent_b21 M  = some (rr, M')), WI p l e (headSpec wsX6_moveTent rX6_moveTent).room s m args below meth cd G rr S0 M' H locs (F0 m 21 ls []) := by
    intro H locs M hW hS ls hl h
    unfold f6_moveTent_b21 at h
    refine lv_iconst (v := (-1)) hx hb dX6_moveTent_21 (by decide) ?_
    obtain ⟨rfl, rfl⟩ := Prod.mk.inj (Option.some.inj h)
    exact W.iret hx hb hr (fun t ht hw => ⟨⟨_, (), rfl, rfl, hW.ret ht⟩, hS.F ht⟩) hS.2.2 dX6_moveTent_22
  unfold f6_moveTent at h
  refine lv_aload_n hx hb dX6_moveTent_0 rfl (lv_at hl 0 rfl) ?_
  refine lv_iconst (v := 0) hx hb dX6_moveTent_1 (by decide) ?_
  obtain ⟨M_1, eM_1, h⟩ := nam_e h
  refine va_put (D := G.1) (ci := 6) (v := .int 0) (ty := .int) (C := RX6) (T := TX6) (N := 14) hx hb hts hiX6 tyX6 tyX6_ok nmX6 hown hK.1 hW.1 (hW.D hA) hS 159 lkM rfl 0 (by decide) (hts _ (List.mem_of_getElem? (i := 1) rfl)) (fun _ h9 => h9) rfl (by decide +kernel) rfl rfl (Nat.le_of_ble_eq_true rfl) dX6_moveTent_2 (fun H locs hP hD hS => ?_)
  have hW := upM0 hW hP
  rw [← eM_1] at hW
  refine lv_aload_n hx hb dX6_moveTent_5 rfl (lv_at hl 0 rfl) ?_
  refine lv_iload_n hx hb dX6_moveTent_6 rfl (lv_at hl 1 rfl) ?_
  obtain ⟨r_2, e_3, h⟩ := bnd_e h
  refine kV_I (As := [.int p1]) (rest := []) ⟨hx, hb, hml, hown, hts⟩ (tX6_isHere l G S0 M_1 p1 r_2 e_3) (cwV 1 hts gX6_moveTent_X6_isHere rfl rfl rfl ⟨rfl, hdX6_isHere⟩ ⟨Nat.le_of_ble_eq_true rfl, Nat.le_of_ble_eq_true rfl⟩) (va_recv hK.1 hW.1 (ci := 6) (q0 := 159) rfl lkM) hK hW hS hA rfl hl.1 rfl (Nat.le_of_ble_eq_true rfl) dX6_moveTent_7 ⟨Nat.zero_le _, Nat.zero_le _⟩ (fun H locs hW hS => ?_)
  refine lv_if_eq (tgt := 21) hx hb dX6_moveTent_10 (by decide) (fun c_4 => ?_) (fun c_4 => ?_)
  · have h := ite_t c_4 h
    exact B21 _ _ M_1 hW hS ls (lv_sub hl [] rfl) h
  · have h := ite_f c_4 h
    refine lv_iload_n hx hb dX6_moveTent_13 rfl (lv_at hl 2 rfl) ?_
    refine lv_iload_n hx hb dX6_moveTent_14 rfl (lv_at hl 3 rfl) ?_
    obtain ⟨r_5, e_6, h⟩ := bnd_e h
    refine kS_I (As := [.int p2, .int p3]) (rest := []) ⟨hx, hb, hml, hown, hts⟩ (tX6_isPoint l G S0 M_1 p2 p3 r_5 e_6) (va_cwS 2 hts gX6_moveTent_X6_isPoint rfl rfl rfl hdX6_isPoint ⟨Nat.le_of_ble_eq_true rfl, Nat.le_of_ble_eq_true rfl⟩) hK hW hS hA rfl hl.1 rfl (Nat.le_of_ble_eq_true rfl) dX6_moveTent_15 ⟨Nat.zero_le _, Nat.zero_le _⟩ (fun H locs hW hS => ?_)
    refine lv_if_ne (tgt := 23) hx hb dX6_moveTent_18 (by decide) (fun c_7 => ?_) (fun c_7 => ?_)
    · have h := ite_f c_7 h
      refine lv_aload_n hx hb dX6_moveTent_23 rfl (lv_at hl 0 rfl) ?_
      refine lv_iload_n hx hb dX6_moveTent_24 rfl (lv_at hl 2 rfl) ?_
      refine lv_iload_n hx hb dX6_moveTent_25 rfl (lv_at hl 3 rfl) ?_
      obtain ⟨r_8, e_9, h⟩ := bnd_e h
      refine kV_I (As := [.int p2, .int p3]) (rest := []) ⟨hx, hb, hml, hown, hts⟩ (tX6_plotAt l G S0 M_1 p2 p3 r_8 e_9) (cwV 2 hts gX6_moveTent_X6_plotAt rfl rfl rfl ⟨rfl, hdX6_plotAt⟩ ⟨Nat.le_of_ble_eq_true rfl, Nat.le_of_ble_eq_true rfl⟩) (va_recv hK.1 hW.1 (ci := 6) (q0 := 159) rfl lkM) hK hW hS hA rfl hl.1 rfl (Nat.le_of_ble_eq_true rfl) dX6_moveTent_26 ⟨Nat.zero_le _, Nat.zero_le _⟩ (fun H locs hW hS => ?_)
      refine lv_istore (lv' := [(4, .int r_8), (0, .ref (gad G 159)), (1, .int p1), (2, .int p2), (3, .int p3)]) hx hb dX6_moveTent_29 hl (by decide) rfl (fun ls hl => ?_)
      refine lv_aload_n hx hb dX6_moveTent_31 rfl (lv_at hl 1 rfl) ?_
      refine lv_iload hx hb dX6_moveTent_32 (lv_at hl 0 rfl) ?_
      refine lv_iconst (v := 3) hx hb dX6_moveTent_34 (by decide) ?_
      obtain ⟨r_10, e_11, h⟩ := bnd_e h
      refine kV_I (As := [.int r_8, .int 3]) (rest := []) ⟨hx, hb, hml, hown, hts⟩ (tX6_ofPlot l G S0 M_1 r_8 3 r_10 e_11) (cwV 2 hts gX6_moveTent_X6_ofPlot rfl rfl rfl ⟨rfl, hdX6_ofPlot⟩ ⟨Nat.le_of_ble_eq_true rfl, Nat.le_of_ble_eq_true rfl⟩) (va_recv hK.1 hW.1 (ci := 6) (q0 := 159) rfl lkM) hK hW hS hA rfl hl.1 rfl (Nat.le_of_ble_eq_true rfl) dX6_moveTent_35 ⟨Nat.zero_le _, Nat.zero_le _⟩ (fun H locs hW hS => ?_)
      refine lv_iload_n hx hb dX6_moveTent_38 rfl (lv_at hl 2 rfl) ?_
      refine lv_iconst (v := 1) hx hb dX6_moveTent_39 (by decide) ?_
      refine lv_iadd hx hb dX6_moveTent_40 ?_
      refine lv_icmp_eq (tgt := 47) hx hb dX6_moveTent_41 (by decide) (fun c_12 => ?_) (fun c_12 => ?_)
      · have h := ite_t c_12 h
        refine lv_aload_n hx hb dX6_moveTent_47 rfl (lv_at hl 1 rfl) ?_
        refine lv_iload_n hx hb dX6_moveTent_48 rfl (lv_at hl 2 rfl) ?_
        refine lv_iconst (v := 1) hx hb dX6_moveTent_49 (by decide) ?_
        obtain ⟨r_13, e_14, h⟩ := bnd_e h
        refine kV_I (As := [.int p1, .int 1]) (rest := []) ⟨hx, hb, hml, hown, hts⟩ (tX6_ofCamper l G S0 M_1 p1 1 r_13 e_14) (cwV 2 hts gX6_moveTent_X6_ofCamper rfl rfl rfl ⟨rfl, hdX6_ofCamper⟩ ⟨Nat.le_of_ble_eq_true rfl, Nat.le_of_ble_eq_true rfl⟩) (va_recv hK.1 hW.1 (ci := 6) (q0 := 159) rfl lkM) hK hW hS hA rfl hl.1 rfl (Nat.le_of_ble_eq_true rfl) dX6_moveTent_50 ⟨Nat.zero_le _, Nat.zero_le _⟩ (fun H locs hW hS => ?_)
        refine lv_iload_n hx hb dX6_moveTent_53 rfl (lv_at hl 3 rfl) ?_
        refine lv_icmp_ne (tgt := 70) hx hb dX6_moveTent_54 (by decide) (fun c_15 => ?_) (fun c_15 => ?_)
        · have h := ite_f c_15 h
          exact B70 _ _ M_1 hW hS ls p1 p2 p3 r_8 (lv_sub hl [1, 2, 3, 4, 0] rfl) h
        · have h := ite_t c_15 h
          refine lv_aload_n hx hb dX6_moveTent_57 rfl (lv_at hl 1 rfl) ?_
          refine lv_iload_n hx hb dX6_moveTent_58 rfl (lv_at hl 2 rfl) ?_
          refine lv_iconst (v := 2) hx hb dX6_moveTent_59 (by decide) ?_
          obtain ⟨r_16, e_17, h⟩ := bnd_e h
          refine kV_I (As := [.int p1, .int 2]) (rest := []) ⟨hx, hb, hml, hown, hts⟩ (tX6_ofCamper l G S0 M_1 p1 2 r_16 e_17) (cwV 2 hts gX6_moveTent_X6_ofCamper rfl rfl rfl ⟨rfl, hdX6_ofCamper⟩ ⟨Nat.le_of_ble_eq_true rfl, Nat.le_of_ble_eq_true rfl⟩) (va_recv hK.1 hW.1 (ci := 6) (q0 := 159) rfl lkM) hK hW hS hA rfl hl.1 rfl (Nat.le_of_ble_eq_true rfl) dX6_moveTent_60 ⟨Nat.zero_le _, Nat.zero_le _⟩ (fun H locs hW hS => ?_)
          refine lv_iload_n hx hb dX6_moveTent_63 rfl (lv_at hl 4 rfl) ?_
          refine lv_icmp_ne (tgt := 70) hx hb dX6_moveTent_64 (by decide) (fun c_18 => ?_) (fun c_18 => ?_)
          · have h := ite_f c_18 h
            exact B70 _ _ M_1 hW hS ls p1 p2 p3 r_8 (lv_sub hl [1, 2, 3, 4, 0] rfl) h
          · have h := ite_t c_18 h
            refine lv_bipush (v := (-5)) hx hb dX6_moveTent_67 (by decide) ?_
            obtain ⟨rfl, rfl⟩ := Prod.mk.inj (Option.some.inj h)
            exact W.iret hx hb hr (fun t ht hw => ⟨⟨_, (), rfl, rfl, hW.ret ht⟩, hS.F ht⟩) hS.2.2 dX6_moveTent_69
      · have h := ite_f c_12 h
        refine lv_bipush (v := (-4)) hx hb dX6_moveTent_44 (by decide) ?_
        obtain ⟨rfl, rfl⟩ := Prod.mk.inj (Option.some.inj h)
        exact W.iret hx hb hr (fun t ht hw => ⟨⟨_, (), rfl, rfl, hW.ret ht⟩, hS.F ht⟩) hS.2.2 dX6_moveTent_46
    · have h := ite_t c_7 h
      exact B21 _ _ M_1 hW hS ls (lv_sub hl [] rfl) h
abbrev rX6_handOver : Room := { frames := 4, cells := 0, slots := 0, locals := 93 }
set_option maxRecDepth 100000 in
set_option maxHeartbeats 8000000 in
theorem tX6_handOver (l : Launch) (G : WG) (S0 M0 : St) (p1 : Int32) (p2 : Int32) (p3 : Int32) (rr : Int32) (M' : St) (h : f6_handOver M0 p1 p2 p3 = some (rr, M')) : CtI l yX6_handOver wsX6_handOver rX6_handOver G [.ref (gad G 159), .int p1, .int p2, .int p3] S0 M0 rr S0 M' := by
  refine Met.ofW (cc := cX6_handOver) (maxL := 7) (ret := (some .int)) (by decide) rfl ?_
  intro p e s m args below meth cd s₁ B hml hv
  obtain ⟨hargs, hK, hW⟩ := hv
  have hx := B.exec
  have hb := B.bytes
  have hr := B.returns
  have hts := atoms_spec (ws := wsX6_handOver) B.pre
  have hown : s.vm.findClass RX6 = some m.cls := findClass_of_methodNamed B.named
  have hlocks := B.notSynchronized
  have hA : ∀ q, Aw G q → Aw G q := fun _ h => h
  have hS : va_S (Aw G) s.heap s.heap [] := va_S.rf
  have he0 : entryFrame m args 7 = F0 m 0 ((lg_sl ([.ref (gad G 159), .int p1, .int p2, .int p3]) ++ List.replicate (7 - (lg_sl ([.ref (gad G 159), .int p1, .int p2, .int p3])).length) Slot.unset).toArray) [] := by rw [hargs]; exact lg_entry_eq _ _ _
  have hl := lv_entry ([.ref (gad G 159), .int p1, .int p2, .int p3]) (n := 7) (Nat.le_of_ble_eq_true rfl)
  rw [he0]
  generalize (lg_sl ([.ref (gad G 159), .int p1, .int p2, .int p3]) ++ List.replicate (7 - (lg_sl ([.ref (gad G 159), .int p1, .int p2, .int p3])).length) Slot.unset).toArray = ls at hl ⊢
  have hl : lv_has ls 7 [(0, .ref (gad G 159)), (1, .int p1), (2, .int p2), (3, .int p3)] := hl
  have hiX6 : ∀ w ∈ u_ws RX6 TX6 14, w ∈ wsX6_handOver := by decide +kernel
  have B147 : ∀ (H : Heap) (locs : List Loc) (M : St) (_ : WD G S0 M H) (_ : va_S (Aw G) s.heap H locs) (ls : Array Slot) (l5 : Int32) (_ : lv_has ls 7 [(5, .int l5)]) (h : f6_handOver_b147 M l5 = some (rr, M')), WI p l e (headSpec wsX6_handOver rX6_handOver).room s m args below meth cd G rr S0 M' H locs (F0 m 147 ls []) := by
    intro H locs M hW hS ls l5 hl h
    unfold f6_handOver_b147 at h
    refine lv_iload hx hb dX6_handOver_147 (lv_at hl 0 rfl) ?_
    obtain ⟨rfl, rfl⟩ := Prod.mk.inj (Option.some.inj h)
    exact W.iret hx hb hr (fun t ht hw => ⟨⟨_, (), rfl, rfl, hW.ret ht⟩, hS.F ht⟩) hS.2.2 dX6_handOver_149
  have B75 : ∀ (H : Heap) (locs : List Loc) (M : St) (_ : WD G S0 M H) (_ : va_S (Aw G) s.heap H locs) (ls : Array Slot) (_ : lv_has ls 7 []) (h : f6_handOver_b75 M  = some (rr, M')), WI p l e (headSpec wsX6_handOver rX6_handOver).room s m args below meth cd G rr S0 M' H locs (F0 m 75 ls []) := by
    intro H locs M hW hS ls hl h
    unfold f6_handOver_b75 at h
    refine lv_bipush (v := (-4)) hx hb dX6_handOver_75 (by decide) ?_
    obtain ⟨rfl, rfl⟩ := Prod.mk.inj (Option.some.inj h)
    exact W.iret hx hb hr (fun t ht hw => ⟨⟨_, (), rfl, rfl, hW.ret ht⟩, hS.F ht⟩) hS.2.2 dX6_handOver_77
  have B21 : ∀ (H : Heap) (locs : List Loc) (M : St) (_ : WD G S0 M H) (_ : va_S (Aw G) s.heap H locs) (ls : Array Slot) (_ : lv_has ls 7 []) (h : f6_handOver_b21 M  = some (rr, M')), WI p l e (headSpec wsX6_handOver rX6_handOver).room s m args below meth cd G rr S0 M' H locs (F0 m 21 ls []) := by
    intro H locs M hW hS ls hl h
    unfold f6_handOver_b21 at h
    refine lv_iconst (v := (-1)) hx hb dX6_handOver_21 (by decide) ?_
    obtain ⟨rfl, rfl⟩ := Prod.mk.inj (Option.some.inj h)
    exact W.iret hx hb hr (fun t ht hw => ⟨⟨_, (), rfl, rfl, hW.ret ht⟩, hS.F ht⟩) hS.2.2 dX6_handOver_22
  unfold f6_handOver at h
  refine lv_aload_n hx hb dX6_handOver_0 rfl (lv_at hl 0 rfl) ?_
  refine lv_iconst (v := 0) hx hb dX6_handOver_1 (by decide) ?_
  obtain ⟨M_1, eM_1, h⟩ := nam_e h
  refine va_put (D := G.1) (ci := 6) (v := .int 0) (ty := .int) (C := RX6) (T := TX6) (N := 14) hx hb hts hiX6 tyX6 tyX6_ok nmX6 hown hK.1 hW.1 (hW.D hA) hS 159 lkM rfl 0 (by decide) (hts _ (List.mem_of_getElem? (i := 1) rfl)) (fun _ h9 => h9) rfl (by decide +kernel) rfl rfl (Nat.le_of_ble_eq_true rfl) dX6_handOver_2 (fun H locs hP hD hS => ?_)
  have hW := upM0 hW hP
  rw [← eM_1] at hW
  refine lv_iload_n hx hb dX6_handOver_5 rfl (lv_at hl 1 rfl) ?_
  refine lv_iload_n hx hb dX6_handOver_6 rfl (lv_at hl 2 rfl) ?_
  obtain ⟨r_2, e_3, h⟩ := bnd_e h
  refine kS_I (As := [.int p1, .int p2]) (rest := []) ⟨hx, hb, hml, hown, hts⟩ (tX6_isPoint l G S0 M_1 p1 p2 r_2 e_3) (va_cwS 2 hts gX6_handOver_X6_isPoint rfl rfl rfl hdX6_isPoint ⟨Nat.le_of_ble_eq_true rfl, Nat.le_of_ble_eq_true rfl⟩) hK hW hS hA rfl hl.1 rfl (Nat.le_of_ble_eq_true rfl) dX6_handOver_7 ⟨Nat.zero_le _, Nat.zero_le _⟩ (fun H locs hW hS => ?_)
  refine lv_if_eq (tgt := 21) hx hb dX6_handOver_10 (by decide) (fun c_4 => ?_) (fun c_4 => ?_)
  · have h := ite_t c_4 h
    exact B21 _ _ M_1 hW hS ls (lv_sub hl [] rfl) h
  · have h := ite_f c_4 h
    refine lv_aload_n hx hb dX6_handOver_13 rfl (lv_at hl 0 rfl) ?_
    refine lv_iload_n hx hb dX6_handOver_14 rfl (lv_at hl 3 rfl) ?_
    obtain ⟨r_5, e_6, h⟩ := bnd_e h
    refine kV_I (As := [.int p3]) (rest := []) ⟨hx, hb, hml, hown, hts⟩ (tX6_isHere l G S0 M_1 p3 r_5 e_6) (cwV 1 hts gX6_handOver_X6_isHere rfl rfl rfl ⟨rfl, hdX6_isHere⟩ ⟨Nat.le_of_ble_eq_true rfl, Nat.le_of_ble_eq_true rfl⟩) (va_recv hK.1 hW.1 (ci := 6) (q0 := 159) rfl lkM) hK hW hS hA rfl hl.1 rfl (Nat.le_of_ble_eq_true rfl) dX6_handOver_15 ⟨Nat.zero_le _, Nat.zero_le _⟩ (fun H locs hW hS => ?_)
    refine lv_if_ne (tgt := 23) hx hb dX6_handOver_18 (by decide) (fun c_7 => ?_) (fun c_7 => ?_)
    · have h := ite_f c_7 h
      refine lv_aload_n hx hb dX6_handOver_23 rfl (lv_at hl 0 rfl) ?_
      refine lv_iload_n hx hb dX6_handOver_24 rfl (lv_at hl 1 rfl) ?_
      refine lv_iload_n hx hb dX6_handOver_25 rfl (lv_at hl 2 rfl) ?_
      obtain ⟨r_8, e_9, h⟩ := bnd_e h
      refine kV_I (As := [.int p1, .int p2]) (rest := []) ⟨hx, hb, hml, hown, hts⟩ (tX6_plotAt l G S0 M_1 p1 p2 r_8 e_9) (cwV 2 hts gX6_handOver_X6_plotAt rfl rfl rfl ⟨rfl, hdX6_plotAt⟩ ⟨Nat.le_of_ble_eq_true rfl, Nat.le_of_ble_eq_true rfl⟩) (va_recv hK.1 hW.1 (ci := 6) (q0 := 159) rfl lkM) hK hW hS hA rfl hl.1 rfl (Nat.le_of_ble_eq_true rfl) dX6_handOver_26 ⟨Nat.zero_le _, Nat.zero_le _⟩ (fun H locs hW hS => ?_)
      refine lv_istore (lv' := [(4, .int r_8), (0, .ref (gad G 159)), (1, .int p1), (2, .int p2), (3, .int p3)]) hx hb dX6_handOver_29 hl (by decide) rfl (fun ls hl => ?_)
      refine lv_aload_n hx hb dX6_handOver_31 rfl (lv_at hl 1 rfl) ?_
      refine lv_iload hx hb dX6_handOver_32 (lv_at hl 0 rfl) ?_
      refine lv_iconst (v := 3) hx hb dX6_handOver_34 (by decide) ?_
      obtain ⟨r_10, e_11, h⟩ := bnd_e h
      refine kV_I (As := [.int r_8, .int 3]) (rest := []) ⟨hx, hb, hml, hown, hts⟩ (tX6_ofPlot l G S0 M_1 r_8 3 r_10 e_11) (cwV 2 hts gX6_handOver_X6_ofPlot rfl rfl rfl ⟨rfl, hdX6_ofPlot⟩ ⟨Nat.le_of_ble_eq_true rfl, Nat.le_of_ble_eq_true rfl⟩) (va_recv hK.1 hW.1 (ci := 6) (q0 := 159) rfl lkM) hK hW hS hA rfl hl.1 rfl (Nat.le_of_ble_eq_true rfl) dX6_handOver_35 ⟨Nat.zero_le _, Nat.zero_le _⟩ (fun H locs hW hS => ?_)
      refine lv_iconst (v := 1) hx hb dX6_handOver_38 (by decide) ?_
      refine lv_isub hx hb dX6_handOver_39 ?_
      obtain ⟨x_12, ex_12, h⟩ := nam_e h
      refine lv_ni ex_12 ?_
      refine lv_istore (lv' := [(5, .int x_12), (4, .int r_8), (0, .ref (gad G 159)), (1, .int p1), (2, .int p2), (3, .int p3)]) hx hb dX6_handOver_40 hl (by decide) rfl (fun ls hl => ?_)
      refine lv_aload_n hx hb dX6_handOver_42 rfl (lv_at hl 2 rfl) ?_
      refine lv_iload hx hb dX6_handOver_43 (lv_at hl 1 rfl) ?_
      refine lv_aload_n hx hb dX6_handOver_45 rfl (lv_at hl 2 rfl) ?_
      refine lv_iload hx hb dX6_handOver_46 (lv_at hl 0 rfl) ?_
      refine lv_iconst (v := 1) hx hb dX6_handOver_48 (by decide) ?_
      obtain ⟨r_13, e_14, h⟩ := bnd_e h
      refine kV_I (As := [.int x_12, .int 1]) (rest := [.int r_8, .ref (gad G 159)]) ⟨hx, hb, hml, hown, hts⟩ (tX6_ofCamper l G S0 M_1 x_12 1 r_13 e_14) (cwV 2 hts gX6_handOver_X6_ofCamper rfl rfl rfl ⟨rfl, hdX6_ofCamper⟩ ⟨Nat.le_of_ble_eq_true rfl, Nat.le_of_ble_eq_true rfl⟩) (va_recv hK.1 hW.1 (ci := 6) (q0 := 159) rfl lkM) hK hW hS hA rfl hl.1 rfl (Nat.le_of_ble_eq_true rfl) dX6_handOver_49 ⟨Nat.zero_le _, Nat.zero_le _⟩ (fun H locs hW hS => ?_)
      refine lv_aload_n hx hb dX6_handOver_52 rfl (lv_at hl 2 rfl) ?_
      refine lv_iload hx hb dX6_handOver_53 (lv_at hl 0 rfl) ?_
      refine lv_iconst (v := 2) hx hb dX6_handOver_55 (by decide) ?_
      obtain ⟨r_15, e_16, h⟩ := bnd_e h
      refine kV_I (As := [.int x_12, .int 2]) (rest := [.int r_13, .int r_8, .ref (gad G 159)]) ⟨hx, hb, hml, hown, hts⟩ (tX6_ofCamper l G S0 M_1 x_12 2 r_15 e_16) (cwV 2 hts gX6_handOver_X6_ofCamper rfl rfl rfl ⟨rfl, hdX6_ofCamper⟩ ⟨Nat.le_of_ble_eq_true rfl, Nat.le_of_ble_eq_true rfl⟩) (va_recv hK.1 hW.1 (ci := 6) (q0 := 159) rfl lkM) hK hW hS hA rfl hl.1 rfl (Nat.le_of_ble_eq_true rfl) dX6_handOver_56 ⟨Nat.zero_le _, Nat.zero_le _⟩ (fun H locs hW hS => ?_)
      obtain ⟨r_17, e_18, h⟩ := bnd_e h
      refine kV_I (As := [.int r_8, .int r_13, .int r_15]) (rest := []) ⟨hx, hb, hml, hown, hts⟩ (tX6_has l G S0 M_1 r_8 r_13 r_15 r_17 e_18) (cwV 3 hts gX6_handOver_X6_has rfl rfl rfl ⟨rfl, hdX6_has⟩ ⟨Nat.le_of_ble_eq_true rfl, Nat.le_of_ble_eq_true rfl⟩) (va_recv hK.1 hW.1 (ci := 6) (q0 := 159) rfl lkM) hK hW hS hA rfl hl.1 rfl (Nat.le_of_ble_eq_true rfl) dX6_handOver_59 ⟨Nat.zero_le _, Nat.zero_le _⟩ (fun H locs hW hS => ?_)
      refine lv_if_ne (tgt := 75) hx hb dX6_handOver_62 (by decide) (fun c_19 => ?_) (fun c_19 => ?_)
      · have h := ite_f c_19 h
        exact B75 _ _ M_1 hW hS ls (lv_sub hl [] rfl) h
      · have h := ite_t c_19 h
        refine lv_aload_n hx hb dX6_handOver_65 rfl (lv_at hl 2 rfl) ?_
        refine lv_iload hx hb dX6_handOver_66 (lv_at hl 1 rfl) ?_
        refine lv_iload_n hx hb dX6_handOver_68 rfl (lv_at hl 5 rfl) ?_
        obtain ⟨r_20, e_21, h⟩ := bnd_e h
        refine kV_I (As := [.int r_8, .int p3]) (rest := []) ⟨hx, hb, hml, hown, hts⟩ (tX6_touches l G S0 M_1 r_8 p3 r_20 e_21) (cwV 2 hts gX6_handOver_X6_touches rfl rfl rfl ⟨rfl, hdX6_touches⟩ ⟨Nat.le_of_ble_eq_true rfl, Nat.le_of_ble_eq_true rfl⟩) (va_recv hK.1 hW.1 (ci := 6) (q0 := 159) rfl lkM) hK hW hS hA rfl hl.1 rfl (Nat.le_of_ble_eq_true rfl) dX6_handOver_69 ⟨Nat.zero_le _, Nat.zero_le _⟩ (fun H locs hW hS => ?_)
        refine lv_if_ne (tgt := 78) hx hb dX6_handOver_72 (by decide) (fun c_22 => ?_) (fun c_22 => ?_)
        · have h := ite_f c_22 h
          refine lv_iload hx hb dX6_handOver_78 (lv_at hl 0 rfl) ?_
          refine lv_iload_n hx hb dX6_handOver_80 rfl (lv_at hl 5 rfl) ?_
          refine lv_icmp_ne (tgt := 87) hx hb dX6_handOver_81 (by decide) (fun c_23 => ?_) (fun c_23 => ?_)
          · have h := ite_f c_23 h
            refine lv_aload_n hx hb dX6_handOver_87 rfl (lv_at hl 2 rfl) ?_
            obtain ⟨M_24, e_25, h⟩ := bnd_e h
            refine kV_V (As := []) (rest := []) ⟨hx, hb, hml, hown, hts⟩ (tX6_records l G S0 M_1 M_24 e_25) (cwV 0 hts gX6_handOver_X6_records rfl rfl rfl ⟨rfl, hdX6_records⟩ ⟨Nat.le_of_ble_eq_true rfl, Nat.le_of_ble_eq_true rfl⟩) (va_recv hK.1 hW.1 (ci := 6) (q0 := 159) rfl lkM) hK hW hS hA rfl hl.1 rfl (Nat.le_of_ble_eq_true rfl) dX6_handOver_88 ⟨Nat.zero_le _, Nat.zero_le _⟩ (fun H locs hW hS => ?_)
            refine lv_aload_n hx hb dX6_handOver_91 rfl (lv_at hl 2 rfl) ?_
            refine va_get (D := G.1) (ci := 6) (v := .ref (gad G (160 + 0))) (C := RX6) (T := TX6) (N := 14) hx hb hts hiX6 hown hK.1 hW.1 159 lkM rfl 1 (by decide) (hts _ (List.mem_of_getElem? (i := 2) rfl)) (fun _ h9 => h9) rfl dX6_handOver_92 ?_
            refine lv_bipush (v := 54) hx hb dX6_handOver_95 (by decide) ?_
            refine lv_iconst (v := 4) hx hb dX6_handOver_97 (by decide) ?_
            refine lv_iload hx hb dX6_handOver_98 (lv_at hl 1 rfl) ?_
            refine lv_imul hx hb dX6_handOver_100 ?_
            refine lv_iadd hx hb dX6_handOver_101 ?_
            refine lv_iconst (v := 3) hx hb dX6_handOver_102 (by decide) ?_
            refine lv_iadd hx hb dX6_handOver_103 ?_
            refine lv_iload_n hx hb dX6_handOver_104 rfl (lv_at hl 5 rfl) ?_
            refine lv_iconst (v := 1) hx hb dX6_handOver_105 (by decide) ?_
            refine lv_iadd hx hb dX6_handOver_106 ?_
            obtain ⟨n_27, h⟩ := sto_e h
            obtain ⟨M_26, eM_26, h⟩ := nam_e h
            refine va_iast hx hb hK.1 hW.1 (hW.D hA) hS (160 + 0) 0 (lkMa (j := 0) (by omega)) rfl n_27 dX6_handOver_107 (fun H locs hP hD hS => ?_)
            have hW := upMa (j := 0) (by omega) hW hP
            rw [← eM_26] at hW
            refine lv_aload_n hx hb dX6_handOver_108 rfl (lv_at hl 2 rfl) ?_
            refine lv_iload hx hb dX6_handOver_109 (lv_at hl 1 rfl) ?_
            obtain ⟨r_28, e_29, h⟩ := bnd_e h
            refine kV_I (As := [.int r_8]) (rest := []) ⟨hx, hb, hml, hown, hts⟩ (tX6_otherHalf l G S0 M_26 r_8 r_28 e_29) (cwV 1 hts gX6_handOver_X6_otherHalf rfl rfl rfl ⟨rfl, hdX6_otherHalf⟩ ⟨Nat.le_of_ble_eq_true rfl, Nat.le_of_ble_eq_true rfl⟩) (va_recv hK.1 hW.1 (ci := 6) (q0 := 159) rfl lkM) hK hW hS hA rfl hl.1 rfl (Nat.le_of_ble_eq_true rfl) dX6_handOver_111 ⟨Nat.zero_le _, Nat.zero_le _⟩ (fun H locs hW hS => ?_)
            refine lv_istore (lv' := [(6, .int r_28), (5, .int x_12), (4, .int r_8), (0, .ref (gad G 159)), (1, .int p1), (2, .int p2), (3, .int p3)]) hx hb dX6_handOver_114 hl (by decide) rfl (fun ls hl => ?_)
            refine lv_iload hx hb dX6_handOver_116 (lv_at hl 0 rfl) ?_
            refine lv_bipush (v := (-5)) hx hb dX6_handOver_118 (by decide) ?_
            refine lv_icmp_eq (tgt := 147) hx hb dX6_handOver_120 (by decide) (fun c_30 => ?_) (fun c_30 => ?_)
            · have h := ite_t c_30 h
              exact B147 _ _ M_26 hW hS ls x_12 (lv_sub hl [1] rfl) h
            · have h := ite_f c_30 h
              refine lv_aload_n hx hb dX6_handOver_123 rfl (lv_at hl 3 rfl) ?_
              refine lv_iload hx hb dX6_handOver_124 (lv_at hl 0 rfl) ?_
              refine lv_iconst (v := 3) hx hb dX6_handOver_126 (by decide) ?_
              obtain ⟨r_31, e_32, h⟩ := bnd_e h
              refine kV_I (As := [.int r_28, .int 3]) (rest := []) ⟨hx, hb, hml, hown, hts⟩ (tX6_ofPlot l G S0 M_26 r_28 3 r_31 e_32) (cwV 2 hts gX6_handOver_X6_ofPlot rfl rfl rfl ⟨rfl, hdX6_ofPlot⟩ ⟨Nat.le_of_ble_eq_true rfl, Nat.le_of_ble_eq_true rfl⟩) (va_recv hK.1 hW.1 (ci := 6) (q0 := 159) rfl lkM) hK hW hS hA rfl hl.1 rfl (Nat.le_of_ble_eq_true rfl) dX6_handOver_127 ⟨Nat.zero_le _, Nat.zero_le _⟩ (fun H locs hW hS => ?_)
              refine lv_iload_n hx hb dX6_handOver_130 rfl (lv_at hl 6 rfl) ?_
              refine lv_iconst (v := 1) hx hb dX6_handOver_131 (by decide) ?_
              refine lv_iadd hx hb dX6_handOver_132 ?_
              refine lv_icmp_ne (tgt := 147) hx hb dX6_handOver_133 (by decide) (fun c_33 => ?_) (fun c_33 => ?_)
              · have h := ite_f c_33 h
                exact B147 _ _ M_26 hW hS ls x_12 (lv_sub hl [1] rfl) h
              · have h := ite_t c_33 h
                refine lv_aload_n hx hb dX6_handOver_136 rfl (lv_at hl 3 rfl) ?_
                refine lv_iload hx hb dX6_handOver_137 (lv_at hl 2 rfl) ?_
                refine lv_iload hx hb dX6_handOver_139 (lv_at hl 0 rfl) ?_
                refine lv_iload_n hx hb dX6_handOver_141 rfl (lv_at hl 6 rfl) ?_
                refine lv_iconst (v := 1) hx hb dX6_handOver_142 (by decide) ?_
                refine lv_iadd hx hb dX6_handOver_143 ?_
                obtain ⟨M_34, e_35, h⟩ := bnd_e h
                refine kV_V (As := [.int r_8, .int r_28, .int ((p3 + 1))]) (rest := []) ⟨hx, hb, hml, hown, hts⟩ (tX6_joins l G S0 M_26 r_8 r_28 ((p3 + 1)) M_34 e_35) (cwV 3 hts gX6_handOver_X6_joins rfl rfl rfl ⟨rfl, hdX6_joins⟩ ⟨Nat.le_of_ble_eq_true rfl, Nat.le_of_ble_eq_true rfl⟩) (va_recv hK.1 hW.1 (ci := 6) (q0 := 159) rfl lkM) hK hW hS hA rfl hl.1 rfl (Nat.le_of_ble_eq_true rfl) dX6_handOver_144 ⟨Nat.zero_le _, Nat.zero_le _⟩ (fun H locs hW hS => ?_)
                exact B147 _ _ M_34 hW hS ls x_12 (lv_sub hl [1] rfl) h
          · have h := ite_t c_23 h
            refine lv_bipush (v := (-5)) hx hb dX6_handOver_84 (by decide) ?_
            obtain ⟨rfl, rfl⟩ := Prod.mk.inj (Option.some.inj h)
            exact W.iret hx hb hr (fun t ht hw => ⟨⟨_, (), rfl, rfl, hW.ret ht⟩, hS.F ht⟩) hS.2.2 dX6_handOver_86
        · have h := ite_t c_22 h
          exact B75 _ _ M_1 hW hS ls (lv_sub hl [] rfl) h
    · have h := ite_t c_7 h
      exact B21 _ _ M_1 hW hS ls (lv_sub hl [] rfl) h
