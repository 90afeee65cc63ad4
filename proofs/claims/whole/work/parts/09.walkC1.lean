abbrev rX6_in : Room := { frames := 0, cells := 0, slots := 0, locals := 0 }
set_option maxRecDepth 100000 in
set_option maxHeartbeats 8000000 in
theorem tX6_in (l : Launch) (G : WG) (S0 M0 : St) (p0 : Int32) (p1 : Int32) (p2 : Int32) (rr : Int32) (h : f6_in p0 p1 p2 = some (rr)) : CtI l yX6_in wsX6_in rX6_in G [.int p0, .int p1, .int p2] S0 M0 rr S0 M0 := by
  refine Met.ofW (cc := cX6_in) (maxL := 3) (ret := (some .boolean)) (by decide) rfl ?_
  intro p e s m args below meth cd s₁ B hml hv
  obtain ⟨hargs, hK, hW⟩ := hv
  have hx := B.exec
  have hb := B.bytes
  have hr := B.returns
  have hts := atoms_spec (ws := wsX6_in) B.pre
  have hown : s.vm.findClass RX6 = some m.cls := findClass_of_methodNamed B.named
  have hlocks := B.notSynchronized
  have hA : ∀ q, Aw G q → Aw G q := fun _ h => h
  have hS : va_S (Aw G) s.heap s.heap [] := va_S.rf
  have he0 : entryFrame m args 3 = F0 m 0 ((lg_sl ([.int p0, .int p1, .int p2]) ++ List.replicate (3 - (lg_sl ([.int p0, .int p1, .int p2])).length) Slot.unset).toArray) [] := by rw [hargs]; exact lg_entry_eq _ _ _
  have hl := lv_entry ([.int p0, .int p1, .int p2]) (n := 3) (Nat.le_of_ble_eq_true rfl)
  rw [he0]
  generalize (lg_sl ([.int p0, .int p1, .int p2]) ++ List.replicate (3 - (lg_sl ([.int p0, .int p1, .int p2])).length) Slot.unset).toArray = ls at hl ⊢
  have hl : lv_has ls 3 [(0, .int p0), (1, .int p1), (2, .int p2)] := hl
  have B15 : ∀ (H : Heap) (locs : List Loc) (_ : WD G S0 M0 H) (_ : va_S (Aw G) s.heap H locs) (ls : Array Slot) (k0 : Int32) (_ : lv_has ls 3 []) (h : f6_in_b15  k0 = some (rr)), WI p l e (headSpec wsX6_in rX6_in).room s m args below meth cd G rr S0 M0 H locs (F0 m 15 ls [.int k0]) := by
    intro H locs hW hS ls k0 hl h
    unfold f6_in_b15 at h
    obtain ⟨z_1, h⟩ := isz_e h
    obtain rfl := Option.some.inj h
    exact W.zret (ty := .boolean) hx hb hr (nz_1 z_1) (fun t ht hw => ⟨⟨_, (), rfl, rfl, hW.ret ht⟩, hS.F ht⟩) hS.2.2 dX6_in_15
  have B14 : ∀ (H : Heap) (locs : List Loc) (_ : WD G S0 M0 H) (_ : va_S (Aw G) s.heap H locs) (ls : Array Slot) (_ : lv_has ls 3 []) (h : f6_in_b14   = some (rr)), WI p l e (headSpec wsX6_in rX6_in).room s m args below meth cd G rr S0 M0 H locs (F0 m 14 ls []) := by
    intro H locs hW hS ls hl h
    unfold f6_in_b14 at h
    refine lv_iconst (v := 0) hx hb dX6_in_14 (by decide) ?_
    exact B15 _ _ hW hS ls 0 (lv_sub hl [] rfl) h
  unfold f6_in at h
  refine lv_iload_n hx hb dX6_in_0 rfl (lv_at hl 0 rfl) ?_
  refine lv_iload_n hx hb dX6_in_1 rfl (lv_at hl 1 rfl) ?_
  refine lv_icmp_lt (tgt := 14) hx hb dX6_in_2 (by decide) (fun c_1 => ?_) (fun c_1 => ?_)
  · have h := ite_t c_1 h
    exact B14 _ _ hW hS ls (lv_sub hl [] rfl) h
  · have h := ite_f c_1 h
    refine lv_iload_n hx hb dX6_in_5 rfl (lv_at hl 0 rfl) ?_
    refine lv_iload_n hx hb dX6_in_6 rfl (lv_at hl 2 rfl) ?_
    refine lv_icmp_gt (tgt := 14) hx hb dX6_in_7 (by decide) (fun c_2 => ?_) (fun c_2 => ?_)
    · have h := ite_t c_2 h
      exact B14 _ _ hW hS ls (lv_sub hl [] rfl) h
    · have h := ite_f c_2 h
      refine lv_iconst (v := 1) hx hb dX6_in_10 (by decide) ?_
      refine lv_goto (tgt := 15) hx hb dX6_in_11 (by decide) ?_
      exact B15 _ _ hW hS ls 1 (lv_sub hl [] rfl) h
abbrev rX6_isPoint : Room := { frames := 1, cells := 0, slots := 0, locals := 22 }
set_option maxRecDepth 100000 in
set_option maxHeartbeats 8000000 in
theorem tX6_isPoint (l : Launch) (G : WG) (S0 M0 : St) (p0 : Int32) (p1 : Int32) (rr : Int32) (h : f6_isPoint p0 p1 = some (rr)) : CtI l yX6_isPoint wsX6_isPoint rX6_isPoint G [.int p0, .int p1] S0 M0 rr S0 M0 := by
  refine Met.ofW (cc := cX6_isPoint) (maxL := 2) (ret := (some .boolean)) (by decide) rfl ?_
  intro p e s m args below meth cd s₁ B hml hv
  obtain ⟨hargs, hK, hW⟩ := hv
  have hx := B.exec
  have hb := B.bytes
  have hr := B.returns
  have hts := atoms_spec (ws := wsX6_isPoint) B.pre
  have hown : s.vm.findClass RX6 = some m.cls := findClass_of_methodNamed B.named
  have hlocks := B.notSynchronized
  have hA : ∀ q, Aw G q → Aw G q := fun _ h => h
  have hS : va_S (Aw G) s.heap s.heap [] := va_S.rf
  have he0 : entryFrame m args 2 = F0 m 0 ((lg_sl ([.int p0, .int p1]) ++ List.replicate (2 - (lg_sl ([.int p0, .int p1])).length) Slot.unset).toArray) [] := by rw [hargs]; exact lg_entry_eq _ _ _
  have hl := lv_entry ([.int p0, .int p1]) (n := 2) (Nat.le_of_ble_eq_true rfl)
  rw [he0]
  generalize (lg_sl ([.int p0, .int p1]) ++ List.replicate (2 - (lg_sl ([.int p0, .int p1])).length) Slot.unset).toArray = ls at hl ⊢
  have hl : lv_has ls 2 [(0, .int p0), (1, .int p1)] := hl
  have B25 : ∀ (H : Heap) (locs : List Loc) (_ : WD G S0 M0 H) (_ : va_S (Aw G) s.heap H locs) (ls : Array Slot) (k0 : Int32) (_ : lv_has ls 2 []) (h : f6_isPoint_b25  k0 = some (rr)), WI p l e (headSpec wsX6_isPoint rX6_isPoint).room s m args below meth cd G rr S0 M0 H locs (F0 m 25 ls [.int k0]) := by
    intro H locs hW hS ls k0 hl h
    unfold f6_isPoint_b25 at h
    obtain ⟨z_1, h⟩ := isz_e h
    obtain rfl := Option.some.inj h
    exact W.zret (ty := .boolean) hx hb hr (nz_1 z_1) (fun t ht hw => ⟨⟨_, (), rfl, rfl, hW.ret ht⟩, hS.F ht⟩) hS.2.2 dX6_isPoint_25
  have B24 : ∀ (H : Heap) (locs : List Loc) (_ : WD G S0 M0 H) (_ : va_S (Aw G) s.heap H locs) (ls : Array Slot) (_ : lv_has ls 2 []) (h : f6_isPoint_b24   = some (rr)), WI p l e (headSpec wsX6_isPoint rX6_isPoint).room s m args below meth cd G rr S0 M0 H locs (F0 m 24 ls []) := by
    intro H locs hW hS ls hl h
    unfold f6_isPoint_b24 at h
    refine lv_iconst (v := 0) hx hb dX6_isPoint_24 (by decide) ?_
    exact B25 _ _ hW hS ls 0 (lv_sub hl [] rfl) h
  unfold f6_isPoint at h
  refine lv_iload_n hx hb dX6_isPoint_0 rfl (lv_at hl 0 rfl) ?_
  refine lv_iconst (v := 0) hx hb dX6_isPoint_1 (by decide) ?_
  refine lv_bipush (v := 63) hx hb dX6_isPoint_2 (by decide) ?_
  obtain ⟨r_1, e_2, h⟩ := bnd_e h
  refine kS_I (As := [.int p0, .int 0, .int 63]) (rest := []) ⟨hx, hb, hml, hown, hts⟩ (tX6_in l G S0 M0 p0 0 63 r_1 e_2) (va_cwS 3 hts gX6_isPoint_X6_in rfl rfl rfl hdX6_in ⟨Nat.le_of_ble_eq_true rfl, Nat.le_of_ble_eq_true rfl⟩) hK hW hS hA rfl hl.1 rfl (Nat.le_of_ble_eq_true rfl) dX6_isPoint_4 ⟨Nat.zero_le _, Nat.zero_le _⟩ (fun H locs hW hS => ?_)
  refine lv_if_eq (tgt := 24) hx hb dX6_isPoint_7 (by decide) (fun c_3 => ?_) (fun c_3 => ?_)
  · have h := ite_t c_3 h
    exact B24 _ _ hW hS ls (lv_sub hl [] rfl) h
  · have h := ite_f c_3 h
    refine lv_iload_n hx hb dX6_isPoint_10 rfl (lv_at hl 1 rfl) ?_
    refine lv_iconst (v := 0) hx hb dX6_isPoint_11 (by decide) ?_
    refine lv_bipush (v := 63) hx hb dX6_isPoint_12 (by decide) ?_
    obtain ⟨r_4, e_5, h⟩ := bnd_e h
    refine kS_I (As := [.int p1, .int 0, .int 63]) (rest := []) ⟨hx, hb, hml, hown, hts⟩ (tX6_in l G S0 M0 p1 0 63 r_4 e_5) (va_cwS 3 hts gX6_isPoint_X6_in rfl rfl rfl hdX6_in ⟨Nat.le_of_ble_eq_true rfl, Nat.le_of_ble_eq_true rfl⟩) hK hW hS hA rfl hl.1 rfl (Nat.le_of_ble_eq_true rfl) dX6_isPoint_14 ⟨Nat.zero_le _, Nat.zero_le _⟩ (fun H locs hW hS => ?_)
    refine lv_if_eq (tgt := 24) hx hb dX6_isPoint_17 (by decide) (fun c_6 => ?_) (fun c_6 => ?_)
    · have h := ite_t c_6 h
      exact B24 _ _ hW hS ls (lv_sub hl [] rfl) h
    · have h := ite_f c_6 h
      refine lv_iconst (v := 1) hx hb dX6_isPoint_20 (by decide) ?_
      refine lv_goto (tgt := 25) hx hb dX6_isPoint_21 (by decide) ?_
      exact B25 _ _ hW hS ls 1 (lv_sub hl [] rfl) h
abbrev rX6_ofCamper : Room := { frames := 0, cells := 0, slots := 0, locals := 0 }
set_option maxRecDepth 100000 in
set_option maxHeartbeats 8000000 in
theorem tX6_ofCamper (l : Launch) (G : WG) (S0 M0 : St) (p1 : Int32) (p2 : Int32) (rr : Int32) (h : f6_ofCamper M0 p1 p2 = some (rr)) : CtI l yX6_ofCamper wsX6_ofCamper rX6_ofCamper G [.ref (gad G 159), .int p1, .int p2] S0 M0 rr S0 M0 := by
  refine Met.ofW (cc := cX6_ofCamper) (maxL := 3) (ret := (some .int)) (by decide) rfl ?_
  intro p e s m args below meth cd s₁ B hml hv
  obtain ⟨hargs, hK, hW⟩ := hv
  have hx := B.exec
  have hb := B.bytes
  have hr := B.returns
  have hts := atoms_spec (ws := wsX6_ofCamper) B.pre
  have hown : s.vm.findClass RX6 = some m.cls := findClass_of_methodNamed B.named
  have hlocks := B.notSynchronized
  have hA : ∀ q, Aw G q → Aw G q := fun _ h => h
  have hS : va_S (Aw G) s.heap s.heap [] := va_S.rf
  have he0 : entryFrame m args 3 = F0 m 0 ((lg_sl ([.ref (gad G 159), .int p1, .int p2]) ++ List.replicate (3 - (lg_sl ([.ref (gad G 159), .int p1, .int p2])).length) Slot.unset).toArray) [] := by rw [hargs]; exact lg_entry_eq _ _ _
  have hl := lv_entry ([.ref (gad G 159), .int p1, .int p2]) (n := 3) (Nat.le_of_ble_eq_true rfl)
  rw [he0]
  generalize (lg_sl ([.ref (gad G 159), .int p1, .int p2]) ++ List.replicate (3 - (lg_sl ([.ref (gad G 159), .int p1, .int p2])).length) Slot.unset).toArray = ls at hl ⊢
  have hl : lv_has ls 3 [(0, .ref (gad G 159)), (1, .int p1), (2, .int p2)] := hl
  have hiX6 : ∀ w ∈ u_ws RX6 TX6 14, w ∈ wsX6_ofCamper := by decide +kernel
  unfold f6_ofCamper at h
  refine lv_aload_n hx hb dX6_ofCamper_0 rfl (lv_at hl 0 rfl) ?_
  refine va_get (D := G.1) (ci := 6) (v := .ref (gad G (160 + 0))) (C := RX6) (T := TX6) (N := 14) hx hb hts hiX6 hown hK.1 hW.1 159 lkM rfl 1 (by decide) (hts _ (List.mem_of_getElem? (i := 1) rfl)) (fun _ h9 => h9) rfl dX6_ofCamper_1 ?_
  refine lv_bipush (v := 6) hx hb dX6_ofCamper_4 (by decide) ?_
  refine lv_iconst (v := 3) hx hb dX6_ofCamper_6 (by decide) ?_
  refine lv_iload_n hx hb dX6_ofCamper_7 rfl (lv_at hl 1 rfl) ?_
  refine lv_imul hx hb dX6_ofCamper_8 ?_
  refine lv_iadd hx hb dX6_ofCamper_9 ?_
  refine lv_iload_n hx hb dX6_ofCamper_10 rfl (lv_at hl 2 rfl) ?_
  refine lv_iadd hx hb dX6_ofCamper_11 ?_
  obtain ⟨x_1, nx_1, ex_1, h⟩ := arr_e h
  refine va_iald hx hb hK.1 hW.1 (160 + 0) 0 (lkMa (j := 0) (by omega)) rfl nx_1 dX6_ofCamper_12 ?_
  refine lv_ni ex_1 ?_
  obtain rfl := Option.some.inj h
  exact W.iret hx hb hr (fun t ht hw => ⟨⟨_, (), rfl, rfl, hW.ret ht⟩, hS.F ht⟩) hS.2.2 dX6_ofCamper_13
abbrev rX6_layCamper : Room := { frames := 0, cells := 0, slots := 0, locals := 0 }
set_option maxRecDepth 100000 in
set_option maxHeartbeats 8000000 in
theorem tX6_layCamper (l : Launch) (G : WG) (S0 M0 : St) (p1 : Int32) (p2 : Int32) (p3 : Int32) (M' : St) (h : f6_layCamper M0 p1 p2 p3 = some (M')) : CtV l yX6_layCamper wsX6_layCamper rX6_layCamper G [.ref (gad G 159), .int p1, .int p2, .int p3] S0 M0 S0 M' := by
  refine Met.ofW (cc := cX6_layCamper) (maxL := 4) (ret := none) (by decide) rfl ?_
  intro p e s m args below meth cd s₁ B hml hv
  obtain ⟨hargs, hK, hW⟩ := hv
  have hx := B.exec
  have hb := B.bytes
  have hr := B.returns
  have hts := atoms_spec (ws := wsX6_layCamper) B.pre
  have hown : s.vm.findClass RX6 = some m.cls := findClass_of_methodNamed B.named
  have hlocks := B.notSynchronized
  have hA : ∀ q, Aw G q → Aw G q := fun _ h => h
  have hS : va_S (Aw G) s.heap s.heap [] := va_S.rf
  have he0 : entryFrame m args 4 = F0 m 0 ((lg_sl ([.ref (gad G 159), .int p1, .int p2, .int p3]) ++ List.replicate (4 - (lg_sl ([.ref (gad G 159), .int p1, .int p2, .int p3])).length) Slot.unset).toArray) [] := by rw [hargs]; exact lg_entry_eq _ _ _
  have hl := lv_entry ([.ref (gad G 159), .int p1, .int p2, .int p3]) (n := 4) (Nat.le_of_ble_eq_true rfl)
  rw [he0]
  generalize (lg_sl ([.ref (gad G 159), .int p1, .int p2, .int p3]) ++ List.replicate (4 - (lg_sl ([.ref (gad G 159), .int p1, .int p2, .int p3])).length) Slot.unset).toArray = ls at hl ⊢
  have hl : lv_has ls 4 [(0, .ref (gad G 159)), (1, .int p1), (2, .int p2), (3, .int p3)] := hl
  have hiX6 : ∀ w ∈ u_ws RX6 TX6 14, w ∈ wsX6_layCamper := by decide +kernel
  unfold f6_layCamper at h
  refine lv_aload_n hx hb dX6_layCamper_0 rfl (lv_at hl 0 rfl) ?_
  refine va_get (D := G.1) (ci := 6) (v := .ref (gad G (160 + 0))) (C := RX6) (T := TX6) (N := 14) hx hb hts hiX6 hown hK.1 hW.1 159 lkM rfl 1 (by decide) (hts _ (List.mem_of_getElem? (i := 1) rfl)) (fun _ h9 => h9) rfl dX6_layCamper_1 ?_
  refine lv_bipush (v := 6) hx hb dX6_layCamper_4 (by decide) ?_
  refine lv_iconst (v := 3) hx hb dX6_layCamper_6 (by decide) ?_
  refine lv_iload_n hx hb dX6_layCamper_7 rfl (lv_at hl 1 rfl) ?_
  refine lv_imul hx hb dX6_layCamper_8 ?_
  refine lv_iadd hx hb dX6_layCamper_9 ?_
  refine lv_iload_n hx hb dX6_layCamper_10 rfl (lv_at hl 2 rfl) ?_
  refine lv_iadd hx hb dX6_layCamper_11 ?_
  refine lv_iload_n hx hb dX6_layCamper_12 rfl (lv_at hl 3 rfl) ?_
  obtain ⟨n_2, h⟩ := sto_e h
  obtain ⟨M_1, eM_1, h⟩ := nam_e h
  refine va_iast hx hb hK.1 hW.1 (hW.D hA) hS (160 + 0) 0 (lkMa (j := 0) (by omega)) rfl n_2 dX6_layCamper_13 (fun H locs hP hD hS => ?_)
  have hW := upMa (j := 0) (by omega) hW hP
  rw [← eM_1] at hW
  obtain rfl := Option.some.inj h
  exact W.vret hx hb hr (fun t ht hw => ⟨⟨(), rfl, trivial, hW.ret ht⟩, hS.F ht⟩) hS.2.2 dX6_layCamper_14
abbrev rX6_isHere : Room := { frames := 1, cells := 0, slots := 0, locals := 22 }
set_option maxRecDepth 100000 in
set_option maxHeartbeats 8000000 in
theorem tX6_isHere (l : Launch) (G : WG) (S0 M0 : St) (p1 : Int32) (rr : Int32) (h : f6_isHere M0 p1 = some (rr)) : CtI l yX6_isHere wsX6_isHere rX6_isHere G [.ref (gad G 159), .int p1] S0 M0 rr S0 M0 := by
  refine Met.ofW (cc := cX6_isHere) (maxL := 2) (ret := (some .boolean)) (by decide) rfl ?_
  intro p e s m args below meth cd s₁ B hml hv
  obtain ⟨hargs, hK, hW⟩ := hv
  have hx := B.exec
  have hb := B.bytes
  have hr := B.returns
  have hts := atoms_spec (ws := wsX6_isHere) B.pre
  have hown : s.vm.findClass RX6 = some m.cls := findClass_of_methodNamed B.named
  have hlocks := B.notSynchronized
  have hA : ∀ q, Aw G q → Aw G q := fun _ h => h
  have hS : va_S (Aw G) s.heap s.heap [] := va_S.rf
  have he0 : entryFrame m args 2 = F0 m 0 ((lg_sl ([.ref (gad G 159), .int p1]) ++ List.replicate (2 - (lg_sl ([.ref (gad G 159), .int p1])).length) Slot.unset).toArray) [] := by rw [hargs]; exact lg_entry_eq _ _ _
  have hl := lv_entry ([.ref (gad G 159), .int p1]) (n := 2) (Nat.le_of_ble_eq_true rfl)
  rw [he0]
  generalize (lg_sl ([.ref (gad G 159), .int p1]) ++ List.replicate (2 - (lg_sl ([.ref (gad G 159), .int p1])).length) Slot.unset).toArray = ls at hl ⊢
  have hl : lv_has ls 2 [(0, .ref (gad G 159)), (1, .int p1)] := hl
  have B25 : ∀ (H : Heap) (locs : List Loc) (_ : WD G S0 M0 H) (_ : va_S (Aw G) s.heap H locs) (ls : Array Slot) (k0 : Int32) (_ : lv_has ls 2 []) (h : f6_isHere_b25 M0 k0 = some (rr)), WI p l e (headSpec wsX6_isHere rX6_isHere).room s m args below meth cd G rr S0 M0 H locs (F0 m 25 ls [.int k0]) := by
    intro H locs hW hS ls k0 hl h
    unfold f6_isHere_b25 at h
    obtain ⟨z_1, h⟩ := isz_e h
    obtain rfl := Option.some.inj h
    exact W.zret (ty := .boolean) hx hb hr (nz_1 z_1) (fun t ht hw => ⟨⟨_, (), rfl, rfl, hW.ret ht⟩, hS.F ht⟩) hS.2.2 dX6_isHere_25
  have B24 : ∀ (H : Heap) (locs : List Loc) (_ : WD G S0 M0 H) (_ : va_S (Aw G) s.heap H locs) (ls : Array Slot) (_ : lv_has ls 2 []) (h : f6_isHere_b24 M0  = some (rr)), WI p l e (headSpec wsX6_isHere rX6_isHere).room s m args below meth cd G rr S0 M0 H locs (F0 m 24 ls []) := by
    intro H locs hW hS ls hl h
    unfold f6_isHere_b24 at h
    refine lv_iconst (v := 0) hx hb dX6_isHere_24 (by decide) ?_
    exact B25 _ _ hW hS ls 0 (lv_sub hl [] rfl) h
  unfold f6_isHere at h
  refine lv_iload_n hx hb dX6_isHere_0 rfl (lv_at hl 1 rfl) ?_
  refine lv_iconst (v := 0) hx hb dX6_isHere_1 (by decide) ?_
  refine lv_bipush (v := 15) hx hb dX6_isHere_2 (by decide) ?_
  obtain ⟨r_1, e_2, h⟩ := bnd_e h
  refine kS_I (As := [.int p1, .int 0, .int 15]) (rest := []) ⟨hx, hb, hml, hown, hts⟩ (tX6_in l G S0 M0 p1 0 15 r_1 e_2) (va_cwS 3 hts gX6_isHere_X6_in rfl rfl rfl hdX6_in ⟨Nat.le_of_ble_eq_true rfl, Nat.le_of_ble_eq_true rfl⟩) hK hW hS hA rfl hl.1 rfl (Nat.le_of_ble_eq_true rfl) dX6_isHere_4 ⟨Nat.zero_le _, Nat.zero_le _⟩ (fun H locs hW hS => ?_)
  refine lv_if_eq (tgt := 24) hx hb dX6_isHere_7 (by decide) (fun c_3 => ?_) (fun c_3 => ?_)
  · have h := ite_t c_3 h
    exact B24 _ _ hW hS ls (lv_sub hl [] rfl) h
  · have h := ite_f c_3 h
    refine lv_aload_n hx hb dX6_isHere_10 rfl (lv_at hl 0 rfl) ?_
    refine lv_iload_n hx hb dX6_isHere_11 rfl (lv_at hl 1 rfl) ?_
    refine lv_iconst (v := 0) hx hb dX6_isHere_12 (by decide) ?_
    obtain ⟨r_4, e_5, h⟩ := bnd_e h
    refine kV_I (As := [.int p1, .int 0]) (rest := []) ⟨hx, hb, hml, hown, hts⟩ (tX6_ofCamper l G S0 M0 p1 0 r_4 e_5) (cwV 2 hts gX6_isHere_X6_ofCamper rfl rfl rfl ⟨rfl, hdX6_ofCamper⟩ ⟨Nat.le_of_ble_eq_true rfl, Nat.le_of_ble_eq_true rfl⟩) (va_recv hK.1 hW.1 (ci := 6) (q0 := 159) rfl lkM) hK hW hS hA rfl hl.1 rfl (Nat.le_of_ble_eq_true rfl) dX6_isHere_13 ⟨Nat.zero_le _, Nat.zero_le _⟩ (fun H locs hW hS => ?_)
    refine lv_iconst (v := 1) hx hb dX6_isHere_16 (by decide) ?_
    refine lv_icmp_ne (tgt := 24) hx hb dX6_isHere_17 (by decide) (fun c_6 => ?_) (fun c_6 => ?_)
    · have h := ite_f c_6 h
      exact B24 _ _ hW hS ls (lv_sub hl [] rfl) h
    · have h := ite_t c_6 h
      refine lv_iconst (v := 1) hx hb dX6_isHere_20 (by decide) ?_
      refine lv_goto (tgt := 25) hx hb dX6_isHere_21 (by decide) ?_
      exact B25 _ _ hW hS ls 1 (lv_sub hl [] rfl) h
abbrev rX6_ofPlot : Room := { frames := 0, cells := 0, slots := 0, locals := 0 }
set_option maxRecDepth 100000 in
set_option maxHeartbeats 8000000 in
theorem tX6_ofPlot (l : Launch) (G : WG) (S0 M0 : St) (p1 : Int32) (p2 : Int32) (rr : Int32) (h : f6_ofPlot M0 p1 p2 = some (rr)) : CtI l yX6_ofPlot wsX6_ofPlot rX6_ofPlot G [.ref (gad G 159), .int p1, .int p2] S0 M0 rr S0 M0 := by
  refine Met.ofW (cc := cX6_ofPlot) (maxL := 3) (ret := (some .int)) (by decide) rfl ?_
  intro p e s m args below meth cd s₁ B hml hv
  obtain ⟨hargs, hK, hW⟩ := hv
  have hx := B.exec
  have hb := B.bytes
  have hr := B.returns
  have hts := atoms_spec (ws := wsX6_ofPlot) B.pre
  have hown : s.vm.findClass RX6 = some m.cls := findClass_of_methodNamed B.named
  have hlocks := B.notSynchronized
  have hA : ∀ q, Aw G q → Aw G q := fun _ h => h
  have hS : va_S (Aw G) s.heap s.heap [] := va_S.rf
  have he0 : entryFrame m args 3 = F0 m 0 ((lg_sl ([.ref (gad G 159), .int p1, .int p2]) ++ List.replicate (3 - (lg_sl ([.ref (gad G 159), .int p1, .int p2])).length) Slot.unset).toArray) [] := by rw [hargs]; exact lg_entry_eq _ _ _
  have hl := lv_entry ([.ref (gad G 159), .int p1, .int p2]) (n := 3) (Nat.le_of_ble_eq_true rfl)
  rw [he0]
  generalize (lg_sl ([.ref (gad G 159), .int p1, .int p2]) ++ List.replicate (3 - (lg_sl ([.ref (gad G 159), .int p1, .int p2])).length) Slot.unset).toArray = ls at hl ⊢
  have hl : lv_has ls 3 [(0, .ref (gad G 159)), (1, .int p1), (2, .int p2)] := hl
  have hiX6 : ∀ w ∈ u_ws RX6 TX6 14, w ∈ wsX6_ofPlot := by decide +kernel
  unfold f6_ofPlot at h
  refine lv_aload_n hx hb dX6_ofPlot_0 rfl (lv_at hl 0 rfl) ?_
  refine va_get (D := G.1) (ci := 6) (v := .ref (gad G (160 + 0))) (C := RX6) (T := TX6) (N := 14) hx hb hts hiX6 hown hK.1 hW.1 159 lkM rfl 1 (by decide) (hts _ (List.mem_of_getElem? (i := 1) rfl)) (fun _ h9 => h9) rfl dX6_ofPlot_1 ?_
  refine lv_bipush (v := 54) hx hb dX6_ofPlot_4 (by decide) ?_
  refine lv_iconst (v := 4) hx hb dX6_ofPlot_6 (by decide) ?_
  refine lv_iload_n hx hb dX6_ofPlot_7 rfl (lv_at hl 1 rfl) ?_
  refine lv_imul hx hb dX6_ofPlot_8 ?_
  refine lv_iadd hx hb dX6_ofPlot_9 ?_
  refine lv_iload_n hx hb dX6_ofPlot_10 rfl (lv_at hl 2 rfl) ?_
  refine lv_iadd hx hb dX6_ofPlot_11 ?_
  obtain ⟨x_1, nx_1, ex_1, h⟩ := arr_e h
  refine va_iald hx hb hK.1 hW.1 (160 + 0) 0 (lkMa (j := 0) (by omega)) rfl nx_1 dX6_ofPlot_12 ?_
  refine lv_ni ex_1 ?_
  obtain rfl := Option.some.inj h
  exact W.iret hx hb hr (fun t ht hw => ⟨⟨_, (), rfl, rfl, hW.ret ht⟩, hS.F ht⟩) hS.2.2 dX6_ofPlot_13
abbrev rX6_layPlot : Room := { frames := 0, cells := 0, slots := 0, locals := 0 }
set_option maxRecDepth 100000 in
set_option maxHeartbeats 8000000 in
theorem tX6_layPlot (l : Launch) (G : WG) (S0 M0 : St) (p1 : Int32) (p2 : Int32) (p3 : Int32) (p4 : Int32) (p5 : Int32) (M' : St) (h : f6_layPlot M0 p1 p2 p3 p4 p5 = some (M')) : CtV l yX6_layPlot wsX6_layPlot rX6_layPlot G [.ref (gad G 159), .int p1, .int p2, .int p3, .int p4, .int p5] S0 M0 S0 M' := by
  refine Met.ofW (cc := cX6_layPlot) (maxL := 6) (ret := none) (by decide) rfl ?_
  intro p e s m args below meth cd s₁ B hml hv
  obtain ⟨hargs, hK, hW⟩ := hv
  have hx := B.exec
  have hb := B.bytes
  have hr := B.returns
  have hts := atoms_spec (ws := wsX6_layPlot) B.pre
  have hown : s.vm.findClass RX6 = some m.cls := findClass_of_methodNamed B.named
  have hlocks := B.notSynchronized
  have hA : ∀ q, Aw G q → Aw G q := fun _ h => h
  have hS : va_S (Aw G) s.heap s.heap [] := va_S.rf
  have he0 : entryFrame m args 6 = F0 m 0 ((lg_sl ([.ref (gad G 159), .int p1, .int p2, .int p3, .int p4, .int p5]) ++ List.replicate (6 - (lg_sl ([.ref (gad G 159), .int p1, .int p2, .int p3, .int p4, .int p5])).length) Slot.unset).toArray) [] := by rw [hargs]; exact lg_entry_eq _ _ _
  have hl := lv_entry ([.ref (gad G 159), .int p1, .int p2, .int p3, .int p4, .int p5]) (n := 6) (Nat.le_of_ble_eq_true rfl)
  rw [he0]
  generalize (lg_sl ([.ref (gad G 159), .int p1, .int p2, .int p3, .int p4, .int p5]) ++ List.replicate (6 - (lg_sl ([.ref (gad G 159), .int p1, .int p2, .int p3, .int p4, .int p5])).length) Slot.unset).toArray = ls at hl ⊢
  have hl : lv_has ls 6 [(0, .ref (gad G 159)), (1, .int p1), (2, .int p2), (3, .int p3), (4, .int p4), (5, .int p5)] := hl
  have hiX6 : ∀ w ∈ u_ws RX6 TX6 14, w ∈ wsX6_layPlot := by decide +kernel
  unfold f6_layPlot at h
  refine lv_aload_n hx hb dX6_layPlot_0 rfl (lv_at hl 0 rfl) ?_
  refine va_get (D := G.1) (ci := 6) (v := .ref (gad G (160 + 0))) (C := RX6) (T := TX6) (N := 14) hx hb hts hiX6 hown hK.1 hW.1 159 lkM rfl 1 (by decide) (hts _ (List.mem_of_getElem? (i := 1) rfl)) (fun _ h9 => h9) rfl dX6_layPlot_1 ?_
  refine lv_bipush (v := 54) hx hb dX6_layPlot_4 (by decide) ?_
  refine lv_iconst (v := 4) hx hb dX6_layPlot_6 (by decide) ?_
  refine lv_iload_n hx hb dX6_layPlot_7 rfl (lv_at hl 1 rfl) ?_
  refine lv_imul hx hb dX6_layPlot_8 ?_
  refine lv_iadd hx hb dX6_layPlot_9 ?_
  refine lv_iconst (v := 0) hx hb dX6_layPlot_10 (by decide) ?_
  refine lv_iadd hx hb dX6_layPlot_11 ?_
  refine lv_iload_n hx hb dX6_layPlot_12 rfl (lv_at hl 2 rfl) ?_
  obtain ⟨n_2, h⟩ := sto_e h
  obtain ⟨M_1, eM_1, h⟩ := nam_e h
  refine va_iast hx hb hK.1 hW.1 (hW.D hA) hS (160 + 0) 0 (lkMa (j := 0) (by omega)) rfl n_2 dX6_layPlot_13 (fun H locs hP hD hS => ?_)
  have hW := upMa (j := 0) (by omega) hW hP
  rw [← eM_1] at hW
  refine lv_aload_n hx hb dX6_layPlot_14 rfl (lv_at hl 0 rfl) ?_
  refine va_get (D := G.1) (ci := 6) (v := .ref (gad G (160 + 0))) (C := RX6) (T := TX6) (N := 14) hx hb hts hiX6 hown hK.1 hW.1 159 lkM rfl 1 (by decide) (hts _ (List.mem_of_getElem? (i := 1) rfl)) (fun _ h9 => h9) rfl dX6_layPlot_15 ?_
  refine lv_bipush (v := 54) hx hb dX6_layPlot_18 (by decide) ?_
  refine lv_iconst (v := 4) hx hb dX6_layPlot_20 (by decide) ?_
  refine lv_iload_n hx hb dX6_layPlot_21 rfl (lv_at hl 1 rfl) ?_
  refine lv_imul hx hb dX6_layPlot_22 ?_
  refine lv_iadd hx hb dX6_layPlot_23 ?_
  refine lv_iconst (v := 1) hx hb dX6_layPlot_24 (by decide) ?_
  refine lv_iadd hx hb dX6_layPlot_25 ?_
  refine lv_iload_n hx hb dX6_layPlot_26 rfl (lv_at hl 3 rfl) ?_
  obtain ⟨n_4, h⟩ := sto_e h
  obtain ⟨M_3, eM_3, h⟩ := nam_e h
  refine va_iast hx hb hK.1 hW.1 (hW.D hA) hS (160 + 0) 0 (lkMa (j := 0) (by omega)) rfl n_4 dX6_layPlot_27 (fun H locs hP hD hS => ?_)
  have hW := upMa (j := 0) (by omega) hW hP
  rw [← eM_3] at hW
  refine lv_aload_n hx hb dX6_layPlot_28 rfl (lv_at hl 0 rfl) ?_
  refine va_get (D := G.1) (ci := 6) (v := .ref (gad G (160 + 0))) (C := RX6) (T := TX6) (N := 14) hx hb hts hiX6 hown hK.1 hW.1 159 lkM rfl 1 (by decide) (hts _ (List.mem_of_getElem? (i := 1) rfl)) (fun _ h9 => h9) rfl dX6_layPlot_29 ?_
  refine lv_bipush (v := 54) hx hb dX6_layPlot_32 (by decide) ?_
  refine lv_iconst (v := 4) hx hb dX6_layPlot_34 (by decide) ?_
  refine lv_iload_n hx hb dX6_layPlot_35 rfl (lv_at hl 1 rfl) ?_
  refine lv_imul hx hb dX6_layPlot_36 ?_
  refine lv_iadd hx hb dX6_layPlot_37 ?_
  refine lv_iconst (v := 2) hx hb dX6_layPlot_38 (by decide) ?_
  refine lv_iadd hx hb dX6_layPlot_39 ?_
  refine lv_iload hx hb dX6_layPlot_40 (lv_at hl 4 rfl) ?_
  obtain ⟨n_6, h⟩ := sto_e h
  obtain ⟨M_5, eM_5, h⟩ := nam_e h
  refine va_iast hx hb hK.1 hW.1 (hW.D hA) hS (160 + 0) 0 (lkMa (j := 0) (by omega)) rfl n_6 dX6_layPlot_42 (fun H locs hP hD hS => ?_)
  have hW := upMa (j := 0) (by omega) hW hP
  rw [← eM_5] at hW
  refine lv_aload_n hx hb dX6_layPlot_43 rfl (lv_at hl 0 rfl) ?_
  refine va_get (D := G.1) (ci := 6) (v := .ref (gad G (160 + 0))) (C := RX6) (T := TX6) (N := 14) hx hb hts hiX6 hown hK.1 hW.1 159 lkM rfl 1 (by decide) (hts _ (List.mem_of_getElem? (i := 1) rfl)) (fun _ h9 => h9) rfl dX6_layPlot_44 ?_
  refine lv_bipush (v := 54) hx hb dX6_layPlot_47 (by decide) ?_
  refine lv_iconst (v := 4) hx hb dX6_layPlot_49 (by decide) ?_
  refine lv_iload_n hx hb dX6_layPlot_50 rfl (lv_at hl 1 rfl) ?_
  refine lv_imul hx hb dX6_layPlot_51 ?_
  refine lv_iadd hx hb dX6_layPlot_52 ?_
  refine lv_iconst (v := 3) hx hb dX6_layPlot_53 (by decide) ?_
  refine lv_iadd hx hb dX6_layPlot_54 ?_
  refine lv_iload hx hb dX6_layPlot_55 (lv_at hl 5 rfl) ?_
  obtain ⟨n_8, h⟩ := sto_e h
  obtain ⟨M_7, eM_7, h⟩ := nam_e h
  refine va_iast hx hb hK.1 hW.1 (hW.D hA) hS (160 + 0) 0 (lkMa (j := 0) (by omega)) rfl n_8 dX6_layPlot_57 (fun H locs hP hD hS => ?_)
  have hW := upMa (j := 0) (by omega) hW hP
  rw [← eM_7] at hW
  obtain rfl := Option.some.inj h
  exact W.vret hx hb hr (fun t ht hw => ⟨⟨(), rfl, trivial, hW.ret ht⟩, hS.F ht⟩) hS.2.2 dX6_layPlot_58
abbrev rX6_ofSong : Room := { frames := 0, cells := 0, slots := 0, locals := 0 }
set_option maxRecDepth 100000 in
set_option maxHeartbeats 8000000 in
theorem tX6_ofSong (l : Launch) (G : WG) (S0 M0 : St) (p1 : Int32) (p2 : Int32) (rr : Int32) (h : f6_ofSong M0 p1 p2 = some (rr)) : CtI l yX6_ofSong wsX6_ofSong rX6_ofSong G [.ref (gad G 159), .int p1, .int p2] S0 M0 rr S0 M0 := by
  refine Met.ofW (cc := cX6_ofSong) (maxL := 3) (ret := (some .int)) (by decide) rfl ?_
  intro p e s m args below meth cd s₁ B hml hv
  obtain ⟨hargs, hK, hW⟩ := hv
  have hx := B.exec
  have hb := B.bytes
  have hr := B.returns
  have hts := atoms_spec (ws := wsX6_ofSong) B.pre
  have hown : s.vm.findClass RX6 = some m.cls := findClass_of_methodNamed B.named
  have hlocks := B.notSynchronized
  have hA : ∀ q, Aw G q → Aw G q := fun _ h => h
  have hS : va_S (Aw G) s.heap s.heap [] := va_S.rf
  have he0 : entryFrame m args 3 = F0 m 0 ((lg_sl ([.ref (gad G 159), .int p1, .int p2]) ++ List.replicate (3 - (lg_sl ([.ref (gad G 159), .int p1, .int p2])).length) Slot.unset).toArray) [] := by rw [hargs]; exact lg_entry_eq _ _ _
  have hl := lv_entry ([.ref (gad G 159), .int p1, .int p2]) (n := 3) (Nat.le_of_ble_eq_true rfl)
  rw [he0]
  generalize (lg_sl ([.ref (gad G 159), .int p1, .int p2]) ++ List.replicate (3 - (lg_sl ([.ref (gad G 159), .int p1, .int p2])).length) Slot.unset).toArray = ls at hl ⊢
  have hl : lv_has ls 3 [(0, .ref (gad G 159)), (1, .int p1), (2, .int p2)] := hl
  have hiX6 : ∀ w ∈ u_ws RX6 TX6 14, w ∈ wsX6_ofSong := by decide +kernel
  unfold f6_ofSong at h
  refine lv_aload_n hx hb dX6_ofSong_0 rfl (lv_at hl 0 rfl) ?_
  refine va_get (D := G.1) (ci := 6) (v := .ref (gad G (160 + 0))) (C := RX6) (T := TX6) (N := 14) hx hb hts hiX6 hown hK.1 hW.1 159 lkM rfl 1 (by decide) (hts _ (List.mem_of_getElem? (i := 1) rfl)) (fun _ h9 => h9) rfl dX6_ofSong_1 ?_
  refine lv_sipush (v := 826) hx hb dX6_ofSong_4 (by decide) ?_
  refine lv_iconst (v := 3) hx hb dX6_ofSong_7 (by decide) ?_
  refine lv_iload_n hx hb dX6_ofSong_8 rfl (lv_at hl 1 rfl) ?_
  refine lv_imul hx hb dX6_ofSong_9 ?_
  refine lv_iadd hx hb dX6_ofSong_10 ?_
  refine lv_iload_n hx hb dX6_ofSong_11 rfl (lv_at hl 2 rfl) ?_
  refine lv_iadd hx hb dX6_ofSong_12 ?_
  obtain ⟨x_1, nx_1, ex_1, h⟩ := arr_e h
  refine va_iald hx hb hK.1 hW.1 (160 + 0) 0 (lkMa (j := 0) (by omega)) rfl nx_1 dX6_ofSong_13 ?_
  refine lv_ni ex_1 ?_
  obtain rfl := Option.some.inj h
  exact W.iret hx hb hr (fun t ht hw => ⟨⟨_, (), rfl, rfl, hW.ret ht⟩, hS.F ht⟩) hS.2.2 dX6_ofSong_14
abbrev rX6_records : Room := { frames := 0, cells := 0, slots := 0, locals := 0 }
set_option maxRecDepth 100000 in
set_option maxHeartbeats 8000000 in
theorem tX6_records (l : Launch) (G : WG) (S0 M0 : St) (M' : St) (h : f6_records M0 = some (M')) : CtV l yX6_records wsX6_records rX6_records G [.ref (gad G 159)] S0 M0 S0 M' := by
  refine Met.ofW (cc := cX6_records) (maxL := 2) (ret := none) (by decide) rfl ?_
  intro p e s m args below meth cd s₁ B hml hv
  obtain ⟨hargs, hK, hW⟩ := hv
  have hx := B.exec
  have hb := B.bytes
  have hr := B.returns
  have hts := atoms_spec (ws := wsX6_records) B.pre
  have hown : s.vm.findClass RX6 = some m.cls := findClass_of_methodNamed B.named
  have hlocks := B.notSynchronized
  have hA : ∀ q, Aw G q → Aw G q := fun _ h => h
  have hS : va_S (Aw G) s.heap s.heap [] := va_S.rf
  have he0 : entryFrame m args 2 = F0 m 0 ((lg_sl ([.ref (gad G 159)]) ++ List.replicate (2 - (lg_sl ([.ref (gad G 159)])).length) Slot.unset).toArray) [] := by rw [hargs]; exact lg_entry_eq _ _ _
  have hl := lv_entry ([.ref (gad G 159)]) (n := 2) (Nat.le_of_ble_eq_true rfl)
  rw [he0]
  generalize (lg_sl ([.ref (gad G 159)]) ++ List.replicate (2 - (lg_sl ([.ref (gad G 159)])).length) Slot.unset).toArray = ls at hl ⊢
  have hl : lv_has ls 2 [(0, .ref (gad G 159))] := hl
  have hiX6 : ∀ w ∈ u_ws RX6 TX6 14, w ∈ wsX6_records := by decide +kernel
  have B51 : ∀ (n : Nat), ∀ (H : Heap) (locs : List Loc) (M : St) (_ : WD G S0 M H) (_ : va_S (Aw G) s.heap H locs) (ls : Array Slot) (l1 : Int32) (_ : lv_has ls 2 [(0, .ref (gad G 159)), (1, .int l1)]) (h : f6_records_b51  n M l1 = some (M')), WV p l e (headSpec wsX6_records rX6_records).room s m args below meth cd G S0 M' H locs (F0 m 51 ls []) := by
    intro n
    induction n with
    | zero => intro H locs M hW hS ls l1 hl h; cases (show (none : Option (St)) = some _ from h)
    | succ n ih =>
      intro H locs M hW hS ls l1 hl h
      rw [f6_records_b51] at h
      refine lv_iload_n hx hb dX6_records_51 rfl (lv_at hl 1 rfl) ?_
      refine lv_sipush (v := 886) hx hb dX6_records_52 (by decide) ?_
      refine lv_icmp_ge (tgt := 85) hx hb dX6_records_55 (by decide) (fun c_1 => ?_) (fun c_1 => ?_)
      · have h := ite_t c_1 h
        refine lv_aload_n hx hb dX6_records_85 rfl (lv_at hl 0 rfl) ?_
        refine lv_dup hx hb dX6_records_86 rfl ?_
        refine va_get (D := G.1) (ci := 6) (v := .int (M.1 1)) (C := RX6) (T := TX6) (N := 14) hx hb hts hiX6 hown hK.1 hW.1 159 lkM rfl 4 (by decide) (hts _ (List.mem_of_getElem? (i := 1) rfl)) (fun _ h9 => h9) rfl dX6_records_87 ?_
        refine lv_iconst (v := 1) hx hb dX6_records_90 (by decide) ?_
        refine lv_iadd hx hb dX6_records_91 ?_
        obtain ⟨M_2, eM_2, h⟩ := nam_e h
        refine va_put (D := G.1) (ci := 6) (v := .int ((M.1 1 + 1))) (ty := .int) (C := RX6) (T := TX6) (N := 14) hx hb hts hiX6 tyX6 tyX6_ok nmX6 hown hK.1 hW.1 (hW.D hA) hS 159 lkM rfl 4 (by decide) (hts _ (List.mem_of_getElem? (i := 1) rfl)) (fun _ h9 => h9) rfl (by decide +kernel) rfl rfl (Nat.le_of_ble_eq_true rfl) dX6_records_92 (fun H locs hP hD hS => ?_)
        have hW := upM1 hW hP
        rw [← eM_2] at hW
        obtain rfl := Option.some.inj h
        exact W.vret hx hb hr (fun t ht hw => ⟨⟨(), rfl, trivial, hW.ret ht⟩, hS.F ht⟩) hS.2.2 dX6_records_95
      · have h := ite_f c_1 h
        refine lv_aload_n hx hb dX6_records_58 rfl (lv_at hl 0 rfl) ?_
        refine va_get (D := G.1) (ci := 6) (v := .ref (gad G (160 + 2))) (C := RX6) (T := TX6) (N := 14) hx hb hts hiX6 hown hK.1 hW.1 159 lkM rfl 3 (by decide) (hts _ (List.mem_of_getElem? (i := 2) rfl)) (fun _ h9 => h9) rfl dX6_records_59 ?_
        refine lv_sipush (v := 886) hx hb dX6_records_62 (by decide) ?_
        refine lv_aload_n hx hb dX6_records_65 rfl (lv_at hl 0 rfl) ?_
        refine va_get (D := G.1) (ci := 6) (v := .int (M.1 1)) (C := RX6) (T := TX6) (N := 14) hx hb hts hiX6 hown hK.1 hW.1 159 lkM rfl 4 (by decide) (hts _ (List.mem_of_getElem? (i := 1) rfl)) (fun _ h9 => h9) rfl dX6_records_66 ?_
        refine lv_imul hx hb dX6_records_69 ?_
        refine lv_iload_n hx hb dX6_records_70 rfl (lv_at hl 1 rfl) ?_
        refine lv_iadd hx hb dX6_records_71 ?_
        refine lv_aload_n hx hb dX6_records_72 rfl (lv_at hl 0 rfl) ?_
        refine va_get (D := G.1) (ci := 6) (v := .ref (gad G (160 + 0))) (C := RX6) (T := TX6) (N := 14) hx hb hts hiX6 hown hK.1 hW.1 159 lkM rfl 1 (by decide) (hts _ (List.mem_of_getElem? (i := 3) rfl)) (fun _ h9 => h9) rfl dX6_records_73 ?_
        refine lv_iload_n hx hb dX6_records_76 rfl (lv_at hl 1 rfl) ?_
        obtain ⟨x_3, nx_3, ex_3, h⟩ := arr_e h
        refine va_iald hx hb hK.1 hW.1 (160 + 0) 0 (lkMa (j := 0) (by omega)) rfl nx_3 dX6_records_77 ?_
        refine lv_ni ex_3 ?_
        obtain ⟨n_5, h⟩ := sto_e h
        obtain ⟨M_4, eM_4, h⟩ := nam_e h
        refine va_iast hx hb hK.1 hW.1 (hW.D hA) hS (160 + 2) 0 (lkMa (j := 2) (by omega)) rfl n_5 dX6_records_78 (fun H locs hP hD hS => ?_)
        have hW := upMa (j := 2) (by omega) hW hP
        rw [← eM_4] at hW
        refine lv_iinc (v := (l1 + 1)) (lv' := [(1, .int ((l1 + 1))), (0, .ref (gad G 159))]) hx hb dX6_records_79 hl (k := 1) rfl rfl (by decide) rfl (fun ls hl => ?_)
        refine lv_goto (tgt := 51) hx hb dX6_records_82 (by decide) ?_
        exact ih _ _ M_4 hW hS ls ((l1 + 1)) (lv_sub hl [1, 0] rfl) h
  have B49 : ∀ (H : Heap) (locs : List Loc) (M : St) (_ : WD G S0 M H) (_ : va_S (Aw G) s.heap H locs) (ls : Array Slot) (_ : lv_has ls 2 [(0, .ref (gad G 159))]) (h : f6_records_b49 M  = some (M')), WV p l e (headSpec wsX6_records rX6_records).room s m args below meth cd G S0 M' H locs (F0 m 49 ls []) := by
    intro H locs M hW hS ls hl h
    unfold f6_records_b49 at h
    refine lv_iconst (v := 0) hx hb dX6_records_49 (by decide) ?_
    refine lv_istore_n (lv' := [(1, .int 0), (0, .ref (gad G 159))]) hx hb dX6_records_50 rfl hl (by decide) rfl (fun ls hl => ?_)
    exact B51 fuelN _ _ M hW hS ls 0 (lv_sub hl [1, 0] rfl) h
  have B10 : ∀ (n : Nat), ∀ (H : Heap) (locs : List Loc) (M : St) (_ : WD G S0 M H) (_ : va_S (Aw G) s.heap H locs) (ls : Array Slot) (l1 : Int32) (_ : lv_has ls 2 [(0, .ref (gad G 159)), (1, .int l1)]) (h : f6_records_b10  n M l1 = some (M')), WV p l e (headSpec wsX6_records rX6_records).room s m args below meth cd G S0 M' H locs (F0 m 10 ls []) := by
    intro n
    induction n with
    | zero => intro H locs M hW hS ls l1 hl h; cases (show (none : Option (St)) = some _ from h)
    | succ n ih =>
      intro H locs M hW hS ls l1 hl h
      rw [f6_records_b10] at h
      refine lv_iload_n hx hb dX6_records_10 rfl (lv_at hl 1 rfl) ?_
      refine lv_sipush (v := 2658) hx hb dX6_records_11 (by decide) ?_
      refine lv_icmp_ge (tgt := 39) hx hb dX6_records_14 (by decide) (fun c_1 => ?_) (fun c_1 => ?_)
      · have h := ite_t c_1 h
        refine lv_aload_n hx hb dX6_records_39 rfl (lv_at hl 0 rfl) ?_
        refine lv_dup hx hb dX6_records_40 rfl ?_
        refine va_get (D := G.1) (ci := 6) (v := .int (M.1 1)) (C := RX6) (T := TX6) (N := 14) hx hb hts hiX6 hown hK.1 hW.1 159 lkM rfl 4 (by decide) (hts _ (List.mem_of_getElem? (i := 1) rfl)) (fun _ h9 => h9) rfl dX6_records_41 ?_
        refine lv_iconst (v := 1) hx hb dX6_records_44 (by decide) ?_
        refine lv_isub hx hb dX6_records_45 ?_
        obtain ⟨M_2, eM_2, h⟩ := nam_e h
        refine va_put (D := G.1) (ci := 6) (v := .int ((M.1 1 - 1))) (ty := .int) (C := RX6) (T := TX6) (N := 14) hx hb hts hiX6 tyX6 tyX6_ok nmX6 hown hK.1 hW.1 (hW.D hA) hS 159 lkM rfl 4 (by decide) (hts _ (List.mem_of_getElem? (i := 1) rfl)) (fun _ h9 => h9) rfl (by decide +kernel) rfl rfl (Nat.le_of_ble_eq_true rfl) dX6_records_46 (fun H locs hP hD hS => ?_)
        have hW := upM1 hW hP
        rw [← eM_2] at hW
        exact B49 _ _ M_2 hW hS ls (lv_sub hl [0] rfl) h
      · have h := ite_f c_1 h
        refine lv_aload_n hx hb dX6_records_17 rfl (lv_at hl 0 rfl) ?_
        refine va_get (D := G.1) (ci := 6) (v := .ref (gad G (160 + 2))) (C := RX6) (T := TX6) (N := 14) hx hb hts hiX6 hown hK.1 hW.1 159 lkM rfl 3 (by decide) (hts _ (List.mem_of_getElem? (i := 2) rfl)) (fun _ h9 => h9) rfl dX6_records_18 ?_
        refine lv_iload_n hx hb dX6_records_21 rfl (lv_at hl 1 rfl) ?_
        refine lv_aload_n hx hb dX6_records_22 rfl (lv_at hl 0 rfl) ?_
        refine va_get (D := G.1) (ci := 6) (v := .ref (gad G (160 + 2))) (C := RX6) (T := TX6) (N := 14) hx hb hts hiX6 hown hK.1 hW.1 159 lkM rfl 3 (by decide) (hts _ (List.mem_of_getElem? (i := 2) rfl)) (fun _ h9 => h9) rfl dX6_records_23 ?_
        refine lv_iload_n hx hb dX6_records_26 rfl (lv_at hl 1 rfl) ?_
        refine lv_sipush (v := 886) hx hb dX6_records_27 (by decide) ?_
        refine lv_iadd hx hb dX6_records_30 ?_
        obtain ⟨x_3, nx_3, ex_3, h⟩ := arr_e h
        refine va_iald hx hb hK.1 hW.1 (160 + 2) 0 (lkMa (j := 2) (by omega)) rfl nx_3 dX6_records_31 ?_
        refine lv_ni ex_3 ?_
        obtain ⟨n_5, h⟩ := sto_e h
        obtain ⟨M_4, eM_4, h⟩ := nam_e h
        refine va_iast hx hb hK.1 hW.1 (hW.D hA) hS (160 + 2) 0 (lkMa (j := 2) (by omega)) rfl n_5 dX6_records_32 (fun H locs hP hD hS => ?_)
        have hW := upMa (j := 2) (by omega) hW hP
        rw [← eM_4] at hW
        refine lv_iinc (v := (l1 + 1)) (lv' := [(1, .int ((l1 + 1))), (0, .ref (gad G 159))]) hx hb dX6_records_33 hl (k := 1) rfl rfl (by decide) rfl (fun ls hl => ?_)
        refine lv_goto (tgt := 10) hx hb dX6_records_36 (by decide) ?_
        exact ih _ _ M_4 hW hS ls ((l1 + 1)) (lv_sub hl [1, 0] rfl) h
  unfold f6_records at h
  refine lv_aload_n hx hb dX6_records_0 rfl (lv_at hl 0 rfl) ?_
  refine va_get (D := G.1) (ci := 6) (v := .int (M0.1 1)) (C := RX6) (T := TX6) (N := 14) hx hb hts hiX6 hown hK.1 hW.1 159 lkM rfl 4 (by decide) (hts _ (List.mem_of_getElem? (i := 1) rfl)) (fun _ h9 => h9) rfl dX6_records_1 ?_
  refine lv_iconst (v := 4) hx hb dX6_records_4 (by decide) ?_
  refine lv_icmp_ne (tgt := 49) hx hb dX6_records_5 (by decide) (fun c_1 => ?_) (fun c_1 => ?_)
  · have h := ite_f c_1 h
    exact B49 _ _ M0 hW hS ls (lv_sub hl [0] rfl) h
  · have h := ite_t c_1 h
    refine lv_iconst (v := 0) hx hb dX6_records_8 (by decide) ?_
    refine lv_istore_n (lv' := [(1, .int 0), (0, .ref (gad G 159))]) hx hb dX6_records_9 rfl hl (by decide) rfl (fun ls hl => ?_)
    exact B10 fuelN _ _ M0 hW hS ls 0 (lv_sub hl [1, 0] rfl) h
abbrev rX6_putAside : Room := { frames := 0, cells := 0, slots := 0, locals := 0 }
set_option maxRecDepth 100000 in
set_option maxHeartbeats 8000000 in
theorem tX6_putAside (l : Launch) (G : WG) (S0 M0 : St) (M' : St) (h : f6_putAside M0 = some (M')) : CtV l yX6_putAside wsX6_putAside rX6_putAside G [.ref (gad G 159)] S0 M0 S0 M' := by
  refine Met.ofW (cc := cX6_putAside) (maxL := 2) (ret := none) (by decide) rfl ?_
  intro p e s m args below meth cd s₁ B hml hv
  obtain ⟨hargs, hK, hW⟩ := hv
  have hx := B.exec
  have hb := B.bytes
  have hr := B.returns
  have hts := atoms_spec (ws := wsX6_putAside) B.pre
  have hown : s.vm.findClass RX6 = some m.cls := findClass_of_methodNamed B.named
  have hlocks := B.notSynchronized
  have hA : ∀ q, Aw G q → Aw G q := fun _ h => h
  have hS : va_S (Aw G) s.heap s.heap [] := va_S.rf
  have he0 : entryFrame m args 2 = F0 m 0 ((lg_sl ([.ref (gad G 159)]) ++ List.replicate (2 - (lg_sl ([.ref (gad G 159)])).length) Slot.unset).toArray) [] := by rw [hargs]; exact lg_entry_eq _ _ _
  have hl := lv_entry ([.ref (gad G 159)]) (n := 2) (Nat.le_of_ble_eq_true rfl)
  rw [he0]
  generalize (lg_sl ([.ref (gad G 159)]) ++ List.replicate (2 - (lg_sl ([.ref (gad G 159)])).length) Slot.unset).toArray = ls at hl ⊢
  have hl : lv_has ls 2 [(0, .ref (gad G 159))] := hl
  have hiX6 : ∀ w ∈ u_ws RX6 TX6 14, w ∈ wsX6_putAside := by decide +kernel
  have B2 : ∀ (n : Nat), ∀ (H : Heap) (locs : List Loc) (M : St) (_ : WD G S0 M H) (_ : va_S (Aw G) s.heap H locs) (ls : Array Slot) (l1 : Int32) (_ : lv_has ls 2 [(0, .ref (gad G 159)), (1, .int l1)]) (h : f6_putAside_b2  n M l1 = some (M')), WV p l e (headSpec wsX6_putAside rX6_putAside).room s m args below meth cd G S0 M' H locs (F0 m 2 ls []) := by
    intro n
    induction n with
    | zero => intro H locs M hW hS ls l1 hl h; cases (show (none : Option (St)) = some _ from h)
    | succ n ih =>
      intro H locs M hW hS ls l1 hl h
      rw [f6_putAside_b2] at h
      refine lv_iload_n hx hb dX6_putAside_2 rfl (lv_at hl 1 rfl) ?_
      refine lv_sipush (v := 886) hx hb dX6_putAside_3 (by decide) ?_
      refine lv_icmp_ge (tgt := 27) hx hb dX6_putAside_6 (by decide) (fun c_1 => ?_) (fun c_1 => ?_)
      · have h := ite_t c_1 h
        obtain rfl := Option.some.inj h
        exact W.vret hx hb hr (fun t ht hw => ⟨⟨(), rfl, trivial, hW.ret ht⟩, hS.F ht⟩) hS.2.2 dX6_putAside_27
      · have h := ite_f c_1 h
        refine lv_aload_n hx hb dX6_putAside_9 rfl (lv_at hl 0 rfl) ?_
        refine va_get (D := G.1) (ci := 6) (v := .ref (gad G (160 + 1))) (C := RX6) (T := TX6) (N := 14) hx hb hts hiX6 hown hK.1 hW.1 159 lkM rfl 2 (by decide) (hts _ (List.mem_of_getElem? (i := 1) rfl)) (fun _ h9 => h9) rfl dX6_putAside_10 ?_
        refine lv_iload_n hx hb dX6_putAside_13 rfl (lv_at hl 1 rfl) ?_
        refine lv_aload_n hx hb dX6_putAside_14 rfl (lv_at hl 0 rfl) ?_
        refine va_get (D := G.1) (ci := 6) (v := .ref (gad G (160 + 0))) (C := RX6) (T := TX6) (N := 14) hx hb hts hiX6 hown hK.1 hW.1 159 lkM rfl 1 (by decide) (hts _ (List.mem_of_getElem? (i := 2) rfl)) (fun _ h9 => h9) rfl dX6_putAside_15 ?_
        refine lv_iload_n hx hb dX6_putAside_18 rfl (lv_at hl 1 rfl) ?_
        obtain ⟨x_2, nx_2, ex_2, h⟩ := arr_e h
        refine va_iald hx hb hK.1 hW.1 (160 + 0) 0 (lkMa (j := 0) (by omega)) rfl nx_2 dX6_putAside_19 ?_
        refine lv_ni ex_2 ?_
        obtain ⟨n_4, h⟩ := sto_e h
        obtain ⟨M_3, eM_3, h⟩ := nam_e h
        refine va_iast hx hb hK.1 hW.1 (hW.D hA) hS (160 + 1) 0 (lkMa (j := 1) (by omega)) rfl n_4 dX6_putAside_20 (fun H locs hP hD hS => ?_)
        have hW := upMa (j := 1) (by omega) hW hP
        rw [← eM_3] at hW
        refine lv_iinc (v := (l1 + 1)) (lv' := [(1, .int ((l1 + 1))), (0, .ref (gad G 159))]) hx hb dX6_putAside_21 hl (k := 1) rfl rfl (by decide) rfl (fun ls hl => ?_)
        refine lv_goto (tgt := 2) hx hb dX6_putAside_24 (by decide) ?_
        exact ih _ _ M_3 hW hS ls ((l1 + 1)) (lv_sub hl [1, 0] rfl) h
  unfold f6_putAside at h
  refine lv_iconst (v := 0) hx hb dX6_putAside_0 (by decide) ?_
  refine lv_istore_n (lv' := [(1, .int 0), (0, .ref (gad G 159))]) hx hb dX6_putAside_1 rfl hl (by decide) rfl (fun ls hl => ?_)
  exact B2 fuelN _ _ M0 hW hS ls 0 (lv_sub hl [1, 0] rfl) h
abbrev rX6_takeBack : Room := { frames := 0, cells := 0, slots := 0, locals := 0 }
set_option maxRecDepth 100000 in
set_option maxHeartbeats 8000000 in
theorem tX6_takeBack (l : Launch) (G : WG) (S0 M0 : St) (M' : St) (h : f6_takeBack M0 = some (M')) : CtV l yX6_takeBack wsX6_takeBack rX6_takeBack G [.ref (gad G 159)] S0 M0 S0 M' := by
  refine Met.ofW (cc := cX6_takeBack) (maxL := 2) (ret := none) (by decide) rfl ?_
  intro p e s m args below meth cd s₁ B hml hv
  obtain ⟨hargs, hK, hW⟩ := hv
  have hx := B.exec
  have hb := B.bytes
  have hr := B.returns
  have hts := atoms_spec (ws := wsX6_takeBack) B.pre
  have hown : s.vm.findClass RX6 = some m.cls := findClass_of_methodNamed B.named
  have hlocks := B.notSynchronized
  have hA : ∀ q, Aw G q → Aw G q := fun _ h => h
  have hS : va_S (Aw G) s.heap s.heap [] := va_S.rf
  have he0 : entryFrame m args 2 = F0 m 0 ((lg_sl ([.ref (gad G 159)]) ++ List.replicate (2 - (lg_sl ([.ref (gad G 159)])).length) Slot.unset).toArray) [] := by rw [hargs]; exact lg_entry_eq _ _ _
  have hl := lv_entry ([.ref (gad G 159)]) (n := 2) (Nat.le_of_ble_eq_true rfl)
  rw [he0]
  generalize (lg_sl ([.ref (gad G 159)]) ++ List.replicate (2 - (lg_sl ([.ref (gad G 159)])).length) Slot.unset).toArray = ls at hl ⊢
  have hl : lv_has ls 2 [(0, .ref (gad G 159))] := hl
  have hiX6 : ∀ w ∈ u_ws RX6 TX6 14, w ∈ wsX6_takeBack := by decide +kernel
  have B2 : ∀ (n : Nat), ∀ (H : Heap) (locs : List Loc) (M : St) (_ : WD G S0 M H) (_ : va_S (Aw G) s.heap H locs) (ls : Array Slot) (l1 : Int32) (_ : lv_has ls 2 [(0, .ref (gad G 159)), (1, .int l1)]) (h : f6_takeBack_b2  n M l1 = some (M')), WV p l e (headSpec wsX6_takeBack rX6_takeBack).room s m args below meth cd G S0 M' H locs (F0 m 2 ls []) := by
    intro n
    induction n with
    | zero => intro H locs M hW hS ls l1 hl h; cases (show (none : Option (St)) = some _ from h)
    | succ n ih =>
      intro H locs M hW hS ls l1 hl h
      rw [f6_takeBack_b2] at h
      refine lv_iload_n hx hb dX6_takeBack_2 rfl (lv_at hl 1 rfl) ?_
      refine lv_sipush (v := 886) hx hb dX6_takeBack_3 (by decide) ?_
      refine lv_icmp_ge (tgt := 27) hx hb dX6_takeBack_6 (by decide) (fun c_1 => ?_) (fun c_1 => ?_)
      · have h := ite_t c_1 h
        obtain rfl := Option.some.inj h
        exact W.vret hx hb hr (fun t ht hw => ⟨⟨(), rfl, trivial, hW.ret ht⟩, hS.F ht⟩) hS.2.2 dX6_takeBack_27
      · have h := ite_f c_1 h
        refine lv_aload_n hx hb dX6_takeBack_9 rfl (lv_at hl 0 rfl) ?_
        refine va_get (D := G.1) (ci := 6) (v := .ref (gad G (160 + 0))) (C := RX6) (T := TX6) (N := 14) hx hb hts hiX6 hown hK.1 hW.1 159 lkM rfl 1 (by decide) (hts _ (List.mem_of_getElem? (i := 1) rfl)) (fun _ h9 => h9) rfl dX6_takeBack_10 ?_
        refine lv_iload_n hx hb dX6_takeBack_13 rfl (lv_at hl 1 rfl) ?_
        refine lv_aload_n hx hb dX6_takeBack_14 rfl (lv_at hl 0 rfl) ?_
        refine va_get (D := G.1) (ci := 6) (v := .ref (gad G (160 + 1))) (C := RX6) (T := TX6) (N := 14) hx hb hts hiX6 hown hK.1 hW.1 159 lkM rfl 2 (by decide) (hts _ (List.mem_of_getElem? (i := 2) rfl)) (fun _ h9 => h9) rfl dX6_takeBack_15 ?_
        refine lv_iload_n hx hb dX6_takeBack_18 rfl (lv_at hl 1 rfl) ?_
        obtain ⟨x_2, nx_2, ex_2, h⟩ := arr_e h
        refine va_iald hx hb hK.1 hW.1 (160 + 1) 0 (lkMa (j := 1) (by omega)) rfl nx_2 dX6_takeBack_19 ?_
        refine lv_ni ex_2 ?_
        obtain ⟨n_4, h⟩ := sto_e h
        obtain ⟨M_3, eM_3, h⟩ := nam_e h
        refine va_iast hx hb hK.1 hW.1 (hW.D hA) hS (160 + 0) 0 (lkMa (j := 0) (by omega)) rfl n_4 dX6_takeBack_20 (fun H locs hP hD hS => ?_)
        have hW := upMa (j := 0) (by omega) hW hP
        rw [← eM_3] at hW
        refine lv_iinc (v := (l1 + 1)) (lv' := [(1, .int ((l1 + 1))), (0, .ref (gad G 159))]) hx hb dX6_takeBack_21 hl (k := 1) rfl rfl (by decide) rfl (fun ls hl => ?_)
        refine lv_goto (tgt := 2) hx hb dX6_takeBack_24 (by decide) ?_
        exact ih _ _ M_3 hW hS ls ((l1 + 1)) (lv_sub hl [1, 0] rfl) h
  unfold f6_takeBack at h
  refine lv_iconst (v := 0) hx hb dX6_takeBack_0 (by decide) ?_
  refine lv_istore_n (lv' := [(1, .int 0), (0, .ref (gad G 159))]) hx hb dX6_takeBack_1 rfl hl (by decide) rfl (fun ls hl => ?_)
  exact B2 fuelN _ _ M0 hW hS ls 0 (lv_sub hl [1, 0] rfl) h
abbrev rX6_wide : Room := { frames := 0, cells := 0, slots := 0, locals := 0 }
set_option maxRecDepth 100000 in
set_option maxHeartbeats 8000000 in
theorem tX6_wide (l : Launch) (G : WG) (S0 M0 : St) (p0 : Int32) (rr : Int32) (h : f6_wide p0 = some (rr)) : CtI l yX6_wide wsX6_wide rX6_wide G [.int p0] S0 M0 rr S0 M0 := by
  refine Met.ofW (cc := cX6_wide) (maxL := 1) (ret := (some .int)) (by decide) rfl ?_
  intro p e s m args below meth cd s₁ B hml hv
  obtain ⟨hargs, hK, hW⟩ := hv
  have hx := B.exec
  have hb := B.bytes
  have hr := B.returns
  have hts := atoms_spec (ws := wsX6_wide) B.pre
  have hown : s.vm.findClass RX6 = some m.cls := findClass_of_methodNamed B.named
  have hlocks := B.notSynchronized
  have hA : ∀ q, Aw G q → Aw G q := fun _ h => h
  have hS : va_S (Aw G) s.heap s.heap [] := va_S.rf
  have he0 : entryFrame m args 1 = F0 m 0 ((lg_sl ([.int p0]) ++ List.replicate (1 - (lg_sl ([.int p0])).length) Slot.unset).toArray) [] := by rw [hargs]; exact lg_entry_eq _ _ _
  have hl := lv_entry ([.int p0]) (n := 1) (Nat.le_of_ble_eq_true rfl)
  rw [he0]
  generalize (lg_sl ([.int p0]) ++ List.replicate (1 - (lg_sl ([.int p0])).length) Slot.unset).toArray = ls at hl ⊢
  have hl : lv_has ls 1 [(0, .int p0)] := hl
  unfold f6_wide at h
  refine lv_bipush (v := 64) hx hb dX6_wide_0 (by decide) ?_
  refine lv_iload_n hx hb dX6_wide_2 rfl (lv_at hl 0 rfl) ?_
  refine lv_iconst (v := 1) hx hb dX6_wide_3 (by decide) ?_
  refine lv_iadd hx hb dX6_wide_4 ?_
  refine lv_iconst (v := 2) hx hb dX6_wide_5 (by decide) ?_
  refine lv_idiv hx hb dX6_wide_6 (by decide) ?_
  refine lv_ishr hx hb dX6_wide_7 ?_
  obtain rfl := Option.some.inj h
  exact W.iret hx hb hr (fun t ht hw => ⟨⟨_, (), rfl, rfl, hW.ret ht⟩, hS.F ht⟩) hS.2.2 dX6_wide_8
abbrev rX6_high : Room := { frames := 0, cells := 0, slots := 0, locals := 0 }
set_option maxRecDepth 100000 in
set_option maxHeartbeats 8000000 in
theorem tX6_high (l : Launch) (G : WG) (S0 M0 : St) (p0 : Int32) (rr : Int32) (h : f6_high p0 = some (rr)) : CtI l yX6_high wsX6_high rX6_high G [.int p0] S0 M0 rr S0 M0 := by
  refine Met.ofW (cc := cX6_high) (maxL := 1) (ret := (some .int)) (by decide) rfl ?_
  intro p e s m args below meth cd s₁ B hml hv
  obtain ⟨hargs, hK, hW⟩ := hv
  have hx := B.exec
  have hb := B.bytes
  have hr := B.returns
  have hts := atoms_spec (ws := wsX6_high) B.pre
  have hown : s.vm.findClass RX6 = some m.cls := findClass_of_methodNamed B.named
  have hlocks := B.notSynchronized
  have hA : ∀ q, Aw G q → Aw G q := fun _ h => h
  have hS : va_S (Aw G) s.heap s.heap [] := va_S.rf
  have he0 : entryFrame m args 1 = F0 m 0 ((lg_sl ([.int p0]) ++ List.replicate (1 - (lg_sl ([.int p0])).length) Slot.unset).toArray) [] := by rw [hargs]; exact lg_entry_eq _ _ _
  have hl := lv_entry ([.int p0]) (n := 1) (Nat.le_of_ble_eq_true rfl)
  rw [he0]
  generalize (lg_sl ([.int p0]) ++ List.replicate (1 - (lg_sl ([.int p0])).length) Slot.unset).toArray = ls at hl ⊢
  have hl : lv_has ls 1 [(0, .int p0)] := hl
  unfold f6_high at h
  refine lv_bipush (v := 64) hx hb dX6_high_0 (by decide) ?_
  refine lv_iload_n hx hb dX6_high_2 rfl (lv_at hl 0 rfl) ?_
  refine lv_iconst (v := 2) hx hb dX6_high_3 (by decide) ?_
  refine lv_idiv hx hb dX6_high_4 (by decide) ?_
  refine lv_ishr hx hb dX6_high_5 ?_
  obtain rfl := Option.some.inj h
  exact W.iret hx hb hr (fun t ht hw => ⟨⟨_, (), rfl, rfl, hW.ret ht⟩, hS.F ht⟩) hS.2.2 dX6_high_6
abbrev rX6_lastX : Room := { frames := 1, cells := 0, slots := 0, locals := 22 }
set_option maxRecDepth 100000 in
set_option maxHeartbeats 8000000 in
theorem tX6_lastX (l : Launch) (G : WG) (S0 M0 : St) (p1 : Int32) (rr : Int32) (h : f6_lastX M0 p1 = some (rr)) : CtI l yX6_lastX wsX6_lastX rX6_lastX G [.ref (gad G 159), .int p1] S0 M0 rr S0 M0 := by
  refine Met.ofW (cc := cX6_lastX) (maxL := 2) (ret := (some .int)) (by decide) rfl ?_
  intro p e s m args below meth cd s₁ B hml hv
  obtain ⟨hargs, hK, hW⟩ := hv
  have hx := B.exec
  have hb := B.bytes
  have hr := B.returns
  have hts := atoms_spec (ws := wsX6_lastX) B.pre
  have hown : s.vm.findClass RX6 = some m.cls := findClass_of_methodNamed B.named
  have hlocks := B.notSynchronized
  have hA : ∀ q, Aw G q → Aw G q := fun _ h => h
  have hS : va_S (Aw G) s.heap s.heap [] := va_S.rf
  have he0 : entryFrame m args 2 = F0 m 0 ((lg_sl ([.ref (gad G 159), .int p1]) ++ List.replicate (2 - (lg_sl ([.ref (gad G 159), .int p1])).length) Slot.unset).toArray) [] := by rw [hargs]; exact lg_entry_eq _ _ _
  have hl := lv_entry ([.ref (gad G 159), .int p1]) (n := 2) (Nat.le_of_ble_eq_true rfl)
  rw [he0]
  generalize (lg_sl ([.ref (gad G 159), .int p1]) ++ List.replicate (2 - (lg_sl ([.ref (gad G 159), .int p1])).length) Slot.unset).toArray = ls at hl ⊢
  have hl : lv_has ls 2 [(0, .ref (gad G 159)), (1, .int p1)] := hl
  unfold f6_lastX at h
  refine lv_aload_n hx hb dX6_lastX_0 rfl (lv_at hl 0 rfl) ?_
  refine lv_iload_n hx hb dX6_lastX_1 rfl (lv_at hl 1 rfl) ?_
  refine lv_iconst (v := 1) hx hb dX6_lastX_2 (by decide) ?_
  obtain ⟨r_1, e_2, h⟩ := bnd_e h
  refine kV_I (As := [.int p1, .int 1]) (rest := []) ⟨hx, hb, hml, hown, hts⟩ (tX6_ofPlot l G S0 M0 p1 1 r_1 e_2) (cwV 2 hts gX6_lastX_X6_ofPlot rfl rfl rfl ⟨rfl, hdX6_ofPlot⟩ ⟨Nat.le_of_ble_eq_true rfl, Nat.le_of_ble_eq_true rfl⟩) (va_recv hK.1 hW.1 (ci := 6) (q0 := 159) rfl lkM) hK hW hS hA rfl hl.1 rfl (Nat.le_of_ble_eq_true rfl) dX6_lastX_3 ⟨Nat.zero_le _, Nat.zero_le _⟩ (fun H locs hW hS => ?_)
  refine lv_aload_n hx hb dX6_lastX_6 rfl (lv_at hl 0 rfl) ?_
  refine lv_iload_n hx hb dX6_lastX_7 rfl (lv_at hl 1 rfl) ?_
  refine lv_iconst (v := 0) hx hb dX6_lastX_8 (by decide) ?_
  obtain ⟨r_3, e_4, h⟩ := bnd_e h
  refine kV_I (As := [.int p1, .int 0]) (rest := [.int r_1]) ⟨hx, hb, hml, hown, hts⟩ (tX6_ofPlot l G S0 M0 p1 0 r_3 e_4) (cwV 2 hts gX6_lastX_X6_ofPlot rfl rfl rfl ⟨rfl, hdX6_ofPlot⟩ ⟨Nat.le_of_ble_eq_true rfl, Nat.le_of_ble_eq_true rfl⟩) (va_recv hK.1 hW.1 (ci := 6) (q0 := 159) rfl lkM) hK hW hS hA rfl hl.1 rfl (Nat.le_of_ble_eq_true rfl) dX6_lastX_9 ⟨Nat.zero_le _, Nat.zero_le _⟩ (fun H locs hW hS => ?_)
  obtain ⟨r_5, e_6, h⟩ := bnd_e h
  refine kS_I (As := [.int r_3]) (rest := [.int r_1]) ⟨hx, hb, hml, hown, hts⟩ (tX6_wide l G S0 M0 r_3 r_5 e_6) (va_cwS 1 hts gX6_lastX_X6_wide rfl rfl rfl hdX6_wide ⟨Nat.le_of_ble_eq_true rfl, Nat.le_of_ble_eq_true rfl⟩) hK hW hS hA rfl hl.1 rfl (Nat.le_of_ble_eq_true rfl) dX6_lastX_12 ⟨Nat.zero_le _, Nat.zero_le _⟩ (fun H locs hW hS => ?_)
  refine lv_iadd hx hb dX6_lastX_15 ?_
  refine lv_iconst (v := 1) hx hb dX6_lastX_16 (by decide) ?_
  refine lv_isub hx hb dX6_lastX_17 ?_
  obtain rfl := Option.some.inj h
  exact W.iret hx hb hr (fun t ht hw => ⟨⟨_, (), rfl, rfl, hW.ret ht⟩, hS.F ht⟩) hS.2.2 dX6_lastX_18
abbrev rX6_lastY : Room := { frames := 1, cells := 0, slots := 0, locals := 22 }
set_option maxRecDepth 100000 in
set_option maxHeartbeats 8000000 in
theorem tX6_lastY (l : Launch) (G : WG) (S0 M0 : St) (p1 : Int32) (rr : Int32) (h : f6_lastY M0 p1 = some (rr)) : CtI l yX6_lastY wsX6_lastY rX6_lastY G [.ref (gad G 159), .int p1] S0 M0 rr S0 M0 := by
  refine Met.ofW (cc := cX6_lastY) (maxL := 2) (ret := (some .int)) (by decide) rfl ?_
  intro p e s m args below meth cd s₁ B hml hv
  obtain ⟨hargs, hK, hW⟩ := hv
  have hx := B.exec
  have hb := B.bytes
  have hr := B.returns
  have hts := atoms_spec (ws := wsX6_lastY) B.pre
  have hown : s.vm.findClass RX6 = some m.cls := findClass_of_methodNamed B.named
  have hlocks := B.notSynchronized
  have hA : ∀ q, Aw G q → Aw G q := fun _ h => h
  have hS : va_S (Aw G) s.heap s.heap [] := va_S.rf
  have he0 : entryFrame m args 2 = F0 m 0 ((lg_sl ([.ref (gad G 159), .int p1]) ++ List.replicate (2 - (lg_sl ([.ref (gad G 159), .int p1])).length) Slot.unset).toArray) [] := by rw [hargs]; exact lg_entry_eq _ _ _
  have hl := lv_entry ([.ref (gad G 159), .int p1]) (n := 2) (Nat.le_of_ble_eq_true rfl)
  rw [he0]
  generalize (lg_sl ([.ref (gad G 159), .int p1]) ++ List.replicate (2 - (lg_sl ([.ref (gad G 159), .int p1])).length) Slot.unset).toArray = ls at hl ⊢
  have hl : lv_has ls 2 [(0, .ref (gad G 159)), (1, .int p1)] := hl
  unfold f6_lastY at h
  refine lv_aload_n hx hb dX6_lastY_0 rfl (lv_at hl 0 rfl) ?_
  refine lv_iload_n hx hb dX6_lastY_1 rfl (lv_at hl 1 rfl) ?_
  refine lv_iconst (v := 2) hx hb dX6_lastY_2 (by decide) ?_
  obtain ⟨r_1, e_2, h⟩ := bnd_e h
  refine kV_I (As := [.int p1, .int 2]) (rest := []) ⟨hx, hb, hml, hown, hts⟩ (tX6_ofPlot l G S0 M0 p1 2 r_1 e_2) (cwV 2 hts gX6_lastY_X6_ofPlot rfl rfl rfl ⟨rfl, hdX6_ofPlot⟩ ⟨Nat.le_of_ble_eq_true rfl, Nat.le_of_ble_eq_true rfl⟩) (va_recv hK.1 hW.1 (ci := 6) (q0 := 159) rfl lkM) hK hW hS hA rfl hl.1 rfl (Nat.le_of_ble_eq_true rfl) dX6_lastY_3 ⟨Nat.zero_le _, Nat.zero_le _⟩ (fun H locs hW hS => ?_)
  refine lv_aload_n hx hb dX6_lastY_6 rfl (lv_at hl 0 rfl) ?_
  refine lv_iload_n hx hb dX6_lastY_7 rfl (lv_at hl 1 rfl) ?_
  refine lv_iconst (v := 0) hx hb dX6_lastY_8 (by decide) ?_
  obtain ⟨r_3, e_4, h⟩ := bnd_e h
  refine kV_I (As := [.int p1, .int 0]) (rest := [.int r_1]) ⟨hx, hb, hml, hown, hts⟩ (tX6_ofPlot l G S0 M0 p1 0 r_3 e_4) (cwV 2 hts gX6_lastY_X6_ofPlot rfl rfl rfl ⟨rfl, hdX6_ofPlot⟩ ⟨Nat.le_of_ble_eq_true rfl, Nat.le_of_ble_eq_true rfl⟩) (va_recv hK.1 hW.1 (ci := 6) (q0 := 159) rfl lkM) hK hW hS hA rfl hl.1 rfl (Nat.le_of_ble_eq_true rfl) dX6_lastY_9 ⟨Nat.zero_le _, Nat.zero_le _⟩ (fun H locs hW hS => ?_)
  obtain ⟨r_5, e_6, h⟩ := bnd_e h
  refine kS_I (As := [.int r_3]) (rest := [.int r_1]) ⟨hx, hb, hml, hown, hts⟩ (tX6_high l G S0 M0 r_3 r_5 e_6) (va_cwS 1 hts gX6_lastY_X6_high rfl rfl rfl hdX6_high ⟨Nat.le_of_ble_eq_true rfl, Nat.le_of_ble_eq_true rfl⟩) hK hW hS hA rfl hl.1 rfl (Nat.le_of_ble_eq_true rfl) dX6_lastY_12 ⟨Nat.zero_le _, Nat.zero_le _⟩ (fun H locs hW hS => ?_)
  refine lv_iadd hx hb dX6_lastY_15 ?_
  refine lv_iconst (v := 1) hx hb dX6_lastY_16 (by decide) ?_
  refine lv_isub hx hb dX6_lastY_17 ?_
  obtain rfl := Option.some.inj h
  exact W.iret hx hb hr (fun t ht hw => ⟨⟨_, (), rfl, rfl, hW.ret ht⟩, hS.F ht⟩) hS.2.2 dX6_lastY_18
abbrev rX6_area : Room := { frames := 1, cells := 0, slots := 0, locals := 22 }
set_option maxRecDepth 100000 in
set_option maxHeartbeats 8000000 in
theorem tX6_area (l : Launch) (G : WG) (S0 M0 : St) (p1 : Int32) (rr : Int32) (h : f6_area M0 p1 = some (rr)) : CtI l yX6_area wsX6_area rX6_area G [.ref (gad G 159), .int p1] S0 M0 rr S0 M0 := by
  refine Met.ofW (cc := cX6_area) (maxL := 2) (ret := (some .int)) (by decide) rfl ?_
  intro p e s m args below meth cd s₁ B hml hv
  obtain ⟨hargs, hK, hW⟩ := hv
  have hx := B.exec
  have hb := B.bytes
  have hr := B.returns
  have hts := atoms_spec (ws := wsX6_area) B.pre
  have hown : s.vm.findClass RX6 = some m.cls := findClass_of_methodNamed B.named
  have hlocks := B.notSynchronized
  have hA : ∀ q, Aw G q → Aw G q := fun _ h => h
  have hS : va_S (Aw G) s.heap s.heap [] := va_S.rf
  have he0 : entryFrame m args 2 = F0 m 0 ((lg_sl ([.ref (gad G 159), .int p1]) ++ List.replicate (2 - (lg_sl ([.ref (gad G 159), .int p1])).length) Slot.unset).toArray) [] := by rw [hargs]; exact lg_entry_eq _ _ _
  have hl := lv_entry ([.ref (gad G 159), .int p1]) (n := 2) (Nat.le_of_ble_eq_true rfl)
  rw [he0]
  generalize (lg_sl ([.ref (gad G 159), .int p1]) ++ List.replicate (2 - (lg_sl ([.ref (gad G 159), .int p1])).length) Slot.unset).toArray = ls at hl ⊢
  have hl : lv_has ls 2 [(0, .ref (gad G 159)), (1, .int p1)] := hl
  unfold f6_area at h
  refine lv_aload_n hx hb dX6_area_0 rfl (lv_at hl 0 rfl) ?_
  refine lv_iload_n hx hb dX6_area_1 rfl (lv_at hl 1 rfl) ?_
  refine lv_iconst (v := 0) hx hb dX6_area_2 (by decide) ?_
  obtain ⟨r_1, e_2, h⟩ := bnd_e h
  refine kV_I (As := [.int p1, .int 0]) (rest := []) ⟨hx, hb, hml, hown, hts⟩ (tX6_ofPlot l G S0 M0 p1 0 r_1 e_2) (cwV 2 hts gX6_area_X6_ofPlot rfl rfl rfl ⟨rfl, hdX6_ofPlot⟩ ⟨Nat.le_of_ble_eq_true rfl, Nat.le_of_ble_eq_true rfl⟩) (va_recv hK.1 hW.1 (ci := 6) (q0 := 159) rfl lkM) hK hW hS hA rfl hl.1 rfl (Nat.le_of_ble_eq_true rfl) dX6_area_3 ⟨Nat.zero_le _, Nat.zero_le _⟩ (fun H locs hW hS => ?_)
  obtain ⟨r_3, e_4, h⟩ := bnd_e h
  refine kS_I (As := [.int r_1]) (rest := []) ⟨hx, hb, hml, hown, hts⟩ (tX6_wide l G S0 M0 r_1 r_3 e_4) (va_cwS 1 hts gX6_area_X6_wide rfl rfl rfl hdX6_wide ⟨Nat.le_of_ble_eq_true rfl, Nat.le_of_ble_eq_true rfl⟩) hK hW hS hA rfl hl.1 rfl (Nat.le_of_ble_eq_true rfl) dX6_area_6 ⟨Nat.zero_le _, Nat.zero_le _⟩ (fun H locs hW hS => ?_)
  refine lv_aload_n hx hb dX6_area_9 rfl (lv_at hl 0 rfl) ?_
  refine lv_iload_n hx hb dX6_area_10 rfl (lv_at hl 1 rfl) ?_
  refine lv_iconst (v := 0) hx hb dX6_area_11 (by decide) ?_
  obtain ⟨r_5, e_6, h⟩ := bnd_e h
  refine kV_I (As := [.int p1, .int 0]) (rest := [.int r_3]) ⟨hx, hb, hml, hown, hts⟩ (tX6_ofPlot l G S0 M0 p1 0 r_5 e_6) (cwV 2 hts gX6_area_X6_ofPlot rfl rfl rfl ⟨rfl, hdX6_ofPlot⟩ ⟨Nat.le_of_ble_eq_true rfl, Nat.le_of_ble_eq_true rfl⟩) (va_recv hK.1 hW.1 (ci := 6) (q0 := 159) rfl lkM) hK hW hS hA rfl hl.1 rfl (Nat.le_of_ble_eq_true rfl) dX6_area_12 ⟨Nat.zero_le _, Nat.zero_le _⟩ (fun H locs hW hS => ?_)
  obtain ⟨r_7, e_8, h⟩ := bnd_e h
  refine kS_I (As := [.int r_5]) (rest := [.int r_3]) ⟨hx, hb, hml, hown, hts⟩ (tX6_high l G S0 M0 r_5 r_7 e_8) (va_cwS 1 hts gX6_area_X6_high rfl rfl rfl hdX6_high ⟨Nat.le_of_ble_eq_true rfl, Nat.le_of_ble_eq_true rfl⟩) hK hW hS hA rfl hl.1 rfl (Nat.le_of_ble_eq_true rfl) dX6_area_15 ⟨Nat.zero_le _, Nat.zero_le _⟩ (fun H locs hW hS => ?_)
  refine lv_imul hx hb dX6_area_18 ?_
  obtain rfl := Option.some.inj h
  exact W.iret hx hb hr (fun t ht hw => ⟨⟨_, (), rfl, rfl, hW.ret ht⟩, hS.F ht⟩) hS.2.2 dX6_area_19
abbrev rX6_has : Room := { frames := 2, cells := 0, slots := 0, locals := 43 }
set_option maxRecDepth 100000 in
set_option maxHeartbeats 8000000 in
theorem tX6_has (l : Launch) (G : WG) (S0 M0 : St) (p1 : Int32) (p2 : Int32) (p3 : Int32) (rr : Int32) (h : f6_has M0 p1 p2 p3 = some (rr)) : CtI l yX6_has wsX6_has rX6_has G [.ref (gad G 159), .int p1, .int p2, .int p3] S0 M0 rr S0 M0 := by
  refine Met.ofW (cc := cX6_has) (maxL := 4) (ret := (some .boolean)) (by decide) rfl ?_
  intro p e s m args below meth cd s₁ B hml hv
  obtain ⟨hargs, hK, hW⟩ := hv
  have hx := B.exec
  have hb := B.bytes
  have hr := B.returns
  have hts := atoms_spec (ws := wsX6_has) B.pre
  have hown : s.vm.findClass RX6 = some m.cls := findClass_of_methodNamed B.named
  have hlocks := B.notSynchronized
  have hA : ∀ q, Aw G q → Aw G q := fun _ h => h
  have hS : va_S (Aw G) s.heap s.heap [] := va_S.rf
  have he0 : entryFrame m args 4 = F0 m 0 ((lg_sl ([.ref (gad G 159), .int p1, .int p2, .int p3]) ++ List.replicate (4 - (lg_sl ([.ref (gad G 159), .int p1, .int p2, .int p3])).length) Slot.unset).toArray) [] := by rw [hargs]; exact lg_entry_eq _ _ _
  have hl := lv_entry ([.ref (gad G 159), .int p1, .int p2, .int p3]) (n := 4) (Nat.le_of_ble_eq_true rfl)
  rw [he0]
  generalize (lg_sl ([.ref (gad G 159), .int p1, .int p2, .int p3]) ++ List.replicate (4 - (lg_sl ([.ref (gad G 159), .int p1, .int p2, .int p3])).length) Slot.unset).toArray = ls at hl ⊢
  have hl : lv_has ls 4 [(0, .ref (gad G 159)), (1, .int p1), (2, .int p2), (3, .int p3)] := hl
  have B41 : ∀ (H : Heap) (locs : List Loc) (_ : WD G S0 M0 H) (_ : va_S (Aw G) s.heap H locs) (ls : Array Slot) (k0 : Int32) (_ : lv_has ls 4 []) (h : f6_has_b41 M0 k0 = some (rr)), WI p l e (headSpec wsX6_has rX6_has).room s m args below meth cd G rr S0 M0 H locs (F0 m 41 ls [.int k0]) := by
    intro H locs hW hS ls k0 hl h
    unfold f6_has_b41 at h
    obtain ⟨z_1, h⟩ := isz_e h
    obtain rfl := Option.some.inj h
    exact W.zret (ty := .boolean) hx hb hr (nz_1 z_1) (fun t ht hw => ⟨⟨_, (), rfl, rfl, hW.ret ht⟩, hS.F ht⟩) hS.2.2 dX6_has_41
  have B40 : ∀ (H : Heap) (locs : List Loc) (_ : WD G S0 M0 H) (_ : va_S (Aw G) s.heap H locs) (ls : Array Slot) (_ : lv_has ls 4 []) (h : f6_has_b40 M0  = some (rr)), WI p l e (headSpec wsX6_has rX6_has).room s m args below meth cd G rr S0 M0 H locs (F0 m 40 ls []) := by
    intro H locs hW hS ls hl h
    unfold f6_has_b40 at h
    refine lv_iconst (v := 0) hx hb dX6_has_40 (by decide) ?_
    exact B41 _ _ hW hS ls 0 (lv_sub hl [] rfl) h
  unfold f6_has at h
  refine lv_iload_n hx hb dX6_has_0 rfl (lv_at hl 2 rfl) ?_
  refine lv_aload_n hx hb dX6_has_1 rfl (lv_at hl 0 rfl) ?_
  refine lv_iload_n hx hb dX6_has_2 rfl (lv_at hl 1 rfl) ?_
  refine lv_iconst (v := 1) hx hb dX6_has_3 (by decide) ?_
  obtain ⟨r_1, e_2, h⟩ := bnd_e h
  refine kV_I (As := [.int p1, .int 1]) (rest := [.int p2]) ⟨hx, hb, hml, hown, hts⟩ (tX6_ofPlot l G S0 M0 p1 1 r_1 e_2) (cwV 2 hts gX6_has_X6_ofPlot rfl rfl rfl ⟨rfl, hdX6_ofPlot⟩ ⟨Nat.le_of_ble_eq_true rfl, Nat.le_of_ble_eq_true rfl⟩) (va_recv hK.1 hW.1 (ci := 6) (q0 := 159) rfl lkM) hK hW hS hA rfl hl.1 rfl (Nat.le_of_ble_eq_true rfl) dX6_has_4 ⟨Nat.zero_le _, Nat.zero_le _⟩ (fun H locs hW hS => ?_)
  refine lv_aload_n hx hb dX6_has_7 rfl (lv_at hl 0 rfl) ?_
  refine lv_iload_n hx hb dX6_has_8 rfl (lv_at hl 1 rfl) ?_
  obtain ⟨r_3, e_4, h⟩ := bnd_e h
  refine kV_I (As := [.int p1]) (rest := [.int r_1, .int p2]) ⟨hx, hb, hml, hown, hts⟩ (tX6_lastX l G S0 M0 p1 r_3 e_4) (cwV 1 hts gX6_has_X6_lastX rfl rfl rfl ⟨rfl, hdX6_lastX⟩ ⟨Nat.le_of_ble_eq_true rfl, Nat.le_of_ble_eq_true rfl⟩) (va_recv hK.1 hW.1 (ci := 6) (q0 := 159) rfl lkM) hK hW hS hA rfl hl.1 rfl (Nat.le_of_ble_eq_true rfl) dX6_has_9 ⟨Nat.zero_le _, Nat.zero_le _⟩ (fun H locs hW hS => ?_)
  obtain ⟨r_5, e_6, h⟩ := bnd_e h
  refine kS_I (As := [.int p2, .int r_1, .int r_3]) (rest := []) ⟨hx, hb, hml, hown, hts⟩ (tX6_in l G S0 M0 p2 r_1 r_3 r_5 e_6) (va_cwS 3 hts gX6_has_X6_in rfl rfl rfl hdX6_in ⟨Nat.le_of_ble_eq_true rfl, Nat.le_of_ble_eq_true rfl⟩) hK hW hS hA rfl hl.1 rfl (Nat.le_of_ble_eq_true rfl) dX6_has_12 ⟨Nat.zero_le _, Nat.zero_le _⟩ (fun H locs hW hS => ?_)
  refine lv_if_eq (tgt := 40) hx hb dX6_has_15 (by decide) (fun c_7 => ?_) (fun c_7 => ?_)
  · have h := ite_t c_7 h
    exact B40 _ _ hW hS ls (lv_sub hl [] rfl) h
  · have h := ite_f c_7 h
    refine lv_iload_n hx hb dX6_has_18 rfl (lv_at hl 3 rfl) ?_
    refine lv_aload_n hx hb dX6_has_19 rfl (lv_at hl 0 rfl) ?_
    refine lv_iload_n hx hb dX6_has_20 rfl (lv_at hl 1 rfl) ?_
    refine lv_iconst (v := 2) hx hb dX6_has_21 (by decide) ?_
    obtain ⟨r_8, e_9, h⟩ := bnd_e h
    refine kV_I (As := [.int p1, .int 2]) (rest := [.int p3]) ⟨hx, hb, hml, hown, hts⟩ (tX6_ofPlot l G S0 M0 p1 2 r_8 e_9) (cwV 2 hts gX6_has_X6_ofPlot rfl rfl rfl ⟨rfl, hdX6_ofPlot⟩ ⟨Nat.le_of_ble_eq_true rfl, Nat.le_of_ble_eq_true rfl⟩) (va_recv hK.1 hW.1 (ci := 6) (q0 := 159) rfl lkM) hK hW hS hA rfl hl.1 rfl (Nat.le_of_ble_eq_true rfl) dX6_has_22 ⟨Nat.zero_le _, Nat.zero_le _⟩ (fun H locs hW hS => ?_)
    refine lv_aload_n hx hb dX6_has_25 rfl (lv_at hl 0 rfl) ?_
    refine lv_iload_n hx hb dX6_has_26 rfl (lv_at hl 1 rfl) ?_
    obtain ⟨r_10, e_11, h⟩ := bnd_e h
    refine kV_I (As := [.int p1]) (rest := [.int r_8, .int p3]) ⟨hx, hb, hml, hown, hts⟩ (tX6_lastY l G S0 M0 p1 r_10 e_11) (cwV 1 hts gX6_has_X6_lastY rfl rfl rfl ⟨rfl, hdX6_lastY⟩ ⟨Nat.le_of_ble_eq_true rfl, Nat.le_of_ble_eq_true rfl⟩) (va_recv hK.1 hW.1 (ci := 6) (q0 := 159) rfl lkM) hK hW hS hA rfl hl.1 rfl (Nat.le_of_ble_eq_true rfl) dX6_has_27 ⟨Nat.zero_le _, Nat.zero_le _⟩ (fun H locs hW hS => ?_)
    obtain ⟨r_12, e_13, h⟩ := bnd_e h
    refine kS_I (As := [.int p3, .int r_8, .int r_10]) (rest := []) ⟨hx, hb, hml, hown, hts⟩ (tX6_in l G S0 M0 p3 r_8 r_10 r_12 e_13) (va_cwS 3 hts gX6_has_X6_in rfl rfl rfl hdX6_in ⟨Nat.le_of_ble_eq_true rfl, Nat.le_of_ble_eq_true rfl⟩) hK hW hS hA rfl hl.1 rfl (Nat.le_of_ble_eq_true rfl) dX6_has_30 ⟨Nat.zero_le _, Nat.zero_le _⟩ (fun H locs hW hS => ?_)
    refine lv_if_eq (tgt := 40) hx hb dX6_has_33 (by decide) (fun c_14 => ?_) (fun c_14 => ?_)
    · have h := ite_t c_14 h
      exact B40 _ _ hW hS ls (lv_sub hl [] rfl) h
    · have h := ite_f c_14 h
      refine lv_iconst (v := 1) hx hb dX6_has_36 (by decide) ?_
      refine lv_goto (tgt := 41) hx hb dX6_has_37 (by decide) ?_
      exact B41 _ _ hW hS ls 1 (lv_sub hl [] rfl) h
abbrev rX6_plotAt : Room := { frames := 3, cells := 0, slots := 0, locals := 66 }
set_option maxRecDepth 100000 in
set_option maxHeartbeats 8000000 in
theorem tX6_plotAt (l : Launch) (G : WG) (S0 M0 : St) (p1 : Int32) (p2 : Int32) (rr : Int32) (h : f6_plotAt M0 p1 p2 = some (rr)) : CtI l yX6_plotAt wsX6_plotAt rX6_plotAt G [.ref (gad G 159), .int p1, .int p2] S0 M0 rr S0 M0 := by
  refine Met.ofW (cc := cX6_plotAt) (maxL := 4) (ret := (some .int)) (by decide) rfl ?_
  intro p e s m args below meth cd s₁ B hml hv
  obtain ⟨hargs, hK, hW⟩ := hv
  have hx := B.exec
  have hb := B.bytes
  have hr := B.returns
  have hts := atoms_spec (ws := wsX6_plotAt) B.pre
  have hown : s.vm.findClass RX6 = some m.cls := findClass_of_methodNamed B.named
  have hlocks := B.notSynchronized
  have hA : ∀ q, Aw G q → Aw G q := fun _ h => h
  have hS : va_S (Aw G) s.heap s.heap [] := va_S.rf
  have he0 : entryFrame m args 4 = F0 m 0 ((lg_sl ([.ref (gad G 159), .int p1, .int p2]) ++ List.replicate (4 - (lg_sl ([.ref (gad G 159), .int p1, .int p2])).length) Slot.unset).toArray) [] := by rw [hargs]; exact lg_entry_eq _ _ _
  have hl := lv_entry ([.ref (gad G 159), .int p1, .int p2]) (n := 4) (Nat.le_of_ble_eq_true rfl)
  rw [he0]
  generalize (lg_sl ([.ref (gad G 159), .int p1, .int p2]) ++ List.replicate (4 - (lg_sl ([.ref (gad G 159), .int p1, .int p2])).length) Slot.unset).toArray = ls at hl ⊢
  have hl : lv_has ls 4 [(0, .ref (gad G 159)), (1, .int p1), (2, .int p2)] := hl
  have B2 : ∀ (n : Nat), ∀ (H : Heap) (locs : List Loc) (_ : WD G S0 M0 H) (_ : va_S (Aw G) s.heap H locs) (ls : Array Slot) (l1 : Int32) (l2 : Int32) (l3 : Int32) (_ : lv_has ls 4 [(0, .ref (gad G 159)), (1, .int l1), (2, .int l2), (3, .int l3)]) (h : f6_plotAt_b2 M0 l1 l2 n l3 = some (rr)), WI p l e (headSpec wsX6_plotAt rX6_plotAt).room s m args below meth cd G rr S0 M0 H locs (F0 m 2 ls []) := by
    intro n
    induction n with
    | zero => intro H locs hW hS ls l1 l2 l3 hl h; cases (show (none : Option (Int32)) = some _ from h)
    | succ n ih =>
      intro H locs hW hS ls l1 l2 l3 hl h
      rw [f6_plotAt_b2] at h
      refine lv_aload_n hx hb dX6_plotAt_2 rfl (lv_at hl 0 rfl) ?_
      refine lv_iload_n hx hb dX6_plotAt_3 rfl (lv_at hl 3 rfl) ?_
      refine lv_iload_n hx hb dX6_plotAt_4 rfl (lv_at hl 1 rfl) ?_
      refine lv_iload_n hx hb dX6_plotAt_5 rfl (lv_at hl 2 rfl) ?_
      obtain ⟨r_1, e_2, h⟩ := bnd_e h
      refine kV_I (As := [.int l3, .int l1, .int l2]) (rest := []) ⟨hx, hb, hml, hown, hts⟩ (tX6_has l G S0 M0 l3 l1 l2 r_1 e_2) (cwV 3 hts gX6_plotAt_X6_has rfl rfl rfl ⟨rfl, hdX6_has⟩ ⟨Nat.le_of_ble_eq_true rfl, Nat.le_of_ble_eq_true rfl⟩) (va_recv hK.1 hW.1 (ci := 6) (q0 := 159) rfl lkM) hK hW hS hA rfl hl.1 rfl (Nat.le_of_ble_eq_true rfl) dX6_plotAt_6 ⟨Nat.zero_le _, Nat.zero_le _⟩ (fun H locs hW hS => ?_)
      refine lv_if_ne (tgt := 18) hx hb dX6_plotAt_9 (by decide) (fun c_3 => ?_) (fun c_3 => ?_)
      · have h := ite_f c_3 h
        refine lv_iload_n hx hb dX6_plotAt_18 rfl (lv_at hl 3 rfl) ?_
        obtain rfl := Option.some.inj h
        exact W.iret hx hb hr (fun t ht hw => ⟨⟨_, (), rfl, rfl, hW.ret ht⟩, hS.F ht⟩) hS.2.2 dX6_plotAt_19
      · have h := ite_t c_3 h
        refine lv_iinc (v := (l3 + 1)) (lv' := [(3, .int ((l3 + 1))), (0, .ref (gad G 159)), (1, .int l1), (2, .int l2)]) hx hb dX6_plotAt_12 hl (k := 3) rfl rfl (by decide) rfl (fun ls hl => ?_)
        refine lv_goto (tgt := 2) hx hb dX6_plotAt_15 (by decide) ?_
        exact ih _ _ hW hS ls l1 l2 ((l3 + 1)) (lv_sub hl [1, 2, 3, 0] rfl) h
  unfold f6_plotAt at h
  refine lv_iconst (v := 0) hx hb dX6_plotAt_0 (by decide) ?_
  refine lv_istore_n (lv' := [(3, .int 0), (0, .ref (gad G 159)), (1, .int p1), (2, .int p2)]) hx hb dX6_plotAt_1 rfl hl (by decide) rfl (fun ls hl => ?_)
  exact B2 fuelN _ _ hW hS ls p1 p2 0 (lv_sub hl [1, 2, 3, 0] rfl) h
abbrev rX6_overlap : Room := { frames := 0, cells := 0, slots := 0, locals := 0 }
set_option maxRecDepth 100000 in
set_option maxHeartbeats 8000000 in
theorem tX6_overlap (l : Launch) (G : WG) (S0 M0 : St) (p0 : Int32) (p1 : Int32) (p2 : Int32) (p3 : Int32) (rr : Int32) (h : f6_overlap p0 p1 p2 p3 = some (rr)) : CtI l yX6_overlap wsX6_overlap rX6_overlap G [.int p0, .int p1, .int p2, .int p3] S0 M0 rr S0 M0 := by
  refine Met.ofW (cc := cX6_overlap) (maxL := 4) (ret := (some .boolean)) (by decide) rfl ?_
  intro p e s m args below meth cd s₁ B hml hv
  obtain ⟨hargs, hK, hW⟩ := hv
  have hx := B.exec
  have hb := B.bytes
  have hr := B.returns
  have hts := atoms_spec (ws := wsX6_overlap) B.pre
  have hown : s.vm.findClass RX6 = some m.cls := findClass_of_methodNamed B.named
  have hlocks := B.notSynchronized
  have hA : ∀ q, Aw G q → Aw G q := fun _ h => h
  have hS : va_S (Aw G) s.heap s.heap [] := va_S.rf
  have he0 : entryFrame m args 4 = F0 m 0 ((lg_sl ([.int p0, .int p1, .int p2, .int p3]) ++ List.replicate (4 - (lg_sl ([.int p0, .int p1, .int p2, .int p3])).length) Slot.unset).toArray) [] := by rw [hargs]; exact lg_entry_eq _ _ _
  have hl := lv_entry ([.int p0, .int p1, .int p2, .int p3]) (n := 4) (Nat.le_of_ble_eq_true rfl)
  rw [he0]
  generalize (lg_sl ([.int p0, .int p1, .int p2, .int p3]) ++ List.replicate (4 - (lg_sl ([.int p0, .int p1, .int p2, .int p3])).length) Slot.unset).toArray = ls at hl ⊢
  have hl : lv_has ls 4 [(0, .int p0), (1, .int p1), (2, .int p2), (3, .int p3)] := hl
  have B15 : ∀ (H : Heap) (locs : List Loc) (_ : WD G S0 M0 H) (_ : va_S (Aw G) s.heap H locs) (ls : Array Slot) (k0 : Int32) (_ : lv_has ls 4 []) (h : f6_overlap_b15  k0 = some (rr)), WI p l e (headSpec wsX6_overlap rX6_overlap).room s m args below meth cd G rr S0 M0 H locs (F0 m 15 ls [.int k0]) := by
    intro H locs hW hS ls k0 hl h
    unfold f6_overlap_b15 at h
    obtain ⟨z_1, h⟩ := isz_e h
    obtain rfl := Option.some.inj h
    exact W.zret (ty := .boolean) hx hb hr (nz_1 z_1) (fun t ht hw => ⟨⟨_, (), rfl, rfl, hW.ret ht⟩, hS.F ht⟩) hS.2.2 dX6_overlap_15
  have B14 : ∀ (H : Heap) (locs : List Loc) (_ : WD G S0 M0 H) (_ : va_S (Aw G) s.heap H locs) (ls : Array Slot) (_ : lv_has ls 4 []) (h : f6_overlap_b14   = some (rr)), WI p l e (headSpec wsX6_overlap rX6_overlap).room s m args below meth cd G rr S0 M0 H locs (F0 m 14 ls []) := by
    intro H locs hW hS ls hl h
    unfold f6_overlap_b14 at h
    refine lv_iconst (v := 0) hx hb dX6_overlap_14 (by decide) ?_
    exact B15 _ _ hW hS ls 0 (lv_sub hl [] rfl) h
  unfold f6_overlap at h
  refine lv_iload_n hx hb dX6_overlap_0 rfl (lv_at hl 0 rfl) ?_
  refine lv_iload_n hx hb dX6_overlap_1 rfl (lv_at hl 3 rfl) ?_
  refine lv_icmp_gt (tgt := 14) hx hb dX6_overlap_2 (by decide) (fun c_1 => ?_) (fun c_1 => ?_)
  · have h := ite_t c_1 h
    exact B14 _ _ hW hS ls (lv_sub hl [] rfl) h
  · have h := ite_f c_1 h
    refine lv_iload_n hx hb dX6_overlap_5 rfl (lv_at hl 2 rfl) ?_
    refine lv_iload_n hx hb dX6_overlap_6 rfl (lv_at hl 1 rfl) ?_
    refine lv_icmp_gt (tgt := 14) hx hb dX6_overlap_7 (by decide) (fun c_2 => ?_) (fun c_2 => ?_)
    · have h := ite_t c_2 h
      exact B14 _ _ hW hS ls (lv_sub hl [] rfl) h
    · have h := ite_f c_2 h
      refine lv_iconst (v := 1) hx hb dX6_overlap_10 (by decide) ?_
      refine lv_goto (tgt := 15) hx hb dX6_overlap_11 (by decide) ?_
      exact B15 _ _ hW hS ls 1 (lv_sub hl [] rfl) h
abbrev rX6_touch : Room := { frames := 2, cells := 0, slots := 0, locals := 43 }
set_option maxRecDepth 100000 in
set_option maxHeartbeats 8000000 in
theorem tX6_touch (l : Launch) (G : WG) (S0 M0 : St) (p1 : Int32) (p2 : Int32) (rr : Int32) (h : f6_touch M0 p1 p2 = some (rr)) : CtI l yX6_touch wsX6_touch rX6_touch G [.ref (gad G 159), .int p1, .int p2] S0 M0 rr S0 M0 := by
  refine Met.ofW (cc := cX6_touch) (maxL := 7) (ret := (some .boolean)) (by decide) rfl ?_
  intro p e s m args below meth cd s₁ B hml hv
  obtain ⟨hargs, hK, hW⟩ := hv
  have hx := B.exec
  have hb := B.bytes
  have hr := B.returns
  have hts := atoms_spec (ws := wsX6_touch) B.pre
  have hown : s.vm.findClass RX6 = some m.cls := findClass_of_methodNamed B.named
  have hlocks := B.notSynchronized
  have hA : ∀ q, Aw G q → Aw G q := fun _ h => h
  have hS : va_S (Aw G) s.heap s.heap [] := va_S.rf
  have he0 : entryFrame m args 7 = F0 m 0 ((lg_sl ([.ref (gad G 159), .int p1, .int p2]) ++ List.replicate (7 - (lg_sl ([.ref (gad G 159), .int p1, .int p2])).length) Slot.unset).toArray) [] := by rw [hargs]; exact lg_entry_eq _ _ _
  have hl := lv_entry ([.ref (gad G 159), .int p1, .int p2]) (n := 7) (Nat.le_of_ble_eq_true rfl)
  rw [he0]
  generalize (lg_sl ([.ref (gad G 159), .int p1, .int p2]) ++ List.replicate (7 - (lg_sl ([.ref (gad G 159), .int p1, .int p2])).length) Slot.unset).toArray = ls at hl ⊢
  have hl : lv_has ls 7 [(0, .ref (gad G 159)), (1, .int p1), (2, .int p2)] := hl
  have B155 : ∀ (H : Heap) (locs : List Loc) (_ : WD G S0 M0 H) (_ : va_S (Aw G) s.heap H locs) (ls : Array Slot) (k0 : Int32) (_ : lv_has ls 7 []) (h : f6_touch_b155 M0 k0 = some (rr)), WI p l e (headSpec wsX6_touch rX6_touch).room s m args below meth cd G rr S0 M0 H locs (F0 m 155 ls [.int k0]) := by
    intro H locs hW hS ls k0 hl h
    unfold f6_touch_b155 at h
    obtain ⟨z_1, h⟩ := isz_e h
    obtain rfl := Option.some.inj h
    exact W.zret (ty := .boolean) hx hb hr (nz_1 z_1) (fun t ht hw => ⟨⟨_, (), rfl, rfl, hW.ret ht⟩, hS.F ht⟩) hS.2.2 dX6_touch_155
  have B150 : ∀ (H : Heap) (locs : List Loc) (_ : WD G S0 M0 H) (_ : va_S (Aw G) s.heap H locs) (ls : Array Slot) (_ : lv_has ls 7 []) (h : f6_touch_b150 M0  = some (rr)), WI p l e (headSpec wsX6_touch rX6_touch).room s m args below meth cd G rr S0 M0 H locs (F0 m 150 ls []) := by
    intro H locs hW hS ls hl h
    unfold f6_touch_b150 at h
    refine lv_iconst (v := 1) hx hb dX6_touch_150 (by decide) ?_
    refine lv_goto (tgt := 155) hx hb dX6_touch_151 (by decide) ?_
    exact B155 _ _ hW hS ls 1 (lv_sub hl [] rfl) h
  have B154 : ∀ (H : Heap) (locs : List Loc) (_ : WD G S0 M0 H) (_ : va_S (Aw G) s.heap H locs) (ls : Array Slot) (_ : lv_has ls 7 []) (h : f6_touch_b154 M0  = some (rr)), WI p l e (headSpec wsX6_touch rX6_touch).room s m args below meth cd G rr S0 M0 H locs (F0 m 154 ls []) := by
    intro H locs hW hS ls hl h
    unfold f6_touch_b154 at h
    refine lv_iconst (v := 0) hx hb dX6_touch_154 (by decide) ?_
    exact B155 _ _ hW hS ls 0 (lv_sub hl [] rfl) h
  have B140 : ∀ (H : Heap) (locs : List Loc) (_ : WD G S0 M0 H) (_ : va_S (Aw G) s.heap H locs) (ls : Array Slot) (l4 : Int32) (l6 : Int32) (_ : lv_has ls 7 [(4, .int l4), (6, .int l6)]) (h : f6_touch_b140 M0 l4 l6 = some (rr)), WI p l e (headSpec wsX6_touch rX6_touch).room s m args below meth cd G rr S0 M0 H locs (F0 m 140 ls []) := by
    intro H locs hW hS ls l4 l6 hl h
    unfold f6_touch_b140 at h
    refine lv_iload hx hb dX6_touch_140 (lv_at hl 0 rfl) ?_
    refine lv_if_eq (tgt := 154) hx hb dX6_touch_142 (by decide) (fun c_1 => ?_) (fun c_1 => ?_)
    · have h := ite_t c_1 h
      exact B154 _ _ hW hS ls (lv_sub hl [] rfl) h
    · have h := ite_f c_1 h
      refine lv_iload hx hb dX6_touch_145 (lv_at hl 1 rfl) ?_
      refine lv_if_eq (tgt := 154) hx hb dX6_touch_147 (by decide) (fun c_2 => ?_) (fun c_2 => ?_)
      · have h := ite_t c_2 h
        exact B154 _ _ hW hS ls (lv_sub hl [] rfl) h
      · have h := ite_f c_2 h
        exact B150 _ _ hW hS ls (lv_sub hl [] rfl) h
  have B75 : ∀ (H : Heap) (locs : List Loc) (_ : WD G S0 M0 H) (_ : va_S (Aw G) s.heap H locs) (ls : Array Slot) (l1 : Int32) (l2 : Int32) (l3 : Int32) (k0 : Int32) (_ : lv_has ls 7 [(0, .ref (gad G 159)), (1, .int l1), (2, .int l2), (3, .int l3)]) (h : f6_touch_b75 M0 l1 l2 l3 k0 = some (rr)), WI p l e (headSpec wsX6_touch rX6_touch).room s m args below meth cd G rr S0 M0 H locs (F0 m 75 ls [.int k0]) := by
    intro H locs hW hS ls l1 l2 l3 k0 hl h
    unfold f6_touch_b75 at h
    refine lv_istore (lv' := [(4, .int k0), (0, .ref (gad G 159)), (1, .int l1), (2, .int l2), (3, .int l3)]) hx hb dX6_touch_75 hl (by decide) rfl (fun ls hl => ?_)
    refine lv_aload_n hx hb dX6_touch_77 rfl (lv_at hl 1 rfl) ?_
    refine lv_iload_n hx hb dX6_touch_78 rfl (lv_at hl 2 rfl) ?_
    refine lv_iconst (v := 2) hx hb dX6_touch_79 (by decide) ?_
    obtain ⟨r_1, e_2, h⟩ := bnd_e h
    refine kV_I (As := [.int l1, .int 2]) (rest := []) ⟨hx, hb, hml, hown, hts⟩ (tX6_ofPlot l G S0 M0 l1 2 r_1 e_2) (cwV 2 hts gX6_touch_X6_ofPlot rfl rfl rfl ⟨rfl, hdX6_ofPlot⟩ ⟨Nat.le_of_ble_eq_true rfl, Nat.le_of_ble_eq_true rfl⟩) (va_recv hK.1 hW.1 (ci := 6) (q0 := 159) rfl lkM) hK hW hS hA rfl hl.1 rfl (Nat.le_of_ble_eq_true rfl) dX6_touch_80 ⟨Nat.zero_le _, Nat.zero_le _⟩ (fun H locs hW hS => ?_)
    refine lv_aload_n hx hb dX6_touch_83 rfl (lv_at hl 1 rfl) ?_
    refine lv_iload_n hx hb dX6_touch_84 rfl (lv_at hl 2 rfl) ?_
    obtain ⟨r_3, e_4, h⟩ := bnd_e h
    refine kV_I (As := [.int l1]) (rest := [.int r_1]) ⟨hx, hb, hml, hown, hts⟩ (tX6_lastY l G S0 M0 l1 r_3 e_4) (cwV 1 hts gX6_touch_X6_lastY rfl rfl rfl ⟨rfl, hdX6_lastY⟩ ⟨Nat.le_of_ble_eq_true rfl, Nat.le_of_ble_eq_true rfl⟩) (va_recv hK.1 hW.1 (ci := 6) (q0 := 159) rfl lkM) hK hW hS hA rfl hl.1 rfl (Nat.le_of_ble_eq_true rfl) dX6_touch_85 ⟨Nat.zero_le _, Nat.zero_le _⟩ (fun H locs hW hS => ?_)
    refine lv_aload_n hx hb dX6_touch_88 rfl (lv_at hl 1 rfl) ?_
    refine lv_iload_n hx hb dX6_touch_89 rfl (lv_at hl 3 rfl) ?_
    refine lv_iconst (v := 2) hx hb dX6_touch_90 (by decide) ?_
    obtain ⟨r_5, e_6, h⟩ := bnd_e h
    refine kV_I (As := [.int l2, .int 2]) (rest := [.int r_3, .int r_1]) ⟨hx, hb, hml, hown, hts⟩ (tX6_ofPlot l G S0 M0 l2 2 r_5 e_6) (cwV 2 hts gX6_touch_X6_ofPlot rfl rfl rfl ⟨rfl, hdX6_ofPlot⟩ ⟨Nat.le_of_ble_eq_true rfl, Nat.le_of_ble_eq_true rfl⟩) (va_recv hK.1 hW.1 (ci := 6) (q0 := 159) rfl lkM) hK hW hS hA rfl hl.1 rfl (Nat.le_of_ble_eq_true rfl) dX6_touch_91 ⟨Nat.zero_le _, Nat.zero_le _⟩ (fun H locs hW hS => ?_)
    refine lv_aload_n hx hb dX6_touch_94 rfl (lv_at hl 1 rfl) ?_
    refine lv_iload_n hx hb dX6_touch_95 rfl (lv_at hl 3 rfl) ?_
    obtain ⟨r_7, e_8, h⟩ := bnd_e h
    refine kV_I (As := [.int l2]) (rest := [.int r_5, .int r_3, .int r_1]) ⟨hx, hb, hml, hown, hts⟩ (tX6_lastY l G S0 M0 l2 r_7 e_8) (cwV 1 hts gX6_touch_X6_lastY rfl rfl rfl ⟨rfl, hdX6_lastY⟩ ⟨Nat.le_of_ble_eq_true rfl, Nat.le_of_ble_eq_true rfl⟩) (va_recv hK.1 hW.1 (ci := 6) (q0 := 159) rfl lkM) hK hW hS hA rfl hl.1 rfl (Nat.le_of_ble_eq_true rfl) dX6_touch_96 ⟨Nat.zero_le _, Nat.zero_le _⟩ (fun H locs hW hS => ?_)
    obtain ⟨r_9, e_10, h⟩ := bnd_e h
    refine kS_I (As := [.int r_1, .int r_3, .int r_5, .int r_7]) (rest := []) ⟨hx, hb, hml, hown, hts⟩ (tX6_overlap l G S0 M0 r_1 r_3 r_5 r_7 r_9 e_10) (va_cwS 4 hts gX6_touch_X6_overlap rfl rfl rfl hdX6_overlap ⟨Nat.le_of_ble_eq_true rfl, Nat.le_of_ble_eq_true rfl⟩) hK hW hS hA rfl hl.1 rfl (Nat.le_of_ble_eq_true rfl) dX6_touch_99 ⟨Nat.zero_le _, Nat.zero_le _⟩ (fun H locs hW hS => ?_)
    refine lv_istore (lv' := [(5, .int r_9), (4, .int k0), (0, .ref (gad G 159)), (1, .int l1), (2, .int l2), (3, .int l3)]) hx hb dX6_touch_102 hl (by decide) rfl (fun ls hl => ?_)
    refine lv_aload_n hx hb dX6_touch_104 rfl (lv_at hl 2 rfl) ?_
    refine lv_iload_n hx hb dX6_touch_105 rfl (lv_at hl 3 rfl) ?_
    refine lv_iconst (v := 1) hx hb dX6_touch_106 (by decide) ?_
    obtain ⟨r_11, e_12, h⟩ := bnd_e h
    refine kV_I (As := [.int l1, .int 1]) (rest := []) ⟨hx, hb, hml, hown, hts⟩ (tX6_ofPlot l G S0 M0 l1 1 r_11 e_12) (cwV 2 hts gX6_touch_X6_ofPlot rfl rfl rfl ⟨rfl, hdX6_ofPlot⟩ ⟨Nat.le_of_ble_eq_true rfl, Nat.le_of_ble_eq_true rfl⟩) (va_recv hK.1 hW.1 (ci := 6) (q0 := 159) rfl lkM) hK hW hS hA rfl hl.1 rfl (Nat.le_of_ble_eq_true rfl) dX6_touch_107 ⟨Nat.zero_le _, Nat.zero_le _⟩ (fun H locs hW hS => ?_)
    refine lv_aload_n hx hb dX6_touch_110 rfl (lv_at hl 2 rfl) ?_
    refine lv_iload_n hx hb dX6_touch_111 rfl (lv_at hl 3 rfl) ?_
    obtain ⟨r_13, e_14, h⟩ := bnd_e h
    refine kV_I (As := [.int l1]) (rest := [.int r_11]) ⟨hx, hb, hml, hown, hts⟩ (tX6_lastX l G S0 M0 l1 r_13 e_14) (cwV 1 hts gX6_touch_X6_lastX rfl rfl rfl ⟨rfl, hdX6_lastX⟩ ⟨Nat.le_of_ble_eq_true rfl, Nat.le_of_ble_eq_true rfl⟩) (va_recv hK.1 hW.1 (ci := 6) (q0 := 159) rfl lkM) hK hW hS hA rfl hl.1 rfl (Nat.le_of_ble_eq_true rfl) dX6_touch_112 ⟨Nat.zero_le _, Nat.zero_le _⟩ (fun H locs hW hS => ?_)
    refine lv_aload_n hx hb dX6_touch_115 rfl (lv_at hl 2 rfl) ?_
    refine lv_iload_n hx hb dX6_touch_116 rfl (lv_at hl 4 rfl) ?_
    refine lv_iconst (v := 1) hx hb dX6_touch_117 (by decide) ?_
    obtain ⟨r_15, e_16, h⟩ := bnd_e h
    refine kV_I (As := [.int l2, .int 1]) (rest := [.int r_13, .int r_11]) ⟨hx, hb, hml, hown, hts⟩ (tX6_ofPlot l G S0 M0 l2 1 r_15 e_16) (cwV 2 hts gX6_touch_X6_ofPlot rfl rfl rfl ⟨rfl, hdX6_ofPlot⟩ ⟨Nat.le_of_ble_eq_true rfl, Nat.le_of_ble_eq_true rfl⟩) (va_recv hK.1 hW.1 (ci := 6) (q0 := 159) rfl lkM) hK hW hS hA rfl hl.1 rfl (Nat.le_of_ble_eq_true rfl) dX6_touch_118 ⟨Nat.zero_le _, Nat.zero_le _⟩ (fun H locs hW hS => ?_)
    refine lv_aload_n hx hb dX6_touch_121 rfl (lv_at hl 2 rfl) ?_
    refine lv_iload_n hx hb dX6_touch_122 rfl (lv_at hl 4 rfl) ?_
    obtain ⟨r_17, e_18, h⟩ := bnd_e h
    refine kV_I (As := [.int l2]) (rest := [.int r_15, .int r_13, .int r_11]) ⟨hx, hb, hml, hown, hts⟩ (tX6_lastX l G S0 M0 l2 r_17 e_18) (cwV 1 hts gX6_touch_X6_lastX rfl rfl rfl ⟨rfl, hdX6_lastX⟩ ⟨Nat.le_of_ble_eq_true rfl, Nat.le_of_ble_eq_true rfl⟩) (va_recv hK.1 hW.1 (ci := 6) (q0 := 159) rfl lkM) hK hW hS hA rfl hl.1 rfl (Nat.le_of_ble_eq_true rfl) dX6_touch_123 ⟨Nat.zero_le _, Nat.zero_le _⟩ (fun H locs hW hS => ?_)
    obtain ⟨r_19, e_20, h⟩ := bnd_e h
    refine kS_I (As := [.int r_11, .int r_13, .int r_15, .int r_17]) (rest := []) ⟨hx, hb, hml, hown, hts⟩ (tX6_overlap l G S0 M0 r_11 r_13 r_15 r_17 r_19 e_20) (va_cwS 4 hts gX6_touch_X6_overlap rfl rfl rfl hdX6_overlap ⟨Nat.le_of_ble_eq_true rfl, Nat.le_of_ble_eq_true rfl⟩) hK hW hS hA rfl hl.1 rfl (Nat.le_of_ble_eq_true rfl) dX6_touch_126 ⟨Nat.zero_le _, Nat.zero_le _⟩ (fun H locs hW hS => ?_)
    refine lv_istore (lv' := [(6, .int r_19), (5, .int r_9), (4, .int k0), (0, .ref (gad G 159)), (1, .int l1), (2, .int l2), (3, .int l3)]) hx hb dX6_touch_129 hl (by decide) rfl (fun ls hl => ?_)
    refine lv_iload_n hx hb dX6_touch_131 rfl (lv_at hl 6 rfl) ?_
    refine lv_if_eq (tgt := 140) hx hb dX6_touch_132 (by decide) (fun c_21 => ?_) (fun c_21 => ?_)
    · have h := ite_t c_21 h
      exact B140 _ _ hW hS ls k0 r_19 (lv_sub hl [2, 0] rfl) h
    · have h := ite_f c_21 h
      refine lv_iload hx hb dX6_touch_135 (lv_at hl 1 rfl) ?_
      refine lv_if_ne (tgt := 150) hx hb dX6_touch_137 (by decide) (fun c_22 => ?_) (fun c_22 => ?_)
      · have h := ite_f c_22 h
        exact B150 _ _ hW hS ls (lv_sub hl [] rfl) h
      · have h := ite_t c_22 h
        exact B140 _ _ hW hS ls k0 r_19 (lv_sub hl [2, 0] rfl) h
  have B70 : ∀ (H : Heap) (locs : List Loc) (_ : WD G S0 M0 H) (_ : va_S (Aw G) s.heap H locs) (ls : Array Slot) (l1 : Int32) (l2 : Int32) (l3 : Int32) (_ : lv_has ls 7 [(0, .ref (gad G 159)), (1, .int l1), (2, .int l2), (3, .int l3)]) (h : f6_touch_b70 M0 l1 l2 l3 = some (rr)), WI p l e (headSpec wsX6_touch rX6_touch).room s m args below meth cd G rr S0 M0 H locs (F0 m 70 ls []) := by
    intro H locs hW hS ls l1 l2 l3 hl h
    unfold f6_touch_b70 at h
    refine lv_iconst (v := 1) hx hb dX6_touch_70 (by decide) ?_
    refine lv_goto (tgt := 75) hx hb dX6_touch_71 (by decide) ?_
    exact B75 _ _ hW hS ls l1 l2 l3 1 (lv_sub hl [0, 1, 2, 3] rfl) h
  have B37 : ∀ (H : Heap) (locs : List Loc) (_ : WD G S0 M0 H) (_ : va_S (Aw G) s.heap H locs) (ls : Array Slot) (l1 : Int32) (l2 : Int32) (k0 : Int32) (_ : lv_has ls 7 [(0, .ref (gad G 159)), (1, .int l1), (2, .int l2)]) (h : f6_touch_b37 M0 l1 l2 k0 = some (rr)), WI p l e (headSpec wsX6_touch rX6_touch).room s m args below meth cd G rr S0 M0 H locs (F0 m 37 ls [.int k0]) := by
    intro H locs hW hS ls l1 l2 k0 hl h
    unfold f6_touch_b37 at h
    refine lv_istore_n (lv' := [(3, .int k0), (0, .ref (gad G 159)), (1, .int l1), (2, .int l2)]) hx hb dX6_touch_37 rfl hl (by decide) rfl (fun ls hl => ?_)
    refine lv_aload_n hx hb dX6_touch_38 rfl (lv_at hl 1 rfl) ?_
    refine lv_iload_n hx hb dX6_touch_39 rfl (lv_at hl 2 rfl) ?_
    obtain ⟨r_1, e_2, h⟩ := bnd_e h
    refine kV_I (As := [.int l1]) (rest := []) ⟨hx, hb, hml, hown, hts⟩ (tX6_lastY l G S0 M0 l1 r_1 e_2) (cwV 1 hts gX6_touch_X6_lastY rfl rfl rfl ⟨rfl, hdX6_lastY⟩ ⟨Nat.le_of_ble_eq_true rfl, Nat.le_of_ble_eq_true rfl⟩) (va_recv hK.1 hW.1 (ci := 6) (q0 := 159) rfl lkM) hK hW hS hA rfl hl.1 rfl (Nat.le_of_ble_eq_true rfl) dX6_touch_40 ⟨Nat.zero_le _, Nat.zero_le _⟩ (fun H locs hW hS => ?_)
    refine lv_iconst (v := 1) hx hb dX6_touch_43 (by decide) ?_
    refine lv_iadd hx hb dX6_touch_44 ?_
    refine lv_aload_n hx hb dX6_touch_45 rfl (lv_at hl 1 rfl) ?_
    refine lv_iload_n hx hb dX6_touch_46 rfl (lv_at hl 3 rfl) ?_
    refine lv_iconst (v := 2) hx hb dX6_touch_47 (by decide) ?_
    obtain ⟨r_3, e_4, h⟩ := bnd_e h
    refine kV_I (As := [.int l2, .int 2]) (rest := [.int ((r_1 + 1))]) ⟨hx, hb, hml, hown, hts⟩ (tX6_ofPlot l G S0 M0 l2 2 r_3 e_4) (cwV 2 hts gX6_touch_X6_ofPlot rfl rfl rfl ⟨rfl, hdX6_ofPlot⟩ ⟨Nat.le_of_ble_eq_true rfl, Nat.le_of_ble_eq_true rfl⟩) (va_recv hK.1 hW.1 (ci := 6) (q0 := 159) rfl lkM) hK hW hS hA rfl hl.1 rfl (Nat.le_of_ble_eq_true rfl) dX6_touch_48 ⟨Nat.zero_le _, Nat.zero_le _⟩ (fun H locs hW hS => ?_)
    refine lv_icmp_eq (tgt := 70) hx hb dX6_touch_51 (by decide) (fun c_5 => ?_) (fun c_5 => ?_)
    · have h := ite_t c_5 h
      exact B70 _ _ hW hS ls l1 l2 k0 (lv_sub hl [1, 2, 3, 0] rfl) h
    · have h := ite_f c_5 h
      refine lv_aload_n hx hb dX6_touch_54 rfl (lv_at hl 1 rfl) ?_
      refine lv_iload_n hx hb dX6_touch_55 rfl (lv_at hl 3 rfl) ?_
      obtain ⟨r_6, e_7, h⟩ := bnd_e h
      refine kV_I (As := [.int l2]) (rest := []) ⟨hx, hb, hml, hown, hts⟩ (tX6_lastY l G S0 M0 l2 r_6 e_7) (cwV 1 hts gX6_touch_X6_lastY rfl rfl rfl ⟨rfl, hdX6_lastY⟩ ⟨Nat.le_of_ble_eq_true rfl, Nat.le_of_ble_eq_true rfl⟩) (va_recv hK.1 hW.1 (ci := 6) (q0 := 159) rfl lkM) hK hW hS hA rfl hl.1 rfl (Nat.le_of_ble_eq_true rfl) dX6_touch_56 ⟨Nat.zero_le _, Nat.zero_le _⟩ (fun H locs hW hS => ?_)
      refine lv_iconst (v := 1) hx hb dX6_touch_59 (by decide) ?_
      refine lv_iadd hx hb dX6_touch_60 ?_
      refine lv_aload_n hx hb dX6_touch_61 rfl (lv_at hl 1 rfl) ?_
      refine lv_iload_n hx hb dX6_touch_62 rfl (lv_at hl 2 rfl) ?_
      refine lv_iconst (v := 2) hx hb dX6_touch_63 (by decide) ?_
      obtain ⟨r_8, e_9, h⟩ := bnd_e h
      refine kV_I (As := [.int l1, .int 2]) (rest := [.int ((r_6 + 1))]) ⟨hx, hb, hml, hown, hts⟩ (tX6_ofPlot l G S0 M0 l1 2 r_8 e_9) (cwV 2 hts gX6_touch_X6_ofPlot rfl rfl rfl ⟨rfl, hdX6_ofPlot⟩ ⟨Nat.le_of_ble_eq_true rfl, Nat.le_of_ble_eq_true rfl⟩) (va_recv hK.1 hW.1 (ci := 6) (q0 := 159) rfl lkM) hK hW hS hA rfl hl.1 rfl (Nat.le_of_ble_eq_true rfl) dX6_touch_64 ⟨Nat.zero_le _, Nat.zero_le _⟩ (fun H locs hW hS => ?_)
      refine lv_icmp_ne (tgt := 74) hx hb dX6_touch_67 (by decide) (fun c_10 => ?_) (fun c_10 => ?_)
      · have h := ite_f c_10 h
        refine lv_iconst (v := 0) hx hb dX6_touch_74 (by decide) ?_
        exact B75 _ _ hW hS ls l1 l2 k0 0 (lv_sub hl [1, 2, 3, 0] rfl) h
      · have h := ite_t c_10 h
        exact B70 _ _ hW hS ls l1 l2 k0 (lv_sub hl [1, 2, 3, 0] rfl) h
  have B32 : ∀ (H : Heap) (locs : List Loc) (_ : WD G S0 M0 H) (_ : va_S (Aw G) s.heap H locs) (ls : Array Slot) (l1 : Int32) (l2 : Int32) (_ : lv_has ls 7 [(0, .ref (gad G 159)), (1, .int l1), (2, .int l2)]) (h : f6_touch_b32 M0 l1 l2 = some (rr)), WI p l e (headSpec wsX6_touch rX6_touch).room s m args below meth cd G rr S0 M0 H locs (F0 m 32 ls []) := by
    intro H locs hW hS ls l1 l2 hl h
    unfold f6_touch_b32 at h
    refine lv_iconst (v := 1) hx hb dX6_touch_32 (by decide) ?_
    refine lv_goto (tgt := 37) hx hb dX6_touch_33 (by decide) ?_
    exact B37 _ _ hW hS ls l1 l2 1 (lv_sub hl [0, 1, 2] rfl) h
  unfold f6_touch at h
  refine lv_aload_n hx hb dX6_touch_0 rfl (lv_at hl 0 rfl) ?_
  refine lv_iload_n hx hb dX6_touch_1 rfl (lv_at hl 1 rfl) ?_
  obtain ⟨r_1, e_2, h⟩ := bnd_e h
  refine kV_I (As := [.int p1]) (rest := []) ⟨hx, hb, hml, hown, hts⟩ (tX6_lastX l G S0 M0 p1 r_1 e_2) (cwV 1 hts gX6_touch_X6_lastX rfl rfl rfl ⟨rfl, hdX6_lastX⟩ ⟨Nat.le_of_ble_eq_true rfl, Nat.le_of_ble_eq_true rfl⟩) (va_recv hK.1 hW.1 (ci := 6) (q0 := 159) rfl lkM) hK hW hS hA rfl hl.1 rfl (Nat.le_of_ble_eq_true rfl) dX6_touch_2 ⟨Nat.zero_le _, Nat.zero_le _⟩ (fun H locs hW hS => ?_)
  refine lv_iconst (v := 1) hx hb dX6_touch_5 (by decide) ?_
  refine lv_iadd hx hb dX6_touch_6 ?_
  refine lv_aload_n hx hb dX6_touch_7 rfl (lv_at hl 0 rfl) ?_
  refine lv_iload_n hx hb dX6_touch_8 rfl (lv_at hl 2 rfl) ?_
  refine lv_iconst (v := 1) hx hb dX6_touch_9 (by decide) ?_
  obtain ⟨r_3, e_4, h⟩ := bnd_e h
  refine kV_I (As := [.int p2, .int 1]) (rest := [.int ((r_1 + 1))]) ⟨hx, hb, hml, hown, hts⟩ (tX6_ofPlot l G S0 M0 p2 1 r_3 e_4) (cwV 2 hts gX6_touch_X6_ofPlot rfl rfl rfl ⟨rfl, hdX6_ofPlot⟩ ⟨Nat.le_of_ble_eq_true rfl, Nat.le_of_ble_eq_true rfl⟩) (va_recv hK.1 hW.1 (ci := 6) (q0 := 159) rfl lkM) hK hW hS hA rfl hl.1 rfl (Nat.le_of_ble_eq_true rfl) dX6_touch_10 ⟨Nat.zero_le _, Nat.zero_le _⟩ (fun H locs hW hS => ?_)
  refine lv_icmp_eq (tgt := 32) hx hb dX6_touch_13 (by decide) (fun c_5 => ?_) (fun c_5 => ?_)
  · have h := ite_t c_5 h
    exact B32 _ _ hW hS ls p1 p2 (lv_sub hl [0, 1, 2] rfl) h
  · have h := ite_f c_5 h
    refine lv_aload_n hx hb dX6_touch_16 rfl (lv_at hl 0 rfl) ?_
    refine lv_iload_n hx hb dX6_touch_17 rfl (lv_at hl 2 rfl) ?_
    obtain ⟨r_6, e_7, h⟩ := bnd_e h
    refine kV_I (As := [.int p2]) (rest := []) ⟨hx, hb, hml, hown, hts⟩ (tX6_lastX l G S0 M0 p2 r_6 e_7) (cwV 1 hts gX6_touch_X6_lastX rfl rfl rfl ⟨rfl, hdX6_lastX⟩ ⟨Nat.le_of_ble_eq_true rfl, Nat.le_of_ble_eq_true rfl⟩) (va_recv hK.1 hW.1 (ci := 6) (q0 := 159) rfl lkM) hK hW hS hA rfl hl.1 rfl (Nat.le_of_ble_eq_true rfl) dX6_touch_18 ⟨Nat.zero_le _, Nat.zero_le _⟩ (fun H locs hW hS => ?_)
    refine lv_iconst (v := 1) hx hb dX6_touch_21 (by decide) ?_
    refine lv_iadd hx hb dX6_touch_22 ?_
    refine lv_aload_n hx hb dX6_touch_23 rfl (lv_at hl 0 rfl) ?_
    refine lv_iload_n hx hb dX6_touch_24 rfl (lv_at hl 1 rfl) ?_
    refine lv_iconst (v := 1) hx hb dX6_touch_25 (by decide) ?_
    obtain ⟨r_8, e_9, h⟩ := bnd_e h
    refine kV_I (As := [.int p1, .int 1]) (rest := [.int ((r_6 + 1))]) ⟨hx, hb, hml, hown, hts⟩ (tX6_ofPlot l G S0 M0 p1 1 r_8 e_9) (cwV 2 hts gX6_touch_X6_ofPlot rfl rfl rfl ⟨rfl, hdX6_ofPlot⟩ ⟨Nat.le_of_ble_eq_true rfl, Nat.le_of_ble_eq_true rfl⟩) (va_recv hK.1 hW.1 (ci := 6) (q0 := 159) rfl lkM) hK hW hS hA rfl hl.1 rfl (Nat.le_of_ble_eq_true rfl) dX6_touch_26 ⟨Nat.zero_le _, Nat.zero_le _⟩ (fun H locs hW hS => ?_)
    refine lv_icmp_ne (tgt := 36) hx hb dX6_touch_29 (by decide) (fun c_10 => ?_) (fun c_10 => ?_)
    · have h := ite_f c_10 h
      refine lv_iconst (v := 0) hx hb dX6_touch_36 (by decide) ?_
      exact B37 _ _ hW hS ls p1 p2 0 (lv_sub hl [0, 1, 2] rfl) h
    · have h := ite_t c_10 h
      exact B32 _ _ hW hS ls p1 p2 (lv_sub hl [0, 1, 2] rfl) h
abbrev rX6_isAhead : Room := { frames := 1, cells := 0, slots := 0, locals := 22 }
set_option maxRecDepth 100000 in
set_option maxHeartbeats 8000000 in
theorem tX6_isAhead (l : Launch) (G : WG) (S0 M0 : St) (p1 : Int32) (p2 : Int32) (rr : Int32) (h : f6_isAhead M0 p1 p2 = some (rr)) : CtI l yX6_isAhead wsX6_isAhead rX6_isAhead G [.ref (gad G 159), .int p1, .int p2] S0 M0 rr S0 M0 := by
  refine Met.ofW (cc := cX6_isAhead) (maxL := 4) (ret := (some .boolean)) (by decide) rfl ?_
  intro p e s m args below meth cd s₁ B hml hv
  obtain ⟨hargs, hK, hW⟩ := hv
  have hx := B.exec
  have hb := B.bytes
  have hr := B.returns
  have hts := atoms_spec (ws := wsX6_isAhead) B.pre
  have hown : s.vm.findClass RX6 = some m.cls := findClass_of_methodNamed B.named
  have hlocks := B.notSynchronized
  have hA : ∀ q, Aw G q → Aw G q := fun _ h => h
  have hS : va_S (Aw G) s.heap s.heap [] := va_S.rf
  have he0 : entryFrame m args 4 = F0 m 0 ((lg_sl ([.ref (gad G 159), .int p1, .int p2]) ++ List.replicate (4 - (lg_sl ([.ref (gad G 159), .int p1, .int p2])).length) Slot.unset).toArray) [] := by rw [hargs]; exact lg_entry_eq _ _ _
  have hl := lv_entry ([.ref (gad G 159), .int p1, .int p2]) (n := 4) (Nat.le_of_ble_eq_true rfl)
  rw [he0]
  generalize (lg_sl ([.ref (gad G 159), .int p1, .int p2]) ++ List.replicate (4 - (lg_sl ([.ref (gad G 159), .int p1, .int p2])).length) Slot.unset).toArray = ls at hl ⊢
  have hl : lv_has ls 4 [(0, .ref (gad G 159)), (1, .int p1), (2, .int p2)] := hl
  have B50 : ∀ (H : Heap) (locs : List Loc) (_ : WD G S0 M0 H) (_ : va_S (Aw G) s.heap H locs) (ls : Array Slot) (k0 : Int32) (_ : lv_has ls 4 []) (h : f6_isAhead_b50 M0 k0 = some (rr)), WI p l e (headSpec wsX6_isAhead rX6_isAhead).room s m args below meth cd G rr S0 M0 H locs (F0 m 50 ls [.int k0]) := by
    intro H locs hW hS ls k0 hl h
    unfold f6_isAhead_b50 at h
    obtain ⟨z_1, h⟩ := isz_e h
    obtain rfl := Option.some.inj h
    exact W.zret (ty := .boolean) hx hb hr (nz_1 z_1) (fun t ht hw => ⟨⟨_, (), rfl, rfl, hW.ret ht⟩, hS.F ht⟩) hS.2.2 dX6_isAhead_50
  unfold f6_isAhead at h
  refine lv_aload_n hx hb dX6_isAhead_0 rfl (lv_at hl 0 rfl) ?_
  refine lv_iload_n hx hb dX6_isAhead_1 rfl (lv_at hl 1 rfl) ?_
  refine lv_iconst (v := 1) hx hb dX6_isAhead_2 (by decide) ?_
  obtain ⟨r_1, e_2, h⟩ := bnd_e h
  refine kV_I (As := [.int p1, .int 1]) (rest := []) ⟨hx, hb, hml, hown, hts⟩ (tX6_ofPlot l G S0 M0 p1 1 r_1 e_2) (cwV 2 hts gX6_isAhead_X6_ofPlot rfl rfl rfl ⟨rfl, hdX6_ofPlot⟩ ⟨Nat.le_of_ble_eq_true rfl, Nat.le_of_ble_eq_true rfl⟩) (va_recv hK.1 hW.1 (ci := 6) (q0 := 159) rfl lkM) hK hW hS hA rfl hl.1 rfl (Nat.le_of_ble_eq_true rfl) dX6_isAhead_3 ⟨Nat.zero_le _, Nat.zero_le _⟩ (fun H locs hW hS => ?_)
  refine lv_aload_n hx hb dX6_isAhead_6 rfl (lv_at hl 0 rfl) ?_
  refine lv_iload_n hx hb dX6_isAhead_7 rfl (lv_at hl 2 rfl) ?_
  refine lv_iconst (v := 1) hx hb dX6_isAhead_8 (by decide) ?_
  obtain ⟨r_3, e_4, h⟩ := bnd_e h
  refine kV_I (As := [.int p2, .int 1]) (rest := [.int r_1]) ⟨hx, hb, hml, hown, hts⟩ (tX6_ofPlot l G S0 M0 p2 1 r_3 e_4) (cwV 2 hts gX6_isAhead_X6_ofPlot rfl rfl rfl ⟨rfl, hdX6_ofPlot⟩ ⟨Nat.le_of_ble_eq_true rfl, Nat.le_of_ble_eq_true rfl⟩) (va_recv hK.1 hW.1 (ci := 6) (q0 := 159) rfl lkM) hK hW hS hA rfl hl.1 rfl (Nat.le_of_ble_eq_true rfl) dX6_isAhead_9 ⟨Nat.zero_le _, Nat.zero_le _⟩ (fun H locs hW hS => ?_)
  refine lv_isub hx hb dX6_isAhead_12 ?_
  obtain ⟨x_5, ex_5, h⟩ := nam_e h
  refine lv_ni ex_5 ?_
  refine lv_istore_n (lv' := [(3, .int x_5), (0, .ref (gad G 159)), (1, .int p1), (2, .int p2)]) hx hb dX6_isAhead_13 rfl hl (by decide) rfl (fun ls hl => ?_)
  refine lv_iload_n hx hb dX6_isAhead_14 rfl (lv_at hl 0 rfl) ?_
  refine lv_if_eq (tgt := 30) hx hb dX6_isAhead_15 (by decide) (fun c_6 => ?_) (fun c_6 => ?_)
  · have h := ite_t c_6 h
    refine lv_aload_n hx hb dX6_isAhead_30 rfl (lv_at hl 1 rfl) ?_
    refine lv_iload_n hx hb dX6_isAhead_31 rfl (lv_at hl 2 rfl) ?_
    refine lv_iconst (v := 2) hx hb dX6_isAhead_32 (by decide) ?_
    obtain ⟨r_7, e_8, h⟩ := bnd_e h
    refine kV_I (As := [.int p1, .int 2]) (rest := []) ⟨hx, hb, hml, hown, hts⟩ (tX6_ofPlot l G S0 M0 p1 2 r_7 e_8) (cwV 2 hts gX6_isAhead_X6_ofPlot rfl rfl rfl ⟨rfl, hdX6_ofPlot⟩ ⟨Nat.le_of_ble_eq_true rfl, Nat.le_of_ble_eq_true rfl⟩) (va_recv hK.1 hW.1 (ci := 6) (q0 := 159) rfl lkM) hK hW hS hA rfl hl.1 rfl (Nat.le_of_ble_eq_true rfl) dX6_isAhead_33 ⟨Nat.zero_le _, Nat.zero_le _⟩ (fun H locs hW hS => ?_)
    refine lv_aload_n hx hb dX6_isAhead_36 rfl (lv_at hl 1 rfl) ?_
    refine lv_iload_n hx hb dX6_isAhead_37 rfl (lv_at hl 3 rfl) ?_
    refine lv_iconst (v := 2) hx hb dX6_isAhead_38 (by decide) ?_
    obtain ⟨r_9, e_10, h⟩ := bnd_e h
    refine kV_I (As := [.int p2, .int 2]) (rest := [.int r_7]) ⟨hx, hb, hml, hown, hts⟩ (tX6_ofPlot l G S0 M0 p2 2 r_9 e_10) (cwV 2 hts gX6_isAhead_X6_ofPlot rfl rfl rfl ⟨rfl, hdX6_ofPlot⟩ ⟨Nat.le_of_ble_eq_true rfl, Nat.le_of_ble_eq_true rfl⟩) (va_recv hK.1 hW.1 (ci := 6) (q0 := 159) rfl lkM) hK hW hS hA rfl hl.1 rfl (Nat.le_of_ble_eq_true rfl) dX6_isAhead_39 ⟨Nat.zero_le _, Nat.zero_le _⟩ (fun H locs hW hS => ?_)
    refine lv_icmp_ge (tgt := 49) hx hb dX6_isAhead_42 (by decide) (fun c_11 => ?_) (fun c_11 => ?_)
    · have h := ite_t c_11 h
      refine lv_iconst (v := 0) hx hb dX6_isAhead_49 (by decide) ?_
      exact B50 _ _ hW hS ls 0 (lv_sub hl [] rfl) h
    · have h := ite_f c_11 h
      refine lv_iconst (v := 1) hx hb dX6_isAhead_45 (by decide) ?_
      refine lv_goto (tgt := 50) hx hb dX6_isAhead_46 (by decide) ?_
      exact B50 _ _ hW hS ls 1 (lv_sub hl [] rfl) h
  · have h := ite_f c_6 h
    refine lv_iload_n hx hb dX6_isAhead_18 rfl (lv_at hl 0 rfl) ?_
    refine lv_if_ge (tgt := 26) hx hb dX6_isAhead_19 (by decide) (fun c_12 => ?_) (fun c_12 => ?_)
    · have h := ite_t c_12 h
      refine lv_iconst (v := 0) hx hb dX6_isAhead_26 (by decide) ?_
      refine lv_goto (tgt := 50) hx hb dX6_isAhead_27 (by decide) ?_
      exact B50 _ _ hW hS ls 0 (lv_sub hl [] rfl) h
    · have h := ite_f c_12 h
      refine lv_iconst (v := 1) hx hb dX6_isAhead_22 (by decide) ?_
      refine lv_goto (tgt := 50) hx hb dX6_isAhead_23 (by decide) ?_
      exact B50 _ _ hW hS ls 1 (lv_sub hl [] rfl) h
abbrev rX6_halves : Room := { frames := 1, cells := 0, slots := 0, locals := 25 }
set_option maxRecDepth 100000 in
set_option maxHeartbeats 8000000 in
theorem tX6_halves (l : Launch) (G : WG) (S0 M0 : St) (p1 : Int32) (M' : St) (h : f6_halves M0 p1 = some (M')) : CtV l yX6_halves wsX6_halves rX6_halves G [.ref (gad G 159), .int p1] S0 M0 S0 M' := by
  refine Met.ofW (cc := cX6_halves) (maxL := 6) (ret := none) (by decide) rfl ?_
  intro p e s m args below meth cd s₁ B hml hv
  obtain ⟨hargs, hK, hW⟩ := hv
  have hx := B.exec
  have hb := B.bytes
  have hr := B.returns
  have hts := atoms_spec (ws := wsX6_halves) B.pre
  have hown : s.vm.findClass RX6 = some m.cls := findClass_of_methodNamed B.named
  have hlocks := B.notSynchronized
  have hA : ∀ q, Aw G q → Aw G q := fun _ h => h
  have hS : va_S (Aw G) s.heap s.heap [] := va_S.rf
  have he0 : entryFrame m args 6 = F0 m 0 ((lg_sl ([.ref (gad G 159), .int p1]) ++ List.replicate (6 - (lg_sl ([.ref (gad G 159), .int p1])).length) Slot.unset).toArray) [] := by rw [hargs]; exact lg_entry_eq _ _ _
  have hl := lv_entry ([.ref (gad G 159), .int p1]) (n := 6) (Nat.le_of_ble_eq_true rfl)
  rw [he0]
  generalize (lg_sl ([.ref (gad G 159), .int p1]) ++ List.replicate (6 - (lg_sl ([.ref (gad G 159), .int p1])).length) Slot.unset).toArray = ls at hl ⊢
  have hl : lv_has ls 6 [(0, .ref (gad G 159)), (1, .int p1)] := hl
  have hiX6 : ∀ w ∈ u_ws RX6 TX6 14, w ∈ wsX6_halves := by decide +kernel
  have B93 : ∀ (H : Heap) (locs : List Loc) (M : St) (_ : WD G S0 M H) (_ : va_S (Aw G) s.heap H locs) (ls : Array Slot) (l1 : Int32) (k0 : Int32) (k1 : Int32) (k2 : Int32) (k3 : Int32) (_ : lv_has ls 6 [(0, .ref (gad G 159)), (1, .int l1)]) (h : f6_halves_b93 M l1 k0 k1 k2 k3 = some (M')), WV p l e (headSpec wsX6_halves rX6_halves).room s m args below meth cd G S0 M' H locs (F0 m 93 ls [.int k0, .int k1, .int k2, .int k3, .ref (gad G 159)]) := by
    intro H locs M hW hS ls l1 k0 k1 k2 k3 hl h
    unfold f6_halves_b93 at h
    refine lv_aload_n hx hb dX6_halves_93 rfl (lv_at hl 0 rfl) ?_
    refine lv_iload_n hx hb dX6_halves_94 rfl (lv_at hl 1 rfl) ?_
    refine lv_iconst (v := 3) hx hb dX6_halves_95 (by decide) ?_
    obtain ⟨r_1, e_2, h⟩ := bnd_e h
    refine kV_I (As := [.int l1, .int 3]) (rest := [.int k0, .int k1, .int k2, .int k3, .ref (gad G 159)]) ⟨hx, hb, hml, hown, hts⟩ (tX6_ofPlot l G S0 M l1 3 r_1 e_2) (cwV 2 hts gX6_halves_X6_ofPlot rfl rfl rfl ⟨rfl, hdX6_ofPlot⟩ ⟨Nat.le_of_ble_eq_true rfl, Nat.le_of_ble_eq_true rfl⟩) (va_recv hK.1 hW.1 (ci := 6) (q0 := 159) rfl lkM) hK hW hS hA rfl hl.1 rfl (Nat.le_of_ble_eq_true rfl) dX6_halves_96 ⟨Nat.zero_le _, Nat.zero_le _⟩ (fun H locs hW hS => ?_)
    obtain ⟨M_3, e_4, h⟩ := bnd_e h
    refine kV_V (As := [.int k3, .int k2, .int k1, .int k0, .int r_1]) (rest := []) ⟨hx, hb, hml, hown, hts⟩ (tX6_layPlot l G S0 M k3 k2 k1 k0 r_1 M_3 e_4) (cwV 5 hts gX6_halves_X6_layPlot rfl rfl rfl ⟨rfl, hdX6_layPlot⟩ ⟨Nat.le_of_ble_eq_true rfl, Nat.le_of_ble_eq_true rfl⟩) (va_recv hK.1 hW.1 (ci := 6) (q0 := 159) rfl lkM) hK hW hS hA rfl hl.1 rfl (Nat.le_of_ble_eq_true rfl) dX6_halves_99 ⟨Nat.zero_le _, Nat.zero_le _⟩ (fun H locs hW hS => ?_)
    refine lv_aload_n hx hb dX6_halves_102 rfl (lv_at hl 0 rfl) ?_
    refine va_get (D := G.1) (ci := 6) (v := .ref (gad G (160 + 0))) (C := RX6) (T := TX6) (N := 14) hx hb hts hiX6 hown hK.1 hW.1 159 lkM rfl 1 (by decide) (hts _ (List.mem_of_getElem? (i := 1) rfl)) (fun _ h9 => h9) rfl dX6_halves_103 ?_
    refine lv_iconst (v := 1) hx hb dX6_halves_106 (by decide) ?_
    refine lv_dup2_11 hx hb dX6_halves_107 rfl rfl ?_
    obtain ⟨x_5, nx_5, ex_5, h⟩ := arr_e h
    refine va_iald hx hb hK.1 hW.1 (160 + 0) 0 (lkMa (j := 0) (by omega)) rfl nx_5 dX6_halves_108 ?_
    refine lv_ni ex_5 ?_
    refine lv_iconst (v := 1) hx hb dX6_halves_109 (by decide) ?_
    refine lv_iadd hx hb dX6_halves_110 ?_
    obtain ⟨n_7, h⟩ := sto_e h
    obtain ⟨M_6, eM_6, h⟩ := nam_e h
    refine va_iast hx hb hK.1 hW.1 (hW.D hA) hS (160 + 0) 0 (lkMa (j := 0) (by omega)) rfl n_7 dX6_halves_111 (fun H locs hP hD hS => ?_)
    have hW := upMa (j := 0) (by omega) hW hP
    rw [← eM_6] at hW
    refine lv_aload_n hx hb dX6_halves_112 rfl (lv_at hl 0 rfl) ?_
    refine va_get (D := G.1) (ci := 6) (v := .ref (gad G (160 + 0))) (C := RX6) (T := TX6) (N := 14) hx hb hts hiX6 hown hK.1 hW.1 159 lkM rfl 1 (by decide) (hts _ (List.mem_of_getElem? (i := 1) rfl)) (fun _ h9 => h9) rfl dX6_halves_113 ?_
    refine lv_iconst (v := 3) hx hb dX6_halves_116 (by decide) ?_
    refine lv_dup2_11 hx hb dX6_halves_117 rfl rfl ?_
    obtain ⟨x_8, nx_8, ex_8, h⟩ := arr_e h
    refine va_iald hx hb hK.1 hW.1 (160 + 0) 0 (lkMa (j := 0) (by omega)) rfl nx_8 dX6_halves_118 ?_
    refine lv_ni ex_8 ?_
    refine lv_iconst (v := 1) hx hb dX6_halves_119 (by decide) ?_
    refine lv_iadd hx hb dX6_halves_120 ?_
    obtain ⟨n_10, h⟩ := sto_e h
    obtain ⟨M_9, eM_9, h⟩ := nam_e h
    refine va_iast hx hb hK.1 hW.1 (hW.D hA) hS (160 + 0) 0 (lkMa (j := 0) (by omega)) rfl n_10 dX6_halves_121 (fun H locs hP hD hS => ?_)
    have hW := upMa (j := 0) (by omega) hW hP
    rw [← eM_9] at hW
    obtain rfl := Option.some.inj h
    exact W.vret hx hb hr (fun t ht hw => ⟨⟨(), rfl, trivial, hW.ret ht⟩, hS.F ht⟩) hS.2.2 dX6_halves_122
  have B76 : ∀ (H : Heap) (locs : List Loc) (M : St) (_ : WD G S0 M H) (_ : va_S (Aw G) s.heap H locs) (ls : Array Slot) (l1 : Int32) (l2 : Int32) (l4 : Int32) (l5 : Int32) (k0 : Int32) (k1 : Int32) (k2 : Int32) (_ : lv_has ls 6 [(0, .ref (gad G 159)), (1, .int l1), (2, .int l2), (4, .int l4), (5, .int l5)]) (h : f6_halves_b76 M l1 l2 l4 l5 k0 k1 k2 = some (M')), WV p l e (headSpec wsX6_halves rX6_halves).room s m args below meth cd G S0 M' H locs (F0 m 76 ls [.int k0, .int k1, .int k2, .ref (gad G 159)]) := by
    intro H locs M hW hS ls l1 l2 l4 l5 k0 k1 k2 hl h
    unfold f6_halves_b76 at h
    refine lv_iload hx hb dX6_halves_76 (lv_at hl 4 rfl) ?_
    refine lv_if_eq (tgt := 86) hx hb dX6_halves_78 (by decide) (fun c_1 => ?_) (fun c_1 => ?_)
    · have h := ite_t c_1 h
      refine lv_iload hx hb dX6_halves_86 (lv_at hl 3 rfl) ?_
      refine lv_iload_n hx hb dX6_halves_88 rfl (lv_at hl 2 rfl) ?_
      obtain ⟨r_2, e_3, h⟩ := bnd_e h
      refine kS_I (As := [.int l2]) (rest := [.int l4, .int k0, .int k1, .int k2, .ref (gad G 159)]) ⟨hx, hb, hml, hown, hts⟩ (tX6_high l G S0 M l2 r_2 e_3) (va_cwS 1 hts gX6_halves_X6_high rfl rfl rfl hdX6_high ⟨Nat.le_of_ble_eq_true rfl, Nat.le_of_ble_eq_true rfl⟩) hK hW hS hA rfl hl.1 rfl (Nat.le_of_ble_eq_true rfl) dX6_halves_89 ⟨Nat.zero_le _, Nat.zero_le _⟩ (fun H locs hW hS => ?_)
      refine lv_iadd hx hb dX6_halves_92 ?_
      exact B93 _ _ M hW hS ls l1 ((l4 + r_2)) k0 k1 k2 (lv_sub hl [0, 1] rfl) h
    · have h := ite_f c_1 h
      refine lv_iload hx hb dX6_halves_81 (lv_at hl 3 rfl) ?_
      refine lv_goto (tgt := 93) hx hb dX6_halves_83 (by decide) ?_
      exact B93 _ _ M hW hS ls l1 l4 k0 k1 k2 (lv_sub hl [0, 1] rfl) h
  have B36 : ∀ (H : Heap) (locs : List Loc) (M : St) (_ : WD G S0 M H) (_ : va_S (Aw G) s.heap H locs) (ls : Array Slot) (l1 : Int32) (l2 : Int32) (l3 : Int32) (l4 : Int32) (k0 : Int32) (_ : lv_has ls 6 [(0, .ref (gad G 159)), (1, .int l1), (2, .int l2), (3, .int l3), (4, .int l4)]) (h : f6_halves_b36 M l1 l2 l3 l4 k0 = some (M')), WV p l e (headSpec wsX6_halves rX6_halves).room s m args below meth cd G S0 M' H locs (F0 m 36 ls [.int k0]) := by
    intro H locs M hW hS ls l1 l2 l3 l4 k0 hl h
    unfold f6_halves_b36 at h
    refine lv_istore (lv' := [(5, .int k0), (0, .ref (gad G 159)), (1, .int l1), (2, .int l2), (3, .int l3), (4, .int l4)]) hx hb dX6_halves_36 hl (by decide) rfl (fun ls hl => ?_)
    refine lv_aload_n hx hb dX6_halves_38 rfl (lv_at hl 1 rfl) ?_
    refine lv_iload_n hx hb dX6_halves_39 rfl (lv_at hl 2 rfl) ?_
    refine lv_iload_n hx hb dX6_halves_40 rfl (lv_at hl 3 rfl) ?_
    refine lv_iload_n hx hb dX6_halves_41 rfl (lv_at hl 4 rfl) ?_
    refine lv_iload hx hb dX6_halves_42 (lv_at hl 5 rfl) ?_
    refine lv_aload_n hx hb dX6_halves_44 rfl (lv_at hl 1 rfl) ?_
    refine lv_iload_n hx hb dX6_halves_45 rfl (lv_at hl 2 rfl) ?_
    refine lv_iconst (v := 3) hx hb dX6_halves_46 (by decide) ?_
    obtain ⟨r_1, e_2, h⟩ := bnd_e h
    refine kV_I (As := [.int l1, .int 3]) (rest := [.int l4, .int l3, .int l2, .int l1, .ref (gad G 159)]) ⟨hx, hb, hml, hown, hts⟩ (tX6_ofPlot l G S0 M l1 3 r_1 e_2) (cwV 2 hts gX6_halves_X6_ofPlot rfl rfl rfl ⟨rfl, hdX6_ofPlot⟩ ⟨Nat.le_of_ble_eq_true rfl, Nat.le_of_ble_eq_true rfl⟩) (va_recv hK.1 hW.1 (ci := 6) (q0 := 159) rfl lkM) hK hW hS hA rfl hl.1 rfl (Nat.le_of_ble_eq_true rfl) dX6_halves_47 ⟨Nat.zero_le _, Nat.zero_le _⟩ (fun H locs hW hS => ?_)
    obtain ⟨M_3, e_4, h⟩ := bnd_e h
    refine kV_V (As := [.int l1, .int l2, .int l3, .int l4, .int r_1]) (rest := []) ⟨hx, hb, hml, hown, hts⟩ (tX6_layPlot l G S0 M l1 l2 l3 l4 r_1 M_3 e_4) (cwV 5 hts gX6_halves_X6_layPlot rfl rfl rfl ⟨rfl, hdX6_layPlot⟩ ⟨Nat.le_of_ble_eq_true rfl, Nat.le_of_ble_eq_true rfl⟩) (va_recv hK.1 hW.1 (ci := 6) (q0 := 159) rfl lkM) hK hW hS hA rfl hl.1 rfl (Nat.le_of_ble_eq_true rfl) dX6_halves_50 ⟨Nat.zero_le _, Nat.zero_le _⟩ (fun H locs hW hS => ?_)
    refine lv_aload_n hx hb dX6_halves_53 rfl (lv_at hl 1 rfl) ?_
    refine lv_aload_n hx hb dX6_halves_54 rfl (lv_at hl 1 rfl) ?_
    refine va_get (D := G.1) (ci := 6) (v := .ref (gad G (160 + 0))) (C := RX6) (T := TX6) (N := 14) hx hb hts hiX6 hown hK.1 hW.1 159 lkM rfl 1 (by decide) (hts _ (List.mem_of_getElem? (i := 1) rfl)) (fun _ h9 => h9) rfl dX6_halves_55 ?_
    refine lv_iconst (v := 1) hx hb dX6_halves_58 (by decide) ?_
    obtain ⟨x_5, nx_5, ex_5, h⟩ := arr_e h
    refine va_iald hx hb hK.1 hW.1 (160 + 0) 0 (lkMa (j := 0) (by omega)) rfl nx_5 dX6_halves_59 ?_
    refine lv_ni ex_5 ?_
    refine lv_iload_n hx hb dX6_halves_60 rfl (lv_at hl 3 rfl) ?_
    refine lv_iload hx hb dX6_halves_61 (lv_at hl 0 rfl) ?_
    refine lv_if_eq (tgt := 75) hx hb dX6_halves_63 (by decide) (fun c_6 => ?_) (fun c_6 => ?_)
    · have h := ite_t c_6 h
      refine lv_iload_n hx hb dX6_halves_75 rfl (lv_at hl 4 rfl) ?_
      exact B76 _ _ M_3 hW hS ls l1 l2 l4 k0 l3 l2 x_5 (lv_sub hl [1, 2, 3, 5, 0] rfl) h
    · have h := ite_f c_6 h
      refine lv_iload_n hx hb dX6_halves_66 rfl (lv_at hl 4 rfl) ?_
      refine lv_iload_n hx hb dX6_halves_67 rfl (lv_at hl 3 rfl) ?_
      obtain ⟨r_7, e_8, h⟩ := bnd_e h
      refine kS_I (As := [.int l2]) (rest := [.int l3, .int l2, .int x_5, .ref (gad G 159)]) ⟨hx, hb, hml, hown, hts⟩ (tX6_wide l G S0 M_3 l2 r_7 e_8) (va_cwS 1 hts gX6_halves_X6_wide rfl rfl rfl hdX6_wide ⟨Nat.le_of_ble_eq_true rfl, Nat.le_of_ble_eq_true rfl⟩) hK hW hS hA rfl hl.1 rfl (Nat.le_of_ble_eq_true rfl) dX6_halves_68 ⟨Nat.zero_le _, Nat.zero_le _⟩ (fun H locs hW hS => ?_)
      refine lv_iadd hx hb dX6_halves_71 ?_
      refine lv_goto (tgt := 76) hx hb dX6_halves_72 (by decide) ?_
      exact B76 _ _ M_3 hW hS ls l1 l2 l4 k0 ((l3 + r_7)) l2 x_5 (lv_sub hl [1, 2, 3, 5, 0] rfl) h
  unfold f6_halves at h
  refine lv_aload_n hx hb dX6_halves_0 rfl (lv_at hl 0 rfl) ?_
  refine lv_iload_n hx hb dX6_halves_1 rfl (lv_at hl 1 rfl) ?_
  refine lv_iconst (v := 0) hx hb dX6_halves_2 (by decide) ?_
  obtain ⟨r_1, e_2, h⟩ := bnd_e h
  refine kV_I (As := [.int p1, .int 0]) (rest := []) ⟨hx, hb, hml, hown, hts⟩ (tX6_ofPlot l G S0 M0 p1 0 r_1 e_2) (cwV 2 hts gX6_halves_X6_ofPlot rfl rfl rfl ⟨rfl, hdX6_ofPlot⟩ ⟨Nat.le_of_ble_eq_true rfl, Nat.le_of_ble_eq_true rfl⟩) (va_recv hK.1 hW.1 (ci := 6) (q0 := 159) rfl lkM) hK hW hS hA rfl hl.1 rfl (Nat.le_of_ble_eq_true rfl) dX6_halves_3 ⟨Nat.zero_le _, Nat.zero_le _⟩ (fun H locs hW hS => ?_)
  refine lv_iconst (v := 1) hx hb dX6_halves_6 (by decide) ?_
  refine lv_iadd hx hb dX6_halves_7 ?_
  obtain ⟨x_3, ex_3, h⟩ := nam_e h
  refine lv_ni ex_3 ?_
  refine lv_istore_n (lv' := [(2, .int x_3), (0, .ref (gad G 159)), (1, .int p1)]) hx hb dX6_halves_8 rfl hl (by decide) rfl (fun ls hl => ?_)
  refine lv_aload_n hx hb dX6_halves_9 rfl (lv_at hl 1 rfl) ?_
  refine lv_iload_n hx hb dX6_halves_10 rfl (lv_at hl 2 rfl) ?_
  refine lv_iconst (v := 1) hx hb dX6_halves_11 (by decide) ?_
  obtain ⟨r_4, e_5, h⟩ := bnd_e h
  refine kV_I (As := [.int p1, .int 1]) (rest := []) ⟨hx, hb, hml, hown, hts⟩ (tX6_ofPlot l G S0 M0 p1 1 r_4 e_5) (cwV 2 hts gX6_halves_X6_ofPlot rfl rfl rfl ⟨rfl, hdX6_ofPlot⟩ ⟨Nat.le_of_ble_eq_true rfl, Nat.le_of_ble_eq_true rfl⟩) (va_recv hK.1 hW.1 (ci := 6) (q0 := 159) rfl lkM) hK hW hS hA rfl hl.1 rfl (Nat.le_of_ble_eq_true rfl) dX6_halves_12 ⟨Nat.zero_le _, Nat.zero_le _⟩ (fun H locs hW hS => ?_)
  refine lv_istore_n (lv' := [(3, .int r_4), (2, .int x_3), (0, .ref (gad G 159)), (1, .int p1)]) hx hb dX6_halves_15 rfl hl (by decide) rfl (fun ls hl => ?_)
  refine lv_aload_n hx hb dX6_halves_16 rfl (lv_at hl 2 rfl) ?_
  refine lv_iload_n hx hb dX6_halves_17 rfl (lv_at hl 3 rfl) ?_
  refine lv_iconst (v := 2) hx hb dX6_halves_18 (by decide) ?_
  obtain ⟨r_6, e_7, h⟩ := bnd_e h
  refine kV_I (As := [.int p1, .int 2]) (rest := []) ⟨hx, hb, hml, hown, hts⟩ (tX6_ofPlot l G S0 M0 p1 2 r_6 e_7) (cwV 2 hts gX6_halves_X6_ofPlot rfl rfl rfl ⟨rfl, hdX6_ofPlot⟩ ⟨Nat.le_of_ble_eq_true rfl, Nat.le_of_ble_eq_true rfl⟩) (va_recv hK.1 hW.1 (ci := 6) (q0 := 159) rfl lkM) hK hW hS hA rfl hl.1 rfl (Nat.le_of_ble_eq_true rfl) dX6_halves_19 ⟨Nat.zero_le _, Nat.zero_le _⟩ (fun H locs hW hS => ?_)
  refine lv_istore (lv' := [(4, .int r_6), (3, .int r_4), (2, .int x_3), (0, .ref (gad G 159)), (1, .int p1)]) hx hb dX6_halves_22 hl (by decide) rfl (fun ls hl => ?_)
  refine lv_iload_n hx hb dX6_halves_24 rfl (lv_at hl 2 rfl) ?_
  refine lv_iconst (v := 2) hx hb dX6_halves_25 (by decide) ?_
  refine lv_irem hx hb dX6_halves_26 (by decide) ?_
  refine lv_iconst (v := 1) hx hb dX6_halves_27 (by decide) ?_
  refine lv_icmp_ne (tgt := 35) hx hb dX6_halves_28 (by decide) (fun c_8 => ?_) (fun c_8 => ?_)
  · have h := ite_f c_8 h
    refine lv_iconst (v := 0) hx hb dX6_halves_35 (by decide) ?_
    exact B36 _ _ M0 hW hS ls p1 x_3 r_4 r_6 0 (lv_sub hl [3, 4, 2, 1, 0] rfl) h
  · have h := ite_t c_8 h
    refine lv_iconst (v := 1) hx hb dX6_halves_31 (by decide) ?_
    refine lv_goto (tgt := 36) hx hb dX6_halves_32 (by decide) ?_
    exact B36 _ _ M0 hW hS ls p1 x_3 r_4 r_6 1 (lv_sub hl [3, 4, 2, 1, 0] rfl) h
