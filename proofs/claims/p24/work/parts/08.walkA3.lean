abbrev rX1_at : Room := { frames := 0, cells := 0, slots := 0, locals := 0 }
set_option maxRecDepth 100000 in
set_option maxHeartbeats 8000000 in
theorem tX1_at (l : Launch) (G : WG) (S0 M0 : St) (p1 : Int32) (rr : Int32) (h : f1_at S0 p1 = some (rr)) : CtI l yX1_at wsX1_at rX1_at G [.ref (gad G 157), .int p1] S0 M0 rr S0 M0 := by
  refine Met.ofW (cc := cX1_at) (maxL := 2) (ret := (some .char)) (by decide) rfl ?_
  intro p e s m args below meth cd s₁ B hml hv
  obtain ⟨hargs, hK, hW⟩ := hv
  have hx := B.exec
  have hb := B.bytes
  have hr := B.returns
  have hts := atoms_spec (ws := wsX1_at) B.pre
  have hown : s.vm.findClass RX1 = some m.cls := findClass_of_methodNamed B.named
  have hlocks := B.notSynchronized
  have hA : ∀ q, Aw G q → Aw G q := fun _ h => h
  have hS : va_S (Aw G) s.heap s.heap [] := va_S.rf
  have he0 : entryFrame m args 2 = F0 m 0 ((lg_sl ([.ref (gad G 157), .int p1]) ++ List.replicate (2 - (lg_sl ([.ref (gad G 157), .int p1])).length) Slot.unset).toArray) [] := by rw [hargs]; exact lg_entry_eq _ _ _
  have hl := lv_entry ([.ref (gad G 157), .int p1]) (n := 2) (Nat.le_of_ble_eq_true rfl)
  rw [he0]
  generalize (lg_sl ([.ref (gad G 157), .int p1]) ++ List.replicate (2 - (lg_sl ([.ref (gad G 157), .int p1])).length) Slot.unset).toArray = ls at hl ⊢
  have hl : lv_has ls 2 [(0, .ref (gad G 157)), (1, .int p1)] := hl
  have hiX1 : ∀ w ∈ u_ws RX1 TX1 2, w ∈ wsX1_at := by decide +kernel
  have B23 : ∀ (H : Heap) (locs : List Loc) (_ : WD G S0 M0 H) (_ : va_S (Aw G) s.heap H locs) (ls : Array Slot) (k0 : Int32) (_ : lv_has ls 2 []) (h : f1_at_b23 S0 k0 = some (rr)), WI p l e (headSpec wsX1_at rX1_at).room s m args below meth cd G rr S0 M0 H locs (F0 m 23 ls [.int k0]) := by
    intro H locs hW hS ls k0 hl h
    unfold f1_at_b23 at h
    obtain ⟨z_1, h⟩ := isc_e h
    obtain rfl := Option.some.inj h
    exact W.zret (ty := .char) hx hb hr (nc_1 z_1) (fun t ht hw => ⟨⟨_, (), rfl, rfl, hW.ret ht⟩, hS.F ht⟩) hS.2.2 dX1_at_23
  have B22 : ∀ (H : Heap) (locs : List Loc) (_ : WD G S0 M0 H) (_ : va_S (Aw G) s.heap H locs) (ls : Array Slot) (_ : lv_has ls 2 []) (h : f1_at_b22 S0  = some (rr)), WI p l e (headSpec wsX1_at rX1_at).room s m args below meth cd G rr S0 M0 H locs (F0 m 22 ls []) := by
    intro H locs hW hS ls hl h
    unfold f1_at_b22 at h
    refine lv_iconst (v := 0) hx hb dX1_at_22 (by decide) ?_
    exact B23 _ _ hW hS ls 0 (lv_sub hl [] rfl) h
  unfold f1_at at h
  refine lv_iload_n hx hb dX1_at_0 rfl (lv_at hl 1 rfl) ?_
  refine lv_if_lt (tgt := 22) hx hb dX1_at_1 (by decide) (fun c_1 => ?_) (fun c_1 => ?_)
  · have h := ite_t c_1 h
    exact B22 _ _ hW hS ls (lv_sub hl [] rfl) h
  · have h := ite_f c_1 h
    refine lv_iload_n hx hb dX1_at_4 rfl (lv_at hl 1 rfl) ?_
    refine lv_aload_n hx hb dX1_at_5 rfl (lv_at hl 0 rfl) ?_
    refine va_get (D := G.1) (ci := 1) (v := .ref (gad G 158)) (C := RX1) (T := TX1) (N := 2) hx hb hts hiX1 hown hK.1 hW.1 157 lkX rfl 0 (by decide) (hts _ (List.mem_of_getElem? (i := 1) rfl)) (fun _ h9 => h9) rfl dX1_at_6 ?_
    refine va_alen hx hb hK.1 hW.1 158 1 lkXa rfl rfl dX1_at_9 ?_
    refine lv_icmp_ge (tgt := 22) hx hb dX1_at_10 (by decide) (fun c_2 => ?_) (fun c_2 => ?_)
    · have h := ite_t c_2 h
      exact B22 _ _ hW hS ls (lv_sub hl [] rfl) h
    · have h := ite_f c_2 h
      refine lv_aload_n hx hb dX1_at_13 rfl (lv_at hl 0 rfl) ?_
      refine va_get (D := G.1) (ci := 1) (v := .ref (gad G 158)) (C := RX1) (T := TX1) (N := 2) hx hb hts hiX1 hown hK.1 hW.1 157 lkX rfl 0 (by decide) (hts _ (List.mem_of_getElem? (i := 1) rfl)) (fun _ h9 => h9) rfl dX1_at_14 ?_
      refine lv_iload_n hx hb dX1_at_17 rfl (lv_at hl 1 rfl) ?_
      obtain ⟨x_3, nx_3, ex_3, h⟩ := arr_e h
      refine va_cald hx hb hK.1 hW.1 158 1 lkXa rfl nx_3 dX1_at_18 ?_
      refine lv_ni ex_3 ?_
      refine lv_goto (tgt := 23) hx hb dX1_at_19 (by decide) ?_
      exact B23 _ _ hW hS ls x_3 (lv_sub hl [] rfl) h
abbrev rX1_isDigit : Room := { frames := 0, cells := 0, slots := 0, locals := 0 }
set_option maxRecDepth 100000 in
set_option maxHeartbeats 8000000 in
theorem tX1_isDigit (l : Launch) (G : WG) (S0 M0 : St) (p0 : Int32) (rr : Int32) (h : f1_isDigit p0 = some (rr)) : CtI l yX1_isDigit wsX1_isDigit rX1_isDigit G [.int p0] S0 M0 rr S0 M0 := by
  refine Met.ofW (cc := cX1_isDigit) (maxL := 1) (ret := (some .boolean)) (by decide) rfl ?_
  intro p e s m args below meth cd s₁ B hml hv
  obtain ⟨hargs, hK, hW⟩ := hv
  have hx := B.exec
  have hb := B.bytes
  have hr := B.returns
  have hts := atoms_spec (ws := wsX1_isDigit) B.pre
  have hown : s.vm.findClass RX1 = some m.cls := findClass_of_methodNamed B.named
  have hlocks := B.notSynchronized
  have hA : ∀ q, Aw G q → Aw G q := fun _ h => h
  have hS : va_S (Aw G) s.heap s.heap [] := va_S.rf
  have he0 : entryFrame m args 1 = F0 m 0 ((lg_sl ([.int p0]) ++ List.replicate (1 - (lg_sl ([.int p0])).length) Slot.unset).toArray) [] := by rw [hargs]; exact lg_entry_eq _ _ _
  have hl := lv_entry ([.int p0]) (n := 1) (Nat.le_of_ble_eq_true rfl)
  rw [he0]
  generalize (lg_sl ([.int p0]) ++ List.replicate (1 - (lg_sl ([.int p0])).length) Slot.unset).toArray = ls at hl ⊢
  have hl : lv_has ls 1 [(0, .int p0)] := hl
  have B17 : ∀ (H : Heap) (locs : List Loc) (_ : WD G S0 M0 H) (_ : va_S (Aw G) s.heap H locs) (ls : Array Slot) (k0 : Int32) (_ : lv_has ls 1 []) (h : f1_isDigit_b17  k0 = some (rr)), WI p l e (headSpec wsX1_isDigit rX1_isDigit).room s m args below meth cd G rr S0 M0 H locs (F0 m 17 ls [.int k0]) := by
    intro H locs hW hS ls k0 hl h
    unfold f1_isDigit_b17 at h
    obtain ⟨z_1, h⟩ := isz_e h
    obtain rfl := Option.some.inj h
    exact W.zret (ty := .boolean) hx hb hr (nz_1 z_1) (fun t ht hw => ⟨⟨_, (), rfl, rfl, hW.ret ht⟩, hS.F ht⟩) hS.2.2 dX1_isDigit_17
  have B16 : ∀ (H : Heap) (locs : List Loc) (_ : WD G S0 M0 H) (_ : va_S (Aw G) s.heap H locs) (ls : Array Slot) (_ : lv_has ls 1 []) (h : f1_isDigit_b16   = some (rr)), WI p l e (headSpec wsX1_isDigit rX1_isDigit).room s m args below meth cd G rr S0 M0 H locs (F0 m 16 ls []) := by
    intro H locs hW hS ls hl h
    unfold f1_isDigit_b16 at h
    refine lv_iconst (v := 0) hx hb dX1_isDigit_16 (by decide) ?_
    exact B17 _ _ hW hS ls 0 (lv_sub hl [] rfl) h
  unfold f1_isDigit at h
  refine lv_iload_n hx hb dX1_isDigit_0 rfl (lv_at hl 0 rfl) ?_
  refine lv_bipush (v := 48) hx hb dX1_isDigit_1 (by decide) ?_
  refine lv_icmp_lt (tgt := 16) hx hb dX1_isDigit_3 (by decide) (fun c_1 => ?_) (fun c_1 => ?_)
  · have h := ite_t c_1 h
    exact B16 _ _ hW hS ls (lv_sub hl [] rfl) h
  · have h := ite_f c_1 h
    refine lv_iload_n hx hb dX1_isDigit_6 rfl (lv_at hl 0 rfl) ?_
    refine lv_bipush (v := 57) hx hb dX1_isDigit_7 (by decide) ?_
    refine lv_icmp_gt (tgt := 16) hx hb dX1_isDigit_9 (by decide) (fun c_2 => ?_) (fun c_2 => ?_)
    · have h := ite_t c_2 h
      exact B16 _ _ hW hS ls (lv_sub hl [] rfl) h
    · have h := ite_f c_2 h
      refine lv_iconst (v := 1) hx hb dX1_isDigit_12 (by decide) ?_
      refine lv_goto (tgt := 17) hx hb dX1_isDigit_13 (by decide) ?_
      exact B17 _ _ hW hS ls 1 (lv_sub hl [] rfl) h
abbrev rX1_extended : Room := { frames := 0, cells := 0, slots := 0, locals := 0 }
set_option maxRecDepth 100000 in
set_option maxHeartbeats 8000000 in
theorem tX1_extended (l : Launch) (G : WG) (S0 M0 : St) (p0 : Int32) (p1 : Int32) (rr : Int32) (h : f1_extended p0 p1 = some (rr)) : CtI l yX1_extended wsX1_extended rX1_extended G [.int p0, .int p1] S0 M0 rr S0 M0 := by
  refine Met.ofW (cc := cX1_extended) (maxL := 3) (ret := (some .int)) (by decide) rfl ?_
  intro p e s m args below meth cd s₁ B hml hv
  obtain ⟨hargs, hK, hW⟩ := hv
  have hx := B.exec
  have hb := B.bytes
  have hr := B.returns
  have hts := atoms_spec (ws := wsX1_extended) B.pre
  have hown : s.vm.findClass RX1 = some m.cls := findClass_of_methodNamed B.named
  have hlocks := B.notSynchronized
  have hA : ∀ q, Aw G q → Aw G q := fun _ h => h
  have hS : va_S (Aw G) s.heap s.heap [] := va_S.rf
  have he0 : entryFrame m args 3 = F0 m 0 ((lg_sl ([.int p0, .int p1]) ++ List.replicate (3 - (lg_sl ([.int p0, .int p1])).length) Slot.unset).toArray) [] := by rw [hargs]; exact lg_entry_eq _ _ _
  have hl := lv_entry ([.int p0, .int p1]) (n := 3) (Nat.le_of_ble_eq_true rfl)
  rw [he0]
  generalize (lg_sl ([.int p0, .int p1]) ++ List.replicate (3 - (lg_sl ([.int p0, .int p1])).length) Slot.unset).toArray = ls at hl ⊢
  have hl : lv_has ls 3 [(0, .int p0), (1, .int p1)] := hl
  have B29 : ∀ (H : Heap) (locs : List Loc) (_ : WD G S0 M0 H) (_ : va_S (Aw G) s.heap H locs) (ls : Array Slot) (k0 : Int32) (_ : lv_has ls 3 []) (h : f1_extended_b29  k0 = some (rr)), WI p l e (headSpec wsX1_extended rX1_extended).room s m args below meth cd G rr S0 M0 H locs (F0 m 29 ls [.int k0]) := by
    intro H locs hW hS ls k0 hl h
    unfold f1_extended_b29 at h
    obtain rfl := Option.some.inj h
    exact W.iret hx hb hr (fun t ht hw => ⟨⟨_, (), rfl, rfl, hW.ret ht⟩, hS.F ht⟩) hS.2.2 dX1_extended_29
  have B24 : ∀ (H : Heap) (locs : List Loc) (_ : WD G S0 M0 H) (_ : va_S (Aw G) s.heap H locs) (ls : Array Slot) (_ : lv_has ls 3 []) (h : f1_extended_b24   = some (rr)), WI p l e (headSpec wsX1_extended rX1_extended).room s m args below meth cd G rr S0 M0 H locs (F0 m 24 ls []) := by
    intro H locs hW hS ls hl h
    unfold f1_extended_b24 at h
    refine lv_iconst (v := (-1)) hx hb dX1_extended_24 (by decide) ?_
    refine lv_goto (tgt := 29) hx hb dX1_extended_25 (by decide) ?_
    exact B29 _ _ hW hS ls ((-1)) (lv_sub hl [] rfl) h
  unfold f1_extended at h
  refine lv_iload_n hx hb dX1_extended_0 rfl (lv_at hl 0 rfl) ?_
  refine lv_iconst (v := (-1)) hx hb dX1_extended_1 (by decide) ?_
  refine lv_icmp_ne (tgt := 7) hx hb dX1_extended_2 (by decide) (fun c_1 => ?_) (fun c_1 => ?_)
  · have h := ite_f c_1 h
    refine lv_iload_n hx hb dX1_extended_7 rfl (lv_at hl 0 rfl) ?_
    refine lv_bipush (v := 10) hx hb dX1_extended_8 (by decide) ?_
    refine lv_imul hx hb dX1_extended_10 ?_
    refine lv_iload_n hx hb dX1_extended_11 rfl (lv_at hl 1 rfl) ?_
    refine lv_iadd hx hb dX1_extended_12 ?_
    obtain ⟨x_2, ex_2, h⟩ := nam_e h
    refine lv_ni ex_2 ?_
    refine lv_istore_n (lv' := [(2, .int x_2), (0, .int p0), (1, .int p1)]) hx hb dX1_extended_13 rfl hl (by decide) rfl (fun ls hl => ?_)
    refine lv_iload_n hx hb dX1_extended_14 rfl (lv_at hl 1 rfl) ?_
    refine lv_if_eq (tgt := 24) hx hb dX1_extended_15 (by decide) (fun c_3 => ?_) (fun c_3 => ?_)
    · have h := ite_t c_3 h
      exact B24 _ _ hW hS ls (lv_sub hl [] rfl) h
    · have h := ite_f c_3 h
      refine lv_iload_n hx hb dX1_extended_18 rfl (lv_at hl 0 rfl) ?_
      refine lv_bipush (v := 64) hx hb dX1_extended_19 (by decide) ?_
      refine lv_icmp_lt (tgt := 28) hx hb dX1_extended_21 (by decide) (fun c_4 => ?_) (fun c_4 => ?_)
      · have h := ite_t c_4 h
        refine lv_iload_n hx hb dX1_extended_28 rfl (lv_at hl 0 rfl) ?_
        exact B29 _ _ hW hS ls x_2 (lv_sub hl [] rfl) h
      · have h := ite_f c_4 h
        exact B24 _ _ hW hS ls (lv_sub hl [] rfl) h
  · have h := ite_t c_1 h
    refine lv_iload_n hx hb dX1_extended_5 rfl (lv_at hl 1 rfl) ?_
    obtain rfl := Option.some.inj h
    exact W.iret hx hb hr (fun t ht hw => ⟨⟨_, (), rfl, rfl, hW.ret ht⟩, hS.F ht⟩) hS.2.2 dX1_extended_6
abbrev rX1_fault : Room := { frames := 1, cells := 0, slots := 0, locals := 22 }
set_option maxRecDepth 100000 in
set_option maxHeartbeats 8000000 in
theorem tX1_fault (l : Launch) (G : WG) (S0 M0 : St) (rr : Int32) (h : f1_fault S0 = some (rr)) : CtI l yX1_fault wsX1_fault rX1_fault G [.ref (gad G 157)] S0 M0 rr S0 M0 := by
  refine Met.ofW (cc := cX1_fault) (maxL := 5) (ret := (some .int)) (by decide) rfl ?_
  intro p e s m args below meth cd s₁ B hml hv
  obtain ⟨hargs, hK, hW⟩ := hv
  have hx := B.exec
  have hb := B.bytes
  have hr := B.returns
  have hts := atoms_spec (ws := wsX1_fault) B.pre
  have hown : s.vm.findClass RX1 = some m.cls := findClass_of_methodNamed B.named
  have hlocks := B.notSynchronized
  have hA : ∀ q, Aw G q → Aw G q := fun _ h => h
  have hS : va_S (Aw G) s.heap s.heap [] := va_S.rf
  have he0 : entryFrame m args 5 = F0 m 0 ((lg_sl ([.ref (gad G 157)]) ++ List.replicate (5 - (lg_sl ([.ref (gad G 157)])).length) Slot.unset).toArray) [] := by rw [hargs]; exact lg_entry_eq _ _ _
  have hl := lv_entry ([.ref (gad G 157)]) (n := 5) (Nat.le_of_ble_eq_true rfl)
  rw [he0]
  generalize (lg_sl ([.ref (gad G 157)]) ++ List.replicate (5 - (lg_sl ([.ref (gad G 157)])).length) Slot.unset).toArray = ls at hl ⊢
  have hl : lv_has ls 5 [(0, .ref (gad G 157))] := hl
  have hiX1 : ∀ w ∈ u_ws RX1 TX1 2, w ∈ wsX1_fault := by decide +kernel
  have B82 : ∀ (H : Heap) (locs : List Loc) (_ : WD G S0 M0 H) (_ : va_S (Aw G) s.heap H locs) (ls : Array Slot) (l3 : Int32) (_ : lv_has ls 5 [(3, .int l3)]) (h : f1_fault_b82 S0 l3 = some (rr)), WI p l e (headSpec wsX1_fault rX1_fault).room s m args below meth cd G rr S0 M0 H locs (F0 m 82 ls []) := by
    intro H locs hW hS ls l3 hl h
    unfold f1_fault_b82 at h
    refine lv_iload_n hx hb dX1_fault_82 rfl (lv_at hl 0 rfl) ?_
    obtain rfl := Option.some.inj h
    exact W.iret hx hb hr (fun t ht hw => ⟨⟨_, (), rfl, rfl, hW.ret ht⟩, hS.F ht⟩) hS.2.2 dX1_fault_83
  have B107 : ∀ (H : Heap) (locs : List Loc) (_ : WD G S0 M0 H) (_ : va_S (Aw G) s.heap H locs) (ls : Array Slot) (k0 : Int32) (_ : lv_has ls 5 []) (h : f1_fault_b107 S0 k0 = some (rr)), WI p l e (headSpec wsX1_fault rX1_fault).room s m args below meth cd G rr S0 M0 H locs (F0 m 107 ls [.int k0]) := by
    intro H locs hW hS ls k0 hl h
    unfold f1_fault_b107 at h
    obtain rfl := Option.some.inj h
    exact W.iret hx hb hr (fun t ht hw => ⟨⟨_, (), rfl, rfl, hW.ret ht⟩, hS.F ht⟩) hS.2.2 dX1_fault_107
  have B103 : ∀ (H : Heap) (locs : List Loc) (_ : WD G S0 M0 H) (_ : va_S (Aw G) s.heap H locs) (ls : Array Slot) (_ : lv_has ls 5 [(0, .ref (gad G 157))]) (h : f1_fault_b103 S0  = some (rr)), WI p l e (headSpec wsX1_fault rX1_fault).room s m args below meth cd G rr S0 M0 H locs (F0 m 103 ls []) := by
    intro H locs hW hS ls hl h
    unfold f1_fault_b103 at h
    refine lv_aload_n hx hb dX1_fault_103 rfl (lv_at hl 0 rfl) ?_
    refine va_get (D := G.1) (ci := 1) (v := .int (S0.1 45)) (C := RX1) (T := TX1) (N := 2) hx hb hts hiX1 hown hK.1 hW.1 157 lkX rfl 1 (by decide) (hts _ (List.mem_of_getElem? (i := 1) rfl)) (fun _ h9 => h9) rfl dX1_fault_104 ?_
    exact B107 _ _ hW hS ls (S0.1 45) (lv_sub hl [] rfl) h
  have B6 : ∀ (n : Nat), ∀ (H : Heap) (locs : List Loc) (_ : WD G S0 M0 H) (_ : va_S (Aw G) s.heap H locs) (ls : Array Slot) (l1 : Int32) (l2 : Int32) (l3 : Int32) (_ : lv_has ls 5 [(0, .ref (gad G 157)), (1, .int l1), (2, .int l2), (3, .int l3)]) (h : f1_fault_b6 S0 n l1 l2 l3 = some (rr)), WI p l e (headSpec wsX1_fault rX1_fault).room s m args below meth cd G rr S0 M0 H locs (F0 m 6 ls []) := by
    intro n
    induction n with
    | zero => intro H locs hW hS ls l1 l2 l3 hl h; cases (show (none : Option (Int32)) = some _ from h)
    | succ n ih =>
      have B84 : ∀ (H : Heap) (locs : List Loc) (_ : WD G S0 M0 H) (_ : va_S (Aw G) s.heap H locs) (ls : Array Slot) (l1 : Int32) (l2 : Int32) (l3 : Int32) (_ : lv_has ls 5 [(0, .ref (gad G 157)), (1, .int l1), (2, .int l2), (3, .int l3)]) (h : f1_fault_b84 S0 (f1_fault_b6 S0 n) l1 l2 l3 = some (rr)), WI p l e (headSpec wsX1_fault rX1_fault).room s m args below meth cd G rr S0 M0 H locs (F0 m 84 ls []) := by
        intro H locs hW hS ls l1 l2 l3 hl h
        unfold f1_fault_b84 at h
        refine lv_iinc (v := (l3 + 1)) (lv' := [(3, .int ((l3 + 1))), (0, .ref (gad G 157)), (1, .int l1), (2, .int l2)]) hx hb dX1_fault_84 hl (k := 3) rfl rfl (by decide) rfl (fun ls hl => ?_)
        refine lv_goto (tgt := 6) hx hb dX1_fault_87 (by decide) ?_
        exact ih _ _ hW hS ls l1 l2 ((l3 + 1)) (lv_sub hl [1, 2, 3, 0] rfl) h
      have B78 : ∀ (H : Heap) (locs : List Loc) (_ : WD G S0 M0 H) (_ : va_S (Aw G) s.heap H locs) (ls : Array Slot) (l1 : Int32) (l3 : Int32) (k0 : Int32) (_ : lv_has ls 5 [(0, .ref (gad G 157)), (1, .int l1), (3, .int l3)]) (h : f1_fault_b78 S0 (f1_fault_b6 S0 n) l1 l3 k0 = some (rr)), WI p l e (headSpec wsX1_fault rX1_fault).room s m args below meth cd G rr S0 M0 H locs (F0 m 78 ls [.int k0]) := by
        intro H locs hW hS ls l1 l3 k0 hl h
        unfold f1_fault_b78 at h
        refine lv_istore_n (lv' := [(2, .int k0), (0, .ref (gad G 157)), (1, .int l1), (3, .int l3)]) hx hb dX1_fault_78 rfl hl (by decide) rfl (fun ls hl => ?_)
        refine lv_goto (tgt := 84) hx hb dX1_fault_79 (by decide) ?_
        exact B84 _ _ hW hS ls l1 k0 l3 (lv_sub hl [1, 2, 0, 3] rfl) h
      have B64 : ∀ (H : Heap) (locs : List Loc) (_ : WD G S0 M0 H) (_ : va_S (Aw G) s.heap H locs) (ls : Array Slot) (l2 : Int32) (l3 : Int32) (k0 : Int32) (k1 : Int32) (_ : lv_has ls 5 [(0, .ref (gad G 157)), (2, .int l2), (3, .int l3)]) (h : f1_fault_b64 S0 (f1_fault_b6 S0 n) l2 l3 k0 k1 = some (rr)), WI p l e (headSpec wsX1_fault rX1_fault).room s m args below meth cd G rr S0 M0 H locs (F0 m 64 ls [.int k0, .int k1]) := by
        intro H locs hW hS ls l2 l3 k0 k1 hl h
        unfold f1_fault_b64 at h
        refine lv_icmp_ne (tgt := 82) hx hb dX1_fault_64 (by decide) (fun c_1 => ?_) (fun c_1 => ?_)
        · have h := ite_f c_1 h
          exact B82 _ _ hW hS ls l3 (lv_sub hl [2] rfl) h
        · have h := ite_t c_1 h
          refine lv_iconst (v := (-1)) hx hb dX1_fault_67 (by decide) ?_
          refine lv_istore_n (lv' := [(1, .int ((-1))), (0, .ref (gad G 157)), (2, .int l2), (3, .int l3)]) hx hb dX1_fault_68 rfl hl (by decide) rfl (fun ls hl => ?_)
          refine lv_iload_n hx hb dX1_fault_69 rfl (lv_at hl 2 rfl) ?_
          refine lv_if_ne (tgt := 77) hx hb dX1_fault_70 (by decide) (fun c_2 => ?_) (fun c_2 => ?_)
          · have h := ite_f c_2 h
            refine lv_iconst (v := 0) hx hb dX1_fault_77 (by decide) ?_
            exact B78 _ _ hW hS ls ((-1)) l3 0 (lv_sub hl [1, 0, 3] rfl) h
          · have h := ite_t c_2 h
            refine lv_iconst (v := 1) hx hb dX1_fault_73 (by decide) ?_
            refine lv_goto (tgt := 78) hx hb dX1_fault_74 (by decide) ?_
            exact B78 _ _ hW hS ls ((-1)) l3 1 (lv_sub hl [1, 0, 3] rfl) h
      intro H locs hW hS ls l1 l2 l3 hl h
      rw [f1_fault_b6] at h
      refine lv_iload_n hx hb dX1_fault_6 rfl (lv_at hl 3 rfl) ?_
      refine lv_aload_n hx hb dX1_fault_7 rfl (lv_at hl 0 rfl) ?_
      refine va_get (D := G.1) (ci := 1) (v := .int (S0.1 45)) (C := RX1) (T := TX1) (N := 2) hx hb hts hiX1 hown hK.1 hW.1 157 lkX rfl 1 (by decide) (hts _ (List.mem_of_getElem? (i := 1) rfl)) (fun _ h9 => h9) rfl dX1_fault_8 ?_
      refine lv_icmp_ge (tgt := 90) hx hb dX1_fault_11 (by decide) (fun c_1 => ?_) (fun c_1 => ?_)
      · have h := ite_t c_1 h
        refine lv_iload_n hx hb dX1_fault_90 rfl (lv_at hl 2 rfl) ?_
        refine lv_if_eq (tgt := 103) hx hb dX1_fault_91 (by decide) (fun c_2 => ?_) (fun c_2 => ?_)
        · have h := ite_t c_2 h
          exact B103 _ _ hW hS ls (lv_sub hl [0] rfl) h
        · have h := ite_f c_2 h
          refine lv_iload_n hx hb dX1_fault_94 rfl (lv_at hl 1 rfl) ?_
          refine lv_iconst (v := (-1)) hx hb dX1_fault_95 (by decide) ?_
          refine lv_icmp_eq (tgt := 103) hx hb dX1_fault_96 (by decide) (fun c_3 => ?_) (fun c_3 => ?_)
          · have h := ite_t c_3 h
            exact B103 _ _ hW hS ls (lv_sub hl [0] rfl) h
          · have h := ite_f c_3 h
            refine lv_iconst (v := (-1)) hx hb dX1_fault_99 (by decide) ?_
            refine lv_goto (tgt := 107) hx hb dX1_fault_100 (by decide) ?_
            exact B107 _ _ hW hS ls ((-1)) (lv_sub hl [] rfl) h
      · have h := ite_f c_1 h
        refine lv_aload_n hx hb dX1_fault_14 rfl (lv_at hl 0 rfl) ?_
        refine lv_iload_n hx hb dX1_fault_15 rfl (lv_at hl 3 rfl) ?_
        obtain ⟨r_4, e_5, h⟩ := bnd_e h
        refine kV_I (As := [.int l3]) (rest := []) ⟨hx, hb, hml, hown, hts⟩ (tX1_at l G S0 M0 l3 r_4 e_5) (cwV 1 hts gX1_fault_X1_at rfl rfl rfl ⟨rfl, hdX1_at⟩ ⟨Nat.le_of_ble_eq_true rfl, Nat.le_of_ble_eq_true rfl⟩) (va_recv hK.1 hW.1 (ci := 1) (q0 := 157) rfl lkX) hK hW hS hA rfl hl.1 rfl (Nat.le_of_ble_eq_true rfl) dX1_fault_16 ⟨Nat.zero_le _, Nat.zero_le _⟩ (fun H locs hW hS => ?_)
        refine lv_istore (lv' := [(4, .int r_4), (0, .ref (gad G 157)), (1, .int l1), (2, .int l2), (3, .int l3)]) hx hb dX1_fault_19 hl (by decide) rfl (fun ls hl => ?_)
        refine lv_iload hx hb dX1_fault_21 (lv_at hl 0 rfl) ?_
        obtain ⟨r_6, e_7, h⟩ := bnd_e h
        refine kS_I (As := [.int r_4]) (rest := []) ⟨hx, hb, hml, hown, hts⟩ (tX1_isDigit l G S0 M0 r_4 r_6 e_7) (va_cwS 1 hts gX1_fault_X1_isDigit rfl rfl rfl hdX1_isDigit ⟨Nat.le_of_ble_eq_true rfl, Nat.le_of_ble_eq_true rfl⟩) hK hW hS hA rfl hl.1 rfl (Nat.le_of_ble_eq_true rfl) dX1_fault_23 ⟨Nat.zero_le _, Nat.zero_le _⟩ (fun H locs hW hS => ?_)
        refine lv_if_eq (tgt := 46) hx hb dX1_fault_26 (by decide) (fun c_8 => ?_) (fun c_8 => ?_)
        · have h := ite_t c_8 h
          refine lv_iload_n hx hb dX1_fault_46 rfl (lv_at hl 2 rfl) ?_
          refine lv_iconst (v := (-1)) hx hb dX1_fault_47 (by decide) ?_
          refine lv_icmp_eq (tgt := 82) hx hb dX1_fault_48 (by decide) (fun c_9 => ?_) (fun c_9 => ?_)
          · have h := ite_t c_9 h
            exact B82 _ _ hW hS ls l3 (lv_sub hl [4] rfl) h
          · have h := ite_f c_9 h
            refine lv_iload hx hb dX1_fault_51 (lv_at hl 0 rfl) ?_
            refine lv_iload_n hx hb dX1_fault_53 rfl (lv_at hl 3 rfl) ?_
            refine lv_if_eq (tgt := 62) hx hb dX1_fault_54 (by decide) (fun c_10 => ?_) (fun c_10 => ?_)
            · have h := ite_t c_10 h
              refine lv_bipush (v := 44) hx hb dX1_fault_62 (by decide) ?_
              exact B64 _ _ hW hS ls l2 l3 44 r_4 (lv_sub hl [1, 3, 4] rfl) h
            · have h := ite_f c_10 h
              refine lv_bipush (v := 59) hx hb dX1_fault_57 (by decide) ?_
              refine lv_goto (tgt := 64) hx hb dX1_fault_59 (by decide) ?_
              exact B64 _ _ hW hS ls l2 l3 59 r_4 (lv_sub hl [1, 3, 4] rfl) h
        · have h := ite_f c_8 h
          refine lv_iload_n hx hb dX1_fault_29 rfl (lv_at hl 2 rfl) ?_
          refine lv_iload hx hb dX1_fault_30 (lv_at hl 0 rfl) ?_
          refine lv_bipush (v := 48) hx hb dX1_fault_32 (by decide) ?_
          refine lv_isub hx hb dX1_fault_34 ?_
          obtain ⟨r_11, e_12, h⟩ := bnd_e h
          refine kS_I (As := [.int l1, .int ((r_4 - 48))]) (rest := []) ⟨hx, hb, hml, hown, hts⟩ (tX1_extended l G S0 M0 l1 ((r_4 - 48)) r_11 e_12) (va_cwS 2 hts gX1_fault_X1_extended rfl rfl rfl hdX1_extended ⟨Nat.le_of_ble_eq_true rfl, Nat.le_of_ble_eq_true rfl⟩) hK hW hS hA rfl hl.1 rfl (Nat.le_of_ble_eq_true rfl) dX1_fault_35 ⟨Nat.zero_le _, Nat.zero_le _⟩ (fun H locs hW hS => ?_)
          refine lv_istore_n (lv' := [(1, .int r_11), (4, .int r_4), (0, .ref (gad G 157)), (2, .int l2), (3, .int l3)]) hx hb dX1_fault_38 rfl hl (by decide) rfl (fun ls hl => ?_)
          refine lv_iload_n hx hb dX1_fault_39 rfl (lv_at hl 0 rfl) ?_
          refine lv_iconst (v := (-1)) hx hb dX1_fault_40 (by decide) ?_
          refine lv_icmp_ne (tgt := 84) hx hb dX1_fault_41 (by decide) (fun c_13 => ?_) (fun c_13 => ?_)
          · have h := ite_f c_13 h
            exact B84 _ _ hW hS ls r_11 l2 l3 (lv_sub hl [2, 0, 3, 4] rfl) h
          · have h := ite_t c_13 h
            refine lv_iload_n hx hb dX1_fault_44 rfl (lv_at hl 4 rfl) ?_
            obtain rfl := Option.some.inj h
            exact W.iret hx hb hr (fun t ht hw => ⟨⟨_, (), rfl, rfl, hW.ret ht⟩, hS.F ht⟩) hS.2.2 dX1_fault_45
  unfold f1_fault at h
  refine lv_iconst (v := (-1)) hx hb dX1_fault_0 (by decide) ?_
  refine lv_istore_n (lv' := [(1, .int ((-1))), (0, .ref (gad G 157))]) hx hb dX1_fault_1 rfl hl (by decide) rfl (fun ls hl => ?_)
  refine lv_iconst (v := 0) hx hb dX1_fault_2 (by decide) ?_
  refine lv_istore_n (lv' := [(2, .int 0), (1, .int ((-1))), (0, .ref (gad G 157))]) hx hb dX1_fault_3 rfl hl (by decide) rfl (fun ls hl => ?_)
  refine lv_iconst (v := 0) hx hb dX1_fault_4 (by decide) ?_
  refine lv_istore_n (lv' := [(3, .int 0), (2, .int 0), (1, .int ((-1))), (0, .ref (gad G 157))]) hx hb dX1_fault_5 rfl hl (by decide) rfl (fun ls hl => ?_)
  exact B6 fuelN _ _ hW hS ls ((-1)) 0 0 (lv_sub hl [3, 2, 1, 0] rfl) h
abbrev rX4_copyFrom : Room := { frames := 0, cells := 0, slots := 0, locals := 0 }
set_option maxRecDepth 100000 in
set_option maxHeartbeats 8000000 in
theorem tX4_copyFrom (l : Launch) (G : WG) (S0 M0 : St) (r : Nat) (hr : r < 70) (r1 : Nat) (hr1 : r1 < 70) (p2 : Int32) (S' : St) (h : f4_copyFrom S0 r r1 p2 = some (S')) : CtV l yX4_copyFrom wsX4_copyFrom rX4_copyFrom G [.ref (gad G (14 + r)), .ref (gad G (14 + r1)), .int p2] S0 M0 S' M0 := by
  refine Met.ofW (cc := cX4_copyFrom) (maxL := 4) (ret := none) (by decide) rfl ?_
  intro p e s m args below meth cd s₁ B hml hv
  obtain ⟨hargs, hK, hW⟩ := hv
  have hx := B.exec
  have hb := B.bytes
  have hr := B.returns
  have hts := atoms_spec (ws := wsX4_copyFrom) B.pre
  have hown : s.vm.findClass RX4 = some m.cls := findClass_of_methodNamed B.named
  have hlocks := B.notSynchronized
  have hA : ∀ q, Aw G q → Aw G q := fun _ h => h
  have hS : va_S (Aw G) s.heap s.heap [] := va_S.rf
  have he0 : entryFrame m args 4 = F0 m 0 ((lg_sl ([.ref (gad G (14 + r)), .ref (gad G (14 + r1)), .int p2]) ++ List.replicate (4 - (lg_sl ([.ref (gad G (14 + r)), .ref (gad G (14 + r1)), .int p2])).length) Slot.unset).toArray) [] := by rw [hargs]; exact lg_entry_eq _ _ _
  have hl := lv_entry ([.ref (gad G (14 + r)), .ref (gad G (14 + r1)), .int p2]) (n := 4) (Nat.le_of_ble_eq_true rfl)
  rw [he0]
  generalize (lg_sl ([.ref (gad G (14 + r)), .ref (gad G (14 + r1)), .int p2]) ++ List.replicate (4 - (lg_sl ([.ref (gad G (14 + r)), .ref (gad G (14 + r1)), .int p2])).length) Slot.unset).toArray = ls at hl ⊢
  have hl : lv_has ls 4 [(0, .ref (gad G (14 + r))), (1, .ref (gad G (14 + r1))), (2, .int p2)] := hl
  have hiX4 : ∀ w ∈ u_ws RX4 TX4 1, w ∈ wsX4_copyFrom := by decide +kernel
  have B43 : ∀ (H : Heap) (locs : List Loc) (S : St) (_ : WD G S M0 H) (_ : va_S (Aw G) s.heap H locs) (ls : Array Slot) (_ : lv_has ls 4 []) (h : f4_copyFrom_b43 S r r1  = some (S')), WV p l e (headSpec wsX4_copyFrom rX4_copyFrom).room s m args below meth cd G S' M0 H locs (F0 m 43 ls []) := by
    intro H locs S hW hS ls hl h
    unfold f4_copyFrom_b43 at h
    obtain rfl := Option.some.inj h
    exact W.vret hx hb hr (fun t ht hw => ⟨⟨(), rfl, trivial, hW.ret ht⟩, hS.F ht⟩) hS.2.2 dX4_copyFrom_43
  have B2 : ∀ (n : Nat), ∀ (H : Heap) (locs : List Loc) (S : St) (_ : WD G S M0 H) (_ : va_S (Aw G) s.heap H locs) (ls : Array Slot) (l2 : Int32) (l3 : Int32) (_ : lv_has ls 4 [(0, .ref (gad G (14 + r))), (1, .ref (gad G (14 + r1))), (2, .int l2), (3, .int l3)]) (h : f4_copyFrom_b2 r r1 l2 n S l3 = some (S')), WV p l e (headSpec wsX4_copyFrom rX4_copyFrom).room s m args below meth cd G S' M0 H locs (F0 m 2 ls []) := by
    intro n
    induction n with
    | zero => intro H locs S hW hS ls l2 l3 hl h; cases (show (none : Option (St)) = some _ from h)
    | succ n ih =>
      intro H locs S hW hS ls l2 l3 hl h
      rw [f4_copyFrom_b2] at h
      refine lv_iload_n hx hb dX4_copyFrom_2 rfl (lv_at hl 3 rfl) ?_
      refine lv_iload_n hx hb dX4_copyFrom_3 rfl (lv_at hl 2 rfl) ?_
      refine lv_icmp_ge (tgt := 43) hx hb dX4_copyFrom_4 (by decide) (fun c_1 => ?_) (fun c_1 => ?_)
      · have h := ite_t c_1 h
        exact B43 _ _ S hW hS ls (lv_sub hl [] rfl) h
      · have h := ite_f c_1 h
        refine lv_iload_n hx hb dX4_copyFrom_7 rfl (lv_at hl 3 rfl) ?_
        refine lv_aload_n hx hb dX4_copyFrom_8 rfl (lv_at hl 0 rfl) ?_
        refine va_get (D := G.1) (ci := 4) (v := .ref (gad G (84 + r))) (C := RX4) (T := TX4) (N := 1) hx hb hts hiX4 hown hK.1 hW.1 (14 + r) (lkR (r := r) (by omega)) rfl 0 (by decide) (hts _ (List.mem_of_getElem? (i := 1) rfl)) (fun _ h9 => h9) rfl dX4_copyFrom_9 ?_
        refine va_alen hx hb hK.1 hW.1 (84 + r) 0 (lkA (r := r) (by omega)) rfl rfl dX4_copyFrom_12 ?_
        refine lv_icmp_ge (tgt := 43) hx hb dX4_copyFrom_13 (by decide) (fun c_2 => ?_) (fun c_2 => ?_)
        · have h := ite_t c_2 h
          exact B43 _ _ S hW hS ls (lv_sub hl [] rfl) h
        · have h := ite_f c_2 h
          refine lv_iload_n hx hb dX4_copyFrom_16 rfl (lv_at hl 3 rfl) ?_
          refine lv_aload_n hx hb dX4_copyFrom_17 rfl (lv_at hl 1 rfl) ?_
          refine va_get (D := G.1) (ci := 4) (v := .ref (gad G (84 + r1))) (C := RX4) (T := TX4) (N := 1) hx hb hts hiX4 hown hK.1 hW.1 (14 + r1) (lkR (r := r1) (by omega)) rfl 0 (by decide) (hts _ (List.mem_of_getElem? (i := 1) rfl)) (fun _ h9 => h9) rfl dX4_copyFrom_18 ?_
          refine va_alen hx hb hK.1 hW.1 (84 + r1) 0 (lkA (r := r1) (by omega)) rfl rfl dX4_copyFrom_21 ?_
          refine lv_icmp_ge (tgt := 43) hx hb dX4_copyFrom_22 (by decide) (fun c_3 => ?_) (fun c_3 => ?_)
          · have h := ite_t c_3 h
            exact B43 _ _ S hW hS ls (lv_sub hl [] rfl) h
          · have h := ite_f c_3 h
            refine lv_aload_n hx hb dX4_copyFrom_25 rfl (lv_at hl 0 rfl) ?_
            refine va_get (D := G.1) (ci := 4) (v := .ref (gad G (84 + r))) (C := RX4) (T := TX4) (N := 1) hx hb hts hiX4 hown hK.1 hW.1 (14 + r) (lkR (r := r) (by omega)) rfl 0 (by decide) (hts _ (List.mem_of_getElem? (i := 1) rfl)) (fun _ h9 => h9) rfl dX4_copyFrom_26 ?_
            refine lv_iload_n hx hb dX4_copyFrom_29 rfl (lv_at hl 3 rfl) ?_
            refine lv_aload_n hx hb dX4_copyFrom_30 rfl (lv_at hl 1 rfl) ?_
            refine va_get (D := G.1) (ci := 4) (v := .ref (gad G (84 + r1))) (C := RX4) (T := TX4) (N := 1) hx hb hts hiX4 hown hK.1 hW.1 (14 + r1) (lkR (r := r1) (by omega)) rfl 0 (by decide) (hts _ (List.mem_of_getElem? (i := 1) rfl)) (fun _ h9 => h9) rfl dX4_copyFrom_31 ?_
            refine lv_iload_n hx hb dX4_copyFrom_34 rfl (lv_at hl 3 rfl) ?_
            obtain ⟨x_4, nx_4, ex_4, h⟩ := arr_e h
            refine va_iald hx hb hK.1 hW.1 (84 + r1) 0 (lkA (r := r1) (by omega)) rfl nx_4 dX4_copyFrom_35 ?_
            refine lv_ni ex_4 ?_
            obtain ⟨n_6, h⟩ := sto_e h
            obtain ⟨S_5, eS_5, h⟩ := nam_e h
            refine va_iast hx hb hK.1 hW.1 (hW.D hA) hS (84 + r) 0 (lkA (r := r) (by omega)) rfl n_6 dX4_copyFrom_36 (fun H locs hP hD hS => ?_)
            have hW := upA (r := r) (by omega) hW hP
            rw [← eS_5] at hW
            refine lv_iinc (v := (l3 + 1)) (lv' := [(3, .int ((l3 + 1))), (0, .ref (gad G (14 + r))), (1, .ref (gad G (14 + r1))), (2, .int l2)]) hx hb dX4_copyFrom_37 hl (k := 3) rfl rfl (by decide) rfl (fun ls hl => ?_)
            refine lv_goto (tgt := 2) hx hb dX4_copyFrom_40 (by decide) ?_
            exact ih _ _ S_5 hW hS ls l2 ((l3 + 1)) (lv_sub hl [1, 2, 3, 0] rfl) h
  unfold f4_copyFrom at h
  refine lv_iconst (v := 0) hx hb dX4_copyFrom_0 (by decide) ?_
  refine lv_istore_n (lv' := [(3, .int 0), (0, .ref (gad G (14 + r))), (1, .ref (gad G (14 + r1))), (2, .int p2)]) hx hb dX4_copyFrom_1 rfl hl (by decide) rfl (fun ls hl => ?_)
  exact B2 fuelN _ _ S0 hW hS ls p2 0 (lv_sub hl [1, 2, 3, 0] rfl) h
abbrev rX3_copyFrom : Room := { frames := 1, cells := 0, slots := 0, locals := 23 }
set_option maxRecDepth 100000 in
set_option maxHeartbeats 8000000 in
theorem tX3_copyFrom (l : Launch) (G : WG) (S0 M0 : St) (c : Nat) (hc : c < 7) (c1 : Nat) (hc1 : c1 < 7) (S' : St) (h : f3_copyFrom S0 c c1 = some (S')) : CtV l yX3_copyFrom wsX3_copyFrom rX3_copyFrom G [.ref (gad G (7 + c)), .ref (gad G (7 + c1))] S0 M0 S' M0 := by
  refine Met.ofW (cc := cX3_copyFrom) (maxL := 2) (ret := none) (by decide) rfl ?_
  intro p e s m args below meth cd s₁ B hml hv
  obtain ⟨hargs, hK, hW⟩ := hv
  have hx := B.exec
  have hb := B.bytes
  have hr := B.returns
  have hts := atoms_spec (ws := wsX3_copyFrom) B.pre
  have hown : s.vm.findClass RX3 = some m.cls := findClass_of_methodNamed B.named
  have hlocks := B.notSynchronized
  have hA : ∀ q, Aw G q → Aw G q := fun _ h => h
  have hS : va_S (Aw G) s.heap s.heap [] := va_S.rf
  have he0 : entryFrame m args 2 = F0 m 0 ((lg_sl ([.ref (gad G (7 + c)), .ref (gad G (7 + c1))]) ++ List.replicate (2 - (lg_sl ([.ref (gad G (7 + c)), .ref (gad G (7 + c1))])).length) Slot.unset).toArray) [] := by rw [hargs]; exact lg_entry_eq _ _ _
  have hl := lv_entry ([.ref (gad G (7 + c)), .ref (gad G (7 + c1))]) (n := 2) (Nat.le_of_ble_eq_true rfl)
  rw [he0]
  generalize (lg_sl ([.ref (gad G (7 + c)), .ref (gad G (7 + c1))]) ++ List.replicate (2 - (lg_sl ([.ref (gad G (7 + c)), .ref (gad G (7 + c1))])).length) Slot.unset).toArray = ls at hl ⊢
  have hl : lv_has ls 2 [(0, .ref (gad G (7 + c))), (1, .ref (gad G (7 + c1)))] := hl
  have hiX3 : ∀ w ∈ u_ws RX3 TX3 5, w ∈ wsX3_copyFrom := by decide +kernel
  unfold f3_copyFrom at h
  refine lv_aload_n hx hb dX3_copyFrom_0 rfl (lv_at hl 0 rfl) ?_
  refine lv_aload_n hx hb dX3_copyFrom_1 rfl (lv_at hl 1 rfl) ?_
  refine va_get (D := G.1) (ci := 3) (v := .int (S0.1 (6 * c1 + 0))) (C := RX3) (T := TX3) (N := 5) hx hb hts hiX3 hown hK.1 hW.1 (7 + c1) (lkP (c := c1) (by omega)) rfl 4 (by decide) (hts _ (List.mem_of_getElem? (i := 1) rfl)) (fun _ h9 => h9) rfl dX3_copyFrom_2 ?_
  obtain ⟨S_1, eS_1, h⟩ := nam_e h
  refine va_put (D := G.1) (ci := 3) (v := .int (S0.1 (6 * c1 + 0))) (ty := .int) (C := RX3) (T := TX3) (N := 5) hx hb hts hiX3 tyX3 tyX3_ok nmX3 hown hK.1 hW.1 (hW.D hA) hS (7 + c) (lkP (c := c) (by omega)) rfl 4 (by decide) (hts _ (List.mem_of_getElem? (i := 1) rfl)) (fun _ h9 => h9) rfl (by decide +kernel) rfl rfl (Nat.le_of_ble_eq_true rfl) dX3_copyFrom_5 (fun H locs hP hD hS => ?_)
  have hW := upP0 (c := c) (by omega) hW hP
  rw [← eS_1] at hW
  refine lv_aload_n hx hb dX3_copyFrom_8 rfl (lv_at hl 0 rfl) ?_
  refine va_get (D := G.1) (ci := 3) (v := .ref (gad G (14 + (10 * c + 0)))) (C := RX3) (T := TX3) (N := 5) hx hb hts hiX3 hown hK.1 hW.1 (7 + c) (lkP (c := c) (by omega)) rfl 0 (by decide) (hts _ (List.mem_of_getElem? (i := 2) rfl)) (fun _ h9 => h9) rfl dX3_copyFrom_9 ?_
  refine lv_aload_n hx hb dX3_copyFrom_12 rfl (lv_at hl 1 rfl) ?_
  refine va_get (D := G.1) (ci := 3) (v := .ref (gad G (14 + (10 * c1 + 0)))) (C := RX3) (T := TX3) (N := 5) hx hb hts hiX3 hown hK.1 hW.1 (7 + c1) (lkP (c := c1) (by omega)) rfl 0 (by decide) (hts _ (List.mem_of_getElem? (i := 2) rfl)) (fun _ h9 => h9) rfl dX3_copyFrom_13 ?_
  refine lv_aload_n hx hb dX3_copyFrom_16 rfl (lv_at hl 0 rfl) ?_
  refine va_get (D := G.1) (ci := 3) (v := .int (S_1.1 (6 * c + 0))) (C := RX3) (T := TX3) (N := 5) hx hb hts hiX3 hown hK.1 hW.1 (7 + c) (lkP (c := c) (by omega)) rfl 4 (by decide) (hts _ (List.mem_of_getElem? (i := 1) rfl)) (fun _ h9 => h9) rfl dX3_copyFrom_17 ?_
  obtain ⟨S_2, e_3, h⟩ := bnd_e h
  refine kV_V (As := [.ref (gad G (14 + (10 * c1 + 0))), .int (S_1.1 (6 * c + 0))]) (rest := []) ⟨hx, hb, hml, hown, hts⟩ (tX4_copyFrom l G S_1 M0 ((10 * c + 0)) (by omega) ((10 * c1 + 0)) (by omega) (S_1.1 (6 * c + 0)) S_2 e_3) (cwV 2 hts gX3_copyFrom_X4_copyFrom rfl rfl rfl ⟨rfl, hdX4_copyFrom⟩ ⟨Nat.le_of_ble_eq_true rfl, Nat.le_of_ble_eq_true rfl⟩) (va_recv hK.1 hW.1 (ci := 4) (q0 := (14 + (10 * c + 0))) rfl (lkR (r := (10 * c + 0)) (by omega))) hK hW hS hA rfl hl.1 rfl (Nat.le_of_ble_eq_true rfl) dX3_copyFrom_20 ⟨Nat.zero_le _, Nat.zero_le _⟩ (fun H locs hW hS => ?_)
  refine lv_aload_n hx hb dX3_copyFrom_23 rfl (lv_at hl 0 rfl) ?_
  refine va_get (D := G.1) (ci := 3) (v := .ref (gad G (14 + (10 * c + 1)))) (C := RX3) (T := TX3) (N := 5) hx hb hts hiX3 hown hK.1 hW.1 (7 + c) (lkP (c := c) (by omega)) rfl 1 (by decide) (hts _ (List.mem_of_getElem? (i := 3) rfl)) (fun _ h9 => h9) rfl dX3_copyFrom_24 ?_
  refine lv_aload_n hx hb dX3_copyFrom_27 rfl (lv_at hl 1 rfl) ?_
  refine va_get (D := G.1) (ci := 3) (v := .ref (gad G (14 + (10 * c1 + 1)))) (C := RX3) (T := TX3) (N := 5) hx hb hts hiX3 hown hK.1 hW.1 (7 + c1) (lkP (c := c1) (by omega)) rfl 1 (by decide) (hts _ (List.mem_of_getElem? (i := 3) rfl)) (fun _ h9 => h9) rfl dX3_copyFrom_28 ?_
  refine lv_aload_n hx hb dX3_copyFrom_31 rfl (lv_at hl 0 rfl) ?_
  refine va_get (D := G.1) (ci := 3) (v := .int (S_2.1 (6 * c + 0))) (C := RX3) (T := TX3) (N := 5) hx hb hts hiX3 hown hK.1 hW.1 (7 + c) (lkP (c := c) (by omega)) rfl 4 (by decide) (hts _ (List.mem_of_getElem? (i := 1) rfl)) (fun _ h9 => h9) rfl dX3_copyFrom_32 ?_
  obtain ⟨S_4, e_5, h⟩ := bnd_e h
  refine kV_V (As := [.ref (gad G (14 + (10 * c1 + 1))), .int (S_2.1 (6 * c + 0))]) (rest := []) ⟨hx, hb, hml, hown, hts⟩ (tX4_copyFrom l G S_2 M0 ((10 * c + 1)) (by omega) ((10 * c1 + 1)) (by omega) (S_2.1 (6 * c + 0)) S_4 e_5) (cwV 2 hts gX3_copyFrom_X4_copyFrom rfl rfl rfl ⟨rfl, hdX4_copyFrom⟩ ⟨Nat.le_of_ble_eq_true rfl, Nat.le_of_ble_eq_true rfl⟩) (va_recv hK.1 hW.1 (ci := 4) (q0 := (14 + (10 * c + 1))) rfl (lkR (r := (10 * c + 1)) (by omega))) hK hW hS hA rfl hl.1 rfl (Nat.le_of_ble_eq_true rfl) dX3_copyFrom_35 ⟨Nat.zero_le _, Nat.zero_le _⟩ (fun H locs hW hS => ?_)
  refine lv_aload_n hx hb dX3_copyFrom_38 rfl (lv_at hl 0 rfl) ?_
  refine va_get (D := G.1) (ci := 3) (v := .ref (gad G (14 + (10 * c + 2)))) (C := RX3) (T := TX3) (N := 5) hx hb hts hiX3 hown hK.1 hW.1 (7 + c) (lkP (c := c) (by omega)) rfl 2 (by decide) (hts _ (List.mem_of_getElem? (i := 4) rfl)) (fun _ h9 => h9) rfl dX3_copyFrom_39 ?_
  refine lv_aload_n hx hb dX3_copyFrom_42 rfl (lv_at hl 1 rfl) ?_
  refine va_get (D := G.1) (ci := 3) (v := .ref (gad G (14 + (10 * c1 + 2)))) (C := RX3) (T := TX3) (N := 5) hx hb hts hiX3 hown hK.1 hW.1 (7 + c1) (lkP (c := c1) (by omega)) rfl 2 (by decide) (hts _ (List.mem_of_getElem? (i := 4) rfl)) (fun _ h9 => h9) rfl dX3_copyFrom_43 ?_
  refine lv_aload_n hx hb dX3_copyFrom_46 rfl (lv_at hl 0 rfl) ?_
  refine va_get (D := G.1) (ci := 3) (v := .int (S_4.1 (6 * c + 0))) (C := RX3) (T := TX3) (N := 5) hx hb hts hiX3 hown hK.1 hW.1 (7 + c) (lkP (c := c) (by omega)) rfl 4 (by decide) (hts _ (List.mem_of_getElem? (i := 1) rfl)) (fun _ h9 => h9) rfl dX3_copyFrom_47 ?_
  obtain ⟨S_6, e_7, h⟩ := bnd_e h
  refine kV_V (As := [.ref (gad G (14 + (10 * c1 + 2))), .int (S_4.1 (6 * c + 0))]) (rest := []) ⟨hx, hb, hml, hown, hts⟩ (tX4_copyFrom l G S_4 M0 ((10 * c + 2)) (by omega) ((10 * c1 + 2)) (by omega) (S_4.1 (6 * c + 0)) S_6 e_7) (cwV 2 hts gX3_copyFrom_X4_copyFrom rfl rfl rfl ⟨rfl, hdX4_copyFrom⟩ ⟨Nat.le_of_ble_eq_true rfl, Nat.le_of_ble_eq_true rfl⟩) (va_recv hK.1 hW.1 (ci := 4) (q0 := (14 + (10 * c + 2))) rfl (lkR (r := (10 * c + 2)) (by omega))) hK hW hS hA rfl hl.1 rfl (Nat.le_of_ble_eq_true rfl) dX3_copyFrom_50 ⟨Nat.zero_le _, Nat.zero_le _⟩ (fun H locs hW hS => ?_)
  refine lv_aload_n hx hb dX3_copyFrom_53 rfl (lv_at hl 0 rfl) ?_
  refine va_get (D := G.1) (ci := 3) (v := .ref (gad G (14 + (10 * c + 3)))) (C := RX3) (T := TX3) (N := 5) hx hb hts hiX3 hown hK.1 hW.1 (7 + c) (lkP (c := c) (by omega)) rfl 3 (by decide) (hts _ (List.mem_of_getElem? (i := 5) rfl)) (fun _ h9 => h9) rfl dX3_copyFrom_54 ?_
  refine lv_aload_n hx hb dX3_copyFrom_57 rfl (lv_at hl 1 rfl) ?_
  refine va_get (D := G.1) (ci := 3) (v := .ref (gad G (14 + (10 * c1 + 3)))) (C := RX3) (T := TX3) (N := 5) hx hb hts hiX3 hown hK.1 hW.1 (7 + c1) (lkP (c := c1) (by omega)) rfl 3 (by decide) (hts _ (List.mem_of_getElem? (i := 5) rfl)) (fun _ h9 => h9) rfl dX3_copyFrom_58 ?_
  refine lv_aload_n hx hb dX3_copyFrom_61 rfl (lv_at hl 0 rfl) ?_
  refine va_get (D := G.1) (ci := 3) (v := .int (S_6.1 (6 * c + 0))) (C := RX3) (T := TX3) (N := 5) hx hb hts hiX3 hown hK.1 hW.1 (7 + c) (lkP (c := c) (by omega)) rfl 4 (by decide) (hts _ (List.mem_of_getElem? (i := 1) rfl)) (fun _ h9 => h9) rfl dX3_copyFrom_62 ?_
  obtain ⟨S_8, e_9, h⟩ := bnd_e h
  refine kV_V (As := [.ref (gad G (14 + (10 * c1 + 3))), .int (S_6.1 (6 * c + 0))]) (rest := []) ⟨hx, hb, hml, hown, hts⟩ (tX4_copyFrom l G S_6 M0 ((10 * c + 3)) (by omega) ((10 * c1 + 3)) (by omega) (S_6.1 (6 * c + 0)) S_8 e_9) (cwV 2 hts gX3_copyFrom_X4_copyFrom rfl rfl rfl ⟨rfl, hdX4_copyFrom⟩ ⟨Nat.le_of_ble_eq_true rfl, Nat.le_of_ble_eq_true rfl⟩) (va_recv hK.1 hW.1 (ci := 4) (q0 := (14 + (10 * c + 3))) rfl (lkR (r := (10 * c + 3)) (by omega))) hK hW hS hA rfl hl.1 rfl (Nat.le_of_ble_eq_true rfl) dX3_copyFrom_65 ⟨Nat.zero_le _, Nat.zero_le _⟩ (fun H locs hW hS => ?_)
  obtain rfl := Option.some.inj h
  exact W.vret hx hb hr (fun t ht hw => ⟨⟨(), rfl, trivial, hW.ret ht⟩, hS.F ht⟩) hS.2.2 dX3_copyFrom_68
abbrev rX0_copyFrom : Room := { frames := 2, cells := 0, slots := 0, locals := 44 }
set_option maxRecDepth 100000 in
set_option maxHeartbeats 8000000 in
theorem tX0_copyFrom (l : Launch) (G : WG) (S0 M0 : St) (c : Nat) (hc : c < 7) (c1 : Nat) (hc1 : c1 < 7) (S' : St) (h : f0_copyFrom S0 c c1 = some (S')) : CtV l yX0_copyFrom wsX0_copyFrom rX0_copyFrom G [.ref (gad G c), .ref (gad G c1)] S0 M0 S' M0 := by
  refine Met.ofW (cc := cX0_copyFrom) (maxL := 2) (ret := none) (by decide) rfl ?_
  intro p e s m args below meth cd s₁ B hml hv
  obtain ⟨hargs, hK, hW⟩ := hv
  have hx := B.exec
  have hb := B.bytes
  have hr := B.returns
  have hts := atoms_spec (ws := wsX0_copyFrom) B.pre
  have hown : s.vm.findClass RX0 = some m.cls := findClass_of_methodNamed B.named
  have hlocks := B.notSynchronized
  have hA : ∀ q, Aw G q → Aw G q := fun _ h => h
  have hS : va_S (Aw G) s.heap s.heap [] := va_S.rf
  have he0 : entryFrame m args 2 = F0 m 0 ((lg_sl ([.ref (gad G c), .ref (gad G c1)]) ++ List.replicate (2 - (lg_sl ([.ref (gad G c), .ref (gad G c1)])).length) Slot.unset).toArray) [] := by rw [hargs]; exact lg_entry_eq _ _ _
  have hl := lv_entry ([.ref (gad G c), .ref (gad G c1)]) (n := 2) (Nat.le_of_ble_eq_true rfl)
  rw [he0]
  generalize (lg_sl ([.ref (gad G c), .ref (gad G c1)]) ++ List.replicate (2 - (lg_sl ([.ref (gad G c), .ref (gad G c1)])).length) Slot.unset).toArray = ls at hl ⊢
  have hl : lv_has ls 2 [(0, .ref (gad G c)), (1, .ref (gad G c1))] := hl
  have hiX0 : ∀ w ∈ u_ws RX0 TX0 12, w ∈ wsX0_copyFrom := by decide +kernel
  unfold f0_copyFrom at h
  refine lv_aload_n hx hb dX0_copyFrom_0 rfl (lv_at hl 0 rfl) ?_
  refine lv_aload_n hx hb dX0_copyFrom_1 rfl (lv_at hl 1 rfl) ?_
  refine va_get (D := G.1) (ci := 0) (v := .int (S0.1 (6 * c1 + 1))) (C := RX0) (T := TX0) (N := 12) hx hb hts hiX0 hown hK.1 hW.1 c1 (lkC (c := c1) (by omega)) rfl 7 (by decide) (hts _ (List.mem_of_getElem? (i := 1) rfl)) (fun _ h9 => h9) rfl dX0_copyFrom_2 ?_
  obtain ⟨S_1, eS_1, h⟩ := nam_e h
  refine va_put (D := G.1) (ci := 0) (v := .int (S0.1 (6 * c1 + 1))) (ty := .int) (C := RX0) (T := TX0) (N := 12) hx hb hts hiX0 tyX0 tyX0_ok nmX0 hown hK.1 hW.1 (hW.D hA) hS c (lkC (c := c) (by omega)) rfl 7 (by decide) (hts _ (List.mem_of_getElem? (i := 1) rfl)) (fun _ h9 => h9) rfl (by decide +kernel) rfl rfl (Nat.le_of_ble_eq_true rfl) dX0_copyFrom_5 (fun H locs hP hD hS => ?_)
  have hW := upC1 (c := c) (by omega) hW hP
  rw [← eS_1] at hW
  refine lv_aload_n hx hb dX0_copyFrom_8 rfl (lv_at hl 0 rfl) ?_
  refine lv_aload_n hx hb dX0_copyFrom_9 rfl (lv_at hl 1 rfl) ?_
  refine va_get (D := G.1) (ci := 0) (v := .int (S_1.1 (6 * c1 + 2))) (C := RX0) (T := TX0) (N := 12) hx hb hts hiX0 hown hK.1 hW.1 c1 (lkC (c := c1) (by omega)) rfl 8 (by decide) (hts _ (List.mem_of_getElem? (i := 2) rfl)) (fun _ h9 => h9) rfl dX0_copyFrom_10 ?_
  obtain ⟨S_2, eS_2, h⟩ := nam_e h
  refine va_put (D := G.1) (ci := 0) (v := .int (S_1.1 (6 * c1 + 2))) (ty := .int) (C := RX0) (T := TX0) (N := 12) hx hb hts hiX0 tyX0 tyX0_ok nmX0 hown hK.1 hW.1 (hW.D hA) hS c (lkC (c := c) (by omega)) rfl 8 (by decide) (hts _ (List.mem_of_getElem? (i := 2) rfl)) (fun _ h9 => h9) rfl (by decide +kernel) rfl rfl (Nat.le_of_ble_eq_true rfl) dX0_copyFrom_13 (fun H locs hP hD hS => ?_)
  have hW := upC2 (c := c) (by omega) hW hP
  rw [← eS_2] at hW
  refine lv_aload_n hx hb dX0_copyFrom_16 rfl (lv_at hl 0 rfl) ?_
  refine lv_aload_n hx hb dX0_copyFrom_17 rfl (lv_at hl 1 rfl) ?_
  refine va_get (D := G.1) (ci := 0) (v := .int (S_2.1 (6 * c1 + 3))) (C := RX0) (T := TX0) (N := 12) hx hb hts hiX0 hown hK.1 hW.1 c1 (lkC (c := c1) (by omega)) rfl 9 (by decide) (hts _ (List.mem_of_getElem? (i := 3) rfl)) (fun _ h9 => h9) rfl dX0_copyFrom_18 ?_
  obtain ⟨S_3, eS_3, h⟩ := nam_e h
  refine va_put (D := G.1) (ci := 0) (v := .int (S_2.1 (6 * c1 + 3))) (ty := .int) (C := RX0) (T := TX0) (N := 12) hx hb hts hiX0 tyX0 tyX0_ok nmX0 hown hK.1 hW.1 (hW.D hA) hS c (lkC (c := c) (by omega)) rfl 9 (by decide) (hts _ (List.mem_of_getElem? (i := 3) rfl)) (fun _ h9 => h9) rfl (by decide +kernel) rfl rfl (Nat.le_of_ble_eq_true rfl) dX0_copyFrom_21 (fun H locs hP hD hS => ?_)
  have hW := upC3 (c := c) (by omega) hW hP
  rw [← eS_3] at hW
  refine lv_aload_n hx hb dX0_copyFrom_24 rfl (lv_at hl 0 rfl) ?_
  refine lv_aload_n hx hb dX0_copyFrom_25 rfl (lv_at hl 1 rfl) ?_
  refine va_get (D := G.1) (ci := 0) (v := .int (S_3.1 (6 * c1 + 4))) (C := RX0) (T := TX0) (N := 12) hx hb hts hiX0 hown hK.1 hW.1 c1 (lkC (c := c1) (by omega)) rfl 10 (by decide) (hts _ (List.mem_of_getElem? (i := 4) rfl)) (fun _ h9 => h9) rfl dX0_copyFrom_26 ?_
  obtain ⟨S_4, eS_4, h⟩ := nam_e h
  refine va_put (D := G.1) (ci := 0) (v := .int (S_3.1 (6 * c1 + 4))) (ty := .int) (C := RX0) (T := TX0) (N := 12) hx hb hts hiX0 tyX0 tyX0_ok nmX0 hown hK.1 hW.1 (hW.D hA) hS c (lkC (c := c) (by omega)) rfl 10 (by decide) (hts _ (List.mem_of_getElem? (i := 4) rfl)) (fun _ h9 => h9) rfl (by decide +kernel) rfl rfl (Nat.le_of_ble_eq_true rfl) dX0_copyFrom_29 (fun H locs hP hD hS => ?_)
  have hW := upC4 (c := c) (by omega) hW hP
  rw [← eS_4] at hW
  refine lv_aload_n hx hb dX0_copyFrom_32 rfl (lv_at hl 0 rfl) ?_
  refine lv_aload_n hx hb dX0_copyFrom_33 rfl (lv_at hl 1 rfl) ?_
  refine va_get (D := G.1) (ci := 0) (v := .int (S_4.1 (6 * c1 + 5))) (C := RX0) (T := TX0) (N := 12) hx hb hts hiX0 hown hK.1 hW.1 c1 (lkC (c := c1) (by omega)) rfl 11 (by decide) (hts _ (List.mem_of_getElem? (i := 5) rfl)) (fun _ h9 => h9) rfl dX0_copyFrom_34 ?_
  obtain ⟨S_5, eS_5, h⟩ := nam_e h
  refine va_put (D := G.1) (ci := 0) (v := .int (S_4.1 (6 * c1 + 5))) (ty := .int) (C := RX0) (T := TX0) (N := 12) hx hb hts hiX0 tyX0 tyX0_ok nmX0 hown hK.1 hW.1 (hW.D hA) hS c (lkC (c := c) (by omega)) rfl 11 (by decide) (hts _ (List.mem_of_getElem? (i := 5) rfl)) (fun _ h9 => h9) rfl (by decide +kernel) rfl rfl (Nat.le_of_ble_eq_true rfl) dX0_copyFrom_37 (fun H locs hP hD hS => ?_)
  have hW := upC5 (c := c) (by omega) hW hP
  rw [← eS_5] at hW
  refine lv_aload_n hx hb dX0_copyFrom_40 rfl (lv_at hl 0 rfl) ?_
  refine va_get (D := G.1) (ci := 0) (v := .ref (gad G (7 + c))) (C := RX0) (T := TX0) (N := 12) hx hb hts hiX0 hown hK.1 hW.1 c (lkC (c := c) (by omega)) rfl 0 (by decide) (hts _ (List.mem_of_getElem? (i := 6) rfl)) (fun _ h9 => h9) rfl dX0_copyFrom_41 ?_
  refine lv_aload_n hx hb dX0_copyFrom_44 rfl (lv_at hl 1 rfl) ?_
  refine va_get (D := G.1) (ci := 0) (v := .ref (gad G (7 + c1))) (C := RX0) (T := TX0) (N := 12) hx hb hts hiX0 hown hK.1 hW.1 c1 (lkC (c := c1) (by omega)) rfl 0 (by decide) (hts _ (List.mem_of_getElem? (i := 6) rfl)) (fun _ h9 => h9) rfl dX0_copyFrom_45 ?_
  obtain ⟨S_6, e_7, h⟩ := bnd_e h
  refine kV_V (As := [.ref (gad G (7 + c1))]) (rest := []) ⟨hx, hb, hml, hown, hts⟩ (tX3_copyFrom l G S_5 M0 c (by omega) c1 (by omega) S_6 e_7) (cwV 1 hts gX0_copyFrom_X3_copyFrom rfl rfl rfl ⟨rfl, hdX3_copyFrom⟩ ⟨Nat.le_of_ble_eq_true rfl, Nat.le_of_ble_eq_true rfl⟩) (va_recv hK.1 hW.1 (ci := 3) (q0 := (7 + c)) rfl (lkP (c := c) (by omega))) hK hW hS hA rfl hl.1 rfl (Nat.le_of_ble_eq_true rfl) dX0_copyFrom_48 ⟨Nat.zero_le _, Nat.zero_le _⟩ (fun H locs hW hS => ?_)
  refine lv_aload_n hx hb dX0_copyFrom_51 rfl (lv_at hl 0 rfl) ?_
  refine va_get (D := G.1) (ci := 0) (v := .ref (gad G (14 + (10 * c + 4)))) (C := RX0) (T := TX0) (N := 12) hx hb hts hiX0 hown hK.1 hW.1 c (lkC (c := c) (by omega)) rfl 1 (by decide) (hts _ (List.mem_of_getElem? (i := 7) rfl)) (fun _ h9 => h9) rfl dX0_copyFrom_52 ?_
  refine lv_aload_n hx hb dX0_copyFrom_55 rfl (lv_at hl 1 rfl) ?_
  refine va_get (D := G.1) (ci := 0) (v := .ref (gad G (14 + (10 * c1 + 4)))) (C := RX0) (T := TX0) (N := 12) hx hb hts hiX0 hown hK.1 hW.1 c1 (lkC (c := c1) (by omega)) rfl 1 (by decide) (hts _ (List.mem_of_getElem? (i := 7) rfl)) (fun _ h9 => h9) rfl dX0_copyFrom_56 ?_
  refine lv_aload_n hx hb dX0_copyFrom_59 rfl (lv_at hl 0 rfl) ?_
  refine va_get (D := G.1) (ci := 0) (v := .int (S_6.1 (6 * c + 1))) (C := RX0) (T := TX0) (N := 12) hx hb hts hiX0 hown hK.1 hW.1 c (lkC (c := c) (by omega)) rfl 7 (by decide) (hts _ (List.mem_of_getElem? (i := 1) rfl)) (fun _ h9 => h9) rfl dX0_copyFrom_60 ?_
  obtain ⟨S_8, e_9, h⟩ := bnd_e h
  refine kV_V (As := [.ref (gad G (14 + (10 * c1 + 4))), .int (S_6.1 (6 * c + 1))]) (rest := []) ⟨hx, hb, hml, hown, hts⟩ (tX4_copyFrom l G S_6 M0 ((10 * c + 4)) (by omega) ((10 * c1 + 4)) (by omega) (S_6.1 (6 * c + 1)) S_8 e_9) (cwV 2 hts gX0_copyFrom_X4_copyFrom rfl rfl rfl ⟨rfl, hdX4_copyFrom⟩ ⟨Nat.le_of_ble_eq_true rfl, Nat.le_of_ble_eq_true rfl⟩) (va_recv hK.1 hW.1 (ci := 4) (q0 := (14 + (10 * c + 4))) rfl (lkR (r := (10 * c + 4)) (by omega))) hK hW hS hA rfl hl.1 rfl (Nat.le_of_ble_eq_true rfl) dX0_copyFrom_63 ⟨Nat.zero_le _, Nat.zero_le _⟩ (fun H locs hW hS => ?_)
  refine lv_aload_n hx hb dX0_copyFrom_66 rfl (lv_at hl 0 rfl) ?_
  refine va_get (D := G.1) (ci := 0) (v := .ref (gad G (14 + (10 * c + 5)))) (C := RX0) (T := TX0) (N := 12) hx hb hts hiX0 hown hK.1 hW.1 c (lkC (c := c) (by omega)) rfl 2 (by decide) (hts _ (List.mem_of_getElem? (i := 8) rfl)) (fun _ h9 => h9) rfl dX0_copyFrom_67 ?_
  refine lv_aload_n hx hb dX0_copyFrom_70 rfl (lv_at hl 1 rfl) ?_
  refine va_get (D := G.1) (ci := 0) (v := .ref (gad G (14 + (10 * c1 + 5)))) (C := RX0) (T := TX0) (N := 12) hx hb hts hiX0 hown hK.1 hW.1 c1 (lkC (c := c1) (by omega)) rfl 2 (by decide) (hts _ (List.mem_of_getElem? (i := 8) rfl)) (fun _ h9 => h9) rfl dX0_copyFrom_71 ?_
  refine lv_aload_n hx hb dX0_copyFrom_74 rfl (lv_at hl 0 rfl) ?_
  refine va_get (D := G.1) (ci := 0) (v := .int (S_8.1 (6 * c + 1))) (C := RX0) (T := TX0) (N := 12) hx hb hts hiX0 hown hK.1 hW.1 c (lkC (c := c) (by omega)) rfl 7 (by decide) (hts _ (List.mem_of_getElem? (i := 1) rfl)) (fun _ h9 => h9) rfl dX0_copyFrom_75 ?_
  obtain ⟨S_10, e_11, h⟩ := bnd_e h
  refine kV_V (As := [.ref (gad G (14 + (10 * c1 + 5))), .int (S_8.1 (6 * c + 1))]) (rest := []) ⟨hx, hb, hml, hown, hts⟩ (tX4_copyFrom l G S_8 M0 ((10 * c + 5)) (by omega) ((10 * c1 + 5)) (by omega) (S_8.1 (6 * c + 1)) S_10 e_11) (cwV 2 hts gX0_copyFrom_X4_copyFrom rfl rfl rfl ⟨rfl, hdX4_copyFrom⟩ ⟨Nat.le_of_ble_eq_true rfl, Nat.le_of_ble_eq_true rfl⟩) (va_recv hK.1 hW.1 (ci := 4) (q0 := (14 + (10 * c + 5))) rfl (lkR (r := (10 * c + 5)) (by omega))) hK hW hS hA rfl hl.1 rfl (Nat.le_of_ble_eq_true rfl) dX0_copyFrom_78 ⟨Nat.zero_le _, Nat.zero_le _⟩ (fun H locs hW hS => ?_)
  refine lv_aload_n hx hb dX0_copyFrom_81 rfl (lv_at hl 0 rfl) ?_
  refine va_get (D := G.1) (ci := 0) (v := .ref (gad G (14 + (10 * c + 6)))) (C := RX0) (T := TX0) (N := 12) hx hb hts hiX0 hown hK.1 hW.1 c (lkC (c := c) (by omega)) rfl 3 (by decide) (hts _ (List.mem_of_getElem? (i := 9) rfl)) (fun _ h9 => h9) rfl dX0_copyFrom_82 ?_
  refine lv_aload_n hx hb dX0_copyFrom_85 rfl (lv_at hl 1 rfl) ?_
  refine va_get (D := G.1) (ci := 0) (v := .ref (gad G (14 + (10 * c1 + 6)))) (C := RX0) (T := TX0) (N := 12) hx hb hts hiX0 hown hK.1 hW.1 c1 (lkC (c := c1) (by omega)) rfl 3 (by decide) (hts _ (List.mem_of_getElem? (i := 9) rfl)) (fun _ h9 => h9) rfl dX0_copyFrom_86 ?_
  refine lv_aload_n hx hb dX0_copyFrom_89 rfl (lv_at hl 0 rfl) ?_
  refine va_get (D := G.1) (ci := 0) (v := .int (S_10.1 (6 * c + 1))) (C := RX0) (T := TX0) (N := 12) hx hb hts hiX0 hown hK.1 hW.1 c (lkC (c := c) (by omega)) rfl 7 (by decide) (hts _ (List.mem_of_getElem? (i := 1) rfl)) (fun _ h9 => h9) rfl dX0_copyFrom_90 ?_
  obtain ⟨S_12, e_13, h⟩ := bnd_e h
  refine kV_V (As := [.ref (gad G (14 + (10 * c1 + 6))), .int (S_10.1 (6 * c + 1))]) (rest := []) ⟨hx, hb, hml, hown, hts⟩ (tX4_copyFrom l G S_10 M0 ((10 * c + 6)) (by omega) ((10 * c1 + 6)) (by omega) (S_10.1 (6 * c + 1)) S_12 e_13) (cwV 2 hts gX0_copyFrom_X4_copyFrom rfl rfl rfl ⟨rfl, hdX4_copyFrom⟩ ⟨Nat.le_of_ble_eq_true rfl, Nat.le_of_ble_eq_true rfl⟩) (va_recv hK.1 hW.1 (ci := 4) (q0 := (14 + (10 * c + 6))) rfl (lkR (r := (10 * c + 6)) (by omega))) hK hW hS hA rfl hl.1 rfl (Nat.le_of_ble_eq_true rfl) dX0_copyFrom_93 ⟨Nat.zero_le _, Nat.zero_le _⟩ (fun H locs hW hS => ?_)
  refine lv_aload_n hx hb dX0_copyFrom_96 rfl (lv_at hl 0 rfl) ?_
  refine va_get (D := G.1) (ci := 0) (v := .ref (gad G (14 + (10 * c + 7)))) (C := RX0) (T := TX0) (N := 12) hx hb hts hiX0 hown hK.1 hW.1 c (lkC (c := c) (by omega)) rfl 4 (by decide) (hts _ (List.mem_of_getElem? (i := 10) rfl)) (fun _ h9 => h9) rfl dX0_copyFrom_97 ?_
  refine lv_aload_n hx hb dX0_copyFrom_100 rfl (lv_at hl 1 rfl) ?_
  refine va_get (D := G.1) (ci := 0) (v := .ref (gad G (14 + (10 * c1 + 7)))) (C := RX0) (T := TX0) (N := 12) hx hb hts hiX0 hown hK.1 hW.1 c1 (lkC (c := c1) (by omega)) rfl 4 (by decide) (hts _ (List.mem_of_getElem? (i := 10) rfl)) (fun _ h9 => h9) rfl dX0_copyFrom_101 ?_
  refine lv_aload_n hx hb dX0_copyFrom_104 rfl (lv_at hl 0 rfl) ?_
  refine va_get (D := G.1) (ci := 0) (v := .int (S_12.1 (6 * c + 2))) (C := RX0) (T := TX0) (N := 12) hx hb hts hiX0 hown hK.1 hW.1 c (lkC (c := c) (by omega)) rfl 8 (by decide) (hts _ (List.mem_of_getElem? (i := 2) rfl)) (fun _ h9 => h9) rfl dX0_copyFrom_105 ?_
  obtain ⟨S_14, e_15, h⟩ := bnd_e h
  refine kV_V (As := [.ref (gad G (14 + (10 * c1 + 7))), .int (S_12.1 (6 * c + 2))]) (rest := []) ⟨hx, hb, hml, hown, hts⟩ (tX4_copyFrom l G S_12 M0 ((10 * c + 7)) (by omega) ((10 * c1 + 7)) (by omega) (S_12.1 (6 * c + 2)) S_14 e_15) (cwV 2 hts gX0_copyFrom_X4_copyFrom rfl rfl rfl ⟨rfl, hdX4_copyFrom⟩ ⟨Nat.le_of_ble_eq_true rfl, Nat.le_of_ble_eq_true rfl⟩) (va_recv hK.1 hW.1 (ci := 4) (q0 := (14 + (10 * c + 7))) rfl (lkR (r := (10 * c + 7)) (by omega))) hK hW hS hA rfl hl.1 rfl (Nat.le_of_ble_eq_true rfl) dX0_copyFrom_108 ⟨Nat.zero_le _, Nat.zero_le _⟩ (fun H locs hW hS => ?_)
  refine lv_aload_n hx hb dX0_copyFrom_111 rfl (lv_at hl 0 rfl) ?_
  refine va_get (D := G.1) (ci := 0) (v := .ref (gad G (14 + (10 * c + 8)))) (C := RX0) (T := TX0) (N := 12) hx hb hts hiX0 hown hK.1 hW.1 c (lkC (c := c) (by omega)) rfl 5 (by decide) (hts _ (List.mem_of_getElem? (i := 11) rfl)) (fun _ h9 => h9) rfl dX0_copyFrom_112 ?_
  refine lv_aload_n hx hb dX0_copyFrom_115 rfl (lv_at hl 1 rfl) ?_
  refine va_get (D := G.1) (ci := 0) (v := .ref (gad G (14 + (10 * c1 + 8)))) (C := RX0) (T := TX0) (N := 12) hx hb hts hiX0 hown hK.1 hW.1 c1 (lkC (c := c1) (by omega)) rfl 5 (by decide) (hts _ (List.mem_of_getElem? (i := 11) rfl)) (fun _ h9 => h9) rfl dX0_copyFrom_116 ?_
  refine lv_aload_n hx hb dX0_copyFrom_119 rfl (lv_at hl 0 rfl) ?_
  refine va_get (D := G.1) (ci := 0) (v := .int (S_14.1 (6 * c + 2))) (C := RX0) (T := TX0) (N := 12) hx hb hts hiX0 hown hK.1 hW.1 c (lkC (c := c) (by omega)) rfl 8 (by decide) (hts _ (List.mem_of_getElem? (i := 2) rfl)) (fun _ h9 => h9) rfl dX0_copyFrom_120 ?_
  obtain ⟨S_16, e_17, h⟩ := bnd_e h
  refine kV_V (As := [.ref (gad G (14 + (10 * c1 + 8))), .int (S_14.1 (6 * c + 2))]) (rest := []) ⟨hx, hb, hml, hown, hts⟩ (tX4_copyFrom l G S_14 M0 ((10 * c + 8)) (by omega) ((10 * c1 + 8)) (by omega) (S_14.1 (6 * c + 2)) S_16 e_17) (cwV 2 hts gX0_copyFrom_X4_copyFrom rfl rfl rfl ⟨rfl, hdX4_copyFrom⟩ ⟨Nat.le_of_ble_eq_true rfl, Nat.le_of_ble_eq_true rfl⟩) (va_recv hK.1 hW.1 (ci := 4) (q0 := (14 + (10 * c + 8))) rfl (lkR (r := (10 * c + 8)) (by omega))) hK hW hS hA rfl hl.1 rfl (Nat.le_of_ble_eq_true rfl) dX0_copyFrom_123 ⟨Nat.zero_le _, Nat.zero_le _⟩ (fun H locs hW hS => ?_)
  refine lv_aload_n hx hb dX0_copyFrom_126 rfl (lv_at hl 0 rfl) ?_
  refine va_get (D := G.1) (ci := 0) (v := .ref (gad G (14 + (10 * c + 9)))) (C := RX0) (T := TX0) (N := 12) hx hb hts hiX0 hown hK.1 hW.1 c (lkC (c := c) (by omega)) rfl 6 (by decide) (hts _ (List.mem_of_getElem? (i := 12) rfl)) (fun _ h9 => h9) rfl dX0_copyFrom_127 ?_
  refine lv_aload_n hx hb dX0_copyFrom_130 rfl (lv_at hl 1 rfl) ?_
  refine va_get (D := G.1) (ci := 0) (v := .ref (gad G (14 + (10 * c1 + 9)))) (C := RX0) (T := TX0) (N := 12) hx hb hts hiX0 hown hK.1 hW.1 c1 (lkC (c := c1) (by omega)) rfl 6 (by decide) (hts _ (List.mem_of_getElem? (i := 12) rfl)) (fun _ h9 => h9) rfl dX0_copyFrom_131 ?_
  refine lv_aload_n hx hb dX0_copyFrom_134 rfl (lv_at hl 0 rfl) ?_
  refine va_get (D := G.1) (ci := 0) (v := .int (S_16.1 (6 * c + 2))) (C := RX0) (T := TX0) (N := 12) hx hb hts hiX0 hown hK.1 hW.1 c (lkC (c := c) (by omega)) rfl 8 (by decide) (hts _ (List.mem_of_getElem? (i := 2) rfl)) (fun _ h9 => h9) rfl dX0_copyFrom_135 ?_
  obtain ⟨S_18, e_19, h⟩ := bnd_e h
  refine kV_V (As := [.ref (gad G (14 + (10 * c1 + 9))), .int (S_16.1 (6 * c + 2))]) (rest := []) ⟨hx, hb, hml, hown, hts⟩ (tX4_copyFrom l G S_16 M0 ((10 * c + 9)) (by omega) ((10 * c1 + 9)) (by omega) (S_16.1 (6 * c + 2)) S_18 e_19) (cwV 2 hts gX0_copyFrom_X4_copyFrom rfl rfl rfl ⟨rfl, hdX4_copyFrom⟩ ⟨Nat.le_of_ble_eq_true rfl, Nat.le_of_ble_eq_true rfl⟩) (va_recv hK.1 hW.1 (ci := 4) (q0 := (14 + (10 * c + 9))) rfl (lkR (r := (10 * c + 9)) (by omega))) hK hW hS hA rfl hl.1 rfl (Nat.le_of_ble_eq_true rfl) dX0_copyFrom_138 ⟨Nat.zero_le _, Nat.zero_le _⟩ (fun H locs hW hS => ?_)
  obtain rfl := Option.some.inj h
  exact W.vret hx hb hr (fun t ht hw => ⟨⟨(), rfl, trivial, hW.ret ht⟩, hS.F ht⟩) hS.2.2 dX0_copyFrom_141
abbrev rX1_campers : Room := { frames := 1, cells := 0, slots := 0, locals := 21 }
set_option maxRecDepth 100000 in
set_option maxHeartbeats 8000000 in
theorem tX1_campers (l : Launch) (G : WG) (S0 M0 : St) (rr : Int32) (h : f1_campers S0 = some (rr)) : CtI l yX1_campers wsX1_campers rX1_campers G [.ref (gad G 157)] S0 M0 rr S0 M0 := by
  refine Met.ofW (cc := cX1_campers) (maxL := 3) (ret := (some .int)) (by decide) rfl ?_
  intro p e s m args below meth cd s₁ B hml hv
  obtain ⟨hargs, hK, hW⟩ := hv
  have hx := B.exec
  have hb := B.bytes
  have hr := B.returns
  have hts := atoms_spec (ws := wsX1_campers) B.pre
  have hown : s.vm.findClass RX1 = some m.cls := findClass_of_methodNamed B.named
  have hlocks := B.notSynchronized
  have hA : ∀ q, Aw G q → Aw G q := fun _ h => h
  have hS : va_S (Aw G) s.heap s.heap [] := va_S.rf
  have he0 : entryFrame m args 3 = F0 m 0 ((lg_sl ([.ref (gad G 157)]) ++ List.replicate (3 - (lg_sl ([.ref (gad G 157)])).length) Slot.unset).toArray) [] := by rw [hargs]; exact lg_entry_eq _ _ _
  have hl := lv_entry ([.ref (gad G 157)]) (n := 3) (Nat.le_of_ble_eq_true rfl)
  rw [he0]
  generalize (lg_sl ([.ref (gad G 157)]) ++ List.replicate (3 - (lg_sl ([.ref (gad G 157)])).length) Slot.unset).toArray = ls at hl ⊢
  have hl : lv_has ls 3 [(0, .ref (gad G 157))] := hl
  have hiX1 : ∀ w ∈ u_ws RX1 TX1 2, w ∈ wsX1_campers := by decide +kernel
  have B4 : ∀ (n : Nat), ∀ (H : Heap) (locs : List Loc) (_ : WD G S0 M0 H) (_ : va_S (Aw G) s.heap H locs) (ls : Array Slot) (l1 : Int32) (l2 : Int32) (_ : lv_has ls 3 [(0, .ref (gad G 157)), (1, .int l1), (2, .int l2)]) (h : f1_campers_b4 S0 n l1 l2 = some (rr)), WI p l e (headSpec wsX1_campers rX1_campers).room s m args below meth cd G rr S0 M0 H locs (F0 m 4 ls []) := by
    intro n
    induction n with
    | zero => intro H locs hW hS ls l1 l2 hl h; cases (show (none : Option (Int32)) = some _ from h)
    | succ n ih =>
      have B25 : ∀ (H : Heap) (locs : List Loc) (_ : WD G S0 M0 H) (_ : va_S (Aw G) s.heap H locs) (ls : Array Slot) (l1 : Int32) (l2 : Int32) (_ : lv_has ls 3 [(0, .ref (gad G 157)), (1, .int l1), (2, .int l2)]) (h : f1_campers_b25 S0 (f1_campers_b4 S0 n) l1 l2 = some (rr)), WI p l e (headSpec wsX1_campers rX1_campers).room s m args below meth cd G rr S0 M0 H locs (F0 m 25 ls []) := by
        intro H locs hW hS ls l1 l2 hl h
        unfold f1_campers_b25 at h
        refine lv_iinc (v := (l2 + 1)) (lv' := [(2, .int ((l2 + 1))), (0, .ref (gad G 157)), (1, .int l1)]) hx hb dX1_campers_25 hl (k := 2) rfl rfl (by decide) rfl (fun ls hl => ?_)
        refine lv_goto (tgt := 4) hx hb dX1_campers_28 (by decide) ?_
        exact ih _ _ hW hS ls l1 ((l2 + 1)) (lv_sub hl [1, 2, 0] rfl) h
      intro H locs hW hS ls l1 l2 hl h
      rw [f1_campers_b4] at h
      refine lv_iload_n hx hb dX1_campers_4 rfl (lv_at hl 2 rfl) ?_
      refine lv_aload_n hx hb dX1_campers_5 rfl (lv_at hl 0 rfl) ?_
      refine va_get (D := G.1) (ci := 1) (v := .int (S0.1 45)) (C := RX1) (T := TX1) (N := 2) hx hb hts hiX1 hown hK.1 hW.1 157 lkX rfl 1 (by decide) (hts _ (List.mem_of_getElem? (i := 1) rfl)) (fun _ h9 => h9) rfl dX1_campers_6 ?_
      refine lv_icmp_ge (tgt := 31) hx hb dX1_campers_9 (by decide) (fun c_1 => ?_) (fun c_1 => ?_)
      · have h := ite_t c_1 h
        refine lv_iload_n hx hb dX1_campers_31 rfl (lv_at hl 1 rfl) ?_
        obtain rfl := Option.some.inj h
        exact W.iret hx hb hr (fun t ht hw => ⟨⟨_, (), rfl, rfl, hW.ret ht⟩, hS.F ht⟩) hS.2.2 dX1_campers_32
      · have h := ite_f c_1 h
        refine lv_aload_n hx hb dX1_campers_12 rfl (lv_at hl 0 rfl) ?_
        refine lv_iload_n hx hb dX1_campers_13 rfl (lv_at hl 2 rfl) ?_
        obtain ⟨r_2, e_3, h⟩ := bnd_e h
        refine kV_I (As := [.int l2]) (rest := []) ⟨hx, hb, hml, hown, hts⟩ (tX1_at l G S0 M0 l2 r_2 e_3) (cwV 1 hts gX1_campers_X1_at rfl rfl rfl ⟨rfl, hdX1_at⟩ ⟨Nat.le_of_ble_eq_true rfl, Nat.le_of_ble_eq_true rfl⟩) (va_recv hK.1 hW.1 (ci := 1) (q0 := 157) rfl lkX) hK hW hS hA rfl hl.1 rfl (Nat.le_of_ble_eq_true rfl) dX1_campers_14 ⟨Nat.zero_le _, Nat.zero_le _⟩ (fun H locs hW hS => ?_)
        refine lv_bipush (v := 59) hx hb dX1_campers_17 (by decide) ?_
        refine lv_icmp_ne (tgt := 25) hx hb dX1_campers_19 (by decide) (fun c_4 => ?_) (fun c_4 => ?_)
        · have h := ite_f c_4 h
          exact B25 _ _ hW hS ls l1 l2 (lv_sub hl [0, 1, 2] rfl) h
        · have h := ite_t c_4 h
          refine lv_iinc (v := (l1 + 1)) (lv' := [(1, .int ((l1 + 1))), (0, .ref (gad G 157)), (2, .int l2)]) hx hb dX1_campers_22 hl (k := 1) rfl rfl (by decide) rfl (fun ls hl => ?_)
          exact B25 _ _ hW hS ls ((l1 + 1)) l2 (lv_sub hl [1, 0, 2] rfl) h
  unfold f1_campers at h
  refine lv_iconst (v := 1) hx hb dX1_campers_0 (by decide) ?_
  refine lv_istore_n (lv' := [(1, .int 1), (0, .ref (gad G 157))]) hx hb dX1_campers_1 rfl hl (by decide) rfl (fun ls hl => ?_)
  refine lv_iconst (v := 0) hx hb dX1_campers_2 (by decide) ?_
  refine lv_istore_n (lv' := [(2, .int 0), (1, .int 1), (0, .ref (gad G 157))]) hx hb dX1_campers_3 rfl hl (by decide) rfl (fun ls hl => ?_)
  exact B4 fuelN _ _ hW hS ls 1 0 (lv_sub hl [2, 1, 0] rfl) h
abbrev rX1_number : Room := { frames := 1, cells := 0, slots := 0, locals := 21 }
set_option maxRecDepth 100000 in
set_option maxHeartbeats 8000000 in
theorem tX1_number (l : Launch) (G : WG) (S0 M0 : St) (p1 : Int32) (rr : Int32) (h : f1_number S0 p1 = some (rr)) : CtI l yX1_number wsX1_number rX1_number G [.ref (gad G 157), .int p1] S0 M0 rr S0 M0 := by
  refine Met.ofW (cc := cX1_number) (maxL := 6) (ret := (some .int)) (by decide) rfl ?_
  intro p e s m args below meth cd s₁ B hml hv
  obtain ⟨hargs, hK, hW⟩ := hv
  have hx := B.exec
  have hb := B.bytes
  have hr := B.returns
  have hts := atoms_spec (ws := wsX1_number) B.pre
  have hown : s.vm.findClass RX1 = some m.cls := findClass_of_methodNamed B.named
  have hlocks := B.notSynchronized
  have hA : ∀ q, Aw G q → Aw G q := fun _ h => h
  have hS : va_S (Aw G) s.heap s.heap [] := va_S.rf
  have he0 : entryFrame m args 6 = F0 m 0 ((lg_sl ([.ref (gad G 157), .int p1]) ++ List.replicate (6 - (lg_sl ([.ref (gad G 157), .int p1])).length) Slot.unset).toArray) [] := by rw [hargs]; exact lg_entry_eq _ _ _
  have hl := lv_entry ([.ref (gad G 157), .int p1]) (n := 6) (Nat.le_of_ble_eq_true rfl)
  rw [he0]
  generalize (lg_sl ([.ref (gad G 157), .int p1]) ++ List.replicate (6 - (lg_sl ([.ref (gad G 157), .int p1])).length) Slot.unset).toArray = ls at hl ⊢
  have hl : lv_has ls 6 [(0, .ref (gad G 157)), (1, .int p1)] := hl
  have hiX1 : ∀ w ∈ u_ws RX1 TX1 2, w ∈ wsX1_number := by decide +kernel
  have B7 : ∀ (n : Nat), ∀ (H : Heap) (locs : List Loc) (_ : WD G S0 M0 H) (_ : va_S (Aw G) s.heap H locs) (ls : Array Slot) (l1 : Int32) (l2 : Int32) (l3 : Int32) (l4 : Int32) (_ : lv_has ls 6 [(0, .ref (gad G 157)), (1, .int l1), (2, .int l2), (3, .int l3), (4, .int l4)]) (h : f1_number_b7 S0 l1 n l2 l3 l4 = some (rr)), WI p l e (headSpec wsX1_number rX1_number).room s m args below meth cd G rr S0 M0 H locs (F0 m 7 ls []) := by
    intro n
    induction n with
    | zero => intro H locs hW hS ls l1 l2 l3 l4 hl h; cases (show (none : Option (Int32)) = some _ from h)
    | succ n ih =>
      have B54 : ∀ (H : Heap) (locs : List Loc) (_ : WD G S0 M0 H) (_ : va_S (Aw G) s.heap H locs) (ls : Array Slot) (l1 : Int32) (l2 : Int32) (l3 : Int32) (l4 : Int32) (_ : lv_has ls 6 [(0, .ref (gad G 157)), (1, .int l1), (2, .int l2), (3, .int l3), (4, .int l4)]) (h : f1_number_b54 S0 (f1_number_b7 S0 l1 n) l1 l2 l3 l4 = some (rr)), WI p l e (headSpec wsX1_number rX1_number).room s m args below meth cd G rr S0 M0 H locs (F0 m 54 ls []) := by
        intro H locs hW hS ls l1 l2 l3 l4 hl h
        unfold f1_number_b54 at h
        refine lv_iinc (v := (l4 + 1)) (lv' := [(4, .int ((l4 + 1))), (0, .ref (gad G 157)), (1, .int l1), (2, .int l2), (3, .int l3)]) hx hb dX1_number_54 hl (k := 4) rfl rfl (by decide) rfl (fun ls hl => ?_)
        refine lv_goto (tgt := 7) hx hb dX1_number_57 (by decide) ?_
        exact ih _ _ hW hS ls l1 l2 l3 ((l4 + 1)) (lv_sub hl [1, 2, 3, 4, 0] rfl) h
      intro H locs hW hS ls l1 l2 l3 l4 hl h
      rw [f1_number_b7] at h
      refine lv_iload hx hb dX1_number_7 (lv_at hl 4 rfl) ?_
      refine lv_aload_n hx hb dX1_number_9 rfl (lv_at hl 0 rfl) ?_
      refine va_get (D := G.1) (ci := 1) (v := .int (S0.1 45)) (C := RX1) (T := TX1) (N := 2) hx hb hts hiX1 hown hK.1 hW.1 157 lkX rfl 1 (by decide) (hts _ (List.mem_of_getElem? (i := 1) rfl)) (fun _ h9 => h9) rfl dX1_number_10 ?_
      refine lv_icmp_ge (tgt := 60) hx hb dX1_number_13 (by decide) (fun c_1 => ?_) (fun c_1 => ?_)
      · have h := ite_t c_1 h
        refine lv_iload_n hx hb dX1_number_60 rfl (lv_at hl 3 rfl) ?_
        obtain rfl := Option.some.inj h
        exact W.iret hx hb hr (fun t ht hw => ⟨⟨_, (), rfl, rfl, hW.ret ht⟩, hS.F ht⟩) hS.2.2 dX1_number_61
      · have h := ite_f c_1 h
        refine lv_aload_n hx hb dX1_number_16 rfl (lv_at hl 0 rfl) ?_
        refine lv_iload hx hb dX1_number_17 (lv_at hl 4 rfl) ?_
        obtain ⟨r_2, e_3, h⟩ := bnd_e h
        refine kV_I (As := [.int l4]) (rest := []) ⟨hx, hb, hml, hown, hts⟩ (tX1_at l G S0 M0 l4 r_2 e_3) (cwV 1 hts gX1_number_X1_at rfl rfl rfl ⟨rfl, hdX1_at⟩ ⟨Nat.le_of_ble_eq_true rfl, Nat.le_of_ble_eq_true rfl⟩) (va_recv hK.1 hW.1 (ci := 1) (q0 := 157) rfl lkX) hK hW hS hA rfl hl.1 rfl (Nat.le_of_ble_eq_true rfl) dX1_number_19 ⟨Nat.zero_le _, Nat.zero_le _⟩ (fun H locs hW hS => ?_)
        refine lv_istore (lv' := [(5, .int r_2), (0, .ref (gad G 157)), (1, .int l1), (2, .int l2), (3, .int l3), (4, .int l4)]) hx hb dX1_number_22 hl (by decide) rfl (fun ls hl => ?_)
        refine lv_iload hx hb dX1_number_24 (lv_at hl 0 rfl) ?_
        obtain ⟨r_4, e_5, h⟩ := bnd_e h
        refine kS_I (As := [.int r_2]) (rest := []) ⟨hx, hb, hml, hown, hts⟩ (tX1_isDigit l G S0 M0 r_2 r_4 e_5) (va_cwS 1 hts gX1_number_X1_isDigit rfl rfl rfl hdX1_isDigit ⟨Nat.le_of_ble_eq_true rfl, Nat.le_of_ble_eq_true rfl⟩) hK hW hS hA rfl hl.1 rfl (Nat.le_of_ble_eq_true rfl) dX1_number_26 ⟨Nat.zero_le _, Nat.zero_le _⟩ (fun H locs hW hS => ?_)
        refine lv_if_ne (tgt := 38) hx hb dX1_number_29 (by decide) (fun c_6 => ?_) (fun c_6 => ?_)
        · have h := ite_f c_6 h
          refine lv_iload_n hx hb dX1_number_38 rfl (lv_at hl 3 rfl) ?_
          refine lv_iload_n hx hb dX1_number_39 rfl (lv_at hl 2 rfl) ?_
          refine lv_icmp_ne (tgt := 54) hx hb dX1_number_40 (by decide) (fun c_7 => ?_) (fun c_7 => ?_)
          · have h := ite_f c_7 h
            exact B54 _ _ hW hS ls l1 l2 l3 l4 (lv_sub hl [1, 2, 3, 4, 5] rfl) h
          · have h := ite_t c_7 h
            refine lv_iload_n hx hb dX1_number_43 rfl (lv_at hl 4 rfl) ?_
            refine lv_bipush (v := 10) hx hb dX1_number_44 (by decide) ?_
            refine lv_imul hx hb dX1_number_46 ?_
            refine lv_iload hx hb dX1_number_47 (lv_at hl 0 rfl) ?_
            refine lv_bipush (v := 48) hx hb dX1_number_49 (by decide) ?_
            refine lv_isub hx hb dX1_number_51 ?_
            refine lv_iadd hx hb dX1_number_52 ?_
            obtain ⟨x_8, ex_8, h⟩ := nam_e h
            refine lv_ni ex_8 ?_
            refine lv_istore_n (lv' := [(3, .int x_8), (5, .int r_2), (0, .ref (gad G 157)), (1, .int l1), (2, .int l2), (4, .int l4)]) hx hb dX1_number_53 rfl hl (by decide) rfl (fun ls hl => ?_)
            exact B54 _ _ hW hS ls l1 l2 x_8 l4 (lv_sub hl [2, 3, 4, 0, 5] rfl) h
        · have h := ite_t c_6 h
          refine lv_iinc (v := (l2 + 1)) (lv' := [(2, .int ((l2 + 1))), (5, .int r_2), (0, .ref (gad G 157)), (1, .int l1), (3, .int l3), (4, .int l4)]) hx hb dX1_number_32 hl (k := 3) rfl rfl (by decide) rfl (fun ls hl => ?_)
          refine lv_goto (tgt := 54) hx hb dX1_number_35 (by decide) ?_
          exact B54 _ _ hW hS ls l1 ((l2 + 1)) l3 l4 (lv_sub hl [2, 3, 0, 4, 5] rfl) h
  unfold f1_number at h
  refine lv_iconst (v := 0) hx hb dX1_number_0 (by decide) ?_
  refine lv_istore_n (lv' := [(2, .int 0), (0, .ref (gad G 157)), (1, .int p1)]) hx hb dX1_number_1 rfl hl (by decide) rfl (fun ls hl => ?_)
  refine lv_iconst (v := 0) hx hb dX1_number_2 (by decide) ?_
  refine lv_istore_n (lv' := [(3, .int 0), (2, .int 0), (0, .ref (gad G 157)), (1, .int p1)]) hx hb dX1_number_3 rfl hl (by decide) rfl (fun ls hl => ?_)
  refine lv_iconst (v := 0) hx hb dX1_number_4 (by decide) ?_
  refine lv_istore (lv' := [(4, .int 0), (3, .int 0), (2, .int 0), (0, .ref (gad G 157)), (1, .int p1)]) hx hb dX1_number_5 hl (by decide) rfl (fun ls hl => ?_)
  exact B7 fuelN _ _ hW hS ls p1 0 0 0 (lv_sub hl [3, 4, 2, 1, 0] rfl) h
abbrev rX3_ownerOf : Room := { frames := 1, cells := 0, slots := 0, locals := 21 }
set_option maxRecDepth 100000 in
set_option maxHeartbeats 8000000 in
theorem tX3_ownerOf (l : Launch) (G : WG) (S0 M0 : St) (c : Nat) (hc : c < 7) (p1 : Int32) (rr : Int32) (h : f3_ownerOf S0 c p1 = some (rr)) : CtI l yX3_ownerOf wsX3_ownerOf rX3_ownerOf G [.ref (gad G (7 + c)), .int p1] S0 M0 rr S0 M0 := by
  refine Met.ofW (cc := cX3_ownerOf) (maxL := 2) (ret := (some .int)) (by decide) rfl ?_
  intro p e s m args below meth cd s₁ B hml hv
  obtain ⟨hargs, hK, hW⟩ := hv
  have hx := B.exec
  have hb := B.bytes
  have hr := B.returns
  have hts := atoms_spec (ws := wsX3_ownerOf) B.pre
  have hown : s.vm.findClass RX3 = some m.cls := findClass_of_methodNamed B.named
  have hlocks := B.notSynchronized
  have hA : ∀ q, Aw G q → Aw G q := fun _ h => h
  have hS : va_S (Aw G) s.heap s.heap [] := va_S.rf
  have he0 : entryFrame m args 2 = F0 m 0 ((lg_sl ([.ref (gad G (7 + c)), .int p1]) ++ List.replicate (2 - (lg_sl ([.ref (gad G (7 + c)), .int p1])).length) Slot.unset).toArray) [] := by rw [hargs]; exact lg_entry_eq _ _ _
  have hl := lv_entry ([.ref (gad G (7 + c)), .int p1]) (n := 2) (Nat.le_of_ble_eq_true rfl)
  rw [he0]
  generalize (lg_sl ([.ref (gad G (7 + c)), .int p1]) ++ List.replicate (2 - (lg_sl ([.ref (gad G (7 + c)), .int p1])).length) Slot.unset).toArray = ls at hl ⊢
  have hl : lv_has ls 2 [(0, .ref (gad G (7 + c))), (1, .int p1)] := hl
  have hiX3 : ∀ w ∈ u_ws RX3 TX3 5, w ∈ wsX3_ownerOf := by decide +kernel
  unfold f3_ownerOf at h
  refine lv_aload_n hx hb dX3_ownerOf_0 rfl (lv_at hl 0 rfl) ?_
  refine va_get (D := G.1) (ci := 3) (v := .ref (gad G (14 + (10 * c + 3)))) (C := RX3) (T := TX3) (N := 5) hx hb hts hiX3 hown hK.1 hW.1 (7 + c) (lkP (c := c) (by omega)) rfl 3 (by decide) (hts _ (List.mem_of_getElem? (i := 1) rfl)) (fun _ h9 => h9) rfl dX3_ownerOf_1 ?_
  refine lv_iload_n hx hb dX3_ownerOf_4 rfl (lv_at hl 1 rfl) ?_
  obtain ⟨r_1, e_2, h⟩ := bnd_e h
  refine kV_I (As := [.int p1]) (rest := []) ⟨hx, hb, hml, hown, hts⟩ (tX4_at l G S0 M0 ((10 * c + 3)) (by omega) p1 r_1 e_2) (cwV 1 hts gX3_ownerOf_X4_at rfl rfl rfl ⟨rfl, hdX4_at⟩ ⟨Nat.le_of_ble_eq_true rfl, Nat.le_of_ble_eq_true rfl⟩) (va_recv hK.1 hW.1 (ci := 4) (q0 := (14 + (10 * c + 3))) rfl (lkR (r := (10 * c + 3)) (by omega))) hK hW hS hA rfl hl.1 rfl (Nat.le_of_ble_eq_true rfl) dX3_ownerOf_5 ⟨Nat.zero_le _, Nat.zero_le _⟩ (fun H locs hW hS => ?_)
  obtain rfl := Option.some.inj h
  exact W.iret hx hb hr (fun t ht hw => ⟨⟨_, (), rfl, rfl, hW.ret ht⟩, hS.F ht⟩) hS.2.2 dX3_ownerOf_8
abbrev rX0_isTentIn : Room := { frames := 2, cells := 0, slots := 0, locals := 47 }
set_option maxRecDepth 100000 in
set_option maxHeartbeats 8000000 in
theorem tX0_isTentIn (l : Launch) (G : WG) (S0 M0 : St) (c : Nat) (hc : c < 7) (p1 : Int32) (p2 : Int32) (rr : Int32) (h : f0_isTentIn S0 c p1 p2 = some (rr)) : CtI l yX0_isTentIn wsX0_isTentIn rX0_isTentIn G [.ref (gad G c), .int p1, .int p2] S0 M0 rr S0 M0 := by
  refine Met.ofW (cc := cX0_isTentIn) (maxL := 3) (ret := (some .boolean)) (by decide) rfl ?_
  intro p e s m args below meth cd s₁ B hml hv
  obtain ⟨hargs, hK, hW⟩ := hv
  have hx := B.exec
  have hb := B.bytes
  have hr := B.returns
  have hts := atoms_spec (ws := wsX0_isTentIn) B.pre
  have hown : s.vm.findClass RX0 = some m.cls := findClass_of_methodNamed B.named
  have hlocks := B.notSynchronized
  have hA : ∀ q, Aw G q → Aw G q := fun _ h => h
  have hS : va_S (Aw G) s.heap s.heap [] := va_S.rf
  have he0 : entryFrame m args 3 = F0 m 0 ((lg_sl ([.ref (gad G c), .int p1, .int p2]) ++ List.replicate (3 - (lg_sl ([.ref (gad G c), .int p1, .int p2])).length) Slot.unset).toArray) [] := by rw [hargs]; exact lg_entry_eq _ _ _
  have hl := lv_entry ([.ref (gad G c), .int p1, .int p2]) (n := 3) (Nat.le_of_ble_eq_true rfl)
  rw [he0]
  generalize (lg_sl ([.ref (gad G c), .int p1, .int p2]) ++ List.replicate (3 - (lg_sl ([.ref (gad G c), .int p1, .int p2])).length) Slot.unset).toArray = ls at hl ⊢
  have hl : lv_has ls 3 [(0, .ref (gad G c)), (1, .int p1), (2, .int p2)] := hl
  have hiX0 : ∀ w ∈ u_ws RX0 TX0 12, w ∈ wsX0_isTentIn := by decide +kernel
  have B40 : ∀ (H : Heap) (locs : List Loc) (_ : WD G S0 M0 H) (_ : va_S (Aw G) s.heap H locs) (ls : Array Slot) (k0 : Int32) (_ : lv_has ls 3 []) (h : f0_isTentIn_b40 S0 c k0 = some (rr)), WI p l e (headSpec wsX0_isTentIn rX0_isTentIn).room s m args below meth cd G rr S0 M0 H locs (F0 m 40 ls [.int k0]) := by
    intro H locs hW hS ls k0 hl h
    unfold f0_isTentIn_b40 at h
    obtain ⟨z_1, h⟩ := isz_e h
    obtain rfl := Option.some.inj h
    exact W.zret (ty := .boolean) hx hb hr (nz_1 z_1) (fun t ht hw => ⟨⟨_, (), rfl, rfl, hW.ret ht⟩, hS.F ht⟩) hS.2.2 dX0_isTentIn_40
  have B39 : ∀ (H : Heap) (locs : List Loc) (_ : WD G S0 M0 H) (_ : va_S (Aw G) s.heap H locs) (ls : Array Slot) (_ : lv_has ls 3 []) (h : f0_isTentIn_b39 S0 c  = some (rr)), WI p l e (headSpec wsX0_isTentIn rX0_isTentIn).room s m args below meth cd G rr S0 M0 H locs (F0 m 39 ls []) := by
    intro H locs hW hS ls hl h
    unfold f0_isTentIn_b39 at h
    refine lv_iconst (v := 0) hx hb dX0_isTentIn_39 (by decide) ?_
    exact B40 _ _ hW hS ls 0 (lv_sub hl [] rfl) h
  unfold f0_isTentIn at h
  refine lv_aload_n hx hb dX0_isTentIn_0 rfl (lv_at hl 0 rfl) ?_
  refine lv_iload_n hx hb dX0_isTentIn_1 rfl (lv_at hl 2 rfl) ?_
  obtain ⟨r_1, e_2, h⟩ := bnd_e h
  refine kV_I (As := [.int p2]) (rest := []) ⟨hx, hb, hml, hown, hts⟩ (tX0_isHere l G S0 M0 c (by omega) p2 r_1 e_2) (cwV 1 hts gX0_isTentIn_X0_isHere rfl rfl rfl ⟨rfl, hdX0_isHere⟩ ⟨Nat.le_of_ble_eq_true rfl, Nat.le_of_ble_eq_true rfl⟩) (va_recv hK.1 hW.1 (ci := 0) (q0 := c) rfl (lkC (c := c) (by omega))) hK hW hS hA rfl hl.1 rfl (Nat.le_of_ble_eq_true rfl) dX0_isTentIn_2 ⟨Nat.zero_le _, Nat.zero_le _⟩ (fun H locs hW hS => ?_)
  refine lv_if_eq (tgt := 39) hx hb dX0_isTentIn_5 (by decide) (fun c_3 => ?_) (fun c_3 => ?_)
  · have h := ite_t c_3 h
    exact B39 _ _ hW hS ls (lv_sub hl [] rfl) h
  · have h := ite_f c_3 h
    refine lv_aload_n hx hb dX0_isTentIn_8 rfl (lv_at hl 0 rfl) ?_
    refine va_get (D := G.1) (ci := 0) (v := .ref (gad G (7 + c))) (C := RX0) (T := TX0) (N := 12) hx hb hts hiX0 hown hK.1 hW.1 c (lkC (c := c) (by omega)) rfl 0 (by decide) (hts _ (List.mem_of_getElem? (i := 1) rfl)) (fun _ h9 => h9) rfl dX0_isTentIn_9 ?_
    refine lv_iload_n hx hb dX0_isTentIn_12 rfl (lv_at hl 1 rfl) ?_
    refine lv_aload_n hx hb dX0_isTentIn_13 rfl (lv_at hl 0 rfl) ?_
    refine va_get (D := G.1) (ci := 0) (v := .ref (gad G (14 + (10 * c + 4)))) (C := RX0) (T := TX0) (N := 12) hx hb hts hiX0 hown hK.1 hW.1 c (lkC (c := c) (by omega)) rfl 1 (by decide) (hts _ (List.mem_of_getElem? (i := 2) rfl)) (fun _ h9 => h9) rfl dX0_isTentIn_14 ?_
    refine lv_iload_n hx hb dX0_isTentIn_17 rfl (lv_at hl 2 rfl) ?_
    obtain ⟨r_4, e_5, h⟩ := bnd_e h
    refine kV_I (As := [.int p2]) (rest := [.int p1, .ref (gad G (7 + c))]) ⟨hx, hb, hml, hown, hts⟩ (tX4_at l G S0 M0 ((10 * c + 4)) (by omega) p2 r_4 e_5) (cwV 1 hts gX0_isTentIn_X4_at rfl rfl rfl ⟨rfl, hdX4_at⟩ ⟨Nat.le_of_ble_eq_true rfl, Nat.le_of_ble_eq_true rfl⟩) (va_recv hK.1 hW.1 (ci := 4) (q0 := (14 + (10 * c + 4))) rfl (lkR (r := (10 * c + 4)) (by omega))) hK hW hS hA rfl hl.1 rfl (Nat.le_of_ble_eq_true rfl) dX0_isTentIn_18 ⟨Nat.zero_le _, Nat.zero_le _⟩ (fun H locs hW hS => ?_)
    refine lv_aload_n hx hb dX0_isTentIn_21 rfl (lv_at hl 0 rfl) ?_
    refine va_get (D := G.1) (ci := 0) (v := .ref (gad G (14 + (10 * c + 5)))) (C := RX0) (T := TX0) (N := 12) hx hb hts hiX0 hown hK.1 hW.1 c (lkC (c := c) (by omega)) rfl 2 (by decide) (hts _ (List.mem_of_getElem? (i := 3) rfl)) (fun _ h9 => h9) rfl dX0_isTentIn_22 ?_
    refine lv_iload_n hx hb dX0_isTentIn_25 rfl (lv_at hl 2 rfl) ?_
    obtain ⟨r_6, e_7, h⟩ := bnd_e h
    refine kV_I (As := [.int p2]) (rest := [.int r_4, .int p1, .ref (gad G (7 + c))]) ⟨hx, hb, hml, hown, hts⟩ (tX4_at l G S0 M0 ((10 * c + 5)) (by omega) p2 r_6 e_7) (cwV 1 hts gX0_isTentIn_X4_at rfl rfl rfl ⟨rfl, hdX4_at⟩ ⟨Nat.le_of_ble_eq_true rfl, Nat.le_of_ble_eq_true rfl⟩) (va_recv hK.1 hW.1 (ci := 4) (q0 := (14 + (10 * c + 5))) rfl (lkR (r := (10 * c + 5)) (by omega))) hK hW hS hA rfl hl.1 rfl (Nat.le_of_ble_eq_true rfl) dX0_isTentIn_26 ⟨Nat.zero_le _, Nat.zero_le _⟩ (fun H locs hW hS => ?_)
    obtain ⟨r_8, e_9, h⟩ := bnd_e h
    refine kV_I (As := [.int p1, .int r_4, .int r_6]) (rest := []) ⟨hx, hb, hml, hown, hts⟩ (tX3_has l G S0 M0 c (by omega) p1 r_4 r_6 r_8 e_9) (cwV 3 hts gX0_isTentIn_X3_has rfl rfl rfl ⟨rfl, hdX3_has⟩ ⟨Nat.le_of_ble_eq_true rfl, Nat.le_of_ble_eq_true rfl⟩) (va_recv hK.1 hW.1 (ci := 3) (q0 := (7 + c)) rfl (lkP (c := c) (by omega))) hK hW hS hA rfl hl.1 rfl (Nat.le_of_ble_eq_true rfl) dX0_isTentIn_29 ⟨Nat.zero_le _, Nat.zero_le _⟩ (fun H locs hW hS => ?_)
    refine lv_if_eq (tgt := 39) hx hb dX0_isTentIn_32 (by decide) (fun c_10 => ?_) (fun c_10 => ?_)
    · have h := ite_t c_10 h
      exact B39 _ _ hW hS ls (lv_sub hl [] rfl) h
    · have h := ite_f c_10 h
      refine lv_iconst (v := 1) hx hb dX0_isTentIn_35 (by decide) ?_
      refine lv_goto (tgt := 40) hx hb dX0_isTentIn_36 (by decide) ?_
      exact B40 _ _ hW hS ls 1 (lv_sub hl [] rfl) h
abbrev rX5_partX0 : Room := { frames := 1, cells := 0, slots := 0, locals := 20 }
set_option maxRecDepth 100000 in
set_option maxHeartbeats 8000000 in
theorem tX5_partX0 (l : Launch) (G : WG) (S0 M0 : St) (p0 : Int32) (p1 : Int32) (rr : Int32) (h : f5_partX0 p0 p1 = some (rr)) : CtI l yX5_partX0 wsX5_partX0 rX5_partX0 G [.int p0, .int p1] S0 M0 rr S0 M0 := by
  refine Met.ofW (cc := cX5_partX0) (maxL := 2) (ret := (some .int)) (by decide) rfl ?_
  intro p e s m args below meth cd s₁ B hml hv
  obtain ⟨hargs, hK, hW⟩ := hv
  have hx := B.exec
  have hb := B.bytes
  have hr := B.returns
  have hts := atoms_spec (ws := wsX5_partX0) B.pre
  have hown : s.vm.findClass RX5 = some m.cls := findClass_of_methodNamed B.named
  have hlocks := B.notSynchronized
  have hA : ∀ q, Aw G q → Aw G q := fun _ h => h
  have hS : va_S (Aw G) s.heap s.heap [] := va_S.rf
  have he0 : entryFrame m args 2 = F0 m 0 ((lg_sl ([.int p0, .int p1]) ++ List.replicate (2 - (lg_sl ([.int p0, .int p1])).length) Slot.unset).toArray) [] := by rw [hargs]; exact lg_entry_eq _ _ _
  have hl := lv_entry ([.int p0, .int p1]) (n := 2) (Nat.le_of_ble_eq_true rfl)
  rw [he0]
  generalize (lg_sl ([.int p0, .int p1]) ++ List.replicate (2 - (lg_sl ([.int p0, .int p1])).length) Slot.unset).toArray = ls at hl ⊢
  have hl : lv_has ls 2 [(0, .int p0), (1, .int p1)] := hl
  unfold f5_partX0 at h
  refine lv_iload_n hx hb dX5_partX0_0 rfl (lv_at hl 0 rfl) ?_
  refine lv_iload_n hx hb dX5_partX0_1 rfl (lv_at hl 1 rfl) ?_
  obtain ⟨r_1, e_2, h⟩ := bnd_e h
  refine kS_I (As := [.int p1]) (rest := [.int p0]) ⟨hx, hb, hml, hown, hts⟩ (tX5_widthAt l G S0 M0 p1 r_1 e_2) (va_cwS 1 hts gX5_partX0_X5_widthAt rfl rfl rfl hdX5_widthAt ⟨Nat.le_of_ble_eq_true rfl, Nat.le_of_ble_eq_true rfl⟩) hK hW hS hA rfl hl.1 rfl (Nat.le_of_ble_eq_true rfl) dX5_partX0_2 ⟨Nat.zero_le _, Nat.zero_le _⟩ (fun H locs hW hS => ?_)
  refine lv_ineg hx hb dX5_partX0_5 ?_
  refine lv_iand hx hb dX5_partX0_6 ?_
  obtain rfl := Option.some.inj h
  exact W.iret hx hb hr (fun t ht hw => ⟨⟨_, (), rfl, rfl, hW.ret ht⟩, hS.F ht⟩) hS.2.2 dX5_partX0_7
abbrev rX5_partY0 : Room := { frames := 1, cells := 0, slots := 0, locals := 20 }
set_option maxRecDepth 100000 in
set_option maxHeartbeats 8000000 in
theorem tX5_partY0 (l : Launch) (G : WG) (S0 M0 : St) (p0 : Int32) (p1 : Int32) (rr : Int32) (h : f5_partY0 p0 p1 = some (rr)) : CtI l yX5_partY0 wsX5_partY0 rX5_partY0 G [.int p0, .int p1] S0 M0 rr S0 M0 := by
  refine Met.ofW (cc := cX5_partY0) (maxL := 2) (ret := (some .int)) (by decide) rfl ?_
  intro p e s m args below meth cd s₁ B hml hv
  obtain ⟨hargs, hK, hW⟩ := hv
  have hx := B.exec
  have hb := B.bytes
  have hr := B.returns
  have hts := atoms_spec (ws := wsX5_partY0) B.pre
  have hown : s.vm.findClass RX5 = some m.cls := findClass_of_methodNamed B.named
  have hlocks := B.notSynchronized
  have hA : ∀ q, Aw G q → Aw G q := fun _ h => h
  have hS : va_S (Aw G) s.heap s.heap [] := va_S.rf
  have he0 : entryFrame m args 2 = F0 m 0 ((lg_sl ([.int p0, .int p1]) ++ List.replicate (2 - (lg_sl ([.int p0, .int p1])).length) Slot.unset).toArray) [] := by rw [hargs]; exact lg_entry_eq _ _ _
  have hl := lv_entry ([.int p0, .int p1]) (n := 2) (Nat.le_of_ble_eq_true rfl)
  rw [he0]
  generalize (lg_sl ([.int p0, .int p1]) ++ List.replicate (2 - (lg_sl ([.int p0, .int p1])).length) Slot.unset).toArray = ls at hl ⊢
  have hl : lv_has ls 2 [(0, .int p0), (1, .int p1)] := hl
  unfold f5_partY0 at h
  refine lv_iload_n hx hb dX5_partY0_0 rfl (lv_at hl 0 rfl) ?_
  refine lv_iload_n hx hb dX5_partY0_1 rfl (lv_at hl 1 rfl) ?_
  obtain ⟨r_1, e_2, h⟩ := bnd_e h
  refine kS_I (As := [.int p1]) (rest := [.int p0]) ⟨hx, hb, hml, hown, hts⟩ (tX5_heightAt l G S0 M0 p1 r_1 e_2) (va_cwS 1 hts gX5_partY0_X5_heightAt rfl rfl rfl hdX5_heightAt ⟨Nat.le_of_ble_eq_true rfl, Nat.le_of_ble_eq_true rfl⟩) hK hW hS hA rfl hl.1 rfl (Nat.le_of_ble_eq_true rfl) dX5_partY0_2 ⟨Nat.zero_le _, Nat.zero_le _⟩ (fun H locs hW hS => ?_)
  refine lv_ineg hx hb dX5_partY0_5 ?_
  refine lv_iand hx hb dX5_partY0_6 ?_
  obtain rfl := Option.some.inj h
  exact W.iret hx hb hr (fun t ht hw => ⟨⟨_, (), rfl, rfl, hW.ret ht⟩, hS.F ht⟩) hS.2.2 dX5_partY0_7
abbrev rX0_isInPart : Room := { frames := 2, cells := 0, slots := 0, locals := 41 }
set_option maxRecDepth 100000 in
set_option maxHeartbeats 8000000 in
theorem tX0_isInPart (l : Launch) (G : WG) (S0 M0 : St) (p0 : Int32) (p1 : Int32) (p2 : Int32) (p3 : Int32) (p4 : Int32) (rr : Int32) (h : f0_isInPart p0 p1 p2 p3 p4 = some (rr)) : CtI l yX0_isInPart wsX0_isInPart rX0_isInPart G [.int p0, .int p1, .int p2, .int p3, .int p4] S0 M0 rr S0 M0 := by
  refine Met.ofW (cc := cX0_isInPart) (maxL := 5) (ret := (some .boolean)) (by decide) rfl ?_
  intro p e s m args below meth cd s₁ B hml hv
  obtain ⟨hargs, hK, hW⟩ := hv
  have hx := B.exec
  have hb := B.bytes
  have hr := B.returns
  have hts := atoms_spec (ws := wsX0_isInPart) B.pre
  have hown : s.vm.findClass RX0 = some m.cls := findClass_of_methodNamed B.named
  have hlocks := B.notSynchronized
  have hA : ∀ q, Aw G q → Aw G q := fun _ h => h
  have hS : va_S (Aw G) s.heap s.heap [] := va_S.rf
  have he0 : entryFrame m args 5 = F0 m 0 ((lg_sl ([.int p0, .int p1, .int p2, .int p3, .int p4]) ++ List.replicate (5 - (lg_sl ([.int p0, .int p1, .int p2, .int p3, .int p4])).length) Slot.unset).toArray) [] := by rw [hargs]; exact lg_entry_eq _ _ _
  have hl := lv_entry ([.int p0, .int p1, .int p2, .int p3, .int p4]) (n := 5) (Nat.le_of_ble_eq_true rfl)
  rw [he0]
  generalize (lg_sl ([.int p0, .int p1, .int p2, .int p3, .int p4]) ++ List.replicate (5 - (lg_sl ([.int p0, .int p1, .int p2, .int p3, .int p4])).length) Slot.unset).toArray = ls at hl ⊢
  have hl : lv_has ls 5 [(0, .int p0), (1, .int p1), (2, .int p2), (3, .int p3), (4, .int p4)] := hl
  have B35 : ∀ (H : Heap) (locs : List Loc) (_ : WD G S0 M0 H) (_ : va_S (Aw G) s.heap H locs) (ls : Array Slot) (k0 : Int32) (_ : lv_has ls 5 []) (h : f0_isInPart_b35  k0 = some (rr)), WI p l e (headSpec wsX0_isInPart rX0_isInPart).room s m args below meth cd G rr S0 M0 H locs (F0 m 35 ls [.int k0]) := by
    intro H locs hW hS ls k0 hl h
    unfold f0_isInPart_b35 at h
    obtain ⟨z_1, h⟩ := isz_e h
    obtain rfl := Option.some.inj h
    exact W.zret (ty := .boolean) hx hb hr (nz_1 z_1) (fun t ht hw => ⟨⟨_, (), rfl, rfl, hW.ret ht⟩, hS.F ht⟩) hS.2.2 dX0_isInPart_35
  have B34 : ∀ (H : Heap) (locs : List Loc) (_ : WD G S0 M0 H) (_ : va_S (Aw G) s.heap H locs) (ls : Array Slot) (_ : lv_has ls 5 []) (h : f0_isInPart_b34   = some (rr)), WI p l e (headSpec wsX0_isInPart rX0_isInPart).room s m args below meth cd G rr S0 M0 H locs (F0 m 34 ls []) := by
    intro H locs hW hS ls hl h
    unfold f0_isInPart_b34 at h
    refine lv_iconst (v := 0) hx hb dX0_isInPart_34 (by decide) ?_
    exact B35 _ _ hW hS ls 0 (lv_sub hl [] rfl) h
  unfold f0_isInPart at h
  refine lv_iload_n hx hb dX0_isInPart_0 rfl (lv_at hl 0 rfl) ?_
  refine lv_iload hx hb dX0_isInPart_1 (lv_at hl 4 rfl) ?_
  obtain ⟨r_1, e_2, h⟩ := bnd_e h
  refine kSN_I (As := [.int p0, .int p4]) (rest := []) ⟨hx, hb, hml, hown, hts⟩ (tX5_partX0 l G S0 M0 p0 p4 r_1 e_2) ⟨va_cnB 2 hts gX0_isInPart_X5_partX0_n98 rfl rfl rfl (hK.2 _ (List.mem_of_getElem? (i := 16) rfl)) (hts _ (List.mem_of_getElem? (i := 2) rfl)) hdX5_partX0 ⟨Nat.le_of_ble_eq_true rfl, Nat.le_of_ble_eq_true rfl⟩, (hts _ (List.mem_of_getElem? (i := 1) rfl)), trivial⟩ hK hW hS hA rfl hl.1 rfl (Nat.le_of_ble_eq_true rfl) dX0_isInPart_3 ⟨Nat.zero_le _, Nat.zero_le _⟩ (fun H locs hW hS => ?_)
  refine lv_iload_n hx hb dX0_isInPart_6 rfl (lv_at hl 2 rfl) ?_
  refine lv_iload hx hb dX0_isInPart_7 (lv_at hl 4 rfl) ?_
  obtain ⟨r_3, e_4, h⟩ := bnd_e h
  refine kSN_I (As := [.int p2, .int p4]) (rest := [.int r_1]) ⟨hx, hb, hml, hown, hts⟩ (tX5_partX0 l G S0 M0 p2 p4 r_3 e_4) ⟨va_cnB 2 hts gX0_isInPart_X5_partX0_n98 rfl rfl rfl (hK.2 _ (List.mem_of_getElem? (i := 16) rfl)) (hts _ (List.mem_of_getElem? (i := 2) rfl)) hdX5_partX0 ⟨Nat.le_of_ble_eq_true rfl, Nat.le_of_ble_eq_true rfl⟩, (hts _ (List.mem_of_getElem? (i := 1) rfl)), trivial⟩ hK hW hS hA rfl hl.1 rfl (Nat.le_of_ble_eq_true rfl) dX0_isInPart_9 ⟨Nat.zero_le _, Nat.zero_le _⟩ (fun H locs hW hS => ?_)
  refine lv_icmp_ne (tgt := 34) hx hb dX0_isInPart_12 (by decide) (fun c_5 => ?_) (fun c_5 => ?_)
  · have h := ite_f c_5 h
    exact B34 _ _ hW hS ls (lv_sub hl [] rfl) h
  · have h := ite_t c_5 h
    refine lv_iload_n hx hb dX0_isInPart_15 rfl (lv_at hl 1 rfl) ?_
    refine lv_iload hx hb dX0_isInPart_16 (lv_at hl 4 rfl) ?_
    obtain ⟨r_6, e_7, h⟩ := bnd_e h
    refine kSN_I (As := [.int p1, .int p4]) (rest := []) ⟨hx, hb, hml, hown, hts⟩ (tX5_partY0 l G S0 M0 p1 p4 r_6 e_7) ⟨va_cnB 2 hts gX0_isInPart_X5_partY0_n101 rfl rfl rfl (hK.2 _ (List.mem_of_getElem? (i := 17) rfl)) (hts _ (List.mem_of_getElem? (i := 2) rfl)) hdX5_partY0 ⟨Nat.le_of_ble_eq_true rfl, Nat.le_of_ble_eq_true rfl⟩, (hts _ (List.mem_of_getElem? (i := 7) rfl)), trivial⟩ hK hW hS hA rfl hl.1 rfl (Nat.le_of_ble_eq_true rfl) dX0_isInPart_18 ⟨Nat.zero_le _, Nat.zero_le _⟩ (fun H locs hW hS => ?_)
    refine lv_iload_n hx hb dX0_isInPart_21 rfl (lv_at hl 3 rfl) ?_
    refine lv_iload hx hb dX0_isInPart_22 (lv_at hl 4 rfl) ?_
    obtain ⟨r_8, e_9, h⟩ := bnd_e h
    refine kSN_I (As := [.int p3, .int p4]) (rest := [.int r_6]) ⟨hx, hb, hml, hown, hts⟩ (tX5_partY0 l G S0 M0 p3 p4 r_8 e_9) ⟨va_cnB 2 hts gX0_isInPart_X5_partY0_n101 rfl rfl rfl (hK.2 _ (List.mem_of_getElem? (i := 17) rfl)) (hts _ (List.mem_of_getElem? (i := 2) rfl)) hdX5_partY0 ⟨Nat.le_of_ble_eq_true rfl, Nat.le_of_ble_eq_true rfl⟩, (hts _ (List.mem_of_getElem? (i := 7) rfl)), trivial⟩ hK hW hS hA rfl hl.1 rfl (Nat.le_of_ble_eq_true rfl) dX0_isInPart_24 ⟨Nat.zero_le _, Nat.zero_le _⟩ (fun H locs hW hS => ?_)
    refine lv_icmp_ne (tgt := 34) hx hb dX0_isInPart_27 (by decide) (fun c_10 => ?_) (fun c_10 => ?_)
    · have h := ite_f c_10 h
      exact B34 _ _ hW hS ls (lv_sub hl [] rfl) h
    · have h := ite_t c_10 h
      refine lv_iconst (v := 1) hx hb dX0_isInPart_30 (by decide) ?_
      refine lv_goto (tgt := 35) hx hb dX0_isInPart_31 (by decide) ?_
      exact B35 _ _ hW hS ls 1 (lv_sub hl [] rfl) h
abbrev rX0_depthForNewcomer : Room := { frames := 3, cells := 0, slots := 0, locals := 70 }
set_option maxRecDepth 100000 in
set_option maxHeartbeats 8000000 in
theorem tX0_depthForNewcomer (l : Launch) (G : WG) (S0 M0 : St) (c : Nat) (hc : c < 7) (p1 : Int32) (p2 : Int32) (rr : Int32) (h : f0_depthForNewcomer S0 c p1 p2 = some (rr)) : CtI l yX0_depthForNewcomer wsX0_depthForNewcomer rX0_depthForNewcomer G [.ref (gad G c), .int p1, .int p2] S0 M0 rr S0 M0 := by
  refine Met.ofW (cc := cX0_depthForNewcomer) (maxL := 8) (ret := (some .int)) (by decide) rfl ?_
  intro p e s m args below meth cd s₁ B hml hv
  obtain ⟨hargs, hK, hW⟩ := hv
  have hx := B.exec
  have hb := B.bytes
  have hr := B.returns
  have hts := atoms_spec (ws := wsX0_depthForNewcomer) B.pre
  have hown : s.vm.findClass RX0 = some m.cls := findClass_of_methodNamed B.named
  have hlocks := B.notSynchronized
  have hA : ∀ q, Aw G q → Aw G q := fun _ h => h
  have hS : va_S (Aw G) s.heap s.heap [] := va_S.rf
  have he0 : entryFrame m args 8 = F0 m 0 ((lg_sl ([.ref (gad G c), .int p1, .int p2]) ++ List.replicate (8 - (lg_sl ([.ref (gad G c), .int p1, .int p2])).length) Slot.unset).toArray) [] := by rw [hargs]; exact lg_entry_eq _ _ _
  have hl := lv_entry ([.ref (gad G c), .int p1, .int p2]) (n := 8) (Nat.le_of_ble_eq_true rfl)
  rw [he0]
  generalize (lg_sl ([.ref (gad G c), .int p1, .int p2]) ++ List.replicate (8 - (lg_sl ([.ref (gad G c), .int p1, .int p2])).length) Slot.unset).toArray = ls at hl ⊢
  have hl : lv_has ls 8 [(0, .ref (gad G c)), (1, .int p1), (2, .int p2)] := hl
  have hiX0 : ∀ w ∈ u_ws RX0 TX0 12, w ∈ wsX0_depthForNewcomer := by decide +kernel
  have B106 : ∀ (H : Heap) (locs : List Loc) (_ : WD G S0 M0 H) (_ : va_S (Aw G) s.heap H locs) (ls : Array Slot) (l7 : Int32) (_ : lv_has ls 8 [(7, .int l7)]) (h : f0_depthForNewcomer_b106 S0 c l7 = some (rr)), WI p l e (headSpec wsX0_depthForNewcomer rX0_depthForNewcomer).room s m args below meth cd G rr S0 M0 H locs (F0 m 106 ls []) := by
    intro H locs hW hS ls l7 hl h
    unfold f0_depthForNewcomer_b106 at h
    refine lv_iload hx hb dX0_depthForNewcomer_106 (lv_at hl 0 rfl) ?_
    obtain rfl := Option.some.inj h
    exact W.iret hx hb hr (fun t ht hw => ⟨⟨_, (), rfl, rfl, hW.ret ht⟩, hS.F ht⟩) hS.2.2 dX0_depthForNewcomer_108
  have B66 : ∀ (n : Nat), ∀ (H : Heap) (locs : List Loc) (_ : WD G S0 M0 H) (_ : va_S (Aw G) s.heap H locs) (ls : Array Slot) (l1 : Int32) (l2 : Int32) (l4 : Int32) (l6 : Int32) (l7 : Int32) (_ : lv_has ls 8 [(0, .ref (gad G c)), (1, .int l1), (2, .int l2), (4, .int l4), (6, .int l6), (7, .int l7)]) (h : f0_depthForNewcomer_b66 S0 c l1 l2 l4 l6 n l7 = some (rr)), WI p l e (headSpec wsX0_depthForNewcomer rX0_depthForNewcomer).room s m args below meth cd G rr S0 M0 H locs (F0 m 66 ls []) := by
    intro n
    induction n with
    | zero => intro H locs hW hS ls l1 l2 l4 l6 l7 hl h; cases (show (none : Option (Int32)) = some _ from h)
    | succ n ih =>
      intro H locs hW hS ls l1 l2 l4 l6 l7 hl h
      rw [f0_depthForNewcomer_b66] at h
      refine lv_iload hx hb dX0_depthForNewcomer_66 (lv_at hl 5 rfl) ?_
      refine lv_bipush (v := 12) hx hb dX0_depthForNewcomer_68 (by decide) ?_
      refine lv_icmp_gt (tgt := 115) hx hb dX0_depthForNewcomer_70 (by decide) (fun c_1 => ?_) (fun c_1 => ?_)
      · have h := ite_t c_1 h
        refine lv_bipush (v := (-4)) hx hb dX0_depthForNewcomer_115 (by decide) ?_
        obtain rfl := Option.some.inj h
        exact W.iret hx hb hr (fun t ht hw => ⟨⟨_, (), rfl, rfl, hW.ret ht⟩, hS.F ht⟩) hS.2.2 dX0_depthForNewcomer_117
      · have h := ite_f c_1 h
        refine lv_iload hx hb dX0_depthForNewcomer_73 (lv_at hl 4 rfl) ?_
        refine lv_if_eq (tgt := 106) hx hb dX0_depthForNewcomer_75 (by decide) (fun c_2 => ?_) (fun c_2 => ?_)
        · have h := ite_t c_2 h
          exact B106 _ _ hW hS ls l7 (lv_sub hl [5] rfl) h
        · have h := ite_f c_2 h
          refine lv_aload_n hx hb dX0_depthForNewcomer_78 rfl (lv_at hl 0 rfl) ?_
          refine va_get (D := G.1) (ci := 0) (v := .ref (gad G (14 + (10 * c + 4)))) (C := RX0) (T := TX0) (N := 12) hx hb hts hiX0 hown hK.1 hW.1 c (lkC (c := c) (by omega)) rfl 1 (by decide) (hts _ (List.mem_of_getElem? (i := 3) rfl)) (fun _ h9 => h9) rfl dX0_depthForNewcomer_79 ?_
          refine lv_iload hx hb dX0_depthForNewcomer_82 (lv_at hl 3 rfl) ?_
          obtain ⟨r_3, e_4, h⟩ := bnd_e h
          refine kV_I (As := [.int l4]) (rest := []) ⟨hx, hb, hml, hown, hts⟩ (tX4_at l G S0 M0 ((10 * c + 4)) (by omega) l4 r_3 e_4) (cwV 1 hts gX0_depthForNewcomer_X4_at rfl rfl rfl ⟨rfl, hdX4_at⟩ ⟨Nat.le_of_ble_eq_true rfl, Nat.le_of_ble_eq_true rfl⟩) (va_recv hK.1 hW.1 (ci := 4) (q0 := (14 + (10 * c + 4))) rfl (lkR (r := (10 * c + 4)) (by omega))) hK hW hS hA rfl hl.1 rfl (Nat.le_of_ble_eq_true rfl) dX0_depthForNewcomer_84 ⟨Nat.zero_le _, Nat.zero_le _⟩ (fun H locs hW hS => ?_)
          refine lv_aload_n hx hb dX0_depthForNewcomer_87 rfl (lv_at hl 0 rfl) ?_
          refine va_get (D := G.1) (ci := 0) (v := .ref (gad G (14 + (10 * c + 5)))) (C := RX0) (T := TX0) (N := 12) hx hb hts hiX0 hown hK.1 hW.1 c (lkC (c := c) (by omega)) rfl 2 (by decide) (hts _ (List.mem_of_getElem? (i := 4) rfl)) (fun _ h9 => h9) rfl dX0_depthForNewcomer_88 ?_
          refine lv_iload hx hb dX0_depthForNewcomer_91 (lv_at hl 3 rfl) ?_
          obtain ⟨r_5, e_6, h⟩ := bnd_e h
          refine kV_I (As := [.int l4]) (rest := [.int r_3]) ⟨hx, hb, hml, hown, hts⟩ (tX4_at l G S0 M0 ((10 * c + 5)) (by omega) l4 r_5 e_6) (cwV 1 hts gX0_depthForNewcomer_X4_at rfl rfl rfl ⟨rfl, hdX4_at⟩ ⟨Nat.le_of_ble_eq_true rfl, Nat.le_of_ble_eq_true rfl⟩) (va_recv hK.1 hW.1 (ci := 4) (q0 := (14 + (10 * c + 5))) rfl (lkR (r := (10 * c + 5)) (by omega))) hK hW hS hA rfl hl.1 rfl (Nat.le_of_ble_eq_true rfl) dX0_depthForNewcomer_93 ⟨Nat.zero_le _, Nat.zero_le _⟩ (fun H locs hW hS => ?_)
          refine lv_iload_n hx hb dX0_depthForNewcomer_96 rfl (lv_at hl 1 rfl) ?_
          refine lv_iload_n hx hb dX0_depthForNewcomer_97 rfl (lv_at hl 2 rfl) ?_
          refine lv_iload hx hb dX0_depthForNewcomer_98 (lv_at hl 5 rfl) ?_
          obtain ⟨r_7, e_8, h⟩ := bnd_e h
          refine kS_I (As := [.int r_3, .int r_5, .int l1, .int l2, .int l7]) (rest := []) ⟨hx, hb, hml, hown, hts⟩ (tX0_isInPart l G S0 M0 r_3 r_5 l1 l2 l7 r_7 e_8) (va_cwS 5 hts gX0_depthForNewcomer_X0_isInPart rfl rfl rfl hdX0_isInPart ⟨Nat.le_of_ble_eq_true rfl, Nat.le_of_ble_eq_true rfl⟩) hK hW hS hA rfl hl.1 rfl (Nat.le_of_ble_eq_true rfl) dX0_depthForNewcomer_100 ⟨Nat.zero_le _, Nat.zero_le _⟩ (fun H locs hW hS => ?_)
          refine lv_if_ne (tgt := 109) hx hb dX0_depthForNewcomer_103 (by decide) (fun c_9 => ?_) (fun c_9 => ?_)
          · have h := ite_f c_9 h
            refine lv_iinc (v := (l7 + 1)) (lv' := [(7, .int ((l7 + 1))), (0, .ref (gad G c)), (1, .int l1), (2, .int l2), (4, .int l4), (6, .int l6)]) hx hb dX0_depthForNewcomer_109 hl (k := 5) rfl rfl (by decide) rfl (fun ls hl => ?_)
            refine lv_goto (tgt := 66) hx hb dX0_depthForNewcomer_112 (by decide) ?_
            exact ih _ _ hW hS ls l1 l2 l4 l6 ((l7 + 1)) (lv_sub hl [1, 2, 3, 4, 5, 0] rfl) h
          · have h := ite_t c_9 h
            exact B106 _ _ hW hS ls l7 (lv_sub hl [5] rfl) h
  unfold f0_depthForNewcomer at h
  refine lv_aload_n hx hb dX0_depthForNewcomer_0 rfl (lv_at hl 0 rfl) ?_
  refine va_get (D := G.1) (ci := 0) (v := .int (S0.1 (6 * c + 1))) (C := RX0) (T := TX0) (N := 12) hx hb hts hiX0 hown hK.1 hW.1 c (lkC (c := c) (by omega)) rfl 7 (by decide) (hts _ (List.mem_of_getElem? (i := 1) rfl)) (fun _ h9 => h9) rfl dX0_depthForNewcomer_1 ?_
  refine lv_bipush (v := 16) hx hb dX0_depthForNewcomer_4 (by decide) ?_
  refine lv_icmp_lt (tgt := 12) hx hb dX0_depthForNewcomer_6 (by decide) (fun c_1 => ?_) (fun c_1 => ?_)
  · have h := ite_t c_1 h
    refine lv_aload_n hx hb dX0_depthForNewcomer_12 rfl (lv_at hl 0 rfl) ?_
    refine va_get (D := G.1) (ci := 0) (v := .ref (gad G (7 + c))) (C := RX0) (T := TX0) (N := 12) hx hb hts hiX0 hown hK.1 hW.1 c (lkC (c := c) (by omega)) rfl 0 (by decide) (hts _ (List.mem_of_getElem? (i := 2) rfl)) (fun _ h9 => h9) rfl dX0_depthForNewcomer_13 ?_
    refine lv_iload_n hx hb dX0_depthForNewcomer_16 rfl (lv_at hl 1 rfl) ?_
    refine lv_iload_n hx hb dX0_depthForNewcomer_17 rfl (lv_at hl 2 rfl) ?_
    obtain ⟨r_2, e_3, h⟩ := bnd_e h
    refine kV_I (As := [.int p1, .int p2]) (rest := []) ⟨hx, hb, hml, hown, hts⟩ (tX3_find l G S0 M0 c (by omega) p1 p2 r_2 e_3) (cwV 2 hts gX0_depthForNewcomer_X3_find rfl rfl rfl ⟨rfl, hdX3_find⟩ ⟨Nat.le_of_ble_eq_true rfl, Nat.le_of_ble_eq_true rfl⟩) (va_recv hK.1 hW.1 (ci := 3) (q0 := (7 + c)) rfl (lkP (c := c) (by omega))) hK hW hS hA rfl hl.1 rfl (Nat.le_of_ble_eq_true rfl) dX0_depthForNewcomer_18 ⟨Nat.zero_le _, Nat.zero_le _⟩ (fun H locs hW hS => ?_)
    refine lv_istore_n (lv' := [(3, .int r_2), (0, .ref (gad G c)), (1, .int p1), (2, .int p2)]) hx hb dX0_depthForNewcomer_21 rfl hl (by decide) rfl (fun ls hl => ?_)
    refine lv_aload_n hx hb dX0_depthForNewcomer_22 rfl (lv_at hl 1 rfl) ?_
    refine va_get (D := G.1) (ci := 0) (v := .ref (gad G (7 + c))) (C := RX0) (T := TX0) (N := 12) hx hb hts hiX0 hown hK.1 hW.1 c (lkC (c := c) (by omega)) rfl 0 (by decide) (hts _ (List.mem_of_getElem? (i := 2) rfl)) (fun _ h9 => h9) rfl dX0_depthForNewcomer_23 ?_
    refine lv_iload_n hx hb dX0_depthForNewcomer_26 rfl (lv_at hl 0 rfl) ?_
    obtain ⟨r_4, e_5, h⟩ := bnd_e h
    refine kV_I (As := [.int r_2]) (rest := []) ⟨hx, hb, hml, hown, hts⟩ (tX3_ownerOf l G S0 M0 c (by omega) r_2 r_4 e_5) (cwV 1 hts gX0_depthForNewcomer_X3_ownerOf rfl rfl rfl ⟨rfl, hdX3_ownerOf⟩ ⟨Nat.le_of_ble_eq_true rfl, Nat.le_of_ble_eq_true rfl⟩) (va_recv hK.1 hW.1 (ci := 3) (q0 := (7 + c)) rfl (lkP (c := c) (by omega))) hK hW hS hA rfl hl.1 rfl (Nat.le_of_ble_eq_true rfl) dX0_depthForNewcomer_27 ⟨Nat.zero_le _, Nat.zero_le _⟩ (fun H locs hW hS => ?_)
    refine lv_istore (lv' := [(4, .int r_4), (3, .int r_2), (0, .ref (gad G c)), (1, .int p1), (2, .int p2)]) hx hb dX0_depthForNewcomer_30 hl (by decide) rfl (fun ls hl => ?_)
    refine lv_aload_n hx hb dX0_depthForNewcomer_32 rfl (lv_at hl 2 rfl) ?_
    refine va_get (D := G.1) (ci := 0) (v := .ref (gad G (7 + c))) (C := RX0) (T := TX0) (N := 12) hx hb hts hiX0 hown hK.1 hW.1 c (lkC (c := c) (by omega)) rfl 0 (by decide) (hts _ (List.mem_of_getElem? (i := 2) rfl)) (fun _ h9 => h9) rfl dX0_depthForNewcomer_33 ?_
    refine lv_iload_n hx hb dX0_depthForNewcomer_36 rfl (lv_at hl 1 rfl) ?_
    obtain ⟨r_6, e_7, h⟩ := bnd_e h
    refine kV_I (As := [.int r_2]) (rest := []) ⟨hx, hb, hml, hown, hts⟩ (tX3_depthOf l G S0 M0 c (by omega) r_2 r_6 e_7) (cwV 1 hts gX0_depthForNewcomer_X3_depthOf rfl rfl rfl ⟨rfl, hdX3_depthOf⟩ ⟨Nat.le_of_ble_eq_true rfl, Nat.le_of_ble_eq_true rfl⟩) (va_recv hK.1 hW.1 (ci := 3) (q0 := (7 + c)) rfl (lkP (c := c) (by omega))) hK hW hS hA rfl hl.1 rfl (Nat.le_of_ble_eq_true rfl) dX0_depthForNewcomer_37 ⟨Nat.zero_le _, Nat.zero_le _⟩ (fun H locs hW hS => ?_)
    refine lv_istore (lv' := [(5, .int r_6), (4, .int r_4), (3, .int r_2), (0, .ref (gad G c)), (1, .int p1), (2, .int p2)]) hx hb dX0_depthForNewcomer_40 hl (by decide) rfl (fun ls hl => ?_)
    refine lv_iload hx hb dX0_depthForNewcomer_42 (lv_at hl 1 rfl) ?_
    refine lv_iconst (v := (-1)) hx hb dX0_depthForNewcomer_44 (by decide) ?_
    refine lv_icmp_ne (tgt := 51) hx hb dX0_depthForNewcomer_45 (by decide) (fun c_8 => ?_) (fun c_8 => ?_)
    · have h := ite_f c_8 h
      refine lv_aload_n hx hb dX0_depthForNewcomer_51 rfl (lv_at hl 3 rfl) ?_
      refine lv_iload_n hx hb dX0_depthForNewcomer_52 rfl (lv_at hl 2 rfl) ?_
      refine lv_iload hx hb dX0_depthForNewcomer_53 (lv_at hl 1 rfl) ?_
      obtain ⟨r_9, e_10, h⟩ := bnd_e h
      refine kV_I (As := [.int r_2, .int r_4]) (rest := []) ⟨hx, hb, hml, hown, hts⟩ (tX0_isTentIn l G S0 M0 c (by omega) r_2 r_4 r_9 e_10) (cwV 2 hts gX0_depthForNewcomer_X0_isTentIn rfl rfl rfl ⟨rfl, hdX0_isTentIn⟩ ⟨Nat.le_of_ble_eq_true rfl, Nat.le_of_ble_eq_true rfl⟩) (va_recv hK.1 hW.1 (ci := 0) (q0 := c) rfl (lkC (c := c) (by omega))) hK hW hS hA rfl hl.1 rfl (Nat.le_of_ble_eq_true rfl) dX0_depthForNewcomer_55 ⟨Nat.zero_le _, Nat.zero_le _⟩ (fun H locs hW hS => ?_)
      refine lv_istore (lv' := [(6, .int r_9), (5, .int r_6), (4, .int r_4), (3, .int r_2), (0, .ref (gad G c)), (1, .int p1), (2, .int p2)]) hx hb dX0_depthForNewcomer_58 hl (by decide) rfl (fun ls hl => ?_)
      refine lv_iload hx hb dX0_depthForNewcomer_60 (lv_at hl 1 rfl) ?_
      refine lv_iconst (v := 1) hx hb dX0_depthForNewcomer_62 (by decide) ?_
      refine lv_iadd hx hb dX0_depthForNewcomer_63 ?_
      obtain ⟨x_11, ex_11, h⟩ := nam_e h
      refine lv_ni ex_11 ?_
      refine lv_istore (lv' := [(7, .int x_11), (6, .int r_9), (5, .int r_6), (4, .int r_4), (3, .int r_2), (0, .ref (gad G c)), (1, .int p1), (2, .int p2)]) hx hb dX0_depthForNewcomer_64 hl (by decide) rfl (fun ls hl => ?_)
      exact B66 fuelN _ _ hW hS ls p1 p2 r_4 r_9 x_11 (lv_sub hl [5, 6, 7, 3, 1, 0] rfl) h
    · have h := ite_t c_8 h
      refine lv_iload hx hb dX0_depthForNewcomer_48 (lv_at hl 0 rfl) ?_
      obtain rfl := Option.some.inj h
      exact W.iret hx hb hr (fun t ht hw => ⟨⟨_, (), rfl, rfl, hW.ret ht⟩, hS.F ht⟩) hS.2.2 dX0_depthForNewcomer_50
  · have h := ite_f c_1 h
    refine lv_bipush (v := (-3)) hx hb dX0_depthForNewcomer_9 (by decide) ?_
    obtain rfl := Option.some.inj h
    exact W.iret hx hb hr (fun t ht hw => ⟨⟨_, (), rfl, rfl, hW.ret ht⟩, hS.F ht⟩) hS.2.2 dX0_depthForNewcomer_11
abbrev rX5_otherHalfX0 : Room := { frames := 1, cells := 0, slots := 0, locals := 20 }
set_option maxRecDepth 100000 in
set_option maxHeartbeats 8000000 in
theorem tX5_otherHalfX0 (l : Launch) (G : WG) (S0 M0 : St) (p0 : Int32) (p1 : Int32) (rr : Int32) (h : f5_otherHalfX0 p0 p1 = some (rr)) : CtI l yX5_otherHalfX0 wsX5_otherHalfX0 rX5_otherHalfX0 G [.int p0, .int p1] S0 M0 rr S0 M0 := by
  refine Met.ofW (cc := cX5_otherHalfX0) (maxL := 2) (ret := (some .int)) (by decide) rfl ?_
  intro p e s m args below meth cd s₁ B hml hv
  obtain ⟨hargs, hK, hW⟩ := hv
  have hx := B.exec
  have hb := B.bytes
  have hr := B.returns
  have hts := atoms_spec (ws := wsX5_otherHalfX0) B.pre
  have hown : s.vm.findClass RX5 = some m.cls := findClass_of_methodNamed B.named
  have hlocks := B.notSynchronized
  have hA : ∀ q, Aw G q → Aw G q := fun _ h => h
  have hS : va_S (Aw G) s.heap s.heap [] := va_S.rf
  have he0 : entryFrame m args 2 = F0 m 0 ((lg_sl ([.int p0, .int p1]) ++ List.replicate (2 - (lg_sl ([.int p0, .int p1])).length) Slot.unset).toArray) [] := by rw [hargs]; exact lg_entry_eq _ _ _
  have hl := lv_entry ([.int p0, .int p1]) (n := 2) (Nat.le_of_ble_eq_true rfl)
  rw [he0]
  generalize (lg_sl ([.int p0, .int p1]) ++ List.replicate (2 - (lg_sl ([.int p0, .int p1])).length) Slot.unset).toArray = ls at hl ⊢
  have hl : lv_has ls 2 [(0, .int p0), (1, .int p1)] := hl
  have B17 : ∀ (H : Heap) (locs : List Loc) (_ : WD G S0 M0 H) (_ : va_S (Aw G) s.heap H locs) (ls : Array Slot) (k0 : Int32) (_ : lv_has ls 2 []) (h : f5_otherHalfX0_b17  k0 = some (rr)), WI p l e (headSpec wsX5_otherHalfX0 rX5_otherHalfX0).room s m args below meth cd G rr S0 M0 H locs (F0 m 17 ls [.int k0]) := by
    intro H locs hW hS ls k0 hl h
    unfold f5_otherHalfX0_b17 at h
    obtain rfl := Option.some.inj h
    exact W.iret hx hb hr (fun t ht hw => ⟨⟨_, (), rfl, rfl, hW.ret ht⟩, hS.F ht⟩) hS.2.2 dX5_otherHalfX0_17
  unfold f5_otherHalfX0 at h
  refine lv_iload_n hx hb dX5_otherHalfX0_0 rfl (lv_at hl 1 rfl) ?_
  refine lv_iconst (v := 1) hx hb dX5_otherHalfX0_1 (by decide) ?_
  refine lv_iand hx hb dX5_otherHalfX0_2 ?_
  refine lv_iconst (v := 1) hx hb dX5_otherHalfX0_3 (by decide) ?_
  refine lv_icmp_ne (tgt := 16) hx hb dX5_otherHalfX0_4 (by decide) (fun c_1 => ?_) (fun c_1 => ?_)
  · have h := ite_f c_1 h
    refine lv_iload_n hx hb dX5_otherHalfX0_16 rfl (lv_at hl 0 rfl) ?_
    exact B17 _ _ hW hS ls p0 (lv_sub hl [] rfl) h
  · have h := ite_t c_1 h
    refine lv_iload_n hx hb dX5_otherHalfX0_7 rfl (lv_at hl 0 rfl) ?_
    refine lv_iload_n hx hb dX5_otherHalfX0_8 rfl (lv_at hl 1 rfl) ?_
    obtain ⟨r_2, e_3, h⟩ := bnd_e h
    refine kS_I (As := [.int p1]) (rest := [.int p0]) ⟨hx, hb, hml, hown, hts⟩ (tX5_widthAt l G S0 M0 p1 r_2 e_3) (va_cwS 1 hts gX5_otherHalfX0_X5_widthAt rfl rfl rfl hdX5_widthAt ⟨Nat.le_of_ble_eq_true rfl, Nat.le_of_ble_eq_true rfl⟩) hK hW hS hA rfl hl.1 rfl (Nat.le_of_ble_eq_true rfl) dX5_otherHalfX0_9 ⟨Nat.zero_le _, Nat.zero_le _⟩ (fun H locs hW hS => ?_)
    refine lv_ixor hx hb dX5_otherHalfX0_12 ?_
    refine lv_goto (tgt := 17) hx hb dX5_otherHalfX0_13 (by decide) ?_
    exact B17 _ _ hW hS ls (((p0 : Int32) ^^^ r_2)) (lv_sub hl [] rfl) h
abbrev rX5_otherHalfY0 : Room := { frames := 1, cells := 0, slots := 0, locals := 20 }
set_option maxRecDepth 100000 in
set_option maxHeartbeats 8000000 in
theorem tX5_otherHalfY0 (l : Launch) (G : WG) (S0 M0 : St) (p0 : Int32) (p1 : Int32) (rr : Int32) (h : f5_otherHalfY0 p0 p1 = some (rr)) : CtI l yX5_otherHalfY0 wsX5_otherHalfY0 rX5_otherHalfY0 G [.int p0, .int p1] S0 M0 rr S0 M0 := by
  refine Met.ofW (cc := cX5_otherHalfY0) (maxL := 2) (ret := (some .int)) (by decide) rfl ?_
  intro p e s m args below meth cd s₁ B hml hv
  obtain ⟨hargs, hK, hW⟩ := hv
  have hx := B.exec
  have hb := B.bytes
  have hr := B.returns
  have hts := atoms_spec (ws := wsX5_otherHalfY0) B.pre
  have hown : s.vm.findClass RX5 = some m.cls := findClass_of_methodNamed B.named
  have hlocks := B.notSynchronized
  have hA : ∀ q, Aw G q → Aw G q := fun _ h => h
  have hS : va_S (Aw G) s.heap s.heap [] := va_S.rf
  have he0 : entryFrame m args 2 = F0 m 0 ((lg_sl ([.int p0, .int p1]) ++ List.replicate (2 - (lg_sl ([.int p0, .int p1])).length) Slot.unset).toArray) [] := by rw [hargs]; exact lg_entry_eq _ _ _
  have hl := lv_entry ([.int p0, .int p1]) (n := 2) (Nat.le_of_ble_eq_true rfl)
  rw [he0]
  generalize (lg_sl ([.int p0, .int p1]) ++ List.replicate (2 - (lg_sl ([.int p0, .int p1])).length) Slot.unset).toArray = ls at hl ⊢
  have hl : lv_has ls 2 [(0, .int p0), (1, .int p1)] := hl
  have B16 : ∀ (H : Heap) (locs : List Loc) (_ : WD G S0 M0 H) (_ : va_S (Aw G) s.heap H locs) (ls : Array Slot) (k0 : Int32) (_ : lv_has ls 2 []) (h : f5_otherHalfY0_b16  k0 = some (rr)), WI p l e (headSpec wsX5_otherHalfY0 rX5_otherHalfY0).room s m args below meth cd G rr S0 M0 H locs (F0 m 16 ls [.int k0]) := by
    intro H locs hW hS ls k0 hl h
    unfold f5_otherHalfY0_b16 at h
    obtain rfl := Option.some.inj h
    exact W.iret hx hb hr (fun t ht hw => ⟨⟨_, (), rfl, rfl, hW.ret ht⟩, hS.F ht⟩) hS.2.2 dX5_otherHalfY0_16
  unfold f5_otherHalfY0 at h
  refine lv_iload_n hx hb dX5_otherHalfY0_0 rfl (lv_at hl 1 rfl) ?_
  refine lv_iconst (v := 1) hx hb dX5_otherHalfY0_1 (by decide) ?_
  refine lv_iand hx hb dX5_otherHalfY0_2 ?_
  refine lv_if_ne (tgt := 15) hx hb dX5_otherHalfY0_3 (by decide) (fun c_1 => ?_) (fun c_1 => ?_)
  · have h := ite_f c_1 h
    refine lv_iload_n hx hb dX5_otherHalfY0_15 rfl (lv_at hl 0 rfl) ?_
    exact B16 _ _ hW hS ls p0 (lv_sub hl [] rfl) h
  · have h := ite_t c_1 h
    refine lv_iload_n hx hb dX5_otherHalfY0_6 rfl (lv_at hl 0 rfl) ?_
    refine lv_iload_n hx hb dX5_otherHalfY0_7 rfl (lv_at hl 1 rfl) ?_
    obtain ⟨r_2, e_3, h⟩ := bnd_e h
    refine kS_I (As := [.int p1]) (rest := [.int p0]) ⟨hx, hb, hml, hown, hts⟩ (tX5_heightAt l G S0 M0 p1 r_2 e_3) (va_cwS 1 hts gX5_otherHalfY0_X5_heightAt rfl rfl rfl hdX5_heightAt ⟨Nat.le_of_ble_eq_true rfl, Nat.le_of_ble_eq_true rfl⟩) hK hW hS hA rfl hl.1 rfl (Nat.le_of_ble_eq_true rfl) dX5_otherHalfY0_8 ⟨Nat.zero_le _, Nat.zero_le _⟩ (fun H locs hW hS => ?_)
    refine lv_ixor hx hb dX5_otherHalfY0_11 ?_
    refine lv_goto (tgt := 16) hx hb dX5_otherHalfY0_12 (by decide) ?_
    exact B16 _ _ hW hS ls (((p0 : Int32) ^^^ r_2)) (lv_sub hl [] rfl) h
abbrev rX4_put : Room := { frames := 0, cells := 0, slots := 0, locals := 0 }
set_option maxRecDepth 100000 in
set_option maxHeartbeats 8000000 in
theorem tX4_put (l : Launch) (G : WG) (S0 M0 : St) (r : Nat) (hr : r < 70) (p1 : Int32) (p2 : Int32) (S' : St) (h : f4_put S0 r p1 p2 = some (S')) : CtV l yX4_put wsX4_put rX4_put G [.ref (gad G (14 + r)), .int p1, .int p2] S0 M0 S' M0 := by
  refine Met.ofW (cc := cX4_put) (maxL := 3) (ret := none) (by decide) rfl ?_
  intro p e s m args below meth cd s₁ B hml hv
  obtain ⟨hargs, hK, hW⟩ := hv
  have hx := B.exec
  have hb := B.bytes
  have hr := B.returns
  have hts := atoms_spec (ws := wsX4_put) B.pre
  have hown : s.vm.findClass RX4 = some m.cls := findClass_of_methodNamed B.named
  have hlocks := B.notSynchronized
  have hA : ∀ q, Aw G q → Aw G q := fun _ h => h
  have hS : va_S (Aw G) s.heap s.heap [] := va_S.rf
  have he0 : entryFrame m args 3 = F0 m 0 ((lg_sl ([.ref (gad G (14 + r)), .int p1, .int p2]) ++ List.replicate (3 - (lg_sl ([.ref (gad G (14 + r)), .int p1, .int p2])).length) Slot.unset).toArray) [] := by rw [hargs]; exact lg_entry_eq _ _ _
  have hl := lv_entry ([.ref (gad G (14 + r)), .int p1, .int p2]) (n := 3) (Nat.le_of_ble_eq_true rfl)
  rw [he0]
  generalize (lg_sl ([.ref (gad G (14 + r)), .int p1, .int p2]) ++ List.replicate (3 - (lg_sl ([.ref (gad G (14 + r)), .int p1, .int p2])).length) Slot.unset).toArray = ls at hl ⊢
  have hl : lv_has ls 3 [(0, .ref (gad G (14 + r))), (1, .int p1), (2, .int p2)] := hl
  have hiX4 : ∀ w ∈ u_ws RX4 TX4 1, w ∈ wsX4_put := by decide +kernel
  have B20 : ∀ (H : Heap) (locs : List Loc) (S : St) (_ : WD G S M0 H) (_ : va_S (Aw G) s.heap H locs) (ls : Array Slot) (_ : lv_has ls 3 []) (h : f4_put_b20 S r  = some (S')), WV p l e (headSpec wsX4_put rX4_put).room s m args below meth cd G S' M0 H locs (F0 m 20 ls []) := by
    intro H locs S hW hS ls hl h
    unfold f4_put_b20 at h
    obtain rfl := Option.some.inj h
    exact W.vret hx hb hr (fun t ht hw => ⟨⟨(), rfl, trivial, hW.ret ht⟩, hS.F ht⟩) hS.2.2 dX4_put_20
  unfold f4_put at h
  refine lv_iload_n hx hb dX4_put_0 rfl (lv_at hl 1 rfl) ?_
  refine lv_if_lt (tgt := 20) hx hb dX4_put_1 (by decide) (fun c_1 => ?_) (fun c_1 => ?_)
  · have h := ite_t c_1 h
    exact B20 _ _ S0 hW hS ls (lv_sub hl [] rfl) h
  · have h := ite_f c_1 h
    refine lv_iload_n hx hb dX4_put_4 rfl (lv_at hl 1 rfl) ?_
    refine lv_aload_n hx hb dX4_put_5 rfl (lv_at hl 0 rfl) ?_
    refine va_get (D := G.1) (ci := 4) (v := .ref (gad G (84 + r))) (C := RX4) (T := TX4) (N := 1) hx hb hts hiX4 hown hK.1 hW.1 (14 + r) (lkR (r := r) (by omega)) rfl 0 (by decide) (hts _ (List.mem_of_getElem? (i := 1) rfl)) (fun _ h9 => h9) rfl dX4_put_6 ?_
    refine va_alen hx hb hK.1 hW.1 (84 + r) 0 (lkA (r := r) (by omega)) rfl rfl dX4_put_9 ?_
    refine lv_icmp_ge (tgt := 20) hx hb dX4_put_10 (by decide) (fun c_2 => ?_) (fun c_2 => ?_)
    · have h := ite_t c_2 h
      exact B20 _ _ S0 hW hS ls (lv_sub hl [] rfl) h
    · have h := ite_f c_2 h
      refine lv_aload_n hx hb dX4_put_13 rfl (lv_at hl 0 rfl) ?_
      refine va_get (D := G.1) (ci := 4) (v := .ref (gad G (84 + r))) (C := RX4) (T := TX4) (N := 1) hx hb hts hiX4 hown hK.1 hW.1 (14 + r) (lkR (r := r) (by omega)) rfl 0 (by decide) (hts _ (List.mem_of_getElem? (i := 1) rfl)) (fun _ h9 => h9) rfl dX4_put_14 ?_
      refine lv_iload_n hx hb dX4_put_17 rfl (lv_at hl 1 rfl) ?_
      refine lv_iload_n hx hb dX4_put_18 rfl (lv_at hl 2 rfl) ?_
      obtain ⟨n_4, h⟩ := sto_e h
      obtain ⟨S_3, eS_3, h⟩ := nam_e h
      refine va_iast hx hb hK.1 hW.1 (hW.D hA) hS (84 + r) 0 (lkA (r := r) (by omega)) rfl n_4 dX4_put_19 (fun H locs hP hD hS => ?_)
      have hW := upA (r := r) (by omega) hW hP
      rw [← eS_3] at hW
      exact B20 _ _ S_3 hW hS ls (lv_sub hl [] rfl) h
abbrev rX3_put : Room := { frames := 2, cells := 0, slots := 0, locals := 41 }
set_option maxRecDepth 100000 in
set_option maxHeartbeats 8000000 in
theorem tX3_put (l : Launch) (G : WG) (S0 M0 : St) (c : Nat) (hc : c < 7) (p1 : Int32) (p2 : Int32) (p3 : Int32) (p4 : Int32) (p5 : Int32) (S' : St) (h : f3_put S0 c p1 p2 p3 p4 p5 = some (S')) : CtV l yX3_put wsX3_put rX3_put G [.ref (gad G (7 + c)), .int p1, .int p2, .int p3, .int p4, .int p5] S0 M0 S' M0 := by
  refine Met.ofW (cc := cX3_put) (maxL := 6) (ret := none) (by decide) rfl ?_
  intro p e s m args below meth cd s₁ B hml hv
  obtain ⟨hargs, hK, hW⟩ := hv
  have hx := B.exec
  have hb := B.bytes
  have hr := B.returns
  have hts := atoms_spec (ws := wsX3_put) B.pre
  have hown : s.vm.findClass RX3 = some m.cls := findClass_of_methodNamed B.named
  have hlocks := B.notSynchronized
  have hA : ∀ q, Aw G q → Aw G q := fun _ h => h
  have hS : va_S (Aw G) s.heap s.heap [] := va_S.rf
  have he0 : entryFrame m args 6 = F0 m 0 ((lg_sl ([.ref (gad G (7 + c)), .int p1, .int p2, .int p3, .int p4, .int p5]) ++ List.replicate (6 - (lg_sl ([.ref (gad G (7 + c)), .int p1, .int p2, .int p3, .int p4, .int p5])).length) Slot.unset).toArray) [] := by rw [hargs]; exact lg_entry_eq _ _ _
  have hl := lv_entry ([.ref (gad G (7 + c)), .int p1, .int p2, .int p3, .int p4, .int p5]) (n := 6) (Nat.le_of_ble_eq_true rfl)
  rw [he0]
  generalize (lg_sl ([.ref (gad G (7 + c)), .int p1, .int p2, .int p3, .int p4, .int p5]) ++ List.replicate (6 - (lg_sl ([.ref (gad G (7 + c)), .int p1, .int p2, .int p3, .int p4, .int p5])).length) Slot.unset).toArray = ls at hl ⊢
  have hl : lv_has ls 6 [(0, .ref (gad G (7 + c))), (1, .int p1), (2, .int p2), (3, .int p3), (4, .int p4), (5, .int p5)] := hl
  have hiX3 : ∀ w ∈ u_ws RX3 TX3 5, w ∈ wsX3_put := by decide +kernel
  unfold f3_put at h
  refine lv_aload_n hx hb dX3_put_0 rfl (lv_at hl 0 rfl) ?_
  refine va_get (D := G.1) (ci := 3) (v := .ref (gad G (14 + (10 * c + 0)))) (C := RX3) (T := TX3) (N := 5) hx hb hts hiX3 hown hK.1 hW.1 (7 + c) (lkP (c := c) (by omega)) rfl 0 (by decide) (hts _ (List.mem_of_getElem? (i := 1) rfl)) (fun _ h9 => h9) rfl dX3_put_1 ?_
  refine lv_iload_n hx hb dX3_put_4 rfl (lv_at hl 1 rfl) ?_
  refine lv_iload_n hx hb dX3_put_5 rfl (lv_at hl 2 rfl) ?_
  refine lv_iload hx hb dX3_put_6 (lv_at hl 4 rfl) ?_
  obtain ⟨r_1, e_2, h⟩ := bnd_e h
  refine kSN_I (As := [.int p2, .int p4]) (rest := [.int p1, .ref (gad G (14 + (10 * c + 0)))]) ⟨hx, hb, hml, hown, hts⟩ (tX5_partX0 l G S0 M0 p2 p4 r_1 e_2) ⟨va_cnB 2 hts gX3_put_X5_partX0_n120 rfl rfl rfl (hK.2 _ (List.mem_of_getElem? (i := 18) rfl)) (hts _ (List.mem_of_getElem? (i := 6) rfl)) hdX5_partX0 ⟨Nat.le_of_ble_eq_true rfl, Nat.le_of_ble_eq_true rfl⟩, (hts _ (List.mem_of_getElem? (i := 5) rfl)), trivial⟩ hK hW hS hA rfl hl.1 rfl (Nat.le_of_ble_eq_true rfl) dX3_put_8 ⟨Nat.zero_le _, Nat.zero_le _⟩ (fun H locs hW hS => ?_)
  obtain ⟨S_3, e_4, h⟩ := bnd_e h
  refine kV_V (As := [.int p1, .int r_1]) (rest := []) ⟨hx, hb, hml, hown, hts⟩ (tX4_put l G S0 M0 ((10 * c + 0)) (by omega) p1 r_1 S_3 e_4) (cwV 2 hts gX3_put_X4_put rfl rfl rfl ⟨rfl, hdX4_put⟩ ⟨Nat.le_of_ble_eq_true rfl, Nat.le_of_ble_eq_true rfl⟩) (va_recv hK.1 hW.1 (ci := 4) (q0 := (14 + (10 * c + 0))) rfl (lkR (r := (10 * c + 0)) (by omega))) hK hW hS hA rfl hl.1 rfl (Nat.le_of_ble_eq_true rfl) dX3_put_11 ⟨Nat.zero_le _, Nat.zero_le _⟩ (fun H locs hW hS => ?_)
  refine lv_aload_n hx hb dX3_put_14 rfl (lv_at hl 0 rfl) ?_
  refine va_get (D := G.1) (ci := 3) (v := .ref (gad G (14 + (10 * c + 1)))) (C := RX3) (T := TX3) (N := 5) hx hb hts hiX3 hown hK.1 hW.1 (7 + c) (lkP (c := c) (by omega)) rfl 1 (by decide) (hts _ (List.mem_of_getElem? (i := 2) rfl)) (fun _ h9 => h9) rfl dX3_put_15 ?_
  refine lv_iload_n hx hb dX3_put_18 rfl (lv_at hl 1 rfl) ?_
  refine lv_iload_n hx hb dX3_put_19 rfl (lv_at hl 3 rfl) ?_
  refine lv_iload hx hb dX3_put_20 (lv_at hl 4 rfl) ?_
  obtain ⟨r_5, e_6, h⟩ := bnd_e h
  refine kSN_I (As := [.int p3, .int p4]) (rest := [.int p1, .ref (gad G (14 + (10 * c + 1)))]) ⟨hx, hb, hml, hown, hts⟩ (tX5_partY0 l G S_3 M0 p3 p4 r_5 e_6) ⟨va_cnB 2 hts gX3_put_X5_partY0_n123 rfl rfl rfl (hK.2 _ (List.mem_of_getElem? (i := 20) rfl)) (hts _ (List.mem_of_getElem? (i := 6) rfl)) hdX5_partY0 ⟨Nat.le_of_ble_eq_true rfl, Nat.le_of_ble_eq_true rfl⟩, (hts _ (List.mem_of_getElem? (i := 17) rfl)), trivial⟩ hK hW hS hA rfl hl.1 rfl (Nat.le_of_ble_eq_true rfl) dX3_put_22 ⟨Nat.zero_le _, Nat.zero_le _⟩ (fun H locs hW hS => ?_)
  obtain ⟨S_7, e_8, h⟩ := bnd_e h
  refine kV_V (As := [.int p1, .int r_5]) (rest := []) ⟨hx, hb, hml, hown, hts⟩ (tX4_put l G S_3 M0 ((10 * c + 1)) (by omega) p1 r_5 S_7 e_8) (cwV 2 hts gX3_put_X4_put rfl rfl rfl ⟨rfl, hdX4_put⟩ ⟨Nat.le_of_ble_eq_true rfl, Nat.le_of_ble_eq_true rfl⟩) (va_recv hK.1 hW.1 (ci := 4) (q0 := (14 + (10 * c + 1))) rfl (lkR (r := (10 * c + 1)) (by omega))) hK hW hS hA rfl hl.1 rfl (Nat.le_of_ble_eq_true rfl) dX3_put_25 ⟨Nat.zero_le _, Nat.zero_le _⟩ (fun H locs hW hS => ?_)
  refine lv_aload_n hx hb dX3_put_28 rfl (lv_at hl 0 rfl) ?_
  refine va_get (D := G.1) (ci := 3) (v := .ref (gad G (14 + (10 * c + 2)))) (C := RX3) (T := TX3) (N := 5) hx hb hts hiX3 hown hK.1 hW.1 (7 + c) (lkP (c := c) (by omega)) rfl 2 (by decide) (hts _ (List.mem_of_getElem? (i := 3) rfl)) (fun _ h9 => h9) rfl dX3_put_29 ?_
  refine lv_iload_n hx hb dX3_put_32 rfl (lv_at hl 1 rfl) ?_
  refine lv_iload hx hb dX3_put_33 (lv_at hl 4 rfl) ?_
  obtain ⟨S_9, e_10, h⟩ := bnd_e h
  refine kV_V (As := [.int p1, .int p4]) (rest := []) ⟨hx, hb, hml, hown, hts⟩ (tX4_put l G S_7 M0 ((10 * c + 2)) (by omega) p1 p4 S_9 e_10) (cwV 2 hts gX3_put_X4_put rfl rfl rfl ⟨rfl, hdX4_put⟩ ⟨Nat.le_of_ble_eq_true rfl, Nat.le_of_ble_eq_true rfl⟩) (va_recv hK.1 hW.1 (ci := 4) (q0 := (14 + (10 * c + 2))) rfl (lkR (r := (10 * c + 2)) (by omega))) hK hW hS hA rfl hl.1 rfl (Nat.le_of_ble_eq_true rfl) dX3_put_35 ⟨Nat.zero_le _, Nat.zero_le _⟩ (fun H locs hW hS => ?_)
  refine lv_aload_n hx hb dX3_put_38 rfl (lv_at hl 0 rfl) ?_
  refine va_get (D := G.1) (ci := 3) (v := .ref (gad G (14 + (10 * c + 3)))) (C := RX3) (T := TX3) (N := 5) hx hb hts hiX3 hown hK.1 hW.1 (7 + c) (lkP (c := c) (by omega)) rfl 3 (by decide) (hts _ (List.mem_of_getElem? (i := 4) rfl)) (fun _ h9 => h9) rfl dX3_put_39 ?_
  refine lv_iload_n hx hb dX3_put_42 rfl (lv_at hl 1 rfl) ?_
  refine lv_iload hx hb dX3_put_43 (lv_at hl 5 rfl) ?_
  obtain ⟨S_11, e_12, h⟩ := bnd_e h
  refine kV_V (As := [.int p1, .int p5]) (rest := []) ⟨hx, hb, hml, hown, hts⟩ (tX4_put l G S_9 M0 ((10 * c + 3)) (by omega) p1 p5 S_11 e_12) (cwV 2 hts gX3_put_X4_put rfl rfl rfl ⟨rfl, hdX4_put⟩ ⟨Nat.le_of_ble_eq_true rfl, Nat.le_of_ble_eq_true rfl⟩) (va_recv hK.1 hW.1 (ci := 4) (q0 := (14 + (10 * c + 3))) rfl (lkR (r := (10 * c + 3)) (by omega))) hK hW hS hA rfl hl.1 rfl (Nat.le_of_ble_eq_true rfl) dX3_put_45 ⟨Nat.zero_le _, Nat.zero_le _⟩ (fun H locs hW hS => ?_)
  obtain rfl := Option.some.inj h
  exact W.vret hx hb hr (fun t ht hw => ⟨⟨(), rfl, trivial, hW.ret ht⟩, hS.F ht⟩) hS.2.2 dX3_put_48
