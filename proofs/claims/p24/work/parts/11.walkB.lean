abbrev rX2_stateAt : Room := { frames := 0, cells := 0, slots := 0, locals := 0 }
set_option maxRecDepth 100000 in
set_option maxHeartbeats 8000000 in
theorem tX2_stateAt (l : Launch) (G : WG) (S0 M0 : St) (p1 : Int32) (rr : Nat) (h : f2_stateAt p1 = some (rr)) : CtQ l yX2_stateAt wsX2_stateAt rX2_stateAt G [.ref (gad G 155), .int p1] S0 M0 (some (gad G rr)) S0 M0 := by
  refine Met.ofW (cc := cX2_stateAt) (maxL := 2) (ret := (some (.object "TentFields$Camp"))) (by decide) rfl ?_
  intro p e s m args below meth cd s₁ B hml hv
  obtain ⟨hargs, hK, hW⟩ := hv
  have hx := B.exec
  have hb := B.bytes
  have hr := B.returns
  have hts := atoms_spec (ws := wsX2_stateAt) B.pre
  have hown : s.vm.findClass RX2 = some m.cls := findClass_of_methodNamed B.named
  have hlocks := B.notSynchronized
  have hA : ∀ q, Aw G q → Aw G q := fun _ h => h
  have hS : va_S (Aw G) s.heap s.heap [] := va_S.rf
  have he0 : entryFrame m args 2 = F0 m 0 ((lg_sl ([.ref (gad G 155), .int p1]) ++ List.replicate (2 - (lg_sl ([.ref (gad G 155), .int p1])).length) Slot.unset).toArray) [] := by rw [hargs]; exact lg_entry_eq _ _ _
  have hl := lv_entry ([.ref (gad G 155), .int p1]) (n := 2) (Nat.le_of_ble_eq_true rfl)
  rw [he0]
  generalize (lg_sl ([.ref (gad G 155), .int p1]) ++ List.replicate (2 - (lg_sl ([.ref (gad G 155), .int p1])).length) Slot.unset).toArray = ls at hl ⊢
  have hl : lv_has ls 2 [(0, .ref (gad G 155)), (1, .int p1)] := hl
  have hiX2 : ∀ w ∈ u_ws RX2 TX2 3, w ∈ wsX2_stateAt := by decide +kernel
  have B22 : ∀ (H : Heap) (locs : List Loc) (_ : WD G S0 M0 H) (_ : va_S (Aw G) s.heap H locs) (ls : Array Slot) (_ : lv_has ls 2 []) (h : f2_stateAt_b22   = some (rr)), WQ p l e (headSpec wsX2_stateAt rX2_stateAt).room s m args below meth cd G (some (gad G rr)) S0 M0 H locs (F0 m 22 ls []) := by
    intro H locs hW hS ls hl h
    unfold f2_stateAt_b22 at h
    cases h
  unfold f2_stateAt at h
  refine lv_iload_n hx hb dX2_stateAt_0 rfl (lv_at hl 1 rfl) ?_
  refine lv_if_lt (tgt := 22) hx hb dX2_stateAt_1 (by decide) (fun c_1 => ?_) (fun c_1 => ?_)
  · have h := ite_t c_1 h
    exact B22 _ _ hW hS ls (lv_sub hl [] rfl) h
  · have h := ite_f c_1 h
    refine lv_iload_n hx hb dX2_stateAt_4 rfl (lv_at hl 1 rfl) ?_
    refine lv_aload_n hx hb dX2_stateAt_5 rfl (lv_at hl 0 rfl) ?_
    refine va_get (D := G.1) (ci := 2) (v := .ref (gad G 156)) (C := RX2) (T := TX2) (N := 3) hx hb hts hiX2 hown hK.1 hW.1 155 lkH rfl 0 (by decide) (hts _ (List.mem_of_getElem? (i := 1) rfl)) (fun _ h9 => h9) rfl dX2_stateAt_6 ?_
    refine va_alen hx hb hK.1 hW.1 156 2 lkS rfl rfl dX2_stateAt_9 ?_
    refine lv_icmp_ge (tgt := 22) hx hb dX2_stateAt_10 (by decide) (fun c_2 => ?_) (fun c_2 => ?_)
    · have h := ite_t c_2 h
      exact B22 _ _ hW hS ls (lv_sub hl [] rfl) h
    · have h := ite_f c_2 h
      refine lv_aload_n hx hb dX2_stateAt_13 rfl (lv_at hl 0 rfl) ?_
      refine va_get (D := G.1) (ci := 2) (v := .ref (gad G 156)) (C := RX2) (T := TX2) (N := 3) hx hb hts hiX2 hown hK.1 hW.1 155 lkH rfl 0 (by decide) (hts _ (List.mem_of_getElem? (i := 1) rfl)) (fun _ h9 => h9) rfl dX2_stateAt_14 ?_
      refine lv_iload_n hx hb dX2_stateAt_17 rfl (lv_at hl 1 rfl) ?_
      obtain ⟨n_3, h⟩ := sto_e h
      refine va_aldq hx hb hK.1 hW.1 156 2 lkS rfl n_3 dX2_stateAt_18 ?_
      refine lv_goto (tgt := 23) hx hb dX2_stateAt_19 (by decide) ?_
      obtain rfl := Option.some.inj h
      exact W.aret hx hb hr (Or.inl ⟨_, rfl⟩) (Or.inr ⟨_, rfl⟩) (fun t ht hw => ⟨⟨some _, (), rfl, rfl, hW.ret ht⟩, hS.F ht⟩) hS.2.2 dX2_stateAt_23
abbrev rX2_push : Room := { frames := 3, cells := 0, slots := 0, locals := 65 }
set_option maxRecDepth 100000 in
set_option maxHeartbeats 8000000 in
theorem tX2_push (l : Launch) (G : WG) (S0 M0 : St) (c1 : Nat) (hc1 : c1 < 7) (S' : St) (h : f2_push S0 c1 = some (S')) : CtV l yX2_push wsX2_push rX2_push G [.ref (gad G 155), .ref (gad G c1)] S0 M0 S' M0 := by
  refine Met.ofW (cc := cX2_push) (maxL := 3) (ret := none) (by decide) rfl ?_
  intro p e s m args below meth cd s₁ B hml hv
  obtain ⟨hargs, hK, hW⟩ := hv
  have hx := B.exec
  have hb := B.bytes
  have hr := B.returns
  have hts := atoms_spec (ws := wsX2_push) B.pre
  have hown : s.vm.findClass RX2 = some m.cls := findClass_of_methodNamed B.named
  have hlocks := B.notSynchronized
  have hA : ∀ q, Aw G q → Aw G q := fun _ h => h
  have hS : va_S (Aw G) s.heap s.heap [] := va_S.rf
  have he0 : entryFrame m args 3 = F0 m 0 ((lg_sl ([.ref (gad G 155), .ref (gad G c1)]) ++ List.replicate (3 - (lg_sl ([.ref (gad G 155), .ref (gad G c1)])).length) Slot.unset).toArray) [] := by rw [hargs]; exact lg_entry_eq _ _ _
  have hl := lv_entry ([.ref (gad G 155), .ref (gad G c1)]) (n := 3) (Nat.le_of_ble_eq_true rfl)
  rw [he0]
  generalize (lg_sl ([.ref (gad G 155), .ref (gad G c1)]) ++ List.replicate (3 - (lg_sl ([.ref (gad G 155), .ref (gad G c1)])).length) Slot.unset).toArray = ls at hl ⊢
  have hl : lv_has ls 3 [(0, .ref (gad G 155)), (1, .ref (gad G c1))] := hl
  have hiX2 : ∀ w ∈ u_ws RX2 TX2 3, w ∈ wsX2_push := by decide +kernel
  have B56 : ∀ (H : Heap) (locs : List Loc) (S : St) (_ : WD G S M0 H) (_ : va_S (Aw G) s.heap H locs) (ls : Array Slot) (_ : lv_has ls 3 []) (h : f2_push_b56 S c1  = some (S')), WV p l e (headSpec wsX2_push rX2_push).room s m args below meth cd G S' M0 H locs (F0 m 56 ls []) := by
    intro H locs S hW hS ls hl h
    unfold f2_push_b56 at h
    obtain rfl := Option.some.inj h
    exact W.vret hx hb hr (fun t ht hw => ⟨⟨(), rfl, trivial, hW.ret ht⟩, hS.F ht⟩) hS.2.2 dX2_push_56
  have B21 : ∀ (H : Heap) (locs : List Loc) (S : St) (_ : WD G S M0 H) (_ : va_S (Aw G) s.heap H locs) (ls : Array Slot) (k0 : Int32) (_ : lv_has ls 3 [(0, .ref (gad G 155)), (1, .ref (gad G c1))]) (h : f2_push_b21 S c1 k0 = some (S')), WV p l e (headSpec wsX2_push rX2_push).room s m args below meth cd G S' M0 H locs (F0 m 21 ls [.int k0, .ref (gad G 155)]) := by
    intro H locs S hW hS ls k0 hl h
    unfold f2_push_b21 at h
    obtain ⟨S_1, eS_1, h⟩ := nam_e h
    refine va_put (D := G.1) (ci := 2) (v := .int k0) (ty := .int) (C := RX2) (T := TX2) (N := 3) hx hb hts hiX2 tyX2 tyX2_ok nmX2 hown hK.1 hW.1 (hW.D hA) hS 155 lkH rfl 1 (by decide) (hts _ (List.mem_of_getElem? (i := 1) rfl)) (fun _ h9 => h9) rfl (by decide +kernel) rfl rfl (Nat.le_of_ble_eq_true rfl) dX2_push_21 (fun H locs hP hD hS => ?_)
    have hW := upH0 hW hP
    rw [← eS_1] at hW
    refine lv_aload_n hx hb dX2_push_24 rfl (lv_at hl 0 rfl) ?_
    refine lv_aload_n hx hb dX2_push_25 rfl (lv_at hl 0 rfl) ?_
    refine va_get (D := G.1) (ci := 2) (v := .int (S_1.1 44)) (C := RX2) (T := TX2) (N := 3) hx hb hts hiX2 hown hK.1 hW.1 155 lkH rfl 2 (by decide) (hts _ (List.mem_of_getElem? (i := 2) rfl)) (fun _ h9 => h9) rfl dX2_push_26 ?_
    refine lv_iconst (v := 1) hx hb dX2_push_29 (by decide) ?_
    refine lv_iadd hx hb dX2_push_30 ?_
    refine lv_iconst (v := 4) hx hb dX2_push_31 (by decide) ?_
    refine va_mmin hx hb (hml.trans hl.1.symm) hown (hts _ (List.mem_of_getElem? (i := 3) rfl)) (hts _ (List.mem_of_getElem? (i := 4) rfl)) (hts _ (List.mem_of_getElem? (i := 5) rfl)) (hts _ (List.mem_of_getElem? (i := 6) rfl)) (Nat.le_of_ble_eq_true rfl) (Nat.le_of_ble_eq_true rfl) (Nat.zero_le _) (Nat.zero_le _) dX2_push_32 ?_
    obtain ⟨S_2, eS_2, h⟩ := nam_e h
    refine va_put (D := G.1) (ci := 2) (v := .int ((if 4 < (S_1.1 44 + 1) then 4 else (S_1.1 44 + 1)))) (ty := .int) (C := RX2) (T := TX2) (N := 3) hx hb hts hiX2 tyX2 tyX2_ok nmX2 hown hK.1 hW.1 (hW.D hA) hS 155 lkH rfl 2 (by decide) (hts _ (List.mem_of_getElem? (i := 2) rfl)) (fun _ h9 => h9) rfl (by decide +kernel) rfl rfl (Nat.le_of_ble_eq_true rfl) dX2_push_35 (fun H locs hP hD hS => ?_)
    have hW := upH1 hW hP
    rw [← eS_2] at hW
    refine lv_aload_n hx hb dX2_push_38 rfl (lv_at hl 0 rfl) ?_
    refine lv_aload_n hx hb dX2_push_39 rfl (lv_at hl 0 rfl) ?_
    refine va_get (D := G.1) (ci := 2) (v := .int (S_2.1 43)) (C := RX2) (T := TX2) (N := 3) hx hb hts hiX2 hown hK.1 hW.1 155 lkH rfl 1 (by decide) (hts _ (List.mem_of_getElem? (i := 1) rfl)) (fun _ h9 => h9) rfl dX2_push_40 ?_
    obtain ⟨r_3, e_4, h⟩ := bnd_e h
    refine kV_Q (As := [.int (S_2.1 43)]) (rest := []) ⟨hx, hb, hml, hown, hts⟩ (tX2_stateAt l G S_2 M0 (S_2.1 43) r_3 e_4) (cwV 1 hts gX2_push_X2_stateAt rfl rfl rfl ⟨rfl, hdX2_stateAt⟩ ⟨Nat.le_of_ble_eq_true rfl, Nat.le_of_ble_eq_true rfl⟩) (va_recv hK.1 hW.1 (ci := 2) (q0 := 155) rfl lkH) hK hW hS hA rfl hl.1 rfl (Nat.le_of_ble_eq_true rfl) dX2_push_43 ⟨Nat.zero_le _, Nat.zero_le _⟩ (fun H locs hW hS => ?_)
    have lr_3 : r_3 < 7 := f2_stateAt_lt e_4
    refine lv_astore_n (lv' := [(2, .ref (gad G r_3)), (0, .ref (gad G 155)), (1, .ref (gad G c1))]) hx hb dX2_push_46 rfl hl (by decide) rfl (fun ls hl => ?_)
    refine lv_aload_n hx hb dX2_push_47 rfl (lv_at hl 0 rfl) ?_
    refine lv_ifnull hx hb dX2_push_48 ?_
    refine lv_aload_n hx hb dX2_push_51 rfl (lv_at hl 0 rfl) ?_
    refine lv_aload_n hx hb dX2_push_52 rfl (lv_at hl 2 rfl) ?_
    obtain ⟨S_5, e_6, h⟩ := bnd_e h
    refine kV_V (As := [.ref (gad G c1)]) (rest := []) ⟨hx, hb, hml, hown, hts⟩ (tX0_copyFrom l G S_2 M0 r_3 (by omega) c1 (by omega) S_5 e_6) (cwV 1 hts gX2_push_X0_copyFrom rfl rfl rfl ⟨rfl, hdX0_copyFrom⟩ ⟨Nat.le_of_ble_eq_true rfl, Nat.le_of_ble_eq_true rfl⟩) (va_recv hK.1 hW.1 (ci := 0) (q0 := r_3) rfl (lkC (c := r_3) (by omega))) hK hW hS hA rfl hl.1 rfl (Nat.le_of_ble_eq_true rfl) dX2_push_53 ⟨Nat.zero_le _, Nat.zero_le _⟩ (fun H locs hW hS => ?_)
    exact B56 _ _ S_5 hW hS ls (lv_sub hl [] rfl) h
  unfold f2_push at h
  refine lv_aload_n hx hb dX2_push_0 rfl (lv_at hl 0 rfl) ?_
  refine lv_aload_n hx hb dX2_push_1 rfl (lv_at hl 0 rfl) ?_
  refine va_get (D := G.1) (ci := 2) (v := .int (S0.1 43)) (C := RX2) (T := TX2) (N := 3) hx hb hts hiX2 hown hK.1 hW.1 155 lkH rfl 1 (by decide) (hts _ (List.mem_of_getElem? (i := 1) rfl)) (fun _ h9 => h9) rfl dX2_push_2 ?_
  refine lv_iconst (v := 1) hx hb dX2_push_5 (by decide) ?_
  refine lv_iadd hx hb dX2_push_6 ?_
  refine lv_iconst (v := 4) hx hb dX2_push_7 (by decide) ?_
  refine lv_icmp_ge (tgt := 20) hx hb dX2_push_8 (by decide) (fun c_1 => ?_) (fun c_1 => ?_)
  · have h := ite_t c_1 h
    refine lv_iconst (v := 0) hx hb dX2_push_20 (by decide) ?_
    exact B21 _ _ S0 hW hS ls 0 (lv_sub hl [0, 1] rfl) h
  · have h := ite_f c_1 h
    refine lv_aload_n hx hb dX2_push_11 rfl (lv_at hl 0 rfl) ?_
    refine va_get (D := G.1) (ci := 2) (v := .int (S0.1 43)) (C := RX2) (T := TX2) (N := 3) hx hb hts hiX2 hown hK.1 hW.1 155 lkH rfl 1 (by decide) (hts _ (List.mem_of_getElem? (i := 1) rfl)) (fun _ h9 => h9) rfl dX2_push_12 ?_
    refine lv_iconst (v := 1) hx hb dX2_push_15 (by decide) ?_
    refine lv_iadd hx hb dX2_push_16 ?_
    refine lv_goto (tgt := 21) hx hb dX2_push_17 (by decide) ?_
    exact B21 _ _ S0 hW hS ls ((S0.1 43 + 1)) (lv_sub hl [0, 1] rfl) h
abbrev rX5_comeAll : Room := { frames := 6, cells := 0, slots := 0, locals := 142 }
set_option maxRecDepth 100000 in
set_option maxHeartbeats 8000000 in
theorem tX5_comeAll (l : Launch) (G : WG) (S0 M0 : St) (rr : Int32) (S' : St) (h : f5_comeAll S0 = some (rr, S')) : CtI l yX5_comeAll wsX5_comeAll rX5_comeAll G [.ref (gad G 154)] S0 M0 rr S' M0 := by
  refine Met.ofW (cc := cX5_comeAll) (maxL := 7) (ret := (some .int)) (by decide) rfl ?_
  intro p e s m args below meth cd s₁ B hml hv
  obtain ⟨hargs, hK, hW⟩ := hv
  have hx := B.exec
  have hb := B.bytes
  have hr := B.returns
  have hts := atoms_spec (ws := wsX5_comeAll) B.pre
  have hown : s.vm.findClass RX5 = some m.cls := findClass_of_methodNamed B.named
  have hlocks := B.notSynchronized
  have hA : ∀ q, Aw G q → Aw G q := fun _ h => h
  have hS : va_S (Aw G) s.heap s.heap [] := va_S.rf
  have he0 : entryFrame m args 7 = F0 m 0 ((lg_sl ([.ref (gad G 154)]) ++ List.replicate (7 - (lg_sl ([.ref (gad G 154)])).length) Slot.unset).toArray) [] := by rw [hargs]; exact lg_entry_eq _ _ _
  have hl := lv_entry ([.ref (gad G 154)]) (n := 7) (Nat.le_of_ble_eq_true rfl)
  rw [he0]
  generalize (lg_sl ([.ref (gad G 154)]) ++ List.replicate (7 - (lg_sl ([.ref (gad G 154)])).length) Slot.unset).toArray = ls at hl ⊢
  have hl : lv_has ls 7 [(0, .ref (gad G 154))] := hl
  have hiX5 : ∀ w ∈ u_ws RX5 TX5 6, w ∈ wsX5_comeAll := by decide +kernel
  have B39 : ∀ (n : Nat), ∀ (H : Heap) (locs : List Loc) (S : St) (_ : WD G S M0 H) (_ : va_S (Aw G) s.heap H locs) (ls : Array Slot) (l2 : Int32) (l3 : Int32) (_ : lv_has ls 7 [(0, .ref (gad G 154)), (2, .int l2), (3, .int l3)]) (h : f5_comeAll_b39 l2 n S l3 = some (rr, S')), WI p l e (headSpec wsX5_comeAll rX5_comeAll).room s m args below meth cd G rr S' M0 H locs (F0 m 39 ls []) := by
    intro n
    induction n with
    | zero => intro H locs S hW hS ls l2 l3 hl h; cases (show (none : Option (Int32 × St)) = some _ from h)
    | succ n ih =>
      intro H locs S hW hS ls l2 l3 hl h
      rw [f5_comeAll_b39] at h
      refine lv_iload_n hx hb dX5_comeAll_39 rfl (lv_at hl 2 rfl) ?_
      refine lv_iload_n hx hb dX5_comeAll_40 rfl (lv_at hl 1 rfl) ?_
      refine lv_icmp_ge (tgt := 111) hx hb dX5_comeAll_41 (by decide) (fun c_1 => ?_) (fun c_1 => ?_)
      · have h := ite_t c_1 h
        refine lv_aload_n hx hb dX5_comeAll_111 rfl (lv_at hl 0 rfl) ?_
        refine va_get (D := G.1) (ci := 5) (v := .ref (gad G 155)) (C := RX5) (T := TX5) (N := 6) hx hb hts hiX5 hown hK.1 hW.1 154 lkT rfl 3 (by decide) (hts _ (List.mem_of_getElem? (i := 4) rfl)) (fun _ h9 => h9) rfl dX5_comeAll_112 ?_
        refine lv_aload_n hx hb dX5_comeAll_115 rfl (lv_at hl 0 rfl) ?_
        refine va_get (D := G.1) (ci := 5) (v := .ref (gad G 0)) (C := RX5) (T := TX5) (N := 6) hx hb hts hiX5 hown hK.1 hW.1 154 lkT rfl 0 (by decide) (hts _ (List.mem_of_getElem? (i := 3) rfl)) (fun _ h9 => h9) rfl dX5_comeAll_116 ?_
        obtain ⟨S_2, e_3, h⟩ := bnd_e h
        refine kV_V (As := [.ref (gad G 0)]) (rest := []) ⟨hx, hb, hml, hown, hts⟩ (tX2_push l G S M0 0 (by omega) S_2 e_3) (cwV 1 hts gX5_comeAll_X2_push rfl rfl rfl ⟨rfl, hdX2_push⟩ ⟨Nat.le_of_ble_eq_true rfl, Nat.le_of_ble_eq_true rfl⟩) (va_recv hK.1 hW.1 (ci := 2) (q0 := 155) rfl lkH) hK hW hS hA rfl hl.1 rfl (Nat.le_of_ble_eq_true rfl) dX5_comeAll_119 ⟨Nat.zero_le _, Nat.zero_le _⟩ (fun H locs hW hS => ?_)
        refine lv_aload_n hx hb dX5_comeAll_122 rfl (lv_at hl 0 rfl) ?_
        refine va_get (D := G.1) (ci := 5) (v := .ref (gad G 0)) (C := RX5) (T := TX5) (N := 6) hx hb hts hiX5 hown hK.1 hW.1 154 lkT rfl 0 (by decide) (hts _ (List.mem_of_getElem? (i := 3) rfl)) (fun _ h9 => h9) rfl dX5_comeAll_123 ?_
        refine lv_aload_n hx hb dX5_comeAll_126 rfl (lv_at hl 0 rfl) ?_
        refine va_get (D := G.1) (ci := 5) (v := .ref (gad G 1)) (C := RX5) (T := TX5) (N := 6) hx hb hts hiX5 hown hK.1 hW.1 154 lkT rfl 1 (by decide) (hts _ (List.mem_of_getElem? (i := 2) rfl)) (fun _ h9 => h9) rfl dX5_comeAll_127 ?_
        obtain ⟨S_4, e_5, h⟩ := bnd_e h
        refine kV_V (As := [.ref (gad G 1)]) (rest := []) ⟨hx, hb, hml, hown, hts⟩ (tX0_copyFrom l G S_2 M0 0 (by omega) 1 (by omega) S_4 e_5) (cwV 1 hts gX5_comeAll_X0_copyFrom rfl rfl rfl ⟨rfl, hdX0_copyFrom⟩ ⟨Nat.le_of_ble_eq_true rfl, Nat.le_of_ble_eq_true rfl⟩) (va_recv hK.1 hW.1 (ci := 0) (q0 := 0) rfl (lkC (c := 0) (by omega))) hK hW hS hA rfl hl.1 rfl (Nat.le_of_ble_eq_true rfl) dX5_comeAll_130 ⟨Nat.zero_le _, Nat.zero_le _⟩ (fun H locs hW hS => ?_)
        refine lv_iload_n hx hb dX5_comeAll_133 rfl (lv_at hl 1 rfl) ?_
        obtain ⟨rfl, rfl⟩ := Prod.mk.inj (Option.some.inj h)
        exact W.iret hx hb hr (fun t ht hw => ⟨⟨_, (), rfl, rfl, hW.ret ht⟩, hS.F ht⟩) hS.2.2 dX5_comeAll_134
      · have h := ite_f c_1 h
        refine lv_aload_n hx hb dX5_comeAll_44 rfl (lv_at hl 0 rfl) ?_
        refine va_get (D := G.1) (ci := 5) (v := .ref (gad G 157)) (C := RX5) (T := TX5) (N := 6) hx hb hts hiX5 hown hK.1 hW.1 154 lkT rfl 4 (by decide) (hts _ (List.mem_of_getElem? (i := 1) rfl)) (fun _ h9 => h9) rfl dX5_comeAll_45 ?_
        refine lv_iconst (v := 2) hx hb dX5_comeAll_48 (by decide) ?_
        refine lv_iload_n hx hb dX5_comeAll_49 rfl (lv_at hl 2 rfl) ?_
        refine lv_imul hx hb dX5_comeAll_50 ?_
        obtain ⟨r_6, e_7, h⟩ := bnd_e h
        refine kV_I (As := [.int ((2 * l3))]) (rest := []) ⟨hx, hb, hml, hown, hts⟩ (tX1_number l G S M0 ((2 * l3)) r_6 e_7) (cwV 1 hts gX5_comeAll_X1_number rfl rfl rfl ⟨rfl, hdX1_number⟩ ⟨Nat.le_of_ble_eq_true rfl, Nat.le_of_ble_eq_true rfl⟩) (va_recv hK.1 hW.1 (ci := 1) (q0 := 157) rfl lkX) hK hW hS hA rfl hl.1 rfl (Nat.le_of_ble_eq_true rfl) dX5_comeAll_51 ⟨Nat.zero_le _, Nat.zero_le _⟩ (fun H locs hW hS => ?_)
        refine lv_istore (lv' := [(4, .int r_6), (0, .ref (gad G 154)), (2, .int l2), (3, .int l3)]) hx hb dX5_comeAll_54 hl (by decide) rfl (fun ls hl => ?_)
        refine lv_aload_n hx hb dX5_comeAll_56 rfl (lv_at hl 1 rfl) ?_
        refine va_get (D := G.1) (ci := 5) (v := .ref (gad G 157)) (C := RX5) (T := TX5) (N := 6) hx hb hts hiX5 hown hK.1 hW.1 154 lkT rfl 4 (by decide) (hts _ (List.mem_of_getElem? (i := 1) rfl)) (fun _ h9 => h9) rfl dX5_comeAll_57 ?_
        refine lv_iconst (v := 2) hx hb dX5_comeAll_60 (by decide) ?_
        refine lv_iload_n hx hb dX5_comeAll_61 rfl (lv_at hl 3 rfl) ?_
        refine lv_imul hx hb dX5_comeAll_62 ?_
        refine lv_iconst (v := 1) hx hb dX5_comeAll_63 (by decide) ?_
        refine lv_iadd hx hb dX5_comeAll_64 ?_
        obtain ⟨r_8, e_9, h⟩ := bnd_e h
        refine kV_I (As := [.int (((2 * l3) + 1))]) (rest := []) ⟨hx, hb, hml, hown, hts⟩ (tX1_number l G S M0 (((2 * l3) + 1)) r_8 e_9) (cwV 1 hts gX5_comeAll_X1_number rfl rfl rfl ⟨rfl, hdX1_number⟩ ⟨Nat.le_of_ble_eq_true rfl, Nat.le_of_ble_eq_true rfl⟩) (va_recv hK.1 hW.1 (ci := 1) (q0 := 157) rfl lkX) hK hW hS hA rfl hl.1 rfl (Nat.le_of_ble_eq_true rfl) dX5_comeAll_65 ⟨Nat.zero_le _, Nat.zero_le _⟩ (fun H locs hW hS => ?_)
        refine lv_istore (lv' := [(5, .int r_8), (4, .int r_6), (0, .ref (gad G 154)), (2, .int l2), (3, .int l3)]) hx hb dX5_comeAll_68 hl (by decide) rfl (fun ls hl => ?_)
        refine lv_aload_n hx hb dX5_comeAll_70 rfl (lv_at hl 2 rfl) ?_
        refine va_get (D := G.1) (ci := 5) (v := .ref (gad G 1)) (C := RX5) (T := TX5) (N := 6) hx hb hts hiX5 hown hK.1 hW.1 154 lkT rfl 1 (by decide) (hts _ (List.mem_of_getElem? (i := 2) rfl)) (fun _ h9 => h9) rfl dX5_comeAll_71 ?_
        refine lv_iload hx hb dX5_comeAll_74 (lv_at hl 1 rfl) ?_
        refine lv_iload hx hb dX5_comeAll_76 (lv_at hl 0 rfl) ?_
        obtain ⟨r_10, e_11, h⟩ := bnd_e h
        refine kV_I (As := [.int r_6, .int r_8]) (rest := []) ⟨hx, hb, hml, hown, hts⟩ (tX0_depthForNewcomer l G S M0 1 (by omega) r_6 r_8 r_10 e_11) (cwV 2 hts gX5_comeAll_X0_depthForNewcomer rfl rfl rfl ⟨rfl, hdX0_depthForNewcomer⟩ ⟨Nat.le_of_ble_eq_true rfl, Nat.le_of_ble_eq_true rfl⟩) (va_recv hK.1 hW.1 (ci := 0) (q0 := 1) rfl (lkC (c := 1) (by omega))) hK hW hS hA rfl hl.1 rfl (Nat.le_of_ble_eq_true rfl) dX5_comeAll_78 ⟨Nat.zero_le _, Nat.zero_le _⟩ (fun H locs hW hS => ?_)
        refine lv_istore (lv' := [(6, .int r_10), (5, .int r_8), (4, .int r_6), (0, .ref (gad G 154)), (2, .int l2), (3, .int l3)]) hx hb dX5_comeAll_81 hl (by decide) rfl (fun ls hl => ?_)
        refine lv_iload hx hb dX5_comeAll_83 (lv_at hl 0 rfl) ?_
        refine lv_if_ge (tgt := 91) hx hb dX5_comeAll_85 (by decide) (fun c_12 => ?_) (fun c_12 => ?_)
        · have h := ite_t c_12 h
          refine lv_aload_n hx hb dX5_comeAll_91 rfl (lv_at hl 3 rfl) ?_
          refine va_get (D := G.1) (ci := 5) (v := .ref (gad G 1)) (C := RX5) (T := TX5) (N := 6) hx hb hts hiX5 hown hK.1 hW.1 154 lkT rfl 1 (by decide) (hts _ (List.mem_of_getElem? (i := 2) rfl)) (fun _ h9 => h9) rfl dX5_comeAll_92 ?_
          refine lv_iload hx hb dX5_comeAll_95 (lv_at hl 2 rfl) ?_
          refine lv_iload hx hb dX5_comeAll_97 (lv_at hl 1 rfl) ?_
          refine lv_iload hx hb dX5_comeAll_99 (lv_at hl 0 rfl) ?_
          obtain ⟨r_13, S_14, e_15, h⟩ := bd2_e h
          refine kV_I (As := [.int r_6, .int r_8, .int r_10]) (rest := []) ⟨hx, hb, hml, hown, hts⟩ (tX0_settle l G S M0 1 (by omega) r_6 r_8 r_10 r_13 S_14 e_15) (cwV 3 hts gX5_comeAll_X0_settle rfl rfl rfl ⟨rfl, hdX0_settle⟩ ⟨Nat.le_of_ble_eq_true rfl, Nat.le_of_ble_eq_true rfl⟩) (va_recv hK.1 hW.1 (ci := 0) (q0 := 1) rfl (lkC (c := 1) (by omega))) hK hW hS hA rfl hl.1 rfl (Nat.le_of_ble_eq_true rfl) dX5_comeAll_101 ⟨Nat.zero_le _, Nat.zero_le _⟩ (fun H locs hW hS => ?_)
          refine lv_pop hx hb dX5_comeAll_104 rfl ?_
          refine lv_iinc (v := (l3 + 1)) (lv' := [(3, .int ((l3 + 1))), (6, .int r_10), (5, .int r_8), (4, .int r_6), (0, .ref (gad G 154)), (2, .int l2)]) hx hb dX5_comeAll_105 hl (k := 5) rfl rfl (by decide) rfl (fun ls hl => ?_)
          refine lv_goto (tgt := 39) hx hb dX5_comeAll_108 (by decide) ?_
          exact ih _ _ S_14 hW hS ls l2 ((l3 + 1)) (lv_sub hl [4, 5, 0] rfl) h
        · have h := ite_f c_12 h
          refine lv_iload hx hb dX5_comeAll_88 (lv_at hl 0 rfl) ?_
          obtain ⟨rfl, rfl⟩ := Prod.mk.inj (Option.some.inj h)
          exact W.iret hx hb hr (fun t ht hw => ⟨⟨_, (), rfl, rfl, hW.ret ht⟩, hS.F ht⟩) hS.2.2 dX5_comeAll_90
  unfold f5_comeAll at h
  refine lv_aload_n hx hb dX5_comeAll_0 rfl (lv_at hl 0 rfl) ?_
  refine va_get (D := G.1) (ci := 5) (v := .ref (gad G 157)) (C := RX5) (T := TX5) (N := 6) hx hb hts hiX5 hown hK.1 hW.1 154 lkT rfl 4 (by decide) (hts _ (List.mem_of_getElem? (i := 1) rfl)) (fun _ h9 => h9) rfl dX5_comeAll_1 ?_
  obtain ⟨r_1, e_2, h⟩ := bnd_e h
  refine kV_I (As := []) (rest := []) ⟨hx, hb, hml, hown, hts⟩ (tX1_fault l G S0 M0 r_1 e_2) (cwV 0 hts gX5_comeAll_X1_fault rfl rfl rfl ⟨rfl, hdX1_fault⟩ ⟨Nat.le_of_ble_eq_true rfl, Nat.le_of_ble_eq_true rfl⟩) (va_recv hK.1 hW.1 (ci := 1) (q0 := 157) rfl lkX) hK hW hS hA rfl hl.1 rfl (Nat.le_of_ble_eq_true rfl) dX5_comeAll_4 ⟨Nat.zero_le _, Nat.zero_le _⟩ (fun H locs hW hS => ?_)
  refine lv_istore_n (lv' := [(1, .int r_1), (0, .ref (gad G 154))]) hx hb dX5_comeAll_7 rfl hl (by decide) rfl (fun ls hl => ?_)
  refine lv_iload_n hx hb dX5_comeAll_8 rfl (lv_at hl 0 rfl) ?_
  refine lv_iconst (v := (-1)) hx hb dX5_comeAll_9 (by decide) ?_
  refine lv_icmp_eq (tgt := 18) hx hb dX5_comeAll_10 (by decide) (fun c_3 => ?_) (fun c_3 => ?_)
  · have h := ite_t c_3 h
    refine lv_aload_n hx hb dX5_comeAll_18 rfl (lv_at hl 1 rfl) ?_
    refine va_get (D := G.1) (ci := 5) (v := .ref (gad G 1)) (C := RX5) (T := TX5) (N := 6) hx hb hts hiX5 hown hK.1 hW.1 154 lkT rfl 1 (by decide) (hts _ (List.mem_of_getElem? (i := 2) rfl)) (fun _ h9 => h9) rfl dX5_comeAll_19 ?_
    refine lv_aload_n hx hb dX5_comeAll_22 rfl (lv_at hl 1 rfl) ?_
    refine va_get (D := G.1) (ci := 5) (v := .ref (gad G 0)) (C := RX5) (T := TX5) (N := 6) hx hb hts hiX5 hown hK.1 hW.1 154 lkT rfl 0 (by decide) (hts _ (List.mem_of_getElem? (i := 3) rfl)) (fun _ h9 => h9) rfl dX5_comeAll_23 ?_
    obtain ⟨S_4, e_5, h⟩ := bnd_e h
    refine kV_V (As := [.ref (gad G 0)]) (rest := []) ⟨hx, hb, hml, hown, hts⟩ (tX0_copyFrom l G S0 M0 1 (by omega) 0 (by omega) S_4 e_5) (cwV 1 hts gX5_comeAll_X0_copyFrom rfl rfl rfl ⟨rfl, hdX0_copyFrom⟩ ⟨Nat.le_of_ble_eq_true rfl, Nat.le_of_ble_eq_true rfl⟩) (va_recv hK.1 hW.1 (ci := 0) (q0 := 1) rfl (lkC (c := 1) (by omega))) hK hW hS hA rfl hl.1 rfl (Nat.le_of_ble_eq_true rfl) dX5_comeAll_26 ⟨Nat.zero_le _, Nat.zero_le _⟩ (fun H locs hW hS => ?_)
    refine lv_aload_n hx hb dX5_comeAll_29 rfl (lv_at hl 1 rfl) ?_
    refine va_get (D := G.1) (ci := 5) (v := .ref (gad G 157)) (C := RX5) (T := TX5) (N := 6) hx hb hts hiX5 hown hK.1 hW.1 154 lkT rfl 4 (by decide) (hts _ (List.mem_of_getElem? (i := 1) rfl)) (fun _ h9 => h9) rfl dX5_comeAll_30 ?_
    obtain ⟨r_6, e_7, h⟩ := bnd_e h
    refine kV_I (As := []) (rest := []) ⟨hx, hb, hml, hown, hts⟩ (tX1_campers l G S_4 M0 r_6 e_7) (cwV 0 hts gX5_comeAll_X1_campers rfl rfl rfl ⟨rfl, hdX1_campers⟩ ⟨Nat.le_of_ble_eq_true rfl, Nat.le_of_ble_eq_true rfl⟩) (va_recv hK.1 hW.1 (ci := 1) (q0 := 157) rfl lkX) hK hW hS hA rfl hl.1 rfl (Nat.le_of_ble_eq_true rfl) dX5_comeAll_33 ⟨Nat.zero_le _, Nat.zero_le _⟩ (fun H locs hW hS => ?_)
    refine lv_istore_n (lv' := [(2, .int r_6), (1, .int r_1), (0, .ref (gad G 154))]) hx hb dX5_comeAll_36 rfl hl (by decide) rfl (fun ls hl => ?_)
    refine lv_iconst (v := 0) hx hb dX5_comeAll_37 (by decide) ?_
    refine lv_istore_n (lv' := [(3, .int 0), (2, .int r_6), (1, .int r_1), (0, .ref (gad G 154))]) hx hb dX5_comeAll_38 rfl hl (by decide) rfl (fun ls hl => ?_)
    exact B39 fuelN _ _ S_4 hW hS ls r_6 0 (lv_sub hl [3, 1, 0] rfl) h
  · have h := ite_f c_3 h
    refine lv_bipush (v := (-100)) hx hb dX5_comeAll_13 (by decide) ?_
    refine lv_iload_n hx hb dX5_comeAll_15 rfl (lv_at hl 0 rfl) ?_
    refine lv_isub hx hb dX5_comeAll_16 ?_
    obtain ⟨rfl, rfl⟩ := Prod.mk.inj (Option.some.inj h)
    exact W.iret hx hb hr (fun t ht hw => ⟨⟨_, (), rfl, rfl, hW.ret ht⟩, hS.F ht⟩) hS.2.2 dX5_comeAll_17
abbrev rX5_restore : Room := { frames := 4, cells := 0, slots := 0, locals := 87 }
set_option maxRecDepth 100000 in
set_option maxHeartbeats 8000000 in
theorem tX5_restore (l : Launch) (G : WG) (S0 M0 : St) (rr : Int32) (S' : St) (h : f5_restore S0 = some (rr, S')) : CtI l yX5_restore wsX5_restore rX5_restore G [.ref (gad G 154)] S0 M0 rr S' M0 := by
  refine Met.ofW (cc := cX5_restore) (maxL := 1) (ret := (some .int)) (by decide) rfl ?_
  intro p e s m args below meth cd s₁ B hml hv
  obtain ⟨hargs, hK, hW⟩ := hv
  have hx := B.exec
  have hb := B.bytes
  have hr := B.returns
  have hts := atoms_spec (ws := wsX5_restore) B.pre
  have hown : s.vm.findClass RX5 = some m.cls := findClass_of_methodNamed B.named
  have hlocks := B.notSynchronized
  have hA : ∀ q, Aw G q → Aw G q := fun _ h => h
  have hS : va_S (Aw G) s.heap s.heap [] := va_S.rf
  have he0 : entryFrame m args 1 = F0 m 0 ((lg_sl ([.ref (gad G 154)]) ++ List.replicate (1 - (lg_sl ([.ref (gad G 154)])).length) Slot.unset).toArray) [] := by rw [hargs]; exact lg_entry_eq _ _ _
  have hl := lv_entry ([.ref (gad G 154)]) (n := 1) (Nat.le_of_ble_eq_true rfl)
  rw [he0]
  generalize (lg_sl ([.ref (gad G 154)]) ++ List.replicate (1 - (lg_sl ([.ref (gad G 154)])).length) Slot.unset).toArray = ls at hl ⊢
  have hl : lv_has ls 1 [(0, .ref (gad G 154))] := hl
  have hiX5 : ∀ w ∈ u_ws RX5 TX5 6, w ∈ wsX5_restore := by decide +kernel
  unfold f5_restore at h
  refine lv_aload_n hx hb dX5_restore_0 rfl (lv_at hl 0 rfl) ?_
  refine va_get (D := G.1) (ci := 5) (v := .int (S0.1 42)) (C := RX5) (T := TX5) (N := 6) hx hb hts hiX5 hown hK.1 hW.1 154 lkT rfl 5 (by decide) (hts _ (List.mem_of_getElem? (i := 1) rfl)) (fun _ h9 => h9) rfl dX5_restore_1 ?_
  refine lv_if_ne (tgt := 10) hx hb dX5_restore_4 (by decide) (fun c_1 => ?_) (fun c_1 => ?_)
  · have h := ite_f c_1 h
    refine lv_aload_n hx hb dX5_restore_10 rfl (lv_at hl 0 rfl) ?_
    refine va_get (D := G.1) (ci := 5) (v := .ref (gad G 155)) (C := RX5) (T := TX5) (N := 6) hx hb hts hiX5 hown hK.1 hW.1 154 lkT rfl 3 (by decide) (hts _ (List.mem_of_getElem? (i := 2) rfl)) (fun _ h9 => h9) rfl dX5_restore_11 ?_
    refine lv_aload_n hx hb dX5_restore_14 rfl (lv_at hl 0 rfl) ?_
    refine va_get (D := G.1) (ci := 5) (v := .ref (gad G 0)) (C := RX5) (T := TX5) (N := 6) hx hb hts hiX5 hown hK.1 hW.1 154 lkT rfl 0 (by decide) (hts _ (List.mem_of_getElem? (i := 3) rfl)) (fun _ h9 => h9) rfl dX5_restore_15 ?_
    obtain ⟨S_2, e_3, h⟩ := bnd_e h
    refine kV_V (As := [.ref (gad G 0)]) (rest := []) ⟨hx, hb, hml, hown, hts⟩ (tX2_push l G S0 M0 0 (by omega) S_2 e_3) (cwV 1 hts gX5_restore_X2_push rfl rfl rfl ⟨rfl, hdX2_push⟩ ⟨Nat.le_of_ble_eq_true rfl, Nat.le_of_ble_eq_true rfl⟩) (va_recv hK.1 hW.1 (ci := 2) (q0 := 155) rfl lkH) hK hW hS hA rfl hl.1 rfl (Nat.le_of_ble_eq_true rfl) dX5_restore_18 ⟨Nat.zero_le _, Nat.zero_le _⟩ (fun H locs hW hS => ?_)
    refine lv_aload_n hx hb dX5_restore_21 rfl (lv_at hl 0 rfl) ?_
    refine va_get (D := G.1) (ci := 5) (v := .ref (gad G 0)) (C := RX5) (T := TX5) (N := 6) hx hb hts hiX5 hown hK.1 hW.1 154 lkT rfl 0 (by decide) (hts _ (List.mem_of_getElem? (i := 3) rfl)) (fun _ h9 => h9) rfl dX5_restore_22 ?_
    refine lv_aload_n hx hb dX5_restore_25 rfl (lv_at hl 0 rfl) ?_
    refine va_get (D := G.1) (ci := 5) (v := .ref (gad G 2)) (C := RX5) (T := TX5) (N := 6) hx hb hts hiX5 hown hK.1 hW.1 154 lkT rfl 2 (by decide) (hts _ (List.mem_of_getElem? (i := 4) rfl)) (fun _ h9 => h9) rfl dX5_restore_26 ?_
    obtain ⟨S_4, e_5, h⟩ := bnd_e h
    refine kV_V (As := [.ref (gad G 2)]) (rest := []) ⟨hx, hb, hml, hown, hts⟩ (tX0_copyFrom l G S_2 M0 0 (by omega) 2 (by omega) S_4 e_5) (cwV 1 hts gX5_restore_X0_copyFrom rfl rfl rfl ⟨rfl, hdX0_copyFrom⟩ ⟨Nat.le_of_ble_eq_true rfl, Nat.le_of_ble_eq_true rfl⟩) (va_recv hK.1 hW.1 (ci := 0) (q0 := 0) rfl (lkC (c := 0) (by omega))) hK hW hS hA rfl hl.1 rfl (Nat.le_of_ble_eq_true rfl) dX5_restore_29 ⟨Nat.zero_le _, Nat.zero_le _⟩ (fun H locs hW hS => ?_)
    refine lv_aload_n hx hb dX5_restore_32 rfl (lv_at hl 0 rfl) ?_
    refine va_get (D := G.1) (ci := 5) (v := .ref (gad G 0)) (C := RX5) (T := TX5) (N := 6) hx hb hts hiX5 hown hK.1 hW.1 154 lkT rfl 0 (by decide) (hts _ (List.mem_of_getElem? (i := 3) rfl)) (fun _ h9 => h9) rfl dX5_restore_33 ?_
    obtain ⟨r_6, e_7, h⟩ := bnd_e h
    refine kV_I (As := []) (rest := []) ⟨hx, hb, hml, hown, hts⟩ (tX0_campersHere l G S_4 M0 0 (by omega) r_6 e_7) (cwV 0 hts gX5_restore_X0_campersHere rfl rfl rfl ⟨rfl, hdX0_campersHere⟩ ⟨Nat.le_of_ble_eq_true rfl, Nat.le_of_ble_eq_true rfl⟩) (va_recv hK.1 hW.1 (ci := 0) (q0 := 0) rfl (lkC (c := 0) (by omega))) hK hW hS hA rfl hl.1 rfl (Nat.le_of_ble_eq_true rfl) dX5_restore_36 ⟨Nat.zero_le _, Nat.zero_le _⟩ (fun H locs hW hS => ?_)
    obtain ⟨rfl, rfl⟩ := Prod.mk.inj (Option.some.inj h)
    exact W.iret hx hb hr (fun t ht hw => ⟨⟨_, (), rfl, rfl, hW.ret ht⟩, hS.F ht⟩) hS.2.2 dX5_restore_39
  · have h := ite_t c_1 h
    refine lv_bipush (v := (-5)) hx hb dX5_restore_7 (by decide) ?_
    obtain ⟨rfl, rfl⟩ := Prod.mk.inj (Option.some.inj h)
    exact W.iret hx hb hr (fun t ht hw => ⟨⟨_, (), rfl, rfl, hW.ret ht⟩, hS.F ht⟩) hS.2.2 dX5_restore_9
abbrev rX5_carry : Room := { frames := 6, cells := 0, slots := 0, locals := 135 }
set_option maxRecDepth 100000 in
set_option maxHeartbeats 8000000 in
theorem tX5_carry (l : Launch) (G : WG) (S0 M0 : St) (p1 : Int32) (p2 : Int32) (p3 : Int32) (rr : Int32) (S' : St) (h : f5_carry S0 p1 p2 p3 = some (rr, S')) : CtI l yX5_carry wsX5_carry rX5_carry G [.ref (gad G 154), .int p1, .int p2, .int p3] S0 M0 rr S' M0 := by
  refine Met.ofW (cc := cX5_carry) (maxL := 4) (ret := (some .int)) (by decide) rfl ?_
  intro p e s m args below meth cd s₁ B hml hv
  obtain ⟨hargs, hK, hW⟩ := hv
  have hx := B.exec
  have hb := B.bytes
  have hr := B.returns
  have hts := atoms_spec (ws := wsX5_carry) B.pre
  have hown : s.vm.findClass RX5 = some m.cls := findClass_of_methodNamed B.named
  have hlocks := B.notSynchronized
  have hA : ∀ q, Aw G q → Aw G q := fun _ h => h
  have hS : va_S (Aw G) s.heap s.heap [] := va_S.rf
  have he0 : entryFrame m args 4 = F0 m 0 ((lg_sl ([.ref (gad G 154), .int p1, .int p2, .int p3]) ++ List.replicate (4 - (lg_sl ([.ref (gad G 154), .int p1, .int p2, .int p3])).length) Slot.unset).toArray) [] := by rw [hargs]; exact lg_entry_eq _ _ _
  have hl := lv_entry ([.ref (gad G 154), .int p1, .int p2, .int p3]) (n := 4) (Nat.le_of_ble_eq_true rfl)
  rw [he0]
  generalize (lg_sl ([.ref (gad G 154), .int p1, .int p2, .int p3]) ++ List.replicate (4 - (lg_sl ([.ref (gad G 154), .int p1, .int p2, .int p3])).length) Slot.unset).toArray = ls at hl ⊢
  have hl : lv_has ls 4 [(0, .ref (gad G 154)), (1, .int p1), (2, .int p2), (3, .int p3)] := hl
  have hiX0 : ∀ w ∈ u_ws RX0 TX0 12, w ∈ wsX5_carry := by decide +kernel
  have hiX5 : ∀ w ∈ u_ws RX5 TX5 6, w ∈ wsX5_carry := by decide +kernel
  have B54 : ∀ (H : Heap) (locs : List Loc) (S : St) (_ : WD G S M0 H) (_ : va_S (Aw G) s.heap H locs) (ls : Array Slot) (l1 : Int32) (l2 : Int32) (l3 : Int32) (_ : lv_has ls 4 [(0, .ref (gad G 154)), (1, .int l1), (2, .int l2), (3, .int l3)]) (h : f5_carry_b54 S l1 l2 l3 = some (rr, S')), WI p l e (headSpec wsX5_carry rX5_carry).room s m args below meth cd G rr S' M0 H locs (F0 m 54 ls []) := by
    intro H locs S hW hS ls l1 l2 l3 hl h
    unfold f5_carry_b54 at h
    refine lv_aload_n hx hb dX5_carry_54 rfl (lv_at hl 0 rfl) ?_
    refine va_get (D := G.1) (ci := 5) (v := .ref (gad G 155)) (C := RX5) (T := TX5) (N := 6) hx hb hts hiX5 hown hK.1 hW.1 154 lkT rfl 3 (by decide) (hts _ (List.mem_of_getElem? (i := 2) rfl)) (fun _ h9 => h9) rfl dX5_carry_55 ?_
    refine lv_aload_n hx hb dX5_carry_58 rfl (lv_at hl 0 rfl) ?_
    refine va_get (D := G.1) (ci := 5) (v := .ref (gad G 0)) (C := RX5) (T := TX5) (N := 6) hx hb hts hiX5 hown hK.1 hW.1 154 lkT rfl 0 (by decide) (hts _ (List.mem_of_getElem? (i := 1) rfl)) (fun _ h9 => h9) rfl dX5_carry_59 ?_
    obtain ⟨S_1, e_2, h⟩ := bnd_e h
    refine kV_V (As := [.ref (gad G 0)]) (rest := []) ⟨hx, hb, hml, hown, hts⟩ (tX2_push l G S M0 0 (by omega) S_1 e_2) (cwV 1 hts gX5_carry_X2_push rfl rfl rfl ⟨rfl, hdX2_push⟩ ⟨Nat.le_of_ble_eq_true rfl, Nat.le_of_ble_eq_true rfl⟩) (va_recv hK.1 hW.1 (ci := 2) (q0 := 155) rfl lkH) hK hW hS hA rfl hl.1 rfl (Nat.le_of_ble_eq_true rfl) dX5_carry_62 ⟨Nat.zero_le _, Nat.zero_le _⟩ (fun H locs hW hS => ?_)
    refine lv_aload_n hx hb dX5_carry_65 rfl (lv_at hl 0 rfl) ?_
    refine va_get (D := G.1) (ci := 5) (v := .ref (gad G 0)) (C := RX5) (T := TX5) (N := 6) hx hb hts hiX5 hown hK.1 hW.1 154 lkT rfl 0 (by decide) (hts _ (List.mem_of_getElem? (i := 1) rfl)) (fun _ h9 => h9) rfl dX5_carry_66 ?_
    refine lv_iload_n hx hb dX5_carry_69 rfl (lv_at hl 1 rfl) ?_
    refine lv_iload_n hx hb dX5_carry_70 rfl (lv_at hl 2 rfl) ?_
    refine lv_iload_n hx hb dX5_carry_71 rfl (lv_at hl 3 rfl) ?_
    obtain ⟨S_3, e_4, h⟩ := bnd_e h
    refine kV_V (As := [.int l1, .int l2, .int l3]) (rest := []) ⟨hx, hb, hml, hown, hts⟩ (tX0_putSong l G S_1 M0 0 (by omega) l1 l2 l3 S_3 e_4) (cwV 3 hts gX5_carry_X0_putSong rfl rfl rfl ⟨rfl, hdX0_putSong⟩ ⟨Nat.le_of_ble_eq_true rfl, Nat.le_of_ble_eq_true rfl⟩) (va_recv hK.1 hW.1 (ci := 0) (q0 := 0) rfl (lkC (c := 0) (by omega))) hK hW hS hA rfl hl.1 rfl (Nat.le_of_ble_eq_true rfl) dX5_carry_72 ⟨Nat.zero_le _, Nat.zero_le _⟩ (fun H locs hW hS => ?_)
    refine lv_aload_n hx hb dX5_carry_75 rfl (lv_at hl 0 rfl) ?_
    refine lv_iload_n hx hb dX5_carry_76 rfl (lv_at hl 1 rfl) ?_
    obtain ⟨r_5, e_6, h⟩ := bnd_e h
    refine kV_I (As := [.int l1]) (rest := []) ⟨hx, hb, hml, hown, hts⟩ (tX5_toldOwnerOf l G S_3 M0 l1 r_5 e_6) (cwV 1 hts gX5_carry_X5_toldOwnerOf rfl rfl rfl ⟨rfl, hdX5_toldOwnerOf⟩ ⟨Nat.le_of_ble_eq_true rfl, Nat.le_of_ble_eq_true rfl⟩) (va_recv hK.1 hW.1 (ci := 5) (q0 := 154) rfl lkT) hK hW hS hA rfl hl.1 rfl (Nat.le_of_ble_eq_true rfl) dX5_carry_77 ⟨Nat.zero_le _, Nat.zero_le _⟩ (fun H locs hW hS => ?_)
    obtain ⟨rfl, rfl⟩ := Prod.mk.inj (Option.some.inj h)
    exact W.iret hx hb hr (fun t ht hw => ⟨⟨_, (), rfl, rfl, hW.ret ht⟩, hS.F ht⟩) hS.2.2 dX5_carry_80
  have B19 : ∀ (H : Heap) (locs : List Loc) (S : St) (_ : WD G S M0 H) (_ : va_S (Aw G) s.heap H locs) (ls : Array Slot) (_ : lv_has ls 4 []) (h : f5_carry_b19 S  = some (rr, S')), WI p l e (headSpec wsX5_carry rX5_carry).room s m args below meth cd G rr S' M0 H locs (F0 m 19 ls []) := by
    intro H locs S hW hS ls hl h
    unfold f5_carry_b19 at h
    refine lv_iconst (v := (-1)) hx hb dX5_carry_19 (by decide) ?_
    obtain ⟨rfl, rfl⟩ := Prod.mk.inj (Option.some.inj h)
    exact W.iret hx hb hr (fun t ht hw => ⟨⟨_, (), rfl, rfl, hW.ret ht⟩, hS.F ht⟩) hS.2.2 dX5_carry_20
  unfold f5_carry at h
  refine lv_aload_n hx hb dX5_carry_0 rfl (lv_at hl 0 rfl) ?_
  refine va_get (D := G.1) (ci := 5) (v := .ref (gad G 0)) (C := RX5) (T := TX5) (N := 6) hx hb hts hiX5 hown hK.1 hW.1 154 lkT rfl 0 (by decide) (hts _ (List.mem_of_getElem? (i := 1) rfl)) (fun _ h9 => h9) rfl dX5_carry_1 ?_
  refine lv_iload_n hx hb dX5_carry_4 rfl (lv_at hl 1 rfl) ?_
  obtain ⟨r_1, e_2, h⟩ := bnd_e h
  refine kV_I (As := [.int p1]) (rest := []) ⟨hx, hb, hml, hown, hts⟩ (tX0_isSong l G S0 M0 0 (by omega) p1 r_1 e_2) (cwV 1 hts gX5_carry_X0_isSong rfl rfl rfl ⟨rfl, hdX0_isSong⟩ ⟨Nat.le_of_ble_eq_true rfl, Nat.le_of_ble_eq_true rfl⟩) (va_recv hK.1 hW.1 (ci := 0) (q0 := 0) rfl (lkC (c := 0) (by omega))) hK hW hS hA rfl hl.1 rfl (Nat.le_of_ble_eq_true rfl) dX5_carry_5 ⟨Nat.zero_le _, Nat.zero_le _⟩ (fun H locs hW hS => ?_)
  refine lv_if_eq (tgt := 19) hx hb dX5_carry_8 (by decide) (fun c_3 => ?_) (fun c_3 => ?_)
  · have h := ite_t c_3 h
    exact B19 _ _ S0 hW hS ls (lv_sub hl [] rfl) h
  · have h := ite_f c_3 h
    refine lv_iload_n hx hb dX5_carry_11 rfl (lv_at hl 2 rfl) ?_
    refine lv_iload_n hx hb dX5_carry_12 rfl (lv_at hl 3 rfl) ?_
    obtain ⟨r_4, e_5, h⟩ := bnd_e h
    refine kS_I (As := [.int p2, .int p3]) (rest := []) ⟨hx, hb, hml, hown, hts⟩ (tX5_isPoint l G S0 M0 p2 p3 r_4 e_5) (va_cwS 2 hts gX5_carry_X5_isPoint rfl rfl rfl hdX5_isPoint ⟨Nat.le_of_ble_eq_true rfl, Nat.le_of_ble_eq_true rfl⟩) hK hW hS hA rfl hl.1 rfl (Nat.le_of_ble_eq_true rfl) dX5_carry_13 ⟨Nat.zero_le _, Nat.zero_le _⟩ (fun H locs hW hS => ?_)
    refine lv_if_ne (tgt := 21) hx hb dX5_carry_16 (by decide) (fun c_6 => ?_) (fun c_6 => ?_)
    · have h := ite_f c_6 h
      refine lv_aload_n hx hb dX5_carry_21 rfl (lv_at hl 0 rfl) ?_
      refine va_get (D := G.1) (ci := 5) (v := .ref (gad G 0)) (C := RX5) (T := TX5) (N := 6) hx hb hts hiX5 hown hK.1 hW.1 154 lkT rfl 0 (by decide) (hts _ (List.mem_of_getElem? (i := 1) rfl)) (fun _ h9 => h9) rfl dX5_carry_22 ?_
      refine va_getN (D := G.1) (ci := 0) (v := .ref (gad G (14 + (10 * 0 + 7)))) (C := RX0) (T := TX0) (N := 12) hx hb hts hiX0 hown hK.1 hW.1 0 (lkC (c := 0) (by omega)) rfl 4 (by decide) (va_Nw.use rfl (hK.2 _ (List.mem_of_getElem? (i := 4) rfl))) (fun _ h9 => h9) rfl dX5_carry_25 ?_
      refine lv_iload_n hx hb dX5_carry_28 rfl (lv_at hl 1 rfl) ?_
      obtain ⟨r_7, e_8, h⟩ := bnd_e h
      refine kV_I (As := [.int p1]) (rest := []) ⟨hx, hb, hml, hown, hts⟩ (tX4_at l G S0 M0 ((10 * 0 + 7)) (by omega) p1 r_7 e_8) (cwV 1 hts gX5_carry_X4_at rfl rfl rfl ⟨rfl, hdX4_at⟩ ⟨Nat.le_of_ble_eq_true rfl, Nat.le_of_ble_eq_true rfl⟩) (va_recv hK.1 hW.1 (ci := 4) (q0 := (14 + (10 * 0 + 7))) rfl (lkR (r := (10 * 0 + 7)) (by omega))) hK hW hS hA rfl hl.1 rfl (Nat.le_of_ble_eq_true rfl) dX5_carry_29 ⟨Nat.zero_le _, Nat.zero_le _⟩ (fun H locs hW hS => ?_)
      refine lv_iload_n hx hb dX5_carry_32 rfl (lv_at hl 2 rfl) ?_
      refine lv_icmp_ne (tgt := 54) hx hb dX5_carry_33 (by decide) (fun c_9 => ?_) (fun c_9 => ?_)
      · have h := ite_f c_9 h
        exact B54 _ _ S0 hW hS ls p1 p2 p3 (lv_sub hl [0, 1, 2, 3] rfl) h
      · have h := ite_t c_9 h
        refine lv_aload_n hx hb dX5_carry_36 rfl (lv_at hl 0 rfl) ?_
        refine va_get (D := G.1) (ci := 5) (v := .ref (gad G 0)) (C := RX5) (T := TX5) (N := 6) hx hb hts hiX5 hown hK.1 hW.1 154 lkT rfl 0 (by decide) (hts _ (List.mem_of_getElem? (i := 1) rfl)) (fun _ h9 => h9) rfl dX5_carry_37 ?_
        refine va_getN (D := G.1) (ci := 0) (v := .ref (gad G (14 + (10 * 0 + 8)))) (C := RX0) (T := TX0) (N := 12) hx hb hts hiX0 hown hK.1 hW.1 0 (lkC (c := 0) (by omega)) rfl 5 (by decide) (va_Nw.use rfl (hK.2 _ (List.mem_of_getElem? (i := 5) rfl))) (fun _ h9 => h9) rfl dX5_carry_40 ?_
        refine lv_iload_n hx hb dX5_carry_43 rfl (lv_at hl 1 rfl) ?_
        obtain ⟨r_10, e_11, h⟩ := bnd_e h
        refine kV_I (As := [.int p1]) (rest := []) ⟨hx, hb, hml, hown, hts⟩ (tX4_at l G S0 M0 ((10 * 0 + 8)) (by omega) p1 r_10 e_11) (cwV 1 hts gX5_carry_X4_at rfl rfl rfl ⟨rfl, hdX4_at⟩ ⟨Nat.le_of_ble_eq_true rfl, Nat.le_of_ble_eq_true rfl⟩) (va_recv hK.1 hW.1 (ci := 4) (q0 := (14 + (10 * 0 + 8))) rfl (lkR (r := (10 * 0 + 8)) (by omega))) hK hW hS hA rfl hl.1 rfl (Nat.le_of_ble_eq_true rfl) dX5_carry_44 ⟨Nat.zero_le _, Nat.zero_le _⟩ (fun H locs hW hS => ?_)
        refine lv_iload_n hx hb dX5_carry_47 rfl (lv_at hl 3 rfl) ?_
        refine lv_icmp_ne (tgt := 54) hx hb dX5_carry_48 (by decide) (fun c_12 => ?_) (fun c_12 => ?_)
        · have h := ite_f c_12 h
          exact B54 _ _ S0 hW hS ls p1 p2 p3 (lv_sub hl [0, 1, 2, 3] rfl) h
        · have h := ite_t c_12 h
          refine lv_bipush (v := (-5)) hx hb dX5_carry_51 (by decide) ?_
          obtain ⟨rfl, rfl⟩ := Prod.mk.inj (Option.some.inj h)
          exact W.iret hx hb hr (fun t ht hw => ⟨⟨_, (), rfl, rfl, hW.ret ht⟩, hS.F ht⟩) hS.2.2 dX5_carry_53
    · have h := ite_t c_6 h
      exact B19 _ _ S0 hW hS ls (lv_sub hl [] rfl) h
abbrev rX5_lay : Room := { frames := 4, cells := 0, slots := 0, locals := 87 }
set_option maxRecDepth 100000 in
set_option maxHeartbeats 8000000 in
theorem tX5_lay (l : Launch) (G : WG) (S0 M0 : St) (p1 : Int32) (p2 : Int32) (p3 : Int32) (rr : Int32) (S' : St) (h : f5_lay S0 p1 p2 p3 = some (rr, S')) : CtI l yX5_lay wsX5_lay rX5_lay G [.ref (gad G 154), .int p1, .int p2, .int p3] S0 M0 rr S' M0 := by
  refine Met.ofW (cc := cX5_lay) (maxL := 4) (ret := (some .int)) (by decide) rfl ?_
  intro p e s m args below meth cd s₁ B hml hv
  obtain ⟨hargs, hK, hW⟩ := hv
  have hx := B.exec
  have hb := B.bytes
  have hr := B.returns
  have hts := atoms_spec (ws := wsX5_lay) B.pre
  have hown : s.vm.findClass RX5 = some m.cls := findClass_of_methodNamed B.named
  have hlocks := B.notSynchronized
  have hA : ∀ q, Aw G q → Aw G q := fun _ h => h
  have hS : va_S (Aw G) s.heap s.heap [] := va_S.rf
  have he0 : entryFrame m args 4 = F0 m 0 ((lg_sl ([.ref (gad G 154), .int p1, .int p2, .int p3]) ++ List.replicate (4 - (lg_sl ([.ref (gad G 154), .int p1, .int p2, .int p3])).length) Slot.unset).toArray) [] := by rw [hargs]; exact lg_entry_eq _ _ _
  have hl := lv_entry ([.ref (gad G 154), .int p1, .int p2, .int p3]) (n := 4) (Nat.le_of_ble_eq_true rfl)
  rw [he0]
  generalize (lg_sl ([.ref (gad G 154), .int p1, .int p2, .int p3]) ++ List.replicate (4 - (lg_sl ([.ref (gad G 154), .int p1, .int p2, .int p3])).length) Slot.unset).toArray = ls at hl ⊢
  have hl : lv_has ls 4 [(0, .ref (gad G 154)), (1, .int p1), (2, .int p2), (3, .int p3)] := hl
  have hiX0 : ∀ w ∈ u_ws RX0 TX0 12, w ∈ wsX5_lay := by decide +kernel
  have hiX5 : ∀ w ∈ u_ws RX5 TX5 6, w ∈ wsX5_lay := by decide +kernel
  have B22 : ∀ (H : Heap) (locs : List Loc) (S : St) (_ : WD G S M0 H) (_ : va_S (Aw G) s.heap H locs) (ls : Array Slot) (_ : lv_has ls 4 []) (h : f5_lay_b22 S  = some (rr, S')), WI p l e (headSpec wsX5_lay rX5_lay).room s m args below meth cd G rr S' M0 H locs (F0 m 22 ls []) := by
    intro H locs S hW hS ls hl h
    unfold f5_lay_b22 at h
    refine lv_bipush (v := (-2)) hx hb dX5_lay_22 (by decide) ?_
    obtain ⟨rfl, rfl⟩ := Prod.mk.inj (Option.some.inj h)
    exact W.iret hx hb hr (fun t ht hw => ⟨⟨_, (), rfl, rfl, hW.ret ht⟩, hS.F ht⟩) hS.2.2 dX5_lay_24
  unfold f5_lay at h
  refine lv_iload_n hx hb dX5_lay_0 rfl (lv_at hl 1 rfl) ?_
  refine lv_iload_n hx hb dX5_lay_1 rfl (lv_at hl 2 rfl) ?_
  obtain ⟨r_1, e_2, h⟩ := bnd_e h
  refine kS_I (As := [.int p1, .int p2]) (rest := []) ⟨hx, hb, hml, hown, hts⟩ (tX5_isPoint l G S0 M0 p1 p2 r_1 e_2) (va_cwS 2 hts gX5_lay_X5_isPoint rfl rfl rfl hdX5_isPoint ⟨Nat.le_of_ble_eq_true rfl, Nat.le_of_ble_eq_true rfl⟩) hK hW hS hA rfl hl.1 rfl (Nat.le_of_ble_eq_true rfl) dX5_lay_2 ⟨Nat.zero_le _, Nat.zero_le _⟩ (fun H locs hW hS => ?_)
  refine lv_if_ne (tgt := 10) hx hb dX5_lay_5 (by decide) (fun c_3 => ?_) (fun c_3 => ?_)
  · have h := ite_f c_3 h
    refine lv_iload_n hx hb dX5_lay_10 rfl (lv_at hl 3 rfl) ?_
    refine lv_iconst (v := 1) hx hb dX5_lay_11 (by decide) ?_
    refine lv_icmp_lt (tgt := 22) hx hb dX5_lay_12 (by decide) (fun c_4 => ?_) (fun c_4 => ?_)
    · have h := ite_t c_4 h
      exact B22 _ _ S0 hW hS ls (lv_sub hl [] rfl) h
    · have h := ite_f c_4 h
      refine lv_iload_n hx hb dX5_lay_15 rfl (lv_at hl 3 rfl) ?_
      refine lv_sipush (v := 999) hx hb dX5_lay_16 (by decide) ?_
      refine lv_icmp_le (tgt := 25) hx hb dX5_lay_19 (by decide) (fun c_5 => ?_) (fun c_5 => ?_)
      · have h := ite_t c_5 h
        refine lv_aload_n hx hb dX5_lay_25 rfl (lv_at hl 0 rfl) ?_
        refine va_get (D := G.1) (ci := 5) (v := .ref (gad G 0)) (C := RX5) (T := TX5) (N := 6) hx hb hts hiX5 hown hK.1 hW.1 154 lkT rfl 0 (by decide) (hts _ (List.mem_of_getElem? (i := 1) rfl)) (fun _ h9 => h9) rfl dX5_lay_26 ?_
        refine va_getN (D := G.1) (ci := 0) (v := .int (S0.1 (6 * 0 + 2))) (C := RX0) (T := TX0) (N := 12) hx hb hts hiX0 hown hK.1 hW.1 0 (lkC (c := 0) (by omega)) rfl 8 (by decide) (va_Nw.use rfl (hK.2 _ (List.mem_of_getElem? (i := 7) rfl))) (fun _ h9 => h9) rfl dX5_lay_29 ?_
        refine lv_bipush (v := 20) hx hb dX5_lay_32 (by decide) ?_
        refine lv_icmp_lt (tgt := 40) hx hb dX5_lay_34 (by decide) (fun c_6 => ?_) (fun c_6 => ?_)
        · have h := ite_t c_6 h
          refine lv_aload_n hx hb dX5_lay_40 rfl (lv_at hl 0 rfl) ?_
          refine va_get (D := G.1) (ci := 5) (v := .ref (gad G 155)) (C := RX5) (T := TX5) (N := 6) hx hb hts hiX5 hown hK.1 hW.1 154 lkT rfl 3 (by decide) (hts _ (List.mem_of_getElem? (i := 2) rfl)) (fun _ h9 => h9) rfl dX5_lay_41 ?_
          refine lv_aload_n hx hb dX5_lay_44 rfl (lv_at hl 0 rfl) ?_
          refine va_get (D := G.1) (ci := 5) (v := .ref (gad G 0)) (C := RX5) (T := TX5) (N := 6) hx hb hts hiX5 hown hK.1 hW.1 154 lkT rfl 0 (by decide) (hts _ (List.mem_of_getElem? (i := 1) rfl)) (fun _ h9 => h9) rfl dX5_lay_45 ?_
          obtain ⟨S_7, e_8, h⟩ := bnd_e h
          refine kV_V (As := [.ref (gad G 0)]) (rest := []) ⟨hx, hb, hml, hown, hts⟩ (tX2_push l G S0 M0 0 (by omega) S_7 e_8) (cwV 1 hts gX5_lay_X2_push rfl rfl rfl ⟨rfl, hdX2_push⟩ ⟨Nat.le_of_ble_eq_true rfl, Nat.le_of_ble_eq_true rfl⟩) (va_recv hK.1 hW.1 (ci := 2) (q0 := 155) rfl lkH) hK hW hS hA rfl hl.1 rfl (Nat.le_of_ble_eq_true rfl) dX5_lay_48 ⟨Nat.zero_le _, Nat.zero_le _⟩ (fun H locs hW hS => ?_)
          refine lv_aload_n hx hb dX5_lay_51 rfl (lv_at hl 0 rfl) ?_
          refine va_get (D := G.1) (ci := 5) (v := .ref (gad G 0)) (C := RX5) (T := TX5) (N := 6) hx hb hts hiX5 hown hK.1 hW.1 154 lkT rfl 0 (by decide) (hts _ (List.mem_of_getElem? (i := 1) rfl)) (fun _ h9 => h9) rfl dX5_lay_52 ?_
          refine lv_iload_n hx hb dX5_lay_55 rfl (lv_at hl 1 rfl) ?_
          refine lv_iload_n hx hb dX5_lay_56 rfl (lv_at hl 2 rfl) ?_
          refine lv_iload_n hx hb dX5_lay_57 rfl (lv_at hl 3 rfl) ?_
          obtain ⟨r_9, S_10, e_11, h⟩ := bd2_e h
          refine kV_I (As := [.int p1, .int p2, .int p3]) (rest := []) ⟨hx, hb, hml, hown, hts⟩ (tX0_addSong l G S_7 M0 0 (by omega) p1 p2 p3 r_9 S_10 e_11) (cwV 3 hts gX5_lay_X0_addSong rfl rfl rfl ⟨rfl, hdX0_addSong⟩ ⟨Nat.le_of_ble_eq_true rfl, Nat.le_of_ble_eq_true rfl⟩) (va_recv hK.1 hW.1 (ci := 0) (q0 := 0) rfl (lkC (c := 0) (by omega))) hK hW hS hA rfl hl.1 rfl (Nat.le_of_ble_eq_true rfl) dX5_lay_58 ⟨Nat.zero_le _, Nat.zero_le _⟩ (fun H locs hW hS => ?_)
          obtain ⟨rfl, rfl⟩ := Prod.mk.inj (Option.some.inj h)
          exact W.iret hx hb hr (fun t ht hw => ⟨⟨_, (), rfl, rfl, hW.ret ht⟩, hS.F ht⟩) hS.2.2 dX5_lay_61
        · have h := ite_f c_6 h
          refine lv_bipush (v := (-3)) hx hb dX5_lay_37 (by decide) ?_
          obtain ⟨rfl, rfl⟩ := Prod.mk.inj (Option.some.inj h)
          exact W.iret hx hb hr (fun t ht hw => ⟨⟨_, (), rfl, rfl, hW.ret ht⟩, hS.F ht⟩) hS.2.2 dX5_lay_39
      · have h := ite_f c_5 h
        exact B22 _ _ S0 hW hS ls (lv_sub hl [] rfl) h
  · have h := ite_t c_3 h
    refine lv_iconst (v := (-1)) hx hb dX5_lay_8 (by decide) ?_
    obtain ⟨rfl, rfl⟩ := Prod.mk.inj (Option.some.inj h)
    exact W.iret hx hb hr (fun t ht hw => ⟨⟨_, (), rfl, rfl, hW.ret ht⟩, hS.F ht⟩) hS.2.2 dX5_lay_9
abbrev rX5_handOver : Room := { frames := 5, cells := 0, slots := 0, locals := 116 }
set_option maxRecDepth 100000 in
set_option maxHeartbeats 8000000 in
theorem tX5_handOver (l : Launch) (G : WG) (S0 M0 : St) (p1 : Int32) (p2 : Int32) (p3 : Int32) (rr : Int32) (S' : St) (h : f5_handOver S0 p1 p2 p3 = some (rr, S')) : CtI l yX5_handOver wsX5_handOver rX5_handOver G [.ref (gad G 154), .int p1, .int p2, .int p3] S0 M0 rr S' M0 := by
  refine Met.ofW (cc := cX5_handOver) (maxL := 6) (ret := (some .int)) (by decide) rfl ?_
  intro p e s m args below meth cd s₁ B hml hv
  obtain ⟨hargs, hK, hW⟩ := hv
  have hx := B.exec
  have hb := B.bytes
  have hr := B.returns
  have hts := atoms_spec (ws := wsX5_handOver) B.pre
  have hown : s.vm.findClass RX5 = some m.cls := findClass_of_methodNamed B.named
  have hlocks := B.notSynchronized
  have hA : ∀ q, Aw G q → Aw G q := fun _ h => h
  have hS : va_S (Aw G) s.heap s.heap [] := va_S.rf
  have he0 : entryFrame m args 6 = F0 m 0 ((lg_sl ([.ref (gad G 154), .int p1, .int p2, .int p3]) ++ List.replicate (6 - (lg_sl ([.ref (gad G 154), .int p1, .int p2, .int p3])).length) Slot.unset).toArray) [] := by rw [hargs]; exact lg_entry_eq _ _ _
  have hl := lv_entry ([.ref (gad G 154), .int p1, .int p2, .int p3]) (n := 6) (Nat.le_of_ble_eq_true rfl)
  rw [he0]
  generalize (lg_sl ([.ref (gad G 154), .int p1, .int p2, .int p3]) ++ List.replicate (6 - (lg_sl ([.ref (gad G 154), .int p1, .int p2, .int p3])).length) Slot.unset).toArray = ls at hl ⊢
  have hl : lv_has ls 6 [(0, .ref (gad G 154)), (1, .int p1), (2, .int p2), (3, .int p3)] := hl
  have hiX0 : ∀ w ∈ u_ws RX0 TX0 12, w ∈ wsX5_handOver := by decide +kernel
  have hiX5 : ∀ w ∈ u_ws RX5 TX5 6, w ∈ wsX5_handOver := by decide +kernel
  have B82 : ∀ (H : Heap) (locs : List Loc) (S : St) (_ : WD G S M0 H) (_ : va_S (Aw G) s.heap H locs) (ls : Array Slot) (_ : lv_has ls 6 []) (h : f5_handOver_b82 S  = some (rr, S')), WI p l e (headSpec wsX5_handOver rX5_handOver).room s m args below meth cd G rr S' M0 H locs (F0 m 82 ls []) := by
    intro H locs S hW hS ls hl h
    unfold f5_handOver_b82 at h
    refine lv_bipush (v := (-4)) hx hb dX5_handOver_82 (by decide) ?_
    obtain ⟨rfl, rfl⟩ := Prod.mk.inj (Option.some.inj h)
    exact W.iret hx hb hr (fun t ht hw => ⟨⟨_, (), rfl, rfl, hW.ret ht⟩, hS.F ht⟩) hS.2.2 dX5_handOver_84
  have B19 : ∀ (H : Heap) (locs : List Loc) (S : St) (_ : WD G S M0 H) (_ : va_S (Aw G) s.heap H locs) (ls : Array Slot) (_ : lv_has ls 6 []) (h : f5_handOver_b19 S  = some (rr, S')), WI p l e (headSpec wsX5_handOver rX5_handOver).room s m args below meth cd G rr S' M0 H locs (F0 m 19 ls []) := by
    intro H locs S hW hS ls hl h
    unfold f5_handOver_b19 at h
    refine lv_iconst (v := (-1)) hx hb dX5_handOver_19 (by decide) ?_
    obtain ⟨rfl, rfl⟩ := Prod.mk.inj (Option.some.inj h)
    exact W.iret hx hb hr (fun t ht hw => ⟨⟨_, (), rfl, rfl, hW.ret ht⟩, hS.F ht⟩) hS.2.2 dX5_handOver_20
  unfold f5_handOver at h
  refine lv_iload_n hx hb dX5_handOver_0 rfl (lv_at hl 1 rfl) ?_
  refine lv_iload_n hx hb dX5_handOver_1 rfl (lv_at hl 2 rfl) ?_
  obtain ⟨r_1, e_2, h⟩ := bnd_e h
  refine kS_I (As := [.int p1, .int p2]) (rest := []) ⟨hx, hb, hml, hown, hts⟩ (tX5_isPoint l G S0 M0 p1 p2 r_1 e_2) (va_cwS 2 hts gX5_handOver_X5_isPoint rfl rfl rfl hdX5_isPoint ⟨Nat.le_of_ble_eq_true rfl, Nat.le_of_ble_eq_true rfl⟩) hK hW hS hA rfl hl.1 rfl (Nat.le_of_ble_eq_true rfl) dX5_handOver_2 ⟨Nat.zero_le _, Nat.zero_le _⟩ (fun H locs hW hS => ?_)
  refine lv_if_eq (tgt := 19) hx hb dX5_handOver_5 (by decide) (fun c_3 => ?_) (fun c_3 => ?_)
  · have h := ite_t c_3 h
    exact B19 _ _ S0 hW hS ls (lv_sub hl [] rfl) h
  · have h := ite_f c_3 h
    refine lv_aload_n hx hb dX5_handOver_8 rfl (lv_at hl 0 rfl) ?_
    refine va_get (D := G.1) (ci := 5) (v := .ref (gad G 0)) (C := RX5) (T := TX5) (N := 6) hx hb hts hiX5 hown hK.1 hW.1 154 lkT rfl 0 (by decide) (hts _ (List.mem_of_getElem? (i := 1) rfl)) (fun _ h9 => h9) rfl dX5_handOver_9 ?_
    refine lv_iload_n hx hb dX5_handOver_12 rfl (lv_at hl 3 rfl) ?_
    obtain ⟨r_4, e_5, h⟩ := bnd_e h
    refine kV_I (As := [.int p3]) (rest := []) ⟨hx, hb, hml, hown, hts⟩ (tX0_isHere l G S0 M0 0 (by omega) p3 r_4 e_5) (cwV 1 hts gX5_handOver_X0_isHere rfl rfl rfl ⟨rfl, hdX0_isHere⟩ ⟨Nat.le_of_ble_eq_true rfl, Nat.le_of_ble_eq_true rfl⟩) (va_recv hK.1 hW.1 (ci := 0) (q0 := 0) rfl (lkC (c := 0) (by omega))) hK hW hS hA rfl hl.1 rfl (Nat.le_of_ble_eq_true rfl) dX5_handOver_13 ⟨Nat.zero_le _, Nat.zero_le _⟩ (fun H locs hW hS => ?_)
    refine lv_if_ne (tgt := 21) hx hb dX5_handOver_16 (by decide) (fun c_6 => ?_) (fun c_6 => ?_)
    · have h := ite_f c_6 h
      refine lv_aload_n hx hb dX5_handOver_21 rfl (lv_at hl 0 rfl) ?_
      refine va_get (D := G.1) (ci := 5) (v := .ref (gad G 0)) (C := RX5) (T := TX5) (N := 6) hx hb hts hiX5 hown hK.1 hW.1 154 lkT rfl 0 (by decide) (hts _ (List.mem_of_getElem? (i := 1) rfl)) (fun _ h9 => h9) rfl dX5_handOver_22 ?_
      refine va_getN (D := G.1) (ci := 0) (v := .ref (gad G (7 + 0))) (C := RX0) (T := TX0) (N := 12) hx hb hts hiX0 hown hK.1 hW.1 0 (lkC (c := 0) (by omega)) rfl 0 (by decide) (va_Nw.use rfl (hK.2 _ (List.mem_of_getElem? (i := 1) rfl))) (fun _ h9 => h9) rfl dX5_handOver_25 ?_
      refine lv_iload_n hx hb dX5_handOver_28 rfl (lv_at hl 1 rfl) ?_
      refine lv_iload_n hx hb dX5_handOver_29 rfl (lv_at hl 2 rfl) ?_
      obtain ⟨r_7, e_8, h⟩ := bnd_e h
      refine kV_I (As := [.int p1, .int p2]) (rest := []) ⟨hx, hb, hml, hown, hts⟩ (tX3_find l G S0 M0 0 (by omega) p1 p2 r_7 e_8) (cwV 2 hts gX5_handOver_X3_find rfl rfl rfl ⟨rfl, hdX3_find⟩ ⟨Nat.le_of_ble_eq_true rfl, Nat.le_of_ble_eq_true rfl⟩) (va_recv hK.1 hW.1 (ci := 3) (q0 := (7 + 0)) rfl (lkP (c := 0) (by omega))) hK hW hS hA rfl hl.1 rfl (Nat.le_of_ble_eq_true rfl) dX5_handOver_30 ⟨Nat.zero_le _, Nat.zero_le _⟩ (fun H locs hW hS => ?_)
      refine lv_istore (lv' := [(4, .int r_7), (0, .ref (gad G 154)), (1, .int p1), (2, .int p2), (3, .int p3)]) hx hb dX5_handOver_33 hl (by decide) rfl (fun ls hl => ?_)
      refine lv_aload_n hx hb dX5_handOver_35 rfl (lv_at hl 1 rfl) ?_
      refine va_get (D := G.1) (ci := 5) (v := .ref (gad G 0)) (C := RX5) (T := TX5) (N := 6) hx hb hts hiX5 hown hK.1 hW.1 154 lkT rfl 0 (by decide) (hts _ (List.mem_of_getElem? (i := 1) rfl)) (fun _ h9 => h9) rfl dX5_handOver_36 ?_
      refine va_getN (D := G.1) (ci := 0) (v := .ref (gad G (7 + 0))) (C := RX0) (T := TX0) (N := 12) hx hb hts hiX0 hown hK.1 hW.1 0 (lkC (c := 0) (by omega)) rfl 0 (by decide) (va_Nw.use rfl (hK.2 _ (List.mem_of_getElem? (i := 1) rfl))) (fun _ h9 => h9) rfl dX5_handOver_39 ?_
      refine lv_iload hx hb dX5_handOver_42 (lv_at hl 0 rfl) ?_
      obtain ⟨r_9, e_10, h⟩ := bnd_e h
      refine kV_I (As := [.int r_7]) (rest := []) ⟨hx, hb, hml, hown, hts⟩ (tX3_ownerOf l G S0 M0 0 (by omega) r_7 r_9 e_10) (cwV 1 hts gX5_handOver_X3_ownerOf rfl rfl rfl ⟨rfl, hdX3_ownerOf⟩ ⟨Nat.le_of_ble_eq_true rfl, Nat.le_of_ble_eq_true rfl⟩) (va_recv hK.1 hW.1 (ci := 3) (q0 := (7 + 0)) rfl (lkP (c := 0) (by omega))) hK hW hS hA rfl hl.1 rfl (Nat.le_of_ble_eq_true rfl) dX5_handOver_44 ⟨Nat.zero_le _, Nat.zero_le _⟩ (fun H locs hW hS => ?_)
      refine lv_istore (lv' := [(5, .int r_9), (4, .int r_7), (0, .ref (gad G 154)), (1, .int p1), (2, .int p2), (3, .int p3)]) hx hb dX5_handOver_47 hl (by decide) rfl (fun ls hl => ?_)
      refine lv_aload_n hx hb dX5_handOver_49 rfl (lv_at hl 2 rfl) ?_
      refine va_get (D := G.1) (ci := 5) (v := .ref (gad G 0)) (C := RX5) (T := TX5) (N := 6) hx hb hts hiX5 hown hK.1 hW.1 154 lkT rfl 0 (by decide) (hts _ (List.mem_of_getElem? (i := 1) rfl)) (fun _ h9 => h9) rfl dX5_handOver_50 ?_
      refine lv_iload hx hb dX5_handOver_53 (lv_at hl 1 rfl) ?_
      refine lv_iload hx hb dX5_handOver_55 (lv_at hl 0 rfl) ?_
      obtain ⟨r_11, e_12, h⟩ := bnd_e h
      refine kV_I (As := [.int r_7, .int r_9]) (rest := []) ⟨hx, hb, hml, hown, hts⟩ (tX0_isTentIn l G S0 M0 0 (by omega) r_7 r_9 r_11 e_12) (cwV 2 hts gX5_handOver_X0_isTentIn rfl rfl rfl ⟨rfl, hdX0_isTentIn⟩ ⟨Nat.le_of_ble_eq_true rfl, Nat.le_of_ble_eq_true rfl⟩) (va_recv hK.1 hW.1 (ci := 0) (q0 := 0) rfl (lkC (c := 0) (by omega))) hK hW hS hA rfl hl.1 rfl (Nat.le_of_ble_eq_true rfl) dX5_handOver_57 ⟨Nat.zero_le _, Nat.zero_le _⟩ (fun H locs hW hS => ?_)
      refine lv_if_ne (tgt := 82) hx hb dX5_handOver_60 (by decide) (fun c_13 => ?_) (fun c_13 => ?_)
      · have h := ite_f c_13 h
        exact B82 _ _ S0 hW hS ls (lv_sub hl [] rfl) h
      · have h := ite_t c_13 h
        refine lv_aload_n hx hb dX5_handOver_63 rfl (lv_at hl 2 rfl) ?_
        refine va_get (D := G.1) (ci := 5) (v := .ref (gad G 0)) (C := RX5) (T := TX5) (N := 6) hx hb hts hiX5 hown hK.1 hW.1 154 lkT rfl 0 (by decide) (hts _ (List.mem_of_getElem? (i := 1) rfl)) (fun _ h9 => h9) rfl dX5_handOver_64 ?_
        refine va_getN (D := G.1) (ci := 0) (v := .ref (gad G (7 + 0))) (C := RX0) (T := TX0) (N := 12) hx hb hts hiX0 hown hK.1 hW.1 0 (lkC (c := 0) (by omega)) rfl 0 (by decide) (va_Nw.use rfl (hK.2 _ (List.mem_of_getElem? (i := 1) rfl))) (fun _ h9 => h9) rfl dX5_handOver_67 ?_
        refine lv_iload hx hb dX5_handOver_70 (lv_at hl 1 rfl) ?_
        obtain ⟨r_14, e_15, h⟩ := bnd_e h
        refine kV_I (As := [.int r_7]) (rest := []) ⟨hx, hb, hml, hown, hts⟩ (tX3_ownersBeside l G S0 M0 0 (by omega) r_7 r_14 e_15) (cwV 1 hts gX5_handOver_X3_ownersBeside rfl rfl rfl ⟨rfl, hdX3_ownersBeside⟩ ⟨Nat.le_of_ble_eq_true rfl, Nat.le_of_ble_eq_true rfl⟩) (va_recv hK.1 hW.1 (ci := 3) (q0 := (7 + 0)) rfl (lkP (c := 0) (by omega))) hK hW hS hA rfl hl.1 rfl (Nat.le_of_ble_eq_true rfl) dX5_handOver_72 ⟨Nat.zero_le _, Nat.zero_le _⟩ (fun H locs hW hS => ?_)
        refine lv_iload_n hx hb dX5_handOver_75 rfl (lv_at hl 5 rfl) ?_
        obtain ⟨r_16, e_17, h⟩ := bnd_e h
        refine kS_I (As := [.int r_14, .int p3]) (rest := []) ⟨hx, hb, hml, hown, hts⟩ (tX5_isMarked l G S0 M0 r_14 p3 r_16 e_17) (va_cwS 2 hts gX5_handOver_X5_isMarked rfl rfl rfl hdX5_isMarked ⟨Nat.le_of_ble_eq_true rfl, Nat.le_of_ble_eq_true rfl⟩) hK hW hS hA rfl hl.1 rfl (Nat.le_of_ble_eq_true rfl) dX5_handOver_76 ⟨Nat.zero_le _, Nat.zero_le _⟩ (fun H locs hW hS => ?_)
        refine lv_if_ne (tgt := 85) hx hb dX5_handOver_79 (by decide) (fun c_18 => ?_) (fun c_18 => ?_)
        · have h := ite_f c_18 h
          refine lv_iload hx hb dX5_handOver_85 (lv_at hl 0 rfl) ?_
          refine lv_iload_n hx hb dX5_handOver_87 rfl (lv_at hl 5 rfl) ?_
          refine lv_icmp_ne (tgt := 94) hx hb dX5_handOver_88 (by decide) (fun c_19 => ?_) (fun c_19 => ?_)
          · have h := ite_f c_19 h
            refine lv_aload_n hx hb dX5_handOver_94 rfl (lv_at hl 2 rfl) ?_
            refine va_get (D := G.1) (ci := 5) (v := .ref (gad G 155)) (C := RX5) (T := TX5) (N := 6) hx hb hts hiX5 hown hK.1 hW.1 154 lkT rfl 3 (by decide) (hts _ (List.mem_of_getElem? (i := 2) rfl)) (fun _ h9 => h9) rfl dX5_handOver_95 ?_
            refine lv_aload_n hx hb dX5_handOver_98 rfl (lv_at hl 2 rfl) ?_
            refine va_get (D := G.1) (ci := 5) (v := .ref (gad G 0)) (C := RX5) (T := TX5) (N := 6) hx hb hts hiX5 hown hK.1 hW.1 154 lkT rfl 0 (by decide) (hts _ (List.mem_of_getElem? (i := 1) rfl)) (fun _ h9 => h9) rfl dX5_handOver_99 ?_
            obtain ⟨S_20, e_21, h⟩ := bnd_e h
            refine kV_V (As := [.ref (gad G 0)]) (rest := []) ⟨hx, hb, hml, hown, hts⟩ (tX2_push l G S0 M0 0 (by omega) S_20 e_21) (cwV 1 hts gX5_handOver_X2_push rfl rfl rfl ⟨rfl, hdX2_push⟩ ⟨Nat.le_of_ble_eq_true rfl, Nat.le_of_ble_eq_true rfl⟩) (va_recv hK.1 hW.1 (ci := 2) (q0 := 155) rfl lkH) hK hW hS hA rfl hl.1 rfl (Nat.le_of_ble_eq_true rfl) dX5_handOver_102 ⟨Nat.zero_le _, Nat.zero_le _⟩ (fun H locs hW hS => ?_)
            refine lv_aload_n hx hb dX5_handOver_105 rfl (lv_at hl 2 rfl) ?_
            refine va_get (D := G.1) (ci := 5) (v := .ref (gad G 0)) (C := RX5) (T := TX5) (N := 6) hx hb hts hiX5 hown hK.1 hW.1 154 lkT rfl 0 (by decide) (hts _ (List.mem_of_getElem? (i := 1) rfl)) (fun _ h9 => h9) rfl dX5_handOver_106 ?_
            refine lv_iload hx hb dX5_handOver_109 (lv_at hl 1 rfl) ?_
            refine lv_iload_n hx hb dX5_handOver_111 rfl (lv_at hl 5 rfl) ?_
            obtain ⟨S_22, e_23, h⟩ := bnd_e h
            refine kV_V (As := [.int r_7, .int p3]) (rest := []) ⟨hx, hb, hml, hown, hts⟩ (tX0_passOn l G S_20 M0 0 (by omega) r_7 p3 S_22 e_23) (cwV 2 hts gX5_handOver_X0_passOn rfl rfl rfl ⟨rfl, hdX0_passOn⟩ ⟨Nat.le_of_ble_eq_true rfl, Nat.le_of_ble_eq_true rfl⟩) (va_recv hK.1 hW.1 (ci := 0) (q0 := 0) rfl (lkC (c := 0) (by omega))) hK hW hS hA rfl hl.1 rfl (Nat.le_of_ble_eq_true rfl) dX5_handOver_112 ⟨Nat.zero_le _, Nat.zero_le _⟩ (fun H locs hW hS => ?_)
            refine lv_iload hx hb dX5_handOver_115 (lv_at hl 0 rfl) ?_
            obtain ⟨rfl, rfl⟩ := Prod.mk.inj (Option.some.inj h)
            exact W.iret hx hb hr (fun t ht hw => ⟨⟨_, (), rfl, rfl, hW.ret ht⟩, hS.F ht⟩) hS.2.2 dX5_handOver_117
          · have h := ite_t c_19 h
            refine lv_bipush (v := (-5)) hx hb dX5_handOver_91 (by decide) ?_
            obtain ⟨rfl, rfl⟩ := Prod.mk.inj (Option.some.inj h)
            exact W.iret hx hb hr (fun t ht hw => ⟨⟨_, (), rfl, rfl, hW.ret ht⟩, hS.F ht⟩) hS.2.2 dX5_handOver_93
        · have h := ite_t c_18 h
          exact B82 _ _ S0 hW hS ls (lv_sub hl [] rfl) h
    · have h := ite_t c_6 h
      exact B19 _ _ S0 hW hS ls (lv_sub hl [] rfl) h
abbrev rX5_moveTent : Room := { frames := 4, cells := 0, slots := 0, locals := 87 }
set_option maxRecDepth 100000 in
set_option maxHeartbeats 8000000 in
theorem tX5_moveTent (l : Launch) (G : WG) (S0 M0 : St) (p1 : Int32) (p2 : Int32) (p3 : Int32) (rr : Int32) (S' : St) (h : f5_moveTent S0 p1 p2 p3 = some (rr, S')) : CtI l yX5_moveTent wsX5_moveTent rX5_moveTent G [.ref (gad G 154), .int p1, .int p2, .int p3] S0 M0 rr S' M0 := by
  refine Met.ofW (cc := cX5_moveTent) (maxL := 5) (ret := (some .int)) (by decide) rfl ?_
  intro p e s m args below meth cd s₁ B hml hv
  obtain ⟨hargs, hK, hW⟩ := hv
  have hx := B.exec
  have hb := B.bytes
  have hr := B.returns
  have hts := atoms_spec (ws := wsX5_moveTent) B.pre
  have hown : s.vm.findClass RX5 = some m.cls := findClass_of_methodNamed B.named
  have hlocks := B.notSynchronized
  have hA : ∀ q, Aw G q → Aw G q := fun _ h => h
  have hS : va_S (Aw G) s.heap s.heap [] := va_S.rf
  have he0 : entryFrame m args 5 = F0 m 0 ((lg_sl ([.ref (gad G 154), .int p1, .int p2, .int p3]) ++ List.replicate (5 - (lg_sl ([.ref (gad G 154), .int p1, .int p2, .int p3])).length) Slot.unset).toArray) [] := by rw [hargs]; exact lg_entry_eq _ _ _
  have hl := lv_entry ([.ref (gad G 154), .int p1, .int p2, .int p3]) (n := 5) (Nat.le_of_ble_eq_true rfl)
  rw [he0]
  generalize (lg_sl ([.ref (gad G 154), .int p1, .int p2, .int p3]) ++ List.replicate (5 - (lg_sl ([.ref (gad G 154), .int p1, .int p2, .int p3])).length) Slot.unset).toArray = ls at hl ⊢
  have hl : lv_has ls 5 [(0, .ref (gad G 154)), (1, .int p1), (2, .int p2), (3, .int p3)] := hl
  have hiX0 : ∀ w ∈ u_ws RX0 TX0 12, w ∈ wsX5_moveTent := by decide +kernel
  have hiX5 : ∀ w ∈ u_ws RX5 TX5 6, w ∈ wsX5_moveTent := by decide +kernel
  have B87 : ∀ (H : Heap) (locs : List Loc) (S : St) (_ : WD G S M0 H) (_ : va_S (Aw G) s.heap H locs) (ls : Array Slot) (l1 : Int32) (l2 : Int32) (l3 : Int32) (l4 : Int32) (_ : lv_has ls 5 [(0, .ref (gad G 154)), (1, .int l1), (2, .int l2), (3, .int l3), (4, .int l4)]) (h : f5_moveTent_b87 S l1 l2 l3 l4 = some (rr, S')), WI p l e (headSpec wsX5_moveTent rX5_moveTent).room s m args below meth cd G rr S' M0 H locs (F0 m 87 ls []) := by
    intro H locs S hW hS ls l1 l2 l3 l4 hl h
    unfold f5_moveTent_b87 at h
    refine lv_aload_n hx hb dX5_moveTent_87 rfl (lv_at hl 0 rfl) ?_
    refine va_get (D := G.1) (ci := 5) (v := .ref (gad G 155)) (C := RX5) (T := TX5) (N := 6) hx hb hts hiX5 hown hK.1 hW.1 154 lkT rfl 3 (by decide) (hts _ (List.mem_of_getElem? (i := 2) rfl)) (fun _ h9 => h9) rfl dX5_moveTent_88 ?_
    refine lv_aload_n hx hb dX5_moveTent_91 rfl (lv_at hl 0 rfl) ?_
    refine va_get (D := G.1) (ci := 5) (v := .ref (gad G 0)) (C := RX5) (T := TX5) (N := 6) hx hb hts hiX5 hown hK.1 hW.1 154 lkT rfl 0 (by decide) (hts _ (List.mem_of_getElem? (i := 1) rfl)) (fun _ h9 => h9) rfl dX5_moveTent_92 ?_
    obtain ⟨S_1, e_2, h⟩ := bnd_e h
    refine kV_V (As := [.ref (gad G 0)]) (rest := []) ⟨hx, hb, hml, hown, hts⟩ (tX2_push l G S M0 0 (by omega) S_1 e_2) (cwV 1 hts gX5_moveTent_X2_push rfl rfl rfl ⟨rfl, hdX2_push⟩ ⟨Nat.le_of_ble_eq_true rfl, Nat.le_of_ble_eq_true rfl⟩) (va_recv hK.1 hW.1 (ci := 2) (q0 := 155) rfl lkH) hK hW hS hA rfl hl.1 rfl (Nat.le_of_ble_eq_true rfl) dX5_moveTent_95 ⟨Nat.zero_le _, Nat.zero_le _⟩ (fun H locs hW hS => ?_)
    refine lv_aload_n hx hb dX5_moveTent_98 rfl (lv_at hl 0 rfl) ?_
    refine va_get (D := G.1) (ci := 5) (v := .ref (gad G 0)) (C := RX5) (T := TX5) (N := 6) hx hb hts hiX5 hown hK.1 hW.1 154 lkT rfl 0 (by decide) (hts _ (List.mem_of_getElem? (i := 1) rfl)) (fun _ h9 => h9) rfl dX5_moveTent_99 ?_
    refine lv_iload_n hx hb dX5_moveTent_102 rfl (lv_at hl 1 rfl) ?_
    refine lv_iload_n hx hb dX5_moveTent_103 rfl (lv_at hl 2 rfl) ?_
    refine lv_iload_n hx hb dX5_moveTent_104 rfl (lv_at hl 3 rfl) ?_
    obtain ⟨S_3, e_4, h⟩ := bnd_e h
    refine kV_V (As := [.int l1, .int l2, .int l3]) (rest := []) ⟨hx, hb, hml, hown, hts⟩ (tX0_pitch l G S_1 M0 0 (by omega) l1 l2 l3 S_3 e_4) (cwV 3 hts gX5_moveTent_X0_pitch rfl rfl rfl ⟨rfl, hdX0_pitch⟩ ⟨Nat.le_of_ble_eq_true rfl, Nat.le_of_ble_eq_true rfl⟩) (va_recv hK.1 hW.1 (ci := 0) (q0 := 0) rfl (lkC (c := 0) (by omega))) hK hW hS hA rfl hl.1 rfl (Nat.le_of_ble_eq_true rfl) dX5_moveTent_105 ⟨Nat.zero_le _, Nat.zero_le _⟩ (fun H locs hW hS => ?_)
    refine lv_aload_n hx hb dX5_moveTent_108 rfl (lv_at hl 0 rfl) ?_
    refine va_get (D := G.1) (ci := 5) (v := .ref (gad G 0)) (C := RX5) (T := TX5) (N := 6) hx hb hts hiX5 hown hK.1 hW.1 154 lkT rfl 0 (by decide) (hts _ (List.mem_of_getElem? (i := 1) rfl)) (fun _ h9 => h9) rfl dX5_moveTent_109 ?_
    refine va_getN (D := G.1) (ci := 0) (v := .ref (gad G (7 + 0))) (C := RX0) (T := TX0) (N := 12) hx hb hts hiX0 hown hK.1 hW.1 0 (lkC (c := 0) (by omega)) rfl 0 (by decide) (va_Nw.use rfl (hK.2 _ (List.mem_of_getElem? (i := 1) rfl))) (fun _ h9 => h9) rfl dX5_moveTent_112 ?_
    refine lv_iload hx hb dX5_moveTent_115 (lv_at hl 4 rfl) ?_
    obtain ⟨r_5, e_6, h⟩ := bnd_e h
    refine kV_I (As := [.int l4]) (rest := []) ⟨hx, hb, hml, hown, hts⟩ (tX3_depthOf l G S_3 M0 0 (by omega) l4 r_5 e_6) (cwV 1 hts gX5_moveTent_X3_depthOf rfl rfl rfl ⟨rfl, hdX3_depthOf⟩ ⟨Nat.le_of_ble_eq_true rfl, Nat.le_of_ble_eq_true rfl⟩) (va_recv hK.1 hW.1 (ci := 3) (q0 := (7 + 0)) rfl (lkP (c := 0) (by omega))) hK hW hS hA rfl hl.1 rfl (Nat.le_of_ble_eq_true rfl) dX5_moveTent_117 ⟨Nat.zero_le _, Nat.zero_le _⟩ (fun H locs hW hS => ?_)
    obtain ⟨rfl, rfl⟩ := Prod.mk.inj (Option.some.inj h)
    exact W.iret hx hb hr (fun t ht hw => ⟨⟨_, (), rfl, rfl, hW.ret ht⟩, hS.F ht⟩) hS.2.2 dX5_moveTent_120
  have B19 : ∀ (H : Heap) (locs : List Loc) (S : St) (_ : WD G S M0 H) (_ : va_S (Aw G) s.heap H locs) (ls : Array Slot) (_ : lv_has ls 5 []) (h : f5_moveTent_b19 S  = some (rr, S')), WI p l e (headSpec wsX5_moveTent rX5_moveTent).room s m args below meth cd G rr S' M0 H locs (F0 m 19 ls []) := by
    intro H locs S hW hS ls hl h
    unfold f5_moveTent_b19 at h
    refine lv_iconst (v := (-1)) hx hb dX5_moveTent_19 (by decide) ?_
    obtain ⟨rfl, rfl⟩ := Prod.mk.inj (Option.some.inj h)
    exact W.iret hx hb hr (fun t ht hw => ⟨⟨_, (), rfl, rfl, hW.ret ht⟩, hS.F ht⟩) hS.2.2 dX5_moveTent_20
  unfold f5_moveTent at h
  refine lv_aload_n hx hb dX5_moveTent_0 rfl (lv_at hl 0 rfl) ?_
  refine va_get (D := G.1) (ci := 5) (v := .ref (gad G 0)) (C := RX5) (T := TX5) (N := 6) hx hb hts hiX5 hown hK.1 hW.1 154 lkT rfl 0 (by decide) (hts _ (List.mem_of_getElem? (i := 1) rfl)) (fun _ h9 => h9) rfl dX5_moveTent_1 ?_
  refine lv_iload_n hx hb dX5_moveTent_4 rfl (lv_at hl 1 rfl) ?_
  obtain ⟨r_1, e_2, h⟩ := bnd_e h
  refine kV_I (As := [.int p1]) (rest := []) ⟨hx, hb, hml, hown, hts⟩ (tX0_isHere l G S0 M0 0 (by omega) p1 r_1 e_2) (cwV 1 hts gX5_moveTent_X0_isHere rfl rfl rfl ⟨rfl, hdX0_isHere⟩ ⟨Nat.le_of_ble_eq_true rfl, Nat.le_of_ble_eq_true rfl⟩) (va_recv hK.1 hW.1 (ci := 0) (q0 := 0) rfl (lkC (c := 0) (by omega))) hK hW hS hA rfl hl.1 rfl (Nat.le_of_ble_eq_true rfl) dX5_moveTent_5 ⟨Nat.zero_le _, Nat.zero_le _⟩ (fun H locs hW hS => ?_)
  refine lv_if_eq (tgt := 19) hx hb dX5_moveTent_8 (by decide) (fun c_3 => ?_) (fun c_3 => ?_)
  · have h := ite_t c_3 h
    exact B19 _ _ S0 hW hS ls (lv_sub hl [] rfl) h
  · have h := ite_f c_3 h
    refine lv_iload_n hx hb dX5_moveTent_11 rfl (lv_at hl 2 rfl) ?_
    refine lv_iload_n hx hb dX5_moveTent_12 rfl (lv_at hl 3 rfl) ?_
    obtain ⟨r_4, e_5, h⟩ := bnd_e h
    refine kS_I (As := [.int p2, .int p3]) (rest := []) ⟨hx, hb, hml, hown, hts⟩ (tX5_isPoint l G S0 M0 p2 p3 r_4 e_5) (va_cwS 2 hts gX5_moveTent_X5_isPoint rfl rfl rfl hdX5_isPoint ⟨Nat.le_of_ble_eq_true rfl, Nat.le_of_ble_eq_true rfl⟩) hK hW hS hA rfl hl.1 rfl (Nat.le_of_ble_eq_true rfl) dX5_moveTent_13 ⟨Nat.zero_le _, Nat.zero_le _⟩ (fun H locs hW hS => ?_)
    refine lv_if_ne (tgt := 21) hx hb dX5_moveTent_16 (by decide) (fun c_6 => ?_) (fun c_6 => ?_)
    · have h := ite_f c_6 h
      refine lv_aload_n hx hb dX5_moveTent_21 rfl (lv_at hl 0 rfl) ?_
      refine va_get (D := G.1) (ci := 5) (v := .ref (gad G 0)) (C := RX5) (T := TX5) (N := 6) hx hb hts hiX5 hown hK.1 hW.1 154 lkT rfl 0 (by decide) (hts _ (List.mem_of_getElem? (i := 1) rfl)) (fun _ h9 => h9) rfl dX5_moveTent_22 ?_
      refine va_getN (D := G.1) (ci := 0) (v := .ref (gad G (7 + 0))) (C := RX0) (T := TX0) (N := 12) hx hb hts hiX0 hown hK.1 hW.1 0 (lkC (c := 0) (by omega)) rfl 0 (by decide) (va_Nw.use rfl (hK.2 _ (List.mem_of_getElem? (i := 1) rfl))) (fun _ h9 => h9) rfl dX5_moveTent_25 ?_
      refine lv_iload_n hx hb dX5_moveTent_28 rfl (lv_at hl 2 rfl) ?_
      refine lv_iload_n hx hb dX5_moveTent_29 rfl (lv_at hl 3 rfl) ?_
      obtain ⟨r_7, e_8, h⟩ := bnd_e h
      refine kV_I (As := [.int p2, .int p3]) (rest := []) ⟨hx, hb, hml, hown, hts⟩ (tX3_find l G S0 M0 0 (by omega) p2 p3 r_7 e_8) (cwV 2 hts gX5_moveTent_X3_find rfl rfl rfl ⟨rfl, hdX3_find⟩ ⟨Nat.le_of_ble_eq_true rfl, Nat.le_of_ble_eq_true rfl⟩) (va_recv hK.1 hW.1 (ci := 3) (q0 := (7 + 0)) rfl (lkP (c := 0) (by omega))) hK hW hS hA rfl hl.1 rfl (Nat.le_of_ble_eq_true rfl) dX5_moveTent_30 ⟨Nat.zero_le _, Nat.zero_le _⟩ (fun H locs hW hS => ?_)
      refine lv_istore (lv' := [(4, .int r_7), (0, .ref (gad G 154)), (1, .int p1), (2, .int p2), (3, .int p3)]) hx hb dX5_moveTent_33 hl (by decide) rfl (fun ls hl => ?_)
      refine lv_aload_n hx hb dX5_moveTent_35 rfl (lv_at hl 1 rfl) ?_
      refine va_get (D := G.1) (ci := 5) (v := .ref (gad G 0)) (C := RX5) (T := TX5) (N := 6) hx hb hts hiX5 hown hK.1 hW.1 154 lkT rfl 0 (by decide) (hts _ (List.mem_of_getElem? (i := 1) rfl)) (fun _ h9 => h9) rfl dX5_moveTent_36 ?_
      refine va_getN (D := G.1) (ci := 0) (v := .ref (gad G (7 + 0))) (C := RX0) (T := TX0) (N := 12) hx hb hts hiX0 hown hK.1 hW.1 0 (lkC (c := 0) (by omega)) rfl 0 (by decide) (va_Nw.use rfl (hK.2 _ (List.mem_of_getElem? (i := 1) rfl))) (fun _ h9 => h9) rfl dX5_moveTent_39 ?_
      refine lv_iload hx hb dX5_moveTent_42 (lv_at hl 0 rfl) ?_
      obtain ⟨r_9, e_10, h⟩ := bnd_e h
      refine kV_I (As := [.int r_7]) (rest := []) ⟨hx, hb, hml, hown, hts⟩ (tX3_ownerOf l G S0 M0 0 (by omega) r_7 r_9 e_10) (cwV 1 hts gX5_moveTent_X3_ownerOf rfl rfl rfl ⟨rfl, hdX3_ownerOf⟩ ⟨Nat.le_of_ble_eq_true rfl, Nat.le_of_ble_eq_true rfl⟩) (va_recv hK.1 hW.1 (ci := 3) (q0 := (7 + 0)) rfl (lkP (c := 0) (by omega))) hK hW hS hA rfl hl.1 rfl (Nat.le_of_ble_eq_true rfl) dX5_moveTent_44 ⟨Nat.zero_le _, Nat.zero_le _⟩ (fun H locs hW hS => ?_)
      refine lv_iload_n hx hb dX5_moveTent_47 rfl (lv_at hl 2 rfl) ?_
      refine lv_icmp_eq (tgt := 54) hx hb dX5_moveTent_48 (by decide) (fun c_11 => ?_) (fun c_11 => ?_)
      · have h := ite_t c_11 h
        refine lv_aload_n hx hb dX5_moveTent_54 rfl (lv_at hl 1 rfl) ?_
        refine va_get (D := G.1) (ci := 5) (v := .ref (gad G 0)) (C := RX5) (T := TX5) (N := 6) hx hb hts hiX5 hown hK.1 hW.1 154 lkT rfl 0 (by decide) (hts _ (List.mem_of_getElem? (i := 1) rfl)) (fun _ h9 => h9) rfl dX5_moveTent_55 ?_
        refine va_getN (D := G.1) (ci := 0) (v := .ref (gad G (14 + (10 * 0 + 4)))) (C := RX0) (T := TX0) (N := 12) hx hb hts hiX0 hown hK.1 hW.1 0 (lkC (c := 0) (by omega)) rfl 1 (by decide) (va_Nw.use rfl (hK.2 _ (List.mem_of_getElem? (i := 2) rfl))) (fun _ h9 => h9) rfl dX5_moveTent_58 ?_
        refine lv_iload_n hx hb dX5_moveTent_61 rfl (lv_at hl 2 rfl) ?_
        obtain ⟨r_12, e_13, h⟩ := bnd_e h
        refine kV_I (As := [.int p1]) (rest := []) ⟨hx, hb, hml, hown, hts⟩ (tX4_at l G S0 M0 ((10 * 0 + 4)) (by omega) p1 r_12 e_13) (cwV 1 hts gX5_moveTent_X4_at rfl rfl rfl ⟨rfl, hdX4_at⟩ ⟨Nat.le_of_ble_eq_true rfl, Nat.le_of_ble_eq_true rfl⟩) (va_recv hK.1 hW.1 (ci := 4) (q0 := (14 + (10 * 0 + 4))) rfl (lkR (r := (10 * 0 + 4)) (by omega))) hK hW hS hA rfl hl.1 rfl (Nat.le_of_ble_eq_true rfl) dX5_moveTent_62 ⟨Nat.zero_le _, Nat.zero_le _⟩ (fun H locs hW hS => ?_)
        refine lv_iload_n hx hb dX5_moveTent_65 rfl (lv_at hl 3 rfl) ?_
        refine lv_icmp_ne (tgt := 87) hx hb dX5_moveTent_66 (by decide) (fun c_14 => ?_) (fun c_14 => ?_)
        · have h := ite_f c_14 h
          exact B87 _ _ S0 hW hS ls p1 p2 p3 r_7 (lv_sub hl [1, 2, 3, 4, 0] rfl) h
        · have h := ite_t c_14 h
          refine lv_aload_n hx hb dX5_moveTent_69 rfl (lv_at hl 1 rfl) ?_
          refine va_get (D := G.1) (ci := 5) (v := .ref (gad G 0)) (C := RX5) (T := TX5) (N := 6) hx hb hts hiX5 hown hK.1 hW.1 154 lkT rfl 0 (by decide) (hts _ (List.mem_of_getElem? (i := 1) rfl)) (fun _ h9 => h9) rfl dX5_moveTent_70 ?_
          refine va_getN (D := G.1) (ci := 0) (v := .ref (gad G (14 + (10 * 0 + 5)))) (C := RX0) (T := TX0) (N := 12) hx hb hts hiX0 hown hK.1 hW.1 0 (lkC (c := 0) (by omega)) rfl 2 (by decide) (va_Nw.use rfl (hK.2 _ (List.mem_of_getElem? (i := 3) rfl))) (fun _ h9 => h9) rfl dX5_moveTent_73 ?_
          refine lv_iload_n hx hb dX5_moveTent_76 rfl (lv_at hl 2 rfl) ?_
          obtain ⟨r_15, e_16, h⟩ := bnd_e h
          refine kV_I (As := [.int p1]) (rest := []) ⟨hx, hb, hml, hown, hts⟩ (tX4_at l G S0 M0 ((10 * 0 + 5)) (by omega) p1 r_15 e_16) (cwV 1 hts gX5_moveTent_X4_at rfl rfl rfl ⟨rfl, hdX4_at⟩ ⟨Nat.le_of_ble_eq_true rfl, Nat.le_of_ble_eq_true rfl⟩) (va_recv hK.1 hW.1 (ci := 4) (q0 := (14 + (10 * 0 + 5))) rfl (lkR (r := (10 * 0 + 5)) (by omega))) hK hW hS hA rfl hl.1 rfl (Nat.le_of_ble_eq_true rfl) dX5_moveTent_77 ⟨Nat.zero_le _, Nat.zero_le _⟩ (fun H locs hW hS => ?_)
          refine lv_iload_n hx hb dX5_moveTent_80 rfl (lv_at hl 4 rfl) ?_
          refine lv_icmp_ne (tgt := 87) hx hb dX5_moveTent_81 (by decide) (fun c_17 => ?_) (fun c_17 => ?_)
          · have h := ite_f c_17 h
            exact B87 _ _ S0 hW hS ls p1 p2 p3 r_7 (lv_sub hl [1, 2, 3, 4, 0] rfl) h
          · have h := ite_t c_17 h
            refine lv_bipush (v := (-5)) hx hb dX5_moveTent_84 (by decide) ?_
            obtain ⟨rfl, rfl⟩ := Prod.mk.inj (Option.some.inj h)
            exact W.iret hx hb hr (fun t ht hw => ⟨⟨_, (), rfl, rfl, hW.ret ht⟩, hS.F ht⟩) hS.2.2 dX5_moveTent_86
      · have h := ite_f c_11 h
        refine lv_bipush (v := (-4)) hx hb dX5_moveTent_51 (by decide) ?_
        obtain ⟨rfl, rfl⟩ := Prod.mk.inj (Option.some.inj h)
        exact W.iret hx hb hr (fun t ht hw => ⟨⟨_, (), rfl, rfl, hW.ret ht⟩, hS.F ht⟩) hS.2.2 dX5_moveTent_53
    · have h := ite_t c_6 h
      exact B19 _ _ S0 hW hS ls (lv_sub hl [] rfl) h
abbrev rX5_leave : Room := { frames := 6, cells := 0, slots := 0, locals := 138 }
set_option maxRecDepth 100000 in
set_option maxHeartbeats 8000000 in
theorem tX5_leave (l : Launch) (G : WG) (S0 M0 : St) (p1 : Int32) (rr : Int32) (S' : St) (h : f5_leave S0 p1 = some (rr, S')) : CtI l yX5_leave wsX5_leave rX5_leave G [.ref (gad G 154), .int p1] S0 M0 rr S' M0 := by
  refine Met.ofW (cc := cX5_leave) (maxL := 2) (ret := (some .int)) (by decide) rfl ?_
  intro p e s m args below meth cd s₁ B hml hv
  obtain ⟨hargs, hK, hW⟩ := hv
  have hx := B.exec
  have hb := B.bytes
  have hr := B.returns
  have hts := atoms_spec (ws := wsX5_leave) B.pre
  have hown : s.vm.findClass RX5 = some m.cls := findClass_of_methodNamed B.named
  have hlocks := B.notSynchronized
  have hA : ∀ q, Aw G q → Aw G q := fun _ h => h
  have hS : va_S (Aw G) s.heap s.heap [] := va_S.rf
  have he0 : entryFrame m args 2 = F0 m 0 ((lg_sl ([.ref (gad G 154), .int p1]) ++ List.replicate (2 - (lg_sl ([.ref (gad G 154), .int p1])).length) Slot.unset).toArray) [] := by rw [hargs]; exact lg_entry_eq _ _ _
  have hl := lv_entry ([.ref (gad G 154), .int p1]) (n := 2) (Nat.le_of_ble_eq_true rfl)
  rw [he0]
  generalize (lg_sl ([.ref (gad G 154), .int p1]) ++ List.replicate (2 - (lg_sl ([.ref (gad G 154), .int p1])).length) Slot.unset).toArray = ls at hl ⊢
  have hl : lv_has ls 2 [(0, .ref (gad G 154)), (1, .int p1)] := hl
  have hiX5 : ∀ w ∈ u_ws RX5 TX5 6, w ∈ wsX5_leave := by decide +kernel
  unfold f5_leave at h
  refine lv_aload_n hx hb dX5_leave_0 rfl (lv_at hl 0 rfl) ?_
  refine va_get (D := G.1) (ci := 5) (v := .ref (gad G 0)) (C := RX5) (T := TX5) (N := 6) hx hb hts hiX5 hown hK.1 hW.1 154 lkT rfl 0 (by decide) (hts _ (List.mem_of_getElem? (i := 1) rfl)) (fun _ h9 => h9) rfl dX5_leave_1 ?_
  refine lv_iload_n hx hb dX5_leave_4 rfl (lv_at hl 1 rfl) ?_
  obtain ⟨r_1, e_2, h⟩ := bnd_e h
  refine kV_I (As := [.int p1]) (rest := []) ⟨hx, hb, hml, hown, hts⟩ (tX0_isHere l G S0 M0 0 (by omega) p1 r_1 e_2) (cwV 1 hts gX5_leave_X0_isHere rfl rfl rfl ⟨rfl, hdX0_isHere⟩ ⟨Nat.le_of_ble_eq_true rfl, Nat.le_of_ble_eq_true rfl⟩) (va_recv hK.1 hW.1 (ci := 0) (q0 := 0) rfl (lkC (c := 0) (by omega))) hK hW hS hA rfl hl.1 rfl (Nat.le_of_ble_eq_true rfl) dX5_leave_5 ⟨Nat.zero_le _, Nat.zero_le _⟩ (fun H locs hW hS => ?_)
  refine lv_if_ne (tgt := 13) hx hb dX5_leave_8 (by decide) (fun c_3 => ?_) (fun c_3 => ?_)
  · have h := ite_f c_3 h
    refine lv_aload_n hx hb dX5_leave_13 rfl (lv_at hl 0 rfl) ?_
    refine va_get (D := G.1) (ci := 5) (v := .ref (gad G 155)) (C := RX5) (T := TX5) (N := 6) hx hb hts hiX5 hown hK.1 hW.1 154 lkT rfl 3 (by decide) (hts _ (List.mem_of_getElem? (i := 2) rfl)) (fun _ h9 => h9) rfl dX5_leave_14 ?_
    refine lv_aload_n hx hb dX5_leave_17 rfl (lv_at hl 0 rfl) ?_
    refine va_get (D := G.1) (ci := 5) (v := .ref (gad G 0)) (C := RX5) (T := TX5) (N := 6) hx hb hts hiX5 hown hK.1 hW.1 154 lkT rfl 0 (by decide) (hts _ (List.mem_of_getElem? (i := 1) rfl)) (fun _ h9 => h9) rfl dX5_leave_18 ?_
    obtain ⟨S_4, e_5, h⟩ := bnd_e h
    refine kV_V (As := [.ref (gad G 0)]) (rest := []) ⟨hx, hb, hml, hown, hts⟩ (tX2_push l G S0 M0 0 (by omega) S_4 e_5) (cwV 1 hts gX5_leave_X2_push rfl rfl rfl ⟨rfl, hdX2_push⟩ ⟨Nat.le_of_ble_eq_true rfl, Nat.le_of_ble_eq_true rfl⟩) (va_recv hK.1 hW.1 (ci := 2) (q0 := 155) rfl lkH) hK hW hS hA rfl hl.1 rfl (Nat.le_of_ble_eq_true rfl) dX5_leave_21 ⟨Nat.zero_le _, Nat.zero_le _⟩ (fun H locs hW hS => ?_)
    refine lv_aload_n hx hb dX5_leave_24 rfl (lv_at hl 0 rfl) ?_
    refine va_get (D := G.1) (ci := 5) (v := .ref (gad G 0)) (C := RX5) (T := TX5) (N := 6) hx hb hts hiX5 hown hK.1 hW.1 154 lkT rfl 0 (by decide) (hts _ (List.mem_of_getElem? (i := 1) rfl)) (fun _ h9 => h9) rfl dX5_leave_25 ?_
    refine lv_iload_n hx hb dX5_leave_28 rfl (lv_at hl 1 rfl) ?_
    obtain ⟨S_6, e_7, h⟩ := bnd_e h
    refine kV_V (As := [.int p1]) (rest := []) ⟨hx, hb, hml, hown, hts⟩ (tX0_sendAway l G S_4 M0 0 (by omega) p1 S_6 e_7) (cwV 1 hts gX5_leave_X0_sendAway rfl rfl rfl ⟨rfl, hdX0_sendAway⟩ ⟨Nat.le_of_ble_eq_true rfl, Nat.le_of_ble_eq_true rfl⟩) (va_recv hK.1 hW.1 (ci := 0) (q0 := 0) rfl (lkC (c := 0) (by omega))) hK hW hS hA rfl hl.1 rfl (Nat.le_of_ble_eq_true rfl) dX5_leave_29 ⟨Nat.zero_le _, Nat.zero_le _⟩ (fun H locs hW hS => ?_)
    refine lv_aload_n hx hb dX5_leave_32 rfl (lv_at hl 0 rfl) ?_
    refine va_get (D := G.1) (ci := 5) (v := .ref (gad G 0)) (C := RX5) (T := TX5) (N := 6) hx hb hts hiX5 hown hK.1 hW.1 154 lkT rfl 0 (by decide) (hts _ (List.mem_of_getElem? (i := 1) rfl)) (fun _ h9 => h9) rfl dX5_leave_33 ?_
    obtain ⟨r_8, e_9, h⟩ := bnd_e h
    refine kV_I (As := []) (rest := []) ⟨hx, hb, hml, hown, hts⟩ (tX0_campersHere l G S_6 M0 0 (by omega) r_8 e_9) (cwV 0 hts gX5_leave_X0_campersHere rfl rfl rfl ⟨rfl, hdX0_campersHere⟩ ⟨Nat.le_of_ble_eq_true rfl, Nat.le_of_ble_eq_true rfl⟩) (va_recv hK.1 hW.1 (ci := 0) (q0 := 0) rfl (lkC (c := 0) (by omega))) hK hW hS hA rfl hl.1 rfl (Nat.le_of_ble_eq_true rfl) dX5_leave_36 ⟨Nat.zero_le _, Nat.zero_le _⟩ (fun H locs hW hS => ?_)
    obtain ⟨rfl, rfl⟩ := Prod.mk.inj (Option.some.inj h)
    exact W.iret hx hb hr (fun t ht hw => ⟨⟨_, (), rfl, rfl, hW.ret ht⟩, hS.F ht⟩) hS.2.2 dX5_leave_39
  · have h := ite_t c_3 h
    refine lv_iconst (v := (-1)) hx hb dX5_leave_11 (by decide) ?_
    obtain ⟨rfl, rfl⟩ := Prod.mk.inj (Option.some.inj h)
    exact W.iret hx hb hr (fun t ht hw => ⟨⟨_, (), rfl, rfl, hW.ret ht⟩, hS.F ht⟩) hS.2.2 dX5_leave_12
abbrev rX5_come : Room := { frames := 6, cells := 0, slots := 0, locals := 142 }
set_option maxRecDepth 100000 in
set_option maxHeartbeats 8000000 in
theorem tX5_come (l : Launch) (G : WG) (S0 M0 : St) (p1 : Int32) (p2 : Int32) (rr : Int32) (S' : St) (h : f5_come S0 p1 p2 = some (rr, S')) : CtI l yX5_come wsX5_come rX5_come G [.ref (gad G 154), .int p1, .int p2] S0 M0 rr S' M0 := by
  refine Met.ofW (cc := cX5_come) (maxL := 4) (ret := (some .int)) (by decide) rfl ?_
  intro p e s m args below meth cd s₁ B hml hv
  obtain ⟨hargs, hK, hW⟩ := hv
  have hx := B.exec
  have hb := B.bytes
  have hr := B.returns
  have hts := atoms_spec (ws := wsX5_come) B.pre
  have hown : s.vm.findClass RX5 = some m.cls := findClass_of_methodNamed B.named
  have hlocks := B.notSynchronized
  have hA : ∀ q, Aw G q → Aw G q := fun _ h => h
  have hS : va_S (Aw G) s.heap s.heap [] := va_S.rf
  have he0 : entryFrame m args 4 = F0 m 0 ((lg_sl ([.ref (gad G 154), .int p1, .int p2]) ++ List.replicate (4 - (lg_sl ([.ref (gad G 154), .int p1, .int p2])).length) Slot.unset).toArray) [] := by rw [hargs]; exact lg_entry_eq _ _ _
  have hl := lv_entry ([.ref (gad G 154), .int p1, .int p2]) (n := 4) (Nat.le_of_ble_eq_true rfl)
  rw [he0]
  generalize (lg_sl ([.ref (gad G 154), .int p1, .int p2]) ++ List.replicate (4 - (lg_sl ([.ref (gad G 154), .int p1, .int p2])).length) Slot.unset).toArray = ls at hl ⊢
  have hl : lv_has ls 4 [(0, .ref (gad G 154)), (1, .int p1), (2, .int p2)] := hl
  have hiX5 : ∀ w ∈ u_ws RX5 TX5 6, w ∈ wsX5_come := by decide +kernel
  unfold f5_come at h
  refine lv_iload_n hx hb dX5_come_0 rfl (lv_at hl 1 rfl) ?_
  refine lv_iload_n hx hb dX5_come_1 rfl (lv_at hl 2 rfl) ?_
  obtain ⟨r_1, e_2, h⟩ := bnd_e h
  refine kS_I (As := [.int p1, .int p2]) (rest := []) ⟨hx, hb, hml, hown, hts⟩ (tX5_isPoint l G S0 M0 p1 p2 r_1 e_2) (va_cwS 2 hts gX5_come_X5_isPoint rfl rfl rfl hdX5_isPoint ⟨Nat.le_of_ble_eq_true rfl, Nat.le_of_ble_eq_true rfl⟩) hK hW hS hA rfl hl.1 rfl (Nat.le_of_ble_eq_true rfl) dX5_come_2 ⟨Nat.zero_le _, Nat.zero_le _⟩ (fun H locs hW hS => ?_)
  refine lv_if_ne (tgt := 10) hx hb dX5_come_5 (by decide) (fun c_3 => ?_) (fun c_3 => ?_)
  · have h := ite_f c_3 h
    refine lv_aload_n hx hb dX5_come_10 rfl (lv_at hl 0 rfl) ?_
    refine va_get (D := G.1) (ci := 5) (v := .ref (gad G 0)) (C := RX5) (T := TX5) (N := 6) hx hb hts hiX5 hown hK.1 hW.1 154 lkT rfl 0 (by decide) (hts _ (List.mem_of_getElem? (i := 1) rfl)) (fun _ h9 => h9) rfl dX5_come_11 ?_
    refine lv_iload_n hx hb dX5_come_14 rfl (lv_at hl 1 rfl) ?_
    refine lv_iload_n hx hb dX5_come_15 rfl (lv_at hl 2 rfl) ?_
    obtain ⟨r_4, e_5, h⟩ := bnd_e h
    refine kV_I (As := [.int p1, .int p2]) (rest := []) ⟨hx, hb, hml, hown, hts⟩ (tX0_depthForNewcomer l G S0 M0 0 (by omega) p1 p2 r_4 e_5) (cwV 2 hts gX5_come_X0_depthForNewcomer rfl rfl rfl ⟨rfl, hdX0_depthForNewcomer⟩ ⟨Nat.le_of_ble_eq_true rfl, Nat.le_of_ble_eq_true rfl⟩) (va_recv hK.1 hW.1 (ci := 0) (q0 := 0) rfl (lkC (c := 0) (by omega))) hK hW hS hA rfl hl.1 rfl (Nat.le_of_ble_eq_true rfl) dX5_come_16 ⟨Nat.zero_le _, Nat.zero_le _⟩ (fun H locs hW hS => ?_)
    refine lv_istore_n (lv' := [(3, .int r_4), (0, .ref (gad G 154)), (1, .int p1), (2, .int p2)]) hx hb dX5_come_19 rfl hl (by decide) rfl (fun ls hl => ?_)
    refine lv_iload_n hx hb dX5_come_20 rfl (lv_at hl 0 rfl) ?_
    refine lv_if_ge (tgt := 26) hx hb dX5_come_21 (by decide) (fun c_6 => ?_) (fun c_6 => ?_)
    · have h := ite_t c_6 h
      refine lv_aload_n hx hb dX5_come_26 rfl (lv_at hl 1 rfl) ?_
      refine va_get (D := G.1) (ci := 5) (v := .ref (gad G 155)) (C := RX5) (T := TX5) (N := 6) hx hb hts hiX5 hown hK.1 hW.1 154 lkT rfl 3 (by decide) (hts _ (List.mem_of_getElem? (i := 2) rfl)) (fun _ h9 => h9) rfl dX5_come_27 ?_
      refine lv_aload_n hx hb dX5_come_30 rfl (lv_at hl 1 rfl) ?_
      refine va_get (D := G.1) (ci := 5) (v := .ref (gad G 0)) (C := RX5) (T := TX5) (N := 6) hx hb hts hiX5 hown hK.1 hW.1 154 lkT rfl 0 (by decide) (hts _ (List.mem_of_getElem? (i := 1) rfl)) (fun _ h9 => h9) rfl dX5_come_31 ?_
      obtain ⟨S_7, e_8, h⟩ := bnd_e h
      refine kV_V (As := [.ref (gad G 0)]) (rest := []) ⟨hx, hb, hml, hown, hts⟩ (tX2_push l G S0 M0 0 (by omega) S_7 e_8) (cwV 1 hts gX5_come_X2_push rfl rfl rfl ⟨rfl, hdX2_push⟩ ⟨Nat.le_of_ble_eq_true rfl, Nat.le_of_ble_eq_true rfl⟩) (va_recv hK.1 hW.1 (ci := 2) (q0 := 155) rfl lkH) hK hW hS hA rfl hl.1 rfl (Nat.le_of_ble_eq_true rfl) dX5_come_34 ⟨Nat.zero_le _, Nat.zero_le _⟩ (fun H locs hW hS => ?_)
      refine lv_aload_n hx hb dX5_come_37 rfl (lv_at hl 1 rfl) ?_
      refine va_get (D := G.1) (ci := 5) (v := .ref (gad G 0)) (C := RX5) (T := TX5) (N := 6) hx hb hts hiX5 hown hK.1 hW.1 154 lkT rfl 0 (by decide) (hts _ (List.mem_of_getElem? (i := 1) rfl)) (fun _ h9 => h9) rfl dX5_come_38 ?_
      refine lv_iload_n hx hb dX5_come_41 rfl (lv_at hl 2 rfl) ?_
      refine lv_iload_n hx hb dX5_come_42 rfl (lv_at hl 3 rfl) ?_
      refine lv_iload_n hx hb dX5_come_43 rfl (lv_at hl 0 rfl) ?_
      obtain ⟨r_9, S_10, e_11, h⟩ := bd2_e h
      refine kV_I (As := [.int p1, .int p2, .int r_4]) (rest := []) ⟨hx, hb, hml, hown, hts⟩ (tX0_settle l G S_7 M0 0 (by omega) p1 p2 r_4 r_9 S_10 e_11) (cwV 3 hts gX5_come_X0_settle rfl rfl rfl ⟨rfl, hdX0_settle⟩ ⟨Nat.le_of_ble_eq_true rfl, Nat.le_of_ble_eq_true rfl⟩) (va_recv hK.1 hW.1 (ci := 0) (q0 := 0) rfl (lkC (c := 0) (by omega))) hK hW hS hA rfl hl.1 rfl (Nat.le_of_ble_eq_true rfl) dX5_come_44 ⟨Nat.zero_le _, Nat.zero_le _⟩ (fun H locs hW hS => ?_)
      obtain ⟨rfl, rfl⟩ := Prod.mk.inj (Option.some.inj h)
      exact W.iret hx hb hr (fun t ht hw => ⟨⟨_, (), rfl, rfl, hW.ret ht⟩, hS.F ht⟩) hS.2.2 dX5_come_47
    · have h := ite_f c_6 h
      refine lv_iload_n hx hb dX5_come_24 rfl (lv_at hl 0 rfl) ?_
      obtain ⟨rfl, rfl⟩ := Prod.mk.inj (Option.some.inj h)
      exact W.iret hx hb hr (fun t ht hw => ⟨⟨_, (), rfl, rfl, hW.ret ht⟩, hS.F ht⟩) hS.2.2 dX5_come_25
  · have h := ite_t c_3 h
    refine lv_iconst (v := (-1)) hx hb dX5_come_8 (by decide) ?_
    obtain ⟨rfl, rfl⟩ := Prod.mk.inj (Option.some.inj h)
    exact W.iret hx hb hr (fun t ht hw => ⟨⟨_, (), rfl, rfl, hW.ret ht⟩, hS.F ht⟩) hS.2.2 dX5_come_9
abbrev rX2_pop : Room := { frames := 3, cells := 0, slots := 0, locals := 65 }
set_option maxRecDepth 100000 in
set_option maxHeartbeats 8000000 in
theorem tX2_pop (l : Launch) (G : WG) (S0 M0 : St) (c1 : Nat) (hc1 : c1 < 7) (S' : St) (h : f2_pop S0 c1 = some (S')) : CtV l yX2_pop wsX2_pop rX2_pop G [.ref (gad G 155), .ref (gad G c1)] S0 M0 S' M0 := by
  refine Met.ofW (cc := cX2_pop) (maxL := 3) (ret := none) (by decide) rfl ?_
  intro p e s m args below meth cd s₁ B hml hv
  obtain ⟨hargs, hK, hW⟩ := hv
  have hx := B.exec
  have hb := B.bytes
  have hr := B.returns
  have hts := atoms_spec (ws := wsX2_pop) B.pre
  have hown : s.vm.findClass RX2 = some m.cls := findClass_of_methodNamed B.named
  have hlocks := B.notSynchronized
  have hA : ∀ q, Aw G q → Aw G q := fun _ h => h
  have hS : va_S (Aw G) s.heap s.heap [] := va_S.rf
  have he0 : entryFrame m args 3 = F0 m 0 ((lg_sl ([.ref (gad G 155), .ref (gad G c1)]) ++ List.replicate (3 - (lg_sl ([.ref (gad G 155), .ref (gad G c1)])).length) Slot.unset).toArray) [] := by rw [hargs]; exact lg_entry_eq _ _ _
  have hl := lv_entry ([.ref (gad G 155), .ref (gad G c1)]) (n := 3) (Nat.le_of_ble_eq_true rfl)
  rw [he0]
  generalize (lg_sl ([.ref (gad G 155), .ref (gad G c1)]) ++ List.replicate (3 - (lg_sl ([.ref (gad G 155), .ref (gad G c1)])).length) Slot.unset).toArray = ls at hl ⊢
  have hl : lv_has ls 3 [(0, .ref (gad G 155)), (1, .ref (gad G c1))] := hl
  have hiX2 : ∀ w ∈ u_ws RX2 TX2 3, w ∈ wsX2_pop := by decide +kernel
  have B56 : ∀ (H : Heap) (locs : List Loc) (S : St) (_ : WD G S M0 H) (_ : va_S (Aw G) s.heap H locs) (ls : Array Slot) (_ : lv_has ls 3 []) (h : f2_pop_b56 S c1  = some (S')), WV p l e (headSpec wsX2_pop rX2_pop).room s m args below meth cd G S' M0 H locs (F0 m 56 ls []) := by
    intro H locs S hW hS ls hl h
    unfold f2_pop_b56 at h
    obtain rfl := Option.some.inj h
    exact W.vret hx hb hr (fun t ht hw => ⟨⟨(), rfl, trivial, hW.ret ht⟩, hS.F ht⟩) hS.2.2 dX2_pop_56
  have B53 : ∀ (H : Heap) (locs : List Loc) (S : St) (_ : WD G S M0 H) (_ : va_S (Aw G) s.heap H locs) (ls : Array Slot) (k0 : Int32) (_ : lv_has ls 3 []) (h : f2_pop_b53 S c1 k0 = some (S')), WV p l e (headSpec wsX2_pop rX2_pop).room s m args below meth cd G S' M0 H locs (F0 m 53 ls [.int k0, .ref (gad G 155)]) := by
    intro H locs S hW hS ls k0 hl h
    unfold f2_pop_b53 at h
    obtain ⟨S_1, eS_1, h⟩ := nam_e h
    refine va_put (D := G.1) (ci := 2) (v := .int k0) (ty := .int) (C := RX2) (T := TX2) (N := 3) hx hb hts hiX2 tyX2 tyX2_ok nmX2 hown hK.1 hW.1 (hW.D hA) hS 155 lkH rfl 1 (by decide) (hts _ (List.mem_of_getElem? (i := 1) rfl)) (fun _ h9 => h9) rfl (by decide +kernel) rfl rfl (Nat.le_of_ble_eq_true rfl) dX2_pop_53 (fun H locs hP hD hS => ?_)
    have hW := upH0 hW hP
    rw [← eS_1] at hW
    exact B56 _ _ S_1 hW hS ls (lv_sub hl [] rfl) h
  unfold f2_pop at h
  refine lv_aload_n hx hb dX2_pop_0 rfl (lv_at hl 0 rfl) ?_
  refine lv_aload_n hx hb dX2_pop_1 rfl (lv_at hl 0 rfl) ?_
  refine va_get (D := G.1) (ci := 2) (v := .int (S0.1 43)) (C := RX2) (T := TX2) (N := 3) hx hb hts hiX2 hown hK.1 hW.1 155 lkH rfl 1 (by decide) (hts _ (List.mem_of_getElem? (i := 1) rfl)) (fun _ h9 => h9) rfl dX2_pop_2 ?_
  obtain ⟨r_1, e_2, h⟩ := bnd_e h
  refine kV_Q (As := [.int (S0.1 43)]) (rest := []) ⟨hx, hb, hml, hown, hts⟩ (tX2_stateAt l G S0 M0 (S0.1 43) r_1 e_2) (cwV 1 hts gX2_pop_X2_stateAt rfl rfl rfl ⟨rfl, hdX2_stateAt⟩ ⟨Nat.le_of_ble_eq_true rfl, Nat.le_of_ble_eq_true rfl⟩) (va_recv hK.1 hW.1 (ci := 2) (q0 := 155) rfl lkH) hK hW hS hA rfl hl.1 rfl (Nat.le_of_ble_eq_true rfl) dX2_pop_5 ⟨Nat.zero_le _, Nat.zero_le _⟩ (fun H locs hW hS => ?_)
  have lr_1 : r_1 < 7 := f2_stateAt_lt e_2
  refine lv_astore_n (lv' := [(2, .ref (gad G r_1)), (0, .ref (gad G 155)), (1, .ref (gad G c1))]) hx hb dX2_pop_8 rfl hl (by decide) rfl (fun ls hl => ?_)
  refine lv_aload_n hx hb dX2_pop_9 rfl (lv_at hl 1 rfl) ?_
  refine va_get (D := G.1) (ci := 2) (v := .int (S0.1 44)) (C := RX2) (T := TX2) (N := 3) hx hb hts hiX2 hown hK.1 hW.1 155 lkH rfl 2 (by decide) (hts _ (List.mem_of_getElem? (i := 2) rfl)) (fun _ h9 => h9) rfl dX2_pop_10 ?_
  refine lv_if_le (tgt := 56) hx hb dX2_pop_13 (by decide) (fun c_3 => ?_) (fun c_3 => ?_)
  · have h := ite_t c_3 h
    exact B56 _ _ S0 hW hS ls (lv_sub hl [] rfl) h
  · have h := ite_f c_3 h
    refine lv_aload_n hx hb dX2_pop_16 rfl (lv_at hl 0 rfl) ?_
    refine lv_ifnull hx hb dX2_pop_17 ?_
    refine lv_aload_n hx hb dX2_pop_20 rfl (lv_at hl 2 rfl) ?_
    refine lv_aload_n hx hb dX2_pop_21 rfl (lv_at hl 0 rfl) ?_
    obtain ⟨S_4, e_5, h⟩ := bnd_e h
    refine kV_V (As := [.ref (gad G r_1)]) (rest := []) ⟨hx, hb, hml, hown, hts⟩ (tX0_copyFrom l G S0 M0 c1 (by omega) r_1 (by omega) S_4 e_5) (cwV 1 hts gX2_pop_X0_copyFrom rfl rfl rfl ⟨rfl, hdX0_copyFrom⟩ ⟨Nat.le_of_ble_eq_true rfl, Nat.le_of_ble_eq_true rfl⟩) (va_recv hK.1 hW.1 (ci := 0) (q0 := c1) rfl (lkC (c := c1) (by omega))) hK hW hS hA rfl hl.1 rfl (Nat.le_of_ble_eq_true rfl) dX2_pop_22 ⟨Nat.zero_le _, Nat.zero_le _⟩ (fun H locs hW hS => ?_)
    refine lv_aload_n hx hb dX2_pop_25 rfl (lv_at hl 1 rfl) ?_
    refine lv_dup hx hb dX2_pop_26 rfl ?_
    refine va_get (D := G.1) (ci := 2) (v := .int (S_4.1 44)) (C := RX2) (T := TX2) (N := 3) hx hb hts hiX2 hown hK.1 hW.1 155 lkH rfl 2 (by decide) (hts _ (List.mem_of_getElem? (i := 2) rfl)) (fun _ h9 => h9) rfl dX2_pop_27 ?_
    refine lv_iconst (v := 1) hx hb dX2_pop_30 (by decide) ?_
    refine lv_isub hx hb dX2_pop_31 ?_
    obtain ⟨S_6, eS_6, h⟩ := nam_e h
    refine va_put (D := G.1) (ci := 2) (v := .int ((S_4.1 44 - 1))) (ty := .int) (C := RX2) (T := TX2) (N := 3) hx hb hts hiX2 tyX2 tyX2_ok nmX2 hown hK.1 hW.1 (hW.D hA) hS 155 lkH rfl 2 (by decide) (hts _ (List.mem_of_getElem? (i := 2) rfl)) (fun _ h9 => h9) rfl (by decide +kernel) rfl rfl (Nat.le_of_ble_eq_true rfl) dX2_pop_32 (fun H locs hP hD hS => ?_)
    have hW := upH1 hW hP
    rw [← eS_6] at hW
    refine lv_aload_n hx hb dX2_pop_35 rfl (lv_at hl 1 rfl) ?_
    refine lv_aload_n hx hb dX2_pop_36 rfl (lv_at hl 1 rfl) ?_
    refine va_get (D := G.1) (ci := 2) (v := .int (S_6.1 43)) (C := RX2) (T := TX2) (N := 3) hx hb hts hiX2 hown hK.1 hW.1 155 lkH rfl 1 (by decide) (hts _ (List.mem_of_getElem? (i := 1) rfl)) (fun _ h9 => h9) rfl dX2_pop_37 ?_
    refine lv_if_le (tgt := 52) hx hb dX2_pop_40 (by decide) (fun c_7 => ?_) (fun c_7 => ?_)
    · have h := ite_t c_7 h
      refine lv_iconst (v := 3) hx hb dX2_pop_52 (by decide) ?_
      exact B53 _ _ S_6 hW hS ls 3 (lv_sub hl [] rfl) h
    · have h := ite_f c_7 h
      refine lv_aload_n hx hb dX2_pop_43 rfl (lv_at hl 1 rfl) ?_
      refine va_get (D := G.1) (ci := 2) (v := .int (S_6.1 43)) (C := RX2) (T := TX2) (N := 3) hx hb hts hiX2 hown hK.1 hW.1 155 lkH rfl 1 (by decide) (hts _ (List.mem_of_getElem? (i := 1) rfl)) (fun _ h9 => h9) rfl dX2_pop_44 ?_
      refine lv_iconst (v := 1) hx hb dX2_pop_47 (by decide) ?_
      refine lv_isub hx hb dX2_pop_48 ?_
      refine lv_goto (tgt := 53) hx hb dX2_pop_49 (by decide) ?_
      exact B53 _ _ S_6 hW hS ls ((S_6.1 43 - 1)) (lv_sub hl [] rfl) h
abbrev rX5_undo : Room := { frames := 4, cells := 0, slots := 0, locals := 87 }
set_option maxRecDepth 100000 in
set_option maxHeartbeats 8000000 in
theorem tX5_undo (l : Launch) (G : WG) (S0 M0 : St) (rr : Int32) (S' : St) (h : f5_undo S0 = some (rr, S')) : CtI l yX5_undo wsX5_undo rX5_undo G [.ref (gad G 154)] S0 M0 rr S' M0 := by
  refine Met.ofW (cc := cX5_undo) (maxL := 1) (ret := (some .int)) (by decide) rfl ?_
  intro p e s m args below meth cd s₁ B hml hv
  obtain ⟨hargs, hK, hW⟩ := hv
  have hx := B.exec
  have hb := B.bytes
  have hr := B.returns
  have hts := atoms_spec (ws := wsX5_undo) B.pre
  have hown : s.vm.findClass RX5 = some m.cls := findClass_of_methodNamed B.named
  have hlocks := B.notSynchronized
  have hA : ∀ q, Aw G q → Aw G q := fun _ h => h
  have hS : va_S (Aw G) s.heap s.heap [] := va_S.rf
  have he0 : entryFrame m args 1 = F0 m 0 ((lg_sl ([.ref (gad G 154)]) ++ List.replicate (1 - (lg_sl ([.ref (gad G 154)])).length) Slot.unset).toArray) [] := by rw [hargs]; exact lg_entry_eq _ _ _
  have hl := lv_entry ([.ref (gad G 154)]) (n := 1) (Nat.le_of_ble_eq_true rfl)
  rw [he0]
  generalize (lg_sl ([.ref (gad G 154)]) ++ List.replicate (1 - (lg_sl ([.ref (gad G 154)])).length) Slot.unset).toArray = ls at hl ⊢
  have hl : lv_has ls 1 [(0, .ref (gad G 154))] := hl
  have hiX2 : ∀ w ∈ u_ws RX2 TX2 3, w ∈ wsX5_undo := by decide +kernel
  have hiX5 : ∀ w ∈ u_ws RX5 TX5 6, w ∈ wsX5_undo := by decide +kernel
  unfold f5_undo at h
  refine lv_aload_n hx hb dX5_undo_0 rfl (lv_at hl 0 rfl) ?_
  refine va_get (D := G.1) (ci := 5) (v := .ref (gad G 155)) (C := RX5) (T := TX5) (N := 6) hx hb hts hiX5 hown hK.1 hW.1 154 lkT rfl 3 (by decide) (hts _ (List.mem_of_getElem? (i := 1) rfl)) (fun _ h9 => h9) rfl dX5_undo_1 ?_
  refine va_getN (D := G.1) (ci := 2) (v := .int (S0.1 44)) (C := RX2) (T := TX2) (N := 3) hx hb hts hiX2 hown hK.1 hW.1 155 lkH rfl 2 (by decide) (va_Nw.use rfl (hK.2 _ (List.mem_of_getElem? (i := 11) rfl))) (fun _ h9 => h9) rfl dX5_undo_4 ?_
  refine lv_if_ne (tgt := 13) hx hb dX5_undo_7 (by decide) (fun c_1 => ?_) (fun c_1 => ?_)
  · have h := ite_f c_1 h
    refine lv_aload_n hx hb dX5_undo_13 rfl (lv_at hl 0 rfl) ?_
    refine va_get (D := G.1) (ci := 5) (v := .ref (gad G 155)) (C := RX5) (T := TX5) (N := 6) hx hb hts hiX5 hown hK.1 hW.1 154 lkT rfl 3 (by decide) (hts _ (List.mem_of_getElem? (i := 1) rfl)) (fun _ h9 => h9) rfl dX5_undo_14 ?_
    refine lv_aload_n hx hb dX5_undo_17 rfl (lv_at hl 0 rfl) ?_
    refine va_get (D := G.1) (ci := 5) (v := .ref (gad G 0)) (C := RX5) (T := TX5) (N := 6) hx hb hts hiX5 hown hK.1 hW.1 154 lkT rfl 0 (by decide) (hts _ (List.mem_of_getElem? (i := 2) rfl)) (fun _ h9 => h9) rfl dX5_undo_18 ?_
    obtain ⟨S_2, e_3, h⟩ := bnd_e h
    refine kV_V (As := [.ref (gad G 0)]) (rest := []) ⟨hx, hb, hml, hown, hts⟩ (tX2_pop l G S0 M0 0 (by omega) S_2 e_3) (cwV 1 hts gX5_undo_X2_pop rfl rfl rfl ⟨rfl, hdX2_pop⟩ ⟨Nat.le_of_ble_eq_true rfl, Nat.le_of_ble_eq_true rfl⟩) (va_recv hK.1 hW.1 (ci := 2) (q0 := 155) rfl lkH) hK hW hS hA rfl hl.1 rfl (Nat.le_of_ble_eq_true rfl) dX5_undo_21 ⟨Nat.zero_le _, Nat.zero_le _⟩ (fun H locs hW hS => ?_)
    refine lv_aload_n hx hb dX5_undo_24 rfl (lv_at hl 0 rfl) ?_
    refine va_get (D := G.1) (ci := 5) (v := .ref (gad G 155)) (C := RX5) (T := TX5) (N := 6) hx hb hts hiX5 hown hK.1 hW.1 154 lkT rfl 3 (by decide) (hts _ (List.mem_of_getElem? (i := 1) rfl)) (fun _ h9 => h9) rfl dX5_undo_25 ?_
    refine va_getN (D := G.1) (ci := 2) (v := .int (S_2.1 44)) (C := RX2) (T := TX2) (N := 3) hx hb hts hiX2 hown hK.1 hW.1 155 lkH rfl 2 (by decide) (va_Nw.use rfl (hK.2 _ (List.mem_of_getElem? (i := 11) rfl))) (fun _ h9 => h9) rfl dX5_undo_28 ?_
    obtain ⟨rfl, rfl⟩ := Prod.mk.inj (Option.some.inj h)
    exact W.iret hx hb hr (fun t ht hw => ⟨⟨_, (), rfl, rfl, hW.ret ht⟩, hS.F ht⟩) hS.2.2 dX5_undo_31
  · have h := ite_t c_1 h
    refine lv_bipush (v := (-5)) hx hb dX5_undo_10 (by decide) ?_
    obtain ⟨rfl, rfl⟩ := Prod.mk.inj (Option.some.inj h)
    exact W.iret hx hb hr (fun t ht hw => ⟨⟨_, (), rfl, rfl, hW.ret ht⟩, hS.F ht⟩) hS.2.2 dX5_undo_12
