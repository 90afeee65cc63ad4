abbrev rX5_markOf : Room := { frames := 0, cells := 0, slots := 0, locals := 0 }
set_option maxRecDepth 100000 in
set_option maxHeartbeats 8000000 in
theorem tX5_markOf (l : Launch) (G : WG) (S0 M0 : St) (p0 : Int32) (rr : Int32) (h : f5_markOf p0 = some (rr)) : CtI l yX5_markOf wsX5_markOf rX5_markOf G [.int p0] S0 M0 rr S0 M0 := by
  refine Met.ofW (cc := cX5_markOf) (maxL := 1) (ret := (some .int)) (by decide) rfl ?_
  intro p e s m args below meth cd s₁ B hml hv
  obtain ⟨hargs, hK, hW⟩ := hv
  have hx := B.exec
  have hb := B.bytes
  have hr := B.returns
  have hts := atoms_spec (ws := wsX5_markOf) B.pre
  have hown : s.vm.findClass RX5 = some m.cls := findClass_of_methodNamed B.named
  have hlocks := B.notSynchronized
  have hA : ∀ q, Aw G q → Aw G q := fun _ h => h
  have hS : va_S (Aw G) s.heap s.heap [] := va_S.rf
  have he0 : entryFrame m args 1 = F0 m 0 ((lg_sl ([.int p0]) ++ List.replicate (1 - (lg_sl ([.int p0])).length) Slot.unset).toArray) [] := by rw [hargs]; exact lg_entry_eq _ _ _
  have hl := lv_entry ([.int p0]) (n := 1) (Nat.le_of_ble_eq_true rfl)
  rw [he0]
  generalize (lg_sl ([.int p0]) ++ List.replicate (1 - (lg_sl ([.int p0])).length) Slot.unset).toArray = ls at hl ⊢
  have hl : lv_has ls 1 [(0, .int p0)] := hl
  have B17 : ∀ (H : Heap) (locs : List Loc) (_ : WD G S0 M0 H) (_ : va_S (Aw G) s.heap H locs) (ls : Array Slot) (k0 : Int32) (_ : lv_has ls 1 []) (h : f5_markOf_b17  k0 = some (rr)), WI p l e (headSpec wsX5_markOf rX5_markOf).room s m args below meth cd G rr S0 M0 H locs (F0 m 17 ls [.int k0]) := by
    intro H locs hW hS ls k0 hl h
    unfold f5_markOf_b17 at h
    obtain rfl := Option.some.inj h
    exact W.iret hx hb hr (fun t ht hw => ⟨⟨_, (), rfl, rfl, hW.ret ht⟩, hS.F ht⟩) hS.2.2 dX5_markOf_17
  have B16 : ∀ (H : Heap) (locs : List Loc) (_ : WD G S0 M0 H) (_ : va_S (Aw G) s.heap H locs) (ls : Array Slot) (_ : lv_has ls 1 []) (h : f5_markOf_b16   = some (rr)), WI p l e (headSpec wsX5_markOf rX5_markOf).room s m args below meth cd G rr S0 M0 H locs (F0 m 16 ls []) := by
    intro H locs hW hS ls hl h
    unfold f5_markOf_b16 at h
    refine lv_iconst (v := 0) hx hb dX5_markOf_16 (by decide) ?_
    exact B17 _ _ hW hS ls 0 (lv_sub hl [] rfl) h
  unfold f5_markOf at h
  refine lv_iload_n hx hb dX5_markOf_0 rfl (lv_at hl 0 rfl) ?_
  refine lv_if_lt (tgt := 16) hx hb dX5_markOf_1 (by decide) (fun c_1 => ?_) (fun c_1 => ?_)
  · have h := ite_t c_1 h
    exact B16 _ _ hW hS ls (lv_sub hl [] rfl) h
  · have h := ite_f c_1 h
    refine lv_iload_n hx hb dX5_markOf_4 rfl (lv_at hl 0 rfl) ?_
    refine lv_bipush (v := 16) hx hb dX5_markOf_5 (by decide) ?_
    refine lv_icmp_ge (tgt := 16) hx hb dX5_markOf_7 (by decide) (fun c_2 => ?_) (fun c_2 => ?_)
    · have h := ite_t c_2 h
      exact B16 _ _ hW hS ls (lv_sub hl [] rfl) h
    · have h := ite_f c_2 h
      refine lv_iconst (v := 1) hx hb dX5_markOf_10 (by decide) ?_
      refine lv_iload_n hx hb dX5_markOf_11 rfl (lv_at hl 0 rfl) ?_
      refine lv_ishl hx hb dX5_markOf_12 ?_
      refine lv_goto (tgt := 17) hx hb dX5_markOf_13 (by decide) ?_
      exact B17 _ _ hW hS ls (((1 : Int32) <<< ((p0 : Int32) &&& 31))) (lv_sub hl [] rfl) h
abbrev rX3_ownersBeside : Room := { frames := 3, cells := 0, slots := 0, locals := 68 }
set_option maxRecDepth 100000 in
set_option maxHeartbeats 8000000 in
theorem tX3_ownersBeside (l : Launch) (G : WG) (S0 M0 : St) (c : Nat) (hc : c < 7) (p1 : Int32) (rr : Int32) (h : f3_ownersBeside S0 c p1 = some (rr)) : CtI l yX3_ownersBeside wsX3_ownersBeside rX3_ownersBeside G [.ref (gad G (7 + c)), .int p1] S0 M0 rr S0 M0 := by
  refine Met.ofW (cc := cX3_ownersBeside) (maxL := 4) (ret := (some .int)) (by decide) rfl ?_
  intro p e s m args below meth cd s₁ B hml hv
  obtain ⟨hargs, hK, hW⟩ := hv
  have hx := B.exec
  have hb := B.bytes
  have hr := B.returns
  have hts := atoms_spec (ws := wsX3_ownersBeside) B.pre
  have hown : s.vm.findClass RX3 = some m.cls := findClass_of_methodNamed B.named
  have hlocks := B.notSynchronized
  have hA : ∀ q, Aw G q → Aw G q := fun _ h => h
  have hS : va_S (Aw G) s.heap s.heap [] := va_S.rf
  have he0 : entryFrame m args 4 = F0 m 0 ((lg_sl ([.ref (gad G (7 + c)), .int p1]) ++ List.replicate (4 - (lg_sl ([.ref (gad G (7 + c)), .int p1])).length) Slot.unset).toArray) [] := by rw [hargs]; exact lg_entry_eq _ _ _
  have hl := lv_entry ([.ref (gad G (7 + c)), .int p1]) (n := 4) (Nat.le_of_ble_eq_true rfl)
  rw [he0]
  generalize (lg_sl ([.ref (gad G (7 + c)), .int p1]) ++ List.replicate (4 - (lg_sl ([.ref (gad G (7 + c)), .int p1])).length) Slot.unset).toArray = ls at hl ⊢
  have hl : lv_has ls 4 [(0, .ref (gad G (7 + c))), (1, .int p1)] := hl
  have hiX3 : ∀ w ∈ u_ws RX3 TX3 5, w ∈ wsX3_ownersBeside := by decide +kernel
  have B4 : ∀ (n : Nat), ∀ (H : Heap) (locs : List Loc) (_ : WD G S0 M0 H) (_ : va_S (Aw G) s.heap H locs) (ls : Array Slot) (l1 : Int32) (l2 : Int32) (l3 : Int32) (_ : lv_has ls 4 [(0, .ref (gad G (7 + c))), (1, .int l1), (2, .int l2), (3, .int l3)]) (h : f3_ownersBeside_b4 S0 c l1 n l2 l3 = some (rr)), WI p l e (headSpec wsX3_ownersBeside rX3_ownersBeside).room s m args below meth cd G rr S0 M0 H locs (F0 m 4 ls []) := by
    intro n
    induction n with
    | zero => intro H locs hW hS ls l1 l2 l3 hl h; cases (show (none : Option (Int32)) = some _ from h)
    | succ n ih =>
      have B35 : ∀ (H : Heap) (locs : List Loc) (_ : WD G S0 M0 H) (_ : va_S (Aw G) s.heap H locs) (ls : Array Slot) (l1 : Int32) (l2 : Int32) (l3 : Int32) (_ : lv_has ls 4 [(0, .ref (gad G (7 + c))), (1, .int l1), (2, .int l2), (3, .int l3)]) (h : f3_ownersBeside_b35 S0 c (f3_ownersBeside_b4 S0 c l1 n) l1 l2 l3 = some (rr)), WI p l e (headSpec wsX3_ownersBeside rX3_ownersBeside).room s m args below meth cd G rr S0 M0 H locs (F0 m 35 ls []) := by
        intro H locs hW hS ls l1 l2 l3 hl h
        unfold f3_ownersBeside_b35 at h
        refine lv_iinc (v := (l3 + 1)) (lv' := [(3, .int ((l3 + 1))), (0, .ref (gad G (7 + c))), (1, .int l1), (2, .int l2)]) hx hb dX3_ownersBeside_35 hl (k := 3) rfl rfl (by decide) rfl (fun ls hl => ?_)
        refine lv_goto (tgt := 4) hx hb dX3_ownersBeside_38 (by decide) ?_
        exact ih _ _ hW hS ls l1 l2 ((l3 + 1)) (lv_sub hl [1, 2, 3, 0] rfl) h
      intro H locs hW hS ls l1 l2 l3 hl h
      rw [f3_ownersBeside_b4] at h
      refine lv_iload_n hx hb dX3_ownersBeside_4 rfl (lv_at hl 3 rfl) ?_
      refine lv_aload_n hx hb dX3_ownersBeside_5 rfl (lv_at hl 0 rfl) ?_
      refine va_get (D := G.1) (ci := 3) (v := .int (S0.1 (6 * c + 0))) (C := RX3) (T := TX3) (N := 5) hx hb hts hiX3 hown hK.1 hW.1 (7 + c) (lkP (c := c) (by omega)) rfl 4 (by decide) (hts _ (List.mem_of_getElem? (i := 1) rfl)) (fun _ h9 => h9) rfl dX3_ownersBeside_6 ?_
      refine lv_icmp_ge (tgt := 41) hx hb dX3_ownersBeside_9 (by decide) (fun c_1 => ?_) (fun c_1 => ?_)
      · have h := ite_t c_1 h
        refine lv_iload_n hx hb dX3_ownersBeside_41 rfl (lv_at hl 2 rfl) ?_
        obtain rfl := Option.some.inj h
        exact W.iret hx hb hr (fun t ht hw => ⟨⟨_, (), rfl, rfl, hW.ret ht⟩, hS.F ht⟩) hS.2.2 dX3_ownersBeside_42
      · have h := ite_f c_1 h
        refine lv_aload_n hx hb dX3_ownersBeside_12 rfl (lv_at hl 0 rfl) ?_
        refine lv_iload_n hx hb dX3_ownersBeside_13 rfl (lv_at hl 1 rfl) ?_
        refine lv_iload_n hx hb dX3_ownersBeside_14 rfl (lv_at hl 3 rfl) ?_
        obtain ⟨r_2, e_3, h⟩ := bnd_e h
        refine kV_I (As := [.int l1, .int l3]) (rest := []) ⟨hx, hb, hml, hown, hts⟩ (tX3_areBeside l G S0 M0 c (by omega) l1 l3 r_2 e_3) (cwV 2 hts gX3_ownersBeside_X3_areBeside rfl rfl rfl ⟨rfl, hdX3_areBeside⟩ ⟨Nat.le_of_ble_eq_true rfl, Nat.le_of_ble_eq_true rfl⟩) (va_recv hK.1 hW.1 (ci := 3) (q0 := (7 + c)) rfl (lkP (c := c) (by omega))) hK hW hS hA rfl hl.1 rfl (Nat.le_of_ble_eq_true rfl) dX3_ownersBeside_15 ⟨Nat.zero_le _, Nat.zero_le _⟩ (fun H locs hW hS => ?_)
        refine lv_if_eq (tgt := 35) hx hb dX3_ownersBeside_18 (by decide) (fun c_4 => ?_) (fun c_4 => ?_)
        · have h := ite_t c_4 h
          exact B35 _ _ hW hS ls l1 l2 l3 (lv_sub hl [0, 1, 2, 3] rfl) h
        · have h := ite_f c_4 h
          refine lv_iload_n hx hb dX3_ownersBeside_21 rfl (lv_at hl 2 rfl) ?_
          refine lv_aload_n hx hb dX3_ownersBeside_22 rfl (lv_at hl 0 rfl) ?_
          refine va_get (D := G.1) (ci := 3) (v := .ref (gad G (14 + (10 * c + 3)))) (C := RX3) (T := TX3) (N := 5) hx hb hts hiX3 hown hK.1 hW.1 (7 + c) (lkP (c := c) (by omega)) rfl 3 (by decide) (hts _ (List.mem_of_getElem? (i := 2) rfl)) (fun _ h9 => h9) rfl dX3_ownersBeside_23 ?_
          refine lv_iload_n hx hb dX3_ownersBeside_26 rfl (lv_at hl 3 rfl) ?_
          obtain ⟨r_5, e_6, h⟩ := bnd_e h
          refine kV_I (As := [.int l3]) (rest := [.int l2]) ⟨hx, hb, hml, hown, hts⟩ (tX4_at l G S0 M0 ((10 * c + 3)) (by omega) l3 r_5 e_6) (cwV 1 hts gX3_ownersBeside_X4_at rfl rfl rfl ⟨rfl, hdX4_at⟩ ⟨Nat.le_of_ble_eq_true rfl, Nat.le_of_ble_eq_true rfl⟩) (va_recv hK.1 hW.1 (ci := 4) (q0 := (14 + (10 * c + 3))) rfl (lkR (r := (10 * c + 3)) (by omega))) hK hW hS hA rfl hl.1 rfl (Nat.le_of_ble_eq_true rfl) dX3_ownersBeside_27 ⟨Nat.zero_le _, Nat.zero_le _⟩ (fun H locs hW hS => ?_)
          obtain ⟨r_7, e_8, h⟩ := bnd_e h
          refine kSN_I (As := [.int r_5]) (rest := [.int l2]) ⟨hx, hb, hml, hown, hts⟩ (tX5_markOf l G S0 M0 r_5 r_7 e_8) ⟨va_cnB 1 hts gX3_ownersBeside_X5_markOf_n81 rfl rfl rfl (hK.2 _ (List.mem_of_getElem? (i := 15) rfl)) (hts _ (List.mem_of_getElem? (i := 25) rfl)) hdX5_markOf ⟨Nat.le_of_ble_eq_true rfl, Nat.le_of_ble_eq_true rfl⟩, (hts _ (List.mem_of_getElem? (i := 38) rfl)), trivial⟩ hK hW hS hA rfl hl.1 rfl (Nat.le_of_ble_eq_true rfl) dX3_ownersBeside_30 ⟨Nat.zero_le _, Nat.zero_le _⟩ (fun H locs hW hS => ?_)
          refine lv_ior hx hb dX3_ownersBeside_33 ?_
          obtain ⟨x_9, ex_9, h⟩ := nam_e h
          refine lv_ni ex_9 ?_
          refine lv_istore_n (lv' := [(2, .int x_9), (0, .ref (gad G (7 + c))), (1, .int l1), (3, .int l3)]) hx hb dX3_ownersBeside_34 rfl hl (by decide) rfl (fun ls hl => ?_)
          exact B35 _ _ hW hS ls l1 x_9 l3 (lv_sub hl [1, 2, 0, 3] rfl) h
  unfold f3_ownersBeside at h
  refine lv_iconst (v := 0) hx hb dX3_ownersBeside_0 (by decide) ?_
  refine lv_istore_n (lv' := [(2, .int 0), (0, .ref (gad G (7 + c))), (1, .int p1)]) hx hb dX3_ownersBeside_1 rfl hl (by decide) rfl (fun ls hl => ?_)
  refine lv_iconst (v := 0) hx hb dX3_ownersBeside_2 (by decide) ?_
  refine lv_istore_n (lv' := [(3, .int 0), (2, .int 0), (0, .ref (gad G (7 + c))), (1, .int p1)]) hx hb dX3_ownersBeside_3 rfl hl (by decide) rfl (fun ls hl => ?_)
  exact B4 fuelN _ _ hW hS ls p1 0 0 (lv_sub hl [2, 3, 1, 0] rfl) h
abbrev rJ6_bitCount_0f7a4 : Room := { frames := 0, cells := 0, slots := 0, locals := 0 }
set_option maxRecDepth 100000 in
set_option maxHeartbeats 8000000 in
theorem tJ6_bitCount_0f7a4 (l : Launch) (G : WG) (S0 M0 : St) (p0 : Int32) (rr : Int32) (h : fJ6_bitCount_0f7a4 p0 = some (rr)) : CtI l yJ6_bitCount_0f7a4 wsJ6_bitCount_0f7a4 rJ6_bitCount_0f7a4 G [.int p0] S0 M0 rr S0 M0 := by
  refine Met.ofW (cc := cJ6_bitCount_0f7a4) (maxL := 1) (ret := (some .int)) (by decide) rfl ?_
  intro p e s m args below meth cd s₁ B hml hv
  obtain ⟨hargs, hK, hW⟩ := hv
  have hx := B.exec
  have hb := B.bytes
  have hr := B.returns
  have hts := atoms_spec (ws := wsJ6_bitCount_0f7a4) B.pre
  have hown : s.vm.findClass RJ6 = some m.cls := findClass_of_methodNamed B.named
  have hlocks := B.notSynchronized
  have hA : ∀ q, Aw G q → Aw G q := fun _ h => h
  have hS : va_S (Aw G) s.heap s.heap [] := va_S.rf
  have he0 : entryFrame m args 1 = F0 m 0 ((lg_sl ([.int p0]) ++ List.replicate (1 - (lg_sl ([.int p0])).length) Slot.unset).toArray) [] := by rw [hargs]; exact lg_entry_eq _ _ _
  have hl := lv_entry ([.int p0]) (n := 1) (Nat.le_of_ble_eq_true rfl)
  rw [he0]
  generalize (lg_sl ([.int p0]) ++ List.replicate (1 - (lg_sl ([.int p0])).length) Slot.unset).toArray = ls at hl ⊢
  have hl : lv_has ls 1 [(0, .int p0)] := hl
  unfold fJ6_bitCount_0f7a4 at h
  refine lv_iload_n hx hb dJ6_bitCount_0f7a4_0 rfl (lv_at hl 0 rfl) ?_
  refine lv_iload_n hx hb dJ6_bitCount_0f7a4_1 rfl (lv_at hl 0 rfl) ?_
  refine lv_iconst (v := 1) hx hb dJ6_bitCount_0f7a4_2 (by decide) ?_
  refine lv_iushr hx hb dJ6_bitCount_0f7a4_3 rfl ?_
  refine lv_ldcw hx hb hown (hts _ (List.mem_of_getElem? (i := 1) rfl)) dJ6_bitCount_0f7a4_4 ?_
  refine lv_iand hx hb dJ6_bitCount_0f7a4_7 ?_
  refine lv_isub hx hb dJ6_bitCount_0f7a4_8 ?_
  obtain ⟨x_1, ex_1, h⟩ := nam_e h
  refine lv_ni ex_1 ?_
  refine lv_istore_n (lv' := [(0, .int x_1)]) hx hb dJ6_bitCount_0f7a4_9 rfl hl (by decide) rfl (fun ls hl => ?_)
  refine lv_iload_n hx hb dJ6_bitCount_0f7a4_10 rfl (lv_at hl 0 rfl) ?_
  refine lv_ldcw hx hb hown (hts _ (List.mem_of_getElem? (i := 2) rfl)) dJ6_bitCount_0f7a4_11 ?_
  refine lv_iand hx hb dJ6_bitCount_0f7a4_14 ?_
  refine lv_iload_n hx hb dJ6_bitCount_0f7a4_15 rfl (lv_at hl 0 rfl) ?_
  refine lv_iconst (v := 2) hx hb dJ6_bitCount_0f7a4_16 (by decide) ?_
  refine lv_iushr hx hb dJ6_bitCount_0f7a4_17 rfl ?_
  refine lv_ldcw hx hb hown (hts _ (List.mem_of_getElem? (i := 2) rfl)) dJ6_bitCount_0f7a4_18 ?_
  refine lv_iand hx hb dJ6_bitCount_0f7a4_21 ?_
  refine lv_iadd hx hb dJ6_bitCount_0f7a4_22 ?_
  obtain ⟨x_2, ex_2, h⟩ := nam_e h
  refine lv_ni ex_2 ?_
  refine lv_istore_n (lv' := [(0, .int x_2)]) hx hb dJ6_bitCount_0f7a4_23 rfl hl (by decide) rfl (fun ls hl => ?_)
  refine lv_iload_n hx hb dJ6_bitCount_0f7a4_24 rfl (lv_at hl 0 rfl) ?_
  refine lv_iload_n hx hb dJ6_bitCount_0f7a4_25 rfl (lv_at hl 0 rfl) ?_
  refine lv_iconst (v := 4) hx hb dJ6_bitCount_0f7a4_26 (by decide) ?_
  refine lv_iushr hx hb dJ6_bitCount_0f7a4_27 rfl ?_
  refine lv_iadd hx hb dJ6_bitCount_0f7a4_28 ?_
  refine lv_ldcw hx hb hown (hts _ (List.mem_of_getElem? (i := 3) rfl)) dJ6_bitCount_0f7a4_29 ?_
  refine lv_iand hx hb dJ6_bitCount_0f7a4_32 ?_
  obtain ⟨x_3, ex_3, h⟩ := nam_e h
  refine lv_ni ex_3 ?_
  refine lv_istore_n (lv' := [(0, .int x_3)]) hx hb dJ6_bitCount_0f7a4_33 rfl hl (by decide) rfl (fun ls hl => ?_)
  refine lv_iload_n hx hb dJ6_bitCount_0f7a4_34 rfl (lv_at hl 0 rfl) ?_
  refine lv_iload_n hx hb dJ6_bitCount_0f7a4_35 rfl (lv_at hl 0 rfl) ?_
  refine lv_bipush (v := 8) hx hb dJ6_bitCount_0f7a4_36 (by decide) ?_
  refine lv_iushr hx hb dJ6_bitCount_0f7a4_38 rfl ?_
  refine lv_iadd hx hb dJ6_bitCount_0f7a4_39 ?_
  obtain ⟨x_4, ex_4, h⟩ := nam_e h
  refine lv_ni ex_4 ?_
  refine lv_istore_n (lv' := [(0, .int x_4)]) hx hb dJ6_bitCount_0f7a4_40 rfl hl (by decide) rfl (fun ls hl => ?_)
  refine lv_iload_n hx hb dJ6_bitCount_0f7a4_41 rfl (lv_at hl 0 rfl) ?_
  refine lv_iload_n hx hb dJ6_bitCount_0f7a4_42 rfl (lv_at hl 0 rfl) ?_
  refine lv_bipush (v := 16) hx hb dJ6_bitCount_0f7a4_43 (by decide) ?_
  refine lv_iushr hx hb dJ6_bitCount_0f7a4_45 rfl ?_
  refine lv_iadd hx hb dJ6_bitCount_0f7a4_46 ?_
  obtain ⟨x_5, ex_5, h⟩ := nam_e h
  refine lv_ni ex_5 ?_
  refine lv_istore_n (lv' := [(0, .int x_5)]) hx hb dJ6_bitCount_0f7a4_47 rfl hl (by decide) rfl (fun ls hl => ?_)
  refine lv_iload_n hx hb dJ6_bitCount_0f7a4_48 rfl (lv_at hl 0 rfl) ?_
  refine lv_bipush (v := 63) hx hb dJ6_bitCount_0f7a4_49 (by decide) ?_
  refine lv_iand hx hb dJ6_bitCount_0f7a4_51 ?_
  obtain rfl := Option.some.inj h
  exact W.iret hx hb hr (fun t ht hw => ⟨⟨_, (), rfl, rfl, hW.ret ht⟩, hS.F ht⟩) hS.2.2 dJ6_bitCount_0f7a4_52
abbrev rX3_neighboursOf : Room := { frames := 4, cells := 0, slots := 0, locals := 91 }
set_option maxRecDepth 100000 in
set_option maxHeartbeats 8000000 in
theorem tX3_neighboursOf (l : Launch) (G : WG) (S0 M0 : St) (c : Nat) (hc : c < 7) (p1 : Int32) (rr : Int32) (h : f3_neighboursOf S0 c p1 = some (rr)) : CtI l yX3_neighboursOf wsX3_neighboursOf rX3_neighboursOf G [.ref (gad G (7 + c)), .int p1] S0 M0 rr S0 M0 := by
  refine Met.ofW (cc := cX3_neighboursOf) (maxL := 4) (ret := (some .int)) (by decide) rfl ?_
  intro p e s m args below meth cd s₁ B hml hv
  obtain ⟨hargs, hK, hW⟩ := hv
  have hx := B.exec
  have hb := B.bytes
  have hr := B.returns
  have hts := atoms_spec (ws := wsX3_neighboursOf) B.pre
  have hown : s.vm.findClass RX3 = some m.cls := findClass_of_methodNamed B.named
  have hlocks := B.notSynchronized
  have hA : ∀ q, Aw G q → Aw G q := fun _ h => h
  have hS : va_S (Aw G) s.heap s.heap [] := va_S.rf
  have he0 : entryFrame m args 4 = F0 m 0 ((lg_sl ([.ref (gad G (7 + c)), .int p1]) ++ List.replicate (4 - (lg_sl ([.ref (gad G (7 + c)), .int p1])).length) Slot.unset).toArray) [] := by rw [hargs]; exact lg_entry_eq _ _ _
  have hl := lv_entry ([.ref (gad G (7 + c)), .int p1]) (n := 4) (Nat.le_of_ble_eq_true rfl)
  rw [he0]
  generalize (lg_sl ([.ref (gad G (7 + c)), .int p1]) ++ List.replicate (4 - (lg_sl ([.ref (gad G (7 + c)), .int p1])).length) Slot.unset).toArray = ls at hl ⊢
  have hl : lv_has ls 4 [(0, .ref (gad G (7 + c))), (1, .int p1)] := hl
  have hiX3 : ∀ w ∈ u_ws RX3 TX3 5, w ∈ wsX3_neighboursOf := by decide +kernel
  have B4 : ∀ (n : Nat), ∀ (H : Heap) (locs : List Loc) (_ : WD G S0 M0 H) (_ : va_S (Aw G) s.heap H locs) (ls : Array Slot) (l1 : Int32) (l2 : Int32) (l3 : Int32) (_ : lv_has ls 4 [(0, .ref (gad G (7 + c))), (1, .int l1), (2, .int l2), (3, .int l3)]) (h : f3_neighboursOf_b4 S0 c l1 n l2 l3 = some (rr)), WI p l e (headSpec wsX3_neighboursOf rX3_neighboursOf).room s m args below meth cd G rr S0 M0 H locs (F0 m 4 ls []) := by
    intro n
    induction n with
    | zero => intro H locs hW hS ls l1 l2 l3 hl h; cases (show (none : Option (Int32)) = some _ from h)
    | succ n ih =>
      have B32 : ∀ (H : Heap) (locs : List Loc) (_ : WD G S0 M0 H) (_ : va_S (Aw G) s.heap H locs) (ls : Array Slot) (l1 : Int32) (l2 : Int32) (l3 : Int32) (_ : lv_has ls 4 [(0, .ref (gad G (7 + c))), (1, .int l1), (2, .int l2), (3, .int l3)]) (h : f3_neighboursOf_b32 S0 c (f3_neighboursOf_b4 S0 c l1 n) l1 l2 l3 = some (rr)), WI p l e (headSpec wsX3_neighboursOf rX3_neighboursOf).room s m args below meth cd G rr S0 M0 H locs (F0 m 32 ls []) := by
        intro H locs hW hS ls l1 l2 l3 hl h
        unfold f3_neighboursOf_b32 at h
        refine lv_iinc (v := (l3 + 1)) (lv' := [(3, .int ((l3 + 1))), (0, .ref (gad G (7 + c))), (1, .int l1), (2, .int l2)]) hx hb dX3_neighboursOf_32 hl (k := 3) rfl rfl (by decide) rfl (fun ls hl => ?_)
        refine lv_goto (tgt := 4) hx hb dX3_neighboursOf_35 (by decide) ?_
        exact ih _ _ hW hS ls l1 l2 ((l3 + 1)) (lv_sub hl [1, 2, 3, 0] rfl) h
      intro H locs hW hS ls l1 l2 l3 hl h
      rw [f3_neighboursOf_b4] at h
      refine lv_iload_n hx hb dX3_neighboursOf_4 rfl (lv_at hl 3 rfl) ?_
      refine lv_aload_n hx hb dX3_neighboursOf_5 rfl (lv_at hl 0 rfl) ?_
      refine va_get (D := G.1) (ci := 3) (v := .int (S0.1 (6 * c + 0))) (C := RX3) (T := TX3) (N := 5) hx hb hts hiX3 hown hK.1 hW.1 (7 + c) (lkP (c := c) (by omega)) rfl 4 (by decide) (hts _ (List.mem_of_getElem? (i := 1) rfl)) (fun _ h9 => h9) rfl dX3_neighboursOf_6 ?_
      refine lv_icmp_ge (tgt := 38) hx hb dX3_neighboursOf_9 (by decide) (fun c_1 => ?_) (fun c_1 => ?_)
      · have h := ite_t c_1 h
        refine lv_iload_n hx hb dX3_neighboursOf_38 rfl (lv_at hl 2 rfl) ?_
        refine lv_iload_n hx hb dX3_neighboursOf_39 rfl (lv_at hl 1 rfl) ?_
        obtain ⟨r_2, e_3, h⟩ := bnd_e h
        refine kSN_I (As := [.int l1]) (rest := [.int l2]) ⟨hx, hb, hml, hown, hts⟩ (tX5_markOf l G S0 M0 l1 r_2 e_3) ⟨va_cnB 1 hts gX3_neighboursOf_X5_markOf_n81 rfl rfl rfl (hK.2 _ (List.mem_of_getElem? (i := 15) rfl)) (hts _ (List.mem_of_getElem? (i := 29) rfl)) hdX5_markOf ⟨Nat.le_of_ble_eq_true rfl, Nat.le_of_ble_eq_true rfl⟩, (hts _ (List.mem_of_getElem? (i := 42) rfl)), trivial⟩ hK hW hS hA rfl hl.1 rfl (Nat.le_of_ble_eq_true rfl) dX3_neighboursOf_40 ⟨Nat.zero_le _, Nat.zero_le _⟩ (fun H locs hW hS => ?_)
        refine lv_iconst (v := (-1)) hx hb dX3_neighboursOf_43 (by decide) ?_
        refine lv_ixor hx hb dX3_neighboursOf_44 ?_
        refine lv_iand hx hb dX3_neighboursOf_45 ?_
        obtain ⟨r_4, e_5, h⟩ := bnd_e h
        refine kS_I (As := [.int (((l2 : Int32) &&& ((r_2 : Int32) ^^^ (-1))))]) (rest := []) ⟨hx, hb, hml, hown, hts⟩ (tJ6_bitCount_0f7a4 l G S0 M0 (((l2 : Int32) &&& ((r_2 : Int32) ^^^ (-1)))) r_4 e_5) (va_cwS 1 hts gX3_neighboursOf_J6_bitCount_0f7a4 rfl rfl rfl hdJ6_bitCount_0f7a4 ⟨Nat.le_of_ble_eq_true rfl, Nat.le_of_ble_eq_true rfl⟩) hK hW hS hA rfl hl.1 rfl (Nat.le_of_ble_eq_true rfl) dX3_neighboursOf_46 ⟨Nat.zero_le _, Nat.zero_le _⟩ (fun H locs hW hS => ?_)
        obtain rfl := Option.some.inj h
        exact W.iret hx hb hr (fun t ht hw => ⟨⟨_, (), rfl, rfl, hW.ret ht⟩, hS.F ht⟩) hS.2.2 dX3_neighboursOf_49
      · have h := ite_f c_1 h
        refine lv_aload_n hx hb dX3_neighboursOf_12 rfl (lv_at hl 0 rfl) ?_
        refine va_get (D := G.1) (ci := 3) (v := .ref (gad G (14 + (10 * c + 3)))) (C := RX3) (T := TX3) (N := 5) hx hb hts hiX3 hown hK.1 hW.1 (7 + c) (lkP (c := c) (by omega)) rfl 3 (by decide) (hts _ (List.mem_of_getElem? (i := 2) rfl)) (fun _ h9 => h9) rfl dX3_neighboursOf_13 ?_
        refine lv_iload_n hx hb dX3_neighboursOf_16 rfl (lv_at hl 3 rfl) ?_
        obtain ⟨r_6, e_7, h⟩ := bnd_e h
        refine kV_I (As := [.int l3]) (rest := []) ⟨hx, hb, hml, hown, hts⟩ (tX4_at l G S0 M0 ((10 * c + 3)) (by omega) l3 r_6 e_7) (cwV 1 hts gX3_neighboursOf_X4_at rfl rfl rfl ⟨rfl, hdX4_at⟩ ⟨Nat.le_of_ble_eq_true rfl, Nat.le_of_ble_eq_true rfl⟩) (va_recv hK.1 hW.1 (ci := 4) (q0 := (14 + (10 * c + 3))) rfl (lkR (r := (10 * c + 3)) (by omega))) hK hW hS hA rfl hl.1 rfl (Nat.le_of_ble_eq_true rfl) dX3_neighboursOf_17 ⟨Nat.zero_le _, Nat.zero_le _⟩ (fun H locs hW hS => ?_)
        refine lv_iload_n hx hb dX3_neighboursOf_20 rfl (lv_at hl 1 rfl) ?_
        refine lv_icmp_ne (tgt := 32) hx hb dX3_neighboursOf_21 (by decide) (fun c_8 => ?_) (fun c_8 => ?_)
        · have h := ite_f c_8 h
          exact B32 _ _ hW hS ls l1 l2 l3 (lv_sub hl [0, 1, 2, 3] rfl) h
        · have h := ite_t c_8 h
          refine lv_iload_n hx hb dX3_neighboursOf_24 rfl (lv_at hl 2 rfl) ?_
          refine lv_aload_n hx hb dX3_neighboursOf_25 rfl (lv_at hl 0 rfl) ?_
          refine lv_iload_n hx hb dX3_neighboursOf_26 rfl (lv_at hl 3 rfl) ?_
          obtain ⟨r_9, e_10, h⟩ := bnd_e h
          refine kV_I (As := [.int l3]) (rest := [.int l2]) ⟨hx, hb, hml, hown, hts⟩ (tX3_ownersBeside l G S0 M0 c (by omega) l3 r_9 e_10) (cwV 1 hts gX3_neighboursOf_X3_ownersBeside rfl rfl rfl ⟨rfl, hdX3_ownersBeside⟩ ⟨Nat.le_of_ble_eq_true rfl, Nat.le_of_ble_eq_true rfl⟩) (va_recv hK.1 hW.1 (ci := 3) (q0 := (7 + c)) rfl (lkP (c := c) (by omega))) hK hW hS hA rfl hl.1 rfl (Nat.le_of_ble_eq_true rfl) dX3_neighboursOf_27 ⟨Nat.zero_le _, Nat.zero_le _⟩ (fun H locs hW hS => ?_)
          refine lv_ior hx hb dX3_neighboursOf_30 ?_
          obtain ⟨x_11, ex_11, h⟩ := nam_e h
          refine lv_ni ex_11 ?_
          refine lv_istore_n (lv' := [(2, .int x_11), (0, .ref (gad G (7 + c))), (1, .int l1), (3, .int l3)]) hx hb dX3_neighboursOf_31 rfl hl (by decide) rfl (fun ls hl => ?_)
          exact B32 _ _ hW hS ls l1 x_11 l3 (lv_sub hl [1, 2, 0, 3] rfl) h
  unfold f3_neighboursOf at h
  refine lv_iconst (v := 0) hx hb dX3_neighboursOf_0 (by decide) ?_
  refine lv_istore_n (lv' := [(2, .int 0), (0, .ref (gad G (7 + c))), (1, .int p1)]) hx hb dX3_neighboursOf_1 rfl hl (by decide) rfl (fun ls hl => ?_)
  refine lv_iconst (v := 0) hx hb dX3_neighboursOf_2 (by decide) ?_
  refine lv_istore_n (lv' := [(3, .int 0), (2, .int 0), (0, .ref (gad G (7 + c))), (1, .int p1)]) hx hb dX3_neighboursOf_3 rfl hl (by decide) rfl (fun ls hl => ?_)
  exact B4 fuelN _ _ hW hS ls p1 0 0 (lv_sub hl [2, 3, 1, 0] rfl) h
abbrev rX0_songsOf : Room := { frames := 5, cells := 0, slots := 0, locals := 113 }
set_option maxRecDepth 100000 in
set_option maxHeartbeats 8000000 in
theorem tX0_songsOf (l : Launch) (G : WG) (S0 M0 : St) (c : Nat) (hc : c < 7) (p1 : Int32) (rr : Int32) (h : f0_songsOf S0 c p1 = some (rr)) : CtI l yX0_songsOf wsX0_songsOf rX0_songsOf G [.ref (gad G c), .int p1] S0 M0 rr S0 M0 := by
  refine Met.ofW (cc := cX0_songsOf) (maxL := 4) (ret := (some .int)) (by decide) rfl ?_
  intro p e s m args below meth cd s₁ B hml hv
  obtain ⟨hargs, hK, hW⟩ := hv
  have hx := B.exec
  have hb := B.bytes
  have hr := B.returns
  have hts := atoms_spec (ws := wsX0_songsOf) B.pre
  have hown : s.vm.findClass RX0 = some m.cls := findClass_of_methodNamed B.named
  have hlocks := B.notSynchronized
  have hA : ∀ q, Aw G q → Aw G q := fun _ h => h
  have hS : va_S (Aw G) s.heap s.heap [] := va_S.rf
  have he0 : entryFrame m args 4 = F0 m 0 ((lg_sl ([.ref (gad G c), .int p1]) ++ List.replicate (4 - (lg_sl ([.ref (gad G c), .int p1])).length) Slot.unset).toArray) [] := by rw [hargs]; exact lg_entry_eq _ _ _
  have hl := lv_entry ([.ref (gad G c), .int p1]) (n := 4) (Nat.le_of_ble_eq_true rfl)
  rw [he0]
  generalize (lg_sl ([.ref (gad G c), .int p1]) ++ List.replicate (4 - (lg_sl ([.ref (gad G c), .int p1])).length) Slot.unset).toArray = ls at hl ⊢
  have hl : lv_has ls 4 [(0, .ref (gad G c)), (1, .int p1)] := hl
  have hiX0 : ∀ w ∈ u_ws RX0 TX0 12, w ∈ wsX0_songsOf := by decide +kernel
  have B4 : ∀ (n : Nat), ∀ (H : Heap) (locs : List Loc) (_ : WD G S0 M0 H) (_ : va_S (Aw G) s.heap H locs) (ls : Array Slot) (l1 : Int32) (l2 : Int32) (l3 : Int32) (_ : lv_has ls 4 [(0, .ref (gad G c)), (1, .int l1), (2, .int l2), (3, .int l3)]) (h : f0_songsOf_b4 S0 c l1 n l2 l3 = some (rr)), WI p l e (headSpec wsX0_songsOf rX0_songsOf).room s m args below meth cd G rr S0 M0 H locs (F0 m 4 ls []) := by
    intro n
    induction n with
    | zero => intro H locs hW hS ls l1 l2 l3 hl h; cases (show (none : Option (Int32)) = some _ from h)
    | succ n ih =>
      have B24 : ∀ (H : Heap) (locs : List Loc) (_ : WD G S0 M0 H) (_ : va_S (Aw G) s.heap H locs) (ls : Array Slot) (l1 : Int32) (l2 : Int32) (l3 : Int32) (_ : lv_has ls 4 [(0, .ref (gad G c)), (1, .int l1), (2, .int l2), (3, .int l3)]) (h : f0_songsOf_b24 S0 c (f0_songsOf_b4 S0 c l1 n) l1 l2 l3 = some (rr)), WI p l e (headSpec wsX0_songsOf rX0_songsOf).room s m args below meth cd G rr S0 M0 H locs (F0 m 24 ls []) := by
        intro H locs hW hS ls l1 l2 l3 hl h
        unfold f0_songsOf_b24 at h
        refine lv_iinc (v := (l3 + 1)) (lv' := [(3, .int ((l3 + 1))), (0, .ref (gad G c)), (1, .int l1), (2, .int l2)]) hx hb dX0_songsOf_24 hl (k := 3) rfl rfl (by decide) rfl (fun ls hl => ?_)
        refine lv_goto (tgt := 4) hx hb dX0_songsOf_27 (by decide) ?_
        exact ih _ _ hW hS ls l1 l2 ((l3 + 1)) (lv_sub hl [1, 2, 3, 0] rfl) h
      intro H locs hW hS ls l1 l2 l3 hl h
      rw [f0_songsOf_b4] at h
      refine lv_iload_n hx hb dX0_songsOf_4 rfl (lv_at hl 3 rfl) ?_
      refine lv_aload_n hx hb dX0_songsOf_5 rfl (lv_at hl 0 rfl) ?_
      refine va_get (D := G.1) (ci := 0) (v := .int (S0.1 (6 * c + 2))) (C := RX0) (T := TX0) (N := 12) hx hb hts hiX0 hown hK.1 hW.1 c (lkC (c := c) (by omega)) rfl 8 (by decide) (hts _ (List.mem_of_getElem? (i := 1) rfl)) (fun _ h9 => h9) rfl dX0_songsOf_6 ?_
      refine lv_icmp_ge (tgt := 30) hx hb dX0_songsOf_9 (by decide) (fun c_1 => ?_) (fun c_1 => ?_)
      · have h := ite_t c_1 h
        refine lv_iload_n hx hb dX0_songsOf_30 rfl (lv_at hl 2 rfl) ?_
        obtain rfl := Option.some.inj h
        exact W.iret hx hb hr (fun t ht hw => ⟨⟨_, (), rfl, rfl, hW.ret ht⟩, hS.F ht⟩) hS.2.2 dX0_songsOf_31
      · have h := ite_f c_1 h
        refine lv_aload_n hx hb dX0_songsOf_12 rfl (lv_at hl 0 rfl) ?_
        refine lv_iload_n hx hb dX0_songsOf_13 rfl (lv_at hl 3 rfl) ?_
        obtain ⟨r_2, e_3, h⟩ := bnd_e h
        refine kV_I (As := [.int l3]) (rest := []) ⟨hx, hb, hml, hown, hts⟩ (tX0_ownerOfSong l G S0 M0 c (by omega) l3 r_2 e_3) (cwV 1 hts gX0_songsOf_X0_ownerOfSong rfl rfl rfl ⟨rfl, hdX0_ownerOfSong⟩ ⟨Nat.le_of_ble_eq_true rfl, Nat.le_of_ble_eq_true rfl⟩) (va_recv hK.1 hW.1 (ci := 0) (q0 := c) rfl (lkC (c := c) (by omega))) hK hW hS hA rfl hl.1 rfl (Nat.le_of_ble_eq_true rfl) dX0_songsOf_14 ⟨Nat.zero_le _, Nat.zero_le _⟩ (fun H locs hW hS => ?_)
        refine lv_iload_n hx hb dX0_songsOf_17 rfl (lv_at hl 1 rfl) ?_
        refine lv_icmp_ne (tgt := 24) hx hb dX0_songsOf_18 (by decide) (fun c_4 => ?_) (fun c_4 => ?_)
        · have h := ite_f c_4 h
          exact B24 _ _ hW hS ls l1 l2 l3 (lv_sub hl [0, 1, 2, 3] rfl) h
        · have h := ite_t c_4 h
          refine lv_iinc (v := (l2 + 1)) (lv' := [(2, .int ((l2 + 1))), (0, .ref (gad G c)), (1, .int l1), (3, .int l3)]) hx hb dX0_songsOf_21 hl (k := 2) rfl rfl (by decide) rfl (fun ls hl => ?_)
          exact B24 _ _ hW hS ls l1 ((l2 + 1)) l3 (lv_sub hl [1, 2, 0, 3] rfl) h
  unfold f0_songsOf at h
  refine lv_iconst (v := 0) hx hb dX0_songsOf_0 (by decide) ?_
  refine lv_istore_n (lv' := [(2, .int 0), (0, .ref (gad G c)), (1, .int p1)]) hx hb dX0_songsOf_1 rfl hl (by decide) rfl (fun ls hl => ?_)
  refine lv_iconst (v := 0) hx hb dX0_songsOf_2 (by decide) ?_
  refine lv_istore_n (lv' := [(3, .int 0), (2, .int 0), (0, .ref (gad G c)), (1, .int p1)]) hx hb dX0_songsOf_3 rfl hl (by decide) rfl (fun ls hl => ?_)
  exact B4 fuelN _ _ hW hS ls p1 0 0 (lv_sub hl [2, 3, 1, 0] rfl) h
abbrev rX3_pointsOf : Room := { frames := 1, cells := 0, slots := 0, locals := 21 }
set_option maxRecDepth 100000 in
set_option maxHeartbeats 8000000 in
theorem tX3_pointsOf (l : Launch) (G : WG) (S0 M0 : St) (c : Nat) (hc : c < 7) (p1 : Int32) (rr : Int32) (h : f3_pointsOf S0 c p1 = some (rr)) : CtI l yX3_pointsOf wsX3_pointsOf rX3_pointsOf G [.ref (gad G (7 + c)), .int p1] S0 M0 rr S0 M0 := by
  refine Met.ofW (cc := cX3_pointsOf) (maxL := 4) (ret := (some .int)) (by decide) rfl ?_
  intro p e s m args below meth cd s₁ B hml hv
  obtain ⟨hargs, hK, hW⟩ := hv
  have hx := B.exec
  have hb := B.bytes
  have hr := B.returns
  have hts := atoms_spec (ws := wsX3_pointsOf) B.pre
  have hown : s.vm.findClass RX3 = some m.cls := findClass_of_methodNamed B.named
  have hlocks := B.notSynchronized
  have hA : ∀ q, Aw G q → Aw G q := fun _ h => h
  have hS : va_S (Aw G) s.heap s.heap [] := va_S.rf
  have he0 : entryFrame m args 4 = F0 m 0 ((lg_sl ([.ref (gad G (7 + c)), .int p1]) ++ List.replicate (4 - (lg_sl ([.ref (gad G (7 + c)), .int p1])).length) Slot.unset).toArray) [] := by rw [hargs]; exact lg_entry_eq _ _ _
  have hl := lv_entry ([.ref (gad G (7 + c)), .int p1]) (n := 4) (Nat.le_of_ble_eq_true rfl)
  rw [he0]
  generalize (lg_sl ([.ref (gad G (7 + c)), .int p1]) ++ List.replicate (4 - (lg_sl ([.ref (gad G (7 + c)), .int p1])).length) Slot.unset).toArray = ls at hl ⊢
  have hl : lv_has ls 4 [(0, .ref (gad G (7 + c))), (1, .int p1)] := hl
  have hiX3 : ∀ w ∈ u_ws RX3 TX3 5, w ∈ wsX3_pointsOf := by decide +kernel
  have B4 : ∀ (n : Nat), ∀ (H : Heap) (locs : List Loc) (_ : WD G S0 M0 H) (_ : va_S (Aw G) s.heap H locs) (ls : Array Slot) (l1 : Int32) (l2 : Int32) (l3 : Int32) (_ : lv_has ls 4 [(0, .ref (gad G (7 + c))), (1, .int l1), (2, .int l2), (3, .int l3)]) (h : f3_pointsOf_b4 S0 c l1 n l2 l3 = some (rr)), WI p l e (headSpec wsX3_pointsOf rX3_pointsOf).room s m args below meth cd G rr S0 M0 H locs (F0 m 4 ls []) := by
    intro n
    induction n with
    | zero => intro H locs hW hS ls l1 l2 l3 hl h; cases (show (none : Option (Int32)) = some _ from h)
    | succ n ih =>
      have B50 : ∀ (H : Heap) (locs : List Loc) (_ : WD G S0 M0 H) (_ : va_S (Aw G) s.heap H locs) (ls : Array Slot) (l1 : Int32) (l2 : Int32) (l3 : Int32) (_ : lv_has ls 4 [(0, .ref (gad G (7 + c))), (1, .int l1), (2, .int l2), (3, .int l3)]) (h : f3_pointsOf_b50 S0 c (f3_pointsOf_b4 S0 c l1 n) l1 l2 l3 = some (rr)), WI p l e (headSpec wsX3_pointsOf rX3_pointsOf).room s m args below meth cd G rr S0 M0 H locs (F0 m 50 ls []) := by
        intro H locs hW hS ls l1 l2 l3 hl h
        unfold f3_pointsOf_b50 at h
        refine lv_iinc (v := (l3 + 1)) (lv' := [(3, .int ((l3 + 1))), (0, .ref (gad G (7 + c))), (1, .int l1), (2, .int l2)]) hx hb dX3_pointsOf_50 hl (k := 3) rfl rfl (by decide) rfl (fun ls hl => ?_)
        refine lv_goto (tgt := 4) hx hb dX3_pointsOf_53 (by decide) ?_
        exact ih _ _ hW hS ls l1 l2 ((l3 + 1)) (lv_sub hl [1, 2, 3, 0] rfl) h
      intro H locs hW hS ls l1 l2 l3 hl h
      rw [f3_pointsOf_b4] at h
      refine lv_iload_n hx hb dX3_pointsOf_4 rfl (lv_at hl 3 rfl) ?_
      refine lv_aload_n hx hb dX3_pointsOf_5 rfl (lv_at hl 0 rfl) ?_
      refine va_get (D := G.1) (ci := 3) (v := .int (S0.1 (6 * c + 0))) (C := RX3) (T := TX3) (N := 5) hx hb hts hiX3 hown hK.1 hW.1 (7 + c) (lkP (c := c) (by omega)) rfl 4 (by decide) (hts _ (List.mem_of_getElem? (i := 1) rfl)) (fun _ h9 => h9) rfl dX3_pointsOf_6 ?_
      refine lv_icmp_ge (tgt := 56) hx hb dX3_pointsOf_9 (by decide) (fun c_1 => ?_) (fun c_1 => ?_)
      · have h := ite_t c_1 h
        refine lv_iload_n hx hb dX3_pointsOf_56 rfl (lv_at hl 2 rfl) ?_
        obtain rfl := Option.some.inj h
        exact W.iret hx hb hr (fun t ht hw => ⟨⟨_, (), rfl, rfl, hW.ret ht⟩, hS.F ht⟩) hS.2.2 dX3_pointsOf_57
      · have h := ite_f c_1 h
        refine lv_aload_n hx hb dX3_pointsOf_12 rfl (lv_at hl 0 rfl) ?_
        refine va_get (D := G.1) (ci := 3) (v := .ref (gad G (14 + (10 * c + 3)))) (C := RX3) (T := TX3) (N := 5) hx hb hts hiX3 hown hK.1 hW.1 (7 + c) (lkP (c := c) (by omega)) rfl 3 (by decide) (hts _ (List.mem_of_getElem? (i := 2) rfl)) (fun _ h9 => h9) rfl dX3_pointsOf_13 ?_
        refine lv_iload_n hx hb dX3_pointsOf_16 rfl (lv_at hl 3 rfl) ?_
        obtain ⟨r_2, e_3, h⟩ := bnd_e h
        refine kV_I (As := [.int l3]) (rest := []) ⟨hx, hb, hml, hown, hts⟩ (tX4_at l G S0 M0 ((10 * c + 3)) (by omega) l3 r_2 e_3) (cwV 1 hts gX3_pointsOf_X4_at rfl rfl rfl ⟨rfl, hdX4_at⟩ ⟨Nat.le_of_ble_eq_true rfl, Nat.le_of_ble_eq_true rfl⟩) (va_recv hK.1 hW.1 (ci := 4) (q0 := (14 + (10 * c + 3))) rfl (lkR (r := (10 * c + 3)) (by omega))) hK hW hS hA rfl hl.1 rfl (Nat.le_of_ble_eq_true rfl) dX3_pointsOf_17 ⟨Nat.zero_le _, Nat.zero_le _⟩ (fun H locs hW hS => ?_)
        refine lv_iload_n hx hb dX3_pointsOf_20 rfl (lv_at hl 1 rfl) ?_
        refine lv_icmp_ne (tgt := 50) hx hb dX3_pointsOf_21 (by decide) (fun c_4 => ?_) (fun c_4 => ?_)
        · have h := ite_f c_4 h
          exact B50 _ _ hW hS ls l1 l2 l3 (lv_sub hl [0, 1, 2, 3] rfl) h
        · have h := ite_t c_4 h
          refine lv_iload_n hx hb dX3_pointsOf_24 rfl (lv_at hl 2 rfl) ?_
          refine lv_aload_n hx hb dX3_pointsOf_25 rfl (lv_at hl 0 rfl) ?_
          refine va_get (D := G.1) (ci := 3) (v := .ref (gad G (14 + (10 * c + 2)))) (C := RX3) (T := TX3) (N := 5) hx hb hts hiX3 hown hK.1 hW.1 (7 + c) (lkP (c := c) (by omega)) rfl 2 (by decide) (hts _ (List.mem_of_getElem? (i := 3) rfl)) (fun _ h9 => h9) rfl dX3_pointsOf_26 ?_
          refine lv_iload_n hx hb dX3_pointsOf_29 rfl (lv_at hl 3 rfl) ?_
          obtain ⟨r_5, e_6, h⟩ := bnd_e h
          refine kV_I (As := [.int l3]) (rest := [.int l2]) ⟨hx, hb, hml, hown, hts⟩ (tX4_at l G S0 M0 ((10 * c + 2)) (by omega) l3 r_5 e_6) (cwV 1 hts gX3_pointsOf_X4_at rfl rfl rfl ⟨rfl, hdX4_at⟩ ⟨Nat.le_of_ble_eq_true rfl, Nat.le_of_ble_eq_true rfl⟩) (va_recv hK.1 hW.1 (ci := 4) (q0 := (14 + (10 * c + 2))) rfl (lkR (r := (10 * c + 2)) (by omega))) hK hW hS hA rfl hl.1 rfl (Nat.le_of_ble_eq_true rfl) dX3_pointsOf_30 ⟨Nat.zero_le _, Nat.zero_le _⟩ (fun H locs hW hS => ?_)
          obtain ⟨r_7, e_8, h⟩ := bnd_e h
          refine kSN_I (As := [.int r_5]) (rest := [.int l2]) ⟨hx, hb, hml, hown, hts⟩ (tX5_widthAt l G S0 M0 r_5 r_7 e_8) ⟨va_cnB 1 hts gX3_pointsOf_X5_widthAt_n45 rfl rfl rfl (hK.2 _ (List.mem_of_getElem? (i := 13) rfl)) (hts _ (List.mem_of_getElem? (i := 11) rfl)) hdX5_widthAt ⟨Nat.le_of_ble_eq_true rfl, Nat.le_of_ble_eq_true rfl⟩, (hts _ (List.mem_of_getElem? (i := 10) rfl)), trivial⟩ hK hW hS hA rfl hl.1 rfl (Nat.le_of_ble_eq_true rfl) dX3_pointsOf_33 ⟨Nat.zero_le _, Nat.zero_le _⟩ (fun H locs hW hS => ?_)
          refine lv_aload_n hx hb dX3_pointsOf_36 rfl (lv_at hl 0 rfl) ?_
          refine va_get (D := G.1) (ci := 3) (v := .ref (gad G (14 + (10 * c + 2)))) (C := RX3) (T := TX3) (N := 5) hx hb hts hiX3 hown hK.1 hW.1 (7 + c) (lkP (c := c) (by omega)) rfl 2 (by decide) (hts _ (List.mem_of_getElem? (i := 3) rfl)) (fun _ h9 => h9) rfl dX3_pointsOf_37 ?_
          refine lv_iload_n hx hb dX3_pointsOf_40 rfl (lv_at hl 3 rfl) ?_
          obtain ⟨r_9, e_10, h⟩ := bnd_e h
          refine kV_I (As := [.int l3]) (rest := [.int r_7, .int l2]) ⟨hx, hb, hml, hown, hts⟩ (tX4_at l G S0 M0 ((10 * c + 2)) (by omega) l3 r_9 e_10) (cwV 1 hts gX3_pointsOf_X4_at rfl rfl rfl ⟨rfl, hdX4_at⟩ ⟨Nat.le_of_ble_eq_true rfl, Nat.le_of_ble_eq_true rfl⟩) (va_recv hK.1 hW.1 (ci := 4) (q0 := (14 + (10 * c + 2))) rfl (lkR (r := (10 * c + 2)) (by omega))) hK hW hS hA rfl hl.1 rfl (Nat.le_of_ble_eq_true rfl) dX3_pointsOf_41 ⟨Nat.zero_le _, Nat.zero_le _⟩ (fun H locs hW hS => ?_)
          obtain ⟨r_11, e_12, h⟩ := bnd_e h
          refine kSN_I (As := [.int r_9]) (rest := [.int r_7, .int l2]) ⟨hx, hb, hml, hown, hts⟩ (tX5_heightAt l G S0 M0 r_9 r_11 e_12) ⟨va_cnB 1 hts gX3_pointsOf_X5_heightAt_n48 rfl rfl rfl (hK.2 _ (List.mem_of_getElem? (i := 14) rfl)) (hts _ (List.mem_of_getElem? (i := 11) rfl)) hdX5_heightAt ⟨Nat.le_of_ble_eq_true rfl, Nat.le_of_ble_eq_true rfl⟩, (hts _ (List.mem_of_getElem? (i := 13) rfl)), trivial⟩ hK hW hS hA rfl hl.1 rfl (Nat.le_of_ble_eq_true rfl) dX3_pointsOf_44 ⟨Nat.zero_le _, Nat.zero_le _⟩ (fun H locs hW hS => ?_)
          refine lv_imul hx hb dX3_pointsOf_47 ?_
          refine lv_iadd hx hb dX3_pointsOf_48 ?_
          obtain ⟨x_13, ex_13, h⟩ := nam_e h
          refine lv_ni ex_13 ?_
          refine lv_istore_n (lv' := [(2, .int x_13), (0, .ref (gad G (7 + c))), (1, .int l1), (3, .int l3)]) hx hb dX3_pointsOf_49 rfl hl (by decide) rfl (fun ls hl => ?_)
          exact B50 _ _ hW hS ls l1 x_13 l3 (lv_sub hl [1, 2, 0, 3] rfl) h
  unfold f3_pointsOf at h
  refine lv_iconst (v := 0) hx hb dX3_pointsOf_0 (by decide) ?_
  refine lv_istore_n (lv' := [(2, .int 0), (0, .ref (gad G (7 + c))), (1, .int p1)]) hx hb dX3_pointsOf_1 rfl hl (by decide) rfl (fun ls hl => ?_)
  refine lv_iconst (v := 0) hx hb dX3_pointsOf_2 (by decide) ?_
  refine lv_istore_n (lv' := [(3, .int 0), (2, .int 0), (0, .ref (gad G (7 + c))), (1, .int p1)]) hx hb dX3_pointsOf_3 rfl hl (by decide) rfl (fun ls hl => ?_)
  exact B4 fuelN _ _ hW hS ls p1 0 0 (lv_sub hl [2, 3, 1, 0] rfl) h
abbrev rX5_camper : Room := { frames := 6, cells := 0, slots := 0, locals := 136 }
set_option maxRecDepth 100000 in
set_option maxHeartbeats 8000000 in
theorem tX5_camper (l : Launch) (G : WG) (S0 M0 : St) (p1 : Int32) (p2 : Int32) (rr : Int32) (h : f5_camper S0 p1 p2 = some (rr)) : CtI l yX5_camper wsX5_camper rX5_camper G [.ref (gad G 154), .int p1, .int p2] S0 M0 rr S0 M0 := by
  refine Met.ofW (cc := cX5_camper) (maxL := 3) (ret := (some .int)) (by decide) rfl ?_
  intro p e s m args below meth cd s₁ B hml hv
  obtain ⟨hargs, hK, hW⟩ := hv
  have hx := B.exec
  have hb := B.bytes
  have hr := B.returns
  have hts := atoms_spec (ws := wsX5_camper) B.pre
  have hown : s.vm.findClass RX5 = some m.cls := findClass_of_methodNamed B.named
  have hlocks := B.notSynchronized
  have hA : ∀ q, Aw G q → Aw G q := fun _ h => h
  have hS : va_S (Aw G) s.heap s.heap [] := va_S.rf
  have he0 : entryFrame m args 3 = F0 m 0 ((lg_sl ([.ref (gad G 154), .int p1, .int p2]) ++ List.replicate (3 - (lg_sl ([.ref (gad G 154), .int p1, .int p2])).length) Slot.unset).toArray) [] := by rw [hargs]; exact lg_entry_eq _ _ _
  have hl := lv_entry ([.ref (gad G 154), .int p1, .int p2]) (n := 3) (Nat.le_of_ble_eq_true rfl)
  rw [he0]
  generalize (lg_sl ([.ref (gad G 154), .int p1, .int p2]) ++ List.replicate (3 - (lg_sl ([.ref (gad G 154), .int p1, .int p2])).length) Slot.unset).toArray = ls at hl ⊢
  have hl : lv_has ls 3 [(0, .ref (gad G 154)), (1, .int p1), (2, .int p2)] := hl
  have hiX0 : ∀ w ∈ u_ws RX0 TX0 12, w ∈ wsX5_camper := by decide +kernel
  have hiX5 : ∀ w ∈ u_ws RX5 TX5 6, w ∈ wsX5_camper := by decide +kernel
  unfold f5_camper at h
  refine lv_aload_n hx hb dX5_camper_0 rfl (lv_at hl 0 rfl) ?_
  refine va_get (D := G.1) (ci := 5) (v := .ref (gad G 0)) (C := RX5) (T := TX5) (N := 6) hx hb hts hiX5 hown hK.1 hW.1 154 lkT rfl 0 (by decide) (hts _ (List.mem_of_getElem? (i := 1) rfl)) (fun _ h9 => h9) rfl dX5_camper_1 ?_
  refine lv_iload_n hx hb dX5_camper_4 rfl (lv_at hl 1 rfl) ?_
  obtain ⟨r_1, e_2, h⟩ := bnd_e h
  refine kV_I (As := [.int p1]) (rest := []) ⟨hx, hb, hml, hown, hts⟩ (tX0_isHere l G S0 M0 0 (by omega) p1 r_1 e_2) (cwV 1 hts gX5_camper_X0_isHere rfl rfl rfl ⟨rfl, hdX0_isHere⟩ ⟨Nat.le_of_ble_eq_true rfl, Nat.le_of_ble_eq_true rfl⟩) (va_recv hK.1 hW.1 (ci := 0) (q0 := 0) rfl (lkC (c := 0) (by omega))) hK hW hS hA rfl hl.1 rfl (Nat.le_of_ble_eq_true rfl) dX5_camper_5 ⟨Nat.zero_le _, Nat.zero_le _⟩ (fun H locs hW hS => ?_)
  refine lv_if_ne (tgt := 13) hx hb dX5_camper_8 (by decide) (fun c_3 => ?_) (fun c_3 => ?_)
  · have h := ite_f c_3 h
    refine lv_iload_n hx hb dX5_camper_13 rfl (lv_at hl 2 rfl) ?_
    by_cases c_4 : Int32.toInt p2 < 0 ∨ 6 < Int32.toInt p2
    · have h := ite_t c_4 h
      refine lv_tableOut (tgt := 137) hx hb dX5_camper_14 c_4 (by decide) ?_
      refine lv_bipush (v := (-2)) hx hb dX5_camper_137 (by decide) ?_
      obtain rfl := Option.some.inj h
      exact W.iret hx hb hr (fun t ht hw => ⟨⟨_, (), rfl, rfl, hW.ret ht⟩, hS.F ht⟩) hS.2.2 dX5_camper_139
    · have h := ite_f c_4 h
      by_cases c_5 : (p2 : Int32) = 0
      · have h := ite_t c_5 h
        refine lv_tableIn (off := 42) (tgt := 56) hx hb dX5_camper_14 (by rw [c_5]; decide) (by rw [c_5]; decide) (by rw [c_5]; rfl) (by decide) ?_
        refine lv_aload_n hx hb dX5_camper_56 rfl (lv_at hl 0 rfl) ?_
        refine va_get (D := G.1) (ci := 5) (v := .ref (gad G 0)) (C := RX5) (T := TX5) (N := 6) hx hb hts hiX5 hown hK.1 hW.1 154 lkT rfl 0 (by decide) (hts _ (List.mem_of_getElem? (i := 1) rfl)) (fun _ h9 => h9) rfl dX5_camper_57 ?_
        refine va_getN (D := G.1) (ci := 0) (v := .ref (gad G (14 + (10 * 0 + 4)))) (C := RX0) (T := TX0) (N := 12) hx hb hts hiX0 hown hK.1 hW.1 0 (lkC (c := 0) (by omega)) rfl 1 (by decide) (va_Nw.use rfl (hK.2 _ (List.mem_of_getElem? (i := 2) rfl))) (fun _ h9 => h9) rfl dX5_camper_60 ?_
        refine lv_iload_n hx hb dX5_camper_63 rfl (lv_at hl 1 rfl) ?_
        obtain ⟨r_6, e_7, h⟩ := bnd_e h
        refine kV_I (As := [.int p1]) (rest := []) ⟨hx, hb, hml, hown, hts⟩ (tX4_at l G S0 M0 ((10 * 0 + 4)) (by omega) p1 r_6 e_7) (cwV 1 hts gX5_camper_X4_at rfl rfl rfl ⟨rfl, hdX4_at⟩ ⟨Nat.le_of_ble_eq_true rfl, Nat.le_of_ble_eq_true rfl⟩) (va_recv hK.1 hW.1 (ci := 4) (q0 := (14 + (10 * 0 + 4))) rfl (lkR (r := (10 * 0 + 4)) (by omega))) hK hW hS hA rfl hl.1 rfl (Nat.le_of_ble_eq_true rfl) dX5_camper_64 ⟨Nat.zero_le _, Nat.zero_le _⟩ (fun H locs hW hS => ?_)
        obtain rfl := Option.some.inj h
        exact W.iret hx hb hr (fun t ht hw => ⟨⟨_, (), rfl, rfl, hW.ret ht⟩, hS.F ht⟩) hS.2.2 dX5_camper_67
      · have h := ite_f c_5 h
        by_cases c_8 : (p2 : Int32) = 1
        · have h := ite_t c_8 h
          refine lv_tableIn (off := 54) (tgt := 68) hx hb dX5_camper_14 (by rw [c_8]; decide) (by rw [c_8]; decide) (by rw [c_8]; rfl) (by decide) ?_
          refine lv_aload_n hx hb dX5_camper_68 rfl (lv_at hl 0 rfl) ?_
          refine va_get (D := G.1) (ci := 5) (v := .ref (gad G 0)) (C := RX5) (T := TX5) (N := 6) hx hb hts hiX5 hown hK.1 hW.1 154 lkT rfl 0 (by decide) (hts _ (List.mem_of_getElem? (i := 1) rfl)) (fun _ h9 => h9) rfl dX5_camper_69 ?_
          refine va_getN (D := G.1) (ci := 0) (v := .ref (gad G (14 + (10 * 0 + 5)))) (C := RX0) (T := TX0) (N := 12) hx hb hts hiX0 hown hK.1 hW.1 0 (lkC (c := 0) (by omega)) rfl 2 (by decide) (va_Nw.use rfl (hK.2 _ (List.mem_of_getElem? (i := 3) rfl))) (fun _ h9 => h9) rfl dX5_camper_72 ?_
          refine lv_iload_n hx hb dX5_camper_75 rfl (lv_at hl 1 rfl) ?_
          obtain ⟨r_9, e_10, h⟩ := bnd_e h
          refine kV_I (As := [.int p1]) (rest := []) ⟨hx, hb, hml, hown, hts⟩ (tX4_at l G S0 M0 ((10 * 0 + 5)) (by omega) p1 r_9 e_10) (cwV 1 hts gX5_camper_X4_at rfl rfl rfl ⟨rfl, hdX4_at⟩ ⟨Nat.le_of_ble_eq_true rfl, Nat.le_of_ble_eq_true rfl⟩) (va_recv hK.1 hW.1 (ci := 4) (q0 := (14 + (10 * 0 + 5))) rfl (lkR (r := (10 * 0 + 5)) (by omega))) hK hW hS hA rfl hl.1 rfl (Nat.le_of_ble_eq_true rfl) dX5_camper_76 ⟨Nat.zero_le _, Nat.zero_le _⟩ (fun H locs hW hS => ?_)
          obtain rfl := Option.some.inj h
          exact W.iret hx hb hr (fun t ht hw => ⟨⟨_, (), rfl, rfl, hW.ret ht⟩, hS.F ht⟩) hS.2.2 dX5_camper_79
        · have h := ite_f c_8 h
          by_cases c_11 : (p2 : Int32) = 2
          · have h := ite_t c_11 h
            refine lv_tableIn (off := 66) (tgt := 80) hx hb dX5_camper_14 (by rw [c_11]; decide) (by rw [c_11]; decide) (by rw [c_11]; rfl) (by decide) ?_
            refine lv_aload_n hx hb dX5_camper_80 rfl (lv_at hl 0 rfl) ?_
            refine va_get (D := G.1) (ci := 5) (v := .ref (gad G 0)) (C := RX5) (T := TX5) (N := 6) hx hb hts hiX5 hown hK.1 hW.1 154 lkT rfl 0 (by decide) (hts _ (List.mem_of_getElem? (i := 1) rfl)) (fun _ h9 => h9) rfl dX5_camper_81 ?_
            refine va_getN (D := G.1) (ci := 0) (v := .ref (gad G (7 + 0))) (C := RX0) (T := TX0) (N := 12) hx hb hts hiX0 hown hK.1 hW.1 0 (lkC (c := 0) (by omega)) rfl 0 (by decide) (va_Nw.use rfl (hK.2 _ (List.mem_of_getElem? (i := 1) rfl))) (fun _ h9 => h9) rfl dX5_camper_84 ?_
            refine lv_iload_n hx hb dX5_camper_87 rfl (lv_at hl 1 rfl) ?_
            obtain ⟨r_12, e_13, h⟩ := bnd_e h
            refine kV_I (As := [.int p1]) (rest := []) ⟨hx, hb, hml, hown, hts⟩ (tX3_manyOf l G S0 M0 0 (by omega) p1 r_12 e_13) (cwV 1 hts gX5_camper_X3_manyOf rfl rfl rfl ⟨rfl, hdX3_manyOf⟩ ⟨Nat.le_of_ble_eq_true rfl, Nat.le_of_ble_eq_true rfl⟩) (va_recv hK.1 hW.1 (ci := 3) (q0 := (7 + 0)) rfl (lkP (c := 0) (by omega))) hK hW hS hA rfl hl.1 rfl (Nat.le_of_ble_eq_true rfl) dX5_camper_88 ⟨Nat.zero_le _, Nat.zero_le _⟩ (fun H locs hW hS => ?_)
            obtain rfl := Option.some.inj h
            exact W.iret hx hb hr (fun t ht hw => ⟨⟨_, (), rfl, rfl, hW.ret ht⟩, hS.F ht⟩) hS.2.2 dX5_camper_91
          · have h := ite_f c_11 h
            by_cases c_14 : (p2 : Int32) = 3
            · have h := ite_t c_14 h
              refine lv_tableIn (off := 78) (tgt := 92) hx hb dX5_camper_14 (by rw [c_14]; decide) (by rw [c_14]; decide) (by rw [c_14]; rfl) (by decide) ?_
              refine lv_aload_n hx hb dX5_camper_92 rfl (lv_at hl 0 rfl) ?_
              refine va_get (D := G.1) (ci := 5) (v := .ref (gad G 0)) (C := RX5) (T := TX5) (N := 6) hx hb hts hiX5 hown hK.1 hW.1 154 lkT rfl 0 (by decide) (hts _ (List.mem_of_getElem? (i := 1) rfl)) (fun _ h9 => h9) rfl dX5_camper_93 ?_
              refine va_getN (D := G.1) (ci := 0) (v := .ref (gad G (7 + 0))) (C := RX0) (T := TX0) (N := 12) hx hb hts hiX0 hown hK.1 hW.1 0 (lkC (c := 0) (by omega)) rfl 0 (by decide) (va_Nw.use rfl (hK.2 _ (List.mem_of_getElem? (i := 1) rfl))) (fun _ h9 => h9) rfl dX5_camper_96 ?_
              refine lv_iload_n hx hb dX5_camper_99 rfl (lv_at hl 1 rfl) ?_
              obtain ⟨r_15, e_16, h⟩ := bnd_e h
              refine kV_I (As := [.int p1]) (rest := []) ⟨hx, hb, hml, hown, hts⟩ (tX3_pointsOf l G S0 M0 0 (by omega) p1 r_15 e_16) (cwV 1 hts gX5_camper_X3_pointsOf rfl rfl rfl ⟨rfl, hdX3_pointsOf⟩ ⟨Nat.le_of_ble_eq_true rfl, Nat.le_of_ble_eq_true rfl⟩) (va_recv hK.1 hW.1 (ci := 3) (q0 := (7 + 0)) rfl (lkP (c := 0) (by omega))) hK hW hS hA rfl hl.1 rfl (Nat.le_of_ble_eq_true rfl) dX5_camper_100 ⟨Nat.zero_le _, Nat.zero_le _⟩ (fun H locs hW hS => ?_)
              obtain rfl := Option.some.inj h
              exact W.iret hx hb hr (fun t ht hw => ⟨⟨_, (), rfl, rfl, hW.ret ht⟩, hS.F ht⟩) hS.2.2 dX5_camper_103
            · have h := ite_f c_14 h
              by_cases c_17 : (p2 : Int32) = 4
              · have h := ite_t c_17 h
                refine lv_tableIn (off := 90) (tgt := 104) hx hb dX5_camper_14 (by rw [c_17]; decide) (by rw [c_17]; decide) (by rw [c_17]; rfl) (by decide) ?_
                refine lv_aload_n hx hb dX5_camper_104 rfl (lv_at hl 0 rfl) ?_
                refine va_get (D := G.1) (ci := 5) (v := .ref (gad G 0)) (C := RX5) (T := TX5) (N := 6) hx hb hts hiX5 hown hK.1 hW.1 154 lkT rfl 0 (by decide) (hts _ (List.mem_of_getElem? (i := 1) rfl)) (fun _ h9 => h9) rfl dX5_camper_105 ?_
                refine lv_iload_n hx hb dX5_camper_108 rfl (lv_at hl 1 rfl) ?_
                obtain ⟨r_18, e_19, h⟩ := bnd_e h
                refine kV_I (As := [.int p1]) (rest := []) ⟨hx, hb, hml, hown, hts⟩ (tX0_songsOf l G S0 M0 0 (by omega) p1 r_18 e_19) (cwV 1 hts gX5_camper_X0_songsOf rfl rfl rfl ⟨rfl, hdX0_songsOf⟩ ⟨Nat.le_of_ble_eq_true rfl, Nat.le_of_ble_eq_true rfl⟩) (va_recv hK.1 hW.1 (ci := 0) (q0 := 0) rfl (lkC (c := 0) (by omega))) hK hW hS hA rfl hl.1 rfl (Nat.le_of_ble_eq_true rfl) dX5_camper_109 ⟨Nat.zero_le _, Nat.zero_le _⟩ (fun H locs hW hS => ?_)
                obtain rfl := Option.some.inj h
                exact W.iret hx hb hr (fun t ht hw => ⟨⟨_, (), rfl, rfl, hW.ret ht⟩, hS.F ht⟩) hS.2.2 dX5_camper_112
              · have h := ite_f c_17 h
                by_cases c_20 : (p2 : Int32) = 5
                · have h := ite_t c_20 h
                  refine lv_tableIn (off := 99) (tgt := 113) hx hb dX5_camper_14 (by rw [c_20]; decide) (by rw [c_20]; decide) (by rw [c_20]; rfl) (by decide) ?_
                  refine lv_aload_n hx hb dX5_camper_113 rfl (lv_at hl 0 rfl) ?_
                  refine va_get (D := G.1) (ci := 5) (v := .ref (gad G 0)) (C := RX5) (T := TX5) (N := 6) hx hb hts hiX5 hown hK.1 hW.1 154 lkT rfl 0 (by decide) (hts _ (List.mem_of_getElem? (i := 1) rfl)) (fun _ h9 => h9) rfl dX5_camper_114 ?_
                  refine va_getN (D := G.1) (ci := 0) (v := .ref (gad G (7 + 0))) (C := RX0) (T := TX0) (N := 12) hx hb hts hiX0 hown hK.1 hW.1 0 (lkC (c := 0) (by omega)) rfl 0 (by decide) (va_Nw.use rfl (hK.2 _ (List.mem_of_getElem? (i := 1) rfl))) (fun _ h9 => h9) rfl dX5_camper_117 ?_
                  refine lv_iload_n hx hb dX5_camper_120 rfl (lv_at hl 1 rfl) ?_
                  obtain ⟨r_21, e_22, h⟩ := bnd_e h
                  refine kV_I (As := [.int p1]) (rest := []) ⟨hx, hb, hml, hown, hts⟩ (tX3_neighboursOf l G S0 M0 0 (by omega) p1 r_21 e_22) (cwV 1 hts gX5_camper_X3_neighboursOf rfl rfl rfl ⟨rfl, hdX3_neighboursOf⟩ ⟨Nat.le_of_ble_eq_true rfl, Nat.le_of_ble_eq_true rfl⟩) (va_recv hK.1 hW.1 (ci := 3) (q0 := (7 + 0)) rfl (lkP (c := 0) (by omega))) hK hW hS hA rfl hl.1 rfl (Nat.le_of_ble_eq_true rfl) dX5_camper_121 ⟨Nat.zero_le _, Nat.zero_le _⟩ (fun H locs hW hS => ?_)
                  obtain rfl := Option.some.inj h
                  exact W.iret hx hb hr (fun t ht hw => ⟨⟨_, (), rfl, rfl, hW.ret ht⟩, hS.F ht⟩) hS.2.2 dX5_camper_124
                · have h := ite_f c_20 h
                  by_cases c_23 : (p2 : Int32) = 6
                  · have h := ite_t c_23 h
                    refine lv_tableIn (off := 111) (tgt := 125) hx hb dX5_camper_14 (by rw [c_23]; decide) (by rw [c_23]; decide) (by rw [c_23]; rfl) (by decide) ?_
                    refine lv_aload_n hx hb dX5_camper_125 rfl (lv_at hl 0 rfl) ?_
                    refine va_get (D := G.1) (ci := 5) (v := .ref (gad G 0)) (C := RX5) (T := TX5) (N := 6) hx hb hts hiX5 hown hK.1 hW.1 154 lkT rfl 0 (by decide) (hts _ (List.mem_of_getElem? (i := 1) rfl)) (fun _ h9 => h9) rfl dX5_camper_126 ?_
                    refine lv_iload_n hx hb dX5_camper_129 rfl (lv_at hl 1 rfl) ?_
                    obtain ⟨r_24, e_25, h⟩ := bnd_e h
                    refine kV_F (As := [.int p1]) (rest := []) ⟨hx, hb, hml, hown, hts⟩ (tX0_loudnessOf l G S0 M0 0 (by omega) p1 r_24 e_25) (cwV 1 hts gX5_camper_X0_loudnessOf rfl rfl rfl ⟨rfl, hdX0_loudnessOf⟩ ⟨Nat.le_of_ble_eq_true rfl, Nat.le_of_ble_eq_true rfl⟩) (va_recv hK.1 hW.1 (ci := 0) (q0 := 0) rfl (lkC (c := 0) (by omega))) hK hW hS hA rfl hl.1 rfl (Nat.le_of_ble_eq_true rfl) dX5_camper_130 ⟨Nat.zero_le _, Nat.zero_le _⟩ (fun H locs hW hS => ?_)
                    obtain ⟨r_26, e_27, h⟩ := bnd_e h
                    refine kS_I (As := [.float r_24]) (rest := []) ⟨hx, hb, hml, hown, hts⟩ (tX5_bitsOf l G S0 M0 r_24 r_26 e_27) (va_cwS 1 hts gX5_camper_X5_bitsOf rfl rfl rfl hdX5_bitsOf ⟨Nat.le_of_ble_eq_true rfl, Nat.le_of_ble_eq_true rfl⟩) hK hW hS hA rfl hl.1 rfl (Nat.le_of_ble_eq_true rfl) dX5_camper_133 ⟨Nat.zero_le _, Nat.zero_le _⟩ (fun H locs hW hS => ?_)
                    obtain rfl := Option.some.inj h
                    exact W.iret hx hb hr (fun t ht hw => ⟨⟨_, (), rfl, rfl, hW.ret ht⟩, hS.F ht⟩) hS.2.2 dX5_camper_136
                  · have h := ite_f c_23 h
                    cases h
  · have h := ite_t c_3 h
    refine lv_iconst (v := (-1)) hx hb dX5_camper_11 (by decide) ?_
    obtain rfl := Option.some.inj h
    exact W.iret hx hb hr (fun t ht hw => ⟨⟨_, (), rfl, rfl, hW.ret ht⟩, hS.F ht⟩) hS.2.2 dX5_camper_12
abbrev rX3_isCornerLower : Room := { frames := 1, cells := 0, slots := 0, locals := 21 }
set_option maxRecDepth 100000 in
set_option maxHeartbeats 8000000 in
theorem tX3_isCornerLower (l : Launch) (G : WG) (S0 M0 : St) (c : Nat) (hc : c < 7) (p1 : Int32) (p2 : Int32) (rr : Int32) (h : f3_isCornerLower S0 c p1 p2 = some (rr)) : CtI l yX3_isCornerLower wsX3_isCornerLower rX3_isCornerLower G [.ref (gad G (7 + c)), .int p1, .int p2] S0 M0 rr S0 M0 := by
  refine Met.ofW (cc := cX3_isCornerLower) (maxL := 3) (ret := (some .boolean)) (by decide) rfl ?_
  intro p e s m args below meth cd s₁ B hml hv
  obtain ⟨hargs, hK, hW⟩ := hv
  have hx := B.exec
  have hb := B.bytes
  have hr := B.returns
  have hts := atoms_spec (ws := wsX3_isCornerLower) B.pre
  have hown : s.vm.findClass RX3 = some m.cls := findClass_of_methodNamed B.named
  have hlocks := B.notSynchronized
  have hA : ∀ q, Aw G q → Aw G q := fun _ h => h
  have hS : va_S (Aw G) s.heap s.heap [] := va_S.rf
  have he0 : entryFrame m args 3 = F0 m 0 ((lg_sl ([.ref (gad G (7 + c)), .int p1, .int p2]) ++ List.replicate (3 - (lg_sl ([.ref (gad G (7 + c)), .int p1, .int p2])).length) Slot.unset).toArray) [] := by rw [hargs]; exact lg_entry_eq _ _ _
  have hl := lv_entry ([.ref (gad G (7 + c)), .int p1, .int p2]) (n := 3) (Nat.le_of_ble_eq_true rfl)
  rw [he0]
  generalize (lg_sl ([.ref (gad G (7 + c)), .int p1, .int p2]) ++ List.replicate (3 - (lg_sl ([.ref (gad G (7 + c)), .int p1, .int p2])).length) Slot.unset).toArray = ls at hl ⊢
  have hl : lv_has ls 3 [(0, .ref (gad G (7 + c))), (1, .int p1), (2, .int p2)] := hl
  have hiX3 : ∀ w ∈ u_ws RX3 TX3 5, w ∈ wsX3_isCornerLower := by decide +kernel
  have B43 : ∀ (H : Heap) (locs : List Loc) (_ : WD G S0 M0 H) (_ : va_S (Aw G) s.heap H locs) (ls : Array Slot) (k0 : Int32) (_ : lv_has ls 3 []) (h : f3_isCornerLower_b43 S0 c k0 = some (rr)), WI p l e (headSpec wsX3_isCornerLower rX3_isCornerLower).room s m args below meth cd G rr S0 M0 H locs (F0 m 43 ls [.int k0]) := by
    intro H locs hW hS ls k0 hl h
    unfold f3_isCornerLower_b43 at h
    obtain ⟨z_1, h⟩ := isz_e h
    obtain rfl := Option.some.inj h
    exact W.zret (ty := .boolean) hx hb hr (nz_1 z_1) (fun t ht hw => ⟨⟨_, (), rfl, rfl, hW.ret ht⟩, hS.F ht⟩) hS.2.2 dX3_isCornerLower_43
  have B68 : ∀ (H : Heap) (locs : List Loc) (_ : WD G S0 M0 H) (_ : va_S (Aw G) s.heap H locs) (ls : Array Slot) (k0 : Int32) (_ : lv_has ls 3 []) (h : f3_isCornerLower_b68 S0 c k0 = some (rr)), WI p l e (headSpec wsX3_isCornerLower rX3_isCornerLower).room s m args below meth cd G rr S0 M0 H locs (F0 m 68 ls [.int k0]) := by
    intro H locs hW hS ls k0 hl h
    unfold f3_isCornerLower_b68 at h
    obtain ⟨z_1, h⟩ := isz_e h
    obtain rfl := Option.some.inj h
    exact W.zret (ty := .boolean) hx hb hr (nz_1 z_1) (fun t ht hw => ⟨⟨_, (), rfl, rfl, hW.ret ht⟩, hS.F ht⟩) hS.2.2 dX3_isCornerLower_68
  unfold f3_isCornerLower at h
  refine lv_aload_n hx hb dX3_isCornerLower_0 rfl (lv_at hl 0 rfl) ?_
  refine va_get (D := G.1) (ci := 3) (v := .ref (gad G (14 + (10 * c + 0)))) (C := RX3) (T := TX3) (N := 5) hx hb hts hiX3 hown hK.1 hW.1 (7 + c) (lkP (c := c) (by omega)) rfl 0 (by decide) (hts _ (List.mem_of_getElem? (i := 1) rfl)) (fun _ h9 => h9) rfl dX3_isCornerLower_1 ?_
  refine lv_iload_n hx hb dX3_isCornerLower_4 rfl (lv_at hl 1 rfl) ?_
  obtain ⟨r_1, e_2, h⟩ := bnd_e h
  refine kV_I (As := [.int p1]) (rest := []) ⟨hx, hb, hml, hown, hts⟩ (tX4_at l G S0 M0 ((10 * c + 0)) (by omega) p1 r_1 e_2) (cwV 1 hts gX3_isCornerLower_X4_at rfl rfl rfl ⟨rfl, hdX4_at⟩ ⟨Nat.le_of_ble_eq_true rfl, Nat.le_of_ble_eq_true rfl⟩) (va_recv hK.1 hW.1 (ci := 4) (q0 := (14 + (10 * c + 0))) rfl (lkR (r := (10 * c + 0)) (by omega))) hK hW hS hA rfl hl.1 rfl (Nat.le_of_ble_eq_true rfl) dX3_isCornerLower_5 ⟨Nat.zero_le _, Nat.zero_le _⟩ (fun H locs hW hS => ?_)
  refine lv_aload_n hx hb dX3_isCornerLower_8 rfl (lv_at hl 0 rfl) ?_
  refine va_get (D := G.1) (ci := 3) (v := .ref (gad G (14 + (10 * c + 0)))) (C := RX3) (T := TX3) (N := 5) hx hb hts hiX3 hown hK.1 hW.1 (7 + c) (lkP (c := c) (by omega)) rfl 0 (by decide) (hts _ (List.mem_of_getElem? (i := 1) rfl)) (fun _ h9 => h9) rfl dX3_isCornerLower_9 ?_
  refine lv_iload_n hx hb dX3_isCornerLower_12 rfl (lv_at hl 2 rfl) ?_
  obtain ⟨r_3, e_4, h⟩ := bnd_e h
  refine kV_I (As := [.int p2]) (rest := [.int r_1]) ⟨hx, hb, hml, hown, hts⟩ (tX4_at l G S0 M0 ((10 * c + 0)) (by omega) p2 r_3 e_4) (cwV 1 hts gX3_isCornerLower_X4_at rfl rfl rfl ⟨rfl, hdX4_at⟩ ⟨Nat.le_of_ble_eq_true rfl, Nat.le_of_ble_eq_true rfl⟩) (va_recv hK.1 hW.1 (ci := 4) (q0 := (14 + (10 * c + 0))) rfl (lkR (r := (10 * c + 0)) (by omega))) hK hW hS hA rfl hl.1 rfl (Nat.le_of_ble_eq_true rfl) dX3_isCornerLower_13 ⟨Nat.zero_le _, Nat.zero_le _⟩ (fun H locs hW hS => ?_)
  refine lv_icmp_eq (tgt := 44) hx hb dX3_isCornerLower_16 (by decide) (fun c_5 => ?_) (fun c_5 => ?_)
  · have h := ite_t c_5 h
    refine lv_aload_n hx hb dX3_isCornerLower_44 rfl (lv_at hl 0 rfl) ?_
    refine va_get (D := G.1) (ci := 3) (v := .ref (gad G (14 + (10 * c + 1)))) (C := RX3) (T := TX3) (N := 5) hx hb hts hiX3 hown hK.1 hW.1 (7 + c) (lkP (c := c) (by omega)) rfl 1 (by decide) (hts _ (List.mem_of_getElem? (i := 2) rfl)) (fun _ h9 => h9) rfl dX3_isCornerLower_45 ?_
    refine lv_iload_n hx hb dX3_isCornerLower_48 rfl (lv_at hl 1 rfl) ?_
    obtain ⟨r_6, e_7, h⟩ := bnd_e h
    refine kV_I (As := [.int p1]) (rest := []) ⟨hx, hb, hml, hown, hts⟩ (tX4_at l G S0 M0 ((10 * c + 1)) (by omega) p1 r_6 e_7) (cwV 1 hts gX3_isCornerLower_X4_at rfl rfl rfl ⟨rfl, hdX4_at⟩ ⟨Nat.le_of_ble_eq_true rfl, Nat.le_of_ble_eq_true rfl⟩) (va_recv hK.1 hW.1 (ci := 4) (q0 := (14 + (10 * c + 1))) rfl (lkR (r := (10 * c + 1)) (by omega))) hK hW hS hA rfl hl.1 rfl (Nat.le_of_ble_eq_true rfl) dX3_isCornerLower_49 ⟨Nat.zero_le _, Nat.zero_le _⟩ (fun H locs hW hS => ?_)
    refine lv_aload_n hx hb dX3_isCornerLower_52 rfl (lv_at hl 0 rfl) ?_
    refine va_get (D := G.1) (ci := 3) (v := .ref (gad G (14 + (10 * c + 1)))) (C := RX3) (T := TX3) (N := 5) hx hb hts hiX3 hown hK.1 hW.1 (7 + c) (lkP (c := c) (by omega)) rfl 1 (by decide) (hts _ (List.mem_of_getElem? (i := 2) rfl)) (fun _ h9 => h9) rfl dX3_isCornerLower_53 ?_
    refine lv_iload_n hx hb dX3_isCornerLower_56 rfl (lv_at hl 2 rfl) ?_
    obtain ⟨r_8, e_9, h⟩ := bnd_e h
    refine kV_I (As := [.int p2]) (rest := [.int r_6]) ⟨hx, hb, hml, hown, hts⟩ (tX4_at l G S0 M0 ((10 * c + 1)) (by omega) p2 r_8 e_9) (cwV 1 hts gX3_isCornerLower_X4_at rfl rfl rfl ⟨rfl, hdX4_at⟩ ⟨Nat.le_of_ble_eq_true rfl, Nat.le_of_ble_eq_true rfl⟩) (va_recv hK.1 hW.1 (ci := 4) (q0 := (14 + (10 * c + 1))) rfl (lkR (r := (10 * c + 1)) (by omega))) hK hW hS hA rfl hl.1 rfl (Nat.le_of_ble_eq_true rfl) dX3_isCornerLower_57 ⟨Nat.zero_le _, Nat.zero_le _⟩ (fun H locs hW hS => ?_)
    refine lv_icmp_ge (tgt := 67) hx hb dX3_isCornerLower_60 (by decide) (fun c_10 => ?_) (fun c_10 => ?_)
    · have h := ite_t c_10 h
      refine lv_iconst (v := 0) hx hb dX3_isCornerLower_67 (by decide) ?_
      exact B68 _ _ hW hS ls 0 (lv_sub hl [] rfl) h
    · have h := ite_f c_10 h
      refine lv_iconst (v := 1) hx hb dX3_isCornerLower_63 (by decide) ?_
      refine lv_goto (tgt := 68) hx hb dX3_isCornerLower_64 (by decide) ?_
      exact B68 _ _ hW hS ls 1 (lv_sub hl [] rfl) h
  · have h := ite_f c_5 h
    refine lv_aload_n hx hb dX3_isCornerLower_19 rfl (lv_at hl 0 rfl) ?_
    refine va_get (D := G.1) (ci := 3) (v := .ref (gad G (14 + (10 * c + 0)))) (C := RX3) (T := TX3) (N := 5) hx hb hts hiX3 hown hK.1 hW.1 (7 + c) (lkP (c := c) (by omega)) rfl 0 (by decide) (hts _ (List.mem_of_getElem? (i := 1) rfl)) (fun _ h9 => h9) rfl dX3_isCornerLower_20 ?_
    refine lv_iload_n hx hb dX3_isCornerLower_23 rfl (lv_at hl 1 rfl) ?_
    obtain ⟨r_11, e_12, h⟩ := bnd_e h
    refine kV_I (As := [.int p1]) (rest := []) ⟨hx, hb, hml, hown, hts⟩ (tX4_at l G S0 M0 ((10 * c + 0)) (by omega) p1 r_11 e_12) (cwV 1 hts gX3_isCornerLower_X4_at rfl rfl rfl ⟨rfl, hdX4_at⟩ ⟨Nat.le_of_ble_eq_true rfl, Nat.le_of_ble_eq_true rfl⟩) (va_recv hK.1 hW.1 (ci := 4) (q0 := (14 + (10 * c + 0))) rfl (lkR (r := (10 * c + 0)) (by omega))) hK hW hS hA rfl hl.1 rfl (Nat.le_of_ble_eq_true rfl) dX3_isCornerLower_24 ⟨Nat.zero_le _, Nat.zero_le _⟩ (fun H locs hW hS => ?_)
    refine lv_aload_n hx hb dX3_isCornerLower_27 rfl (lv_at hl 0 rfl) ?_
    refine va_get (D := G.1) (ci := 3) (v := .ref (gad G (14 + (10 * c + 0)))) (C := RX3) (T := TX3) (N := 5) hx hb hts hiX3 hown hK.1 hW.1 (7 + c) (lkP (c := c) (by omega)) rfl 0 (by decide) (hts _ (List.mem_of_getElem? (i := 1) rfl)) (fun _ h9 => h9) rfl dX3_isCornerLower_28 ?_
    refine lv_iload_n hx hb dX3_isCornerLower_31 rfl (lv_at hl 2 rfl) ?_
    obtain ⟨r_13, e_14, h⟩ := bnd_e h
    refine kV_I (As := [.int p2]) (rest := [.int r_11]) ⟨hx, hb, hml, hown, hts⟩ (tX4_at l G S0 M0 ((10 * c + 0)) (by omega) p2 r_13 e_14) (cwV 1 hts gX3_isCornerLower_X4_at rfl rfl rfl ⟨rfl, hdX4_at⟩ ⟨Nat.le_of_ble_eq_true rfl, Nat.le_of_ble_eq_true rfl⟩) (va_recv hK.1 hW.1 (ci := 4) (q0 := (14 + (10 * c + 0))) rfl (lkR (r := (10 * c + 0)) (by omega))) hK hW hS hA rfl hl.1 rfl (Nat.le_of_ble_eq_true rfl) dX3_isCornerLower_32 ⟨Nat.zero_le _, Nat.zero_le _⟩ (fun H locs hW hS => ?_)
    refine lv_icmp_ge (tgt := 42) hx hb dX3_isCornerLower_35 (by decide) (fun c_15 => ?_) (fun c_15 => ?_)
    · have h := ite_t c_15 h
      refine lv_iconst (v := 0) hx hb dX3_isCornerLower_42 (by decide) ?_
      exact B43 _ _ hW hS ls 0 (lv_sub hl [] rfl) h
    · have h := ite_f c_15 h
      refine lv_iconst (v := 1) hx hb dX3_isCornerLower_38 (by decide) ?_
      refine lv_goto (tgt := 43) hx hb dX3_isCornerLower_39 (by decide) ?_
      exact B43 _ _ hW hS ls 1 (lv_sub hl [] rfl) h
abbrev rX3_rankOf : Room := { frames := 2, cells := 0, slots := 0, locals := 43 }
set_option maxRecDepth 100000 in
set_option maxHeartbeats 8000000 in
theorem tX3_rankOf (l : Launch) (G : WG) (S0 M0 : St) (c : Nat) (hc : c < 7) (p1 : Int32) (rr : Int32) (h : f3_rankOf S0 c p1 = some (rr)) : CtI l yX3_rankOf wsX3_rankOf rX3_rankOf G [.ref (gad G (7 + c)), .int p1] S0 M0 rr S0 M0 := by
  refine Met.ofW (cc := cX3_rankOf) (maxL := 4) (ret := (some .int)) (by decide) rfl ?_
  intro p e s m args below meth cd s₁ B hml hv
  obtain ⟨hargs, hK, hW⟩ := hv
  have hx := B.exec
  have hb := B.bytes
  have hr := B.returns
  have hts := atoms_spec (ws := wsX3_rankOf) B.pre
  have hown : s.vm.findClass RX3 = some m.cls := findClass_of_methodNamed B.named
  have hlocks := B.notSynchronized
  have hA : ∀ q, Aw G q → Aw G q := fun _ h => h
  have hS : va_S (Aw G) s.heap s.heap [] := va_S.rf
  have he0 : entryFrame m args 4 = F0 m 0 ((lg_sl ([.ref (gad G (7 + c)), .int p1]) ++ List.replicate (4 - (lg_sl ([.ref (gad G (7 + c)), .int p1])).length) Slot.unset).toArray) [] := by rw [hargs]; exact lg_entry_eq _ _ _
  have hl := lv_entry ([.ref (gad G (7 + c)), .int p1]) (n := 4) (Nat.le_of_ble_eq_true rfl)
  rw [he0]
  generalize (lg_sl ([.ref (gad G (7 + c)), .int p1]) ++ List.replicate (4 - (lg_sl ([.ref (gad G (7 + c)), .int p1])).length) Slot.unset).toArray = ls at hl ⊢
  have hl : lv_has ls 4 [(0, .ref (gad G (7 + c))), (1, .int p1)] := hl
  have hiX3 : ∀ w ∈ u_ws RX3 TX3 5, w ∈ wsX3_rankOf := by decide +kernel
  have B4 : ∀ (n : Nat), ∀ (H : Heap) (locs : List Loc) (_ : WD G S0 M0 H) (_ : va_S (Aw G) s.heap H locs) (ls : Array Slot) (l1 : Int32) (l2 : Int32) (l3 : Int32) (_ : lv_has ls 4 [(0, .ref (gad G (7 + c))), (1, .int l1), (2, .int l2), (3, .int l3)]) (h : f3_rankOf_b4 S0 c l1 n l2 l3 = some (rr)), WI p l e (headSpec wsX3_rankOf rX3_rankOf).room s m args below meth cd G rr S0 M0 H locs (F0 m 4 ls []) := by
    intro n
    induction n with
    | zero => intro H locs hW hS ls l1 l2 l3 hl h; cases (show (none : Option (Int32)) = some _ from h)
    | succ n ih =>
      have B43 : ∀ (H : Heap) (locs : List Loc) (_ : WD G S0 M0 H) (_ : va_S (Aw G) s.heap H locs) (ls : Array Slot) (l1 : Int32) (l2 : Int32) (l3 : Int32) (_ : lv_has ls 4 [(0, .ref (gad G (7 + c))), (1, .int l1), (2, .int l2), (3, .int l3)]) (h : f3_rankOf_b43 S0 c (f3_rankOf_b4 S0 c l1 n) l1 l2 l3 = some (rr)), WI p l e (headSpec wsX3_rankOf rX3_rankOf).room s m args below meth cd G rr S0 M0 H locs (F0 m 43 ls []) := by
        intro H locs hW hS ls l1 l2 l3 hl h
        unfold f3_rankOf_b43 at h
        refine lv_iinc (v := (l3 + 1)) (lv' := [(3, .int ((l3 + 1))), (0, .ref (gad G (7 + c))), (1, .int l1), (2, .int l2)]) hx hb dX3_rankOf_43 hl (k := 3) rfl rfl (by decide) rfl (fun ls hl => ?_)
        refine lv_goto (tgt := 4) hx hb dX3_rankOf_46 (by decide) ?_
        exact ih _ _ hW hS ls l1 l2 ((l3 + 1)) (lv_sub hl [1, 2, 3, 0] rfl) h
      intro H locs hW hS ls l1 l2 l3 hl h
      rw [f3_rankOf_b4] at h
      refine lv_iload_n hx hb dX3_rankOf_4 rfl (lv_at hl 3 rfl) ?_
      refine lv_aload_n hx hb dX3_rankOf_5 rfl (lv_at hl 0 rfl) ?_
      refine va_get (D := G.1) (ci := 3) (v := .int (S0.1 (6 * c + 0))) (C := RX3) (T := TX3) (N := 5) hx hb hts hiX3 hown hK.1 hW.1 (7 + c) (lkP (c := c) (by omega)) rfl 4 (by decide) (hts _ (List.mem_of_getElem? (i := 1) rfl)) (fun _ h9 => h9) rfl dX3_rankOf_6 ?_
      refine lv_icmp_ge (tgt := 49) hx hb dX3_rankOf_9 (by decide) (fun c_1 => ?_) (fun c_1 => ?_)
      · have h := ite_t c_1 h
        refine lv_iload_n hx hb dX3_rankOf_49 rfl (lv_at hl 2 rfl) ?_
        obtain rfl := Option.some.inj h
        exact W.iret hx hb hr (fun t ht hw => ⟨⟨_, (), rfl, rfl, hW.ret ht⟩, hS.F ht⟩) hS.2.2 dX3_rankOf_50
      · have h := ite_f c_1 h
        refine lv_aload_n hx hb dX3_rankOf_12 rfl (lv_at hl 0 rfl) ?_
        refine va_get (D := G.1) (ci := 3) (v := .ref (gad G (14 + (10 * c + 3)))) (C := RX3) (T := TX3) (N := 5) hx hb hts hiX3 hown hK.1 hW.1 (7 + c) (lkP (c := c) (by omega)) rfl 3 (by decide) (hts _ (List.mem_of_getElem? (i := 2) rfl)) (fun _ h9 => h9) rfl dX3_rankOf_13 ?_
        refine lv_iload_n hx hb dX3_rankOf_16 rfl (lv_at hl 3 rfl) ?_
        obtain ⟨r_2, e_3, h⟩ := bnd_e h
        refine kV_I (As := [.int l3]) (rest := []) ⟨hx, hb, hml, hown, hts⟩ (tX4_at l G S0 M0 ((10 * c + 3)) (by omega) l3 r_2 e_3) (cwV 1 hts gX3_rankOf_X4_at rfl rfl rfl ⟨rfl, hdX4_at⟩ ⟨Nat.le_of_ble_eq_true rfl, Nat.le_of_ble_eq_true rfl⟩) (va_recv hK.1 hW.1 (ci := 4) (q0 := (14 + (10 * c + 3))) rfl (lkR (r := (10 * c + 3)) (by omega))) hK hW hS hA rfl hl.1 rfl (Nat.le_of_ble_eq_true rfl) dX3_rankOf_17 ⟨Nat.zero_le _, Nat.zero_le _⟩ (fun H locs hW hS => ?_)
        refine lv_aload_n hx hb dX3_rankOf_20 rfl (lv_at hl 0 rfl) ?_
        refine va_get (D := G.1) (ci := 3) (v := .ref (gad G (14 + (10 * c + 3)))) (C := RX3) (T := TX3) (N := 5) hx hb hts hiX3 hown hK.1 hW.1 (7 + c) (lkP (c := c) (by omega)) rfl 3 (by decide) (hts _ (List.mem_of_getElem? (i := 2) rfl)) (fun _ h9 => h9) rfl dX3_rankOf_21 ?_
        refine lv_iload_n hx hb dX3_rankOf_24 rfl (lv_at hl 1 rfl) ?_
        obtain ⟨r_4, e_5, h⟩ := bnd_e h
        refine kV_I (As := [.int l1]) (rest := [.int r_2]) ⟨hx, hb, hml, hown, hts⟩ (tX4_at l G S0 M0 ((10 * c + 3)) (by omega) l1 r_4 e_5) (cwV 1 hts gX3_rankOf_X4_at rfl rfl rfl ⟨rfl, hdX4_at⟩ ⟨Nat.le_of_ble_eq_true rfl, Nat.le_of_ble_eq_true rfl⟩) (va_recv hK.1 hW.1 (ci := 4) (q0 := (14 + (10 * c + 3))) rfl (lkR (r := (10 * c + 3)) (by omega))) hK hW hS hA rfl hl.1 rfl (Nat.le_of_ble_eq_true rfl) dX3_rankOf_25 ⟨Nat.zero_le _, Nat.zero_le _⟩ (fun H locs hW hS => ?_)
        refine lv_icmp_ne (tgt := 43) hx hb dX3_rankOf_28 (by decide) (fun c_6 => ?_) (fun c_6 => ?_)
        · have h := ite_f c_6 h
          exact B43 _ _ hW hS ls l1 l2 l3 (lv_sub hl [0, 1, 2, 3] rfl) h
        · have h := ite_t c_6 h
          refine lv_aload_n hx hb dX3_rankOf_31 rfl (lv_at hl 0 rfl) ?_
          refine lv_iload_n hx hb dX3_rankOf_32 rfl (lv_at hl 3 rfl) ?_
          refine lv_iload_n hx hb dX3_rankOf_33 rfl (lv_at hl 1 rfl) ?_
          obtain ⟨r_7, e_8, h⟩ := bnd_e h
          refine kV_I (As := [.int l3, .int l1]) (rest := []) ⟨hx, hb, hml, hown, hts⟩ (tX3_isCornerLower l G S0 M0 c (by omega) l3 l1 r_7 e_8) (cwV 2 hts gX3_rankOf_X3_isCornerLower rfl rfl rfl ⟨rfl, hdX3_isCornerLower⟩ ⟨Nat.le_of_ble_eq_true rfl, Nat.le_of_ble_eq_true rfl⟩) (va_recv hK.1 hW.1 (ci := 3) (q0 := (7 + c)) rfl (lkP (c := c) (by omega))) hK hW hS hA rfl hl.1 rfl (Nat.le_of_ble_eq_true rfl) dX3_rankOf_34 ⟨Nat.zero_le _, Nat.zero_le _⟩ (fun H locs hW hS => ?_)
          refine lv_if_eq (tgt := 43) hx hb dX3_rankOf_37 (by decide) (fun c_9 => ?_) (fun c_9 => ?_)
          · have h := ite_t c_9 h
            exact B43 _ _ hW hS ls l1 l2 l3 (lv_sub hl [0, 1, 2, 3] rfl) h
          · have h := ite_f c_9 h
            refine lv_iinc (v := (l2 + 1)) (lv' := [(2, .int ((l2 + 1))), (0, .ref (gad G (7 + c))), (1, .int l1), (3, .int l3)]) hx hb dX3_rankOf_40 hl (k := 2) rfl rfl (by decide) rfl (fun ls hl => ?_)
            exact B43 _ _ hW hS ls l1 ((l2 + 1)) l3 (lv_sub hl [1, 2, 0, 3] rfl) h
  unfold f3_rankOf at h
  refine lv_iconst (v := 0) hx hb dX3_rankOf_0 (by decide) ?_
  refine lv_istore_n (lv' := [(2, .int 0), (0, .ref (gad G (7 + c))), (1, .int p1)]) hx hb dX3_rankOf_1 rfl hl (by decide) rfl (fun ls hl => ?_)
  refine lv_iconst (v := 0) hx hb dX3_rankOf_2 (by decide) ?_
  refine lv_istore_n (lv' := [(3, .int 0), (2, .int 0), (0, .ref (gad G (7 + c))), (1, .int p1)]) hx hb dX3_rankOf_3 rfl hl (by decide) rfl (fun ls hl => ?_)
  exact B4 fuelN _ _ hW hS ls p1 0 0 (lv_sub hl [2, 3, 1, 0] rfl) h
abbrev rX3_ranked : Room := { frames := 3, cells := 0, slots := 0, locals := 66 }
set_option maxRecDepth 100000 in
set_option maxHeartbeats 8000000 in
theorem tX3_ranked (l : Launch) (G : WG) (S0 M0 : St) (c : Nat) (hc : c < 7) (p1 : Int32) (p2 : Int32) (rr : Int32) (h : f3_ranked S0 c p1 p2 = some (rr)) : CtI l yX3_ranked wsX3_ranked rX3_ranked G [.ref (gad G (7 + c)), .int p1, .int p2] S0 M0 rr S0 M0 := by
  refine Met.ofW (cc := cX3_ranked) (maxL := 4) (ret := (some .int)) (by decide) rfl ?_
  intro p e s m args below meth cd s₁ B hml hv
  obtain ⟨hargs, hK, hW⟩ := hv
  have hx := B.exec
  have hb := B.bytes
  have hr := B.returns
  have hts := atoms_spec (ws := wsX3_ranked) B.pre
  have hown : s.vm.findClass RX3 = some m.cls := findClass_of_methodNamed B.named
  have hlocks := B.notSynchronized
  have hA : ∀ q, Aw G q → Aw G q := fun _ h => h
  have hS : va_S (Aw G) s.heap s.heap [] := va_S.rf
  have he0 : entryFrame m args 4 = F0 m 0 ((lg_sl ([.ref (gad G (7 + c)), .int p1, .int p2]) ++ List.replicate (4 - (lg_sl ([.ref (gad G (7 + c)), .int p1, .int p2])).length) Slot.unset).toArray) [] := by rw [hargs]; exact lg_entry_eq _ _ _
  have hl := lv_entry ([.ref (gad G (7 + c)), .int p1, .int p2]) (n := 4) (Nat.le_of_ble_eq_true rfl)
  rw [he0]
  generalize (lg_sl ([.ref (gad G (7 + c)), .int p1, .int p2]) ++ List.replicate (4 - (lg_sl ([.ref (gad G (7 + c)), .int p1, .int p2])).length) Slot.unset).toArray = ls at hl ⊢
  have hl : lv_has ls 4 [(0, .ref (gad G (7 + c))), (1, .int p1), (2, .int p2)] := hl
  have hiX3 : ∀ w ∈ u_ws RX3 TX3 5, w ∈ wsX3_ranked := by decide +kernel
  have B2 : ∀ (n : Nat), ∀ (H : Heap) (locs : List Loc) (_ : WD G S0 M0 H) (_ : va_S (Aw G) s.heap H locs) (ls : Array Slot) (l1 : Int32) (l2 : Int32) (l3 : Int32) (_ : lv_has ls 4 [(0, .ref (gad G (7 + c))), (1, .int l1), (2, .int l2), (3, .int l3)]) (h : f3_ranked_b2 S0 c l1 l2 n l3 = some (rr)), WI p l e (headSpec wsX3_ranked rX3_ranked).room s m args below meth cd G rr S0 M0 H locs (F0 m 2 ls []) := by
    intro n
    induction n with
    | zero => intro H locs hW hS ls l1 l2 l3 hl h; cases (show (none : Option (Int32)) = some _ from h)
    | succ n ih =>
      have B33 : ∀ (H : Heap) (locs : List Loc) (_ : WD G S0 M0 H) (_ : va_S (Aw G) s.heap H locs) (ls : Array Slot) (l1 : Int32) (l2 : Int32) (l3 : Int32) (_ : lv_has ls 4 [(0, .ref (gad G (7 + c))), (1, .int l1), (2, .int l2), (3, .int l3)]) (h : f3_ranked_b33 S0 c (f3_ranked_b2 S0 c l1 l2 n) l1 l2 l3 = some (rr)), WI p l e (headSpec wsX3_ranked rX3_ranked).room s m args below meth cd G rr S0 M0 H locs (F0 m 33 ls []) := by
        intro H locs hW hS ls l1 l2 l3 hl h
        unfold f3_ranked_b33 at h
        refine lv_iinc (v := (l3 + 1)) (lv' := [(3, .int ((l3 + 1))), (0, .ref (gad G (7 + c))), (1, .int l1), (2, .int l2)]) hx hb dX3_ranked_33 hl (k := 3) rfl rfl (by decide) rfl (fun ls hl => ?_)
        refine lv_goto (tgt := 2) hx hb dX3_ranked_36 (by decide) ?_
        exact ih _ _ hW hS ls l1 l2 ((l3 + 1)) (lv_sub hl [1, 2, 3, 0] rfl) h
      intro H locs hW hS ls l1 l2 l3 hl h
      rw [f3_ranked_b2] at h
      refine lv_iload_n hx hb dX3_ranked_2 rfl (lv_at hl 3 rfl) ?_
      refine lv_aload_n hx hb dX3_ranked_3 rfl (lv_at hl 0 rfl) ?_
      refine va_get (D := G.1) (ci := 3) (v := .int (S0.1 (6 * c + 0))) (C := RX3) (T := TX3) (N := 5) hx hb hts hiX3 hown hK.1 hW.1 (7 + c) (lkP (c := c) (by omega)) rfl 4 (by decide) (hts _ (List.mem_of_getElem? (i := 1) rfl)) (fun _ h9 => h9) rfl dX3_ranked_4 ?_
      refine lv_icmp_ge (tgt := 39) hx hb dX3_ranked_7 (by decide) (fun c_1 => ?_) (fun c_1 => ?_)
      · have h := ite_t c_1 h
        refine lv_iconst (v := (-1)) hx hb dX3_ranked_39 (by decide) ?_
        obtain rfl := Option.some.inj h
        exact W.iret hx hb hr (fun t ht hw => ⟨⟨_, (), rfl, rfl, hW.ret ht⟩, hS.F ht⟩) hS.2.2 dX3_ranked_40
      · have h := ite_f c_1 h
        refine lv_aload_n hx hb dX3_ranked_10 rfl (lv_at hl 0 rfl) ?_
        refine va_get (D := G.1) (ci := 3) (v := .ref (gad G (14 + (10 * c + 3)))) (C := RX3) (T := TX3) (N := 5) hx hb hts hiX3 hown hK.1 hW.1 (7 + c) (lkP (c := c) (by omega)) rfl 3 (by decide) (hts _ (List.mem_of_getElem? (i := 2) rfl)) (fun _ h9 => h9) rfl dX3_ranked_11 ?_
        refine lv_iload_n hx hb dX3_ranked_14 rfl (lv_at hl 3 rfl) ?_
        obtain ⟨r_2, e_3, h⟩ := bnd_e h
        refine kV_I (As := [.int l3]) (rest := []) ⟨hx, hb, hml, hown, hts⟩ (tX4_at l G S0 M0 ((10 * c + 3)) (by omega) l3 r_2 e_3) (cwV 1 hts gX3_ranked_X4_at rfl rfl rfl ⟨rfl, hdX4_at⟩ ⟨Nat.le_of_ble_eq_true rfl, Nat.le_of_ble_eq_true rfl⟩) (va_recv hK.1 hW.1 (ci := 4) (q0 := (14 + (10 * c + 3))) rfl (lkR (r := (10 * c + 3)) (by omega))) hK hW hS hA rfl hl.1 rfl (Nat.le_of_ble_eq_true rfl) dX3_ranked_15 ⟨Nat.zero_le _, Nat.zero_le _⟩ (fun H locs hW hS => ?_)
        refine lv_iload_n hx hb dX3_ranked_18 rfl (lv_at hl 1 rfl) ?_
        refine lv_icmp_ne (tgt := 33) hx hb dX3_ranked_19 (by decide) (fun c_4 => ?_) (fun c_4 => ?_)
        · have h := ite_f c_4 h
          exact B33 _ _ hW hS ls l1 l2 l3 (lv_sub hl [0, 1, 2, 3] rfl) h
        · have h := ite_t c_4 h
          refine lv_aload_n hx hb dX3_ranked_22 rfl (lv_at hl 0 rfl) ?_
          refine lv_iload_n hx hb dX3_ranked_23 rfl (lv_at hl 3 rfl) ?_
          obtain ⟨r_5, e_6, h⟩ := bnd_e h
          refine kV_I (As := [.int l3]) (rest := []) ⟨hx, hb, hml, hown, hts⟩ (tX3_rankOf l G S0 M0 c (by omega) l3 r_5 e_6) (cwV 1 hts gX3_ranked_X3_rankOf rfl rfl rfl ⟨rfl, hdX3_rankOf⟩ ⟨Nat.le_of_ble_eq_true rfl, Nat.le_of_ble_eq_true rfl⟩) (va_recv hK.1 hW.1 (ci := 3) (q0 := (7 + c)) rfl (lkP (c := c) (by omega))) hK hW hS hA rfl hl.1 rfl (Nat.le_of_ble_eq_true rfl) dX3_ranked_24 ⟨Nat.zero_le _, Nat.zero_le _⟩ (fun H locs hW hS => ?_)
          refine lv_iload_n hx hb dX3_ranked_27 rfl (lv_at hl 2 rfl) ?_
          refine lv_icmp_ne (tgt := 33) hx hb dX3_ranked_28 (by decide) (fun c_7 => ?_) (fun c_7 => ?_)
          · have h := ite_f c_7 h
            exact B33 _ _ hW hS ls l1 l2 l3 (lv_sub hl [0, 1, 2, 3] rfl) h
          · have h := ite_t c_7 h
            refine lv_iload_n hx hb dX3_ranked_31 rfl (lv_at hl 3 rfl) ?_
            obtain rfl := Option.some.inj h
            exact W.iret hx hb hr (fun t ht hw => ⟨⟨_, (), rfl, rfl, hW.ret ht⟩, hS.F ht⟩) hS.2.2 dX3_ranked_32
  unfold f3_ranked at h
  refine lv_iconst (v := 0) hx hb dX3_ranked_0 (by decide) ?_
  refine lv_istore_n (lv' := [(3, .int 0), (0, .ref (gad G (7 + c))), (1, .int p1), (2, .int p2)]) hx hb dX3_ranked_1 rfl hl (by decide) rfl (fun ls hl => ?_)
  exact B2 fuelN _ _ hW hS ls p1 p2 0 (lv_sub hl [1, 2, 3, 0] rfl) h
abbrev rX3_depthOf : Room := { frames := 1, cells := 0, slots := 0, locals := 21 }
set_option maxRecDepth 100000 in
set_option maxHeartbeats 8000000 in
theorem tX3_depthOf (l : Launch) (G : WG) (S0 M0 : St) (c : Nat) (hc : c < 7) (p1 : Int32) (rr : Int32) (h : f3_depthOf S0 c p1 = some (rr)) : CtI l yX3_depthOf wsX3_depthOf rX3_depthOf G [.ref (gad G (7 + c)), .int p1] S0 M0 rr S0 M0 := by
  refine Met.ofW (cc := cX3_depthOf) (maxL := 2) (ret := (some .int)) (by decide) rfl ?_
  intro p e s m args below meth cd s₁ B hml hv
  obtain ⟨hargs, hK, hW⟩ := hv
  have hx := B.exec
  have hb := B.bytes
  have hr := B.returns
  have hts := atoms_spec (ws := wsX3_depthOf) B.pre
  have hown : s.vm.findClass RX3 = some m.cls := findClass_of_methodNamed B.named
  have hlocks := B.notSynchronized
  have hA : ∀ q, Aw G q → Aw G q := fun _ h => h
  have hS : va_S (Aw G) s.heap s.heap [] := va_S.rf
  have he0 : entryFrame m args 2 = F0 m 0 ((lg_sl ([.ref (gad G (7 + c)), .int p1]) ++ List.replicate (2 - (lg_sl ([.ref (gad G (7 + c)), .int p1])).length) Slot.unset).toArray) [] := by rw [hargs]; exact lg_entry_eq _ _ _
  have hl := lv_entry ([.ref (gad G (7 + c)), .int p1]) (n := 2) (Nat.le_of_ble_eq_true rfl)
  rw [he0]
  generalize (lg_sl ([.ref (gad G (7 + c)), .int p1]) ++ List.replicate (2 - (lg_sl ([.ref (gad G (7 + c)), .int p1])).length) Slot.unset).toArray = ls at hl ⊢
  have hl : lv_has ls 2 [(0, .ref (gad G (7 + c))), (1, .int p1)] := hl
  have hiX3 : ∀ w ∈ u_ws RX3 TX3 5, w ∈ wsX3_depthOf := by decide +kernel
  unfold f3_depthOf at h
  refine lv_aload_n hx hb dX3_depthOf_0 rfl (lv_at hl 0 rfl) ?_
  refine va_get (D := G.1) (ci := 3) (v := .ref (gad G (14 + (10 * c + 2)))) (C := RX3) (T := TX3) (N := 5) hx hb hts hiX3 hown hK.1 hW.1 (7 + c) (lkP (c := c) (by omega)) rfl 2 (by decide) (hts _ (List.mem_of_getElem? (i := 1) rfl)) (fun _ h9 => h9) rfl dX3_depthOf_1 ?_
  refine lv_iload_n hx hb dX3_depthOf_4 rfl (lv_at hl 1 rfl) ?_
  obtain ⟨r_1, e_2, h⟩ := bnd_e h
  refine kV_I (As := [.int p1]) (rest := []) ⟨hx, hb, hml, hown, hts⟩ (tX4_at l G S0 M0 ((10 * c + 2)) (by omega) p1 r_1 e_2) (cwV 1 hts gX3_depthOf_X4_at rfl rfl rfl ⟨rfl, hdX4_at⟩ ⟨Nat.le_of_ble_eq_true rfl, Nat.le_of_ble_eq_true rfl⟩) (va_recv hK.1 hW.1 (ci := 4) (q0 := (14 + (10 * c + 2))) rfl (lkR (r := (10 * c + 2)) (by omega))) hK hW hS hA rfl hl.1 rfl (Nat.le_of_ble_eq_true rfl) dX3_depthOf_5 ⟨Nat.zero_le _, Nat.zero_le _⟩ (fun H locs hW hS => ?_)
  obtain rfl := Option.some.inj h
  exact W.iret hx hb hr (fun t ht hw => ⟨⟨_, (), rfl, rfl, hW.ret ht⟩, hS.F ht⟩) hS.2.2 dX3_depthOf_8
abbrev rX5_plotOf : Room := { frames := 4, cells := 0, slots := 0, locals := 89 }
set_option maxRecDepth 100000 in
set_option maxHeartbeats 8000000 in
theorem tX5_plotOf (l : Launch) (G : WG) (S0 M0 : St) (p1 : Int32) (p2 : Int32) (p3 : Int32) (rr : Int32) (h : f5_plotOf S0 p1 p2 p3 = some (rr)) : CtI l yX5_plotOf wsX5_plotOf rX5_plotOf G [.ref (gad G 154), .int p1, .int p2, .int p3] S0 M0 rr S0 M0 := by
  refine Met.ofW (cc := cX5_plotOf) (maxL := 5) (ret := (some .int)) (by decide) rfl ?_
  intro p e s m args below meth cd s₁ B hml hv
  obtain ⟨hargs, hK, hW⟩ := hv
  have hx := B.exec
  have hb := B.bytes
  have hr := B.returns
  have hts := atoms_spec (ws := wsX5_plotOf) B.pre
  have hown : s.vm.findClass RX5 = some m.cls := findClass_of_methodNamed B.named
  have hlocks := B.notSynchronized
  have hA : ∀ q, Aw G q → Aw G q := fun _ h => h
  have hS : va_S (Aw G) s.heap s.heap [] := va_S.rf
  have he0 : entryFrame m args 5 = F0 m 0 ((lg_sl ([.ref (gad G 154), .int p1, .int p2, .int p3]) ++ List.replicate (5 - (lg_sl ([.ref (gad G 154), .int p1, .int p2, .int p3])).length) Slot.unset).toArray) [] := by rw [hargs]; exact lg_entry_eq _ _ _
  have hl := lv_entry ([.ref (gad G 154), .int p1, .int p2, .int p3]) (n := 5) (Nat.le_of_ble_eq_true rfl)
  rw [he0]
  generalize (lg_sl ([.ref (gad G 154), .int p1, .int p2, .int p3]) ++ List.replicate (5 - (lg_sl ([.ref (gad G 154), .int p1, .int p2, .int p3])).length) Slot.unset).toArray = ls at hl ⊢
  have hl : lv_has ls 5 [(0, .ref (gad G 154)), (1, .int p1), (2, .int p2), (3, .int p3)] := hl
  have hiX0 : ∀ w ∈ u_ws RX0 TX0 12, w ∈ wsX5_plotOf := by decide +kernel
  have hiX5 : ∀ w ∈ u_ws RX5 TX5 6, w ∈ wsX5_plotOf := by decide +kernel
  have B101 : ∀ (H : Heap) (locs : List Loc) (_ : WD G S0 M0 H) (_ : va_S (Aw G) s.heap H locs) (ls : Array Slot) (k0 : Int32) (_ : lv_has ls 5 []) (h : f5_plotOf_b101 S0 k0 = some (rr)), WI p l e (headSpec wsX5_plotOf rX5_plotOf).room s m args below meth cd G rr S0 M0 H locs (F0 m 101 ls [.int k0]) := by
    intro H locs hW hS ls k0 hl h
    unfold f5_plotOf_b101 at h
    obtain rfl := Option.some.inj h
    exact W.iret hx hb hr (fun t ht hw => ⟨⟨_, (), rfl, rfl, hW.ret ht⟩, hS.F ht⟩) hS.2.2 dX5_plotOf_101
  have B26 : ∀ (H : Heap) (locs : List Loc) (_ : WD G S0 M0 H) (_ : va_S (Aw G) s.heap H locs) (ls : Array Slot) (_ : lv_has ls 5 []) (h : f5_plotOf_b26 S0  = some (rr)), WI p l e (headSpec wsX5_plotOf rX5_plotOf).room s m args below meth cd G rr S0 M0 H locs (F0 m 26 ls []) := by
    intro H locs hW hS ls hl h
    unfold f5_plotOf_b26 at h
    refine lv_bipush (v := (-2)) hx hb dX5_plotOf_26 (by decide) ?_
    obtain rfl := Option.some.inj h
    exact W.iret hx hb hr (fun t ht hw => ⟨⟨_, (), rfl, rfl, hW.ret ht⟩, hS.F ht⟩) hS.2.2 dX5_plotOf_28
  unfold f5_plotOf at h
  refine lv_aload_n hx hb dX5_plotOf_0 rfl (lv_at hl 0 rfl) ?_
  refine va_get (D := G.1) (ci := 5) (v := .ref (gad G 0)) (C := RX5) (T := TX5) (N := 6) hx hb hts hiX5 hown hK.1 hW.1 154 lkT rfl 0 (by decide) (hts _ (List.mem_of_getElem? (i := 1) rfl)) (fun _ h9 => h9) rfl dX5_plotOf_1 ?_
  refine lv_iload_n hx hb dX5_plotOf_4 rfl (lv_at hl 1 rfl) ?_
  obtain ⟨r_1, e_2, h⟩ := bnd_e h
  refine kV_I (As := [.int p1]) (rest := []) ⟨hx, hb, hml, hown, hts⟩ (tX0_isHere l G S0 M0 0 (by omega) p1 r_1 e_2) (cwV 1 hts gX5_plotOf_X0_isHere rfl rfl rfl ⟨rfl, hdX0_isHere⟩ ⟨Nat.le_of_ble_eq_true rfl, Nat.le_of_ble_eq_true rfl⟩) (va_recv hK.1 hW.1 (ci := 0) (q0 := 0) rfl (lkC (c := 0) (by omega))) hK hW hS hA rfl hl.1 rfl (Nat.le_of_ble_eq_true rfl) dX5_plotOf_5 ⟨Nat.zero_le _, Nat.zero_le _⟩ (fun H locs hW hS => ?_)
  refine lv_if_ne (tgt := 13) hx hb dX5_plotOf_8 (by decide) (fun c_3 => ?_) (fun c_3 => ?_)
  · have h := ite_f c_3 h
    refine lv_iload_n hx hb dX5_plotOf_13 rfl (lv_at hl 2 rfl) ?_
    refine lv_if_lt (tgt := 26) hx hb dX5_plotOf_14 (by decide) (fun c_4 => ?_) (fun c_4 => ?_)
    · have h := ite_t c_4 h
      exact B26 _ _ hW hS ls (lv_sub hl [] rfl) h
    · have h := ite_f c_4 h
      refine lv_iload_n hx hb dX5_plotOf_17 rfl (lv_at hl 3 rfl) ?_
      refine lv_if_lt (tgt := 26) hx hb dX5_plotOf_18 (by decide) (fun c_5 => ?_) (fun c_5 => ?_)
      · have h := ite_t c_5 h
        exact B26 _ _ hW hS ls (lv_sub hl [] rfl) h
      · have h := ite_f c_5 h
        refine lv_iload_n hx hb dX5_plotOf_21 rfl (lv_at hl 3 rfl) ?_
        refine lv_iconst (v := 2) hx hb dX5_plotOf_22 (by decide) ?_
        refine lv_icmp_le (tgt := 29) hx hb dX5_plotOf_23 (by decide) (fun c_6 => ?_) (fun c_6 => ?_)
        · have h := ite_t c_6 h
          refine lv_aload_n hx hb dX5_plotOf_29 rfl (lv_at hl 0 rfl) ?_
          refine va_get (D := G.1) (ci := 5) (v := .ref (gad G 0)) (C := RX5) (T := TX5) (N := 6) hx hb hts hiX5 hown hK.1 hW.1 154 lkT rfl 0 (by decide) (hts _ (List.mem_of_getElem? (i := 1) rfl)) (fun _ h9 => h9) rfl dX5_plotOf_30 ?_
          refine va_getN (D := G.1) (ci := 0) (v := .ref (gad G (7 + 0))) (C := RX0) (T := TX0) (N := 12) hx hb hts hiX0 hown hK.1 hW.1 0 (lkC (c := 0) (by omega)) rfl 0 (by decide) (va_Nw.use rfl (hK.2 _ (List.mem_of_getElem? (i := 1) rfl))) (fun _ h9 => h9) rfl dX5_plotOf_33 ?_
          refine lv_iload_n hx hb dX5_plotOf_36 rfl (lv_at hl 1 rfl) ?_
          refine lv_iload_n hx hb dX5_plotOf_37 rfl (lv_at hl 2 rfl) ?_
          obtain ⟨r_7, e_8, h⟩ := bnd_e h
          refine kV_I (As := [.int p1, .int p2]) (rest := []) ⟨hx, hb, hml, hown, hts⟩ (tX3_ranked l G S0 M0 0 (by omega) p1 p2 r_7 e_8) (cwV 2 hts gX5_plotOf_X3_ranked rfl rfl rfl ⟨rfl, hdX3_ranked⟩ ⟨Nat.le_of_ble_eq_true rfl, Nat.le_of_ble_eq_true rfl⟩) (va_recv hK.1 hW.1 (ci := 3) (q0 := (7 + 0)) rfl (lkP (c := 0) (by omega))) hK hW hS hA rfl hl.1 rfl (Nat.le_of_ble_eq_true rfl) dX5_plotOf_38 ⟨Nat.zero_le _, Nat.zero_le _⟩ (fun H locs hW hS => ?_)
          refine lv_istore (lv' := [(4, .int r_7), (0, .ref (gad G 154)), (1, .int p1), (2, .int p2), (3, .int p3)]) hx hb dX5_plotOf_41 hl (by decide) rfl (fun ls hl => ?_)
          refine lv_iload hx hb dX5_plotOf_43 (lv_at hl 0 rfl) ?_
          refine lv_iconst (v := (-1)) hx hb dX5_plotOf_45 (by decide) ?_
          refine lv_icmp_ne (tgt := 52) hx hb dX5_plotOf_46 (by decide) (fun c_9 => ?_) (fun c_9 => ?_)
          · have h := ite_f c_9 h
            refine lv_iload_n hx hb dX5_plotOf_52 rfl (lv_at hl 4 rfl) ?_
            refine lv_if_ne (tgt := 69) hx hb dX5_plotOf_53 (by decide) (fun c_10 => ?_) (fun c_10 => ?_)
            · have h := ite_f c_10 h
              refine lv_iload_n hx hb dX5_plotOf_69 rfl (lv_at hl 4 rfl) ?_
              refine lv_iconst (v := 1) hx hb dX5_plotOf_70 (by decide) ?_
              refine lv_icmp_ne (tgt := 89) hx hb dX5_plotOf_71 (by decide) (fun c_11 => ?_) (fun c_11 => ?_)
              · have h := ite_f c_11 h
                refine lv_aload_n hx hb dX5_plotOf_89 rfl (lv_at hl 1 rfl) ?_
                refine va_get (D := G.1) (ci := 5) (v := .ref (gad G 0)) (C := RX5) (T := TX5) (N := 6) hx hb hts hiX5 hown hK.1 hW.1 154 lkT rfl 0 (by decide) (hts _ (List.mem_of_getElem? (i := 1) rfl)) (fun _ h9 => h9) rfl dX5_plotOf_90 ?_
                refine va_getN (D := G.1) (ci := 0) (v := .ref (gad G (7 + 0))) (C := RX0) (T := TX0) (N := 12) hx hb hts hiX0 hown hK.1 hW.1 0 (lkC (c := 0) (by omega)) rfl 0 (by decide) (va_Nw.use rfl (hK.2 _ (List.mem_of_getElem? (i := 1) rfl))) (fun _ h9 => h9) rfl dX5_plotOf_93 ?_
                refine lv_iload hx hb dX5_plotOf_96 (lv_at hl 0 rfl) ?_
                obtain ⟨r_12, e_13, h⟩ := bnd_e h
                refine kV_I (As := [.int r_7]) (rest := []) ⟨hx, hb, hml, hown, hts⟩ (tX3_depthOf l G S0 M0 0 (by omega) r_7 r_12 e_13) (cwV 1 hts gX5_plotOf_X3_depthOf rfl rfl rfl ⟨rfl, hdX3_depthOf⟩ ⟨Nat.le_of_ble_eq_true rfl, Nat.le_of_ble_eq_true rfl⟩) (va_recv hK.1 hW.1 (ci := 3) (q0 := (7 + 0)) rfl (lkP (c := 0) (by omega))) hK hW hS hA rfl hl.1 rfl (Nat.le_of_ble_eq_true rfl) dX5_plotOf_98 ⟨Nat.zero_le _, Nat.zero_le _⟩ (fun H locs hW hS => ?_)
                exact B101 _ _ hW hS ls r_12 (lv_sub hl [] rfl) h
              · have h := ite_t c_11 h
                refine lv_aload_n hx hb dX5_plotOf_74 rfl (lv_at hl 1 rfl) ?_
                refine va_get (D := G.1) (ci := 5) (v := .ref (gad G 0)) (C := RX5) (T := TX5) (N := 6) hx hb hts hiX5 hown hK.1 hW.1 154 lkT rfl 0 (by decide) (hts _ (List.mem_of_getElem? (i := 1) rfl)) (fun _ h9 => h9) rfl dX5_plotOf_75 ?_
                refine va_getN (D := G.1) (ci := 0) (v := .ref (gad G (7 + 0))) (C := RX0) (T := TX0) (N := 12) hx hb hts hiX0 hown hK.1 hW.1 0 (lkC (c := 0) (by omega)) rfl 0 (by decide) (va_Nw.use rfl (hK.2 _ (List.mem_of_getElem? (i := 1) rfl))) (fun _ h9 => h9) rfl dX5_plotOf_78 ?_
                refine lv_iload hx hb dX5_plotOf_81 (lv_at hl 0 rfl) ?_
                obtain ⟨r_14, e_15, h⟩ := bnd_e h
                refine kV_I (As := [.int r_7]) (rest := []) ⟨hx, hb, hml, hown, hts⟩ (tX3_y0Of l G S0 M0 0 (by omega) r_7 r_14 e_15) (cwV 1 hts gX5_plotOf_X3_y0Of rfl rfl rfl ⟨rfl, hdX3_y0Of⟩ ⟨Nat.le_of_ble_eq_true rfl, Nat.le_of_ble_eq_true rfl⟩) (va_recv hK.1 hW.1 (ci := 3) (q0 := (7 + 0)) rfl (lkP (c := 0) (by omega))) hK hW hS hA rfl hl.1 rfl (Nat.le_of_ble_eq_true rfl) dX5_plotOf_83 ⟨Nat.zero_le _, Nat.zero_le _⟩ (fun H locs hW hS => ?_)
                refine lv_goto (tgt := 101) hx hb dX5_plotOf_86 (by decide) ?_
                exact B101 _ _ hW hS ls r_14 (lv_sub hl [] rfl) h
            · have h := ite_t c_10 h
              refine lv_aload_n hx hb dX5_plotOf_56 rfl (lv_at hl 1 rfl) ?_
              refine va_get (D := G.1) (ci := 5) (v := .ref (gad G 0)) (C := RX5) (T := TX5) (N := 6) hx hb hts hiX5 hown hK.1 hW.1 154 lkT rfl 0 (by decide) (hts _ (List.mem_of_getElem? (i := 1) rfl)) (fun _ h9 => h9) rfl dX5_plotOf_57 ?_
              refine va_getN (D := G.1) (ci := 0) (v := .ref (gad G (7 + 0))) (C := RX0) (T := TX0) (N := 12) hx hb hts hiX0 hown hK.1 hW.1 0 (lkC (c := 0) (by omega)) rfl 0 (by decide) (va_Nw.use rfl (hK.2 _ (List.mem_of_getElem? (i := 1) rfl))) (fun _ h9 => h9) rfl dX5_plotOf_60 ?_
              refine lv_iload hx hb dX5_plotOf_63 (lv_at hl 0 rfl) ?_
              obtain ⟨r_16, e_17, h⟩ := bnd_e h
              refine kV_I (As := [.int r_7]) (rest := []) ⟨hx, hb, hml, hown, hts⟩ (tX3_x0Of l G S0 M0 0 (by omega) r_7 r_16 e_17) (cwV 1 hts gX5_plotOf_X3_x0Of rfl rfl rfl ⟨rfl, hdX3_x0Of⟩ ⟨Nat.le_of_ble_eq_true rfl, Nat.le_of_ble_eq_true rfl⟩) (va_recv hK.1 hW.1 (ci := 3) (q0 := (7 + 0)) rfl (lkP (c := 0) (by omega))) hK hW hS hA rfl hl.1 rfl (Nat.le_of_ble_eq_true rfl) dX5_plotOf_65 ⟨Nat.zero_le _, Nat.zero_le _⟩ (fun H locs hW hS => ?_)
              obtain rfl := Option.some.inj h
              exact W.iret hx hb hr (fun t ht hw => ⟨⟨_, (), rfl, rfl, hW.ret ht⟩, hS.F ht⟩) hS.2.2 dX5_plotOf_68
          · have h := ite_t c_9 h
            refine lv_bipush (v := (-5)) hx hb dX5_plotOf_49 (by decide) ?_
            obtain rfl := Option.some.inj h
            exact W.iret hx hb hr (fun t ht hw => ⟨⟨_, (), rfl, rfl, hW.ret ht⟩, hS.F ht⟩) hS.2.2 dX5_plotOf_51
        · have h := ite_f c_6 h
          exact B26 _ _ hW hS ls (lv_sub hl [] rfl) h
  · have h := ite_t c_3 h
    refine lv_iconst (v := (-1)) hx hb dX5_plotOf_11 (by decide) ?_
    obtain rfl := Option.some.inj h
    exact W.iret hx hb hr (fun t ht hw => ⟨⟨_, (), rfl, rfl, hW.ret ht⟩, hS.F ht⟩) hS.2.2 dX5_plotOf_12
abbrev rX0_isSong : Room := { frames := 0, cells := 0, slots := 0, locals := 0 }
set_option maxRecDepth 100000 in
set_option maxHeartbeats 8000000 in
theorem tX0_isSong (l : Launch) (G : WG) (S0 M0 : St) (c : Nat) (hc : c < 7) (p1 : Int32) (rr : Int32) (h : f0_isSong S0 c p1 = some (rr)) : CtI l yX0_isSong wsX0_isSong rX0_isSong G [.ref (gad G c), .int p1] S0 M0 rr S0 M0 := by
  refine Met.ofW (cc := cX0_isSong) (maxL := 2) (ret := (some .boolean)) (by decide) rfl ?_
  intro p e s m args below meth cd s₁ B hml hv
  obtain ⟨hargs, hK, hW⟩ := hv
  have hx := B.exec
  have hb := B.bytes
  have hr := B.returns
  have hts := atoms_spec (ws := wsX0_isSong) B.pre
  have hown : s.vm.findClass RX0 = some m.cls := findClass_of_methodNamed B.named
  have hlocks := B.notSynchronized
  have hA : ∀ q, Aw G q → Aw G q := fun _ h => h
  have hS : va_S (Aw G) s.heap s.heap [] := va_S.rf
  have he0 : entryFrame m args 2 = F0 m 0 ((lg_sl ([.ref (gad G c), .int p1]) ++ List.replicate (2 - (lg_sl ([.ref (gad G c), .int p1])).length) Slot.unset).toArray) [] := by rw [hargs]; exact lg_entry_eq _ _ _
  have hl := lv_entry ([.ref (gad G c), .int p1]) (n := 2) (Nat.le_of_ble_eq_true rfl)
  rw [he0]
  generalize (lg_sl ([.ref (gad G c), .int p1]) ++ List.replicate (2 - (lg_sl ([.ref (gad G c), .int p1])).length) Slot.unset).toArray = ls at hl ⊢
  have hl : lv_has ls 2 [(0, .ref (gad G c)), (1, .int p1)] := hl
  have hiX0 : ∀ w ∈ u_ws RX0 TX0 12, w ∈ wsX0_isSong := by decide +kernel
  have B17 : ∀ (H : Heap) (locs : List Loc) (_ : WD G S0 M0 H) (_ : va_S (Aw G) s.heap H locs) (ls : Array Slot) (k0 : Int32) (_ : lv_has ls 2 []) (h : f0_isSong_b17 S0 c k0 = some (rr)), WI p l e (headSpec wsX0_isSong rX0_isSong).room s m args below meth cd G rr S0 M0 H locs (F0 m 17 ls [.int k0]) := by
    intro H locs hW hS ls k0 hl h
    unfold f0_isSong_b17 at h
    obtain ⟨z_1, h⟩ := isz_e h
    obtain rfl := Option.some.inj h
    exact W.zret (ty := .boolean) hx hb hr (nz_1 z_1) (fun t ht hw => ⟨⟨_, (), rfl, rfl, hW.ret ht⟩, hS.F ht⟩) hS.2.2 dX0_isSong_17
  have B16 : ∀ (H : Heap) (locs : List Loc) (_ : WD G S0 M0 H) (_ : va_S (Aw G) s.heap H locs) (ls : Array Slot) (_ : lv_has ls 2 []) (h : f0_isSong_b16 S0 c  = some (rr)), WI p l e (headSpec wsX0_isSong rX0_isSong).room s m args below meth cd G rr S0 M0 H locs (F0 m 16 ls []) := by
    intro H locs hW hS ls hl h
    unfold f0_isSong_b16 at h
    refine lv_iconst (v := 0) hx hb dX0_isSong_16 (by decide) ?_
    exact B17 _ _ hW hS ls 0 (lv_sub hl [] rfl) h
  unfold f0_isSong at h
  refine lv_iload_n hx hb dX0_isSong_0 rfl (lv_at hl 1 rfl) ?_
  refine lv_if_lt (tgt := 16) hx hb dX0_isSong_1 (by decide) (fun c_1 => ?_) (fun c_1 => ?_)
  · have h := ite_t c_1 h
    exact B16 _ _ hW hS ls (lv_sub hl [] rfl) h
  · have h := ite_f c_1 h
    refine lv_iload_n hx hb dX0_isSong_4 rfl (lv_at hl 1 rfl) ?_
    refine lv_aload_n hx hb dX0_isSong_5 rfl (lv_at hl 0 rfl) ?_
    refine va_get (D := G.1) (ci := 0) (v := .int (S0.1 (6 * c + 2))) (C := RX0) (T := TX0) (N := 12) hx hb hts hiX0 hown hK.1 hW.1 c (lkC (c := c) (by omega)) rfl 8 (by decide) (hts _ (List.mem_of_getElem? (i := 1) rfl)) (fun _ h9 => h9) rfl dX0_isSong_6 ?_
    refine lv_icmp_ge (tgt := 16) hx hb dX0_isSong_9 (by decide) (fun c_2 => ?_) (fun c_2 => ?_)
    · have h := ite_t c_2 h
      exact B16 _ _ hW hS ls (lv_sub hl [] rfl) h
    · have h := ite_f c_2 h
      refine lv_iconst (v := 1) hx hb dX0_isSong_12 (by decide) ?_
      refine lv_goto (tgt := 17) hx hb dX0_isSong_13 (by decide) ?_
      exact B17 _ _ hW hS ls 1 (lv_sub hl [] rfl) h
abbrev rX5_toldOwnerOf : Room := { frames := 5, cells := 0, slots := 0, locals := 113 }
set_option maxRecDepth 100000 in
set_option maxHeartbeats 8000000 in
theorem tX5_toldOwnerOf (l : Launch) (G : WG) (S0 M0 : St) (p1 : Int32) (rr : Int32) (h : f5_toldOwnerOf S0 p1 = some (rr)) : CtI l yX5_toldOwnerOf wsX5_toldOwnerOf rX5_toldOwnerOf G [.ref (gad G 154), .int p1] S0 M0 rr S0 M0 := by
  refine Met.ofW (cc := cX5_toldOwnerOf) (maxL := 3) (ret := (some .int)) (by decide) rfl ?_
  intro p e s m args below meth cd s₁ B hml hv
  obtain ⟨hargs, hK, hW⟩ := hv
  have hx := B.exec
  have hb := B.bytes
  have hr := B.returns
  have hts := atoms_spec (ws := wsX5_toldOwnerOf) B.pre
  have hown : s.vm.findClass RX5 = some m.cls := findClass_of_methodNamed B.named
  have hlocks := B.notSynchronized
  have hA : ∀ q, Aw G q → Aw G q := fun _ h => h
  have hS : va_S (Aw G) s.heap s.heap [] := va_S.rf
  have he0 : entryFrame m args 3 = F0 m 0 ((lg_sl ([.ref (gad G 154), .int p1]) ++ List.replicate (3 - (lg_sl ([.ref (gad G 154), .int p1])).length) Slot.unset).toArray) [] := by rw [hargs]; exact lg_entry_eq _ _ _
  have hl := lv_entry ([.ref (gad G 154), .int p1]) (n := 3) (Nat.le_of_ble_eq_true rfl)
  rw [he0]
  generalize (lg_sl ([.ref (gad G 154), .int p1]) ++ List.replicate (3 - (lg_sl ([.ref (gad G 154), .int p1])).length) Slot.unset).toArray = ls at hl ⊢
  have hl : lv_has ls 3 [(0, .ref (gad G 154)), (1, .int p1)] := hl
  have hiX5 : ∀ w ∈ u_ws RX5 TX5 6, w ∈ wsX5_toldOwnerOf := by decide +kernel
  have B20 : ∀ (H : Heap) (locs : List Loc) (_ : WD G S0 M0 H) (_ : va_S (Aw G) s.heap H locs) (ls : Array Slot) (k0 : Int32) (_ : lv_has ls 3 []) (h : f5_toldOwnerOf_b20 S0 k0 = some (rr)), WI p l e (headSpec wsX5_toldOwnerOf rX5_toldOwnerOf).room s m args below meth cd G rr S0 M0 H locs (F0 m 20 ls [.int k0]) := by
    intro H locs hW hS ls k0 hl h
    unfold f5_toldOwnerOf_b20 at h
    obtain rfl := Option.some.inj h
    exact W.iret hx hb hr (fun t ht hw => ⟨⟨_, (), rfl, rfl, hW.ret ht⟩, hS.F ht⟩) hS.2.2 dX5_toldOwnerOf_20
  unfold f5_toldOwnerOf at h
  refine lv_aload_n hx hb dX5_toldOwnerOf_0 rfl (lv_at hl 0 rfl) ?_
  refine va_get (D := G.1) (ci := 5) (v := .ref (gad G 0)) (C := RX5) (T := TX5) (N := 6) hx hb hts hiX5 hown hK.1 hW.1 154 lkT rfl 0 (by decide) (hts _ (List.mem_of_getElem? (i := 1) rfl)) (fun _ h9 => h9) rfl dX5_toldOwnerOf_1 ?_
  refine lv_iload_n hx hb dX5_toldOwnerOf_4 rfl (lv_at hl 1 rfl) ?_
  obtain ⟨r_1, e_2, h⟩ := bnd_e h
  refine kV_I (As := [.int p1]) (rest := []) ⟨hx, hb, hml, hown, hts⟩ (tX0_ownerOfSong l G S0 M0 0 (by omega) p1 r_1 e_2) (cwV 1 hts gX5_toldOwnerOf_X0_ownerOfSong rfl rfl rfl ⟨rfl, hdX0_ownerOfSong⟩ ⟨Nat.le_of_ble_eq_true rfl, Nat.le_of_ble_eq_true rfl⟩) (va_recv hK.1 hW.1 (ci := 0) (q0 := 0) rfl (lkC (c := 0) (by omega))) hK hW hS hA rfl hl.1 rfl (Nat.le_of_ble_eq_true rfl) dX5_toldOwnerOf_5 ⟨Nat.zero_le _, Nat.zero_le _⟩ (fun H locs hW hS => ?_)
  refine lv_istore_n (lv' := [(2, .int r_1), (0, .ref (gad G 154)), (1, .int p1)]) hx hb dX5_toldOwnerOf_8 rfl hl (by decide) rfl (fun ls hl => ?_)
  refine lv_iload_n hx hb dX5_toldOwnerOf_9 rfl (lv_at hl 0 rfl) ?_
  refine lv_iconst (v := (-1)) hx hb dX5_toldOwnerOf_10 (by decide) ?_
  refine lv_icmp_ne (tgt := 19) hx hb dX5_toldOwnerOf_11 (by decide) (fun c_3 => ?_) (fun c_3 => ?_)
  · have h := ite_f c_3 h
    refine lv_iload_n hx hb dX5_toldOwnerOf_19 rfl (lv_at hl 0 rfl) ?_
    exact B20 _ _ hW hS ls r_1 (lv_sub hl [] rfl) h
  · have h := ite_t c_3 h
    refine lv_bipush (v := 100) hx hb dX5_toldOwnerOf_14 (by decide) ?_
    refine lv_goto (tgt := 20) hx hb dX5_toldOwnerOf_16 (by decide) ?_
    exact B20 _ _ hW hS ls 100 (lv_sub hl [] rfl) h
abbrev rX5_song : Room := { frames := 6, cells := 0, slots := 0, locals := 135 }
set_option maxRecDepth 100000 in
set_option maxHeartbeats 8000000 in
theorem tX5_song (l : Launch) (G : WG) (S0 M0 : St) (p1 : Int32) (p2 : Int32) (rr : Int32) (h : f5_song S0 p1 p2 = some (rr)) : CtI l yX5_song wsX5_song rX5_song G [.ref (gad G 154), .int p1, .int p2] S0 M0 rr S0 M0 := by
  refine Met.ofW (cc := cX5_song) (maxL := 3) (ret := (some .int)) (by decide) rfl ?_
  intro p e s m args below meth cd s₁ B hml hv
  obtain ⟨hargs, hK, hW⟩ := hv
  have hx := B.exec
  have hb := B.bytes
  have hr := B.returns
  have hts := atoms_spec (ws := wsX5_song) B.pre
  have hown : s.vm.findClass RX5 = some m.cls := findClass_of_methodNamed B.named
  have hlocks := B.notSynchronized
  have hA : ∀ q, Aw G q → Aw G q := fun _ h => h
  have hS : va_S (Aw G) s.heap s.heap [] := va_S.rf
  have he0 : entryFrame m args 3 = F0 m 0 ((lg_sl ([.ref (gad G 154), .int p1, .int p2]) ++ List.replicate (3 - (lg_sl ([.ref (gad G 154), .int p1, .int p2])).length) Slot.unset).toArray) [] := by rw [hargs]; exact lg_entry_eq _ _ _
  have hl := lv_entry ([.ref (gad G 154), .int p1, .int p2]) (n := 3) (Nat.le_of_ble_eq_true rfl)
  rw [he0]
  generalize (lg_sl ([.ref (gad G 154), .int p1, .int p2]) ++ List.replicate (3 - (lg_sl ([.ref (gad G 154), .int p1, .int p2])).length) Slot.unset).toArray = ls at hl ⊢
  have hl : lv_has ls 3 [(0, .ref (gad G 154)), (1, .int p1), (2, .int p2)] := hl
  have hiX0 : ∀ w ∈ u_ws RX0 TX0 12, w ∈ wsX5_song := by decide +kernel
  have hiX5 : ∀ w ∈ u_ws RX5 TX5 6, w ∈ wsX5_song := by decide +kernel
  unfold f5_song at h
  refine lv_aload_n hx hb dX5_song_0 rfl (lv_at hl 0 rfl) ?_
  refine va_get (D := G.1) (ci := 5) (v := .ref (gad G 0)) (C := RX5) (T := TX5) (N := 6) hx hb hts hiX5 hown hK.1 hW.1 154 lkT rfl 0 (by decide) (hts _ (List.mem_of_getElem? (i := 1) rfl)) (fun _ h9 => h9) rfl dX5_song_1 ?_
  refine lv_iload_n hx hb dX5_song_4 rfl (lv_at hl 1 rfl) ?_
  obtain ⟨r_1, e_2, h⟩ := bnd_e h
  refine kV_I (As := [.int p1]) (rest := []) ⟨hx, hb, hml, hown, hts⟩ (tX0_isSong l G S0 M0 0 (by omega) p1 r_1 e_2) (cwV 1 hts gX5_song_X0_isSong rfl rfl rfl ⟨rfl, hdX0_isSong⟩ ⟨Nat.le_of_ble_eq_true rfl, Nat.le_of_ble_eq_true rfl⟩) (va_recv hK.1 hW.1 (ci := 0) (q0 := 0) rfl (lkC (c := 0) (by omega))) hK hW hS hA rfl hl.1 rfl (Nat.le_of_ble_eq_true rfl) dX5_song_5 ⟨Nat.zero_le _, Nat.zero_le _⟩ (fun H locs hW hS => ?_)
  refine lv_if_ne (tgt := 13) hx hb dX5_song_8 (by decide) (fun c_3 => ?_) (fun c_3 => ?_)
  · have h := ite_f c_3 h
    refine lv_iload_n hx hb dX5_song_13 rfl (lv_at hl 2 rfl) ?_
    by_cases c_4 : Int32.toInt p2 < 0 ∨ 3 < Int32.toInt p2
    · have h := ite_t c_4 h
      refine lv_tableOut (tgt := 86) hx hb dX5_song_14 c_4 (by decide) ?_
      refine lv_bipush (v := (-2)) hx hb dX5_song_86 (by decide) ?_
      obtain rfl := Option.some.inj h
      exact W.iret hx hb hr (fun t ht hw => ⟨⟨_, (), rfl, rfl, hW.ret ht⟩, hS.F ht⟩) hS.2.2 dX5_song_88
    · have h := ite_f c_4 h
      by_cases c_5 : (p2 : Int32) = 0
      · have h := ite_t c_5 h
        refine lv_tableIn (off := 30) (tgt := 44) hx hb dX5_song_14 (by rw [c_5]; decide) (by rw [c_5]; decide) (by rw [c_5]; rfl) (by decide) ?_
        refine lv_aload_n hx hb dX5_song_44 rfl (lv_at hl 0 rfl) ?_
        refine va_get (D := G.1) (ci := 5) (v := .ref (gad G 0)) (C := RX5) (T := TX5) (N := 6) hx hb hts hiX5 hown hK.1 hW.1 154 lkT rfl 0 (by decide) (hts _ (List.mem_of_getElem? (i := 1) rfl)) (fun _ h9 => h9) rfl dX5_song_45 ?_
        refine va_getN (D := G.1) (ci := 0) (v := .ref (gad G (14 + (10 * 0 + 7)))) (C := RX0) (T := TX0) (N := 12) hx hb hts hiX0 hown hK.1 hW.1 0 (lkC (c := 0) (by omega)) rfl 4 (by decide) (va_Nw.use rfl (hK.2 _ (List.mem_of_getElem? (i := 4) rfl))) (fun _ h9 => h9) rfl dX5_song_48 ?_
        refine lv_iload_n hx hb dX5_song_51 rfl (lv_at hl 1 rfl) ?_
        obtain ⟨r_6, e_7, h⟩ := bnd_e h
        refine kV_I (As := [.int p1]) (rest := []) ⟨hx, hb, hml, hown, hts⟩ (tX4_at l G S0 M0 ((10 * 0 + 7)) (by omega) p1 r_6 e_7) (cwV 1 hts gX5_song_X4_at rfl rfl rfl ⟨rfl, hdX4_at⟩ ⟨Nat.le_of_ble_eq_true rfl, Nat.le_of_ble_eq_true rfl⟩) (va_recv hK.1 hW.1 (ci := 4) (q0 := (14 + (10 * 0 + 7))) rfl (lkR (r := (10 * 0 + 7)) (by omega))) hK hW hS hA rfl hl.1 rfl (Nat.le_of_ble_eq_true rfl) dX5_song_52 ⟨Nat.zero_le _, Nat.zero_le _⟩ (fun H locs hW hS => ?_)
        obtain rfl := Option.some.inj h
        exact W.iret hx hb hr (fun t ht hw => ⟨⟨_, (), rfl, rfl, hW.ret ht⟩, hS.F ht⟩) hS.2.2 dX5_song_55
      · have h := ite_f c_5 h
        by_cases c_8 : (p2 : Int32) = 1
        · have h := ite_t c_8 h
          refine lv_tableIn (off := 42) (tgt := 56) hx hb dX5_song_14 (by rw [c_8]; decide) (by rw [c_8]; decide) (by rw [c_8]; rfl) (by decide) ?_
          refine lv_aload_n hx hb dX5_song_56 rfl (lv_at hl 0 rfl) ?_
          refine va_get (D := G.1) (ci := 5) (v := .ref (gad G 0)) (C := RX5) (T := TX5) (N := 6) hx hb hts hiX5 hown hK.1 hW.1 154 lkT rfl 0 (by decide) (hts _ (List.mem_of_getElem? (i := 1) rfl)) (fun _ h9 => h9) rfl dX5_song_57 ?_
          refine va_getN (D := G.1) (ci := 0) (v := .ref (gad G (14 + (10 * 0 + 8)))) (C := RX0) (T := TX0) (N := 12) hx hb hts hiX0 hown hK.1 hW.1 0 (lkC (c := 0) (by omega)) rfl 5 (by decide) (va_Nw.use rfl (hK.2 _ (List.mem_of_getElem? (i := 5) rfl))) (fun _ h9 => h9) rfl dX5_song_60 ?_
          refine lv_iload_n hx hb dX5_song_63 rfl (lv_at hl 1 rfl) ?_
          obtain ⟨r_9, e_10, h⟩ := bnd_e h
          refine kV_I (As := [.int p1]) (rest := []) ⟨hx, hb, hml, hown, hts⟩ (tX4_at l G S0 M0 ((10 * 0 + 8)) (by omega) p1 r_9 e_10) (cwV 1 hts gX5_song_X4_at rfl rfl rfl ⟨rfl, hdX4_at⟩ ⟨Nat.le_of_ble_eq_true rfl, Nat.le_of_ble_eq_true rfl⟩) (va_recv hK.1 hW.1 (ci := 4) (q0 := (14 + (10 * 0 + 8))) rfl (lkR (r := (10 * 0 + 8)) (by omega))) hK hW hS hA rfl hl.1 rfl (Nat.le_of_ble_eq_true rfl) dX5_song_64 ⟨Nat.zero_le _, Nat.zero_le _⟩ (fun H locs hW hS => ?_)
          obtain rfl := Option.some.inj h
          exact W.iret hx hb hr (fun t ht hw => ⟨⟨_, (), rfl, rfl, hW.ret ht⟩, hS.F ht⟩) hS.2.2 dX5_song_67
        · have h := ite_f c_8 h
          by_cases c_11 : (p2 : Int32) = 2
          · have h := ite_t c_11 h
            refine lv_tableIn (off := 54) (tgt := 68) hx hb dX5_song_14 (by rw [c_11]; decide) (by rw [c_11]; decide) (by rw [c_11]; rfl) (by decide) ?_
            refine lv_aload_n hx hb dX5_song_68 rfl (lv_at hl 0 rfl) ?_
            refine va_get (D := G.1) (ci := 5) (v := .ref (gad G 0)) (C := RX5) (T := TX5) (N := 6) hx hb hts hiX5 hown hK.1 hW.1 154 lkT rfl 0 (by decide) (hts _ (List.mem_of_getElem? (i := 1) rfl)) (fun _ h9 => h9) rfl dX5_song_69 ?_
            refine lv_iload_n hx hb dX5_song_72 rfl (lv_at hl 1 rfl) ?_
            obtain ⟨r_12, e_13, h⟩ := bnd_e h
            refine kV_F (As := [.int p1]) (rest := []) ⟨hx, hb, hml, hown, hts⟩ (tX0_loudnessOfSong l G S0 M0 0 (by omega) p1 r_12 e_13) (cwV 1 hts gX5_song_X0_loudnessOfSong rfl rfl rfl ⟨rfl, hdX0_loudnessOfSong⟩ ⟨Nat.le_of_ble_eq_true rfl, Nat.le_of_ble_eq_true rfl⟩) (va_recv hK.1 hW.1 (ci := 0) (q0 := 0) rfl (lkC (c := 0) (by omega))) hK hW hS hA rfl hl.1 rfl (Nat.le_of_ble_eq_true rfl) dX5_song_73 ⟨Nat.zero_le _, Nat.zero_le _⟩ (fun H locs hW hS => ?_)
            obtain ⟨r_14, e_15, h⟩ := bnd_e h
            refine kS_I (As := [.float r_12]) (rest := []) ⟨hx, hb, hml, hown, hts⟩ (tX5_bitsOf l G S0 M0 r_12 r_14 e_15) (va_cwS 1 hts gX5_song_X5_bitsOf rfl rfl rfl hdX5_bitsOf ⟨Nat.le_of_ble_eq_true rfl, Nat.le_of_ble_eq_true rfl⟩) hK hW hS hA rfl hl.1 rfl (Nat.le_of_ble_eq_true rfl) dX5_song_76 ⟨Nat.zero_le _, Nat.zero_le _⟩ (fun H locs hW hS => ?_)
            obtain rfl := Option.some.inj h
            exact W.iret hx hb hr (fun t ht hw => ⟨⟨_, (), rfl, rfl, hW.ret ht⟩, hS.F ht⟩) hS.2.2 dX5_song_79
          · have h := ite_f c_11 h
            by_cases c_16 : (p2 : Int32) = 3
            · have h := ite_t c_16 h
              refine lv_tableIn (off := 66) (tgt := 80) hx hb dX5_song_14 (by rw [c_16]; decide) (by rw [c_16]; decide) (by rw [c_16]; rfl) (by decide) ?_
              refine lv_aload_n hx hb dX5_song_80 rfl (lv_at hl 0 rfl) ?_
              refine lv_iload_n hx hb dX5_song_81 rfl (lv_at hl 1 rfl) ?_
              obtain ⟨r_17, e_18, h⟩ := bnd_e h
              refine kV_I (As := [.int p1]) (rest := []) ⟨hx, hb, hml, hown, hts⟩ (tX5_toldOwnerOf l G S0 M0 p1 r_17 e_18) (cwV 1 hts gX5_song_X5_toldOwnerOf rfl rfl rfl ⟨rfl, hdX5_toldOwnerOf⟩ ⟨Nat.le_of_ble_eq_true rfl, Nat.le_of_ble_eq_true rfl⟩) (va_recv hK.1 hW.1 (ci := 5) (q0 := 154) rfl lkT) hK hW hS hA rfl hl.1 rfl (Nat.le_of_ble_eq_true rfl) dX5_song_82 ⟨Nat.zero_le _, Nat.zero_le _⟩ (fun H locs hW hS => ?_)
              obtain rfl := Option.some.inj h
              exact W.iret hx hb hr (fun t ht hw => ⟨⟨_, (), rfl, rfl, hW.ret ht⟩, hS.F ht⟩) hS.2.2 dX5_song_85
            · have h := ite_f c_16 h
              cases h
  · have h := ite_t c_3 h
    refine lv_iconst (v := (-1)) hx hb dX5_song_11 (by decide) ?_
    obtain rfl := Option.some.inj h
    exact W.iret hx hb hr (fun t ht hw => ⟨⟨_, (), rfl, rfl, hW.ret ht⟩, hS.F ht⟩) hS.2.2 dX5_song_12
abbrev rX5_clearText : Room := { frames := 0, cells := 0, slots := 0, locals := 0 }
set_option maxRecDepth 100000 in
set_option maxHeartbeats 8000000 in
theorem tX5_clearText (l : Launch) (G : WG) (S0 M0 : St) (rr : Int32) (S' : St) (h : f5_clearText S0 = some (rr, S')) : CtI l yX5_clearText wsX5_clearText rX5_clearText G [.ref (gad G 154)] S0 M0 rr S' M0 := by
  refine Met.ofW (cc := cX5_clearText) (maxL := 2) (ret := (some .int)) (by decide) rfl ?_
  intro p e s m args below meth cd s₁ B hml hv
  obtain ⟨hargs, hK, hW⟩ := hv
  have hx := B.exec
  have hb := B.bytes
  have hr := B.returns
  have hts := atoms_spec (ws := wsX5_clearText) B.pre
  have hown : s.vm.findClass RX5 = some m.cls := findClass_of_methodNamed B.named
  have hlocks := B.notSynchronized
  have hA : ∀ q, Aw G q → Aw G q := fun _ h => h
  have hS : va_S (Aw G) s.heap s.heap [] := va_S.rf
  have he0 : entryFrame m args 2 = F0 m 0 ((lg_sl ([.ref (gad G 154)]) ++ List.replicate (2 - (lg_sl ([.ref (gad G 154)])).length) Slot.unset).toArray) [] := by rw [hargs]; exact lg_entry_eq _ _ _
  have hl := lv_entry ([.ref (gad G 154)]) (n := 2) (Nat.le_of_ble_eq_true rfl)
  rw [he0]
  generalize (lg_sl ([.ref (gad G 154)]) ++ List.replicate (2 - (lg_sl ([.ref (gad G 154)])).length) Slot.unset).toArray = ls at hl ⊢
  have hl : lv_has ls 2 [(0, .ref (gad G 154))] := hl
  have hiX1 : ∀ w ∈ u_ws RX1 TX1 2, w ∈ wsX5_clearText := by decide +kernel
  have hiX5 : ∀ w ∈ u_ws RX5 TX5 6, w ∈ wsX5_clearText := by decide +kernel
  unfold f5_clearText at h
  refine lv_aload_n hx hb dX5_clearText_0 rfl (lv_at hl 0 rfl) ?_
  refine va_get (D := G.1) (ci := 5) (v := .ref (gad G 157)) (C := RX5) (T := TX5) (N := 6) hx hb hts hiX5 hown hK.1 hW.1 154 lkT rfl 4 (by decide) (hts _ (List.mem_of_getElem? (i := 1) rfl)) (fun _ h9 => h9) rfl dX5_clearText_1 ?_
  refine va_getN (D := G.1) (ci := 1) (v := .int (S0.1 45)) (C := RX1) (T := TX1) (N := 2) hx hb hts hiX1 hown hK.1 hW.1 157 lkX rfl 1 (by decide) (va_Nw.use rfl (hK.2 _ (List.mem_of_getElem? (i := 12) rfl))) (fun _ h9 => h9) rfl dX5_clearText_4 ?_
  obtain ⟨x_1, ex_1, h⟩ := nam_e h
  refine lv_ni ex_1 ?_
  refine lv_istore_n (lv' := [(1, .int x_1), (0, .ref (gad G 154))]) hx hb dX5_clearText_7 rfl hl (by decide) rfl (fun ls hl => ?_)
  refine lv_aload_n hx hb dX5_clearText_8 rfl (lv_at hl 1 rfl) ?_
  refine va_get (D := G.1) (ci := 5) (v := .ref (gad G 157)) (C := RX5) (T := TX5) (N := 6) hx hb hts hiX5 hown hK.1 hW.1 154 lkT rfl 4 (by decide) (hts _ (List.mem_of_getElem? (i := 1) rfl)) (fun _ h9 => h9) rfl dX5_clearText_9 ?_
  refine lv_iconst (v := 0) hx hb dX5_clearText_12 (by decide) ?_
  obtain ⟨S_2, eS_2, h⟩ := nam_e h
  refine va_putN (D := G.1) (ci := 1) (v := .int 0) (ty := .int) (C := RX1) (T := TX1) (N := 2) hx hb hts hiX1 tyX1 tyX1_ok nmX1 hown hK.1 hW.1 (hW.D hA) hS 157 lkX rfl 1 (by decide) (va_Nw.use rfl (hK.2 _ (List.mem_of_getElem? (i := 12) rfl))) (fun _ h9 => h9) rfl (by decide +kernel) rfl rfl (Nat.le_of_ble_eq_true rfl) dX5_clearText_13 (fun H locs hP hD hS => ?_)
  have hW := upX hW hP
  rw [← eS_2] at hW
  refine lv_iload_n hx hb dX5_clearText_16 rfl (lv_at hl 0 rfl) ?_
  obtain ⟨rfl, rfl⟩ := Prod.mk.inj (Option.some.inj h)
  exact W.iret hx hb hr (fun t ht hw => ⟨⟨_, (), rfl, rfl, hW.ret ht⟩, hS.F ht⟩) hS.2.2 dX5_clearText_17
abbrev rX1_append : Room := { frames := 0, cells := 0, slots := 0, locals := 0 }
set_option maxRecDepth 100000 in
set_option maxHeartbeats 8000000 in
theorem tX1_append (l : Launch) (G : WG) (S0 M0 : St) (p1 : Int32) (rr : Int32) (S' : St) (h : f1_append S0 p1 = some (rr, S')) : CtI l yX1_append wsX1_append rX1_append G [.ref (gad G 157), .int p1] S0 M0 rr S' M0 := by
  refine Met.ofW (cc := cX1_append) (maxL := 2) (ret := (some .boolean)) (by decide) rfl ?_
  intro p e s m args below meth cd s₁ B hml hv
  obtain ⟨hargs, hK, hW⟩ := hv
  have hx := B.exec
  have hb := B.bytes
  have hr := B.returns
  have hts := atoms_spec (ws := wsX1_append) B.pre
  have hown : s.vm.findClass RX1 = some m.cls := findClass_of_methodNamed B.named
  have hlocks := B.notSynchronized
  have hA : ∀ q, Aw G q → Aw G q := fun _ h => h
  have hS : va_S (Aw G) s.heap s.heap [] := va_S.rf
  have he0 : entryFrame m args 2 = F0 m 0 ((lg_sl ([.ref (gad G 157), .int p1]) ++ List.replicate (2 - (lg_sl ([.ref (gad G 157), .int p1])).length) Slot.unset).toArray) [] := by rw [hargs]; exact lg_entry_eq _ _ _
  have hl := lv_entry ([.ref (gad G 157), .int p1]) (n := 2) (Nat.le_of_ble_eq_true rfl)
  rw [he0]
  generalize (lg_sl ([.ref (gad G 157), .int p1]) ++ List.replicate (2 - (lg_sl ([.ref (gad G 157), .int p1])).length) Slot.unset).toArray = ls at hl ⊢
  have hl : lv_has ls 2 [(0, .ref (gad G 157)), (1, .int p1)] := hl
  have hiX1 : ∀ w ∈ u_ws RX1 TX1 2, w ∈ wsX1_append := by decide +kernel
  have B19 : ∀ (H : Heap) (locs : List Loc) (S : St) (_ : WD G S M0 H) (_ : va_S (Aw G) s.heap H locs) (ls : Array Slot) (_ : lv_has ls 2 []) (h : f1_append_b19 S  = some (rr, S')), WI p l e (headSpec wsX1_append rX1_append).room s m args below meth cd G rr S' M0 H locs (F0 m 19 ls []) := by
    intro H locs S hW hS ls hl h
    unfold f1_append_b19 at h
    refine lv_iconst (v := 0) hx hb dX1_append_19 (by decide) ?_
    obtain ⟨rfl, rfl⟩ := Prod.mk.inj (Option.some.inj h)
    exact W.zret (ty := .boolean) hx hb hr rfl (fun t ht hw => ⟨⟨_, (), rfl, rfl, hW.ret ht⟩, hS.F ht⟩) hS.2.2 dX1_append_20
  unfold f1_append at h
  refine lv_aload_n hx hb dX1_append_0 rfl (lv_at hl 0 rfl) ?_
  refine va_get (D := G.1) (ci := 1) (v := .int (S0.1 45)) (C := RX1) (T := TX1) (N := 2) hx hb hts hiX1 hown hK.1 hW.1 157 lkX rfl 1 (by decide) (hts _ (List.mem_of_getElem? (i := 1) rfl)) (fun _ h9 => h9) rfl dX1_append_1 ?_
  refine lv_if_lt (tgt := 19) hx hb dX1_append_4 (by decide) (fun c_1 => ?_) (fun c_1 => ?_)
  · have h := ite_t c_1 h
    exact B19 _ _ S0 hW hS ls (lv_sub hl [] rfl) h
  · have h := ite_f c_1 h
    refine lv_aload_n hx hb dX1_append_7 rfl (lv_at hl 0 rfl) ?_
    refine va_get (D := G.1) (ci := 1) (v := .int (S0.1 45)) (C := RX1) (T := TX1) (N := 2) hx hb hts hiX1 hown hK.1 hW.1 157 lkX rfl 1 (by decide) (hts _ (List.mem_of_getElem? (i := 1) rfl)) (fun _ h9 => h9) rfl dX1_append_8 ?_
    refine lv_aload_n hx hb dX1_append_11 rfl (lv_at hl 0 rfl) ?_
    refine va_get (D := G.1) (ci := 1) (v := .ref (gad G 158)) (C := RX1) (T := TX1) (N := 2) hx hb hts hiX1 hown hK.1 hW.1 157 lkX rfl 0 (by decide) (hts _ (List.mem_of_getElem? (i := 2) rfl)) (fun _ h9 => h9) rfl dX1_append_12 ?_
    refine va_alen hx hb hK.1 hW.1 158 1 lkXa rfl rfl dX1_append_15 ?_
    refine lv_icmp_lt (tgt := 21) hx hb dX1_append_16 (by decide) (fun c_2 => ?_) (fun c_2 => ?_)
    · have h := ite_t c_2 h
      refine lv_aload_n hx hb dX1_append_21 rfl (lv_at hl 0 rfl) ?_
      refine va_get (D := G.1) (ci := 1) (v := .ref (gad G 158)) (C := RX1) (T := TX1) (N := 2) hx hb hts hiX1 hown hK.1 hW.1 157 lkX rfl 0 (by decide) (hts _ (List.mem_of_getElem? (i := 2) rfl)) (fun _ h9 => h9) rfl dX1_append_22 ?_
      refine lv_aload_n hx hb dX1_append_25 rfl (lv_at hl 0 rfl) ?_
      refine va_get (D := G.1) (ci := 1) (v := .int (S0.1 45)) (C := RX1) (T := TX1) (N := 2) hx hb hts hiX1 hown hK.1 hW.1 157 lkX rfl 1 (by decide) (hts _ (List.mem_of_getElem? (i := 1) rfl)) (fun _ h9 => h9) rfl dX1_append_26 ?_
      refine lv_iload_n hx hb dX1_append_29 rfl (lv_at hl 1 rfl) ?_
      obtain ⟨n_4, h⟩ := sto_e h
      obtain ⟨S_3, eS_3, h⟩ := nam_e h
      refine va_cast hx hb hK.1 hW.1 (hW.D hA) hS 158 1 lkXa rfl n_4 dX1_append_30 (fun H locs hP hD hS => ?_)
      have hW := upXa hW hP
      rw [← eS_3] at hW
      refine lv_aload_n hx hb dX1_append_31 rfl (lv_at hl 0 rfl) ?_
      refine lv_dup hx hb dX1_append_32 rfl ?_
      refine va_get (D := G.1) (ci := 1) (v := .int (S_3.1 45)) (C := RX1) (T := TX1) (N := 2) hx hb hts hiX1 hown hK.1 hW.1 157 lkX rfl 1 (by decide) (hts _ (List.mem_of_getElem? (i := 1) rfl)) (fun _ h9 => h9) rfl dX1_append_33 ?_
      refine lv_iconst (v := 1) hx hb dX1_append_36 (by decide) ?_
      refine lv_iadd hx hb dX1_append_37 ?_
      obtain ⟨S_5, eS_5, h⟩ := nam_e h
      refine va_put (D := G.1) (ci := 1) (v := .int ((S_3.1 45 + 1))) (ty := .int) (C := RX1) (T := TX1) (N := 2) hx hb hts hiX1 tyX1 tyX1_ok nmX1 hown hK.1 hW.1 (hW.D hA) hS 157 lkX rfl 1 (by decide) (hts _ (List.mem_of_getElem? (i := 1) rfl)) (fun _ h9 => h9) rfl (by decide +kernel) rfl rfl (Nat.le_of_ble_eq_true rfl) dX1_append_38 (fun H locs hP hD hS => ?_)
      have hW := upX hW hP
      rw [← eS_5] at hW
      refine lv_iconst (v := 1) hx hb dX1_append_41 (by decide) ?_
      obtain ⟨rfl, rfl⟩ := Prod.mk.inj (Option.some.inj h)
      exact W.zret (ty := .boolean) hx hb hr rfl (fun t ht hw => ⟨⟨_, (), rfl, rfl, hW.ret ht⟩, hS.F ht⟩) hS.2.2 dX1_append_42
    · have h := ite_f c_2 h
      exact B19 _ _ S0 hW hS ls (lv_sub hl [] rfl) h
abbrev rX5_type : Room := { frames := 1, cells := 0, slots := 0, locals := 21 }
set_option maxRecDepth 100000 in
set_option maxHeartbeats 8000000 in
theorem tX5_type (l : Launch) (G : WG) (S0 M0 : St) (p1 : Int32) (rr : Int32) (S' : St) (h : f5_type S0 p1 = some (rr, S')) : CtI l yX5_type wsX5_type rX5_type G [.ref (gad G 154), .int p1] S0 M0 rr S' M0 := by
  refine Met.ofW (cc := cX5_type) (maxL := 2) (ret := (some .int)) (by decide) rfl ?_
  intro p e s m args below meth cd s₁ B hml hv
  obtain ⟨hargs, hK, hW⟩ := hv
  have hx := B.exec
  have hb := B.bytes
  have hr := B.returns
  have hts := atoms_spec (ws := wsX5_type) B.pre
  have hown : s.vm.findClass RX5 = some m.cls := findClass_of_methodNamed B.named
  have hlocks := B.notSynchronized
  have hA : ∀ q, Aw G q → Aw G q := fun _ h => h
  have hS : va_S (Aw G) s.heap s.heap [] := va_S.rf
  have he0 : entryFrame m args 2 = F0 m 0 ((lg_sl ([.ref (gad G 154), .int p1]) ++ List.replicate (2 - (lg_sl ([.ref (gad G 154), .int p1])).length) Slot.unset).toArray) [] := by rw [hargs]; exact lg_entry_eq _ _ _
  have hl := lv_entry ([.ref (gad G 154), .int p1]) (n := 2) (Nat.le_of_ble_eq_true rfl)
  rw [he0]
  generalize (lg_sl ([.ref (gad G 154), .int p1]) ++ List.replicate (2 - (lg_sl ([.ref (gad G 154), .int p1])).length) Slot.unset).toArray = ls at hl ⊢
  have hl : lv_has ls 2 [(0, .ref (gad G 154)), (1, .int p1)] := hl
  have hiX1 : ∀ w ∈ u_ws RX1 TX1 2, w ∈ wsX5_type := by decide +kernel
  have hiX5 : ∀ w ∈ u_ws RX5 TX5 6, w ∈ wsX5_type := by decide +kernel
  have B23 : ∀ (H : Heap) (locs : List Loc) (S : St) (_ : WD G S M0 H) (_ : va_S (Aw G) s.heap H locs) (ls : Array Slot) (k0 : Int32) (_ : lv_has ls 2 []) (h : f5_type_b23 S k0 = some (rr, S')), WI p l e (headSpec wsX5_type rX5_type).room s m args below meth cd G rr S' M0 H locs (F0 m 23 ls [.int k0]) := by
    intro H locs S hW hS ls k0 hl h
    unfold f5_type_b23 at h
    obtain ⟨rfl, rfl⟩ := Prod.mk.inj (Option.some.inj h)
    exact W.iret hx hb hr (fun t ht hw => ⟨⟨_, (), rfl, rfl, hW.ret ht⟩, hS.F ht⟩) hS.2.2 dX5_type_23
  unfold f5_type at h
  refine lv_aload_n hx hb dX5_type_0 rfl (lv_at hl 0 rfl) ?_
  refine va_get (D := G.1) (ci := 5) (v := .ref (gad G 157)) (C := RX5) (T := TX5) (N := 6) hx hb hts hiX5 hown hK.1 hW.1 154 lkT rfl 4 (by decide) (hts _ (List.mem_of_getElem? (i := 1) rfl)) (fun _ h9 => h9) rfl dX5_type_1 ?_
  refine lv_iload_n hx hb dX5_type_4 rfl (lv_at hl 1 rfl) ?_
  obtain ⟨r_1, S_2, e_3, h⟩ := bd2_e h
  refine kV_I (As := [.int p1]) (rest := []) ⟨hx, hb, hml, hown, hts⟩ (tX1_append l G S0 M0 p1 r_1 S_2 e_3) (cwV 1 hts gX5_type_X1_append rfl rfl rfl ⟨rfl, hdX1_append⟩ ⟨Nat.le_of_ble_eq_true rfl, Nat.le_of_ble_eq_true rfl⟩) (va_recv hK.1 hW.1 (ci := 1) (q0 := 157) rfl lkX) hK hW hS hA rfl hl.1 rfl (Nat.le_of_ble_eq_true rfl) dX5_type_5 ⟨Nat.zero_le _, Nat.zero_le _⟩ (fun H locs hW hS => ?_)
  refine lv_if_eq (tgt := 21) hx hb dX5_type_8 (by decide) (fun c_4 => ?_) (fun c_4 => ?_)
  · have h := ite_t c_4 h
    refine lv_bipush (v := (-3)) hx hb dX5_type_21 (by decide) ?_
    exact B23 _ _ S_2 hW hS ls ((-3)) (lv_sub hl [] rfl) h
  · have h := ite_f c_4 h
    refine lv_aload_n hx hb dX5_type_11 rfl (lv_at hl 0 rfl) ?_
    refine va_get (D := G.1) (ci := 5) (v := .ref (gad G 157)) (C := RX5) (T := TX5) (N := 6) hx hb hts hiX5 hown hK.1 hW.1 154 lkT rfl 4 (by decide) (hts _ (List.mem_of_getElem? (i := 1) rfl)) (fun _ h9 => h9) rfl dX5_type_12 ?_
    refine va_getN (D := G.1) (ci := 1) (v := .int (S_2.1 45)) (C := RX1) (T := TX1) (N := 2) hx hb hts hiX1 hown hK.1 hW.1 157 lkX rfl 1 (by decide) (va_Nw.use rfl (hK.2 _ (List.mem_of_getElem? (i := 12) rfl))) (fun _ h9 => h9) rfl dX5_type_15 ?_
    refine lv_goto (tgt := 23) hx hb dX5_type_18 (by decide) ?_
    exact B23 _ _ S_2 hW hS ls (S_2.1 45) (lv_sub hl [] rfl) h
