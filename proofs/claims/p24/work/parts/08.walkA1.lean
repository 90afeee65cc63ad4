abbrev rX4_at : Room := { frames := 0, cells := 0, slots := 0, locals := 0 }
set_option maxRecDepth 100000 in
set_option maxHeartbeats 8000000 in
theorem tX4_at (l : Launch) (G : WG) (S0 M0 : St) (r : Nat) (hr : r < 70) (p1 : Int32) (rr : Int32) (h : f4_at S0 r p1 = some (rr)) : CtI l yX4_at wsX4_at rX4_at G [.ref (gad G (14 + r)), .int p1] S0 M0 rr S0 M0 := by
  refine Met.ofW (cc := cX4_at) (maxL := 2) (ret := (some .int)) (by decide) rfl ?_
  intro p e s m args below meth cd s₁ B hml hv
  obtain ⟨hargs, hK, hW⟩ := hv
  have hx := B.exec
  have hb := B.bytes
  have hr := B.returns
  have hts := atoms_spec (ws := wsX4_at) B.pre
  have hown : s.vm.findClass RX4 = some m.cls := findClass_of_methodNamed B.named
  have hlocks := B.notSynchronized
  have hA : ∀ q, Aw G q → Aw G q := fun _ h => h
  have hS : va_S (Aw G) s.heap s.heap [] := va_S.rf
  have he0 : entryFrame m args 2 = F0 m 0 ((lg_sl ([.ref (gad G (14 + r)), .int p1]) ++ List.replicate (2 - (lg_sl ([.ref (gad G (14 + r)), .int p1])).length) Slot.unset).toArray) [] := by rw [hargs]; exact lg_entry_eq _ _ _
  have hl := lv_entry ([.ref (gad G (14 + r)), .int p1]) (n := 2) (Nat.le_of_ble_eq_true rfl)
  rw [he0]
  generalize (lg_sl ([.ref (gad G (14 + r)), .int p1]) ++ List.replicate (2 - (lg_sl ([.ref (gad G (14 + r)), .int p1])).length) Slot.unset).toArray = ls at hl ⊢
  have hl : lv_has ls 2 [(0, .ref (gad G (14 + r))), (1, .int p1)] := hl
  have hiX4 : ∀ w ∈ u_ws RX4 TX4 1, w ∈ wsX4_at := by decide +kernel
  have B23 : ∀ (H : Heap) (locs : List Loc) (_ : WD G S0 M0 H) (_ : va_S (Aw G) s.heap H locs) (ls : Array Slot) (k0 : Int32) (_ : lv_has ls 2 []) (h : f4_at_b23 S0 r k0 = some (rr)), WI p l e (headSpec wsX4_at rX4_at).room s m args below meth cd G rr S0 M0 H locs (F0 m 23 ls [.int k0]) := by
    intro H locs hW hS ls k0 hl h
    unfold f4_at_b23 at h
    obtain rfl := Option.some.inj h
    exact W.iret hx hb hr (fun t ht hw => ⟨⟨_, (), rfl, rfl, hW.ret ht⟩, hS.F ht⟩) hS.2.2 dX4_at_23
  have B22 : ∀ (H : Heap) (locs : List Loc) (_ : WD G S0 M0 H) (_ : va_S (Aw G) s.heap H locs) (ls : Array Slot) (_ : lv_has ls 2 []) (h : f4_at_b22 S0 r  = some (rr)), WI p l e (headSpec wsX4_at rX4_at).room s m args below meth cd G rr S0 M0 H locs (F0 m 22 ls []) := by
    intro H locs hW hS ls hl h
    unfold f4_at_b22 at h
    refine lv_iconst (v := 0) hx hb dX4_at_22 (by decide) ?_
    exact B23 _ _ hW hS ls 0 (lv_sub hl [] rfl) h
  unfold f4_at at h
  refine lv_iload_n hx hb dX4_at_0 rfl (lv_at hl 1 rfl) ?_
  refine lv_if_lt (tgt := 22) hx hb dX4_at_1 (by decide) (fun c_1 => ?_) (fun c_1 => ?_)
  · have h := ite_t c_1 h
    exact B22 _ _ hW hS ls (lv_sub hl [] rfl) h
  · have h := ite_f c_1 h
    refine lv_iload_n hx hb dX4_at_4 rfl (lv_at hl 1 rfl) ?_
    refine lv_aload_n hx hb dX4_at_5 rfl (lv_at hl 0 rfl) ?_
    refine va_get (D := G.1) (ci := 4) (v := .ref (gad G (84 + r))) (C := RX4) (T := TX4) (N := 1) hx hb hts hiX4 hown hK.1 hW.1 (14 + r) (lkR (r := r) (by omega)) rfl 0 (by decide) (hts _ (List.mem_of_getElem? (i := 1) rfl)) (fun _ h9 => h9) rfl dX4_at_6 ?_
    refine va_alen hx hb hK.1 hW.1 (84 + r) 0 (lkA (r := r) (by omega)) rfl rfl dX4_at_9 ?_
    refine lv_icmp_ge (tgt := 22) hx hb dX4_at_10 (by decide) (fun c_2 => ?_) (fun c_2 => ?_)
    · have h := ite_t c_2 h
      exact B22 _ _ hW hS ls (lv_sub hl [] rfl) h
    · have h := ite_f c_2 h
      refine lv_aload_n hx hb dX4_at_13 rfl (lv_at hl 0 rfl) ?_
      refine va_get (D := G.1) (ci := 4) (v := .ref (gad G (84 + r))) (C := RX4) (T := TX4) (N := 1) hx hb hts hiX4 hown hK.1 hW.1 (14 + r) (lkR (r := r) (by omega)) rfl 0 (by decide) (hts _ (List.mem_of_getElem? (i := 1) rfl)) (fun _ h9 => h9) rfl dX4_at_14 ?_
      refine lv_iload_n hx hb dX4_at_17 rfl (lv_at hl 1 rfl) ?_
      obtain ⟨x_3, nx_3, ex_3, h⟩ := arr_e h
      refine va_iald hx hb hK.1 hW.1 (84 + r) 0 (lkA (r := r) (by omega)) rfl nx_3 dX4_at_18 ?_
      refine lv_ni ex_3 ?_
      refine lv_goto (tgt := 23) hx hb dX4_at_19 (by decide) ?_
      exact B23 _ _ hW hS ls x_3 (lv_sub hl [] rfl) h
abbrev rX3_manyOf : Room := { frames := 1, cells := 0, slots := 0, locals := 21 }
set_option maxRecDepth 100000 in
set_option maxHeartbeats 8000000 in
theorem tX3_manyOf (l : Launch) (G : WG) (S0 M0 : St) (c : Nat) (hc : c < 7) (p1 : Int32) (rr : Int32) (h : f3_manyOf S0 c p1 = some (rr)) : CtI l yX3_manyOf wsX3_manyOf rX3_manyOf G [.ref (gad G (7 + c)), .int p1] S0 M0 rr S0 M0 := by
  refine Met.ofW (cc := cX3_manyOf) (maxL := 4) (ret := (some .int)) (by decide) rfl ?_
  intro p e s m args below meth cd s₁ B hml hv
  obtain ⟨hargs, hK, hW⟩ := hv
  have hx := B.exec
  have hb := B.bytes
  have hr := B.returns
  have hts := atoms_spec (ws := wsX3_manyOf) B.pre
  have hown : s.vm.findClass RX3 = some m.cls := findClass_of_methodNamed B.named
  have hlocks := B.notSynchronized
  have hA : ∀ q, Aw G q → Aw G q := fun _ h => h
  have hS : va_S (Aw G) s.heap s.heap [] := va_S.rf
  have he0 : entryFrame m args 4 = F0 m 0 ((lg_sl ([.ref (gad G (7 + c)), .int p1]) ++ List.replicate (4 - (lg_sl ([.ref (gad G (7 + c)), .int p1])).length) Slot.unset).toArray) [] := by rw [hargs]; exact lg_entry_eq _ _ _
  have hl := lv_entry ([.ref (gad G (7 + c)), .int p1]) (n := 4) (Nat.le_of_ble_eq_true rfl)
  rw [he0]
  generalize (lg_sl ([.ref (gad G (7 + c)), .int p1]) ++ List.replicate (4 - (lg_sl ([.ref (gad G (7 + c)), .int p1])).length) Slot.unset).toArray = ls at hl ⊢
  have hl : lv_has ls 4 [(0, .ref (gad G (7 + c))), (1, .int p1)] := hl
  have hiX3 : ∀ w ∈ u_ws RX3 TX3 5, w ∈ wsX3_manyOf := by decide +kernel
  have B4 : ∀ (n : Nat), ∀ (H : Heap) (locs : List Loc) (_ : WD G S0 M0 H) (_ : va_S (Aw G) s.heap H locs) (ls : Array Slot) (l1 : Int32) (l2 : Int32) (l3 : Int32) (_ : lv_has ls 4 [(0, .ref (gad G (7 + c))), (1, .int l1), (2, .int l2), (3, .int l3)]) (h : f3_manyOf_b4 S0 c l1 n l2 l3 = some (rr)), WI p l e (headSpec wsX3_manyOf rX3_manyOf).room s m args below meth cd G rr S0 M0 H locs (F0 m 4 ls []) := by
    intro n
    induction n with
    | zero => intro H locs hW hS ls l1 l2 l3 hl h; cases (show (none : Option (Int32)) = some _ from h)
    | succ n ih =>
      have B27 : ∀ (H : Heap) (locs : List Loc) (_ : WD G S0 M0 H) (_ : va_S (Aw G) s.heap H locs) (ls : Array Slot) (l1 : Int32) (l2 : Int32) (l3 : Int32) (_ : lv_has ls 4 [(0, .ref (gad G (7 + c))), (1, .int l1), (2, .int l2), (3, .int l3)]) (h : f3_manyOf_b27 S0 c (f3_manyOf_b4 S0 c l1 n) l1 l2 l3 = some (rr)), WI p l e (headSpec wsX3_manyOf rX3_manyOf).room s m args below meth cd G rr S0 M0 H locs (F0 m 27 ls []) := by
        intro H locs hW hS ls l1 l2 l3 hl h
        unfold f3_manyOf_b27 at h
        refine lv_iinc (v := (l3 + 1)) (lv' := [(3, .int ((l3 + 1))), (0, .ref (gad G (7 + c))), (1, .int l1), (2, .int l2)]) hx hb dX3_manyOf_27 hl (k := 3) rfl rfl (by decide) rfl (fun ls hl => ?_)
        refine lv_goto (tgt := 4) hx hb dX3_manyOf_30 (by decide) ?_
        exact ih _ _ hW hS ls l1 l2 ((l3 + 1)) (lv_sub hl [1, 2, 3, 0] rfl) h
      intro H locs hW hS ls l1 l2 l3 hl h
      rw [f3_manyOf_b4] at h
      refine lv_iload_n hx hb dX3_manyOf_4 rfl (lv_at hl 3 rfl) ?_
      refine lv_aload_n hx hb dX3_manyOf_5 rfl (lv_at hl 0 rfl) ?_
      refine va_get (D := G.1) (ci := 3) (v := .int (S0.1 (6 * c + 0))) (C := RX3) (T := TX3) (N := 5) hx hb hts hiX3 hown hK.1 hW.1 (7 + c) (lkP (c := c) (by omega)) rfl 4 (by decide) (hts _ (List.mem_of_getElem? (i := 1) rfl)) (fun _ h9 => h9) rfl dX3_manyOf_6 ?_
      refine lv_icmp_ge (tgt := 33) hx hb dX3_manyOf_9 (by decide) (fun c_1 => ?_) (fun c_1 => ?_)
      · have h := ite_t c_1 h
        refine lv_iload_n hx hb dX3_manyOf_33 rfl (lv_at hl 2 rfl) ?_
        obtain rfl := Option.some.inj h
        exact W.iret hx hb hr (fun t ht hw => ⟨⟨_, (), rfl, rfl, hW.ret ht⟩, hS.F ht⟩) hS.2.2 dX3_manyOf_34
      · have h := ite_f c_1 h
        refine lv_aload_n hx hb dX3_manyOf_12 rfl (lv_at hl 0 rfl) ?_
        refine va_get (D := G.1) (ci := 3) (v := .ref (gad G (14 + (10 * c + 3)))) (C := RX3) (T := TX3) (N := 5) hx hb hts hiX3 hown hK.1 hW.1 (7 + c) (lkP (c := c) (by omega)) rfl 3 (by decide) (hts _ (List.mem_of_getElem? (i := 2) rfl)) (fun _ h9 => h9) rfl dX3_manyOf_13 ?_
        refine lv_iload_n hx hb dX3_manyOf_16 rfl (lv_at hl 3 rfl) ?_
        obtain ⟨r_2, e_3, h⟩ := bnd_e h
        refine kV_I (As := [.int l3]) (rest := []) ⟨hx, hb, hml, hown, hts⟩ (tX4_at l G S0 M0 ((10 * c + 3)) (by omega) l3 r_2 e_3) (cwV 1 hts gX3_manyOf_X4_at rfl rfl rfl ⟨rfl, hdX4_at⟩ ⟨Nat.le_of_ble_eq_true rfl, Nat.le_of_ble_eq_true rfl⟩) (va_recv hK.1 hW.1 (ci := 4) (q0 := (14 + (10 * c + 3))) rfl (lkR (r := (10 * c + 3)) (by omega))) hK hW hS hA rfl hl.1 rfl (Nat.le_of_ble_eq_true rfl) dX3_manyOf_17 ⟨Nat.zero_le _, Nat.zero_le _⟩ (fun H locs hW hS => ?_)
        refine lv_iload_n hx hb dX3_manyOf_20 rfl (lv_at hl 1 rfl) ?_
        refine lv_icmp_ne (tgt := 27) hx hb dX3_manyOf_21 (by decide) (fun c_4 => ?_) (fun c_4 => ?_)
        · have h := ite_f c_4 h
          exact B27 _ _ hW hS ls l1 l2 l3 (lv_sub hl [0, 1, 2, 3] rfl) h
        · have h := ite_t c_4 h
          refine lv_iinc (v := (l2 + 1)) (lv' := [(2, .int ((l2 + 1))), (0, .ref (gad G (7 + c))), (1, .int l1), (3, .int l3)]) hx hb dX3_manyOf_24 hl (k := 2) rfl rfl (by decide) rfl (fun ls hl => ?_)
          exact B27 _ _ hW hS ls l1 ((l2 + 1)) l3 (lv_sub hl [1, 2, 0, 3] rfl) h
  unfold f3_manyOf at h
  refine lv_iconst (v := 0) hx hb dX3_manyOf_0 (by decide) ?_
  refine lv_istore_n (lv' := [(2, .int 0), (0, .ref (gad G (7 + c))), (1, .int p1)]) hx hb dX3_manyOf_1 rfl hl (by decide) rfl (fun ls hl => ?_)
  refine lv_iconst (v := 0) hx hb dX3_manyOf_2 (by decide) ?_
  refine lv_istore_n (lv' := [(3, .int 0), (2, .int 0), (0, .ref (gad G (7 + c))), (1, .int p1)]) hx hb dX3_manyOf_3 rfl hl (by decide) rfl (fun ls hl => ?_)
  exact B4 fuelN _ _ hW hS ls p1 0 0 (lv_sub hl [2, 3, 1, 0] rfl) h
abbrev rX0_campersWithMorePlots : Room := { frames := 2, cells := 0, slots := 0, locals := 44 }
set_option maxRecDepth 100000 in
set_option maxHeartbeats 8000000 in
theorem tX0_campersWithMorePlots (l : Launch) (G : WG) (S0 M0 : St) (c : Nat) (hc : c < 7) (rr : Int32) (h : f0_campersWithMorePlots S0 c = some (rr)) : CtI l yX0_campersWithMorePlots wsX0_campersWithMorePlots rX0_campersWithMorePlots G [.ref (gad G c)] S0 M0 rr S0 M0 := by
  refine Met.ofW (cc := cX0_campersWithMorePlots) (maxL := 3) (ret := (some .int)) (by decide) rfl ?_
  intro p e s m args below meth cd s₁ B hml hv
  obtain ⟨hargs, hK, hW⟩ := hv
  have hx := B.exec
  have hb := B.bytes
  have hr := B.returns
  have hts := atoms_spec (ws := wsX0_campersWithMorePlots) B.pre
  have hown : s.vm.findClass RX0 = some m.cls := findClass_of_methodNamed B.named
  have hlocks := B.notSynchronized
  have hA : ∀ q, Aw G q → Aw G q := fun _ h => h
  have hS : va_S (Aw G) s.heap s.heap [] := va_S.rf
  have he0 : entryFrame m args 3 = F0 m 0 ((lg_sl ([.ref (gad G c)]) ++ List.replicate (3 - (lg_sl ([.ref (gad G c)])).length) Slot.unset).toArray) [] := by rw [hargs]; exact lg_entry_eq _ _ _
  have hl := lv_entry ([.ref (gad G c)]) (n := 3) (Nat.le_of_ble_eq_true rfl)
  rw [he0]
  generalize (lg_sl ([.ref (gad G c)]) ++ List.replicate (3 - (lg_sl ([.ref (gad G c)])).length) Slot.unset).toArray = ls at hl ⊢
  have hl : lv_has ls 3 [(0, .ref (gad G c))] := hl
  have hiX0 : ∀ w ∈ u_ws RX0 TX0 12, w ∈ wsX0_campersWithMorePlots := by decide +kernel
  have B4 : ∀ (n : Nat), ∀ (H : Heap) (locs : List Loc) (_ : WD G S0 M0 H) (_ : va_S (Aw G) s.heap H locs) (ls : Array Slot) (l1 : Int32) (l2 : Int32) (_ : lv_has ls 3 [(0, .ref (gad G c)), (1, .int l1), (2, .int l2)]) (h : f0_campersWithMorePlots_b4 S0 c n l1 l2 = some (rr)), WI p l e (headSpec wsX0_campersWithMorePlots rX0_campersWithMorePlots).room s m args below meth cd G rr S0 M0 H locs (F0 m 4 ls []) := by
    intro n
    induction n with
    | zero => intro H locs hW hS ls l1 l2 hl h; cases (show (none : Option (Int32)) = some _ from h)
    | succ n ih =>
      have B27 : ∀ (H : Heap) (locs : List Loc) (_ : WD G S0 M0 H) (_ : va_S (Aw G) s.heap H locs) (ls : Array Slot) (l1 : Int32) (l2 : Int32) (_ : lv_has ls 3 [(0, .ref (gad G c)), (1, .int l1), (2, .int l2)]) (h : f0_campersWithMorePlots_b27 S0 c (f0_campersWithMorePlots_b4 S0 c n) l1 l2 = some (rr)), WI p l e (headSpec wsX0_campersWithMorePlots rX0_campersWithMorePlots).room s m args below meth cd G rr S0 M0 H locs (F0 m 27 ls []) := by
        intro H locs hW hS ls l1 l2 hl h
        unfold f0_campersWithMorePlots_b27 at h
        refine lv_iinc (v := (l2 + 1)) (lv' := [(2, .int ((l2 + 1))), (0, .ref (gad G c)), (1, .int l1)]) hx hb dX0_campersWithMorePlots_27 hl (k := 2) rfl rfl (by decide) rfl (fun ls hl => ?_)
        refine lv_goto (tgt := 4) hx hb dX0_campersWithMorePlots_30 (by decide) ?_
        exact ih _ _ hW hS ls l1 ((l2 + 1)) (lv_sub hl [1, 2, 0] rfl) h
      intro H locs hW hS ls l1 l2 hl h
      rw [f0_campersWithMorePlots_b4] at h
      refine lv_iload_n hx hb dX0_campersWithMorePlots_4 rfl (lv_at hl 2 rfl) ?_
      refine lv_aload_n hx hb dX0_campersWithMorePlots_5 rfl (lv_at hl 0 rfl) ?_
      refine va_get (D := G.1) (ci := 0) (v := .int (S0.1 (6 * c + 1))) (C := RX0) (T := TX0) (N := 12) hx hb hts hiX0 hown hK.1 hW.1 c (lkC (c := c) (by omega)) rfl 7 (by decide) (hts _ (List.mem_of_getElem? (i := 1) rfl)) (fun _ h9 => h9) rfl dX0_campersWithMorePlots_6 ?_
      refine lv_icmp_ge (tgt := 33) hx hb dX0_campersWithMorePlots_9 (by decide) (fun c_1 => ?_) (fun c_1 => ?_)
      · have h := ite_t c_1 h
        refine lv_iload_n hx hb dX0_campersWithMorePlots_33 rfl (lv_at hl 1 rfl) ?_
        obtain rfl := Option.some.inj h
        exact W.iret hx hb hr (fun t ht hw => ⟨⟨_, (), rfl, rfl, hW.ret ht⟩, hS.F ht⟩) hS.2.2 dX0_campersWithMorePlots_34
      · have h := ite_f c_1 h
        refine lv_aload_n hx hb dX0_campersWithMorePlots_12 rfl (lv_at hl 0 rfl) ?_
        refine va_get (D := G.1) (ci := 0) (v := .ref (gad G (7 + c))) (C := RX0) (T := TX0) (N := 12) hx hb hts hiX0 hown hK.1 hW.1 c (lkC (c := c) (by omega)) rfl 0 (by decide) (hts _ (List.mem_of_getElem? (i := 2) rfl)) (fun _ h9 => h9) rfl dX0_campersWithMorePlots_13 ?_
        refine lv_iload_n hx hb dX0_campersWithMorePlots_16 rfl (lv_at hl 2 rfl) ?_
        obtain ⟨r_2, e_3, h⟩ := bnd_e h
        refine kV_I (As := [.int l2]) (rest := []) ⟨hx, hb, hml, hown, hts⟩ (tX3_manyOf l G S0 M0 c (by omega) l2 r_2 e_3) (cwV 1 hts gX0_campersWithMorePlots_X3_manyOf rfl rfl rfl ⟨rfl, hdX3_manyOf⟩ ⟨Nat.le_of_ble_eq_true rfl, Nat.le_of_ble_eq_true rfl⟩) (va_recv hK.1 hW.1 (ci := 3) (q0 := (7 + c)) rfl (lkP (c := c) (by omega))) hK hW hS hA rfl hl.1 rfl (Nat.le_of_ble_eq_true rfl) dX0_campersWithMorePlots_17 ⟨Nat.zero_le _, Nat.zero_le _⟩ (fun H locs hW hS => ?_)
        refine lv_iconst (v := 1) hx hb dX0_campersWithMorePlots_20 (by decide) ?_
        refine lv_icmp_le (tgt := 27) hx hb dX0_campersWithMorePlots_21 (by decide) (fun c_4 => ?_) (fun c_4 => ?_)
        · have h := ite_t c_4 h
          exact B27 _ _ hW hS ls l1 l2 (lv_sub hl [0, 1, 2] rfl) h
        · have h := ite_f c_4 h
          refine lv_iinc (v := (l1 + 1)) (lv' := [(1, .int ((l1 + 1))), (0, .ref (gad G c)), (2, .int l2)]) hx hb dX0_campersWithMorePlots_24 hl (k := 1) rfl rfl (by decide) rfl (fun ls hl => ?_)
          exact B27 _ _ hW hS ls ((l1 + 1)) l2 (lv_sub hl [1, 0, 2] rfl) h
  unfold f0_campersWithMorePlots at h
  refine lv_iconst (v := 0) hx hb dX0_campersWithMorePlots_0 (by decide) ?_
  refine lv_istore_n (lv' := [(1, .int 0), (0, .ref (gad G c))]) hx hb dX0_campersWithMorePlots_1 rfl hl (by decide) rfl (fun ls hl => ?_)
  refine lv_iconst (v := 0) hx hb dX0_campersWithMorePlots_2 (by decide) ?_
  refine lv_istore_n (lv' := [(2, .int 0), (1, .int 0), (0, .ref (gad G c))]) hx hb dX0_campersWithMorePlots_3 rfl hl (by decide) rfl (fun ls hl => ?_)
  exact B4 fuelN _ _ hW hS ls 0 0 (lv_sub hl [2, 1, 0] rfl) h
abbrev rX3_leastDepth : Room := { frames := 1, cells := 0, slots := 0, locals := 21 }
set_option maxRecDepth 100000 in
set_option maxHeartbeats 8000000 in
theorem tX3_leastDepth (l : Launch) (G : WG) (S0 M0 : St) (c : Nat) (hc : c < 7) (rr : Int32) (h : f3_leastDepth S0 c = some (rr)) : CtI l yX3_leastDepth wsX3_leastDepth rX3_leastDepth G [.ref (gad G (7 + c))] S0 M0 rr S0 M0 := by
  refine Met.ofW (cc := cX3_leastDepth) (maxL := 3) (ret := (some .int)) (by decide) rfl ?_
  intro p e s m args below meth cd s₁ B hml hv
  obtain ⟨hargs, hK, hW⟩ := hv
  have hx := B.exec
  have hb := B.bytes
  have hr := B.returns
  have hts := atoms_spec (ws := wsX3_leastDepth) B.pre
  have hown : s.vm.findClass RX3 = some m.cls := findClass_of_methodNamed B.named
  have hlocks := B.notSynchronized
  have hA : ∀ q, Aw G q → Aw G q := fun _ h => h
  have hS : va_S (Aw G) s.heap s.heap [] := va_S.rf
  have he0 : entryFrame m args 3 = F0 m 0 ((lg_sl ([.ref (gad G (7 + c))]) ++ List.replicate (3 - (lg_sl ([.ref (gad G (7 + c))])).length) Slot.unset).toArray) [] := by rw [hargs]; exact lg_entry_eq _ _ _
  have hl := lv_entry ([.ref (gad G (7 + c))]) (n := 3) (Nat.le_of_ble_eq_true rfl)
  rw [he0]
  generalize (lg_sl ([.ref (gad G (7 + c))]) ++ List.replicate (3 - (lg_sl ([.ref (gad G (7 + c))])).length) Slot.unset).toArray = ls at hl ⊢
  have hl : lv_has ls 3 [(0, .ref (gad G (7 + c)))] := hl
  have hiX3 : ∀ w ∈ u_ws RX3 TX3 5, w ∈ wsX3_leastDepth := by decide +kernel
  have B5 : ∀ (n : Nat), ∀ (H : Heap) (locs : List Loc) (_ : WD G S0 M0 H) (_ : va_S (Aw G) s.heap H locs) (ls : Array Slot) (l1 : Int32) (l2 : Int32) (_ : lv_has ls 3 [(0, .ref (gad G (7 + c))), (1, .int l1), (2, .int l2)]) (h : f3_leastDepth_b5 S0 c n l1 l2 = some (rr)), WI p l e (headSpec wsX3_leastDepth rX3_leastDepth).room s m args below meth cd G rr S0 M0 H locs (F0 m 5 ls []) := by
    intro n
    induction n with
    | zero => intro H locs hW hS ls l1 l2 hl h; cases (show (none : Option (Int32)) = some _ from h)
    | succ n ih =>
      intro H locs hW hS ls l1 l2 hl h
      rw [f3_leastDepth_b5] at h
      refine lv_iload_n hx hb dX3_leastDepth_5 rfl (lv_at hl 2 rfl) ?_
      refine lv_aload_n hx hb dX3_leastDepth_6 rfl (lv_at hl 0 rfl) ?_
      refine va_get (D := G.1) (ci := 3) (v := .int (S0.1 (6 * c + 0))) (C := RX3) (T := TX3) (N := 5) hx hb hts hiX3 hown hK.1 hW.1 (7 + c) (lkP (c := c) (by omega)) rfl 4 (by decide) (hts _ (List.mem_of_getElem? (i := 1) rfl)) (fun _ h9 => h9) rfl dX3_leastDepth_7 ?_
      refine lv_icmp_ge (tgt := 32) hx hb dX3_leastDepth_10 (by decide) (fun c_1 => ?_) (fun c_1 => ?_)
      · have h := ite_t c_1 h
        refine lv_iload_n hx hb dX3_leastDepth_32 rfl (lv_at hl 1 rfl) ?_
        obtain rfl := Option.some.inj h
        exact W.iret hx hb hr (fun t ht hw => ⟨⟨_, (), rfl, rfl, hW.ret ht⟩, hS.F ht⟩) hS.2.2 dX3_leastDepth_33
      · have h := ite_f c_1 h
        refine lv_iload_n hx hb dX3_leastDepth_13 rfl (lv_at hl 1 rfl) ?_
        refine lv_aload_n hx hb dX3_leastDepth_14 rfl (lv_at hl 0 rfl) ?_
        refine va_get (D := G.1) (ci := 3) (v := .ref (gad G (14 + (10 * c + 2)))) (C := RX3) (T := TX3) (N := 5) hx hb hts hiX3 hown hK.1 hW.1 (7 + c) (lkP (c := c) (by omega)) rfl 2 (by decide) (hts _ (List.mem_of_getElem? (i := 2) rfl)) (fun _ h9 => h9) rfl dX3_leastDepth_15 ?_
        refine lv_iload_n hx hb dX3_leastDepth_18 rfl (lv_at hl 2 rfl) ?_
        obtain ⟨r_2, e_3, h⟩ := bnd_e h
        refine kV_I (As := [.int l2]) (rest := [.int l1]) ⟨hx, hb, hml, hown, hts⟩ (tX4_at l G S0 M0 ((10 * c + 2)) (by omega) l2 r_2 e_3) (cwV 1 hts gX3_leastDepth_X4_at rfl rfl rfl ⟨rfl, hdX4_at⟩ ⟨Nat.le_of_ble_eq_true rfl, Nat.le_of_ble_eq_true rfl⟩) (va_recv hK.1 hW.1 (ci := 4) (q0 := (14 + (10 * c + 2))) rfl (lkR (r := (10 * c + 2)) (by omega))) hK hW hS hA rfl hl.1 rfl (Nat.le_of_ble_eq_true rfl) dX3_leastDepth_19 ⟨Nat.zero_le _, Nat.zero_le _⟩ (fun H locs hW hS => ?_)
        refine va_mmin hx hb (hml.trans hl.1.symm) hown (hts _ (List.mem_of_getElem? (i := 3) rfl)) (hts _ (List.mem_of_getElem? (i := 4) rfl)) (hts _ (List.mem_of_getElem? (i := 5) rfl)) (hts _ (List.mem_of_getElem? (i := 6) rfl)) (Nat.le_of_ble_eq_true rfl) (Nat.le_of_ble_eq_true rfl) (Nat.zero_le _) (Nat.zero_le _) dX3_leastDepth_22 ?_
        obtain ⟨x_4, ex_4, h⟩ := nam_e h
        refine lv_ni ex_4 ?_
        refine lv_istore_n (lv' := [(1, .int x_4), (0, .ref (gad G (7 + c))), (2, .int l2)]) hx hb dX3_leastDepth_25 rfl hl (by decide) rfl (fun ls hl => ?_)
        refine lv_iinc (v := (l2 + 1)) (lv' := [(2, .int ((l2 + 1))), (1, .int x_4), (0, .ref (gad G (7 + c)))]) hx hb dX3_leastDepth_26 hl (k := 2) rfl rfl (by decide) rfl (fun ls hl => ?_)
        refine lv_goto (tgt := 5) hx hb dX3_leastDepth_29 (by decide) ?_
        exact ih _ _ hW hS ls x_4 ((l2 + 1)) (lv_sub hl [2, 1, 0] rfl) h
  unfold f3_leastDepth at h
  refine lv_bipush (v := 12) hx hb dX3_leastDepth_0 (by decide) ?_
  refine lv_istore_n (lv' := [(1, .int 12), (0, .ref (gad G (7 + c)))]) hx hb dX3_leastDepth_2 rfl hl (by decide) rfl (fun ls hl => ?_)
  refine lv_iconst (v := 0) hx hb dX3_leastDepth_3 (by decide) ?_
  refine lv_istore_n (lv' := [(2, .int 0), (1, .int 12), (0, .ref (gad G (7 + c)))]) hx hb dX3_leastDepth_4 rfl hl (by decide) rfl (fun ls hl => ?_)
  exact B5 fuelN _ _ hW hS ls 12 0 (lv_sub hl [2, 1, 0] rfl) h
abbrev rX3_greatestDepth : Room := { frames := 1, cells := 0, slots := 0, locals := 21 }
set_option maxRecDepth 100000 in
set_option maxHeartbeats 8000000 in
theorem tX3_greatestDepth (l : Launch) (G : WG) (S0 M0 : St) (c : Nat) (hc : c < 7) (rr : Int32) (h : f3_greatestDepth S0 c = some (rr)) : CtI l yX3_greatestDepth wsX3_greatestDepth rX3_greatestDepth G [.ref (gad G (7 + c))] S0 M0 rr S0 M0 := by
  refine Met.ofW (cc := cX3_greatestDepth) (maxL := 3) (ret := (some .int)) (by decide) rfl ?_
  intro p e s m args below meth cd s₁ B hml hv
  obtain ⟨hargs, hK, hW⟩ := hv
  have hx := B.exec
  have hb := B.bytes
  have hr := B.returns
  have hts := atoms_spec (ws := wsX3_greatestDepth) B.pre
  have hown : s.vm.findClass RX3 = some m.cls := findClass_of_methodNamed B.named
  have hlocks := B.notSynchronized
  have hA : ∀ q, Aw G q → Aw G q := fun _ h => h
  have hS : va_S (Aw G) s.heap s.heap [] := va_S.rf
  have he0 : entryFrame m args 3 = F0 m 0 ((lg_sl ([.ref (gad G (7 + c))]) ++ List.replicate (3 - (lg_sl ([.ref (gad G (7 + c))])).length) Slot.unset).toArray) [] := by rw [hargs]; exact lg_entry_eq _ _ _
  have hl := lv_entry ([.ref (gad G (7 + c))]) (n := 3) (Nat.le_of_ble_eq_true rfl)
  rw [he0]
  generalize (lg_sl ([.ref (gad G (7 + c))]) ++ List.replicate (3 - (lg_sl ([.ref (gad G (7 + c))])).length) Slot.unset).toArray = ls at hl ⊢
  have hl : lv_has ls 3 [(0, .ref (gad G (7 + c)))] := hl
  have hiX3 : ∀ w ∈ u_ws RX3 TX3 5, w ∈ wsX3_greatestDepth := by decide +kernel
  have B4 : ∀ (n : Nat), ∀ (H : Heap) (locs : List Loc) (_ : WD G S0 M0 H) (_ : va_S (Aw G) s.heap H locs) (ls : Array Slot) (l1 : Int32) (l2 : Int32) (_ : lv_has ls 3 [(0, .ref (gad G (7 + c))), (1, .int l1), (2, .int l2)]) (h : f3_greatestDepth_b4 S0 c n l1 l2 = some (rr)), WI p l e (headSpec wsX3_greatestDepth rX3_greatestDepth).room s m args below meth cd G rr S0 M0 H locs (F0 m 4 ls []) := by
    intro n
    induction n with
    | zero => intro H locs hW hS ls l1 l2 hl h; cases (show (none : Option (Int32)) = some _ from h)
    | succ n ih =>
      intro H locs hW hS ls l1 l2 hl h
      rw [f3_greatestDepth_b4] at h
      refine lv_iload_n hx hb dX3_greatestDepth_4 rfl (lv_at hl 2 rfl) ?_
      refine lv_aload_n hx hb dX3_greatestDepth_5 rfl (lv_at hl 0 rfl) ?_
      refine va_get (D := G.1) (ci := 3) (v := .int (S0.1 (6 * c + 0))) (C := RX3) (T := TX3) (N := 5) hx hb hts hiX3 hown hK.1 hW.1 (7 + c) (lkP (c := c) (by omega)) rfl 4 (by decide) (hts _ (List.mem_of_getElem? (i := 1) rfl)) (fun _ h9 => h9) rfl dX3_greatestDepth_6 ?_
      refine lv_icmp_ge (tgt := 31) hx hb dX3_greatestDepth_9 (by decide) (fun c_1 => ?_) (fun c_1 => ?_)
      · have h := ite_t c_1 h
        refine lv_iload_n hx hb dX3_greatestDepth_31 rfl (lv_at hl 1 rfl) ?_
        obtain rfl := Option.some.inj h
        exact W.iret hx hb hr (fun t ht hw => ⟨⟨_, (), rfl, rfl, hW.ret ht⟩, hS.F ht⟩) hS.2.2 dX3_greatestDepth_32
      · have h := ite_f c_1 h
        refine lv_iload_n hx hb dX3_greatestDepth_12 rfl (lv_at hl 1 rfl) ?_
        refine lv_aload_n hx hb dX3_greatestDepth_13 rfl (lv_at hl 0 rfl) ?_
        refine va_get (D := G.1) (ci := 3) (v := .ref (gad G (14 + (10 * c + 2)))) (C := RX3) (T := TX3) (N := 5) hx hb hts hiX3 hown hK.1 hW.1 (7 + c) (lkP (c := c) (by omega)) rfl 2 (by decide) (hts _ (List.mem_of_getElem? (i := 2) rfl)) (fun _ h9 => h9) rfl dX3_greatestDepth_14 ?_
        refine lv_iload_n hx hb dX3_greatestDepth_17 rfl (lv_at hl 2 rfl) ?_
        obtain ⟨r_2, e_3, h⟩ := bnd_e h
        refine kV_I (As := [.int l2]) (rest := [.int l1]) ⟨hx, hb, hml, hown, hts⟩ (tX4_at l G S0 M0 ((10 * c + 2)) (by omega) l2 r_2 e_3) (cwV 1 hts gX3_greatestDepth_X4_at rfl rfl rfl ⟨rfl, hdX4_at⟩ ⟨Nat.le_of_ble_eq_true rfl, Nat.le_of_ble_eq_true rfl⟩) (va_recv hK.1 hW.1 (ci := 4) (q0 := (14 + (10 * c + 2))) rfl (lkR (r := (10 * c + 2)) (by omega))) hK hW hS hA rfl hl.1 rfl (Nat.le_of_ble_eq_true rfl) dX3_greatestDepth_18 ⟨Nat.zero_le _, Nat.zero_le _⟩ (fun H locs hW hS => ?_)
        refine va_mmax hx hb (hml.trans hl.1.symm) hown (hts _ (List.mem_of_getElem? (i := 3) rfl)) (hts _ (List.mem_of_getElem? (i := 4) rfl)) (hts _ (List.mem_of_getElem? (i := 5) rfl)) (hts _ (List.mem_of_getElem? (i := 6) rfl)) (Nat.le_of_ble_eq_true rfl) (Nat.le_of_ble_eq_true rfl) (Nat.zero_le _) (Nat.zero_le _) dX3_greatestDepth_21 ?_
        obtain ⟨x_4, ex_4, h⟩ := nam_e h
        refine lv_ni ex_4 ?_
        refine lv_istore_n (lv' := [(1, .int x_4), (0, .ref (gad G (7 + c))), (2, .int l2)]) hx hb dX3_greatestDepth_24 rfl hl (by decide) rfl (fun ls hl => ?_)
        refine lv_iinc (v := (l2 + 1)) (lv' := [(2, .int ((l2 + 1))), (1, .int x_4), (0, .ref (gad G (7 + c)))]) hx hb dX3_greatestDepth_25 hl (k := 2) rfl rfl (by decide) rfl (fun ls hl => ?_)
        refine lv_goto (tgt := 4) hx hb dX3_greatestDepth_28 (by decide) ?_
        exact ih _ _ hW hS ls x_4 ((l2 + 1)) (lv_sub hl [2, 1, 0] rfl) h
  unfold f3_greatestDepth at h
  refine lv_iconst (v := 0) hx hb dX3_greatestDepth_0 (by decide) ?_
  refine lv_istore_n (lv' := [(1, .int 0), (0, .ref (gad G (7 + c)))]) hx hb dX3_greatestDepth_1 rfl hl (by decide) rfl (fun ls hl => ?_)
  refine lv_iconst (v := 0) hx hb dX3_greatestDepth_2 (by decide) ?_
  refine lv_istore_n (lv' := [(2, .int 0), (1, .int 0), (0, .ref (gad G (7 + c)))]) hx hb dX3_greatestDepth_3 rfl hl (by decide) rfl (fun ls hl => ?_)
  exact B4 fuelN _ _ hW hS ls 0 0 (lv_sub hl [2, 1, 0] rfl) h
abbrev rX0_campersHere : Room := { frames := 1, cells := 0, slots := 0, locals := 21 }
set_option maxRecDepth 100000 in
set_option maxHeartbeats 8000000 in
theorem tX0_campersHere (l : Launch) (G : WG) (S0 M0 : St) (c : Nat) (hc : c < 7) (rr : Int32) (h : f0_campersHere S0 c = some (rr)) : CtI l yX0_campersHere wsX0_campersHere rX0_campersHere G [.ref (gad G c)] S0 M0 rr S0 M0 := by
  refine Met.ofW (cc := cX0_campersHere) (maxL := 3) (ret := (some .int)) (by decide) rfl ?_
  intro p e s m args below meth cd s₁ B hml hv
  obtain ⟨hargs, hK, hW⟩ := hv
  have hx := B.exec
  have hb := B.bytes
  have hr := B.returns
  have hts := atoms_spec (ws := wsX0_campersHere) B.pre
  have hown : s.vm.findClass RX0 = some m.cls := findClass_of_methodNamed B.named
  have hlocks := B.notSynchronized
  have hA : ∀ q, Aw G q → Aw G q := fun _ h => h
  have hS : va_S (Aw G) s.heap s.heap [] := va_S.rf
  have he0 : entryFrame m args 3 = F0 m 0 ((lg_sl ([.ref (gad G c)]) ++ List.replicate (3 - (lg_sl ([.ref (gad G c)])).length) Slot.unset).toArray) [] := by rw [hargs]; exact lg_entry_eq _ _ _
  have hl := lv_entry ([.ref (gad G c)]) (n := 3) (Nat.le_of_ble_eq_true rfl)
  rw [he0]
  generalize (lg_sl ([.ref (gad G c)]) ++ List.replicate (3 - (lg_sl ([.ref (gad G c)])).length) Slot.unset).toArray = ls at hl ⊢
  have hl : lv_has ls 3 [(0, .ref (gad G c))] := hl
  have hiX0 : ∀ w ∈ u_ws RX0 TX0 12, w ∈ wsX0_campersHere := by decide +kernel
  have B4 : ∀ (n : Nat), ∀ (H : Heap) (locs : List Loc) (_ : WD G S0 M0 H) (_ : va_S (Aw G) s.heap H locs) (ls : Array Slot) (l1 : Int32) (l2 : Int32) (_ : lv_has ls 3 [(0, .ref (gad G c)), (1, .int l1), (2, .int l2)]) (h : f0_campersHere_b4 S0 c n l1 l2 = some (rr)), WI p l e (headSpec wsX0_campersHere rX0_campersHere).room s m args below meth cd G rr S0 M0 H locs (F0 m 4 ls []) := by
    intro n
    induction n with
    | zero => intro H locs hW hS ls l1 l2 hl h; cases (show (none : Option (Int32)) = some _ from h)
    | succ n ih =>
      intro H locs hW hS ls l1 l2 hl h
      rw [f0_campersHere_b4] at h
      refine lv_iload_n hx hb dX0_campersHere_4 rfl (lv_at hl 2 rfl) ?_
      refine lv_aload_n hx hb dX0_campersHere_5 rfl (lv_at hl 0 rfl) ?_
      refine va_get (D := G.1) (ci := 0) (v := .int (S0.1 (6 * c + 1))) (C := RX0) (T := TX0) (N := 12) hx hb hts hiX0 hown hK.1 hW.1 c (lkC (c := c) (by omega)) rfl 7 (by decide) (hts _ (List.mem_of_getElem? (i := 1) rfl)) (fun _ h9 => h9) rfl dX0_campersHere_6 ?_
      refine lv_icmp_ge (tgt := 29) hx hb dX0_campersHere_9 (by decide) (fun c_1 => ?_) (fun c_1 => ?_)
      · have h := ite_t c_1 h
        refine lv_iload_n hx hb dX0_campersHere_29 rfl (lv_at hl 1 rfl) ?_
        obtain rfl := Option.some.inj h
        exact W.iret hx hb hr (fun t ht hw => ⟨⟨_, (), rfl, rfl, hW.ret ht⟩, hS.F ht⟩) hS.2.2 dX0_campersHere_30
      · have h := ite_f c_1 h
        refine lv_iload_n hx hb dX0_campersHere_12 rfl (lv_at hl 1 rfl) ?_
        refine lv_aload_n hx hb dX0_campersHere_13 rfl (lv_at hl 0 rfl) ?_
        refine va_get (D := G.1) (ci := 0) (v := .ref (gad G (14 + (10 * c + 6)))) (C := RX0) (T := TX0) (N := 12) hx hb hts hiX0 hown hK.1 hW.1 c (lkC (c := c) (by omega)) rfl 3 (by decide) (hts _ (List.mem_of_getElem? (i := 2) rfl)) (fun _ h9 => h9) rfl dX0_campersHere_14 ?_
        refine lv_iload_n hx hb dX0_campersHere_17 rfl (lv_at hl 2 rfl) ?_
        obtain ⟨r_2, e_3, h⟩ := bnd_e h
        refine kV_I (As := [.int l2]) (rest := [.int l1]) ⟨hx, hb, hml, hown, hts⟩ (tX4_at l G S0 M0 ((10 * c + 6)) (by omega) l2 r_2 e_3) (cwV 1 hts gX0_campersHere_X4_at rfl rfl rfl ⟨rfl, hdX4_at⟩ ⟨Nat.le_of_ble_eq_true rfl, Nat.le_of_ble_eq_true rfl⟩) (va_recv hK.1 hW.1 (ci := 4) (q0 := (14 + (10 * c + 6))) rfl (lkR (r := (10 * c + 6)) (by omega))) hK hW hS hA rfl hl.1 rfl (Nat.le_of_ble_eq_true rfl) dX0_campersHere_18 ⟨Nat.zero_le _, Nat.zero_le _⟩ (fun H locs hW hS => ?_)
        refine lv_iadd hx hb dX0_campersHere_21 ?_
        obtain ⟨x_4, ex_4, h⟩ := nam_e h
        refine lv_ni ex_4 ?_
        refine lv_istore_n (lv' := [(1, .int x_4), (0, .ref (gad G c)), (2, .int l2)]) hx hb dX0_campersHere_22 rfl hl (by decide) rfl (fun ls hl => ?_)
        refine lv_iinc (v := (l2 + 1)) (lv' := [(2, .int ((l2 + 1))), (1, .int x_4), (0, .ref (gad G c))]) hx hb dX0_campersHere_23 hl (k := 2) rfl rfl (by decide) rfl (fun ls hl => ?_)
        refine lv_goto (tgt := 4) hx hb dX0_campersHere_26 (by decide) ?_
        exact ih _ _ hW hS ls x_4 ((l2 + 1)) (lv_sub hl [2, 1, 0] rfl) h
  unfold f0_campersHere at h
  refine lv_iconst (v := 0) hx hb dX0_campersHere_0 (by decide) ?_
  refine lv_istore_n (lv' := [(1, .int 0), (0, .ref (gad G c))]) hx hb dX0_campersHere_1 rfl hl (by decide) rfl (fun ls hl => ?_)
  refine lv_iconst (v := 0) hx hb dX0_campersHere_2 (by decide) ?_
  refine lv_istore_n (lv' := [(2, .int 0), (1, .int 0), (0, .ref (gad G c))]) hx hb dX0_campersHere_3 rfl hl (by decide) rfl (fun ls hl => ?_)
  exact B4 fuelN _ _ hW hS ls 0 0 (lv_sub hl [2, 1, 0] rfl) h
abbrev rX5_count : Room := { frames := 3, cells := 0, slots := 0, locals := 66 }
set_option maxRecDepth 100000 in
set_option maxHeartbeats 8000000 in
theorem tX5_count (l : Launch) (G : WG) (S0 M0 : St) (p1 : Int32) (rr : Int32) (h : f5_count S0 p1 = some (rr)) : CtI l yX5_count wsX5_count rX5_count G [.ref (gad G 154), .int p1] S0 M0 rr S0 M0 := by
  refine Met.ofW (cc := cX5_count) (maxL := 2) (ret := (some .int)) (by decide) rfl ?_
  intro p e s m args below meth cd s₁ B hml hv
  obtain ⟨hargs, hK, hW⟩ := hv
  have hx := B.exec
  have hb := B.bytes
  have hr := B.returns
  have hts := atoms_spec (ws := wsX5_count) B.pre
  have hown : s.vm.findClass RX5 = some m.cls := findClass_of_methodNamed B.named
  have hlocks := B.notSynchronized
  have hA : ∀ q, Aw G q → Aw G q := fun _ h => h
  have hS : va_S (Aw G) s.heap s.heap [] := va_S.rf
  have he0 : entryFrame m args 2 = F0 m 0 ((lg_sl ([.ref (gad G 154), .int p1]) ++ List.replicate (2 - (lg_sl ([.ref (gad G 154), .int p1])).length) Slot.unset).toArray) [] := by rw [hargs]; exact lg_entry_eq _ _ _
  have hl := lv_entry ([.ref (gad G 154), .int p1]) (n := 2) (Nat.le_of_ble_eq_true rfl)
  rw [he0]
  generalize (lg_sl ([.ref (gad G 154), .int p1]) ++ List.replicate (2 - (lg_sl ([.ref (gad G 154), .int p1])).length) Slot.unset).toArray = ls at hl ⊢
  have hl : lv_has ls 2 [(0, .ref (gad G 154)), (1, .int p1)] := hl
  have hiX0 : ∀ w ∈ u_ws RX0 TX0 12, w ∈ wsX5_count := by decide +kernel
  have hiX1 : ∀ w ∈ u_ws RX1 TX1 2, w ∈ wsX5_count := by decide +kernel
  have hiX2 : ∀ w ∈ u_ws RX2 TX2 3, w ∈ wsX5_count := by decide +kernel
  have hiX3 : ∀ w ∈ u_ws RX3 TX3 5, w ∈ wsX5_count := by decide +kernel
  have hiX5 : ∀ w ∈ u_ws RX5 TX5 6, w ∈ wsX5_count := by decide +kernel
  unfold f5_count at h
  refine lv_iload_n hx hb dX5_count_0 rfl (lv_at hl 1 rfl) ?_
  by_cases c_1 : Int32.toInt p1 < 0 ∨ 11 < Int32.toInt p1
  · have h := ite_t c_1 h
    refine lv_tableOut (tgt := 169) hx hb dX5_count_1 c_1 (by decide) ?_
    refine lv_bipush (v := (-2)) hx hb dX5_count_169 (by decide) ?_
    obtain rfl := Option.some.inj h
    exact W.iret hx hb hr (fun t ht hw => ⟨⟨_, (), rfl, rfl, hW.ret ht⟩, hS.F ht⟩) hS.2.2 dX5_count_171
  · have h := ite_f c_1 h
    by_cases c_2 : (p1 : Int32) = 0
    · have h := ite_t c_2 h
      refine lv_tableIn (off := 63) (tgt := 64) hx hb dX5_count_1 (by rw [c_2]; decide) (by rw [c_2]; decide) (by rw [c_2]; rfl) (by decide) ?_
      refine lv_aload_n hx hb dX5_count_64 rfl (lv_at hl 0 rfl) ?_
      refine va_get (D := G.1) (ci := 5) (v := .ref (gad G 0)) (C := RX5) (T := TX5) (N := 6) hx hb hts hiX5 hown hK.1 hW.1 154 lkT rfl 0 (by decide) (hts _ (List.mem_of_getElem? (i := 1) rfl)) (fun _ h9 => h9) rfl dX5_count_65 ?_
      obtain ⟨r_3, e_4, h⟩ := bnd_e h
      refine kV_I (As := []) (rest := []) ⟨hx, hb, hml, hown, hts⟩ (tX0_campersHere l G S0 M0 0 (by omega) r_3 e_4) (cwV 0 hts gX5_count_X0_campersHere rfl rfl rfl ⟨rfl, hdX0_campersHere⟩ ⟨Nat.le_of_ble_eq_true rfl, Nat.le_of_ble_eq_true rfl⟩) (va_recv hK.1 hW.1 (ci := 0) (q0 := 0) rfl (lkC (c := 0) (by omega))) hK hW hS hA rfl hl.1 rfl (Nat.le_of_ble_eq_true rfl) dX5_count_68 ⟨Nat.zero_le _, Nat.zero_le _⟩ (fun H locs hW hS => ?_)
      obtain rfl := Option.some.inj h
      exact W.iret hx hb hr (fun t ht hw => ⟨⟨_, (), rfl, rfl, hW.ret ht⟩, hS.F ht⟩) hS.2.2 dX5_count_71
    · have h := ite_f c_2 h
      by_cases c_5 : (p1 : Int32) = 1
      · have h := ite_t c_5 h
        refine lv_tableIn (off := 71) (tgt := 72) hx hb dX5_count_1 (by rw [c_5]; decide) (by rw [c_5]; decide) (by rw [c_5]; rfl) (by decide) ?_
        refine lv_aload_n hx hb dX5_count_72 rfl (lv_at hl 0 rfl) ?_
        refine va_get (D := G.1) (ci := 5) (v := .ref (gad G 0)) (C := RX5) (T := TX5) (N := 6) hx hb hts hiX5 hown hK.1 hW.1 154 lkT rfl 0 (by decide) (hts _ (List.mem_of_getElem? (i := 1) rfl)) (fun _ h9 => h9) rfl dX5_count_73 ?_
        refine va_getN (D := G.1) (ci := 0) (v := .int (S0.1 (6 * 0 + 1))) (C := RX0) (T := TX0) (N := 12) hx hb hts hiX0 hown hK.1 hW.1 0 (lkC (c := 0) (by omega)) rfl 7 (by decide) (va_Nw.use rfl (hK.2 _ (List.mem_of_getElem? (i := 6) rfl))) (fun _ h9 => h9) rfl dX5_count_76 ?_
        obtain rfl := Option.some.inj h
        exact W.iret hx hb hr (fun t ht hw => ⟨⟨_, (), rfl, rfl, hW.ret ht⟩, hS.F ht⟩) hS.2.2 dX5_count_79
      · have h := ite_f c_5 h
        by_cases c_6 : (p1 : Int32) = 2
        · have h := ite_t c_6 h
          refine lv_tableIn (off := 79) (tgt := 80) hx hb dX5_count_1 (by rw [c_6]; decide) (by rw [c_6]; decide) (by rw [c_6]; rfl) (by decide) ?_
          refine lv_aload_n hx hb dX5_count_80 rfl (lv_at hl 0 rfl) ?_
          refine va_get (D := G.1) (ci := 5) (v := .ref (gad G 0)) (C := RX5) (T := TX5) (N := 6) hx hb hts hiX5 hown hK.1 hW.1 154 lkT rfl 0 (by decide) (hts _ (List.mem_of_getElem? (i := 1) rfl)) (fun _ h9 => h9) rfl dX5_count_81 ?_
          refine va_getN (D := G.1) (ci := 0) (v := .ref (gad G (7 + 0))) (C := RX0) (T := TX0) (N := 12) hx hb hts hiX0 hown hK.1 hW.1 0 (lkC (c := 0) (by omega)) rfl 0 (by decide) (va_Nw.use rfl (hK.2 _ (List.mem_of_getElem? (i := 1) rfl))) (fun _ h9 => h9) rfl dX5_count_84 ?_
          refine va_getN (D := G.1) (ci := 3) (v := .int (S0.1 (6 * 0 + 0))) (C := RX3) (T := TX3) (N := 5) hx hb hts hiX3 hown hK.1 hW.1 (7 + 0) (lkP (c := 0) (by omega)) rfl 4 (by decide) (va_Nw.use rfl (hK.2 _ (List.mem_of_getElem? (i := 0) rfl))) (fun _ h9 => h9) rfl dX5_count_87 ?_
          obtain rfl := Option.some.inj h
          exact W.iret hx hb hr (fun t ht hw => ⟨⟨_, (), rfl, rfl, hW.ret ht⟩, hS.F ht⟩) hS.2.2 dX5_count_90
        · have h := ite_f c_6 h
          by_cases c_7 : (p1 : Int32) = 3
          · have h := ite_t c_7 h
            refine lv_tableIn (off := 90) (tgt := 91) hx hb dX5_count_1 (by rw [c_7]; decide) (by rw [c_7]; decide) (by rw [c_7]; rfl) (by decide) ?_
            refine lv_aload_n hx hb dX5_count_91 rfl (lv_at hl 0 rfl) ?_
            refine va_get (D := G.1) (ci := 5) (v := .ref (gad G 0)) (C := RX5) (T := TX5) (N := 6) hx hb hts hiX5 hown hK.1 hW.1 154 lkT rfl 0 (by decide) (hts _ (List.mem_of_getElem? (i := 1) rfl)) (fun _ h9 => h9) rfl dX5_count_92 ?_
            refine va_getN (D := G.1) (ci := 0) (v := .int (S0.1 (6 * 0 + 2))) (C := RX0) (T := TX0) (N := 12) hx hb hts hiX0 hown hK.1 hW.1 0 (lkC (c := 0) (by omega)) rfl 8 (by decide) (va_Nw.use rfl (hK.2 _ (List.mem_of_getElem? (i := 7) rfl))) (fun _ h9 => h9) rfl dX5_count_95 ?_
            obtain rfl := Option.some.inj h
            exact W.iret hx hb hr (fun t ht hw => ⟨⟨_, (), rfl, rfl, hW.ret ht⟩, hS.F ht⟩) hS.2.2 dX5_count_98
          · have h := ite_f c_7 h
            by_cases c_8 : (p1 : Int32) = 4
            · have h := ite_t c_8 h
              refine lv_tableIn (off := 98) (tgt := 99) hx hb dX5_count_1 (by rw [c_8]; decide) (by rw [c_8]; decide) (by rw [c_8]; rfl) (by decide) ?_
              refine lv_aload_n hx hb dX5_count_99 rfl (lv_at hl 0 rfl) ?_
              refine va_get (D := G.1) (ci := 5) (v := .ref (gad G 0)) (C := RX5) (T := TX5) (N := 6) hx hb hts hiX5 hown hK.1 hW.1 154 lkT rfl 0 (by decide) (hts _ (List.mem_of_getElem? (i := 1) rfl)) (fun _ h9 => h9) rfl dX5_count_100 ?_
              refine va_getN (D := G.1) (ci := 0) (v := .ref (gad G (7 + 0))) (C := RX0) (T := TX0) (N := 12) hx hb hts hiX0 hown hK.1 hW.1 0 (lkC (c := 0) (by omega)) rfl 0 (by decide) (va_Nw.use rfl (hK.2 _ (List.mem_of_getElem? (i := 1) rfl))) (fun _ h9 => h9) rfl dX5_count_103 ?_
              obtain ⟨r_9, e_10, h⟩ := bnd_e h
              refine kV_I (As := []) (rest := []) ⟨hx, hb, hml, hown, hts⟩ (tX3_greatestDepth l G S0 M0 0 (by omega) r_9 e_10) (cwV 0 hts gX5_count_X3_greatestDepth rfl rfl rfl ⟨rfl, hdX3_greatestDepth⟩ ⟨Nat.le_of_ble_eq_true rfl, Nat.le_of_ble_eq_true rfl⟩) (va_recv hK.1 hW.1 (ci := 3) (q0 := (7 + 0)) rfl (lkP (c := 0) (by omega))) hK hW hS hA rfl hl.1 rfl (Nat.le_of_ble_eq_true rfl) dX5_count_106 ⟨Nat.zero_le _, Nat.zero_le _⟩ (fun H locs hW hS => ?_)
              obtain rfl := Option.some.inj h
              exact W.iret hx hb hr (fun t ht hw => ⟨⟨_, (), rfl, rfl, hW.ret ht⟩, hS.F ht⟩) hS.2.2 dX5_count_109
            · have h := ite_f c_8 h
              by_cases c_11 : (p1 : Int32) = 5
              · have h := ite_t c_11 h
                refine lv_tableIn (off := 109) (tgt := 110) hx hb dX5_count_1 (by rw [c_11]; decide) (by rw [c_11]; decide) (by rw [c_11]; rfl) (by decide) ?_
                refine lv_aload_n hx hb dX5_count_110 rfl (lv_at hl 0 rfl) ?_
                refine va_get (D := G.1) (ci := 5) (v := .ref (gad G 0)) (C := RX5) (T := TX5) (N := 6) hx hb hts hiX5 hown hK.1 hW.1 154 lkT rfl 0 (by decide) (hts _ (List.mem_of_getElem? (i := 1) rfl)) (fun _ h9 => h9) rfl dX5_count_111 ?_
                refine va_getN (D := G.1) (ci := 0) (v := .ref (gad G (7 + 0))) (C := RX0) (T := TX0) (N := 12) hx hb hts hiX0 hown hK.1 hW.1 0 (lkC (c := 0) (by omega)) rfl 0 (by decide) (va_Nw.use rfl (hK.2 _ (List.mem_of_getElem? (i := 1) rfl))) (fun _ h9 => h9) rfl dX5_count_114 ?_
                obtain ⟨r_12, e_13, h⟩ := bnd_e h
                refine kV_I (As := []) (rest := []) ⟨hx, hb, hml, hown, hts⟩ (tX3_leastDepth l G S0 M0 0 (by omega) r_12 e_13) (cwV 0 hts gX5_count_X3_leastDepth rfl rfl rfl ⟨rfl, hdX3_leastDepth⟩ ⟨Nat.le_of_ble_eq_true rfl, Nat.le_of_ble_eq_true rfl⟩) (va_recv hK.1 hW.1 (ci := 3) (q0 := (7 + 0)) rfl (lkP (c := 0) (by omega))) hK hW hS hA rfl hl.1 rfl (Nat.le_of_ble_eq_true rfl) dX5_count_117 ⟨Nat.zero_le _, Nat.zero_le _⟩ (fun H locs hW hS => ?_)
                obtain rfl := Option.some.inj h
                exact W.iret hx hb hr (fun t ht hw => ⟨⟨_, (), rfl, rfl, hW.ret ht⟩, hS.F ht⟩) hS.2.2 dX5_count_120
              · have h := ite_f c_11 h
                by_cases c_14 : (p1 : Int32) = 6
                · have h := ite_t c_14 h
                  refine lv_tableIn (off := 120) (tgt := 121) hx hb dX5_count_1 (by rw [c_14]; decide) (by rw [c_14]; decide) (by rw [c_14]; rfl) (by decide) ?_
                  refine lv_aload_n hx hb dX5_count_121 rfl (lv_at hl 0 rfl) ?_
                  refine va_get (D := G.1) (ci := 5) (v := .ref (gad G 0)) (C := RX5) (T := TX5) (N := 6) hx hb hts hiX5 hown hK.1 hW.1 154 lkT rfl 0 (by decide) (hts _ (List.mem_of_getElem? (i := 1) rfl)) (fun _ h9 => h9) rfl dX5_count_122 ?_
                  obtain ⟨r_15, e_16, h⟩ := bnd_e h
                  refine kV_I (As := []) (rest := []) ⟨hx, hb, hml, hown, hts⟩ (tX0_campersWithMorePlots l G S0 M0 0 (by omega) r_15 e_16) (cwV 0 hts gX5_count_X0_campersWithMorePlots rfl rfl rfl ⟨rfl, hdX0_campersWithMorePlots⟩ ⟨Nat.le_of_ble_eq_true rfl, Nat.le_of_ble_eq_true rfl⟩) (va_recv hK.1 hW.1 (ci := 0) (q0 := 0) rfl (lkC (c := 0) (by omega))) hK hW hS hA rfl hl.1 rfl (Nat.le_of_ble_eq_true rfl) dX5_count_125 ⟨Nat.zero_le _, Nat.zero_le _⟩ (fun H locs hW hS => ?_)
                  obtain rfl := Option.some.inj h
                  exact W.iret hx hb hr (fun t ht hw => ⟨⟨_, (), rfl, rfl, hW.ret ht⟩, hS.F ht⟩) hS.2.2 dX5_count_128
                · have h := ite_f c_14 h
                  by_cases c_17 : (p1 : Int32) = 7
                  · have h := ite_t c_17 h
                    refine lv_tableIn (off := 128) (tgt := 129) hx hb dX5_count_1 (by rw [c_17]; decide) (by rw [c_17]; decide) (by rw [c_17]; rfl) (by decide) ?_
                    refine lv_aload_n hx hb dX5_count_129 rfl (lv_at hl 0 rfl) ?_
                    refine va_get (D := G.1) (ci := 5) (v := .ref (gad G 0)) (C := RX5) (T := TX5) (N := 6) hx hb hts hiX5 hown hK.1 hW.1 154 lkT rfl 0 (by decide) (hts _ (List.mem_of_getElem? (i := 1) rfl)) (fun _ h9 => h9) rfl dX5_count_130 ?_
                    refine va_getN (D := G.1) (ci := 0) (v := .int (S0.1 (6 * 0 + 3))) (C := RX0) (T := TX0) (N := 12) hx hb hts hiX0 hown hK.1 hW.1 0 (lkC (c := 0) (by omega)) rfl 9 (by decide) (va_Nw.use rfl (hK.2 _ (List.mem_of_getElem? (i := 8) rfl))) (fun _ h9 => h9) rfl dX5_count_133 ?_
                    obtain rfl := Option.some.inj h
                    exact W.iret hx hb hr (fun t ht hw => ⟨⟨_, (), rfl, rfl, hW.ret ht⟩, hS.F ht⟩) hS.2.2 dX5_count_136
                  · have h := ite_f c_17 h
                    by_cases c_18 : (p1 : Int32) = 8
                    · have h := ite_t c_18 h
                      refine lv_tableIn (off := 136) (tgt := 137) hx hb dX5_count_1 (by rw [c_18]; decide) (by rw [c_18]; decide) (by rw [c_18]; rfl) (by decide) ?_
                      refine lv_aload_n hx hb dX5_count_137 rfl (lv_at hl 0 rfl) ?_
                      refine va_get (D := G.1) (ci := 5) (v := .ref (gad G 0)) (C := RX5) (T := TX5) (N := 6) hx hb hts hiX5 hown hK.1 hW.1 154 lkT rfl 0 (by decide) (hts _ (List.mem_of_getElem? (i := 1) rfl)) (fun _ h9 => h9) rfl dX5_count_138 ?_
                      refine va_getN (D := G.1) (ci := 0) (v := .int (S0.1 (6 * 0 + 4))) (C := RX0) (T := TX0) (N := 12) hx hb hts hiX0 hown hK.1 hW.1 0 (lkC (c := 0) (by omega)) rfl 10 (by decide) (va_Nw.use rfl (hK.2 _ (List.mem_of_getElem? (i := 9) rfl))) (fun _ h9 => h9) rfl dX5_count_141 ?_
                      obtain rfl := Option.some.inj h
                      exact W.iret hx hb hr (fun t ht hw => ⟨⟨_, (), rfl, rfl, hW.ret ht⟩, hS.F ht⟩) hS.2.2 dX5_count_144
                    · have h := ite_f c_18 h
                      by_cases c_19 : (p1 : Int32) = 9
                      · have h := ite_t c_19 h
                        refine lv_tableIn (off := 144) (tgt := 145) hx hb dX5_count_1 (by rw [c_19]; decide) (by rw [c_19]; decide) (by rw [c_19]; rfl) (by decide) ?_
                        refine lv_aload_n hx hb dX5_count_145 rfl (lv_at hl 0 rfl) ?_
                        refine va_get (D := G.1) (ci := 5) (v := .ref (gad G 0)) (C := RX5) (T := TX5) (N := 6) hx hb hts hiX5 hown hK.1 hW.1 154 lkT rfl 0 (by decide) (hts _ (List.mem_of_getElem? (i := 1) rfl)) (fun _ h9 => h9) rfl dX5_count_146 ?_
                        refine va_getN (D := G.1) (ci := 0) (v := .int (S0.1 (6 * 0 + 5))) (C := RX0) (T := TX0) (N := 12) hx hb hts hiX0 hown hK.1 hW.1 0 (lkC (c := 0) (by omega)) rfl 11 (by decide) (va_Nw.use rfl (hK.2 _ (List.mem_of_getElem? (i := 10) rfl))) (fun _ h9 => h9) rfl dX5_count_149 ?_
                        obtain rfl := Option.some.inj h
                        exact W.iret hx hb hr (fun t ht hw => ⟨⟨_, (), rfl, rfl, hW.ret ht⟩, hS.F ht⟩) hS.2.2 dX5_count_152
                      · have h := ite_f c_19 h
                        by_cases c_20 : (p1 : Int32) = 10
                        · have h := ite_t c_20 h
                          refine lv_tableIn (off := 152) (tgt := 153) hx hb dX5_count_1 (by rw [c_20]; decide) (by rw [c_20]; decide) (by rw [c_20]; rfl) (by decide) ?_
                          refine lv_aload_n hx hb dX5_count_153 rfl (lv_at hl 0 rfl) ?_
                          refine va_get (D := G.1) (ci := 5) (v := .ref (gad G 155)) (C := RX5) (T := TX5) (N := 6) hx hb hts hiX5 hown hK.1 hW.1 154 lkT rfl 3 (by decide) (hts _ (List.mem_of_getElem? (i := 2) rfl)) (fun _ h9 => h9) rfl dX5_count_154 ?_
                          refine va_getN (D := G.1) (ci := 2) (v := .int (S0.1 44)) (C := RX2) (T := TX2) (N := 3) hx hb hts hiX2 hown hK.1 hW.1 155 lkH rfl 2 (by decide) (va_Nw.use rfl (hK.2 _ (List.mem_of_getElem? (i := 11) rfl))) (fun _ h9 => h9) rfl dX5_count_157 ?_
                          obtain rfl := Option.some.inj h
                          exact W.iret hx hb hr (fun t ht hw => ⟨⟨_, (), rfl, rfl, hW.ret ht⟩, hS.F ht⟩) hS.2.2 dX5_count_160
                        · have h := ite_f c_20 h
                          by_cases c_21 : (p1 : Int32) = 11
                          · have h := ite_t c_21 h
                            refine lv_tableIn (off := 160) (tgt := 161) hx hb dX5_count_1 (by rw [c_21]; decide) (by rw [c_21]; decide) (by rw [c_21]; rfl) (by decide) ?_
                            refine lv_aload_n hx hb dX5_count_161 rfl (lv_at hl 0 rfl) ?_
                            refine va_get (D := G.1) (ci := 5) (v := .ref (gad G 157)) (C := RX5) (T := TX5) (N := 6) hx hb hts hiX5 hown hK.1 hW.1 154 lkT rfl 4 (by decide) (hts _ (List.mem_of_getElem? (i := 3) rfl)) (fun _ h9 => h9) rfl dX5_count_162 ?_
                            refine va_getN (D := G.1) (ci := 1) (v := .int (S0.1 45)) (C := RX1) (T := TX1) (N := 2) hx hb hts hiX1 hown hK.1 hW.1 157 lkX rfl 1 (by decide) (va_Nw.use rfl (hK.2 _ (List.mem_of_getElem? (i := 12) rfl))) (fun _ h9 => h9) rfl dX5_count_165 ?_
                            obtain rfl := Option.some.inj h
                            exact W.iret hx hb hr (fun t ht hw => ⟨⟨_, (), rfl, rfl, hW.ret ht⟩, hS.F ht⟩) hS.2.2 dX5_count_168
                          · have h := ite_f c_21 h
                            cases h
abbrev rX0_isHere : Room := { frames := 1, cells := 0, slots := 0, locals := 21 }
set_option maxRecDepth 100000 in
set_option maxHeartbeats 8000000 in
theorem tX0_isHere (l : Launch) (G : WG) (S0 M0 : St) (c : Nat) (hc : c < 7) (p1 : Int32) (rr : Int32) (h : f0_isHere S0 c p1 = some (rr)) : CtI l yX0_isHere wsX0_isHere rX0_isHere G [.ref (gad G c), .int p1] S0 M0 rr S0 M0 := by
  refine Met.ofW (cc := cX0_isHere) (maxL := 2) (ret := (some .boolean)) (by decide) rfl ?_
  intro p e s m args below meth cd s₁ B hml hv
  obtain ⟨hargs, hK, hW⟩ := hv
  have hx := B.exec
  have hb := B.bytes
  have hr := B.returns
  have hts := atoms_spec (ws := wsX0_isHere) B.pre
  have hown : s.vm.findClass RX0 = some m.cls := findClass_of_methodNamed B.named
  have hlocks := B.notSynchronized
  have hA : ∀ q, Aw G q → Aw G q := fun _ h => h
  have hS : va_S (Aw G) s.heap s.heap [] := va_S.rf
  have he0 : entryFrame m args 2 = F0 m 0 ((lg_sl ([.ref (gad G c), .int p1]) ++ List.replicate (2 - (lg_sl ([.ref (gad G c), .int p1])).length) Slot.unset).toArray) [] := by rw [hargs]; exact lg_entry_eq _ _ _
  have hl := lv_entry ([.ref (gad G c), .int p1]) (n := 2) (Nat.le_of_ble_eq_true rfl)
  rw [he0]
  generalize (lg_sl ([.ref (gad G c), .int p1]) ++ List.replicate (2 - (lg_sl ([.ref (gad G c), .int p1])).length) Slot.unset).toArray = ls at hl ⊢
  have hl : lv_has ls 2 [(0, .ref (gad G c)), (1, .int p1)] := hl
  have hiX0 : ∀ w ∈ u_ws RX0 TX0 12, w ∈ wsX0_isHere := by decide +kernel
  have B29 : ∀ (H : Heap) (locs : List Loc) (_ : WD G S0 M0 H) (_ : va_S (Aw G) s.heap H locs) (ls : Array Slot) (k0 : Int32) (_ : lv_has ls 2 []) (h : f0_isHere_b29 S0 c k0 = some (rr)), WI p l e (headSpec wsX0_isHere rX0_isHere).room s m args below meth cd G rr S0 M0 H locs (F0 m 29 ls [.int k0]) := by
    intro H locs hW hS ls k0 hl h
    unfold f0_isHere_b29 at h
    obtain ⟨z_1, h⟩ := isz_e h
    obtain rfl := Option.some.inj h
    exact W.zret (ty := .boolean) hx hb hr (nz_1 z_1) (fun t ht hw => ⟨⟨_, (), rfl, rfl, hW.ret ht⟩, hS.F ht⟩) hS.2.2 dX0_isHere_29
  have B28 : ∀ (H : Heap) (locs : List Loc) (_ : WD G S0 M0 H) (_ : va_S (Aw G) s.heap H locs) (ls : Array Slot) (_ : lv_has ls 2 []) (h : f0_isHere_b28 S0 c  = some (rr)), WI p l e (headSpec wsX0_isHere rX0_isHere).room s m args below meth cd G rr S0 M0 H locs (F0 m 28 ls []) := by
    intro H locs hW hS ls hl h
    unfold f0_isHere_b28 at h
    refine lv_iconst (v := 0) hx hb dX0_isHere_28 (by decide) ?_
    exact B29 _ _ hW hS ls 0 (lv_sub hl [] rfl) h
  unfold f0_isHere at h
  refine lv_iload_n hx hb dX0_isHere_0 rfl (lv_at hl 1 rfl) ?_
  refine lv_if_lt (tgt := 28) hx hb dX0_isHere_1 (by decide) (fun c_1 => ?_) (fun c_1 => ?_)
  · have h := ite_t c_1 h
    exact B28 _ _ hW hS ls (lv_sub hl [] rfl) h
  · have h := ite_f c_1 h
    refine lv_iload_n hx hb dX0_isHere_4 rfl (lv_at hl 1 rfl) ?_
    refine lv_aload_n hx hb dX0_isHere_5 rfl (lv_at hl 0 rfl) ?_
    refine va_get (D := G.1) (ci := 0) (v := .int (S0.1 (6 * c + 1))) (C := RX0) (T := TX0) (N := 12) hx hb hts hiX0 hown hK.1 hW.1 c (lkC (c := c) (by omega)) rfl 7 (by decide) (hts _ (List.mem_of_getElem? (i := 1) rfl)) (fun _ h9 => h9) rfl dX0_isHere_6 ?_
    refine lv_icmp_ge (tgt := 28) hx hb dX0_isHere_9 (by decide) (fun c_2 => ?_) (fun c_2 => ?_)
    · have h := ite_t c_2 h
      exact B28 _ _ hW hS ls (lv_sub hl [] rfl) h
    · have h := ite_f c_2 h
      refine lv_aload_n hx hb dX0_isHere_12 rfl (lv_at hl 0 rfl) ?_
      refine va_get (D := G.1) (ci := 0) (v := .ref (gad G (14 + (10 * c + 6)))) (C := RX0) (T := TX0) (N := 12) hx hb hts hiX0 hown hK.1 hW.1 c (lkC (c := c) (by omega)) rfl 3 (by decide) (hts _ (List.mem_of_getElem? (i := 2) rfl)) (fun _ h9 => h9) rfl dX0_isHere_13 ?_
      refine lv_iload_n hx hb dX0_isHere_16 rfl (lv_at hl 1 rfl) ?_
      obtain ⟨r_3, e_4, h⟩ := bnd_e h
      refine kV_I (As := [.int p1]) (rest := []) ⟨hx, hb, hml, hown, hts⟩ (tX4_at l G S0 M0 ((10 * c + 6)) (by omega) p1 r_3 e_4) (cwV 1 hts gX0_isHere_X4_at rfl rfl rfl ⟨rfl, hdX4_at⟩ ⟨Nat.le_of_ble_eq_true rfl, Nat.le_of_ble_eq_true rfl⟩) (va_recv hK.1 hW.1 (ci := 4) (q0 := (14 + (10 * c + 6))) rfl (lkR (r := (10 * c + 6)) (by omega))) hK hW hS hA rfl hl.1 rfl (Nat.le_of_ble_eq_true rfl) dX0_isHere_17 ⟨Nat.zero_le _, Nat.zero_le _⟩ (fun H locs hW hS => ?_)
      refine lv_iconst (v := 1) hx hb dX0_isHere_20 (by decide) ?_
      refine lv_icmp_ne (tgt := 28) hx hb dX0_isHere_21 (by decide) (fun c_5 => ?_) (fun c_5 => ?_)
      · have h := ite_f c_5 h
        exact B28 _ _ hW hS ls (lv_sub hl [] rfl) h
      · have h := ite_t c_5 h
        refine lv_iconst (v := 1) hx hb dX0_isHere_24 (by decide) ?_
        refine lv_goto (tgt := 29) hx hb dX0_isHere_25 (by decide) ?_
        exact B29 _ _ hW hS ls 1 (lv_sub hl [] rfl) h
abbrev rX5_widthAt : Room := { frames := 0, cells := 0, slots := 0, locals := 0 }
set_option maxRecDepth 100000 in
set_option maxHeartbeats 8000000 in
theorem tX5_widthAt (l : Launch) (G : WG) (S0 M0 : St) (p0 : Int32) (rr : Int32) (h : f5_widthAt p0 = some (rr)) : CtI l yX5_widthAt wsX5_widthAt rX5_widthAt G [.int p0] S0 M0 rr S0 M0 := by
  refine Met.ofW (cc := cX5_widthAt) (maxL := 1) (ret := (some .int)) (by decide) rfl ?_
  intro p e s m args below meth cd s₁ B hml hv
  obtain ⟨hargs, hK, hW⟩ := hv
  have hx := B.exec
  have hb := B.bytes
  have hr := B.returns
  have hts := atoms_spec (ws := wsX5_widthAt) B.pre
  have hown : s.vm.findClass RX5 = some m.cls := findClass_of_methodNamed B.named
  have hlocks := B.notSynchronized
  have hA : ∀ q, Aw G q → Aw G q := fun _ h => h
  have hS : va_S (Aw G) s.heap s.heap [] := va_S.rf
  have he0 : entryFrame m args 1 = F0 m 0 ((lg_sl ([.int p0]) ++ List.replicate (1 - (lg_sl ([.int p0])).length) Slot.unset).toArray) [] := by rw [hargs]; exact lg_entry_eq _ _ _
  have hl := lv_entry ([.int p0]) (n := 1) (Nat.le_of_ble_eq_true rfl)
  rw [he0]
  generalize (lg_sl ([.int p0]) ++ List.replicate (1 - (lg_sl ([.int p0])).length) Slot.unset).toArray = ls at hl ⊢
  have hl : lv_has ls 1 [(0, .int p0)] := hl
  unfold f5_widthAt at h
  refine lv_bipush (v := 64) hx hb dX5_widthAt_0 (by decide) ?_
  refine lv_iload_n hx hb dX5_widthAt_2 rfl (lv_at hl 0 rfl) ?_
  refine lv_iconst (v := 1) hx hb dX5_widthAt_3 (by decide) ?_
  refine lv_iadd hx hb dX5_widthAt_4 ?_
  refine lv_iconst (v := 1) hx hb dX5_widthAt_5 (by decide) ?_
  refine lv_ishr hx hb dX5_widthAt_6 ?_
  refine lv_ishr hx hb dX5_widthAt_7 ?_
  obtain rfl := Option.some.inj h
  exact W.iret hx hb hr (fun t ht hw => ⟨⟨_, (), rfl, rfl, hW.ret ht⟩, hS.F ht⟩) hS.2.2 dX5_widthAt_8
abbrev rX5_heightAt : Room := { frames := 0, cells := 0, slots := 0, locals := 0 }
set_option maxRecDepth 100000 in
set_option maxHeartbeats 8000000 in
theorem tX5_heightAt (l : Launch) (G : WG) (S0 M0 : St) (p0 : Int32) (rr : Int32) (h : f5_heightAt p0 = some (rr)) : CtI l yX5_heightAt wsX5_heightAt rX5_heightAt G [.int p0] S0 M0 rr S0 M0 := by
  refine Met.ofW (cc := cX5_heightAt) (maxL := 1) (ret := (some .int)) (by decide) rfl ?_
  intro p e s m args below meth cd s₁ B hml hv
  obtain ⟨hargs, hK, hW⟩ := hv
  have hx := B.exec
  have hb := B.bytes
  have hr := B.returns
  have hts := atoms_spec (ws := wsX5_heightAt) B.pre
  have hown : s.vm.findClass RX5 = some m.cls := findClass_of_methodNamed B.named
  have hlocks := B.notSynchronized
  have hA : ∀ q, Aw G q → Aw G q := fun _ h => h
  have hS : va_S (Aw G) s.heap s.heap [] := va_S.rf
  have he0 : entryFrame m args 1 = F0 m 0 ((lg_sl ([.int p0]) ++ List.replicate (1 - (lg_sl ([.int p0])).length) Slot.unset).toArray) [] := by rw [hargs]; exact lg_entry_eq _ _ _
  have hl := lv_entry ([.int p0]) (n := 1) (Nat.le_of_ble_eq_true rfl)
  rw [he0]
  generalize (lg_sl ([.int p0]) ++ List.replicate (1 - (lg_sl ([.int p0])).length) Slot.unset).toArray = ls at hl ⊢
  have hl : lv_has ls 1 [(0, .int p0)] := hl
  unfold f5_heightAt at h
  refine lv_bipush (v := 64) hx hb dX5_heightAt_0 (by decide) ?_
  refine lv_iload_n hx hb dX5_heightAt_2 rfl (lv_at hl 0 rfl) ?_
  refine lv_iconst (v := 1) hx hb dX5_heightAt_3 (by decide) ?_
  refine lv_ishr hx hb dX5_heightAt_4 ?_
  refine lv_ishr hx hb dX5_heightAt_5 ?_
  obtain rfl := Option.some.inj h
  exact W.iret hx hb hr (fun t ht hw => ⟨⟨_, (), rfl, rfl, hW.ret ht⟩, hS.F ht⟩) hS.2.2 dX5_heightAt_6
abbrev rX3_has : Room := { frames := 1, cells := 0, slots := 0, locals := 21 }
set_option maxRecDepth 100000 in
set_option maxHeartbeats 8000000 in
theorem tX3_has (l : Launch) (G : WG) (S0 M0 : St) (c : Nat) (hc : c < 7) (p1 : Int32) (p2 : Int32) (p3 : Int32) (rr : Int32) (h : f3_has S0 c p1 p2 p3 = some (rr)) : CtI l yX3_has wsX3_has rX3_has G [.ref (gad G (7 + c)), .int p1, .int p2, .int p3] S0 M0 rr S0 M0 := by
  refine Met.ofW (cc := cX3_has) (maxL := 7) (ret := (some .boolean)) (by decide) rfl ?_
  intro p e s m args below meth cd s₁ B hml hv
  obtain ⟨hargs, hK, hW⟩ := hv
  have hx := B.exec
  have hb := B.bytes
  have hr := B.returns
  have hts := atoms_spec (ws := wsX3_has) B.pre
  have hown : s.vm.findClass RX3 = some m.cls := findClass_of_methodNamed B.named
  have hlocks := B.notSynchronized
  have hA : ∀ q, Aw G q → Aw G q := fun _ h => h
  have hS : va_S (Aw G) s.heap s.heap [] := va_S.rf
  have he0 : entryFrame m args 7 = F0 m 0 ((lg_sl ([.ref (gad G (7 + c)), .int p1, .int p2, .int p3]) ++ List.replicate (7 - (lg_sl ([.ref (gad G (7 + c)), .int p1, .int p2, .int p3])).length) Slot.unset).toArray) [] := by rw [hargs]; exact lg_entry_eq _ _ _
  have hl := lv_entry ([.ref (gad G (7 + c)), .int p1, .int p2, .int p3]) (n := 7) (Nat.le_of_ble_eq_true rfl)
  rw [he0]
  generalize (lg_sl ([.ref (gad G (7 + c)), .int p1, .int p2, .int p3]) ++ List.replicate (7 - (lg_sl ([.ref (gad G (7 + c)), .int p1, .int p2, .int p3])).length) Slot.unset).toArray = ls at hl ⊢
  have hl : lv_has ls 7 [(0, .ref (gad G (7 + c))), (1, .int p1), (2, .int p2), (3, .int p3)] := hl
  have hiX3 : ∀ w ∈ u_ws RX3 TX3 5, w ∈ wsX3_has := by decide +kernel
  have B69 : ∀ (H : Heap) (locs : List Loc) (_ : WD G S0 M0 H) (_ : va_S (Aw G) s.heap H locs) (ls : Array Slot) (k0 : Int32) (_ : lv_has ls 7 []) (h : f3_has_b69 S0 c k0 = some (rr)), WI p l e (headSpec wsX3_has rX3_has).room s m args below meth cd G rr S0 M0 H locs (F0 m 69 ls [.int k0]) := by
    intro H locs hW hS ls k0 hl h
    unfold f3_has_b69 at h
    obtain ⟨z_1, h⟩ := isz_e h
    obtain rfl := Option.some.inj h
    exact W.zret (ty := .boolean) hx hb hr (nz_1 z_1) (fun t ht hw => ⟨⟨_, (), rfl, rfl, hW.ret ht⟩, hS.F ht⟩) hS.2.2 dX3_has_69
  have B68 : ∀ (H : Heap) (locs : List Loc) (_ : WD G S0 M0 H) (_ : va_S (Aw G) s.heap H locs) (ls : Array Slot) (_ : lv_has ls 7 []) (h : f3_has_b68 S0 c  = some (rr)), WI p l e (headSpec wsX3_has rX3_has).room s m args below meth cd G rr S0 M0 H locs (F0 m 68 ls []) := by
    intro H locs hW hS ls hl h
    unfold f3_has_b68 at h
    refine lv_iconst (v := 0) hx hb dX3_has_68 (by decide) ?_
    exact B69 _ _ hW hS ls 0 (lv_sub hl [] rfl) h
  unfold f3_has at h
  refine lv_iload_n hx hb dX3_has_0 rfl (lv_at hl 2 rfl) ?_
  refine lv_aload_n hx hb dX3_has_1 rfl (lv_at hl 0 rfl) ?_
  refine va_get (D := G.1) (ci := 3) (v := .ref (gad G (14 + (10 * c + 0)))) (C := RX3) (T := TX3) (N := 5) hx hb hts hiX3 hown hK.1 hW.1 (7 + c) (lkP (c := c) (by omega)) rfl 0 (by decide) (hts _ (List.mem_of_getElem? (i := 1) rfl)) (fun _ h9 => h9) rfl dX3_has_2 ?_
  refine lv_iload_n hx hb dX3_has_5 rfl (lv_at hl 1 rfl) ?_
  obtain ⟨r_1, e_2, h⟩ := bnd_e h
  refine kV_I (As := [.int p1]) (rest := [.int p2]) ⟨hx, hb, hml, hown, hts⟩ (tX4_at l G S0 M0 ((10 * c + 0)) (by omega) p1 r_1 e_2) (cwV 1 hts gX3_has_X4_at rfl rfl rfl ⟨rfl, hdX4_at⟩ ⟨Nat.le_of_ble_eq_true rfl, Nat.le_of_ble_eq_true rfl⟩) (va_recv hK.1 hW.1 (ci := 4) (q0 := (14 + (10 * c + 0))) rfl (lkR (r := (10 * c + 0)) (by omega))) hK hW hS hA rfl hl.1 rfl (Nat.le_of_ble_eq_true rfl) dX3_has_6 ⟨Nat.zero_le _, Nat.zero_le _⟩ (fun H locs hW hS => ?_)
  refine lv_isub hx hb dX3_has_9 ?_
  obtain ⟨x_3, ex_3, h⟩ := nam_e h
  refine lv_ni ex_3 ?_
  refine lv_istore (lv' := [(4, .int x_3), (0, .ref (gad G (7 + c))), (1, .int p1), (2, .int p2), (3, .int p3)]) hx hb dX3_has_10 hl (by decide) rfl (fun ls hl => ?_)
  refine lv_iload_n hx hb dX3_has_12 rfl (lv_at hl 4 rfl) ?_
  refine lv_aload_n hx hb dX3_has_13 rfl (lv_at hl 1 rfl) ?_
  refine va_get (D := G.1) (ci := 3) (v := .ref (gad G (14 + (10 * c + 1)))) (C := RX3) (T := TX3) (N := 5) hx hb hts hiX3 hown hK.1 hW.1 (7 + c) (lkP (c := c) (by omega)) rfl 1 (by decide) (hts _ (List.mem_of_getElem? (i := 2) rfl)) (fun _ h9 => h9) rfl dX3_has_14 ?_
  refine lv_iload_n hx hb dX3_has_17 rfl (lv_at hl 2 rfl) ?_
  obtain ⟨r_4, e_5, h⟩ := bnd_e h
  refine kV_I (As := [.int p1]) (rest := [.int p3]) ⟨hx, hb, hml, hown, hts⟩ (tX4_at l G S0 M0 ((10 * c + 1)) (by omega) p1 r_4 e_5) (cwV 1 hts gX3_has_X4_at rfl rfl rfl ⟨rfl, hdX4_at⟩ ⟨Nat.le_of_ble_eq_true rfl, Nat.le_of_ble_eq_true rfl⟩) (va_recv hK.1 hW.1 (ci := 4) (q0 := (14 + (10 * c + 1))) rfl (lkR (r := (10 * c + 1)) (by omega))) hK hW hS hA rfl hl.1 rfl (Nat.le_of_ble_eq_true rfl) dX3_has_18 ⟨Nat.zero_le _, Nat.zero_le _⟩ (fun H locs hW hS => ?_)
  refine lv_isub hx hb dX3_has_21 ?_
  obtain ⟨x_6, ex_6, h⟩ := nam_e h
  refine lv_ni ex_6 ?_
  refine lv_istore (lv' := [(5, .int x_6), (4, .int x_3), (0, .ref (gad G (7 + c))), (1, .int p1), (2, .int p2), (3, .int p3)]) hx hb dX3_has_22 hl (by decide) rfl (fun ls hl => ?_)
  refine lv_aload_n hx hb dX3_has_24 rfl (lv_at hl 2 rfl) ?_
  refine va_get (D := G.1) (ci := 3) (v := .ref (gad G (14 + (10 * c + 2)))) (C := RX3) (T := TX3) (N := 5) hx hb hts hiX3 hown hK.1 hW.1 (7 + c) (lkP (c := c) (by omega)) rfl 2 (by decide) (hts _ (List.mem_of_getElem? (i := 3) rfl)) (fun _ h9 => h9) rfl dX3_has_25 ?_
  refine lv_iload_n hx hb dX3_has_28 rfl (lv_at hl 3 rfl) ?_
  obtain ⟨r_7, e_8, h⟩ := bnd_e h
  refine kV_I (As := [.int p1]) (rest := []) ⟨hx, hb, hml, hown, hts⟩ (tX4_at l G S0 M0 ((10 * c + 2)) (by omega) p1 r_7 e_8) (cwV 1 hts gX3_has_X4_at rfl rfl rfl ⟨rfl, hdX4_at⟩ ⟨Nat.le_of_ble_eq_true rfl, Nat.le_of_ble_eq_true rfl⟩) (va_recv hK.1 hW.1 (ci := 4) (q0 := (14 + (10 * c + 2))) rfl (lkR (r := (10 * c + 2)) (by omega))) hK hW hS hA rfl hl.1 rfl (Nat.le_of_ble_eq_true rfl) dX3_has_29 ⟨Nat.zero_le _, Nat.zero_le _⟩ (fun H locs hW hS => ?_)
  refine lv_istore (lv' := [(6, .int r_7), (5, .int x_6), (4, .int x_3), (0, .ref (gad G (7 + c))), (1, .int p1), (2, .int p2), (3, .int p3)]) hx hb dX3_has_32 hl (by decide) rfl (fun ls hl => ?_)
  refine lv_iload hx hb dX3_has_34 (lv_at hl 2 rfl) ?_
  refine lv_if_lt (tgt := 68) hx hb dX3_has_36 (by decide) (fun c_9 => ?_) (fun c_9 => ?_)
  · have h := ite_t c_9 h
    exact B68 _ _ hW hS ls (lv_sub hl [] rfl) h
  · have h := ite_f c_9 h
    refine lv_iload hx hb dX3_has_39 (lv_at hl 2 rfl) ?_
    refine lv_iload hx hb dX3_has_41 (lv_at hl 0 rfl) ?_
    obtain ⟨r_10, e_11, h⟩ := bnd_e h
    refine kSN_I (As := [.int r_7]) (rest := [.int x_3]) ⟨hx, hb, hml, hown, hts⟩ (tX5_widthAt l G S0 M0 r_7 r_10 e_11) ⟨va_cnB 1 hts gX3_has_X5_widthAt_n45 rfl rfl rfl (hK.2 _ (List.mem_of_getElem? (i := 13) rfl)) (hts _ (List.mem_of_getElem? (i := 11) rfl)) hdX5_widthAt ⟨Nat.le_of_ble_eq_true rfl, Nat.le_of_ble_eq_true rfl⟩, (hts _ (List.mem_of_getElem? (i := 10) rfl)), trivial⟩ hK hW hS hA rfl hl.1 rfl (Nat.le_of_ble_eq_true rfl) dX3_has_43 ⟨Nat.zero_le _, Nat.zero_le _⟩ (fun H locs hW hS => ?_)
    refine lv_icmp_ge (tgt := 68) hx hb dX3_has_46 (by decide) (fun c_12 => ?_) (fun c_12 => ?_)
    · have h := ite_t c_12 h
      exact B68 _ _ hW hS ls (lv_sub hl [] rfl) h
    · have h := ite_f c_12 h
      refine lv_iload hx hb dX3_has_49 (lv_at hl 1 rfl) ?_
      refine lv_if_lt (tgt := 68) hx hb dX3_has_51 (by decide) (fun c_13 => ?_) (fun c_13 => ?_)
      · have h := ite_t c_13 h
        exact B68 _ _ hW hS ls (lv_sub hl [] rfl) h
      · have h := ite_f c_13 h
        refine lv_iload hx hb dX3_has_54 (lv_at hl 1 rfl) ?_
        refine lv_iload hx hb dX3_has_56 (lv_at hl 0 rfl) ?_
        obtain ⟨r_14, e_15, h⟩ := bnd_e h
        refine kSN_I (As := [.int r_7]) (rest := [.int x_6]) ⟨hx, hb, hml, hown, hts⟩ (tX5_heightAt l G S0 M0 r_7 r_14 e_15) ⟨va_cnB 1 hts gX3_has_X5_heightAt_n48 rfl rfl rfl (hK.2 _ (List.mem_of_getElem? (i := 14) rfl)) (hts _ (List.mem_of_getElem? (i := 11) rfl)) hdX5_heightAt ⟨Nat.le_of_ble_eq_true rfl, Nat.le_of_ble_eq_true rfl⟩, (hts _ (List.mem_of_getElem? (i := 13) rfl)), trivial⟩ hK hW hS hA rfl hl.1 rfl (Nat.le_of_ble_eq_true rfl) dX3_has_58 ⟨Nat.zero_le _, Nat.zero_le _⟩ (fun H locs hW hS => ?_)
        refine lv_icmp_ge (tgt := 68) hx hb dX3_has_61 (by decide) (fun c_16 => ?_) (fun c_16 => ?_)
        · have h := ite_t c_16 h
          exact B68 _ _ hW hS ls (lv_sub hl [] rfl) h
        · have h := ite_f c_16 h
          refine lv_iconst (v := 1) hx hb dX3_has_64 (by decide) ?_
          refine lv_goto (tgt := 69) hx hb dX3_has_65 (by decide) ?_
          exact B69 _ _ hW hS ls 1 (lv_sub hl [] rfl) h
abbrev rX3_find : Room := { frames := 2, cells := 0, slots := 0, locals := 47 }
set_option maxRecDepth 100000 in
set_option maxHeartbeats 8000000 in
theorem tX3_find (l : Launch) (G : WG) (S0 M0 : St) (c : Nat) (hc : c < 7) (p1 : Int32) (p2 : Int32) (rr : Int32) (h : f3_find S0 c p1 p2 = some (rr)) : CtI l yX3_find wsX3_find rX3_find G [.ref (gad G (7 + c)), .int p1, .int p2] S0 M0 rr S0 M0 := by
  refine Met.ofW (cc := cX3_find) (maxL := 4) (ret := (some .int)) (by decide) rfl ?_
  intro p e s m args below meth cd s₁ B hml hv
  obtain ⟨hargs, hK, hW⟩ := hv
  have hx := B.exec
  have hb := B.bytes
  have hr := B.returns
  have hts := atoms_spec (ws := wsX3_find) B.pre
  have hown : s.vm.findClass RX3 = some m.cls := findClass_of_methodNamed B.named
  have hlocks := B.notSynchronized
  have hA : ∀ q, Aw G q → Aw G q := fun _ h => h
  have hS : va_S (Aw G) s.heap s.heap [] := va_S.rf
  have he0 : entryFrame m args 4 = F0 m 0 ((lg_sl ([.ref (gad G (7 + c)), .int p1, .int p2]) ++ List.replicate (4 - (lg_sl ([.ref (gad G (7 + c)), .int p1, .int p2])).length) Slot.unset).toArray) [] := by rw [hargs]; exact lg_entry_eq _ _ _
  have hl := lv_entry ([.ref (gad G (7 + c)), .int p1, .int p2]) (n := 4) (Nat.le_of_ble_eq_true rfl)
  rw [he0]
  generalize (lg_sl ([.ref (gad G (7 + c)), .int p1, .int p2]) ++ List.replicate (4 - (lg_sl ([.ref (gad G (7 + c)), .int p1, .int p2])).length) Slot.unset).toArray = ls at hl ⊢
  have hl : lv_has ls 4 [(0, .ref (gad G (7 + c))), (1, .int p1), (2, .int p2)] := hl
  have hiX3 : ∀ w ∈ u_ws RX3 TX3 5, w ∈ wsX3_find := by decide +kernel
  have B2 : ∀ (n : Nat), ∀ (H : Heap) (locs : List Loc) (_ : WD G S0 M0 H) (_ : va_S (Aw G) s.heap H locs) (ls : Array Slot) (l1 : Int32) (l2 : Int32) (l3 : Int32) (_ : lv_has ls 4 [(0, .ref (gad G (7 + c))), (1, .int l1), (2, .int l2), (3, .int l3)]) (h : f3_find_b2 S0 c l1 l2 n l3 = some (rr)), WI p l e (headSpec wsX3_find rX3_find).room s m args below meth cd G rr S0 M0 H locs (F0 m 2 ls []) := by
    intro n
    induction n with
    | zero => intro H locs hW hS ls l1 l2 l3 hl h; cases (show (none : Option (Int32)) = some _ from h)
    | succ n ih =>
      intro H locs hW hS ls l1 l2 l3 hl h
      rw [f3_find_b2] at h
      refine lv_iload_n hx hb dX3_find_2 rfl (lv_at hl 3 rfl) ?_
      refine lv_aload_n hx hb dX3_find_3 rfl (lv_at hl 0 rfl) ?_
      refine va_get (D := G.1) (ci := 3) (v := .int (S0.1 (6 * c + 0))) (C := RX3) (T := TX3) (N := 5) hx hb hts hiX3 hown hK.1 hW.1 (7 + c) (lkP (c := c) (by omega)) rfl 4 (by decide) (hts _ (List.mem_of_getElem? (i := 1) rfl)) (fun _ h9 => h9) rfl dX3_find_4 ?_
      refine lv_icmp_ge (tgt := 28) hx hb dX3_find_7 (by decide) (fun c_1 => ?_) (fun c_1 => ?_)
      · have h := ite_t c_1 h
        refine lv_iconst (v := (-1)) hx hb dX3_find_28 (by decide) ?_
        obtain rfl := Option.some.inj h
        exact W.iret hx hb hr (fun t ht hw => ⟨⟨_, (), rfl, rfl, hW.ret ht⟩, hS.F ht⟩) hS.2.2 dX3_find_29
      · have h := ite_f c_1 h
        refine lv_aload_n hx hb dX3_find_10 rfl (lv_at hl 0 rfl) ?_
        refine lv_iload_n hx hb dX3_find_11 rfl (lv_at hl 3 rfl) ?_
        refine lv_iload_n hx hb dX3_find_12 rfl (lv_at hl 1 rfl) ?_
        refine lv_iload_n hx hb dX3_find_13 rfl (lv_at hl 2 rfl) ?_
        obtain ⟨r_2, e_3, h⟩ := bnd_e h
        refine kV_I (As := [.int l3, .int l1, .int l2]) (rest := []) ⟨hx, hb, hml, hown, hts⟩ (tX3_has l G S0 M0 c (by omega) l3 l1 l2 r_2 e_3) (cwV 3 hts gX3_find_X3_has rfl rfl rfl ⟨rfl, hdX3_has⟩ ⟨Nat.le_of_ble_eq_true rfl, Nat.le_of_ble_eq_true rfl⟩) (va_recv hK.1 hW.1 (ci := 3) (q0 := (7 + c)) rfl (lkP (c := c) (by omega))) hK hW hS hA rfl hl.1 rfl (Nat.le_of_ble_eq_true rfl) dX3_find_14 ⟨Nat.zero_le _, Nat.zero_le _⟩ (fun H locs hW hS => ?_)
        refine lv_if_eq (tgt := 22) hx hb dX3_find_17 (by decide) (fun c_4 => ?_) (fun c_4 => ?_)
        · have h := ite_t c_4 h
          refine lv_iinc (v := (l3 + 1)) (lv' := [(3, .int ((l3 + 1))), (0, .ref (gad G (7 + c))), (1, .int l1), (2, .int l2)]) hx hb dX3_find_22 hl (k := 3) rfl rfl (by decide) rfl (fun ls hl => ?_)
          refine lv_goto (tgt := 2) hx hb dX3_find_25 (by decide) ?_
          exact ih _ _ hW hS ls l1 l2 ((l3 + 1)) (lv_sub hl [1, 2, 3, 0] rfl) h
        · have h := ite_f c_4 h
          refine lv_iload_n hx hb dX3_find_20 rfl (lv_at hl 3 rfl) ?_
          obtain rfl := Option.some.inj h
          exact W.iret hx hb hr (fun t ht hw => ⟨⟨_, (), rfl, rfl, hW.ret ht⟩, hS.F ht⟩) hS.2.2 dX3_find_21
  unfold f3_find at h
  refine lv_iconst (v := 0) hx hb dX3_find_0 (by decide) ?_
  refine lv_istore_n (lv' := [(3, .int 0), (0, .ref (gad G (7 + c))), (1, .int p1), (2, .int p2)]) hx hb dX3_find_1 rfl hl (by decide) rfl (fun ls hl => ?_)
  exact B2 fuelN _ _ hW hS ls p1 p2 0 (lv_sub hl [1, 2, 3, 0] rfl) h
abbrev rX3_ownerAt : Room := { frames := 3, cells := 0, slots := 0, locals := 70 }
set_option maxRecDepth 100000 in
set_option maxHeartbeats 8000000 in
theorem tX3_ownerAt (l : Launch) (G : WG) (S0 M0 : St) (c : Nat) (hc : c < 7) (p1 : Int32) (p2 : Int32) (rr : Int32) (h : f3_ownerAt S0 c p1 p2 = some (rr)) : CtI l yX3_ownerAt wsX3_ownerAt rX3_ownerAt G [.ref (gad G (7 + c)), .int p1, .int p2] S0 M0 rr S0 M0 := by
  refine Met.ofW (cc := cX3_ownerAt) (maxL := 3) (ret := (some .int)) (by decide) rfl ?_
  intro p e s m args below meth cd s₁ B hml hv
  obtain ⟨hargs, hK, hW⟩ := hv
  have hx := B.exec
  have hb := B.bytes
  have hr := B.returns
  have hts := atoms_spec (ws := wsX3_ownerAt) B.pre
  have hown : s.vm.findClass RX3 = some m.cls := findClass_of_methodNamed B.named
  have hlocks := B.notSynchronized
  have hA : ∀ q, Aw G q → Aw G q := fun _ h => h
  have hS : va_S (Aw G) s.heap s.heap [] := va_S.rf
  have he0 : entryFrame m args 3 = F0 m 0 ((lg_sl ([.ref (gad G (7 + c)), .int p1, .int p2]) ++ List.replicate (3 - (lg_sl ([.ref (gad G (7 + c)), .int p1, .int p2])).length) Slot.unset).toArray) [] := by rw [hargs]; exact lg_entry_eq _ _ _
  have hl := lv_entry ([.ref (gad G (7 + c)), .int p1, .int p2]) (n := 3) (Nat.le_of_ble_eq_true rfl)
  rw [he0]
  generalize (lg_sl ([.ref (gad G (7 + c)), .int p1, .int p2]) ++ List.replicate (3 - (lg_sl ([.ref (gad G (7 + c)), .int p1, .int p2])).length) Slot.unset).toArray = ls at hl ⊢
  have hl : lv_has ls 3 [(0, .ref (gad G (7 + c))), (1, .int p1), (2, .int p2)] := hl
  have hiX3 : ∀ w ∈ u_ws RX3 TX3 5, w ∈ wsX3_ownerAt := by decide +kernel
  unfold f3_ownerAt at h
  refine lv_aload_n hx hb dX3_ownerAt_0 rfl (lv_at hl 0 rfl) ?_
  refine va_get (D := G.1) (ci := 3) (v := .ref (gad G (14 + (10 * c + 3)))) (C := RX3) (T := TX3) (N := 5) hx hb hts hiX3 hown hK.1 hW.1 (7 + c) (lkP (c := c) (by omega)) rfl 3 (by decide) (hts _ (List.mem_of_getElem? (i := 1) rfl)) (fun _ h9 => h9) rfl dX3_ownerAt_1 ?_
  refine lv_aload_n hx hb dX3_ownerAt_4 rfl (lv_at hl 0 rfl) ?_
  refine lv_iload_n hx hb dX3_ownerAt_5 rfl (lv_at hl 1 rfl) ?_
  refine lv_iload_n hx hb dX3_ownerAt_6 rfl (lv_at hl 2 rfl) ?_
  obtain ⟨r_1, e_2, h⟩ := bnd_e h
  refine kV_I (As := [.int p1, .int p2]) (rest := [.ref (gad G (14 + (10 * c + 3)))]) ⟨hx, hb, hml, hown, hts⟩ (tX3_find l G S0 M0 c (by omega) p1 p2 r_1 e_2) (cwV 2 hts gX3_ownerAt_X3_find rfl rfl rfl ⟨rfl, hdX3_find⟩ ⟨Nat.le_of_ble_eq_true rfl, Nat.le_of_ble_eq_true rfl⟩) (va_recv hK.1 hW.1 (ci := 3) (q0 := (7 + c)) rfl (lkP (c := c) (by omega))) hK hW hS hA rfl hl.1 rfl (Nat.le_of_ble_eq_true rfl) dX3_ownerAt_7 ⟨Nat.zero_le _, Nat.zero_le _⟩ (fun H locs hW hS => ?_)
  obtain ⟨r_3, e_4, h⟩ := bnd_e h
  refine kV_I (As := [.int r_1]) (rest := []) ⟨hx, hb, hml, hown, hts⟩ (tX4_at l G S0 M0 ((10 * c + 3)) (by omega) r_1 r_3 e_4) (cwV 1 hts gX3_ownerAt_X4_at rfl rfl rfl ⟨rfl, hdX4_at⟩ ⟨Nat.le_of_ble_eq_true rfl, Nat.le_of_ble_eq_true rfl⟩) (va_recv hK.1 hW.1 (ci := 4) (q0 := (14 + (10 * c + 3))) rfl (lkR (r := (10 * c + 3)) (by omega))) hK hW hS hA rfl hl.1 rfl (Nat.le_of_ble_eq_true rfl) dX3_ownerAt_10 ⟨Nat.zero_le _, Nat.zero_le _⟩ (fun H locs hW hS => ?_)
  obtain rfl := Option.some.inj h
  exact W.iret hx hb hr (fun t ht hw => ⟨⟨_, (), rfl, rfl, hW.ret ht⟩, hS.F ht⟩) hS.2.2 dX3_ownerAt_13
abbrev rX0_ownerOfSong : Room := { frames := 4, cells := 0, slots := 0, locals := 92 }
set_option maxRecDepth 100000 in
set_option maxHeartbeats 8000000 in
theorem tX0_ownerOfSong (l : Launch) (G : WG) (S0 M0 : St) (c : Nat) (hc : c < 7) (p1 : Int32) (rr : Int32) (h : f0_ownerOfSong S0 c p1 = some (rr)) : CtI l yX0_ownerOfSong wsX0_ownerOfSong rX0_ownerOfSong G [.ref (gad G c), .int p1] S0 M0 rr S0 M0 := by
  refine Met.ofW (cc := cX0_ownerOfSong) (maxL := 2) (ret := (some .int)) (by decide) rfl ?_
  intro p e s m args below meth cd s₁ B hml hv
  obtain ⟨hargs, hK, hW⟩ := hv
  have hx := B.exec
  have hb := B.bytes
  have hr := B.returns
  have hts := atoms_spec (ws := wsX0_ownerOfSong) B.pre
  have hown : s.vm.findClass RX0 = some m.cls := findClass_of_methodNamed B.named
  have hlocks := B.notSynchronized
  have hA : ∀ q, Aw G q → Aw G q := fun _ h => h
  have hS : va_S (Aw G) s.heap s.heap [] := va_S.rf
  have he0 : entryFrame m args 2 = F0 m 0 ((lg_sl ([.ref (gad G c), .int p1]) ++ List.replicate (2 - (lg_sl ([.ref (gad G c), .int p1])).length) Slot.unset).toArray) [] := by rw [hargs]; exact lg_entry_eq _ _ _
  have hl := lv_entry ([.ref (gad G c), .int p1]) (n := 2) (Nat.le_of_ble_eq_true rfl)
  rw [he0]
  generalize (lg_sl ([.ref (gad G c), .int p1]) ++ List.replicate (2 - (lg_sl ([.ref (gad G c), .int p1])).length) Slot.unset).toArray = ls at hl ⊢
  have hl : lv_has ls 2 [(0, .ref (gad G c)), (1, .int p1)] := hl
  have hiX0 : ∀ w ∈ u_ws RX0 TX0 12, w ∈ wsX0_ownerOfSong := by decide +kernel
  unfold f0_ownerOfSong at h
  refine lv_aload_n hx hb dX0_ownerOfSong_0 rfl (lv_at hl 0 rfl) ?_
  refine va_get (D := G.1) (ci := 0) (v := .ref (gad G (7 + c))) (C := RX0) (T := TX0) (N := 12) hx hb hts hiX0 hown hK.1 hW.1 c (lkC (c := c) (by omega)) rfl 0 (by decide) (hts _ (List.mem_of_getElem? (i := 1) rfl)) (fun _ h9 => h9) rfl dX0_ownerOfSong_1 ?_
  refine lv_aload_n hx hb dX0_ownerOfSong_4 rfl (lv_at hl 0 rfl) ?_
  refine va_get (D := G.1) (ci := 0) (v := .ref (gad G (14 + (10 * c + 7)))) (C := RX0) (T := TX0) (N := 12) hx hb hts hiX0 hown hK.1 hW.1 c (lkC (c := c) (by omega)) rfl 4 (by decide) (hts _ (List.mem_of_getElem? (i := 2) rfl)) (fun _ h9 => h9) rfl dX0_ownerOfSong_5 ?_
  refine lv_iload_n hx hb dX0_ownerOfSong_8 rfl (lv_at hl 1 rfl) ?_
  obtain ⟨r_1, e_2, h⟩ := bnd_e h
  refine kV_I (As := [.int p1]) (rest := [.ref (gad G (7 + c))]) ⟨hx, hb, hml, hown, hts⟩ (tX4_at l G S0 M0 ((10 * c + 7)) (by omega) p1 r_1 e_2) (cwV 1 hts gX0_ownerOfSong_X4_at rfl rfl rfl ⟨rfl, hdX4_at⟩ ⟨Nat.le_of_ble_eq_true rfl, Nat.le_of_ble_eq_true rfl⟩) (va_recv hK.1 hW.1 (ci := 4) (q0 := (14 + (10 * c + 7))) rfl (lkR (r := (10 * c + 7)) (by omega))) hK hW hS hA rfl hl.1 rfl (Nat.le_of_ble_eq_true rfl) dX0_ownerOfSong_9 ⟨Nat.zero_le _, Nat.zero_le _⟩ (fun H locs hW hS => ?_)
  refine lv_aload_n hx hb dX0_ownerOfSong_12 rfl (lv_at hl 0 rfl) ?_
  refine va_get (D := G.1) (ci := 0) (v := .ref (gad G (14 + (10 * c + 8)))) (C := RX0) (T := TX0) (N := 12) hx hb hts hiX0 hown hK.1 hW.1 c (lkC (c := c) (by omega)) rfl 5 (by decide) (hts _ (List.mem_of_getElem? (i := 3) rfl)) (fun _ h9 => h9) rfl dX0_ownerOfSong_13 ?_
  refine lv_iload_n hx hb dX0_ownerOfSong_16 rfl (lv_at hl 1 rfl) ?_
  obtain ⟨r_3, e_4, h⟩ := bnd_e h
  refine kV_I (As := [.int p1]) (rest := [.int r_1, .ref (gad G (7 + c))]) ⟨hx, hb, hml, hown, hts⟩ (tX4_at l G S0 M0 ((10 * c + 8)) (by omega) p1 r_3 e_4) (cwV 1 hts gX0_ownerOfSong_X4_at rfl rfl rfl ⟨rfl, hdX4_at⟩ ⟨Nat.le_of_ble_eq_true rfl, Nat.le_of_ble_eq_true rfl⟩) (va_recv hK.1 hW.1 (ci := 4) (q0 := (14 + (10 * c + 8))) rfl (lkR (r := (10 * c + 8)) (by omega))) hK hW hS hA rfl hl.1 rfl (Nat.le_of_ble_eq_true rfl) dX0_ownerOfSong_17 ⟨Nat.zero_le _, Nat.zero_le _⟩ (fun H locs hW hS => ?_)
  obtain ⟨r_5, e_6, h⟩ := bnd_e h
  refine kV_I (As := [.int r_1, .int r_3]) (rest := []) ⟨hx, hb, hml, hown, hts⟩ (tX3_ownerAt l G S0 M0 c (by omega) r_1 r_3 r_5 e_6) (cwV 2 hts gX0_ownerOfSong_X3_ownerAt rfl rfl rfl ⟨rfl, hdX3_ownerAt⟩ ⟨Nat.le_of_ble_eq_true rfl, Nat.le_of_ble_eq_true rfl⟩) (va_recv hK.1 hW.1 (ci := 3) (q0 := (7 + c)) rfl (lkP (c := c) (by omega))) hK hW hS hA rfl hl.1 rfl (Nat.le_of_ble_eq_true rfl) dX0_ownerOfSong_20 ⟨Nat.zero_le _, Nat.zero_le _⟩ (fun H locs hW hS => ?_)
  obtain rfl := Option.some.inj h
  exact W.iret hx hb hr (fun t ht hw => ⟨⟨_, (), rfl, rfl, hW.ret ht⟩, hS.F ht⟩) hS.2.2 dX0_ownerOfSong_23
abbrev rX0_loudnessOfSong : Room := { frames := 1, cells := 0, slots := 0, locals := 21 }
set_option maxRecDepth 100000 in
set_option maxHeartbeats 8000000 in
theorem tX0_loudnessOfSong (l : Launch) (G : WG) (S0 M0 : St) (c : Nat) (hc : c < 7) (p1 : Int32) (rr : UInt32) (h : f0_loudnessOfSong S0 c p1 = some (rr)) : CtF l yX0_loudnessOfSong wsX0_loudnessOfSong rX0_loudnessOfSong G [.ref (gad G c), .int p1] S0 M0 rr S0 M0 := by
  refine Met.ofW (cc := cX0_loudnessOfSong) (maxL := 2) (ret := (some .float)) (by decide) rfl ?_
  intro p e s m args below meth cd s₁ B hml hv
  obtain ⟨hargs, hK, hW⟩ := hv
  have hx := B.exec
  have hb := B.bytes
  have hr := B.returns
  have hts := atoms_spec (ws := wsX0_loudnessOfSong) B.pre
  have hown : s.vm.findClass RX0 = some m.cls := findClass_of_methodNamed B.named
  have hlocks := B.notSynchronized
  have hA : ∀ q, Aw G q → Aw G q := fun _ h => h
  have hS : va_S (Aw G) s.heap s.heap [] := va_S.rf
  have he0 : entryFrame m args 2 = F0 m 0 ((lg_sl ([.ref (gad G c), .int p1]) ++ List.replicate (2 - (lg_sl ([.ref (gad G c), .int p1])).length) Slot.unset).toArray) [] := by rw [hargs]; exact lg_entry_eq _ _ _
  have hl := lv_entry ([.ref (gad G c), .int p1]) (n := 2) (Nat.le_of_ble_eq_true rfl)
  rw [he0]
  generalize (lg_sl ([.ref (gad G c), .int p1]) ++ List.replicate (2 - (lg_sl ([.ref (gad G c), .int p1])).length) Slot.unset).toArray = ls at hl ⊢
  have hl : lv_has ls 2 [(0, .ref (gad G c)), (1, .int p1)] := hl
  have hiX0 : ∀ w ∈ u_ws RX0 TX0 12, w ∈ wsX0_loudnessOfSong := by decide +kernel
  unfold f0_loudnessOfSong at h
  refine lv_aload_n hx hb dX0_loudnessOfSong_0 rfl (lv_at hl 0 rfl) ?_
  refine va_get (D := G.1) (ci := 0) (v := .ref (gad G (14 + (10 * c + 9)))) (C := RX0) (T := TX0) (N := 12) hx hb hts hiX0 hown hK.1 hW.1 c (lkC (c := c) (by omega)) rfl 6 (by decide) (hts _ (List.mem_of_getElem? (i := 1) rfl)) (fun _ h9 => h9) rfl dX0_loudnessOfSong_1 ?_
  refine lv_iload_n hx hb dX0_loudnessOfSong_4 rfl (lv_at hl 1 rfl) ?_
  obtain ⟨r_1, e_2, h⟩ := bnd_e h
  refine kV_I (As := [.int p1]) (rest := []) ⟨hx, hb, hml, hown, hts⟩ (tX4_at l G S0 M0 ((10 * c + 9)) (by omega) p1 r_1 e_2) (cwV 1 hts gX0_loudnessOfSong_X4_at rfl rfl rfl ⟨rfl, hdX4_at⟩ ⟨Nat.le_of_ble_eq_true rfl, Nat.le_of_ble_eq_true rfl⟩) (va_recv hK.1 hW.1 (ci := 4) (q0 := (14 + (10 * c + 9))) rfl (lkR (r := (10 * c + 9)) (by omega))) hK hW hS hA rfl hl.1 rfl (Nat.le_of_ble_eq_true rfl) dX0_loudnessOfSong_5 ⟨Nat.zero_le _, Nat.zero_le _⟩ (fun H locs hW hS => ?_)
  refine lv_i2f hx hb dX0_loudnessOfSong_8 ?_
  refine lv_ldcf hx hb hown (hts _ (List.mem_of_getElem? (i := 2) rfl)) dX0_loudnessOfSong_9 ?_
  obtain ⟨x_3, nx_3, ex_3, h⟩ := fnn_e h
  refine lv_fdiv hx hb dX0_loudnessOfSong_11 nx_3 ?_
  refine lv_nf ex_3 ?_
  obtain rfl := Option.some.inj h
  exact W.fret hx hb hr (fun t ht hw => ⟨⟨_, (), rfl, rfl, hW.ret ht⟩, hS.F ht⟩) hS.2.2 dX0_loudnessOfSong_12
abbrev rX0_loudnessOf : Room := { frames := 5, cells := 0, slots := 0, locals := 113 }
set_option maxRecDepth 100000 in
set_option maxHeartbeats 8000000 in
theorem tX0_loudnessOf (l : Launch) (G : WG) (S0 M0 : St) (c : Nat) (hc : c < 7) (p1 : Int32) (rr : UInt32) (h : f0_loudnessOf S0 c p1 = some (rr)) : CtF l yX0_loudnessOf wsX0_loudnessOf rX0_loudnessOf G [.ref (gad G c), .int p1] S0 M0 rr S0 M0 := by
  refine Met.ofW (cc := cX0_loudnessOf) (maxL := 4) (ret := (some .float)) (by decide) rfl ?_
  intro p e s m args below meth cd s₁ B hml hv
  obtain ⟨hargs, hK, hW⟩ := hv
  have hx := B.exec
  have hb := B.bytes
  have hr := B.returns
  have hts := atoms_spec (ws := wsX0_loudnessOf) B.pre
  have hown : s.vm.findClass RX0 = some m.cls := findClass_of_methodNamed B.named
  have hlocks := B.notSynchronized
  have hA : ∀ q, Aw G q → Aw G q := fun _ h => h
  have hS : va_S (Aw G) s.heap s.heap [] := va_S.rf
  have he0 : entryFrame m args 4 = F0 m 0 ((lg_sl ([.ref (gad G c), .int p1]) ++ List.replicate (4 - (lg_sl ([.ref (gad G c), .int p1])).length) Slot.unset).toArray) [] := by rw [hargs]; exact lg_entry_eq _ _ _
  have hl := lv_entry ([.ref (gad G c), .int p1]) (n := 4) (Nat.le_of_ble_eq_true rfl)
  rw [he0]
  generalize (lg_sl ([.ref (gad G c), .int p1]) ++ List.replicate (4 - (lg_sl ([.ref (gad G c), .int p1])).length) Slot.unset).toArray = ls at hl ⊢
  have hl : lv_has ls 4 [(0, .ref (gad G c)), (1, .int p1)] := hl
  have hiX0 : ∀ w ∈ u_ws RX0 TX0 12, w ∈ wsX0_loudnessOf := by decide +kernel
  have B4 : ∀ (n : Nat), ∀ (H : Heap) (locs : List Loc) (_ : WD G S0 M0 H) (_ : va_S (Aw G) s.heap H locs) (ls : Array Slot) (l1 : Int32) (l2 : UInt32) (l3 : Int32) (_ : lv_has ls 4 [(0, .ref (gad G c)), (1, .int l1), (2, .float l2), (3, .int l3)]) (h : f0_loudnessOf_b4 S0 c l1 n l2 l3 = some (rr)), WF p l e (headSpec wsX0_loudnessOf rX0_loudnessOf).room s m args below meth cd G rr S0 M0 H locs (F0 m 4 ls []) := by
    intro n
    induction n with
    | zero => intro H locs hW hS ls l1 l2 l3 hl h; cases (show (none : Option (UInt32)) = some _ from h)
    | succ n ih =>
      have B29 : ∀ (H : Heap) (locs : List Loc) (_ : WD G S0 M0 H) (_ : va_S (Aw G) s.heap H locs) (ls : Array Slot) (l1 : Int32) (l2 : UInt32) (l3 : Int32) (_ : lv_has ls 4 [(0, .ref (gad G c)), (1, .int l1), (2, .float l2), (3, .int l3)]) (h : f0_loudnessOf_b29 S0 c (f0_loudnessOf_b4 S0 c l1 n) l1 l2 l3 = some (rr)), WF p l e (headSpec wsX0_loudnessOf rX0_loudnessOf).room s m args below meth cd G rr S0 M0 H locs (F0 m 29 ls []) := by
        intro H locs hW hS ls l1 l2 l3 hl h
        unfold f0_loudnessOf_b29 at h
        refine lv_iinc (v := (l3 + 1)) (lv' := [(3, .int ((l3 + 1))), (0, .ref (gad G c)), (1, .int l1), (2, .float l2)]) hx hb dX0_loudnessOf_29 hl (k := 3) rfl rfl (by decide) rfl (fun ls hl => ?_)
        refine lv_goto (tgt := 4) hx hb dX0_loudnessOf_32 (by decide) ?_
        exact ih _ _ hW hS ls l1 l2 ((l3 + 1)) (lv_sub hl [1, 2, 3, 0] rfl) h
      intro H locs hW hS ls l1 l2 l3 hl h
      rw [f0_loudnessOf_b4] at h
      refine lv_iload_n hx hb dX0_loudnessOf_4 rfl (lv_at hl 3 rfl) ?_
      refine lv_aload_n hx hb dX0_loudnessOf_5 rfl (lv_at hl 0 rfl) ?_
      refine va_get (D := G.1) (ci := 0) (v := .int (S0.1 (6 * c + 2))) (C := RX0) (T := TX0) (N := 12) hx hb hts hiX0 hown hK.1 hW.1 c (lkC (c := c) (by omega)) rfl 8 (by decide) (hts _ (List.mem_of_getElem? (i := 1) rfl)) (fun _ h9 => h9) rfl dX0_loudnessOf_6 ?_
      refine lv_icmp_ge (tgt := 35) hx hb dX0_loudnessOf_9 (by decide) (fun c_1 => ?_) (fun c_1 => ?_)
      · have h := ite_t c_1 h
        refine lv_fload_n hx hb dX0_loudnessOf_35 rfl (lv_at hl 2 rfl) ?_
        obtain rfl := Option.some.inj h
        exact W.fret hx hb hr (fun t ht hw => ⟨⟨_, (), rfl, rfl, hW.ret ht⟩, hS.F ht⟩) hS.2.2 dX0_loudnessOf_36
      · have h := ite_f c_1 h
        refine lv_aload_n hx hb dX0_loudnessOf_12 rfl (lv_at hl 0 rfl) ?_
        refine lv_iload_n hx hb dX0_loudnessOf_13 rfl (lv_at hl 3 rfl) ?_
        obtain ⟨r_2, e_3, h⟩ := bnd_e h
        refine kV_I (As := [.int l3]) (rest := []) ⟨hx, hb, hml, hown, hts⟩ (tX0_ownerOfSong l G S0 M0 c (by omega) l3 r_2 e_3) (cwV 1 hts gX0_loudnessOf_X0_ownerOfSong rfl rfl rfl ⟨rfl, hdX0_ownerOfSong⟩ ⟨Nat.le_of_ble_eq_true rfl, Nat.le_of_ble_eq_true rfl⟩) (va_recv hK.1 hW.1 (ci := 0) (q0 := c) rfl (lkC (c := c) (by omega))) hK hW hS hA rfl hl.1 rfl (Nat.le_of_ble_eq_true rfl) dX0_loudnessOf_14 ⟨Nat.zero_le _, Nat.zero_le _⟩ (fun H locs hW hS => ?_)
        refine lv_iload_n hx hb dX0_loudnessOf_17 rfl (lv_at hl 1 rfl) ?_
        refine lv_icmp_ne (tgt := 29) hx hb dX0_loudnessOf_18 (by decide) (fun c_4 => ?_) (fun c_4 => ?_)
        · have h := ite_f c_4 h
          exact B29 _ _ hW hS ls l1 l2 l3 (lv_sub hl [0, 1, 2, 3] rfl) h
        · have h := ite_t c_4 h
          refine lv_fload_n hx hb dX0_loudnessOf_21 rfl (lv_at hl 2 rfl) ?_
          refine lv_aload_n hx hb dX0_loudnessOf_22 rfl (lv_at hl 0 rfl) ?_
          refine lv_iload_n hx hb dX0_loudnessOf_23 rfl (lv_at hl 3 rfl) ?_
          obtain ⟨r_5, e_6, h⟩ := bnd_e h
          refine kV_F (As := [.int l3]) (rest := [.float l2]) ⟨hx, hb, hml, hown, hts⟩ (tX0_loudnessOfSong l G S0 M0 c (by omega) l3 r_5 e_6) (cwV 1 hts gX0_loudnessOf_X0_loudnessOfSong rfl rfl rfl ⟨rfl, hdX0_loudnessOfSong⟩ ⟨Nat.le_of_ble_eq_true rfl, Nat.le_of_ble_eq_true rfl⟩) (va_recv hK.1 hW.1 (ci := 0) (q0 := c) rfl (lkC (c := c) (by omega))) hK hW hS hA rfl hl.1 rfl (Nat.le_of_ble_eq_true rfl) dX0_loudnessOf_24 ⟨Nat.zero_le _, Nat.zero_le _⟩ (fun H locs hW hS => ?_)
          obtain ⟨x_7, nx_7, ex_7, h⟩ := fnn_e h
          refine lv_fadd hx hb dX0_loudnessOf_27 nx_7 ?_
          refine lv_nf ex_7 ?_
          refine lv_fstore_n (lv' := [(2, .float x_7), (0, .ref (gad G c)), (1, .int l1), (3, .int l3)]) hx hb dX0_loudnessOf_28 rfl hl (by decide) rfl (fun ls hl => ?_)
          exact B29 _ _ hW hS ls l1 x_7 l3 (lv_sub hl [1, 2, 0, 3] rfl) h
  unfold f0_loudnessOf at h
  refine lv_fconst0 hx hb dX0_loudnessOf_0 ?_
  refine lv_fstore_n (lv' := [(2, .float FP.fconst0), (0, .ref (gad G c)), (1, .int p1)]) hx hb dX0_loudnessOf_1 rfl hl (by decide) rfl (fun ls hl => ?_)
  refine lv_iconst (v := 0) hx hb dX0_loudnessOf_2 (by decide) ?_
  refine lv_istore_n (lv' := [(3, .int 0), (2, .float FP.fconst0), (0, .ref (gad G c)), (1, .int p1)]) hx hb dX0_loudnessOf_3 rfl hl (by decide) rfl (fun ls hl => ?_)
  exact B4 fuelN _ _ hW hS ls p1 FP.fconst0 0 (lv_sub hl [2, 3, 1, 0] rfl) h
abbrev rX5_bitsOf : Room := { frames := 0, cells := 0, slots := 0, locals := 0 }
set_option maxRecDepth 100000 in
set_option maxHeartbeats 8000000 in
theorem tX5_bitsOf (l : Launch) (G : WG) (S0 M0 : St) (p0 : UInt32) (rr : Int32) (h : f5_bitsOf p0 = some (rr)) : CtI l yX5_bitsOf wsX5_bitsOf rX5_bitsOf G [.float p0] S0 M0 rr S0 M0 := by
  refine Met.ofW (cc := cX5_bitsOf) (maxL := 4) (ret := (some .int)) (by decide) rfl ?_
  intro p e s m args below meth cd s₁ B hml hv
  obtain ⟨hargs, hK, hW⟩ := hv
  have hx := B.exec
  have hb := B.bytes
  have hr := B.returns
  have hts := atoms_spec (ws := wsX5_bitsOf) B.pre
  have hown : s.vm.findClass RX5 = some m.cls := findClass_of_methodNamed B.named
  have hlocks := B.notSynchronized
  have hA : ∀ q, Aw G q → Aw G q := fun _ h => h
  have hS : va_S (Aw G) s.heap s.heap [] := va_S.rf
  have he0 : entryFrame m args 4 = F0 m 0 ((lg_sl ([.float p0]) ++ List.replicate (4 - (lg_sl ([.float p0])).length) Slot.unset).toArray) [] := by rw [hargs]; exact lg_entry_eq _ _ _
  have hl := lv_entry ([.float p0]) (n := 4) (Nat.le_of_ble_eq_true rfl)
  rw [he0]
  generalize (lg_sl ([.float p0]) ++ List.replicate (4 - (lg_sl ([.float p0])).length) Slot.unset).toArray = ls at hl ⊢
  have hl : lv_has ls 4 [(0, .float p0)] := hl
  have B67 : ∀ (H : Heap) (locs : List Loc) (_ : WD G S0 M0 H) (_ : va_S (Aw G) s.heap H locs) (ls : Array Slot) (l1 : UInt32) (l2 : Int32) (_ : lv_has ls 4 [(1, .float l1), (2, .int l2)]) (h : f5_bitsOf_b67  l1 l2 = some (rr)), WI p l e (headSpec wsX5_bitsOf rX5_bitsOf).room s m args below meth cd G rr S0 M0 H locs (F0 m 67 ls []) := by
    intro H locs hW hS ls l1 l2 hl h
    unfold f5_bitsOf_b67 at h
    refine lv_iload_n hx hb dX5_bitsOf_67 rfl (lv_at hl 1 rfl) ?_
    refine lv_bipush (v := 23) hx hb dX5_bitsOf_68 (by decide) ?_
    refine lv_ishl hx hb dX5_bitsOf_70 ?_
    refine lv_fload_n hx hb dX5_bitsOf_71 rfl (lv_at hl 0 rfl) ?_
    refine lv_fconst1 hx hb dX5_bitsOf_72 ?_
    obtain ⟨x_1, nx_1, ex_1, h⟩ := fnn_e h
    refine lv_fsub hx hb dX5_bitsOf_73 nx_1 ?_
    refine lv_nf ex_1 ?_
    refine lv_ldcf hx hb hown (hts _ (List.mem_of_getElem? (i := 1) rfl)) dX5_bitsOf_74 ?_
    obtain ⟨x_2, nx_2, ex_2, h⟩ := fnn_e h
    refine lv_fmul hx hb dX5_bitsOf_76 nx_2 ?_
    refine lv_nf ex_2 ?_
    refine lv_f2i hx hb dX5_bitsOf_77 ?_
    refine lv_iadd hx hb dX5_bitsOf_78 ?_
    obtain rfl := Option.some.inj h
    exact W.iret hx hb hr (fun t ht hw => ⟨⟨_, (), rfl, rfl, hW.ret ht⟩, hS.F ht⟩) hS.2.2 dX5_bitsOf_79
  have B42 : ∀ (n : Nat), ∀ (H : Heap) (locs : List Loc) (_ : WD G S0 M0 H) (_ : va_S (Aw G) s.heap H locs) (ls : Array Slot) (l1 : UInt32) (l2 : Int32) (l3 : Int32) (_ : lv_has ls 4 [(1, .float l1), (2, .int l2), (3, .int l3)]) (h : f5_bitsOf_b42  n l1 l2 l3 = some (rr)), WI p l e (headSpec wsX5_bitsOf rX5_bitsOf).room s m args below meth cd G rr S0 M0 H locs (F0 m 42 ls []) := by
    intro n
    induction n with
    | zero => intro H locs hW hS ls l1 l2 l3 hl h; cases (show (none : Option (Int32)) = some _ from h)
    | succ n ih =>
      intro H locs hW hS ls l1 l2 l3 hl h
      rw [f5_bitsOf_b42] at h
      refine lv_iload_n hx hb dX5_bitsOf_42 rfl (lv_at hl 2 rfl) ?_
      refine lv_bipush (v := 127) hx hb dX5_bitsOf_43 (by decide) ?_
      refine lv_icmp_ge (tgt := 67) hx hb dX5_bitsOf_45 (by decide) (fun c_1 => ?_) (fun c_1 => ?_)
      · have h := ite_t c_1 h
        exact B67 _ _ hW hS ls l1 l2 (lv_sub hl [0, 1] rfl) h
      · have h := ite_f c_1 h
        refine lv_fload_n hx hb dX5_bitsOf_48 rfl (lv_at hl 0 rfl) ?_
        refine lv_fconst1 hx hb dX5_bitsOf_49 ?_
        refine lv_fcmp hx hb dX5_bitsOf_50 ?_
        refine lv_if_ge (tgt := 67) hx hb dX5_bitsOf_51 (by decide) (fun c_2 => ?_) (fun c_2 => ?_)
        · have h := ite_t c_2 h
          exact B67 _ _ hW hS ls l1 l2 (lv_sub hl [0, 1] rfl) h
        · have h := ite_f c_2 h
          refine lv_fload_n hx hb dX5_bitsOf_54 rfl (lv_at hl 0 rfl) ?_
          refine lv_fconst2 hx hb dX5_bitsOf_55 ?_
          obtain ⟨x_3, nx_3, ex_3, h⟩ := fnn_e h
          refine lv_fmul hx hb dX5_bitsOf_56 nx_3 ?_
          refine lv_nf ex_3 ?_
          refine lv_fstore_n (lv' := [(1, .float x_3), (2, .int l2), (3, .int l3)]) hx hb dX5_bitsOf_57 rfl hl (by decide) rfl (fun ls hl => ?_)
          refine lv_iinc (v := (l2 + (-1))) (lv' := [(2, .int ((l2 + (-1)))), (1, .float x_3), (3, .int l3)]) hx hb dX5_bitsOf_58 hl (k := 1) rfl rfl (by decide) rfl (fun ls hl => ?_)
          refine lv_iinc (v := (l3 + 1)) (lv' := [(3, .int ((l3 + 1))), (2, .int ((l2 + (-1)))), (1, .float x_3)]) hx hb dX5_bitsOf_61 hl (k := 2) rfl rfl (by decide) rfl (fun ls hl => ?_)
          refine lv_goto (tgt := 42) hx hb dX5_bitsOf_64 (by decide) ?_
          exact ih _ _ hW hS ls x_3 ((l2 + (-1))) ((l3 + 1)) (lv_sub hl [2, 1, 0] rfl) h
  have B40 : ∀ (H : Heap) (locs : List Loc) (_ : WD G S0 M0 H) (_ : va_S (Aw G) s.heap H locs) (ls : Array Slot) (l1 : UInt32) (l2 : Int32) (_ : lv_has ls 4 [(1, .float l1), (2, .int l2)]) (h : f5_bitsOf_b40  l1 l2 = some (rr)), WI p l e (headSpec wsX5_bitsOf rX5_bitsOf).room s m args below meth cd G rr S0 M0 H locs (F0 m 40 ls []) := by
    intro H locs hW hS ls l1 l2 hl h
    unfold f5_bitsOf_b40 at h
    refine lv_iconst (v := 0) hx hb dX5_bitsOf_40 (by decide) ?_
    refine lv_istore_n (lv' := [(3, .int 0), (1, .float l1), (2, .int l2)]) hx hb dX5_bitsOf_41 rfl hl (by decide) rfl (fun ls hl => ?_)
    exact B42 fuelN _ _ hW hS ls l1 l2 0 (lv_sub hl [1, 2, 0] rfl) h
  have B15 : ∀ (n : Nat), ∀ (H : Heap) (locs : List Loc) (_ : WD G S0 M0 H) (_ : va_S (Aw G) s.heap H locs) (ls : Array Slot) (l1 : UInt32) (l2 : Int32) (l3 : Int32) (_ : lv_has ls 4 [(1, .float l1), (2, .int l2), (3, .int l3)]) (h : f5_bitsOf_b15  n l1 l2 l3 = some (rr)), WI p l e (headSpec wsX5_bitsOf rX5_bitsOf).room s m args below meth cd G rr S0 M0 H locs (F0 m 15 ls []) := by
    intro n
    induction n with
    | zero => intro H locs hW hS ls l1 l2 l3 hl h; cases (show (none : Option (Int32)) = some _ from h)
    | succ n ih =>
      intro H locs hW hS ls l1 l2 l3 hl h
      rw [f5_bitsOf_b15] at h
      refine lv_iload_n hx hb dX5_bitsOf_15 rfl (lv_at hl 2 rfl) ?_
      refine lv_bipush (v := 127) hx hb dX5_bitsOf_16 (by decide) ?_
      refine lv_icmp_ge (tgt := 40) hx hb dX5_bitsOf_18 (by decide) (fun c_1 => ?_) (fun c_1 => ?_)
      · have h := ite_t c_1 h
        exact B40 _ _ hW hS ls l1 l2 (lv_sub hl [0, 1] rfl) h
      · have h := ite_f c_1 h
        refine lv_fload_n hx hb dX5_bitsOf_21 rfl (lv_at hl 0 rfl) ?_
        refine lv_fconst2 hx hb dX5_bitsOf_22 ?_
        refine lv_fcmp hx hb dX5_bitsOf_23 ?_
        refine lv_if_lt (tgt := 40) hx hb dX5_bitsOf_24 (by decide) (fun c_2 => ?_) (fun c_2 => ?_)
        · have h := ite_t c_2 h
          exact B40 _ _ hW hS ls l1 l2 (lv_sub hl [0, 1] rfl) h
        · have h := ite_f c_2 h
          refine lv_fload_n hx hb dX5_bitsOf_27 rfl (lv_at hl 0 rfl) ?_
          refine lv_fconst2 hx hb dX5_bitsOf_28 ?_
          obtain ⟨x_3, nx_3, ex_3, h⟩ := fnn_e h
          refine lv_fdiv hx hb dX5_bitsOf_29 nx_3 ?_
          refine lv_nf ex_3 ?_
          refine lv_fstore_n (lv' := [(1, .float x_3), (2, .int l2), (3, .int l3)]) hx hb dX5_bitsOf_30 rfl hl (by decide) rfl (fun ls hl => ?_)
          refine lv_iinc (v := (l2 + 1)) (lv' := [(2, .int ((l2 + 1))), (1, .float x_3), (3, .int l3)]) hx hb dX5_bitsOf_31 hl (k := 1) rfl rfl (by decide) rfl (fun ls hl => ?_)
          refine lv_iinc (v := (l3 + 1)) (lv' := [(3, .int ((l3 + 1))), (2, .int ((l2 + 1))), (1, .float x_3)]) hx hb dX5_bitsOf_34 hl (k := 2) rfl rfl (by decide) rfl (fun ls hl => ?_)
          refine lv_goto (tgt := 15) hx hb dX5_bitsOf_37 (by decide) ?_
          exact ih _ _ hW hS ls x_3 ((l2 + 1)) ((l3 + 1)) (lv_sub hl [2, 1, 0] rfl) h
  unfold f5_bitsOf at h
  refine lv_fload_n hx hb dX5_bitsOf_0 rfl (lv_at hl 0 rfl) ?_
  refine lv_fconst0 hx hb dX5_bitsOf_1 ?_
  refine lv_fcmp hx hb dX5_bitsOf_2 ?_
  refine lv_if_gt (tgt := 8) hx hb dX5_bitsOf_3 (by decide) (fun c_1 => ?_) (fun c_1 => ?_)
  · have h := ite_t c_1 h
    refine lv_fload_n hx hb dX5_bitsOf_8 rfl (lv_at hl 0 rfl) ?_
    refine lv_fstore_n (lv' := [(1, .float p0), (0, .float p0)]) hx hb dX5_bitsOf_9 rfl hl (by decide) rfl (fun ls hl => ?_)
    refine lv_bipush (v := 127) hx hb dX5_bitsOf_10 (by decide) ?_
    refine lv_istore_n (lv' := [(2, .int 127), (1, .float p0), (0, .float p0)]) hx hb dX5_bitsOf_12 rfl hl (by decide) rfl (fun ls hl => ?_)
    refine lv_iconst (v := 0) hx hb dX5_bitsOf_13 (by decide) ?_
    refine lv_istore_n (lv' := [(3, .int 0), (2, .int 127), (1, .float p0), (0, .float p0)]) hx hb dX5_bitsOf_14 rfl hl (by decide) rfl (fun ls hl => ?_)
    exact B15 fuelN _ _ hW hS ls p0 127 0 (lv_sub hl [2, 1, 0] rfl) h
  · have h := ite_f c_1 h
    refine lv_iconst (v := 0) hx hb dX5_bitsOf_6 (by decide) ?_
    obtain rfl := Option.some.inj h
    exact W.iret hx hb hr (fun t ht hw => ⟨⟨_, (), rfl, rfl, hW.ret ht⟩, hS.F ht⟩) hS.2.2 dX5_bitsOf_7
abbrev rX3_x0Of : Room := { frames := 1, cells := 0, slots := 0, locals := 21 }
set_option maxRecDepth 100000 in
set_option maxHeartbeats 8000000 in
theorem tX3_x0Of (l : Launch) (G : WG) (S0 M0 : St) (c : Nat) (hc : c < 7) (p1 : Int32) (rr : Int32) (h : f3_x0Of S0 c p1 = some (rr)) : CtI l yX3_x0Of wsX3_x0Of rX3_x0Of G [.ref (gad G (7 + c)), .int p1] S0 M0 rr S0 M0 := by
  refine Met.ofW (cc := cX3_x0Of) (maxL := 2) (ret := (some .int)) (by decide) rfl ?_
  intro p e s m args below meth cd s₁ B hml hv
  obtain ⟨hargs, hK, hW⟩ := hv
  have hx := B.exec
  have hb := B.bytes
  have hr := B.returns
  have hts := atoms_spec (ws := wsX3_x0Of) B.pre
  have hown : s.vm.findClass RX3 = some m.cls := findClass_of_methodNamed B.named
  have hlocks := B.notSynchronized
  have hA : ∀ q, Aw G q → Aw G q := fun _ h => h
  have hS : va_S (Aw G) s.heap s.heap [] := va_S.rf
  have he0 : entryFrame m args 2 = F0 m 0 ((lg_sl ([.ref (gad G (7 + c)), .int p1]) ++ List.replicate (2 - (lg_sl ([.ref (gad G (7 + c)), .int p1])).length) Slot.unset).toArray) [] := by rw [hargs]; exact lg_entry_eq _ _ _
  have hl := lv_entry ([.ref (gad G (7 + c)), .int p1]) (n := 2) (Nat.le_of_ble_eq_true rfl)
  rw [he0]
  generalize (lg_sl ([.ref (gad G (7 + c)), .int p1]) ++ List.replicate (2 - (lg_sl ([.ref (gad G (7 + c)), .int p1])).length) Slot.unset).toArray = ls at hl ⊢
  have hl : lv_has ls 2 [(0, .ref (gad G (7 + c))), (1, .int p1)] := hl
  have hiX3 : ∀ w ∈ u_ws RX3 TX3 5, w ∈ wsX3_x0Of := by decide +kernel
  unfold f3_x0Of at h
  refine lv_aload_n hx hb dX3_x0Of_0 rfl (lv_at hl 0 rfl) ?_
  refine va_get (D := G.1) (ci := 3) (v := .ref (gad G (14 + (10 * c + 0)))) (C := RX3) (T := TX3) (N := 5) hx hb hts hiX3 hown hK.1 hW.1 (7 + c) (lkP (c := c) (by omega)) rfl 0 (by decide) (hts _ (List.mem_of_getElem? (i := 1) rfl)) (fun _ h9 => h9) rfl dX3_x0Of_1 ?_
  refine lv_iload_n hx hb dX3_x0Of_4 rfl (lv_at hl 1 rfl) ?_
  obtain ⟨r_1, e_2, h⟩ := bnd_e h
  refine kV_I (As := [.int p1]) (rest := []) ⟨hx, hb, hml, hown, hts⟩ (tX4_at l G S0 M0 ((10 * c + 0)) (by omega) p1 r_1 e_2) (cwV 1 hts gX3_x0Of_X4_at rfl rfl rfl ⟨rfl, hdX4_at⟩ ⟨Nat.le_of_ble_eq_true rfl, Nat.le_of_ble_eq_true rfl⟩) (va_recv hK.1 hW.1 (ci := 4) (q0 := (14 + (10 * c + 0))) rfl (lkR (r := (10 * c + 0)) (by omega))) hK hW hS hA rfl hl.1 rfl (Nat.le_of_ble_eq_true rfl) dX3_x0Of_5 ⟨Nat.zero_le _, Nat.zero_le _⟩ (fun H locs hW hS => ?_)
  obtain rfl := Option.some.inj h
  exact W.iret hx hb hr (fun t ht hw => ⟨⟨_, (), rfl, rfl, hW.ret ht⟩, hS.F ht⟩) hS.2.2 dX3_x0Of_8
abbrev rX3_x1Of : Room := { frames := 1, cells := 0, slots := 0, locals := 21 }
set_option maxRecDepth 100000 in
set_option maxHeartbeats 8000000 in
theorem tX3_x1Of (l : Launch) (G : WG) (S0 M0 : St) (c : Nat) (hc : c < 7) (p1 : Int32) (rr : Int32) (h : f3_x1Of S0 c p1 = some (rr)) : CtI l yX3_x1Of wsX3_x1Of rX3_x1Of G [.ref (gad G (7 + c)), .int p1] S0 M0 rr S0 M0 := by
  refine Met.ofW (cc := cX3_x1Of) (maxL := 2) (ret := (some .int)) (by decide) rfl ?_
  intro p e s m args below meth cd s₁ B hml hv
  obtain ⟨hargs, hK, hW⟩ := hv
  have hx := B.exec
  have hb := B.bytes
  have hr := B.returns
  have hts := atoms_spec (ws := wsX3_x1Of) B.pre
  have hown : s.vm.findClass RX3 = some m.cls := findClass_of_methodNamed B.named
  have hlocks := B.notSynchronized
  have hA : ∀ q, Aw G q → Aw G q := fun _ h => h
  have hS : va_S (Aw G) s.heap s.heap [] := va_S.rf
  have he0 : entryFrame m args 2 = F0 m 0 ((lg_sl ([.ref (gad G (7 + c)), .int p1]) ++ List.replicate (2 - (lg_sl ([.ref (gad G (7 + c)), .int p1])).length) Slot.unset).toArray) [] := by rw [hargs]; exact lg_entry_eq _ _ _
  have hl := lv_entry ([.ref (gad G (7 + c)), .int p1]) (n := 2) (Nat.le_of_ble_eq_true rfl)
  rw [he0]
  generalize (lg_sl ([.ref (gad G (7 + c)), .int p1]) ++ List.replicate (2 - (lg_sl ([.ref (gad G (7 + c)), .int p1])).length) Slot.unset).toArray = ls at hl ⊢
  have hl : lv_has ls 2 [(0, .ref (gad G (7 + c))), (1, .int p1)] := hl
  have hiX3 : ∀ w ∈ u_ws RX3 TX3 5, w ∈ wsX3_x1Of := by decide +kernel
  unfold f3_x1Of at h
  refine lv_aload_n hx hb dX3_x1Of_0 rfl (lv_at hl 0 rfl) ?_
  refine va_get (D := G.1) (ci := 3) (v := .ref (gad G (14 + (10 * c + 0)))) (C := RX3) (T := TX3) (N := 5) hx hb hts hiX3 hown hK.1 hW.1 (7 + c) (lkP (c := c) (by omega)) rfl 0 (by decide) (hts _ (List.mem_of_getElem? (i := 1) rfl)) (fun _ h9 => h9) rfl dX3_x1Of_1 ?_
  refine lv_iload_n hx hb dX3_x1Of_4 rfl (lv_at hl 1 rfl) ?_
  obtain ⟨r_1, e_2, h⟩ := bnd_e h
  refine kV_I (As := [.int p1]) (rest := []) ⟨hx, hb, hml, hown, hts⟩ (tX4_at l G S0 M0 ((10 * c + 0)) (by omega) p1 r_1 e_2) (cwV 1 hts gX3_x1Of_X4_at rfl rfl rfl ⟨rfl, hdX4_at⟩ ⟨Nat.le_of_ble_eq_true rfl, Nat.le_of_ble_eq_true rfl⟩) (va_recv hK.1 hW.1 (ci := 4) (q0 := (14 + (10 * c + 0))) rfl (lkR (r := (10 * c + 0)) (by omega))) hK hW hS hA rfl hl.1 rfl (Nat.le_of_ble_eq_true rfl) dX3_x1Of_5 ⟨Nat.zero_le _, Nat.zero_le _⟩ (fun H locs hW hS => ?_)
  refine lv_aload_n hx hb dX3_x1Of_8 rfl (lv_at hl 0 rfl) ?_
  refine va_get (D := G.1) (ci := 3) (v := .ref (gad G (14 + (10 * c + 2)))) (C := RX3) (T := TX3) (N := 5) hx hb hts hiX3 hown hK.1 hW.1 (7 + c) (lkP (c := c) (by omega)) rfl 2 (by decide) (hts _ (List.mem_of_getElem? (i := 2) rfl)) (fun _ h9 => h9) rfl dX3_x1Of_9 ?_
  refine lv_iload_n hx hb dX3_x1Of_12 rfl (lv_at hl 1 rfl) ?_
  obtain ⟨r_3, e_4, h⟩ := bnd_e h
  refine kV_I (As := [.int p1]) (rest := [.int r_1]) ⟨hx, hb, hml, hown, hts⟩ (tX4_at l G S0 M0 ((10 * c + 2)) (by omega) p1 r_3 e_4) (cwV 1 hts gX3_x1Of_X4_at rfl rfl rfl ⟨rfl, hdX4_at⟩ ⟨Nat.le_of_ble_eq_true rfl, Nat.le_of_ble_eq_true rfl⟩) (va_recv hK.1 hW.1 (ci := 4) (q0 := (14 + (10 * c + 2))) rfl (lkR (r := (10 * c + 2)) (by omega))) hK hW hS hA rfl hl.1 rfl (Nat.le_of_ble_eq_true rfl) dX3_x1Of_13 ⟨Nat.zero_le _, Nat.zero_le _⟩ (fun H locs hW hS => ?_)
  obtain ⟨r_5, e_6, h⟩ := bnd_e h
  refine kSN_I (As := [.int r_3]) (rest := [.int r_1]) ⟨hx, hb, hml, hown, hts⟩ (tX5_widthAt l G S0 M0 r_3 r_5 e_6) ⟨va_cnB 1 hts gX3_x1Of_X5_widthAt_n45 rfl rfl rfl (hK.2 _ (List.mem_of_getElem? (i := 13) rfl)) (hts _ (List.mem_of_getElem? (i := 10) rfl)) hdX5_widthAt ⟨Nat.le_of_ble_eq_true rfl, Nat.le_of_ble_eq_true rfl⟩, (hts _ (List.mem_of_getElem? (i := 9) rfl)), trivial⟩ hK hW hS hA rfl hl.1 rfl (Nat.le_of_ble_eq_true rfl) dX3_x1Of_16 ⟨Nat.zero_le _, Nat.zero_le _⟩ (fun H locs hW hS => ?_)
  refine lv_iadd hx hb dX3_x1Of_19 ?_
  refine lv_iconst (v := 1) hx hb dX3_x1Of_20 (by decide) ?_
  refine lv_isub hx hb dX3_x1Of_21 ?_
  obtain rfl := Option.some.inj h
  exact W.iret hx hb hr (fun t ht hw => ⟨⟨_, (), rfl, rfl, hW.ret ht⟩, hS.F ht⟩) hS.2.2 dX3_x1Of_22
abbrev rX3_y0Of : Room := { frames := 1, cells := 0, slots := 0, locals := 21 }
set_option maxRecDepth 100000 in
set_option maxHeartbeats 8000000 in
theorem tX3_y0Of (l : Launch) (G : WG) (S0 M0 : St) (c : Nat) (hc : c < 7) (p1 : Int32) (rr : Int32) (h : f3_y0Of S0 c p1 = some (rr)) : CtI l yX3_y0Of wsX3_y0Of rX3_y0Of G [.ref (gad G (7 + c)), .int p1] S0 M0 rr S0 M0 := by
  refine Met.ofW (cc := cX3_y0Of) (maxL := 2) (ret := (some .int)) (by decide) rfl ?_
  intro p e s m args below meth cd s₁ B hml hv
  obtain ⟨hargs, hK, hW⟩ := hv
  have hx := B.exec
  have hb := B.bytes
  have hr := B.returns
  have hts := atoms_spec (ws := wsX3_y0Of) B.pre
  have hown : s.vm.findClass RX3 = some m.cls := findClass_of_methodNamed B.named
  have hlocks := B.notSynchronized
  have hA : ∀ q, Aw G q → Aw G q := fun _ h => h
  have hS : va_S (Aw G) s.heap s.heap [] := va_S.rf
  have he0 : entryFrame m args 2 = F0 m 0 ((lg_sl ([.ref (gad G (7 + c)), .int p1]) ++ List.replicate (2 - (lg_sl ([.ref (gad G (7 + c)), .int p1])).length) Slot.unset).toArray) [] := by rw [hargs]; exact lg_entry_eq _ _ _
  have hl := lv_entry ([.ref (gad G (7 + c)), .int p1]) (n := 2) (Nat.le_of_ble_eq_true rfl)
  rw [he0]
  generalize (lg_sl ([.ref (gad G (7 + c)), .int p1]) ++ List.replicate (2 - (lg_sl ([.ref (gad G (7 + c)), .int p1])).length) Slot.unset).toArray = ls at hl ⊢
  have hl : lv_has ls 2 [(0, .ref (gad G (7 + c))), (1, .int p1)] := hl
  have hiX3 : ∀ w ∈ u_ws RX3 TX3 5, w ∈ wsX3_y0Of := by decide +kernel
  unfold f3_y0Of at h
  refine lv_aload_n hx hb dX3_y0Of_0 rfl (lv_at hl 0 rfl) ?_
  refine va_get (D := G.1) (ci := 3) (v := .ref (gad G (14 + (10 * c + 1)))) (C := RX3) (T := TX3) (N := 5) hx hb hts hiX3 hown hK.1 hW.1 (7 + c) (lkP (c := c) (by omega)) rfl 1 (by decide) (hts _ (List.mem_of_getElem? (i := 1) rfl)) (fun _ h9 => h9) rfl dX3_y0Of_1 ?_
  refine lv_iload_n hx hb dX3_y0Of_4 rfl (lv_at hl 1 rfl) ?_
  obtain ⟨r_1, e_2, h⟩ := bnd_e h
  refine kV_I (As := [.int p1]) (rest := []) ⟨hx, hb, hml, hown, hts⟩ (tX4_at l G S0 M0 ((10 * c + 1)) (by omega) p1 r_1 e_2) (cwV 1 hts gX3_y0Of_X4_at rfl rfl rfl ⟨rfl, hdX4_at⟩ ⟨Nat.le_of_ble_eq_true rfl, Nat.le_of_ble_eq_true rfl⟩) (va_recv hK.1 hW.1 (ci := 4) (q0 := (14 + (10 * c + 1))) rfl (lkR (r := (10 * c + 1)) (by omega))) hK hW hS hA rfl hl.1 rfl (Nat.le_of_ble_eq_true rfl) dX3_y0Of_5 ⟨Nat.zero_le _, Nat.zero_le _⟩ (fun H locs hW hS => ?_)
  obtain rfl := Option.some.inj h
  exact W.iret hx hb hr (fun t ht hw => ⟨⟨_, (), rfl, rfl, hW.ret ht⟩, hS.F ht⟩) hS.2.2 dX3_y0Of_8
abbrev rX3_y1Of : Room := { frames := 1, cells := 0, slots := 0, locals := 21 }
set_option maxRecDepth 100000 in
set_option maxHeartbeats 8000000 in
theorem tX3_y1Of (l : Launch) (G : WG) (S0 M0 : St) (c : Nat) (hc : c < 7) (p1 : Int32) (rr : Int32) (h : f3_y1Of S0 c p1 = some (rr)) : CtI l yX3_y1Of wsX3_y1Of rX3_y1Of G [.ref (gad G (7 + c)), .int p1] S0 M0 rr S0 M0 := by
  refine Met.ofW (cc := cX3_y1Of) (maxL := 2) (ret := (some .int)) (by decide) rfl ?_
  intro p e s m args below meth cd s₁ B hml hv
  obtain ⟨hargs, hK, hW⟩ := hv
  have hx := B.exec
  have hb := B.bytes
  have hr := B.returns
  have hts := atoms_spec (ws := wsX3_y1Of) B.pre
  have hown : s.vm.findClass RX3 = some m.cls := findClass_of_methodNamed B.named
  have hlocks := B.notSynchronized
  have hA : ∀ q, Aw G q → Aw G q := fun _ h => h
  have hS : va_S (Aw G) s.heap s.heap [] := va_S.rf
  have he0 : entryFrame m args 2 = F0 m 0 ((lg_sl ([.ref (gad G (7 + c)), .int p1]) ++ List.replicate (2 - (lg_sl ([.ref (gad G (7 + c)), .int p1])).length) Slot.unset).toArray) [] := by rw [hargs]; exact lg_entry_eq _ _ _
  have hl := lv_entry ([.ref (gad G (7 + c)), .int p1]) (n := 2) (Nat.le_of_ble_eq_true rfl)
  rw [he0]
  generalize (lg_sl ([.ref (gad G (7 + c)), .int p1]) ++ List.replicate (2 - (lg_sl ([.ref (gad G (7 + c)), .int p1])).length) Slot.unset).toArray = ls at hl ⊢
  have hl : lv_has ls 2 [(0, .ref (gad G (7 + c))), (1, .int p1)] := hl
  have hiX3 : ∀ w ∈ u_ws RX3 TX3 5, w ∈ wsX3_y1Of := by decide +kernel
  unfold f3_y1Of at h
  refine lv_aload_n hx hb dX3_y1Of_0 rfl (lv_at hl 0 rfl) ?_
  refine va_get (D := G.1) (ci := 3) (v := .ref (gad G (14 + (10 * c + 1)))) (C := RX3) (T := TX3) (N := 5) hx hb hts hiX3 hown hK.1 hW.1 (7 + c) (lkP (c := c) (by omega)) rfl 1 (by decide) (hts _ (List.mem_of_getElem? (i := 1) rfl)) (fun _ h9 => h9) rfl dX3_y1Of_1 ?_
  refine lv_iload_n hx hb dX3_y1Of_4 rfl (lv_at hl 1 rfl) ?_
  obtain ⟨r_1, e_2, h⟩ := bnd_e h
  refine kV_I (As := [.int p1]) (rest := []) ⟨hx, hb, hml, hown, hts⟩ (tX4_at l G S0 M0 ((10 * c + 1)) (by omega) p1 r_1 e_2) (cwV 1 hts gX3_y1Of_X4_at rfl rfl rfl ⟨rfl, hdX4_at⟩ ⟨Nat.le_of_ble_eq_true rfl, Nat.le_of_ble_eq_true rfl⟩) (va_recv hK.1 hW.1 (ci := 4) (q0 := (14 + (10 * c + 1))) rfl (lkR (r := (10 * c + 1)) (by omega))) hK hW hS hA rfl hl.1 rfl (Nat.le_of_ble_eq_true rfl) dX3_y1Of_5 ⟨Nat.zero_le _, Nat.zero_le _⟩ (fun H locs hW hS => ?_)
  refine lv_aload_n hx hb dX3_y1Of_8 rfl (lv_at hl 0 rfl) ?_
  refine va_get (D := G.1) (ci := 3) (v := .ref (gad G (14 + (10 * c + 2)))) (C := RX3) (T := TX3) (N := 5) hx hb hts hiX3 hown hK.1 hW.1 (7 + c) (lkP (c := c) (by omega)) rfl 2 (by decide) (hts _ (List.mem_of_getElem? (i := 2) rfl)) (fun _ h9 => h9) rfl dX3_y1Of_9 ?_
  refine lv_iload_n hx hb dX3_y1Of_12 rfl (lv_at hl 1 rfl) ?_
  obtain ⟨r_3, e_4, h⟩ := bnd_e h
  refine kV_I (As := [.int p1]) (rest := [.int r_1]) ⟨hx, hb, hml, hown, hts⟩ (tX4_at l G S0 M0 ((10 * c + 2)) (by omega) p1 r_3 e_4) (cwV 1 hts gX3_y1Of_X4_at rfl rfl rfl ⟨rfl, hdX4_at⟩ ⟨Nat.le_of_ble_eq_true rfl, Nat.le_of_ble_eq_true rfl⟩) (va_recv hK.1 hW.1 (ci := 4) (q0 := (14 + (10 * c + 2))) rfl (lkR (r := (10 * c + 2)) (by omega))) hK hW hS hA rfl hl.1 rfl (Nat.le_of_ble_eq_true rfl) dX3_y1Of_13 ⟨Nat.zero_le _, Nat.zero_le _⟩ (fun H locs hW hS => ?_)
  obtain ⟨r_5, e_6, h⟩ := bnd_e h
  refine kSN_I (As := [.int r_3]) (rest := [.int r_1]) ⟨hx, hb, hml, hown, hts⟩ (tX5_heightAt l G S0 M0 r_3 r_5 e_6) ⟨va_cnB 1 hts gX3_y1Of_X5_heightAt_n48 rfl rfl rfl (hK.2 _ (List.mem_of_getElem? (i := 14) rfl)) (hts _ (List.mem_of_getElem? (i := 10) rfl)) hdX5_heightAt ⟨Nat.le_of_ble_eq_true rfl, Nat.le_of_ble_eq_true rfl⟩, (hts _ (List.mem_of_getElem? (i := 9) rfl)), trivial⟩ hK hW hS hA rfl hl.1 rfl (Nat.le_of_ble_eq_true rfl) dX3_y1Of_16 ⟨Nat.zero_le _, Nat.zero_le _⟩ (fun H locs hW hS => ?_)
  refine lv_iadd hx hb dX3_y1Of_19 ?_
  refine lv_iconst (v := 1) hx hb dX3_y1Of_20 (by decide) ?_
  refine lv_isub hx hb dX3_y1Of_21 ?_
  obtain rfl := Option.some.inj h
  exact W.iret hx hb hr (fun t ht hw => ⟨⟨_, (), rfl, rfl, hW.ret ht⟩, hS.F ht⟩) hS.2.2 dX3_y1Of_22
abbrev rX3_areBeside : Room := { frames := 2, cells := 0, slots := 0, locals := 42 }
set_option maxRecDepth 100000 in
set_option maxHeartbeats 8000000 in
theorem tX3_areBeside (l : Launch) (G : WG) (S0 M0 : St) (c : Nat) (hc : c < 7) (p1 : Int32) (p2 : Int32) (rr : Int32) (h : f3_areBeside S0 c p1 p2 = some (rr)) : CtI l yX3_areBeside wsX3_areBeside rX3_areBeside G [.ref (gad G (7 + c)), .int p1, .int p2] S0 M0 rr S0 M0 := by
  refine Met.ofW (cc := cX3_areBeside) (maxL := 7) (ret := (some .boolean)) (by decide) rfl ?_
  intro p e s m args below meth cd s₁ B hml hv
  obtain ⟨hargs, hK, hW⟩ := hv
  have hx := B.exec
  have hb := B.bytes
  have hr := B.returns
  have hts := atoms_spec (ws := wsX3_areBeside) B.pre
  have hown : s.vm.findClass RX3 = some m.cls := findClass_of_methodNamed B.named
  have hlocks := B.notSynchronized
  have hA : ∀ q, Aw G q → Aw G q := fun _ h => h
  have hS : va_S (Aw G) s.heap s.heap [] := va_S.rf
  have he0 : entryFrame m args 7 = F0 m 0 ((lg_sl ([.ref (gad G (7 + c)), .int p1, .int p2]) ++ List.replicate (7 - (lg_sl ([.ref (gad G (7 + c)), .int p1, .int p2])).length) Slot.unset).toArray) [] := by rw [hargs]; exact lg_entry_eq _ _ _
  have hl := lv_entry ([.ref (gad G (7 + c)), .int p1, .int p2]) (n := 7) (Nat.le_of_ble_eq_true rfl)
  rw [he0]
  generalize (lg_sl ([.ref (gad G (7 + c)), .int p1, .int p2]) ++ List.replicate (7 - (lg_sl ([.ref (gad G (7 + c)), .int p1, .int p2])).length) Slot.unset).toArray = ls at hl ⊢
  have hl : lv_has ls 7 [(0, .ref (gad G (7 + c))), (1, .int p1), (2, .int p2)] := hl
  have B163 : ∀ (H : Heap) (locs : List Loc) (_ : WD G S0 M0 H) (_ : va_S (Aw G) s.heap H locs) (ls : Array Slot) (k0 : Int32) (_ : lv_has ls 7 []) (h : f3_areBeside_b163 S0 c k0 = some (rr)), WI p l e (headSpec wsX3_areBeside rX3_areBeside).room s m args below meth cd G rr S0 M0 H locs (F0 m 163 ls [.int k0]) := by
    intro H locs hW hS ls k0 hl h
    unfold f3_areBeside_b163 at h
    obtain ⟨z_1, h⟩ := isz_e h
    obtain rfl := Option.some.inj h
    exact W.zret (ty := .boolean) hx hb hr (nz_1 z_1) (fun t ht hw => ⟨⟨_, (), rfl, rfl, hW.ret ht⟩, hS.F ht⟩) hS.2.2 dX3_areBeside_163
  have B158 : ∀ (H : Heap) (locs : List Loc) (_ : WD G S0 M0 H) (_ : va_S (Aw G) s.heap H locs) (ls : Array Slot) (_ : lv_has ls 7 []) (h : f3_areBeside_b158 S0 c  = some (rr)), WI p l e (headSpec wsX3_areBeside rX3_areBeside).room s m args below meth cd G rr S0 M0 H locs (F0 m 158 ls []) := by
    intro H locs hW hS ls hl h
    unfold f3_areBeside_b158 at h
    refine lv_iconst (v := 1) hx hb dX3_areBeside_158 (by decide) ?_
    refine lv_goto (tgt := 163) hx hb dX3_areBeside_159 (by decide) ?_
    exact B163 _ _ hW hS ls 1 (lv_sub hl [] rfl) h
  have B162 : ∀ (H : Heap) (locs : List Loc) (_ : WD G S0 M0 H) (_ : va_S (Aw G) s.heap H locs) (ls : Array Slot) (_ : lv_has ls 7 []) (h : f3_areBeside_b162 S0 c  = some (rr)), WI p l e (headSpec wsX3_areBeside rX3_areBeside).room s m args below meth cd G rr S0 M0 H locs (F0 m 162 ls []) := by
    intro H locs hW hS ls hl h
    unfold f3_areBeside_b162 at h
    refine lv_iconst (v := 0) hx hb dX3_areBeside_162 (by decide) ?_
    exact B163 _ _ hW hS ls 0 (lv_sub hl [] rfl) h
  have B149 : ∀ (H : Heap) (locs : List Loc) (_ : WD G S0 M0 H) (_ : va_S (Aw G) s.heap H locs) (ls : Array Slot) (l3 : Int32) (l6 : Int32) (_ : lv_has ls 7 [(3, .int l3), (6, .int l6)]) (h : f3_areBeside_b149 S0 c l3 l6 = some (rr)), WI p l e (headSpec wsX3_areBeside rX3_areBeside).room s m args below meth cd G rr S0 M0 H locs (F0 m 149 ls []) := by
    intro H locs hW hS ls l3 l6 hl h
    unfold f3_areBeside_b149 at h
    refine lv_iload hx hb dX3_areBeside_149 (lv_at hl 1 rfl) ?_
    refine lv_if_eq (tgt := 162) hx hb dX3_areBeside_151 (by decide) (fun c_1 => ?_) (fun c_1 => ?_)
    · have h := ite_t c_1 h
      exact B162 _ _ hW hS ls (lv_sub hl [] rfl) h
    · have h := ite_f c_1 h
      refine lv_iload_n hx hb dX3_areBeside_154 rfl (lv_at hl 0 rfl) ?_
      refine lv_if_eq (tgt := 162) hx hb dX3_areBeside_155 (by decide) (fun c_2 => ?_) (fun c_2 => ?_)
      · have h := ite_t c_2 h
        exact B162 _ _ hW hS ls (lv_sub hl [] rfl) h
      · have h := ite_f c_2 h
        exact B158 _ _ hW hS ls (lv_sub hl [] rfl) h
  have B137 : ∀ (H : Heap) (locs : List Loc) (_ : WD G S0 M0 H) (_ : va_S (Aw G) s.heap H locs) (ls : Array Slot) (l3 : Int32) (l4 : Int32) (l5 : Int32) (k0 : Int32) (_ : lv_has ls 7 [(3, .int l3), (4, .int l4), (5, .int l5)]) (h : f3_areBeside_b137 S0 c l3 l4 l5 k0 = some (rr)), WI p l e (headSpec wsX3_areBeside rX3_areBeside).room s m args below meth cd G rr S0 M0 H locs (F0 m 137 ls [.int k0]) := by
    intro H locs hW hS ls l3 l4 l5 k0 hl h
    unfold f3_areBeside_b137 at h
    refine lv_istore (lv' := [(6, .int k0), (3, .int l3), (4, .int l4), (5, .int l5)]) hx hb dX3_areBeside_137 hl (by decide) rfl (fun ls hl => ?_)
    refine lv_iload hx hb dX3_areBeside_139 (lv_at hl 3 rfl) ?_
    refine lv_if_eq (tgt := 149) hx hb dX3_areBeside_141 (by decide) (fun c_1 => ?_) (fun c_1 => ?_)
    · have h := ite_t c_1 h
      exact B149 _ _ hW hS ls l3 k0 (lv_sub hl [1, 0] rfl) h
    · have h := ite_f c_1 h
      refine lv_iload hx hb dX3_areBeside_144 (lv_at hl 2 rfl) ?_
      refine lv_if_ne (tgt := 158) hx hb dX3_areBeside_146 (by decide) (fun c_2 => ?_) (fun c_2 => ?_)
      · have h := ite_f c_2 h
        exact B158 _ _ hW hS ls (lv_sub hl [] rfl) h
      · have h := ite_t c_2 h
        exact B149 _ _ hW hS ls l3 k0 (lv_sub hl [1, 0] rfl) h
  have B132 : ∀ (H : Heap) (locs : List Loc) (_ : WD G S0 M0 H) (_ : va_S (Aw G) s.heap H locs) (ls : Array Slot) (l3 : Int32) (l4 : Int32) (l5 : Int32) (_ : lv_has ls 7 [(3, .int l3), (4, .int l4), (5, .int l5)]) (h : f3_areBeside_b132 S0 c l3 l4 l5 = some (rr)), WI p l e (headSpec wsX3_areBeside rX3_areBeside).room s m args below meth cd G rr S0 M0 H locs (F0 m 132 ls []) := by
    intro H locs hW hS ls l3 l4 l5 hl h
    unfold f3_areBeside_b132 at h
    refine lv_iconst (v := 1) hx hb dX3_areBeside_132 (by decide) ?_
    refine lv_goto (tgt := 137) hx hb dX3_areBeside_133 (by decide) ?_
    exact B137 _ _ hW hS ls l3 l4 l5 1 (lv_sub hl [0, 1, 2] rfl) h
  have B100 : ∀ (H : Heap) (locs : List Loc) (_ : WD G S0 M0 H) (_ : va_S (Aw G) s.heap H locs) (ls : Array Slot) (l1 : Int32) (l2 : Int32) (l3 : Int32) (l4 : Int32) (k0 : Int32) (_ : lv_has ls 7 [(0, .ref (gad G (7 + c))), (1, .int l1), (2, .int l2), (3, .int l3), (4, .int l4)]) (h : f3_areBeside_b100 S0 c l1 l2 l3 l4 k0 = some (rr)), WI p l e (headSpec wsX3_areBeside rX3_areBeside).room s m args below meth cd G rr S0 M0 H locs (F0 m 100 ls [.int k0]) := by
    intro H locs hW hS ls l1 l2 l3 l4 k0 hl h
    unfold f3_areBeside_b100 at h
    refine lv_istore (lv' := [(5, .int k0), (0, .ref (gad G (7 + c))), (1, .int l1), (2, .int l2), (3, .int l3), (4, .int l4)]) hx hb dX3_areBeside_100 hl (by decide) rfl (fun ls hl => ?_)
    refine lv_aload_n hx hb dX3_areBeside_102 rfl (lv_at hl 1 rfl) ?_
    refine lv_iload_n hx hb dX3_areBeside_103 rfl (lv_at hl 2 rfl) ?_
    obtain ⟨r_1, e_2, h⟩ := bnd_e h
    refine kV_I (As := [.int l1]) (rest := []) ⟨hx, hb, hml, hown, hts⟩ (tX3_y1Of l G S0 M0 c (by omega) l1 r_1 e_2) (cwV 1 hts gX3_areBeside_X3_y1Of rfl rfl rfl ⟨rfl, hdX3_y1Of⟩ ⟨Nat.le_of_ble_eq_true rfl, Nat.le_of_ble_eq_true rfl⟩) (va_recv hK.1 hW.1 (ci := 3) (q0 := (7 + c)) rfl (lkP (c := c) (by omega))) hK hW hS hA rfl hl.1 rfl (Nat.le_of_ble_eq_true rfl) dX3_areBeside_104 ⟨Nat.zero_le _, Nat.zero_le _⟩ (fun H locs hW hS => ?_)
    refine lv_iconst (v := 1) hx hb dX3_areBeside_107 (by decide) ?_
    refine lv_iadd hx hb dX3_areBeside_108 ?_
    refine lv_aload_n hx hb dX3_areBeside_109 rfl (lv_at hl 1 rfl) ?_
    refine lv_iload_n hx hb dX3_areBeside_110 rfl (lv_at hl 3 rfl) ?_
    obtain ⟨r_3, e_4, h⟩ := bnd_e h
    refine kV_I (As := [.int l2]) (rest := [.int ((r_1 + 1))]) ⟨hx, hb, hml, hown, hts⟩ (tX3_y0Of l G S0 M0 c (by omega) l2 r_3 e_4) (cwV 1 hts gX3_areBeside_X3_y0Of rfl rfl rfl ⟨rfl, hdX3_y0Of⟩ ⟨Nat.le_of_ble_eq_true rfl, Nat.le_of_ble_eq_true rfl⟩) (va_recv hK.1 hW.1 (ci := 3) (q0 := (7 + c)) rfl (lkP (c := c) (by omega))) hK hW hS hA rfl hl.1 rfl (Nat.le_of_ble_eq_true rfl) dX3_areBeside_111 ⟨Nat.zero_le _, Nat.zero_le _⟩ (fun H locs hW hS => ?_)
    refine lv_icmp_eq (tgt := 132) hx hb dX3_areBeside_114 (by decide) (fun c_5 => ?_) (fun c_5 => ?_)
    · have h := ite_t c_5 h
      exact B132 _ _ hW hS ls l3 l4 k0 (lv_sub hl [4, 5, 0] rfl) h
    · have h := ite_f c_5 h
      refine lv_aload_n hx hb dX3_areBeside_117 rfl (lv_at hl 1 rfl) ?_
      refine lv_iload_n hx hb dX3_areBeside_118 rfl (lv_at hl 3 rfl) ?_
      obtain ⟨r_6, e_7, h⟩ := bnd_e h
      refine kV_I (As := [.int l2]) (rest := []) ⟨hx, hb, hml, hown, hts⟩ (tX3_y1Of l G S0 M0 c (by omega) l2 r_6 e_7) (cwV 1 hts gX3_areBeside_X3_y1Of rfl rfl rfl ⟨rfl, hdX3_y1Of⟩ ⟨Nat.le_of_ble_eq_true rfl, Nat.le_of_ble_eq_true rfl⟩) (va_recv hK.1 hW.1 (ci := 3) (q0 := (7 + c)) rfl (lkP (c := c) (by omega))) hK hW hS hA rfl hl.1 rfl (Nat.le_of_ble_eq_true rfl) dX3_areBeside_119 ⟨Nat.zero_le _, Nat.zero_le _⟩ (fun H locs hW hS => ?_)
      refine lv_iconst (v := 1) hx hb dX3_areBeside_122 (by decide) ?_
      refine lv_iadd hx hb dX3_areBeside_123 ?_
      refine lv_aload_n hx hb dX3_areBeside_124 rfl (lv_at hl 1 rfl) ?_
      refine lv_iload_n hx hb dX3_areBeside_125 rfl (lv_at hl 2 rfl) ?_
      obtain ⟨r_8, e_9, h⟩ := bnd_e h
      refine kV_I (As := [.int l1]) (rest := [.int ((r_6 + 1))]) ⟨hx, hb, hml, hown, hts⟩ (tX3_y0Of l G S0 M0 c (by omega) l1 r_8 e_9) (cwV 1 hts gX3_areBeside_X3_y0Of rfl rfl rfl ⟨rfl, hdX3_y0Of⟩ ⟨Nat.le_of_ble_eq_true rfl, Nat.le_of_ble_eq_true rfl⟩) (va_recv hK.1 hW.1 (ci := 3) (q0 := (7 + c)) rfl (lkP (c := c) (by omega))) hK hW hS hA rfl hl.1 rfl (Nat.le_of_ble_eq_true rfl) dX3_areBeside_126 ⟨Nat.zero_le _, Nat.zero_le _⟩ (fun H locs hW hS => ?_)
      refine lv_icmp_ne (tgt := 136) hx hb dX3_areBeside_129 (by decide) (fun c_10 => ?_) (fun c_10 => ?_)
      · have h := ite_f c_10 h
        refine lv_iconst (v := 0) hx hb dX3_areBeside_136 (by decide) ?_
        exact B137 _ _ hW hS ls l3 l4 k0 0 (lv_sub hl [4, 5, 0] rfl) h
      · have h := ite_t c_10 h
        exact B132 _ _ hW hS ls l3 l4 k0 (lv_sub hl [4, 5, 0] rfl) h
  have B95 : ∀ (H : Heap) (locs : List Loc) (_ : WD G S0 M0 H) (_ : va_S (Aw G) s.heap H locs) (ls : Array Slot) (l1 : Int32) (l2 : Int32) (l3 : Int32) (l4 : Int32) (_ : lv_has ls 7 [(0, .ref (gad G (7 + c))), (1, .int l1), (2, .int l2), (3, .int l3), (4, .int l4)]) (h : f3_areBeside_b95 S0 c l1 l2 l3 l4 = some (rr)), WI p l e (headSpec wsX3_areBeside rX3_areBeside).room s m args below meth cd G rr S0 M0 H locs (F0 m 95 ls []) := by
    intro H locs hW hS ls l1 l2 l3 l4 hl h
    unfold f3_areBeside_b95 at h
    refine lv_iconst (v := 1) hx hb dX3_areBeside_95 (by decide) ?_
    refine lv_goto (tgt := 100) hx hb dX3_areBeside_96 (by decide) ?_
    exact B100 _ _ hW hS ls l1 l2 l3 l4 1 (lv_sub hl [0, 1, 2, 3, 4] rfl) h
  have B63 : ∀ (H : Heap) (locs : List Loc) (_ : WD G S0 M0 H) (_ : va_S (Aw G) s.heap H locs) (ls : Array Slot) (l1 : Int32) (l2 : Int32) (l3 : Int32) (k0 : Int32) (_ : lv_has ls 7 [(0, .ref (gad G (7 + c))), (1, .int l1), (2, .int l2), (3, .int l3)]) (h : f3_areBeside_b63 S0 c l1 l2 l3 k0 = some (rr)), WI p l e (headSpec wsX3_areBeside rX3_areBeside).room s m args below meth cd G rr S0 M0 H locs (F0 m 63 ls [.int k0]) := by
    intro H locs hW hS ls l1 l2 l3 k0 hl h
    unfold f3_areBeside_b63 at h
    refine lv_istore (lv' := [(4, .int k0), (0, .ref (gad G (7 + c))), (1, .int l1), (2, .int l2), (3, .int l3)]) hx hb dX3_areBeside_63 hl (by decide) rfl (fun ls hl => ?_)
    refine lv_aload_n hx hb dX3_areBeside_65 rfl (lv_at hl 1 rfl) ?_
    refine lv_iload_n hx hb dX3_areBeside_66 rfl (lv_at hl 2 rfl) ?_
    obtain ⟨r_1, e_2, h⟩ := bnd_e h
    refine kV_I (As := [.int l1]) (rest := []) ⟨hx, hb, hml, hown, hts⟩ (tX3_x1Of l G S0 M0 c (by omega) l1 r_1 e_2) (cwV 1 hts gX3_areBeside_X3_x1Of rfl rfl rfl ⟨rfl, hdX3_x1Of⟩ ⟨Nat.le_of_ble_eq_true rfl, Nat.le_of_ble_eq_true rfl⟩) (va_recv hK.1 hW.1 (ci := 3) (q0 := (7 + c)) rfl (lkP (c := c) (by omega))) hK hW hS hA rfl hl.1 rfl (Nat.le_of_ble_eq_true rfl) dX3_areBeside_67 ⟨Nat.zero_le _, Nat.zero_le _⟩ (fun H locs hW hS => ?_)
    refine lv_iconst (v := 1) hx hb dX3_areBeside_70 (by decide) ?_
    refine lv_iadd hx hb dX3_areBeside_71 ?_
    refine lv_aload_n hx hb dX3_areBeside_72 rfl (lv_at hl 1 rfl) ?_
    refine lv_iload_n hx hb dX3_areBeside_73 rfl (lv_at hl 3 rfl) ?_
    obtain ⟨r_3, e_4, h⟩ := bnd_e h
    refine kV_I (As := [.int l2]) (rest := [.int ((r_1 + 1))]) ⟨hx, hb, hml, hown, hts⟩ (tX3_x0Of l G S0 M0 c (by omega) l2 r_3 e_4) (cwV 1 hts gX3_areBeside_X3_x0Of rfl rfl rfl ⟨rfl, hdX3_x0Of⟩ ⟨Nat.le_of_ble_eq_true rfl, Nat.le_of_ble_eq_true rfl⟩) (va_recv hK.1 hW.1 (ci := 3) (q0 := (7 + c)) rfl (lkP (c := c) (by omega))) hK hW hS hA rfl hl.1 rfl (Nat.le_of_ble_eq_true rfl) dX3_areBeside_74 ⟨Nat.zero_le _, Nat.zero_le _⟩ (fun H locs hW hS => ?_)
    refine lv_icmp_eq (tgt := 95) hx hb dX3_areBeside_77 (by decide) (fun c_5 => ?_) (fun c_5 => ?_)
    · have h := ite_t c_5 h
      exact B95 _ _ hW hS ls l1 l2 l3 k0 (lv_sub hl [1, 2, 3, 4, 0] rfl) h
    · have h := ite_f c_5 h
      refine lv_aload_n hx hb dX3_areBeside_80 rfl (lv_at hl 1 rfl) ?_
      refine lv_iload_n hx hb dX3_areBeside_81 rfl (lv_at hl 3 rfl) ?_
      obtain ⟨r_6, e_7, h⟩ := bnd_e h
      refine kV_I (As := [.int l2]) (rest := []) ⟨hx, hb, hml, hown, hts⟩ (tX3_x1Of l G S0 M0 c (by omega) l2 r_6 e_7) (cwV 1 hts gX3_areBeside_X3_x1Of rfl rfl rfl ⟨rfl, hdX3_x1Of⟩ ⟨Nat.le_of_ble_eq_true rfl, Nat.le_of_ble_eq_true rfl⟩) (va_recv hK.1 hW.1 (ci := 3) (q0 := (7 + c)) rfl (lkP (c := c) (by omega))) hK hW hS hA rfl hl.1 rfl (Nat.le_of_ble_eq_true rfl) dX3_areBeside_82 ⟨Nat.zero_le _, Nat.zero_le _⟩ (fun H locs hW hS => ?_)
      refine lv_iconst (v := 1) hx hb dX3_areBeside_85 (by decide) ?_
      refine lv_iadd hx hb dX3_areBeside_86 ?_
      refine lv_aload_n hx hb dX3_areBeside_87 rfl (lv_at hl 1 rfl) ?_
      refine lv_iload_n hx hb dX3_areBeside_88 rfl (lv_at hl 2 rfl) ?_
      obtain ⟨r_8, e_9, h⟩ := bnd_e h
      refine kV_I (As := [.int l1]) (rest := [.int ((r_6 + 1))]) ⟨hx, hb, hml, hown, hts⟩ (tX3_x0Of l G S0 M0 c (by omega) l1 r_8 e_9) (cwV 1 hts gX3_areBeside_X3_x0Of rfl rfl rfl ⟨rfl, hdX3_x0Of⟩ ⟨Nat.le_of_ble_eq_true rfl, Nat.le_of_ble_eq_true rfl⟩) (va_recv hK.1 hW.1 (ci := 3) (q0 := (7 + c)) rfl (lkP (c := c) (by omega))) hK hW hS hA rfl hl.1 rfl (Nat.le_of_ble_eq_true rfl) dX3_areBeside_89 ⟨Nat.zero_le _, Nat.zero_le _⟩ (fun H locs hW hS => ?_)
      refine lv_icmp_ne (tgt := 99) hx hb dX3_areBeside_92 (by decide) (fun c_10 => ?_) (fun c_10 => ?_)
      · have h := ite_f c_10 h
        refine lv_iconst (v := 0) hx hb dX3_areBeside_99 (by decide) ?_
        exact B100 _ _ hW hS ls l1 l2 l3 k0 0 (lv_sub hl [1, 2, 3, 4, 0] rfl) h
      · have h := ite_t c_10 h
        exact B95 _ _ hW hS ls l1 l2 l3 k0 (lv_sub hl [1, 2, 3, 4, 0] rfl) h
  have B62 : ∀ (H : Heap) (locs : List Loc) (_ : WD G S0 M0 H) (_ : va_S (Aw G) s.heap H locs) (ls : Array Slot) (l1 : Int32) (l2 : Int32) (l3 : Int32) (_ : lv_has ls 7 [(0, .ref (gad G (7 + c))), (1, .int l1), (2, .int l2), (3, .int l3)]) (h : f3_areBeside_b62 S0 c l1 l2 l3 = some (rr)), WI p l e (headSpec wsX3_areBeside rX3_areBeside).room s m args below meth cd G rr S0 M0 H locs (F0 m 62 ls []) := by
    intro H locs hW hS ls l1 l2 l3 hl h
    unfold f3_areBeside_b62 at h
    refine lv_iconst (v := 0) hx hb dX3_areBeside_62 (by decide) ?_
    exact B63 _ _ hW hS ls l1 l2 l3 0 (lv_sub hl [0, 1, 2, 3] rfl) h
  have B31 : ∀ (H : Heap) (locs : List Loc) (_ : WD G S0 M0 H) (_ : va_S (Aw G) s.heap H locs) (ls : Array Slot) (l1 : Int32) (l2 : Int32) (k0 : Int32) (_ : lv_has ls 7 [(0, .ref (gad G (7 + c))), (1, .int l1), (2, .int l2)]) (h : f3_areBeside_b31 S0 c l1 l2 k0 = some (rr)), WI p l e (headSpec wsX3_areBeside rX3_areBeside).room s m args below meth cd G rr S0 M0 H locs (F0 m 31 ls [.int k0]) := by
    intro H locs hW hS ls l1 l2 k0 hl h
    unfold f3_areBeside_b31 at h
    refine lv_istore_n (lv' := [(3, .int k0), (0, .ref (gad G (7 + c))), (1, .int l1), (2, .int l2)]) hx hb dX3_areBeside_31 rfl hl (by decide) rfl (fun ls hl => ?_)
    refine lv_aload_n hx hb dX3_areBeside_32 rfl (lv_at hl 1 rfl) ?_
    refine lv_iload_n hx hb dX3_areBeside_33 rfl (lv_at hl 2 rfl) ?_
    obtain ⟨r_1, e_2, h⟩ := bnd_e h
    refine kV_I (As := [.int l1]) (rest := []) ⟨hx, hb, hml, hown, hts⟩ (tX3_y0Of l G S0 M0 c (by omega) l1 r_1 e_2) (cwV 1 hts gX3_areBeside_X3_y0Of rfl rfl rfl ⟨rfl, hdX3_y0Of⟩ ⟨Nat.le_of_ble_eq_true rfl, Nat.le_of_ble_eq_true rfl⟩) (va_recv hK.1 hW.1 (ci := 3) (q0 := (7 + c)) rfl (lkP (c := c) (by omega))) hK hW hS hA rfl hl.1 rfl (Nat.le_of_ble_eq_true rfl) dX3_areBeside_34 ⟨Nat.zero_le _, Nat.zero_le _⟩ (fun H locs hW hS => ?_)
    refine lv_aload_n hx hb dX3_areBeside_37 rfl (lv_at hl 1 rfl) ?_
    refine lv_iload_n hx hb dX3_areBeside_38 rfl (lv_at hl 3 rfl) ?_
    obtain ⟨r_3, e_4, h⟩ := bnd_e h
    refine kV_I (As := [.int l2]) (rest := [.int r_1]) ⟨hx, hb, hml, hown, hts⟩ (tX3_y1Of l G S0 M0 c (by omega) l2 r_3 e_4) (cwV 1 hts gX3_areBeside_X3_y1Of rfl rfl rfl ⟨rfl, hdX3_y1Of⟩ ⟨Nat.le_of_ble_eq_true rfl, Nat.le_of_ble_eq_true rfl⟩) (va_recv hK.1 hW.1 (ci := 3) (q0 := (7 + c)) rfl (lkP (c := c) (by omega))) hK hW hS hA rfl hl.1 rfl (Nat.le_of_ble_eq_true rfl) dX3_areBeside_39 ⟨Nat.zero_le _, Nat.zero_le _⟩ (fun H locs hW hS => ?_)
    refine lv_icmp_gt (tgt := 62) hx hb dX3_areBeside_42 (by decide) (fun c_5 => ?_) (fun c_5 => ?_)
    · have h := ite_t c_5 h
      exact B62 _ _ hW hS ls l1 l2 k0 (lv_sub hl [1, 2, 3, 0] rfl) h
    · have h := ite_f c_5 h
      refine lv_aload_n hx hb dX3_areBeside_45 rfl (lv_at hl 1 rfl) ?_
      refine lv_iload_n hx hb dX3_areBeside_46 rfl (lv_at hl 3 rfl) ?_
      obtain ⟨r_6, e_7, h⟩ := bnd_e h
      refine kV_I (As := [.int l2]) (rest := []) ⟨hx, hb, hml, hown, hts⟩ (tX3_y0Of l G S0 M0 c (by omega) l2 r_6 e_7) (cwV 1 hts gX3_areBeside_X3_y0Of rfl rfl rfl ⟨rfl, hdX3_y0Of⟩ ⟨Nat.le_of_ble_eq_true rfl, Nat.le_of_ble_eq_true rfl⟩) (va_recv hK.1 hW.1 (ci := 3) (q0 := (7 + c)) rfl (lkP (c := c) (by omega))) hK hW hS hA rfl hl.1 rfl (Nat.le_of_ble_eq_true rfl) dX3_areBeside_47 ⟨Nat.zero_le _, Nat.zero_le _⟩ (fun H locs hW hS => ?_)
      refine lv_aload_n hx hb dX3_areBeside_50 rfl (lv_at hl 1 rfl) ?_
      refine lv_iload_n hx hb dX3_areBeside_51 rfl (lv_at hl 2 rfl) ?_
      obtain ⟨r_8, e_9, h⟩ := bnd_e h
      refine kV_I (As := [.int l1]) (rest := [.int r_6]) ⟨hx, hb, hml, hown, hts⟩ (tX3_y1Of l G S0 M0 c (by omega) l1 r_8 e_9) (cwV 1 hts gX3_areBeside_X3_y1Of rfl rfl rfl ⟨rfl, hdX3_y1Of⟩ ⟨Nat.le_of_ble_eq_true rfl, Nat.le_of_ble_eq_true rfl⟩) (va_recv hK.1 hW.1 (ci := 3) (q0 := (7 + c)) rfl (lkP (c := c) (by omega))) hK hW hS hA rfl hl.1 rfl (Nat.le_of_ble_eq_true rfl) dX3_areBeside_52 ⟨Nat.zero_le _, Nat.zero_le _⟩ (fun H locs hW hS => ?_)
      refine lv_icmp_gt (tgt := 62) hx hb dX3_areBeside_55 (by decide) (fun c_10 => ?_) (fun c_10 => ?_)
      · have h := ite_t c_10 h
        exact B62 _ _ hW hS ls l1 l2 k0 (lv_sub hl [1, 2, 3, 0] rfl) h
      · have h := ite_f c_10 h
        refine lv_iconst (v := 1) hx hb dX3_areBeside_58 (by decide) ?_
        refine lv_goto (tgt := 63) hx hb dX3_areBeside_59 (by decide) ?_
        exact B63 _ _ hW hS ls l1 l2 k0 1 (lv_sub hl [1, 2, 3, 0] rfl) h
  have B30 : ∀ (H : Heap) (locs : List Loc) (_ : WD G S0 M0 H) (_ : va_S (Aw G) s.heap H locs) (ls : Array Slot) (l1 : Int32) (l2 : Int32) (_ : lv_has ls 7 [(0, .ref (gad G (7 + c))), (1, .int l1), (2, .int l2)]) (h : f3_areBeside_b30 S0 c l1 l2 = some (rr)), WI p l e (headSpec wsX3_areBeside rX3_areBeside).room s m args below meth cd G rr S0 M0 H locs (F0 m 30 ls []) := by
    intro H locs hW hS ls l1 l2 hl h
    unfold f3_areBeside_b30 at h
    refine lv_iconst (v := 0) hx hb dX3_areBeside_30 (by decide) ?_
    exact B31 _ _ hW hS ls l1 l2 0 (lv_sub hl [0, 1, 2] rfl) h
  unfold f3_areBeside at h
  refine lv_aload_n hx hb dX3_areBeside_0 rfl (lv_at hl 0 rfl) ?_
  refine lv_iload_n hx hb dX3_areBeside_1 rfl (lv_at hl 1 rfl) ?_
  obtain ⟨r_1, e_2, h⟩ := bnd_e h
  refine kV_I (As := [.int p1]) (rest := []) ⟨hx, hb, hml, hown, hts⟩ (tX3_x0Of l G S0 M0 c (by omega) p1 r_1 e_2) (cwV 1 hts gX3_areBeside_X3_x0Of rfl rfl rfl ⟨rfl, hdX3_x0Of⟩ ⟨Nat.le_of_ble_eq_true rfl, Nat.le_of_ble_eq_true rfl⟩) (va_recv hK.1 hW.1 (ci := 3) (q0 := (7 + c)) rfl (lkP (c := c) (by omega))) hK hW hS hA rfl hl.1 rfl (Nat.le_of_ble_eq_true rfl) dX3_areBeside_2 ⟨Nat.zero_le _, Nat.zero_le _⟩ (fun H locs hW hS => ?_)
  refine lv_aload_n hx hb dX3_areBeside_5 rfl (lv_at hl 0 rfl) ?_
  refine lv_iload_n hx hb dX3_areBeside_6 rfl (lv_at hl 2 rfl) ?_
  obtain ⟨r_3, e_4, h⟩ := bnd_e h
  refine kV_I (As := [.int p2]) (rest := [.int r_1]) ⟨hx, hb, hml, hown, hts⟩ (tX3_x1Of l G S0 M0 c (by omega) p2 r_3 e_4) (cwV 1 hts gX3_areBeside_X3_x1Of rfl rfl rfl ⟨rfl, hdX3_x1Of⟩ ⟨Nat.le_of_ble_eq_true rfl, Nat.le_of_ble_eq_true rfl⟩) (va_recv hK.1 hW.1 (ci := 3) (q0 := (7 + c)) rfl (lkP (c := c) (by omega))) hK hW hS hA rfl hl.1 rfl (Nat.le_of_ble_eq_true rfl) dX3_areBeside_7 ⟨Nat.zero_le _, Nat.zero_le _⟩ (fun H locs hW hS => ?_)
  refine lv_icmp_gt (tgt := 30) hx hb dX3_areBeside_10 (by decide) (fun c_5 => ?_) (fun c_5 => ?_)
  · have h := ite_t c_5 h
    exact B30 _ _ hW hS ls p1 p2 (lv_sub hl [0, 1, 2] rfl) h
  · have h := ite_f c_5 h
    refine lv_aload_n hx hb dX3_areBeside_13 rfl (lv_at hl 0 rfl) ?_
    refine lv_iload_n hx hb dX3_areBeside_14 rfl (lv_at hl 2 rfl) ?_
    obtain ⟨r_6, e_7, h⟩ := bnd_e h
    refine kV_I (As := [.int p2]) (rest := []) ⟨hx, hb, hml, hown, hts⟩ (tX3_x0Of l G S0 M0 c (by omega) p2 r_6 e_7) (cwV 1 hts gX3_areBeside_X3_x0Of rfl rfl rfl ⟨rfl, hdX3_x0Of⟩ ⟨Nat.le_of_ble_eq_true rfl, Nat.le_of_ble_eq_true rfl⟩) (va_recv hK.1 hW.1 (ci := 3) (q0 := (7 + c)) rfl (lkP (c := c) (by omega))) hK hW hS hA rfl hl.1 rfl (Nat.le_of_ble_eq_true rfl) dX3_areBeside_15 ⟨Nat.zero_le _, Nat.zero_le _⟩ (fun H locs hW hS => ?_)
    refine lv_aload_n hx hb dX3_areBeside_18 rfl (lv_at hl 0 rfl) ?_
    refine lv_iload_n hx hb dX3_areBeside_19 rfl (lv_at hl 1 rfl) ?_
    obtain ⟨r_8, e_9, h⟩ := bnd_e h
    refine kV_I (As := [.int p1]) (rest := [.int r_6]) ⟨hx, hb, hml, hown, hts⟩ (tX3_x1Of l G S0 M0 c (by omega) p1 r_8 e_9) (cwV 1 hts gX3_areBeside_X3_x1Of rfl rfl rfl ⟨rfl, hdX3_x1Of⟩ ⟨Nat.le_of_ble_eq_true rfl, Nat.le_of_ble_eq_true rfl⟩) (va_recv hK.1 hW.1 (ci := 3) (q0 := (7 + c)) rfl (lkP (c := c) (by omega))) hK hW hS hA rfl hl.1 rfl (Nat.le_of_ble_eq_true rfl) dX3_areBeside_20 ⟨Nat.zero_le _, Nat.zero_le _⟩ (fun H locs hW hS => ?_)
    refine lv_icmp_gt (tgt := 30) hx hb dX3_areBeside_23 (by decide) (fun c_10 => ?_) (fun c_10 => ?_)
    · have h := ite_t c_10 h
      exact B30 _ _ hW hS ls p1 p2 (lv_sub hl [0, 1, 2] rfl) h
    · have h := ite_f c_10 h
      refine lv_iconst (v := 1) hx hb dX3_areBeside_26 (by decide) ?_
      refine lv_goto (tgt := 31) hx hb dX3_areBeside_27 (by decide) ?_
      exact B31 _ _ hW hS ls p1 p2 1 (lv_sub hl [0, 1, 2] rfl) h
