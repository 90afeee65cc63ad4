abbrev rL_cell : Room := { frames := 0, cells := 0, slots := 0, locals := 0 }
set_option maxRecDepth 100000 in
set_option maxHeartbeats 8000000 in
theorem tL_cell (l : Launch) (G : WG) {b L : Nat} {xs : Nat → Int32} (hbA : ¬ Aw G b) (S0 M0 : St) (p1 : Int32) (rr : Int32) (h : fL_cell xs L p1 = some (rr)) : CtX b L xs l yL_cell wsL_cell rL_cell G [.ref (b), .int p1] S0 M0 rr S0 M0 := by
  refine Met.ofW (cc := cL_cell) (maxL := 2) (ret := (some .int)) (by decide) rfl ?_
  intro p e s m args below meth cd s₁ B hml hv
  obtain ⟨hargs, ⟨hK, hW⟩, hX⟩ := hv
  have hbl : b < s.heap.size := by obtain ⟨scr, h1, _⟩ := hX; exact (Array.getElem?_eq_some_iff.mp h1).1
  have hx := B.exec
  have hb := B.bytes
  have hr := B.returns
  have hts := atoms_spec (ws := wsL_cell) B.pre
  have hown : s.vm.findClass RL = some m.cls := findClass_of_methodNamed B.named
  have hlocks := B.notSynchronized
  have hA : ∀ q, Aw G q → Aw G q := fun _ h => h
  have hS : va_S (Aw G) s.heap s.heap [] := va_S.rf
  have he0 : entryFrame m args 2 = F0 m 0 ((lg_sl ([.ref (b), .int p1]) ++ List.replicate (2 - (lg_sl ([.ref (b), .int p1])).length) Slot.unset).toArray) [] := by rw [hargs]; exact lg_entry_eq _ _ _
  have hl := lv_entry ([.ref (b), .int p1]) (n := 2) (Nat.le_of_ble_eq_true rfl)
  rw [he0]
  generalize (lg_sl ([.ref (b), .int p1]) ++ List.replicate (2 - (lg_sl ([.ref (b), .int p1])).length) Slot.unset).toArray = ls at hl ⊢
  have hl : lv_has ls 2 [(0, .ref (b)), (1, .int p1)] := hl
  have B24 : ∀ (H : Heap) (locs : List Loc) (_ : WD G S0 M0 H) (_ : va_S (Aw G) s.heap H locs) (ls : Array Slot) (k0 : Int32) (_ : lv_has ls 2 []) (h : fL_cell_b24  k0 = some (rr)), WI p l e (headSpec wsL_cell rL_cell).room s m args below meth cd G rr S0 M0 H locs (F0 m 24 ls [.int k0]) := by
    intro H locs hW hS ls k0 hl h
    unfold fL_cell_b24 at h
    obtain rfl := Option.some.inj h
    exact W.iret hx hb hr (fun t ht hw => ⟨⟨_, (), rfl, rfl, hW.ret ht⟩, hS.F ht⟩) hS.2.2 dL_cell_24
  unfold fL_cell at h
  refine lv_iload_n hx hb dL_cell_0 rfl (lv_at hl 1 rfl) ?_
  refine lv_aload_n hx hb dL_cell_1 rfl (lv_at hl 0 rfl) ?_
  refine va_slen hx hb hX hbl hbA hS dL_cell_2 ?_
  refine lv_icmp_ge (tgt := 12) hx hb dL_cell_3 (by decide) (fun c_1 => ?_) (fun c_1 => ?_)
  · have h := ite_t c_1 h
    refine lv_sipush (v := 7919) hx hb dL_cell_12 (by decide) ?_
    refine lv_iload_n hx hb dL_cell_15 rfl (lv_at hl 1 rfl) ?_
    refine lv_iconst (v := 3) hx hb dL_cell_16 (by decide) ?_
    refine lv_iadd hx hb dL_cell_17 ?_
    refine lv_imul hx hb dL_cell_18 ?_
    refine lv_iload_n hx hb dL_cell_19 rfl (lv_at hl 1 rfl) ?_
    refine lv_bipush (v := 11) hx hb dL_cell_20 (by decide) ?_
    refine lv_iadd hx hb dL_cell_22 ?_
    refine lv_imul hx hb dL_cell_23 ?_
    exact B24 _ _ hW hS ls (((7919 * (p1 + 3)) * (p1 + 11))) (lv_sub hl [] rfl) h
  · have h := ite_f c_1 h
    refine lv_aload_n hx hb dL_cell_6 rfl (lv_at hl 0 rfl) ?_
    refine lv_iload_n hx hb dL_cell_7 rfl (lv_at hl 1 rfl) ?_
    obtain ⟨x_2, nx_2, ex_2, h⟩ := arr_e h
    refine va_sld hx hb hX hbl hbA hS nx_2 dL_cell_8 ?_
    refine lv_ni ex_2 ?_
    refine lv_goto (tgt := 24) hx hb dL_cell_9 (by decide) ?_
    exact B24 _ _ hW hS ls x_2 (lv_sub hl [] rfl) h
abbrev rL_low : Room := { frames := 0, cells := 0, slots := 0, locals := 0 }
set_option maxRecDepth 100000 in
set_option maxHeartbeats 8000000 in
theorem tL_low (l : Launch) (G : WG) (S0 M0 : St) (p0 : Int32) (p1 : Int32) (rr : Int32) (h : fL_low p0 p1 = some (rr)) : CtI l yL_low wsL_low rL_low G [.int p0, .int p1] S0 M0 rr S0 M0 := by
  refine Met.ofW (cc := cL_low) (maxL := 2) (ret := (some .int)) (by decide) rfl ?_
  intro p e s m args below meth cd s₁ B hml hv
  obtain ⟨hargs, hK, hW⟩ := hv
  have hx := B.exec
  have hb := B.bytes
  have hr := B.returns
  have hts := atoms_spec (ws := wsL_low) B.pre
  have hown : s.vm.findClass RL = some m.cls := findClass_of_methodNamed B.named
  have hlocks := B.notSynchronized
  have hA : ∀ q, Aw G q → Aw G q := fun _ h => h
  have hS : va_S (Aw G) s.heap s.heap [] := va_S.rf
  have he0 : entryFrame m args 2 = F0 m 0 ((lg_sl ([.int p0, .int p1]) ++ List.replicate (2 - (lg_sl ([.int p0, .int p1])).length) Slot.unset).toArray) [] := by rw [hargs]; exact lg_entry_eq _ _ _
  have hl := lv_entry ([.int p0, .int p1]) (n := 2) (Nat.le_of_ble_eq_true rfl)
  rw [he0]
  generalize (lg_sl ([.int p0, .int p1]) ++ List.replicate (2 - (lg_sl ([.int p0, .int p1])).length) Slot.unset).toArray = ls at hl ⊢
  have hl : lv_has ls 2 [(0, .int p0), (1, .int p1)] := hl
  unfold fL_low at h
  refine lv_iload_n hx hb dL_low_0 rfl (lv_at hl 0 rfl) ?_
  refine lv_ldc hx hb hown (hts _ (List.mem_of_getElem? (i := 1) rfl)) dL_low_1 ?_
  refine lv_iand hx hb dL_low_3 ?_
  refine lv_iload_n hx hb dL_low_4 rfl (lv_at hl 1 rfl) ?_
  obtain ⟨z_1, h⟩ := nzd_e h
  refine lv_irem hx hb dL_low_5 z_1 ?_
  obtain rfl := Option.some.inj h
  exact W.iret hx hb hr (fun t ht hw => ⟨⟨_, (), rfl, rfl, hW.ret ht⟩, hS.F ht⟩) hS.2.2 dL_low_6
abbrev rL_told : Room := { frames := 7, cells := 0, slots := 0, locals := 158 }
set_option maxRecDepth 100000 in
set_option maxHeartbeats 8000000 in
theorem tL_told (l : Launch) (G : WG) (S0 M0 : St) (rr : Int64) (h : fL_told S0 = some (rr)) : CtJ l yL_told wsL_told rL_told G [.ref (gad G 154)] S0 M0 rr S0 M0 := by
  refine Met.ofW (cc := cL_told) (maxL := 5) (ret := (some .long)) (by decide) rfl ?_
  intro p e s m args below meth cd s₁ B hml hv
  obtain ⟨hargs, hK, hW⟩ := hv
  have hx := B.exec
  have hb := B.bytes
  have hr := B.returns
  have hts := atoms_spec (ws := wsL_told) B.pre
  have hown : s.vm.findClass RL = some m.cls := findClass_of_methodNamed B.named
  have hlocks := B.notSynchronized
  have hA : ∀ q, Aw G q → Aw G q := fun _ h => h
  have hS : va_S (Aw G) s.heap s.heap [] := va_S.rf
  have he0 : entryFrame m args 5 = F0 m 0 ((lg_sl ([.ref (gad G 154)]) ++ List.replicate (5 - (lg_sl ([.ref (gad G 154)])).length) Slot.unset).toArray) [] := by rw [hargs]; exact lg_entry_eq _ _ _
  have hl := lv_entry ([.ref (gad G 154)]) (n := 5) (Nat.le_of_ble_eq_true rfl)
  rw [he0]
  generalize (lg_sl ([.ref (gad G 154)]) ++ List.replicate (5 - (lg_sl ([.ref (gad G 154)])).length) Slot.unset).toArray = ls at hl ⊢
  have hl : lv_has ls 5 [(0, .ref (gad G 154))] := hl
  have B145 : ∀ (n : Nat), ∀ (H : Heap) (locs : List Loc) (_ : WD G S0 M0 H) (_ : va_S (Aw G) s.heap H locs) (ls : Array Slot) (l1 : Int64) (l3 : Int32) (_ : lv_has ls 5 [(0, .ref (gad G 154)), (1, .long l1), (3, .int l3)]) (h : fL_told_b145 S0 n l1 l3 = some (rr)), WJ p l e (headSpec wsL_told rL_told).room s m args below meth cd G rr S0 M0 H locs (F0 m 145 ls []) := by
    intro n
    induction n with
    | zero => intro H locs hW hS ls l1 l3 hl h; cases (show (none : Option (Int64)) = some _ from h)
    | succ n ih =>
      have B157 : ∀ (n2 : Nat), ∀ (H : Heap) (locs : List Loc) (_ : WD G S0 M0 H) (_ : va_S (Aw G) s.heap H locs) (ls : Array Slot) (l1 : Int64) (l3 : Int32) (l4 : Int32) (_ : lv_has ls 5 [(0, .ref (gad G 154)), (1, .long l1), (3, .int l3), (4, .int l4)]) (h : fL_told_b157 S0 l3 (fL_told_b145 S0 n) n2 l1 l4 = some (rr)), WJ p l e (headSpec wsL_told rL_told).room s m args below meth cd G rr S0 M0 H locs (F0 m 157 ls []) := by
        intro n2
        induction n2 with
        | zero => intro H locs hW hS ls l1 l3 l4 hl h; cases (show (none : Option (Int64)) = some _ from h)
        | succ n2 ih2 =>
          intro H locs hW hS ls l1 l3 l4 hl h
          rw [fL_told_b157] at h
          refine lv_iload hx hb dL_told_157 (lv_at hl 3 rfl) ?_
          refine lv_iconst (v := 4) hx hb dL_told_159 (by decide) ?_
          refine lv_icmp_ge (tgt := 184) hx hb dL_told_160 (by decide) (fun c_1 => ?_) (fun c_1 => ?_)
          · have h := ite_t c_1 h
            refine lv_iinc (v := (l3 + 1)) (lv' := [(3, .int ((l3 + 1))), (0, .ref (gad G 154)), (1, .long l1), (4, .int l4)]) hx hb dL_told_184 hl (k := 2) rfl rfl (by decide) rfl (fun ls hl => ?_)
            refine lv_goto (tgt := 145) hx hb dL_told_187 (by decide) ?_
            exact ih _ _ hW hS ls l1 ((l3 + 1)) (lv_sub hl [1, 2, 0] rfl) h
          · have h := ite_f c_1 h
            refine lv_ldc2 hx hb hown (hts _ (List.mem_of_getElem? (i := 2) rfl)) dL_told_163 ?_
            refine lv_lload_n hx hb dL_told_166 rfl (lv_at hl 1 rfl) ?_
            refine lv_lmul hx hb dL_told_167 ?_
            refine lv_aload_n hx hb dL_told_168 rfl (lv_at hl 0 rfl) ?_
            refine lv_iload_n hx hb dL_told_169 rfl (lv_at hl 2 rfl) ?_
            refine lv_iload hx hb dL_told_170 (lv_at hl 3 rfl) ?_
            obtain ⟨r_2, e_3, h⟩ := bnd_e h
            refine kV_I (As := [.int l3, .int l4]) (rest := [.long ((31 * l1))]) ⟨hx, hb, hml, hown, hts⟩ (tX5_song l G S0 M0 l3 l4 r_2 e_3) (cwV 2 hts gL_told_X5_song rfl rfl rfl ⟨rfl, hdX5_song⟩ ⟨Nat.le_of_ble_eq_true rfl, Nat.le_of_ble_eq_true rfl⟩) (va_recv hK.1 hW.1 (ci := 5) (q0 := 154) rfl lkT) hK hW hS hA rfl hl.1 rfl (Nat.le_of_ble_eq_true rfl) dL_told_172 ⟨Nat.zero_le _, Nat.zero_le _⟩ (fun H locs hW hS => ?_)
            refine lv_i2l hx hb dL_told_175 rfl ?_
            refine lv_ladd hx hb dL_told_176 ?_
            obtain ⟨x_4, ex_4, h⟩ := nam_e h
            refine lv_nj ex_4 ?_
            refine lv_lstore_n (lv' := [(1, .long x_4), (0, .ref (gad G 154)), (3, .int l3), (4, .int l4)]) hx hb dL_told_177 rfl hl (by decide) rfl (fun ls hl => ?_)
            refine lv_iinc (v := (l4 + 1)) (lv' := [(4, .int ((l4 + 1))), (1, .long x_4), (0, .ref (gad G 154)), (3, .int l3)]) hx hb dL_told_178 hl (k := 3) rfl rfl (by decide) rfl (fun ls hl => ?_)
            refine lv_goto (tgt := 157) hx hb dL_told_181 (by decide) ?_
            exact ih2 _ _ hW hS ls x_4 l3 ((l4 + 1)) (lv_sub hl [2, 1, 3, 0] rfl) h
      intro H locs hW hS ls l1 l3 hl h
      rw [fL_told_b145] at h
      refine lv_iload_n hx hb dL_told_145 rfl (lv_at hl 2 rfl) ?_
      refine lv_aload_n hx hb dL_told_146 rfl (lv_at hl 0 rfl) ?_
      refine lv_iconst (v := 3) hx hb dL_told_147 (by decide) ?_
      obtain ⟨r_1, e_2, h⟩ := bnd_e h
      refine kV_I (As := [.int 3]) (rest := [.int l3]) ⟨hx, hb, hml, hown, hts⟩ (tX5_count l G S0 M0 3 r_1 e_2) (cwV 1 hts gL_told_X5_count rfl rfl rfl ⟨rfl, hdX5_count⟩ ⟨Nat.le_of_ble_eq_true rfl, Nat.le_of_ble_eq_true rfl⟩) (va_recv hK.1 hW.1 (ci := 5) (q0 := 154) rfl lkT) hK hW hS hA rfl hl.1 rfl (Nat.le_of_ble_eq_true rfl) dL_told_148 ⟨Nat.zero_le _, Nat.zero_le _⟩ (fun H locs hW hS => ?_)
      refine lv_icmp_ge (tgt := 190) hx hb dL_told_151 (by decide) (fun c_3 => ?_) (fun c_3 => ?_)
      · have h := ite_t c_3 h
        refine lv_lload_n hx hb dL_told_190 rfl (lv_at hl 1 rfl) ?_
        obtain rfl := Option.some.inj h
        exact W.lret hx hb hr (fun t ht hw => ⟨⟨_, (), rfl, rfl, hW.ret ht⟩, hS.F ht⟩) hS.2.2 dL_told_191
      · have h := ite_f c_3 h
        refine lv_iconst (v := 0) hx hb dL_told_154 (by decide) ?_
        refine lv_istore (lv' := [(4, .int 0), (0, .ref (gad G 154)), (1, .long l1), (3, .int l3)]) hx hb dL_told_155 hl (by decide) rfl (fun ls hl => ?_)
        exact B157 fuelN _ _ hW hS ls l1 l3 0 (lv_sub hl [1, 2, 3, 0] rfl) h
  have B33 : ∀ (n : Nat), ∀ (H : Heap) (locs : List Loc) (_ : WD G S0 M0 H) (_ : va_S (Aw G) s.heap H locs) (ls : Array Slot) (l1 : Int64) (l3 : Int32) (_ : lv_has ls 5 [(0, .ref (gad G 154)), (1, .long l1), (3, .int l3)]) (h : fL_told_b33 S0 n l1 l3 = some (rr)), WJ p l e (headSpec wsL_told rL_told).room s m args below meth cd G rr S0 M0 H locs (F0 m 33 ls []) := by
    intro n
    induction n with
    | zero => intro H locs hW hS ls l1 l3 hl h; cases (show (none : Option (Int64)) = some _ from h)
    | succ n ih =>
      have B76 : ∀ (n2 : Nat), ∀ (H : Heap) (locs : List Loc) (_ : WD G S0 M0 H) (_ : va_S (Aw G) s.heap H locs) (ls : Array Slot) (l1 : Int64) (l3 : Int32) (l4 : Int32) (_ : lv_has ls 5 [(0, .ref (gad G 154)), (1, .long l1), (3, .int l3), (4, .int l4)]) (h : fL_told_b76 S0 l3 (fL_told_b33 S0 n) n2 l1 l4 = some (rr)), WJ p l e (headSpec wsL_told rL_told).room s m args below meth cd G rr S0 M0 H locs (F0 m 76 ls []) := by
        intro n2
        induction n2 with
        | zero => intro H locs hW hS ls l1 l3 l4 hl h; cases (show (none : Option (Int64)) = some _ from h)
        | succ n2 ih2 =>
          intro H locs hW hS ls l1 l3 l4 hl h
          rw [fL_told_b76] at h
          refine lv_iload hx hb dL_told_76 (lv_at hl 3 rfl) ?_
          refine lv_aload_n hx hb dL_told_78 rfl (lv_at hl 0 rfl) ?_
          refine lv_iload_n hx hb dL_told_79 rfl (lv_at hl 2 rfl) ?_
          refine lv_iconst (v := 2) hx hb dL_told_80 (by decide) ?_
          obtain ⟨r_1, e_2, h⟩ := bnd_e h
          refine kV_I (As := [.int l3, .int 2]) (rest := [.int l4]) ⟨hx, hb, hml, hown, hts⟩ (tX5_camper l G S0 M0 l3 2 r_1 e_2) (cwV 2 hts gL_told_X5_camper rfl rfl rfl ⟨rfl, hdX5_camper⟩ ⟨Nat.le_of_ble_eq_true rfl, Nat.le_of_ble_eq_true rfl⟩) (va_recv hK.1 hW.1 (ci := 5) (q0 := 154) rfl lkT) hK hW hS hA rfl hl.1 rfl (Nat.le_of_ble_eq_true rfl) dL_told_81 ⟨Nat.zero_le _, Nat.zero_le _⟩ (fun H locs hW hS => ?_)
          refine lv_icmp_ge (tgt := 137) hx hb dL_told_84 (by decide) (fun c_3 => ?_) (fun c_3 => ?_)
          · have h := ite_t c_3 h
            refine lv_iinc (v := (l3 + 1)) (lv' := [(3, .int ((l3 + 1))), (0, .ref (gad G 154)), (1, .long l1), (4, .int l4)]) hx hb dL_told_137 hl (k := 2) rfl rfl (by decide) rfl (fun ls hl => ?_)
            refine lv_goto (tgt := 33) hx hb dL_told_140 (by decide) ?_
            exact ih _ _ hW hS ls l1 ((l3 + 1)) (lv_sub hl [1, 2, 0] rfl) h
          · have h := ite_f c_3 h
            refine lv_ldc2 hx hb hown (hts _ (List.mem_of_getElem? (i := 2) rfl)) dL_told_87 ?_
            refine lv_ldc2 hx hb hown (hts _ (List.mem_of_getElem? (i := 2) rfl)) dL_told_90 ?_
            refine lv_ldc2 hx hb hown (hts _ (List.mem_of_getElem? (i := 2) rfl)) dL_told_93 ?_
            refine lv_lload_n hx hb dL_told_96 rfl (lv_at hl 1 rfl) ?_
            refine lv_lmul hx hb dL_told_97 ?_
            refine lv_aload_n hx hb dL_told_98 rfl (lv_at hl 0 rfl) ?_
            refine lv_iload_n hx hb dL_told_99 rfl (lv_at hl 2 rfl) ?_
            refine lv_iload hx hb dL_told_100 (lv_at hl 3 rfl) ?_
            refine lv_iconst (v := 0) hx hb dL_told_102 (by decide) ?_
            obtain ⟨r_4, e_5, h⟩ := bnd_e h
            refine kV_I (As := [.int l3, .int l4, .int 0]) (rest := [.long ((31 * l1)), .long 31, .long 31]) ⟨hx, hb, hml, hown, hts⟩ (tX5_plotOf l G S0 M0 l3 l4 0 r_4 e_5) (cwV 3 hts gL_told_X5_plotOf rfl rfl rfl ⟨rfl, hdX5_plotOf⟩ ⟨Nat.le_of_ble_eq_true rfl, Nat.le_of_ble_eq_true rfl⟩) (va_recv hK.1 hW.1 (ci := 5) (q0 := 154) rfl lkT) hK hW hS hA rfl hl.1 rfl (Nat.le_of_ble_eq_true rfl) dL_told_103 ⟨Nat.zero_le _, Nat.zero_le _⟩ (fun H locs hW hS => ?_)
            refine lv_i2l hx hb dL_told_106 rfl ?_
            refine lv_ladd hx hb dL_told_107 ?_
            refine lv_lmul hx hb dL_told_108 ?_
            refine lv_aload_n hx hb dL_told_109 rfl (lv_at hl 0 rfl) ?_
            refine lv_iload_n hx hb dL_told_110 rfl (lv_at hl 2 rfl) ?_
            refine lv_iload hx hb dL_told_111 (lv_at hl 3 rfl) ?_
            refine lv_iconst (v := 1) hx hb dL_told_113 (by decide) ?_
            obtain ⟨r_6, e_7, h⟩ := bnd_e h
            refine kV_I (As := [.int l3, .int l4, .int 1]) (rest := [.long ((31 * ((31 * l1) + (Int32.toInt64 r_4)))), .long 31]) ⟨hx, hb, hml, hown, hts⟩ (tX5_plotOf l G S0 M0 l3 l4 1 r_6 e_7) (cwV 3 hts gL_told_X5_plotOf rfl rfl rfl ⟨rfl, hdX5_plotOf⟩ ⟨Nat.le_of_ble_eq_true rfl, Nat.le_of_ble_eq_true rfl⟩) (va_recv hK.1 hW.1 (ci := 5) (q0 := 154) rfl lkT) hK hW hS hA rfl hl.1 rfl (Nat.le_of_ble_eq_true rfl) dL_told_114 ⟨Nat.zero_le _, Nat.zero_le _⟩ (fun H locs hW hS => ?_)
            refine lv_i2l hx hb dL_told_117 rfl ?_
            refine lv_ladd hx hb dL_told_118 ?_
            refine lv_lmul hx hb dL_told_119 ?_
            refine lv_aload_n hx hb dL_told_120 rfl (lv_at hl 0 rfl) ?_
            refine lv_iload_n hx hb dL_told_121 rfl (lv_at hl 2 rfl) ?_
            refine lv_iload hx hb dL_told_122 (lv_at hl 3 rfl) ?_
            refine lv_iconst (v := 2) hx hb dL_told_124 (by decide) ?_
            obtain ⟨r_8, e_9, h⟩ := bnd_e h
            refine kV_I (As := [.int l3, .int l4, .int 2]) (rest := [.long ((31 * ((31 * ((31 * l1) + (Int32.toInt64 r_4))) + (Int32.toInt64 r_6))))]) ⟨hx, hb, hml, hown, hts⟩ (tX5_plotOf l G S0 M0 l3 l4 2 r_8 e_9) (cwV 3 hts gL_told_X5_plotOf rfl rfl rfl ⟨rfl, hdX5_plotOf⟩ ⟨Nat.le_of_ble_eq_true rfl, Nat.le_of_ble_eq_true rfl⟩) (va_recv hK.1 hW.1 (ci := 5) (q0 := 154) rfl lkT) hK hW hS hA rfl hl.1 rfl (Nat.le_of_ble_eq_true rfl) dL_told_125 ⟨Nat.zero_le _, Nat.zero_le _⟩ (fun H locs hW hS => ?_)
            refine lv_i2l hx hb dL_told_128 rfl ?_
            refine lv_ladd hx hb dL_told_129 ?_
            obtain ⟨x_10, ex_10, h⟩ := nam_e h
            refine lv_nj ex_10 ?_
            refine lv_lstore_n (lv' := [(1, .long x_10), (0, .ref (gad G 154)), (3, .int l3), (4, .int l4)]) hx hb dL_told_130 rfl hl (by decide) rfl (fun ls hl => ?_)
            refine lv_iinc (v := (l4 + 1)) (lv' := [(4, .int ((l4 + 1))), (1, .long x_10), (0, .ref (gad G 154)), (3, .int l3)]) hx hb dL_told_131 hl (k := 3) rfl rfl (by decide) rfl (fun ls hl => ?_)
            refine lv_goto (tgt := 76) hx hb dL_told_134 (by decide) ?_
            exact ih2 _ _ hW hS ls x_10 l3 ((l4 + 1)) (lv_sub hl [2, 1, 3, 0] rfl) h
      have B45 : ∀ (n2 : Nat), ∀ (H : Heap) (locs : List Loc) (_ : WD G S0 M0 H) (_ : va_S (Aw G) s.heap H locs) (ls : Array Slot) (l1 : Int64) (l3 : Int32) (l4 : Int32) (_ : lv_has ls 5 [(0, .ref (gad G 154)), (1, .long l1), (3, .int l3), (4, .int l4)]) (h : fL_told_b45 S0 l3 (fL_told_b33 S0 n) n2 l1 l4 = some (rr)), WJ p l e (headSpec wsL_told rL_told).room s m args below meth cd G rr S0 M0 H locs (F0 m 45 ls []) := by
        intro n2
        induction n2 with
        | zero => intro H locs hW hS ls l1 l3 l4 hl h; cases (show (none : Option (Int64)) = some _ from h)
        | succ n2 ih2 =>
          intro H locs hW hS ls l1 l3 l4 hl h
          rw [fL_told_b45] at h
          refine lv_iload hx hb dL_told_45 (lv_at hl 3 rfl) ?_
          refine lv_bipush (v := 7) hx hb dL_told_47 (by decide) ?_
          refine lv_icmp_ge (tgt := 73) hx hb dL_told_49 (by decide) (fun c_1 => ?_) (fun c_1 => ?_)
          · have h := ite_t c_1 h
            refine lv_iconst (v := 0) hx hb dL_told_73 (by decide) ?_
            refine lv_istore (lv' := [(4, .int 0), (0, .ref (gad G 154)), (1, .long l1), (3, .int l3)]) hx hb dL_told_74 hl (by decide) rfl (fun ls hl => ?_)
            exact B76 fuelN _ _ hW hS ls l1 l3 0 (lv_sub hl [1, 2, 3, 0] rfl) h
          · have h := ite_f c_1 h
            refine lv_ldc2 hx hb hown (hts _ (List.mem_of_getElem? (i := 2) rfl)) dL_told_52 ?_
            refine lv_lload_n hx hb dL_told_55 rfl (lv_at hl 1 rfl) ?_
            refine lv_lmul hx hb dL_told_56 ?_
            refine lv_aload_n hx hb dL_told_57 rfl (lv_at hl 0 rfl) ?_
            refine lv_iload_n hx hb dL_told_58 rfl (lv_at hl 2 rfl) ?_
            refine lv_iload hx hb dL_told_59 (lv_at hl 3 rfl) ?_
            obtain ⟨r_2, e_3, h⟩ := bnd_e h
            refine kV_I (As := [.int l3, .int l4]) (rest := [.long ((31 * l1))]) ⟨hx, hb, hml, hown, hts⟩ (tX5_camper l G S0 M0 l3 l4 r_2 e_3) (cwV 2 hts gL_told_X5_camper rfl rfl rfl ⟨rfl, hdX5_camper⟩ ⟨Nat.le_of_ble_eq_true rfl, Nat.le_of_ble_eq_true rfl⟩) (va_recv hK.1 hW.1 (ci := 5) (q0 := 154) rfl lkT) hK hW hS hA rfl hl.1 rfl (Nat.le_of_ble_eq_true rfl) dL_told_61 ⟨Nat.zero_le _, Nat.zero_le _⟩ (fun H locs hW hS => ?_)
            refine lv_i2l hx hb dL_told_64 rfl ?_
            refine lv_ladd hx hb dL_told_65 ?_
            obtain ⟨x_4, ex_4, h⟩ := nam_e h
            refine lv_nj ex_4 ?_
            refine lv_lstore_n (lv' := [(1, .long x_4), (0, .ref (gad G 154)), (3, .int l3), (4, .int l4)]) hx hb dL_told_66 rfl hl (by decide) rfl (fun ls hl => ?_)
            refine lv_iinc (v := (l4 + 1)) (lv' := [(4, .int ((l4 + 1))), (1, .long x_4), (0, .ref (gad G 154)), (3, .int l3)]) hx hb dL_told_67 hl (k := 3) rfl rfl (by decide) rfl (fun ls hl => ?_)
            refine lv_goto (tgt := 45) hx hb dL_told_70 (by decide) ?_
            exact ih2 _ _ hW hS ls x_4 l3 ((l4 + 1)) (lv_sub hl [2, 1, 3, 0] rfl) h
      intro H locs hW hS ls l1 l3 hl h
      rw [fL_told_b33] at h
      refine lv_iload_n hx hb dL_told_33 rfl (lv_at hl 2 rfl) ?_
      refine lv_aload_n hx hb dL_told_34 rfl (lv_at hl 0 rfl) ?_
      refine lv_iconst (v := 1) hx hb dL_told_35 (by decide) ?_
      obtain ⟨r_1, e_2, h⟩ := bnd_e h
      refine kV_I (As := [.int 1]) (rest := [.int l3]) ⟨hx, hb, hml, hown, hts⟩ (tX5_count l G S0 M0 1 r_1 e_2) (cwV 1 hts gL_told_X5_count rfl rfl rfl ⟨rfl, hdX5_count⟩ ⟨Nat.le_of_ble_eq_true rfl, Nat.le_of_ble_eq_true rfl⟩) (va_recv hK.1 hW.1 (ci := 5) (q0 := 154) rfl lkT) hK hW hS hA rfl hl.1 rfl (Nat.le_of_ble_eq_true rfl) dL_told_36 ⟨Nat.zero_le _, Nat.zero_le _⟩ (fun H locs hW hS => ?_)
      refine lv_icmp_ge (tgt := 143) hx hb dL_told_39 (by decide) (fun c_3 => ?_) (fun c_3 => ?_)
      · have h := ite_t c_3 h
        refine lv_iconst (v := 0) hx hb dL_told_143 (by decide) ?_
        refine lv_istore_n (lv' := [(3, .int 0), (0, .ref (gad G 154)), (1, .long l1)]) hx hb dL_told_144 rfl hl (by decide) rfl (fun ls hl => ?_)
        exact B145 fuelN _ _ hW hS ls l1 0 (lv_sub hl [1, 2, 0] rfl) h
      · have h := ite_f c_3 h
        refine lv_iconst (v := 0) hx hb dL_told_42 (by decide) ?_
        refine lv_istore (lv' := [(4, .int 0), (0, .ref (gad G 154)), (1, .long l1), (3, .int l3)]) hx hb dL_told_43 hl (by decide) rfl (fun ls hl => ?_)
        exact B45 fuelN _ _ hW hS ls l1 l3 0 (lv_sub hl [1, 2, 3, 0] rfl) h
  have B6 : ∀ (n : Nat), ∀ (H : Heap) (locs : List Loc) (_ : WD G S0 M0 H) (_ : va_S (Aw G) s.heap H locs) (ls : Array Slot) (l1 : Int64) (l3 : Int32) (_ : lv_has ls 5 [(0, .ref (gad G 154)), (1, .long l1), (3, .int l3)]) (h : fL_told_b6 S0 n l1 l3 = some (rr)), WJ p l e (headSpec wsL_told rL_told).room s m args below meth cd G rr S0 M0 H locs (F0 m 6 ls []) := by
    intro n
    induction n with
    | zero => intro H locs hW hS ls l1 l3 hl h; cases (show (none : Option (Int64)) = some _ from h)
    | succ n ih =>
      intro H locs hW hS ls l1 l3 hl h
      rw [fL_told_b6] at h
      refine lv_iload_n hx hb dL_told_6 rfl (lv_at hl 2 rfl) ?_
      refine lv_bipush (v := 10) hx hb dL_told_7 (by decide) ?_
      refine lv_icmp_ge (tgt := 31) hx hb dL_told_9 (by decide) (fun c_1 => ?_) (fun c_1 => ?_)
      · have h := ite_t c_1 h
        refine lv_iconst (v := 0) hx hb dL_told_31 (by decide) ?_
        refine lv_istore_n (lv' := [(3, .int 0), (0, .ref (gad G 154)), (1, .long l1)]) hx hb dL_told_32 rfl hl (by decide) rfl (fun ls hl => ?_)
        exact B33 fuelN _ _ hW hS ls l1 0 (lv_sub hl [1, 2, 0] rfl) h
      · have h := ite_f c_1 h
        refine lv_ldc2 hx hb hown (hts _ (List.mem_of_getElem? (i := 2) rfl)) dL_told_12 ?_
        refine lv_lload_n hx hb dL_told_15 rfl (lv_at hl 1 rfl) ?_
        refine lv_lmul hx hb dL_told_16 ?_
        refine lv_aload_n hx hb dL_told_17 rfl (lv_at hl 0 rfl) ?_
        refine lv_iload_n hx hb dL_told_18 rfl (lv_at hl 2 rfl) ?_
        obtain ⟨r_2, e_3, h⟩ := bnd_e h
        refine kV_I (As := [.int l3]) (rest := [.long ((31 * l1))]) ⟨hx, hb, hml, hown, hts⟩ (tX5_count l G S0 M0 l3 r_2 e_3) (cwV 1 hts gL_told_X5_count rfl rfl rfl ⟨rfl, hdX5_count⟩ ⟨Nat.le_of_ble_eq_true rfl, Nat.le_of_ble_eq_true rfl⟩) (va_recv hK.1 hW.1 (ci := 5) (q0 := 154) rfl lkT) hK hW hS hA rfl hl.1 rfl (Nat.le_of_ble_eq_true rfl) dL_told_19 ⟨Nat.zero_le _, Nat.zero_le _⟩ (fun H locs hW hS => ?_)
        refine lv_i2l hx hb dL_told_22 rfl ?_
        refine lv_ladd hx hb dL_told_23 ?_
        obtain ⟨x_4, ex_4, h⟩ := nam_e h
        refine lv_nj ex_4 ?_
        refine lv_lstore_n (lv' := [(1, .long x_4), (0, .ref (gad G 154)), (3, .int l3)]) hx hb dL_told_24 rfl hl (by decide) rfl (fun ls hl => ?_)
        refine lv_iinc (v := (l3 + 1)) (lv' := [(3, .int ((l3 + 1))), (1, .long x_4), (0, .ref (gad G 154))]) hx hb dL_told_25 hl (k := 2) rfl rfl (by decide) rfl (fun ls hl => ?_)
        refine lv_goto (tgt := 6) hx hb dL_told_28 (by decide) ?_
        exact ih _ _ hW hS ls x_4 ((l3 + 1)) (lv_sub hl [2, 1, 0] rfl) h
  unfold fL_told at h
  refine lv_ldc2 hx hb hown (hts _ (List.mem_of_getElem? (i := 1) rfl)) dL_told_0 ?_
  refine lv_lstore_n (lv' := [(1, .long 3), (0, .ref (gad G 154))]) hx hb dL_told_3 rfl hl (by decide) rfl (fun ls hl => ?_)
  refine lv_iconst (v := 0) hx hb dL_told_4 (by decide) ?_
  refine lv_istore_n (lv' := [(3, .int 0), (1, .long 3), (0, .ref (gad G 154))]) hx hb dL_told_5 rfl hl (by decide) rfl (fun ls hl => ?_)
  exact B6 fuelN _ _ hW hS ls 3 0 (lv_sub hl [2, 1, 0] rfl) h
