abbrev rX0_loudnessOfSong : Room := { frames := 1, cells := 0, slots := 0, locals := 21 }
set_option maxRecDepth 100000 in
set_option maxHeartbeats 8000000 in
theorem tX0_loudnessOfSong (l : Launch) (G : WG) (S0 M0 : St) (c : Nat) (hc : c < 7) (p1 : Int32) (rr : UInt32) (h : f0_loudnessOfSong S0 c p1 = some (rr)) : CtF l yX0_loudnessOfSong wsX0_loudnessOfSong rX0_loudnessOfSong G [.ref (gad G c), .int p1] S0 M0 rr S0 M0 := by
  refine Met.ofW (cc := cX0_loudnessOfSong) (maxL := 2) (ret := (some .float)) (by decide) rfl ?_
  intro p e s m args below meth cd s₁ B hml hv
  obtain ⟨hargs, hK, hW⟩ := hv
  have hx := B.exec
  have hb := B.bytes
  have hr := B.returns
  have hts := atoms_spec (ws := wsX0_loudnessOfSong) B.pre
  have hown : s.vm.findClass RX0 = some m.cls := findClass_of_methodNamed B.named
  have hlocks := B.notSynchronized
  have hA : ∀ q, Aw G q → Aw G q := fun _ h => h
  have hS : va_S (Aw G) s.heap s.heap [] := va_S.rf
  have he0 : entryFrame m args 2 = F0 m 0 ((lg_sl ([.ref (gad G c), .int p1]) ++ List.replicate (2 - (lg_sl ([.ref (gad G c), .int p1])).length) Slot.unset).toArray) [] := by rw [hargs]; exact lg_entry_eq _ _ _
  have hl := lv_entry ([.ref (gad G c), .int p1]) (n := 2) (Nat.le_of_ble_eq_true rfl)
  rw [he0]
  generalize (lg_sl ([.ref (gad G c), .int p1]) ++ List.replicate (2 - (lg_sl ([.ref (gad G c), .int p1])).length) Slot.unset).toArray = ls at hl ⊢
  have hl : lv_has ls 2 [(0, .ref (gad G c)), (1, .int p1)] := hl
  have hiX0 : ∀ w ∈ u_ws RX0 TX0 12, w ∈ wsX0_loudnessOfSong := by decide +kernel
  unfold f0_loudnessOfSong at h
  refine lv_aload_n hx hb dX0_loudnessOfSong_0 rfl (lv_at hl 0 rfl) ?_
  refine va_get (D := G.1) (ci := 0) (v := .ref (gad G (14 + (10 * c + 9)))) (C := RX0) (T := TX0) (N := 12) hx hb hts hiX0 hown hK.1 hW.1 c (lkC (c := c) (by omega)) rfl 6 (by decide) (hts _ (List.mem_of_getElem? (i := 1) rfl)) (fun _ h9 => h9) rfl dX0_loudnessOfSong_1 ?_
  refine lv_iload_n hx hb dX0_loudnessOfSong_4 rfl (lv_at hl 1 rfl) ?_
  obtain ⟨r_1, e_2, h⟩ := bnd_e h
  refine kV_I (As := [.int p1]) (rest := []) ⟨hx, hb, hml, hown, hts⟩ (tX4_at l G S0 M0 ((10 * c + 9)) (by omega) p1 r_1 e_2) (cwV 1 hts gX0_loudnessOfSong_X4_at rfl rfl rfl ⟨rfl, hdX4_at⟩ ⟨Nat.le_of_ble_eq_true rfl, Nat.le_of_ble_eq_true rfl⟩) (va_recv hK.1 hW.1 (ci := 4) (q0 := (14 + (10 * c + 9))) rfl (lkR (r := (10 * c + 9)) (by omega))) hK hW hS hA rfl hl.1 rfl (Nat.le_of_ble_eq_true rfl) dX0_loudnessOfSong_5 ⟨Nat.zero_le _, Nat.zero_le _⟩ (fun H locs hW hS => ?_)
  refine lv_i2f hx hb dX0_loudnessOfSong_8 ?_
  refine lv_ldcf hx hb hown (hts _ (List.mem_of_getElem? (i := 2) rfl)) dX0_loudnessOfSong_9 ?_
  obtain ⟨x_3, nx_3, ex_3, h⟩ := fnn_e h
  refine lv_fdiv hx hb dX0_loudnessOfSong_11 nx_3 ?_
  refine lv_nf ex_3 ?_
  obtain rfl := Option.some.inj h
  exact W.fret hx hb hr (fun t ht hw => ⟨⟨_, (), rfl, rfl, hW.ret ht⟩, hS.F ht⟩) hS.2.2 dX0_loudnessOfSong_12
abbrev rX0_loudnessOf : Room := { frames := 5, cells := 0, slots := 0, locals := 113 }
set_option maxRecDepth 100000 in
set_option maxHeartbeats 8000000 in
theorem tX0_loudnessOf (l : Launch) (G : WG) (S0 M0 : St) (c : Nat) (hc : c < 7) (p1 : Int32) (rr : UInt32) (h : f0_loudnessOf S0 c p1 = some (rr)) : CtF l yX0_loudnessOf wsX0_loudnessOf rX0_loudnessOf G [.ref (gad G c), .int p1] S0 M0 rr S0 M0 := by
  refine Met.ofW (cc := cX0_loudnessOf) (maxL := 4) (ret := (some .float)) (by decide) rfl ?_
  intro p e s m args below meth cd s₁ B hml hv
  obtain ⟨hargs, hK, hW⟩ := hv
  have hx := B.exec
  have hb := B.bytes
  have hr := B.returns
  have hts := atoms_spec (ws := wsX0_loudnessOf) B.pre
  have hown : s.vm.findClass RX0 = some m.cls := findClass_of_methodNamed B.named
  have hlocks := B.notSynchronized
  have hA : ∀ q, Aw G q → Aw G q := fun _ h => h
  have hS : va_S (Aw G) s.heap s.heap [] := va_S.rf
  have he0 : entryFrame m args 4 = F0 m 0 ((lg_sl ([.ref (gad G c), .int p1]) ++ List.replicate (4 - (lg_sl ([.ref (gad G c), .int p1])).length) Slot.unset).toArray) [] := by rw [hargs]; exact lg_entry_eq _ _ _
  have hl := lv_entry ([.ref (gad G c), .int p1]) (n := 4) (Nat.le_of_ble_eq_true rfl)
  rw [he0]
  generalize (lg_sl ([.ref (gad G c), .int p1]) ++ List.replicate (4 - (lg_sl ([.ref (gad G c), .int p1])).length) Slot.unset).toArray = ls at hl ⊢
  have hl : lv_has ls 4 [(0, .ref (gad G c)), (1, .int p1)] := hl
  have hiX0 : ∀ w ∈ u_ws RX0 TX0 12, w ∈ wsX0_loudnessOf := by decide +kernel
  have B4 : ∀ (n : Nat), ∀ (H : Heap) (locs : List Loc) (_ : WD G S0 M0 H) (_ : va_S (Aw G) s.heap H locs) (ls : Array Slot) (l1 : Int32) (l2 : UInt32) (l3 : Int32) (_ : lv_has ls 4 [(0, .ref (gad G c)), (1, .int l1), (2, .float l2), (3, .int l3)]) (h : f0_loudnessOf_b4 S0 c l1 n l2 l3 = some (rr)), WF p l e (headSpec wsX0_loudnessOf rX0_loudnessOf).room s m args below meth cd G rr S0 M0 H locs (F0 m 4 ls []) := by
    intro n
    induction n with
    | zero => intro H locs hW hS ls l1 l2 l3 hl h; cases (show (none : Option (UInt32)) = some _ from h)
    | succ n ih =>
      have B29 : ∀ (H : Heap) (locs : List Loc) (_ : WD G S0 M0 H) (_ : va_S (Aw G) s.heap H locs) (ls : Array Slot) (l1 : Int32) (l2 : UInt32) (l3 : Int32) (_ : lv_has ls 4 [(0, .ref (gad G c)), (1, .int l1), (2, .float l2), (3, .int l3)]) (h : f0_loudnessOf_b29 S0 c (f0_loudnessOf_b4 S0 c l1 n) l1 l2 l3 = some (rr)), WF p l e (headSpec wsX0_loudnessOf rX0_loudnessOf).room s m args below meth cd G rr S0 M0 H locs (F0 m 29 ls []) := by
        intro H locs hW hS ls l1 l2 l3 hl h
        unfold f0_loudnessOf_b29 at h
        refine lv_iinc (v := (l3 + 1)) (lv' := [(3, .int ((l3 + 1))), (0, .ref (gad G c)), (1, .int l1), (2, .float l2)]) hx hb dX0_loudnessOf_29 hl (k := 3) rfl rfl (by decide) rfl (fun ls hl => ?_)
        refine lv_goto (tgt := 4) hx hb dX0_loudnessOf_32 (by decide) ?_
        exact ih _ _ hW hS ls l1 l2 ((l3 + 1)) (lv_sub hl [1, 2, 3, 0] rfl) h
      intro H locs hW hS ls l1 l2 l3 hl h
      rw [f0_loudnessOf_b4] at h
      refine lv_iload_n hx hb dX0_loudnessOf_4 rfl (lv_at hl 3 rfl) ?_
      refine lv_aload_n hx hb dX0_loudnessOf_5 rfl (lv_at hl 0 rfl) ?_
      refine va_get (D := G.1) (ci := 0) (v := .int (S0.1 (6 * c + 2))) (C := RX0) (T := TX0) (N := 12) hx hb hts hiX0 hown hK.1 hW.1 c (lkC (c := c) (by omega)) rfl 8 (by decide) (hts _ (List.mem_of_getElem? (i := 1) rfl)) (fun _ h9 => h9) rfl dX0_loudnessOf_6 ?_
      refine lv_icmp_ge (tgt := 35) hx hb dX0_loudnessOf_9 (by decide) (fun c_1 => ?_) (fun c_1 => ?_)
      · have h := ite_t c_1 h
        refine lv_fload_n hx hb dX0_loudnessOf_35 rfl (lv_at hl 2 rfl) ?_
        obtain rfl := Option.some.inj h
        exact W.fret hx hb hr (fun t ht hw => ⟨⟨_, (), rfl, rfl, hW.ret ht⟩, hS.F ht⟩) hS.2.2 dX0_loudnessOf_36
      · have h := ite_f c_1 h
        refine lv_aload_n hx hb dX0_loudnessOf_12 rfl (lv_at hl 0 rfl) ?_
        refine lv_iload_n hx hb dX0_loudnessOf_13 rfl (lv_at hl 3 rfl) ?_
        obtain ⟨r_2, e_3, h⟩ := bnd_e h
        refine kV_I (As := [.int l3]) (rest := []) ⟨hx, hb, hml, hown, hts⟩ (tX0_ownerOfSong l G S0 M0 c (by omega) l3 r_2 e_3) (cwV 1 hts gX0_loudnessOf_X0_ownerOfSong rfl rfl rfl ⟨rfl, hdX0_ownerOfSong⟩ ⟨Nat.le_of_ble_eq_true rfl, Nat.le_of_ble_eq_true rfl⟩) (va_recv hK.1 hW.1 (ci := 0) (q0 := c) rfl (lkC (c := c) (by omega))) hK hW hS hA rfl hl.1 rfl (Nat.le_of_ble_eq_true rfl) dX0_loudnessOf_14 ⟨Nat.zero_le _, Nat.zero_le _⟩ (fun H locs hW hS => ?_)
        refine lv_iload_n hx hb dX0_loudnessOf_17 rfl (lv_at hl 1 rfl) ?_
        refine lv_icmp_ne (tgt := 29) hx hb dX0_loudnessOf_18 (by decide) (fun c_4 => ?_) (fun c_4 => ?_)
        · have h := ite_f c_4 h
          exact B29 _ _ hW hS ls l1 l2 l3 (lv_sub hl [0, 1, 2, 3] rfl) h
        · have h := ite_t c_4 h
          refine lv_fload_n hx hb dX0_loudnessOf_21 rfl (lv_at hl 2 rfl) ?_
          refine lv_aload_n hx hb dX0_loudnessOf_22 rfl (lv_at hl 0 rfl) ?_
          refine lv_iload_n hx hb dX0_loudnessOf_23 rfl (lv_at hl 3 rfl) ?_
          obtain ⟨r_5, e_6, h⟩ := bnd_e h
          refine kV_F (As := [.int l3]) (rest := [.float l2]) ⟨hx, hb, hml, hown, hts⟩ (tX0_loudnessOfSong l G S0 M0 c (by omega) l3 r_5 e_6) (cwV 1 hts gX0_loudnessOf_X0_loudnessOfSong rfl rfl rfl ⟨rfl, hdX0_loudnessOfSong⟩ ⟨Nat.le_of_ble_eq_true rfl, Nat.le_of_ble_eq_true rfl⟩) (va_recv hK.1 hW.1 (ci := 0) (q0 := c) rfl (lkC (c := c) (by omega))) hK hW hS hA rfl hl.1 rfl (Nat.le_of_ble_eq_true rfl) dX0_loudnessOf_24 ⟨Nat.zero_le _, Nat.zero_le _⟩ (fun H locs hW hS => ?_)
          obtain ⟨x_7, nx_7, ex_7, h⟩ := fnn_e h
          refine lv_fadd hx hb dX0_loudnessOf_27 nx_7 ?_
          refine lv_nf ex_7 ?_
          refine lv_fstore_n (lv' := [(2, .float x_7), (0, .ref (gad G c)), (1, .int l1), (3, .int l3)]) hx hb dX0_loudnessOf_28 rfl hl (by decide) rfl (fun ls hl => ?_)
          exact B29 _ _ hW hS ls l1 x_7 l3 (lv_sub hl [1, 2, 0, 3] rfl) h
  unfold f0_loudnessOf at h
  refine lv_fconst0 hx hb dX0_loudnessOf_0 ?_
  refine lv_fstore_n (lv' := [(2, .float FP.fconst0), (0, .ref (gad G c)), (1, .int p1)]) hx hb dX0_loudnessOf_1 rfl hl (by decide) rfl (fun ls hl => ?_)
  refine lv_iconst (v := 0) hx hb dX0_loudnessOf_2 (by decide) ?_
  refine lv_istore_n (lv' := [(3, .int 0), (2, .float FP.fconst0), (0, .ref (gad G c)), (1, .int p1)]) hx hb dX0_loudnessOf_3 rfl hl (by decide) rfl (fun ls hl => ?_)
  exact B4 fuelN _ _ hW hS ls p1 FP.fconst0 0 (lv_sub hl [2, 3, 1, 0] rfl) h
abbrev rX1_append : Room := { frames := 0, cells := 0, slots := 0, locals := 0 }
set_option maxRecDepth 100000 in
set_option maxHeartbeats 8000000 in
theorem tX1_append (l : Launch) (G : WG) (S0 M0 : St) (p1 : Int32) (rr : Int32) (S' : St) (h : f1_append S0 p1 = some (rr, S')) : CtI l yX1_append wsX1_append rX1_append G [.ref (gad G 157), .int p1] S0 M0 rr S' M0 := by
  refine Met.ofW (cc := cX1_append) (maxL := 2) (ret := (some .boolean)) (by decide) rfl ?_
  intro p e s m args below meth cd s₁ B hml hv
  obtain ⟨hargs, hK, hW⟩ := hv
  have hx := B.exec
  have hb := B.bytes
  have hr := B.returns
  have hts := atoms_spec (ws := wsX1_append) B.pre
  have hown : s.vm.findClass RX1 = some m.cls := findClass_of_methodNamed B.named
  have hlocks := B.notSynchronized
  have hA : ∀ q, Aw G q → Aw G q := fun _ h => h
  have hS : va_S (Aw G) s.heap s.heap [] := va_S.rf
  have he0 : entryFrame m args 2 = F0 m 0 ((lg_sl ([.ref (gad G 157), .int p1]) ++ List.replicate (2 - (lg_sl ([.ref (gad G 157), .int p1])).length) Slot.unset).toArray) [] := by rw [hargs]; exact lg_entry_eq _ _ _
  have hl := lv_entry ([.ref (gad G 157), .int p1]) (n := 2) (Nat.le_of_ble_eq_true rfl)
  rw [he0]
  generalize (lg_sl ([.ref (gad G 157), .int p1]) ++ List.replicate (2 - (lg_sl ([.ref (gad G 157), .int p1])).length) Slot.unset).toArray = ls at hl ⊢
  have hl : lv_has ls 2 [(0, .ref (gad G 157)), (1, .int p1)] := hl
  have hiX1 : ∀ w ∈ u_ws RX1 TX1 2, w ∈ wsX1_append := by decide +kernel
  have B19 : ∀ (H : Heap) (locs : List Loc) (S : St) (_ : WD G S M0 H) (_ : va_S (Aw G) s.heap H locs) (ls : Array Slot) (_ : lv_has ls 2 []) (h : f1_append_b19 S  = some (rr, S')), WI p l e (headSpec wsX1_append rX1_append).room s m args below meth cd G rr S' M0 H locs (F0 m 19 ls []) := by
    intro H locs S hW hS ls hl h
    unfold f1_append_b19 at h
    refine lv_iconst (v := 0) hx hb dX1_append_19 (by decide) ?_
    obtain ⟨rfl, rfl⟩ := Prod.mk.inj (Option.some.inj h)
    exact W.zret (ty := .boolean) hx hb hr rfl (fun t ht hw => ⟨⟨_, (), rfl, rfl, hW.ret ht⟩, hS.F ht⟩) hS.2.2 dX1_append_20
  unfold f1_append at h
  refine lv_aload_n hx hb dX1_append_0 rfl (lv_at hl 0 rfl) ?_
  refine va_get (D := G.1) (ci := 1) (v := .int (S0.1 45)) (C := RX1) (T := TX1) (N := 2) hx hb hts hiX1 hown hK.1 hW.1 157 lkX rfl 1 (by decide) (hts _ (List.mem_of_getElem? (i := 1) rfl)) (fun _ h9 => h9) rfl dX1_append_1 ?_
  refine lv_if_lt (tgt := 19) hx hb dX1_append_4 (by decide) (fun c_1 => ?_) (fun c_1 => ?_)
  · have h := ite_t c_1 h
    exact B19 _ _ S0 hW hS ls (lv_sub hl [] rfl) h
  · have h := ite_f c_1 h
    refine lv_aload_n hx hb dX1_append_7 rfl (lv_at hl 0 rfl) ?_
    refine va_get (D := G.1) (ci := 1) (v := .int (S0.1 45)) (C := RX1) (T := TX1) (N := 2) hx hb hts hiX1 hown hK.1 hW.1 157 lkX rfl 1 (by decide) (hts _ (List.mem_of_getElem? (i := 1) rfl)) (fun _ h9 => h9) rfl dX1_append_8 ?_
    refine lv_aload_n hx hb dX1_append_11 rfl (lv_at hl 0 rfl) ?_
    refine va_get (D := G.1) (ci := 1) (v := .ref (gad G 158)) (C := RX1) (T := TX1) (N := 2) hx hb hts hiX1 hown hK.1 hW.1 157 lkX rfl 0 (by decide) (hts _ (List.mem_of_getElem? (i := 2) rfl)) (fun _ h9 => h9) rfl dX1_append_12 ?_
    refine va_alen hx hb hK.1 hW.1 158 1 lkXa rfl rfl dX1_append_15 ?_
    refine lv_icmp_lt (tgt := 21) hx hb dX1_append_16 (by decide) (fun c_2 => ?_) (fun c_2 => ?_)
    · have h := ite_t c_2 h
      refine lv_aload_n hx hb dX1_append_21 rfl (lv_at hl 0 rfl) ?_
      refine va_get (D := G.1) (ci := 1) (v := .ref (gad G 158)) (C := RX1) (T := TX1) (N := 2) hx hb hts hiX1 hown hK.1 hW.1 157 lkX rfl 0 (by decide) (hts _ (List.mem_of_getElem? (i := 2) rfl)) (fun _ h9 => h9) rfl dX1_append_22 ?_
      refine lv_aload_n hx hb dX1_append_25 rfl (lv_at hl 0 rfl) ?_
      refine va_get (D := G.1) (ci := 1) (v := .int (S0.1 45)) (C := RX1) (T := TX1) (N := 2) hx hb hts hiX1 hown hK.1 hW.1 157 lkX rfl 1 (by decide) (hts _ (List.mem_of_getElem? (i := 1) rfl)) (fun _ h9 => h9) rfl dX1_append_26 ?_
      refine lv_iload_n hx hb dX1_append_29 rfl (lv_at hl 1 rfl) ?_
      obtain ⟨n_4, h⟩ := sto_e h
      obtain ⟨S_3, eS_3, h⟩ := nam_e h
      refine va_cast hx hb hK.1 hW.1 (hW.D hA) hS 158 1 lkXa rfl n_4 dX1_append_30 (fun H locs hP hD hS => ?_)
      have hW := upXa hW hP
      rw [← eS_3] at hW
      refine lv_aload_n hx hb dX1_append_31 rfl (lv_at hl 0 rfl) ?_
      refine lv_dup hx hb dX1_append_32 rfl ?_
      refine va_get (D := G.1) (ci := 1) (v := .int (S_3.1 45)) (C := RX1) (T := TX1) (N := 2) hx hb hts hiX1 hown hK.1 hW.1 157 lkX rfl 1 (by decide) (hts _ (List.mem_of_getElem? (i := 1) rfl)) (fun _ h9 => h9) rfl dX1_append_33 ?_
      refine lv_iconst (v := 1) hx hb dX1_append_36 (by decide) ?_
      refine lv_iadd hx hb dX1_append_37 ?_
      obtain ⟨S_5, eS_5, h⟩ := nam_e h
      refine va_put (D := G.1) (ci := 1) (v := .int ((S_3.1 45 + 1))) (ty := .int) (C := RX1) (T := TX1) (N := 2) hx hb hts hiX1 tyX1 tyX1_ok nmX1 hown hK.1 hW.1 (hW.D hA) hS 157 lkX rfl 1 (by decide) (hts _ (List.mem_of_getElem? (i := 1) rfl)) (fun _ h9 => h9) rfl (by decide +kernel) rfl rfl (Nat.le_of_ble_eq_true rfl) dX1_append_38 (fun H locs hP hD hS => ?_)
      have hW := upX hW hP
      rw [← eS_5] at hW
      refine lv_iconst (v := 1) hx hb dX1_append_41 (by decide) ?_
      obtain ⟨rfl, rfl⟩ := Prod.mk.inj (Option.some.inj h)
      exact W.zret (ty := .boolean) hx hb hr rfl (fun t ht hw => ⟨⟨_, (), rfl, rfl, hW.ret ht⟩, hS.F ht⟩) hS.2.2 dX1_append_42
    · have h := ite_f c_2 h
      exact B19 _ _ S0 hW hS ls (lv_sub hl [] rfl) h
abbrev rX1_at : Room := { frames := 0, cells := 0, slots := 0, locals := 0 }
set_option maxRecDepth 100000 in
set_option maxHeartbeats 8000000 in
theorem tX1_at (l : Launch) (G : WG) (S0 M0 : St) (p1 : Int32) (rr : Int32) (h : f1_at S0 p1 = some (rr)) : CtI l yX1_at wsX1_at rX1_at G [.ref (gad G 157), .int p1] S0 M0 rr S0 M0 := by
  refine Met.ofW (cc := cX1_at) (maxL := 2) (ret := (some .char)) (by decide) rfl ?_
  intro p e s m args below meth cd s₁ B hml hv
  obtain ⟨hargs, hK, hW⟩ := hv
  have hx := B.exec
  have hb := B.bytes
  have hr := B.returns
  have hts := atoms_spec (ws := wsX1_at) B.pre
  have hown : s.vm.findClass RX1 = some m.cls := findClass_of_methodNamed B.named
  have hlocks := B.notSynchronized
  have hA : ∀ q, Aw G q → Aw G q := fun _ h => h
  have hS : va_S (Aw G) s.heap s.heap [] := va_S.rf
  have he0 : entryFrame m args 2 = F0 m 0 ((lg_sl ([.ref (gad G 157), .int p1]) ++ List.replicate (2 - (lg_sl ([.ref (gad G 157), .int p1])).length) Slot.unset).toArray) [] := by rw [hargs]; exact lg_entry_eq _ _ _
  have hl := lv_entry ([.ref (gad G 157), .int p1]) (n := 2) (Nat.le_of_ble_eq_true rfl)
  rw [he0]
  generalize (lg_sl ([.ref (gad G 157), .int p1]) ++ List.replicate (2 - (lg_sl ([.ref (gad G 157), .int p1])).length) Slot.unset).toArray = ls at hl ⊢
  have hl : lv_has ls 2 [(0, .ref (gad G 157)), (1, .int p1)] := hl
  have hiX1 : ∀ w ∈ u_ws RX1 TX1 2, w ∈ wsX1_at := by decide +kernel
  have B23 : ∀ (H : Heap) (locs : List Loc) (_ : WD G S0 M0 H) (_ : va_S (Aw G) s.heap H locs) (ls : Array Slot) (k0 : Int32) (_ : lv_has ls 2 []) (h : f1_at_b23 S0 k0 = some (rr)), WI p l e (headSpec wsX1_at rX1_at).room s m args below meth cd G rr S0 M0 H locs (F0 m 23 ls [.int k0]) := by
    intro H locs hW hS ls k0 hl h
    unfold f1_at_b23 at h
    obtain ⟨z_1, h⟩ := isc_e h
    obtain rfl := Option.some.inj h
    exact W.zret (ty := .char) hx hb hr (nc_1 z_1) (fun t ht hw => ⟨⟨_, (), rfl, rfl, hW.ret ht⟩, hS.F ht⟩) hS.2.2 dX1_at_23
  have B22 : ∀ (H : Heap) (locs : List Loc) (_ : WD G S0 M0 H) (_ : va_S (Aw G) s.heap H locs) (ls : Array Slot) (_ : lv_has ls 2 []) (h : f1_at_b22 S0  = some (rr)), WI p l e (headSpec wsX1_at rX1_at).room s m args below meth cd G rr S0 M0 H locs (F0 m 22 ls []) := by
    intro H locs hW hS ls hl h
    unfold f1_at_b22 at h
    refine lv_iconst (v := 0) hx hb dX1_at_22 (by decide) ?_
    exact B23 _ _ hW hS ls 0 (lv_sub hl [] rfl) h
  unfold f1_at at h
  refine lv_iload_n hx hb dX1_at_0 rfl (lv_at hl 1 rfl) ?_
  refine lv_if_lt (tgt := 22) hx hb dX1_at_1 (by decide) (fun c_1 => ?_) (fun c_1 => ?_)
  · have h := ite_t c_1 h
    exact B22 _ _ hW hS ls (lv_sub hl [] rfl) h
  · have h := ite_f c_1 h
    refine lv_iload_n hx hb dX1_at_4 rfl (lv_at hl 1 rfl) ?_
    refine lv_aload_n hx hb dX1_at_5 rfl (lv_at hl 0 rfl) ?_
    refine va_get (D := G.1) (ci := 1) (v := .ref (gad G 158)) (C := RX1) (T := TX1) (N := 2) hx hb hts hiX1 hown hK.1 hW.1 157 lkX rfl 0 (by decide) (hts _ (List.mem_of_getElem? (i := 1) rfl)) (fun _ h9 => h9) rfl dX1_at_6 ?_
    refine va_alen hx hb hK.1 hW.1 158 1 lkXa rfl rfl dX1_at_9 ?_
    refine lv_icmp_ge (tgt := 22) hx hb dX1_at_10 (by decide) (fun c_2 => ?_) (fun c_2 => ?_)
    · have h := ite_t c_2 h
      exact B22 _ _ hW hS ls (lv_sub hl [] rfl) h
    · have h := ite_f c_2 h
      refine lv_aload_n hx hb dX1_at_13 rfl (lv_at hl 0 rfl) ?_
      refine va_get (D := G.1) (ci := 1) (v := .ref (gad G 158)) (C := RX1) (T := TX1) (N := 2) hx hb hts hiX1 hown hK.1 hW.1 157 lkX rfl 0 (by decide) (hts _ (List.mem_of_getElem? (i := 1) rfl)) (fun _ h9 => h9) rfl dX1_at_14 ?_
      refine lv_iload_n hx hb dX1_at_17 rfl (lv_at hl 1 rfl) ?_
      obtain ⟨x_3, nx_3, ex_3, h⟩ := arr_e h
      refine va_cald hx hb hK.1 hW.1 158 1 lkXa rfl nx_3 dX1_at_18 ?_
      refine lv_ni ex_3 ?_
      refine lv_goto (tgt := 23) hx hb dX1_at_19 (by decide) ?_
      exact B23 _ _ hW hS ls x_3 (lv_sub hl [] rfl) h
abbrev rX1_isDigit : Room := { frames := 0, cells := 0, slots := 0, locals := 0 }
set_option maxRecDepth 100000 in
set_option maxHeartbeats 8000000 in
theorem tX1_isDigit (l : Launch) (G : WG) (S0 M0 : St) (p0 : Int32) (rr : Int32) (h : f1_isDigit p0 = some (rr)) : CtI l yX1_isDigit wsX1_isDigit rX1_isDigit G [.int p0] S0 M0 rr S0 M0 := by
  refine Met.ofW (cc := cX1_isDigit) (maxL := 1) (ret := (some .boolean)) (by decide) rfl ?_
  intro p e s m args below meth cd s₁ B hml hv
  obtain ⟨hargs, hK, hW⟩ := hv
  have hx := B.exec
  have hb := B.bytes
  have hr := B.returns
  have hts := atoms_spec (ws := wsX1_isDigit) B.pre
  have hown : s.vm.findClass RX1 = some m.cls := findClass_of_methodNamed B.named
  have hlocks := B.notSynchronized
  have hA : ∀ q, Aw G q → Aw G q := fun _ h => h
  have hS : va_S (Aw G) s.heap s.heap [] := va_S.rf
  have he0 : entryFrame m args 1 = F0 m 0 ((lg_sl ([.int p0]) ++ List.replicate (1 - (lg_sl ([.int p0])).length) Slot.unset).toArray) [] := by rw [hargs]; exact lg_entry_eq _ _ _
  have hl := lv_entry ([.int p0]) (n := 1) (Nat.le_of_ble_eq_true rfl)
  rw [he0]
  generalize (lg_sl ([.int p0]) ++ List.replicate (1 - (lg_sl ([.int p0])).length) Slot.unset).toArray = ls at hl ⊢
  have hl : lv_has ls 1 [(0, .int p0)] := hl
  have B17 : ∀ (H : Heap) (locs : List Loc) (_ : WD G S0 M0 H) (_ : va_S (Aw G) s.heap H locs) (ls : Array Slot) (k0 : Int32) (_ : lv_has ls 1 []) (h : f1_isDigit_b17  k0 = some (rr)), WI p l e (headSpec wsX1_isDigit rX1_isDigit).room s m args below meth cd G rr S0 M0 H locs (F0 m 17 ls [.int k0]) := by
    intro H locs hW hS ls k0 hl h
    unfold f1_isDigit_b17 at h
    obtain ⟨z_1, h⟩ := isz_e h
    obtain rfl := Option.some.inj h
    exact W.zret (ty := .boolean) hx hb hr (nz_1 z_1) (fun t ht hw => ⟨⟨_, (), rfl, rfl, hW.ret ht⟩, hS.F ht⟩) hS.2.2 dX1_isDigit_17
  have B16 : ∀ (H : Heap) (locs : List Loc) (_ : WD G S0 M0 H) (_ : va_S (Aw G) s.heap H locs) (ls : Array Slot) (_ : lv_has ls 1 []) (h : f1_isDigit_b16   = some (rr)), WI p l e (headSpec wsX1_isDigit rX1_isDigit).room s m args below meth cd G rr S0 M0 H locs (F0 m 16 ls []) := by
    intro H locs hW hS ls hl h
    unfold f1_isDigit_b16 at h
    refine lv_iconst (v := 0) hx hb dX1_isDigit_16 (by decide) ?_
    exact B17 _ _ hW hS ls 0 (lv_sub hl [] rfl) h
  unfold f1_isDigit at h
  refine lv_iload_n hx hb dX1_isDigit_0 rfl (lv_at hl 0 rfl) ?_
  refine lv_bipush (v := 48) hx hb dX1_isDigit_1 (by decide) ?_
  refine lv_icmp_lt (tgt := 16) hx hb dX1_isDigit_3 (by decide) (fun c_1 => ?_) (fun c_1 => ?_)
  · have h := ite_t c_1 h
    exact B16 _ _ hW hS ls (lv_sub hl [] rfl) h
  · have h := ite_f c_1 h
    refine lv_iload_n hx hb dX1_isDigit_6 rfl (lv_at hl 0 rfl) ?_
    refine lv_bipush (v := 57) hx hb dX1_isDigit_7 (by decide) ?_
    refine lv_icmp_gt (tgt := 16) hx hb dX1_isDigit_9 (by decide) (fun c_2 => ?_) (fun c_2 => ?_)
    · have h := ite_t c_2 h
      exact B16 _ _ hW hS ls (lv_sub hl [] rfl) h
    · have h := ite_f c_2 h
      refine lv_iconst (v := 1) hx hb dX1_isDigit_12 (by decide) ?_
      refine lv_goto (tgt := 17) hx hb dX1_isDigit_13 (by decide) ?_
      exact B17 _ _ hW hS ls 1 (lv_sub hl [] rfl) h
abbrev rX1_extended : Room := { frames := 0, cells := 0, slots := 0, locals := 0 }
set_option maxRecDepth 100000 in
set_option maxHeartbeats 8000000 in
theorem tX1_extended (l : Launch) (G : WG) (S0 M0 : St) (p0 : Int32) (p1 : Int32) (rr : Int32) (h : f1_extended p0 p1 = some (rr)) : CtI l yX1_extended wsX1_extended rX1_extended G [.int p0, .int p1] S0 M0 rr S0 M0 := by
  refine Met.ofW (cc := cX1_extended) (maxL := 3) (ret := (some .int)) (by decide) rfl ?_
  intro p e s m args below meth cd s₁ B hml hv
  obtain ⟨hargs, hK, hW⟩ := hv
  have hx := B.exec
  have hb := B.bytes
  have hr := B.returns
  have hts := atoms_spec (ws := wsX1_extended) B.pre
  have hown : s.vm.findClass RX1 = some m.cls := findClass_of_methodNamed B.named
  have hlocks := B.notSynchronized
  have hA : ∀ q, Aw G q → Aw G q := fun _ h => h
  have hS : va_S (Aw G) s.heap s.heap [] := va_S.rf
  have he0 : entryFrame m args 3 = F0 m 0 ((lg_sl ([.int p0, .int p1]) ++ List.replicate (3 - (lg_sl ([.int p0, .int p1])).length) Slot.unset).toArray) [] := by rw [hargs]; exact lg_entry_eq _ _ _
  have hl := lv_entry ([.int p0, .int p1]) (n := 3) (Nat.le_of_ble_eq_true rfl)
  rw [he0]
  generalize (lg_sl ([.int p0, .int p1]) ++ List.replicate (3 - (lg_sl ([.int p0, .int p1])).length) Slot.unset).toArray = ls at hl ⊢
  have hl : lv_has ls 3 [(0, .int p0), (1, .int p1)] := hl
  have B29 : ∀ (H : Heap) (locs : List Loc) (_ : WD G S0 M0 H) (_ : va_S (Aw G) s.heap H locs) (ls : Array Slot) (k0 : Int32) (_ : lv_has ls 3 []) (h : f1_extended_b29  k0 = some (rr)), WI p l e (headSpec wsX1_extended rX1_extended).room s m args below meth cd G rr S0 M0 H locs (F0 m 29 ls [.int k0]) := by
    intro H locs hW hS ls k0 hl h
    unfold f1_extended_b29 at h
    obtain rfl := Option.some.inj h
    exact W.iret hx hb hr (fun t ht hw => ⟨⟨_, (), rfl, rfl, hW.ret ht⟩, hS.F ht⟩) hS.2.2 dX1_extended_29
  have B24 : ∀ (H : Heap) (locs : List Loc) (_ : WD G S0 M0 H) (_ : va_S (Aw G) s.heap H locs) (ls : Array Slot) (_ : lv_has ls 3 []) (h : f1_extended_b24   = some (rr)), WI p l e (headSpec wsX1_extended rX1_extended).room s m args below meth cd G rr S0 M0 H locs (F0 m 24 ls []) := by
    intro H locs hW hS ls hl h
    unfold f1_extended_b24 at h
    refine lv_iconst (v := (-1)) hx hb dX1_extended_24 (by decide) ?_
    refine lv_goto (tgt := 29) hx hb dX1_extended_25 (by decide) ?_
    exact B29 _ _ hW hS ls ((-1)) (lv_sub hl [] rfl) h
  unfold f1_extended at h
  refine lv_iload_n hx hb dX1_extended_0 rfl (lv_at hl 0 rfl) ?_
  refine lv_iconst (v := (-1)) hx hb dX1_extended_1 (by decide) ?_
  refine lv_icmp_ne (tgt := 7) hx hb dX1_extended_2 (by decide) (fun c_1 => ?_) (fun c_1 => ?_)
  · have h := ite_f c_1 h
    refine lv_iload_n hx hb dX1_extended_7 rfl (lv_at hl 0 rfl) ?_
    refine lv_bipush (v := 10) hx hb dX1_extended_8 (by decide) ?_
    refine lv_imul hx hb dX1_extended_10 ?_
    refine lv_iload_n hx hb dX1_extended_11 rfl (lv_at hl 1 rfl) ?_
    refine lv_iadd hx hb dX1_extended_12 ?_
    obtain ⟨x_2, ex_2, h⟩ := nam_e h
    refine lv_ni ex_2 ?_
    refine lv_istore_n (lv' := [(2, .int x_2), (0, .int p0), (1, .int p1)]) hx hb dX1_extended_13 rfl hl (by decide) rfl (fun ls hl => ?_)
    refine lv_iload_n hx hb dX1_extended_14 rfl (lv_at hl 1 rfl) ?_
    refine lv_if_eq (tgt := 24) hx hb dX1_extended_15 (by decide) (fun c_3 => ?_) (fun c_3 => ?_)
    · have h := ite_t c_3 h
      exact B24 _ _ hW hS ls (lv_sub hl [] rfl) h
    · have h := ite_f c_3 h
      refine lv_iload_n hx hb dX1_extended_18 rfl (lv_at hl 0 rfl) ?_
      refine lv_bipush (v := 64) hx hb dX1_extended_19 (by decide) ?_
      refine lv_icmp_lt (tgt := 28) hx hb dX1_extended_21 (by decide) (fun c_4 => ?_) (fun c_4 => ?_)
      · have h := ite_t c_4 h
        refine lv_iload_n hx hb dX1_extended_28 rfl (lv_at hl 0 rfl) ?_
        exact B29 _ _ hW hS ls x_2 (lv_sub hl [] rfl) h
      · have h := ite_f c_4 h
        exact B24 _ _ hW hS ls (lv_sub hl [] rfl) h
  · have h := ite_t c_1 h
    refine lv_iload_n hx hb dX1_extended_5 rfl (lv_at hl 1 rfl) ?_
    obtain rfl := Option.some.inj h
    exact W.iret hx hb hr (fun t ht hw => ⟨⟨_, (), rfl, rfl, hW.ret ht⟩, hS.F ht⟩) hS.2.2 dX1_extended_6
abbrev rX1_fault : Room := { frames := 1, cells := 0, slots := 0, locals := 22 }
set_option maxRecDepth 100000 in
set_option maxHeartbeats 8000000 in
theorem tX1_fault (l : Launch) (G : WG) (S0 M0 : St) (rr : Int32) (h : f1_fault S0 = some (rr)) : CtI l yX1_fault wsX1_fault rX1_fault G [.ref (gad G 157)] S0 M0 rr S0 M0 := by
  refine Met.ofW (cc := cX1_fault) (maxL := 5) (ret := (some .int)) (by decide) rfl ?_
  intro p e s m args below meth cd s₁ B hml hv
  obtain ⟨hargs, hK, hW⟩ := hv
  have hx := B.exec
  have hb := B.bytes
  have hr := B.returns
  have hts := atoms_spec (ws := wsX1_fault) B.pre
  have hown : s.vm.findClass RX1 = some m.cls := findClass_of_methodNamed B.named
  have hlocks := B.notSynchronized
  have hA : ∀ q, Aw G q → Aw G q := fun _ h => h
  have hS : va_S (Aw G) s.heap s.heap [] := va_S.rf
  have he0 : entryFrame m args 5 = F0 m 0 ((lg_sl ([.ref (gad G 157)]) ++ List.replicate (5 - (lg_sl ([.ref (gad G 157)])).length) Slot.unset).toArray) [] := by rw [hargs]; exact lg_entry_eq _ _ _
  have hl := lv_entry ([.ref (gad G 157)]) (n := 5) (Nat.le_of_ble_eq_true rfl)
  rw [he0]
  generalize (lg_sl ([.ref (gad G 157)]) ++ List.replicate (5 - (lg_sl ([.ref (gad G 157)])).length) Slot.unset).toArray = ls at hl ⊢
  have hl : lv_has ls 5 [(0, .ref (gad G 157))] := hl
  have hiX1 : ∀ w ∈ u_ws RX1 TX1 2, w ∈ wsX1_fault := by decide +kernel
  have B82 : ∀ (H : Heap) (locs : List Loc) (_ : WD G S0 M0 H) (_ : va_S (Aw G) s.heap H locs) (ls : Array Slot) (l3 : Int32) (_ : lv_has ls 5 [(3, .int l3)]) (h : f1_fault_b82 S0 l3 = some (rr)), WI p l e (headSpec wsX1_fault rX1_fault).room s m args below meth cd G rr S0 M0 H locs (F0 m 82 ls []) := by
    intro H locs hW hS ls l3 hl h
    unfold f1_fault_b82 at h
    refine lv_iload_n hx hb dX1_fault_82 rfl (lv_at hl 0 rfl) ?_
    obtain rfl := Option.some.inj h
    exact W.iret hx hb hr (fun t ht hw => ⟨⟨_, (), rfl, rfl, hW.ret ht⟩, hS.F ht⟩) hS.2.2 dX1_fault_83
  have B107 : ∀ (H : Heap) (locs : List Loc) (_ : WD G S0 M0 H) (_ : va_S (Aw G) s.heap H locs) (ls : Array Slot) (k0 : Int32) (_ : lv_has ls 5 []) (h : f1_fault_b107 S0 k0 = some (rr)), WI p l e (headSpec wsX1_fault rX1_fault).room s m args below meth cd G rr S0 M0 H locs (F0 m 107 ls [.int k0]) := by
    intro H locs hW hS ls k0 hl h
    unfold f1_fault_b107 at h
    obtain rfl := Option.some.inj h
    exact W.iret hx hb hr (fun t ht hw => ⟨⟨_, (), rfl, rfl, hW.ret ht⟩, hS.F ht⟩) hS.2.2 dX1_fault_107
  have B103 : ∀ (H : Heap) (locs : List Loc) (_ : WD G S0 M0 H) (_ : va_S (Aw G) s.heap H locs) (ls : Array Slot) (_ : lv_has ls 5 [(0, .ref (gad G 157))]) (h : f1_fault_b103 S0  = some (rr)), WI p l e (headSpec wsX1_fault rX1_fault).room s m args below meth cd G rr S0 M0 H locs (F0 m 103 ls []) := by
    intro H locs hW hS ls hl h
    unfold f1_fault_b103 at h
    refine lv_aload_n hx hb dX1_fault_103 rfl (lv_at hl 0 rfl) ?_
    refine va_get (D := G.1) (ci := 1) (v := .int (S0.1 45)) (C := RX1) (T := TX1) (N := 2) hx hb hts hiX1 hown hK.1 hW.1 157 lkX rfl 1 (by decide) (hts _ (List.mem_of_getElem? (i := 1) rfl)) (fun _ h9 => h9) rfl dX1_fault_104 ?_
    exact B107 _ _ hW hS ls (S0.1 45) (lv_sub hl [] rfl) h
  have B6 : ∀ (n : Nat), ∀ (H : Heap) (locs : List Loc) (_ : WD G S0 M0 H) (_ : va_S (Aw G) s.heap H locs) (ls : Array Slot) (l1 : Int32) (l2 : Int32) (l3 : Int32) (_ : lv_has ls 5 [(0, .ref (gad G 157)), (1, .int l1), (2, .int l2), (3, .int l3)]) (h : f1_fault_b6 S0 n l1 l2 l3 = some (rr)), WI p l e (headSpec wsX1_fault rX1_fault).room s m args below meth cd G rr S0 M0 H locs (F0 m 6 ls []) := by
    intro n
    induction n with
    | zero => intro H locs hW hS ls l1 l2 l3 hl h; cases (show (none : Option (Int32)) = some _ from h)
    | succ n ih =>
      have B84 : ∀ (H : Heap) (locs : List Loc) (_ : WD G S0 M0 H) (_ : va_S (Aw G) s.heap H locs) (ls : Array Slot) (l1 : Int32) (l2 : Int32) (l3 : Int32) (_ : lv_has ls 5 [(0, .ref (gad G 157)), (1, .int l1), (2, .int l2), (3, .int l3)]) (h : f1_fault_b84 S0 (f1_fault_b6 S0 n) l1 l2 l3 = some (rr)), WI p l e (headSpec wsX1_fault rX1_fault).room s m args below meth cd G rr S0 M0 H locs (F0 m 84 ls []) := by
        intro H locs hW hS ls l1 l2 l3 hl h
        unfold f1_fault_b84 at h
        refine lv_iinc (v := (l3 + 1)) (lv' := [(3, .int ((l3 + 1))), (0, .ref (gad G 157)), (1, .int l1), (2, .int l2)]) hx hb dX1_fault_84 hl (k := 3) rfl rfl (by decide) rfl (fun ls hl => ?_)
        refine lv_goto (tgt := 6) hx hb dX1_fault_87 (by decide) ?_
        exact ih _ _ hW hS ls l1 l2 ((l3 + 1)) (lv_sub hl [1, 2, 3, 0] rfl) h
      have B78 : ∀ (H : Heap) (locs : List Loc) (_ : WD G S0 M0 H) (_ : va_S (Aw G) s.heap H locs) (ls : Array Slot) (l1 : Int32) (l3 : Int32) (k0 : Int32) (_ : lv_has ls 5 [(0, .ref (gad G 157)), (1, .int l1), (3, .int l3)]) (h : f1_fault_b78 S0 (f1_fault_b6 S0 n) l1 l3 k0 = some (rr)), WI p l e (headSpec wsX1_fault rX1_fault).room s m args below meth cd G rr S0 M0 H locs (F0 m 78 ls [.int k0]) := by
        intro H locs hW hS ls l1 l3 k0 hl h
        unfold f1_fault_b78 at h
        refine lv_istore_n (lv' := [(2, .int k0), (0, .ref (gad G 157)), (1, .int l1), (3, .int l3)]) hx hb dX1_fault_78 rfl hl (by decide) rfl (fun ls hl => ?_)
        refine lv_goto (tgt := 84) hx hb dX1_fault_79 (by decide) ?_
        exact B84 _ _ hW hS ls l1 k0 l3 (lv_sub hl [1, 2, 0, 3] rfl) h
      have B64 : ∀ (H : Heap) (locs : List Loc) (_ : WD G S0 M0 H) (_ : va_S (Aw G) s.heap H locs) (ls : Array Slot) (l2 : Int32) (l3 : Int32) (k0 : Int32) (k1 : Int32) (_ : lv_has ls 5 [(0, .ref (gad G 157)), (2, .int l2), (3, .int l3)]) (h : f1_fault_b64 S0 (f1_fault_b6 S0 n) l2 l3 k0 k1 = some (rr)), WI p l e (headSpec wsX1_fault rX1_fault).room s m args below meth cd G rr S0 M0 H locs (F0 m 64 ls [.int k0, .int k1]) := by
        intro H locs hW hS ls l2 l3 k0 k1 hl h
        unfold f1_fault_b64 at h
        refine lv_icmp_ne (tgt := 82) hx hb dX1_fault_64 (by decide) (fun c_1 => ?_) (fun c_1 => ?_)
        · have h := ite_f c_1 h
          exact B82 _ _ hW hS ls l3 (lv_sub hl [2] rfl) h
        · have h := ite_t c_1 h
          refine lv_iconst (v := (-1)) hx hb dX1_fault_67 (by decide) ?_
          refine lv_istore_n (lv' := [(1, .int ((-1))), (0, .ref (gad G 157)), (2, .int l2), (3, .int l3)]) hx hb dX1_fault_68 rfl hl (by decide) rfl (fun ls hl => ?_)
          refine lv_iload_n hx hb dX1_fault_69 rfl (lv_at hl 2 rfl) ?_
          refine lv_if_ne (tgt := 77) hx hb dX1_fault_70 (by decide) (fun c_2 => ?_) (fun c_2 => ?_)
          · have h := ite_f c_2 h
            refine lv_iconst (v := 0) hx hb dX1_fault_77 (by decide) ?_
            exact B78 _ _ hW hS ls ((-1)) l3 0 (lv_sub hl [1, 0, 3] rfl) h
          · have h := ite_t c_2 h
            refine lv_iconst (v := 1) hx hb dX1_fault_73 (by decide) ?_
            refine lv_goto (tgt := 78) hx hb dX1_fault_74 (by decide) ?_
            exact B78 _ _ hW hS ls ((-1)) l3 1 (lv_sub hl [1, 0, 3] rfl) h
      intro H locs hW hS ls l1 l2 l3 hl h
      rw [f1_fault_b6] at h
      refine lv_iload_n hx hb dX1_fault_6 rfl (lv_at hl 3 rfl) ?_
      refine lv_aload_n hx hb dX1_fault_7 rfl (lv_at hl 0 rfl) ?_
      refine va_get (D := G.1) (ci := 1) (v := .int (S0.1 45)) (C := RX1) (T := TX1) (N := 2) hx hb hts hiX1 hown hK.1 hW.1 157 lkX rfl 1 (by decide) (hts _ (List.mem_of_getElem? (i := 1) rfl)) (fun _ h9 => h9) rfl dX1_fault_8 ?_
      refine lv_icmp_ge (tgt := 90) hx hb dX1_fault_11 (by decide) (fun c_1 => ?_) (fun c_1 => ?_)
      · have h := ite_t c_1 h
        refine lv_iload_n hx hb dX1_fault_90 rfl (lv_at hl 2 rfl) ?_
        refine lv_if_eq (tgt := 103) hx hb dX1_fault_91 (by decide) (fun c_2 => ?_) (fun c_2 => ?_)
        · have h := ite_t c_2 h
          exact B103 _ _ hW hS ls (lv_sub hl [0] rfl) h
        · have h := ite_f c_2 h
          refine lv_iload_n hx hb dX1_fault_94 rfl (lv_at hl 1 rfl) ?_
          refine lv_iconst (v := (-1)) hx hb dX1_fault_95 (by decide) ?_
          refine lv_icmp_eq (tgt := 103) hx hb dX1_fault_96 (by decide) (fun c_3 => ?_) (fun c_3 => ?_)
          · have h := ite_t c_3 h
            exact B103 _ _ hW hS ls (lv_sub hl [0] rfl) h
          · have h := ite_f c_3 h
            refine lv_iconst (v := (-1)) hx hb dX1_fault_99 (by decide) ?_
            refine lv_goto (tgt := 107) hx hb dX1_fault_100 (by decide) ?_
            exact B107 _ _ hW hS ls ((-1)) (lv_sub hl [] rfl) h
      · have h := ite_f c_1 h
        refine lv_aload_n hx hb dX1_fault_14 rfl (lv_at hl 0 rfl) ?_
        refine lv_iload_n hx hb dX1_fault_15 rfl (lv_at hl 3 rfl) ?_
        obtain ⟨r_4, e_5, h⟩ := bnd_e h
        refine kV_I (As := [.int l3]) (rest := []) ⟨hx, hb, hml, hown, hts⟩ (tX1_at l G S0 M0 l3 r_4 e_5) (cwV 1 hts gX1_fault_X1_at rfl rfl rfl ⟨rfl, hdX1_at⟩ ⟨Nat.le_of_ble_eq_true rfl, Nat.le_of_ble_eq_true rfl⟩) (va_recv hK.1 hW.1 (ci := 1) (q0 := 157) rfl lkX) hK hW hS hA rfl hl.1 rfl (Nat.le_of_ble_eq_true rfl) dX1_fault_16 ⟨Nat.zero_le _, Nat.zero_le _⟩ (fun H locs hW hS => ?_)
        refine lv_istore (lv' := [(4, .int r_4), (0, .ref (gad G 157)), (1, .int l1), (2, .int l2), (3, .int l3)]) hx hb dX1_fault_19 hl (by decide) rfl (fun ls hl => ?_)
        refine lv_iload hx hb dX1_fault_21 (lv_at hl 0 rfl) ?_
        obtain ⟨r_6, e_7, h⟩ := bnd_e h
        refine kS_I (As := [.int r_4]) (rest := []) ⟨hx, hb, hml, hown, hts⟩ (tX1_isDigit l G S0 M0 r_4 r_6 e_7) (va_cwS 1 hts gX1_fault_X1_isDigit rfl rfl rfl hdX1_isDigit ⟨Nat.le_of_ble_eq_true rfl, Nat.le_of_ble_eq_true rfl⟩) hK hW hS hA rfl hl.1 rfl (Nat.le_of_ble_eq_true rfl) dX1_fault_23 ⟨Nat.zero_le _, Nat.zero_le _⟩ (fun H locs hW hS => ?_)
        refine lv_if_eq (tgt := 46) hx hb dX1_fault_26 (by decide) (fun c_8 => ?_) (fun c_8 => ?_)
        · have h := ite_t c_8 h
          refine lv_iload_n hx hb dX1_fault_46 rfl (lv_at hl 2 rfl) ?_
          refine lv_iconst (v := (-1)) hx hb dX1_fault_47 (by decide) ?_
          refine lv_icmp_eq (tgt := 82) hx hb dX1_fault_48 (by decide) (fun c_9 => ?_) (fun c_9 => ?_)
          · have h := ite_t c_9 h
            exact B82 _ _ hW hS ls l3 (lv_sub hl [4] rfl) h
          · have h := ite_f c_9 h
            refine lv_iload hx hb dX1_fault_51 (lv_at hl 0 rfl) ?_
            refine lv_iload_n hx hb dX1_fault_53 rfl (lv_at hl 3 rfl) ?_
            refine lv_if_eq (tgt := 62) hx hb dX1_fault_54 (by decide) (fun c_10 => ?_) (fun c_10 => ?_)
            · have h := ite_t c_10 h
              refine lv_bipush (v := 44) hx hb dX1_fault_62 (by decide) ?_
              exact B64 _ _ hW hS ls l2 l3 44 r_4 (lv_sub hl [1, 3, 4] rfl) h
            · have h := ite_f c_10 h
              refine lv_bipush (v := 59) hx hb dX1_fault_57 (by decide) ?_
              refine lv_goto (tgt := 64) hx hb dX1_fault_59 (by decide) ?_
              exact B64 _ _ hW hS ls l2 l3 59 r_4 (lv_sub hl [1, 3, 4] rfl) h
        · have h := ite_f c_8 h
          refine lv_iload_n hx hb dX1_fault_29 rfl (lv_at hl 2 rfl) ?_
          refine lv_iload hx hb dX1_fault_30 (lv_at hl 0 rfl) ?_
          refine lv_bipush (v := 48) hx hb dX1_fault_32 (by decide) ?_
          refine lv_isub hx hb dX1_fault_34 ?_
          obtain ⟨r_11, e_12, h⟩ := bnd_e h
          refine kS_I (As := [.int l1, .int ((r_4 - 48))]) (rest := []) ⟨hx, hb, hml, hown, hts⟩ (tX1_extended l G S0 M0 l1 ((r_4 - 48)) r_11 e_12) (va_cwS 2 hts gX1_fault_X1_extended rfl rfl rfl hdX1_extended ⟨Nat.le_of_ble_eq_true rfl, Nat.le_of_ble_eq_true rfl⟩) hK hW hS hA rfl hl.1 rfl (Nat.le_of_ble_eq_true rfl) dX1_fault_35 ⟨Nat.zero_le _, Nat.zero_le _⟩ (fun H locs hW hS => ?_)
          refine lv_istore_n (lv' := [(1, .int r_11), (4, .int r_4), (0, .ref (gad G 157)), (2, .int l2), (3, .int l3)]) hx hb dX1_fault_38 rfl hl (by decide) rfl (fun ls hl => ?_)
          refine lv_iload_n hx hb dX1_fault_39 rfl (lv_at hl 0 rfl) ?_
          refine lv_iconst (v := (-1)) hx hb dX1_fault_40 (by decide) ?_
          refine lv_icmp_ne (tgt := 84) hx hb dX1_fault_41 (by decide) (fun c_13 => ?_) (fun c_13 => ?_)
          · have h := ite_f c_13 h
            exact B84 _ _ hW hS ls r_11 l2 l3 (lv_sub hl [2, 0, 3, 4] rfl) h
          · have h := ite_t c_13 h
            refine lv_iload_n hx hb dX1_fault_44 rfl (lv_at hl 4 rfl) ?_
            obtain rfl := Option.some.inj h
            exact W.iret hx hb hr (fun t ht hw => ⟨⟨_, (), rfl, rfl, hW.ret ht⟩, hS.F ht⟩) hS.2.2 dX1_fault_45
  unfold f1_fault at h
  refine lv_iconst (v := (-1)) hx hb dX1_fault_0 (by decide) ?_
  refine lv_istore_n (lv' := [(1, .int ((-1))), (0, .ref (gad G 157))]) hx hb dX1_fault_1 rfl hl (by decide) rfl (fun ls hl => ?_)
  refine lv_iconst (v := 0) hx hb dX1_fault_2 (by decide) ?_
  refine lv_istore_n (lv' := [(2, .int 0), (1, .int ((-1))), (0, .ref (gad G 157))]) hx hb dX1_fault_3 rfl hl (by decide) rfl (fun ls hl => ?_)
  refine lv_iconst (v := 0) hx hb dX1_fault_4 (by decide) ?_
  refine lv_istore_n (lv' := [(3, .int 0), (2, .int 0), (1, .int ((-1))), (0, .ref (gad G 157))]) hx hb dX1_fault_5 rfl hl (by decide) rfl (fun ls hl => ?_)
  exact B6 fuelN _ _ hW hS ls ((-1)) 0 0 (lv_sub hl [3, 2, 1, 0] rfl) h
abbrev rX1_campers : Room := { frames := 1, cells := 0, slots := 0, locals := 21 }
set_option maxRecDepth 100000 in
set_option maxHeartbeats 8000000 in
theorem tX1_campers (l : Launch) (G : WG) (S0 M0 : St) (rr : Int32) (h : f1_campers S0 = some (rr)) : CtI l yX1_campers wsX1_campers rX1_campers G [.ref (gad G 157)] S0 M0 rr S0 M0 := by
  refine Met.ofW (cc := cX1_campers) (maxL := 3) (ret := (some .int)) (by decide) rfl ?_
  intro p e s m args below meth cd s₁ B hml hv
  obtain ⟨hargs, hK, hW⟩ := hv
  have hx := B.exec
  have hb := B.bytes
  have hr := B.returns
  have hts := atoms_spec (ws := wsX1_campers) B.pre
  have hown : s.vm.findClass RX1 = some m.cls := findClass_of_methodNamed B.named
  have hlocks := B.notSynchronized
  have hA : ∀ q, Aw G q → Aw G q := fun _ h => h
  have hS : va_S (Aw G) s.heap s.heap [] := va_S.rf
  have he0 : entryFrame m args 3 = F0 m 0 ((lg_sl ([.ref (gad G 157)]) ++ List.replicate (3 - (lg_sl ([.ref (gad G 157)])).length) Slot.unset).toArray) [] := by rw [hargs]; exact lg_entry_eq _ _ _
  have hl := lv_entry ([.ref (gad G 157)]) (n := 3) (Nat.le_of_ble_eq_true rfl)
  rw [he0]
  generalize (lg_sl ([.ref (gad G 157)]) ++ List.replicate (3 - (lg_sl ([.ref (gad G 157)])).length) Slot.unset).toArray = ls at hl ⊢
  have hl : lv_has ls 3 [(0, .ref (gad G 157))] := hl
  have hiX1 : ∀ w ∈ u_ws RX1 TX1 2, w ∈ wsX1_campers := by decide +kernel
  have B4 : ∀ (n : Nat), ∀ (H : Heap) (locs : List Loc) (_ : WD G S0 M0 H) (_ : va_S (Aw G) s.heap H locs) (ls : Array Slot) (l1 : Int32) (l2 : Int32) (_ : lv_has ls 3 [(0, .ref (gad G 157)), (1, .int l1), (2, .int l2)]) (h : f1_campers_b4 S0 n l1 l2 = some (rr)), WI p l e (headSpec wsX1_campers rX1_campers).room s m args below meth cd G rr S0 M0 H locs (F0 m 4 ls []) := by
    intro n
    induction n with
    | zero => intro H locs hW hS ls l1 l2 hl h; cases (show (none : Option (Int32)) = some _ from h)
    | succ n ih =>
      have B25 : ∀ (H : Heap) (locs : List Loc) (_ : WD G S0 M0 H) (_ : va_S (Aw G) s.heap H locs) (ls : Array Slot) (l1 : Int32) (l2 : Int32) (_ : lv_has ls 3 [(0, .ref (gad G 157)), (1, .int l1), (2, .int l2)]) (h : f1_campers_b25 S0 (f1_campers_b4 S0 n) l1 l2 = some (rr)), WI p l e (headSpec wsX1_campers rX1_campers).room s m args below meth cd G rr S0 M0 H locs (F0 m 25 ls []) := by
        intro H locs hW hS ls l1 l2 hl h
        unfold f1_campers_b25 at h
        refine lv_iinc (v := (l2 + 1)) (lv' := [(2, .int ((l2 + 1))), (0, .ref (gad G 157)), (1, .int l1)]) hx hb dX1_campers_25 hl (k := 2) rfl rfl (by decide) rfl (fun ls hl => ?_)
        refine lv_goto (tgt := 4) hx hb dX1_campers_28 (by decide) ?_
        exact ih _ _ hW hS ls l1 ((l2 + 1)) (lv_sub hl [1, 2, 0] rfl) h
      intro H locs hW hS ls l1 l2 hl h
      rw [f1_campers_b4] at h
      refine lv_iload_n hx hb dX1_campers_4 rfl (lv_at hl 2 rfl) ?_
      refine lv_aload_n hx hb dX1_campers_5 rfl (lv_at hl 0 rfl) ?_
      refine va_get (D := G.1) (ci := 1) (v := .int (S0.1 45)) (C := RX1) (T := TX1) (N := 2) hx hb hts hiX1 hown hK.1 hW.1 157 lkX rfl 1 (by decide) (hts _ (List.mem_of_getElem? (i := 1) rfl)) (fun _ h9 => h9) rfl dX1_campers_6 ?_
      refine lv_icmp_ge (tgt := 31) hx hb dX1_campers_9 (by decide) (fun c_1 => ?_) (fun c_1 => ?_)
      · have h := ite_t c_1 h
        refine lv_iload_n hx hb dX1_campers_31 rfl (lv_at hl 1 rfl) ?_
        obtain rfl := Option.some.inj h
        exact W.iret hx hb hr (fun t ht hw => ⟨⟨_, (), rfl, rfl, hW.ret ht⟩, hS.F ht⟩) hS.2.2 dX1_campers_32
      · have h := ite_f c_1 h
        refine lv_aload_n hx hb dX1_campers_12 rfl (lv_at hl 0 rfl) ?_
        refine lv_iload_n hx hb dX1_campers_13 rfl (lv_at hl 2 rfl) ?_
        obtain ⟨r_2, e_3, h⟩ := bnd_e h
        refine kV_I (As := [.int l2]) (rest := []) ⟨hx, hb, hml, hown, hts⟩ (tX1_at l G S0 M0 l2 r_2 e_3) (cwV 1 hts gX1_campers_X1_at rfl rfl rfl ⟨rfl, hdX1_at⟩ ⟨Nat.le_of_ble_eq_true rfl, Nat.le_of_ble_eq_true rfl⟩) (va_recv hK.1 hW.1 (ci := 1) (q0 := 157) rfl lkX) hK hW hS hA rfl hl.1 rfl (Nat.le_of_ble_eq_true rfl) dX1_campers_14 ⟨Nat.zero_le _, Nat.zero_le _⟩ (fun H locs hW hS => ?_)
        refine lv_bipush (v := 59) hx hb dX1_campers_17 (by decide) ?_
        refine lv_icmp_ne (tgt := 25) hx hb dX1_campers_19 (by decide) (fun c_4 => ?_) (fun c_4 => ?_)
        · have h := ite_f c_4 h
          exact B25 _ _ hW hS ls l1 l2 (lv_sub hl [0, 1, 2] rfl) h
        · have h := ite_t c_4 h
          refine lv_iinc (v := (l1 + 1)) (lv' := [(1, .int ((l1 + 1))), (0, .ref (gad G 157)), (2, .int l2)]) hx hb dX1_campers_22 hl (k := 1) rfl rfl (by decide) rfl (fun ls hl => ?_)
          exact B25 _ _ hW hS ls ((l1 + 1)) l2 (lv_sub hl [1, 0, 2] rfl) h
  unfold f1_campers at h
  refine lv_iconst (v := 1) hx hb dX1_campers_0 (by decide) ?_
  refine lv_istore_n (lv' := [(1, .int 1), (0, .ref (gad G 157))]) hx hb dX1_campers_1 rfl hl (by decide) rfl (fun ls hl => ?_)
  refine lv_iconst (v := 0) hx hb dX1_campers_2 (by decide) ?_
  refine lv_istore_n (lv' := [(2, .int 0), (1, .int 1), (0, .ref (gad G 157))]) hx hb dX1_campers_3 rfl hl (by decide) rfl (fun ls hl => ?_)
  exact B4 fuelN _ _ hW hS ls 1 0 (lv_sub hl [2, 1, 0] rfl) h
abbrev rX1_number : Room := { frames := 1, cells := 0, slots := 0, locals := 21 }
set_option maxRecDepth 100000 in
set_option maxHeartbeats 8000000 in
theorem tX1_number (l : Launch) (G : WG) (S0 M0 : St) (p1 : Int32) (rr : Int32) (h : f1_number S0 p1 = some (rr)) : CtI l yX1_number wsX1_number rX1_number G [.ref (gad G 157), .int p1] S0 M0 rr S0 M0 := by
  refine Met.ofW (cc := cX1_number) (maxL := 6) (ret := (some .int)) (by decide) rfl ?_
  intro p e s m args below meth cd s₁ B hml hv
  obtain ⟨hargs, hK, hW⟩ := hv
  have hx := B.exec
  have hb := B.bytes
  have hr := B.returns
  have hts := atoms_spec (ws := wsX1_number) B.pre
  have hown : s.vm.findClass RX1 = some m.cls := findClass_of_methodNamed B.named
  have hlocks := B.notSynchronized
  have hA : ∀ q, Aw G q → Aw G q := fun _ h => h
  have hS : va_S (Aw G) s.heap s.heap [] := va_S.rf
  have he0 : entryFrame m args 6 = F0 m 0 ((lg_sl ([.ref (gad G 157), .int p1]) ++ List.replicate (6 - (lg_sl ([.ref (gad G 157), .int p1])).length) Slot.unset).toArray) [] := by rw [hargs]; exact lg_entry_eq _ _ _
  have hl := lv_entry ([.ref (gad G 157), .int p1]) (n := 6) (Nat.le_of_ble_eq_true rfl)
  rw [he0]
  generalize (lg_sl ([.ref (gad G 157), .int p1]) ++ List.replicate (6 - (lg_sl ([.ref (gad G 157), .int p1])).length) Slot.unset).toArray = ls at hl ⊢
  have hl : lv_has ls 6 [(0, .ref (gad G 157)), (1, .int p1)] := hl
  have hiX1 : ∀ w ∈ u_ws RX1 TX1 2, w ∈ wsX1_number := by decide +kernel
  have B7 : ∀ (n : Nat), ∀ (H : Heap) (locs : List Loc) (_ : WD G S0 M0 H) (_ : va_S (Aw G) s.heap H locs) (ls : Array Slot) (l1 : Int32) (l2 : Int32) (l3 : Int32) (l4 : Int32) (_ : lv_has ls 6 [(0, .ref (gad G 157)), (1, .int l1), (2, .int l2), (3, .int l3), (4, .int l4)]) (h : f1_number_b7 S0 l1 n l2 l3 l4 = some (rr)), WI p l e (headSpec wsX1_number rX1_number).room s m args below meth cd G rr S0 M0 H locs (F0 m 7 ls []) := by
    intro n
    induction n with
    | zero => intro H locs hW hS ls l1 l2 l3 l4 hl h; cases (show (none : Option (Int32)) = some _ from h)
    | succ n ih =>
      have B54 : ∀ (H : Heap) (locs : List Loc) (_ : WD G S0 M0 H) (_ : va_S (Aw G) s.heap H locs) (ls : Array Slot) (l1 : Int32) (l2 : Int32) (l3 : Int32) (l4 : Int32) (_ : lv_has ls 6 [(0, .ref (gad G 157)), (1, .int l1), (2, .int l2), (3, .int l3), (4, .int l4)]) (h : f1_number_b54 S0 (f1_number_b7 S0 l1 n) l1 l2 l3 l4 = some (rr)), WI p l e (headSpec wsX1_number rX1_number).room s m args below meth cd G rr S0 M0 H locs (F0 m 54 ls []) := by
        intro H locs hW hS ls l1 l2 l3 l4 hl h
        unfold f1_number_b54 at h
        refine lv_iinc (v := (l4 + 1)) (lv' := [(4, .int ((l4 + 1))), (0, .ref (gad G 157)), (1, .int l1), (2, .int l2), (3, .int l3)]) hx hb dX1_number_54 hl (k := 4) rfl rfl (by decide) rfl (fun ls hl => ?_)
        refine lv_goto (tgt := 7) hx hb dX1_number_57 (by decide) ?_
        exact ih _ _ hW hS ls l1 l2 l3 ((l4 + 1)) (lv_sub hl [1, 2, 3, 4, 0] rfl) h
      intro H locs hW hS ls l1 l2 l3 l4 hl h
      rw [f1_number_b7] at h
      refine lv_iload hx hb dX1_number_7 (lv_at hl 4 rfl) ?_
      refine lv_aload_n hx hb dX1_number_9 rfl (lv_at hl 0 rfl) ?_
      refine va_get (D := G.1) (ci := 1) (v := .int (S0.1 45)) (C := RX1) (T := TX1) (N := 2) hx hb hts hiX1 hown hK.1 hW.1 157 lkX rfl 1 (by decide) (hts _ (List.mem_of_getElem? (i := 1) rfl)) (fun _ h9 => h9) rfl dX1_number_10 ?_
      refine lv_icmp_ge (tgt := 60) hx hb dX1_number_13 (by decide) (fun c_1 => ?_) (fun c_1 => ?_)
      · have h := ite_t c_1 h
        refine lv_iload_n hx hb dX1_number_60 rfl (lv_at hl 3 rfl) ?_
        obtain rfl := Option.some.inj h
        exact W.iret hx hb hr (fun t ht hw => ⟨⟨_, (), rfl, rfl, hW.ret ht⟩, hS.F ht⟩) hS.2.2 dX1_number_61
      · have h := ite_f c_1 h
        refine lv_aload_n hx hb dX1_number_16 rfl (lv_at hl 0 rfl) ?_
        refine lv_iload hx hb dX1_number_17 (lv_at hl 4 rfl) ?_
        obtain ⟨r_2, e_3, h⟩ := bnd_e h
        refine kV_I (As := [.int l4]) (rest := []) ⟨hx, hb, hml, hown, hts⟩ (tX1_at l G S0 M0 l4 r_2 e_3) (cwV 1 hts gX1_number_X1_at rfl rfl rfl ⟨rfl, hdX1_at⟩ ⟨Nat.le_of_ble_eq_true rfl, Nat.le_of_ble_eq_true rfl⟩) (va_recv hK.1 hW.1 (ci := 1) (q0 := 157) rfl lkX) hK hW hS hA rfl hl.1 rfl (Nat.le_of_ble_eq_true rfl) dX1_number_19 ⟨Nat.zero_le _, Nat.zero_le _⟩ (fun H locs hW hS => ?_)
        refine lv_istore (lv' := [(5, .int r_2), (0, .ref (gad G 157)), (1, .int l1), (2, .int l2), (3, .int l3), (4, .int l4)]) hx hb dX1_number_22 hl (by decide) rfl (fun ls hl => ?_)
        refine lv_iload hx hb dX1_number_24 (lv_at hl 0 rfl) ?_
        obtain ⟨r_4, e_5, h⟩ := bnd_e h
        refine kS_I (As := [.int r_2]) (rest := []) ⟨hx, hb, hml, hown, hts⟩ (tX1_isDigit l G S0 M0 r_2 r_4 e_5) (va_cwS 1 hts gX1_number_X1_isDigit rfl rfl rfl hdX1_isDigit ⟨Nat.le_of_ble_eq_true rfl, Nat.le_of_ble_eq_true rfl⟩) hK hW hS hA rfl hl.1 rfl (Nat.le_of_ble_eq_true rfl) dX1_number_26 ⟨Nat.zero_le _, Nat.zero_le _⟩ (fun H locs hW hS => ?_)
        refine lv_if_ne (tgt := 38) hx hb dX1_number_29 (by decide) (fun c_6 => ?_) (fun c_6 => ?_)
        · have h := ite_f c_6 h
          refine lv_iload_n hx hb dX1_number_38 rfl (lv_at hl 3 rfl) ?_
          refine lv_iload_n hx hb dX1_number_39 rfl (lv_at hl 2 rfl) ?_
          refine lv_icmp_ne (tgt := 54) hx hb dX1_number_40 (by decide) (fun c_7 => ?_) (fun c_7 => ?_)
          · have h := ite_f c_7 h
            exact B54 _ _ hW hS ls l1 l2 l3 l4 (lv_sub hl [1, 2, 3, 4, 5] rfl) h
          · have h := ite_t c_7 h
            refine lv_iload_n hx hb dX1_number_43 rfl (lv_at hl 4 rfl) ?_
            refine lv_bipush (v := 10) hx hb dX1_number_44 (by decide) ?_
            refine lv_imul hx hb dX1_number_46 ?_
            refine lv_iload hx hb dX1_number_47 (lv_at hl 0 rfl) ?_
            refine lv_bipush (v := 48) hx hb dX1_number_49 (by decide) ?_
            refine lv_isub hx hb dX1_number_51 ?_
            refine lv_iadd hx hb dX1_number_52 ?_
            obtain ⟨x_8, ex_8, h⟩ := nam_e h
            refine lv_ni ex_8 ?_
            refine lv_istore_n (lv' := [(3, .int x_8), (5, .int r_2), (0, .ref (gad G 157)), (1, .int l1), (2, .int l2), (4, .int l4)]) hx hb dX1_number_53 rfl hl (by decide) rfl (fun ls hl => ?_)
            exact B54 _ _ hW hS ls l1 l2 x_8 l4 (lv_sub hl [2, 3, 4, 0, 5] rfl) h
        · have h := ite_t c_6 h
          refine lv_iinc (v := (l2 + 1)) (lv' := [(2, .int ((l2 + 1))), (5, .int r_2), (0, .ref (gad G 157)), (1, .int l1), (3, .int l3), (4, .int l4)]) hx hb dX1_number_32 hl (k := 3) rfl rfl (by decide) rfl (fun ls hl => ?_)
          refine lv_goto (tgt := 54) hx hb dX1_number_35 (by decide) ?_
          exact B54 _ _ hW hS ls l1 ((l2 + 1)) l3 l4 (lv_sub hl [2, 3, 0, 4, 5] rfl) h
  unfold f1_number at h
  refine lv_iconst (v := 0) hx hb dX1_number_0 (by decide) ?_
  refine lv_istore_n (lv' := [(2, .int 0), (0, .ref (gad G 157)), (1, .int p1)]) hx hb dX1_number_1 rfl hl (by decide) rfl (fun ls hl => ?_)
  refine lv_iconst (v := 0) hx hb dX1_number_2 (by decide) ?_
  refine lv_istore_n (lv' := [(3, .int 0), (2, .int 0), (0, .ref (gad G 157)), (1, .int p1)]) hx hb dX1_number_3 rfl hl (by decide) rfl (fun ls hl => ?_)
  refine lv_iconst (v := 0) hx hb dX1_number_4 (by decide) ?_
  refine lv_istore (lv' := [(4, .int 0), (3, .int 0), (2, .int 0), (0, .ref (gad G 157)), (1, .int p1)]) hx hb dX1_number_5 hl (by decide) rfl (fun ls hl => ?_)
  exact B7 fuelN _ _ hW hS ls p1 0 0 0 (lv_sub hl [3, 4, 2, 1, 0] rfl) h
abbrev rX3_manyBeside : Room := { frames := 3, cells := 0, slots := 0, locals := 68 }
set_option maxRecDepth 100000 in
set_option maxHeartbeats 8000000 in
theorem tX3_manyBeside (l : Launch) (G : WG) (S0 M0 : St) (c : Nat) (hc : c < 7) (p1 : Int32) (rr : Int32) (h : f3_manyBeside S0 c p1 = some (rr)) : CtI l yX3_manyBeside wsX3_manyBeside rX3_manyBeside G [.ref (gad G (7 + c)), .int p1] S0 M0 rr S0 M0 := by
  refine Met.ofW (cc := cX3_manyBeside) (maxL := 4) (ret := (some .int)) (by decide) rfl ?_
  intro p e s m args below meth cd s₁ B hml hv
  obtain ⟨hargs, hK, hW⟩ := hv
  have hx := B.exec
  have hb := B.bytes
  have hr := B.returns
  have hts := atoms_spec (ws := wsX3_manyBeside) B.pre
  have hown : s.vm.findClass RX3 = some m.cls := findClass_of_methodNamed B.named
  have hlocks := B.notSynchronized
  have hA : ∀ q, Aw G q → Aw G q := fun _ h => h
  have hS : va_S (Aw G) s.heap s.heap [] := va_S.rf
  have he0 : entryFrame m args 4 = F0 m 0 ((lg_sl ([.ref (gad G (7 + c)), .int p1]) ++ List.replicate (4 - (lg_sl ([.ref (gad G (7 + c)), .int p1])).length) Slot.unset).toArray) [] := by rw [hargs]; exact lg_entry_eq _ _ _
  have hl := lv_entry ([.ref (gad G (7 + c)), .int p1]) (n := 4) (Nat.le_of_ble_eq_true rfl)
  rw [he0]
  generalize (lg_sl ([.ref (gad G (7 + c)), .int p1]) ++ List.replicate (4 - (lg_sl ([.ref (gad G (7 + c)), .int p1])).length) Slot.unset).toArray = ls at hl ⊢
  have hl : lv_has ls 4 [(0, .ref (gad G (7 + c))), (1, .int p1)] := hl
  have hiX3 : ∀ w ∈ u_ws RX3 TX3 5, w ∈ wsX3_manyBeside := by decide +kernel
  have B4 : ∀ (n : Nat), ∀ (H : Heap) (locs : List Loc) (_ : WD G S0 M0 H) (_ : va_S (Aw G) s.heap H locs) (ls : Array Slot) (l1 : Int32) (l2 : Int32) (l3 : Int32) (_ : lv_has ls 4 [(0, .ref (gad G (7 + c))), (1, .int l1), (2, .int l2), (3, .int l3)]) (h : f3_manyBeside_b4 S0 c l1 n l2 l3 = some (rr)), WI p l e (headSpec wsX3_manyBeside rX3_manyBeside).room s m args below meth cd G rr S0 M0 H locs (F0 m 4 ls []) := by
    intro n
    induction n with
    | zero => intro H locs hW hS ls l1 l2 l3 hl h; cases (show (none : Option (Int32)) = some _ from h)
    | succ n ih =>
      have B24 : ∀ (H : Heap) (locs : List Loc) (_ : WD G S0 M0 H) (_ : va_S (Aw G) s.heap H locs) (ls : Array Slot) (l1 : Int32) (l2 : Int32) (l3 : Int32) (_ : lv_has ls 4 [(0, .ref (gad G (7 + c))), (1, .int l1), (2, .int l2), (3, .int l3)]) (h : f3_manyBeside_b24 S0 c (f3_manyBeside_b4 S0 c l1 n) l1 l2 l3 = some (rr)), WI p l e (headSpec wsX3_manyBeside rX3_manyBeside).room s m args below meth cd G rr S0 M0 H locs (F0 m 24 ls []) := by
        intro H locs hW hS ls l1 l2 l3 hl h
        unfold f3_manyBeside_b24 at h
        refine lv_iinc (v := (l3 + 1)) (lv' := [(3, .int ((l3 + 1))), (0, .ref (gad G (7 + c))), (1, .int l1), (2, .int l2)]) hx hb dX3_manyBeside_24 hl (k := 3) rfl rfl (by decide) rfl (fun ls hl => ?_)
        refine lv_goto (tgt := 4) hx hb dX3_manyBeside_27 (by decide) ?_
        exact ih _ _ hW hS ls l1 l2 ((l3 + 1)) (lv_sub hl [1, 2, 3, 0] rfl) h
      intro H locs hW hS ls l1 l2 l3 hl h
      rw [f3_manyBeside_b4] at h
      refine lv_iload_n hx hb dX3_manyBeside_4 rfl (lv_at hl 3 rfl) ?_
      refine lv_aload_n hx hb dX3_manyBeside_5 rfl (lv_at hl 0 rfl) ?_
      refine va_get (D := G.1) (ci := 3) (v := .int (S0.1 (6 * c + 0))) (C := RX3) (T := TX3) (N := 5) hx hb hts hiX3 hown hK.1 hW.1 (7 + c) (lkP (c := c) (by omega)) rfl 4 (by decide) (hts _ (List.mem_of_getElem? (i := 1) rfl)) (fun _ h9 => h9) rfl dX3_manyBeside_6 ?_
      refine lv_icmp_ge (tgt := 30) hx hb dX3_manyBeside_9 (by decide) (fun c_1 => ?_) (fun c_1 => ?_)
      · have h := ite_t c_1 h
        refine lv_iload_n hx hb dX3_manyBeside_30 rfl (lv_at hl 2 rfl) ?_
        obtain rfl := Option.some.inj h
        exact W.iret hx hb hr (fun t ht hw => ⟨⟨_, (), rfl, rfl, hW.ret ht⟩, hS.F ht⟩) hS.2.2 dX3_manyBeside_31
      · have h := ite_f c_1 h
        refine lv_aload_n hx hb dX3_manyBeside_12 rfl (lv_at hl 0 rfl) ?_
        refine lv_iload_n hx hb dX3_manyBeside_13 rfl (lv_at hl 1 rfl) ?_
        refine lv_iload_n hx hb dX3_manyBeside_14 rfl (lv_at hl 3 rfl) ?_
        obtain ⟨r_2, e_3, h⟩ := bnd_e h
        refine kV_I (As := [.int l1, .int l3]) (rest := []) ⟨hx, hb, hml, hown, hts⟩ (tX3_areBeside l G S0 M0 c (by omega) l1 l3 r_2 e_3) (cwV 2 hts gX3_manyBeside_X3_areBeside rfl rfl rfl ⟨rfl, hdX3_areBeside⟩ ⟨Nat.le_of_ble_eq_true rfl, Nat.le_of_ble_eq_true rfl⟩) (va_recv hK.1 hW.1 (ci := 3) (q0 := (7 + c)) rfl (lkP (c := c) (by omega))) hK hW hS hA rfl hl.1 rfl (Nat.le_of_ble_eq_true rfl) dX3_manyBeside_15 ⟨Nat.zero_le _, Nat.zero_le _⟩ (fun H locs hW hS => ?_)
        refine lv_if_eq (tgt := 24) hx hb dX3_manyBeside_18 (by decide) (fun c_4 => ?_) (fun c_4 => ?_)
        · have h := ite_t c_4 h
          exact B24 _ _ hW hS ls l1 l2 l3 (lv_sub hl [0, 1, 2, 3] rfl) h
        · have h := ite_f c_4 h
          refine lv_iinc (v := (l2 + 1)) (lv' := [(2, .int ((l2 + 1))), (0, .ref (gad G (7 + c))), (1, .int l1), (3, .int l3)]) hx hb dX3_manyBeside_21 hl (k := 2) rfl rfl (by decide) rfl (fun ls hl => ?_)
          exact B24 _ _ hW hS ls l1 ((l2 + 1)) l3 (lv_sub hl [1, 2, 0, 3] rfl) h
  unfold f3_manyBeside at h
  refine lv_iconst (v := 0) hx hb dX3_manyBeside_0 (by decide) ?_
  refine lv_istore_n (lv' := [(2, .int 0), (0, .ref (gad G (7 + c))), (1, .int p1)]) hx hb dX3_manyBeside_1 rfl hl (by decide) rfl (fun ls hl => ?_)
  refine lv_iconst (v := 0) hx hb dX3_manyBeside_2 (by decide) ?_
  refine lv_istore_n (lv' := [(3, .int 0), (2, .int 0), (0, .ref (gad G (7 + c))), (1, .int p1)]) hx hb dX3_manyBeside_3 rfl hl (by decide) rfl (fun ls hl => ?_)
  exact B4 fuelN _ _ hW hS ls p1 0 0 (lv_sub hl [2, 3, 1, 0] rfl) h
abbrev rJ6_bitCount_0f7a4 : Room := { frames := 0, cells := 0, slots := 0, locals := 0 }
set_option maxRecDepth 100000 in
set_option maxHeartbeats 8000000 in
theorem tJ6_bitCount_0f7a4 (l : Launch) (G : WG) (S0 M0 : St) (p0 : Int32) (rr : Int32) (h : fJ6_bitCount_0f7a4 p0 = some (rr)) : CtI l yJ6_bitCount_0f7a4 wsJ6_bitCount_0f7a4 rJ6_bitCount_0f7a4 G [.int p0] S0 M0 rr S0 M0 := by
  refine Met.ofW (cc := cJ6_bitCount_0f7a4) (maxL := 1) (ret := (some .int)) (by decide) rfl ?_
  intro p e s m args below meth cd s₁ B hml hv
  obtain ⟨hargs, hK, hW⟩ := hv
  have hx := B.exec
  have hb := B.bytes
  have hr := B.returns
  have hts := atoms_spec (ws := wsJ6_bitCount_0f7a4) B.pre
  have hown : s.vm.findClass RJ6 = some m.cls := findClass_of_methodNamed B.named
  have hlocks := B.notSynchronized
  have hA : ∀ q, Aw G q → Aw G q := fun _ h => h
  have hS : va_S (Aw G) s.heap s.heap [] := va_S.rf
  have he0 : entryFrame m args 1 = F0 m 0 ((lg_sl ([.int p0]) ++ List.replicate (1 - (lg_sl ([.int p0])).length) Slot.unset).toArray) [] := by rw [hargs]; exact lg_entry_eq _ _ _
  have hl := lv_entry ([.int p0]) (n := 1) (Nat.le_of_ble_eq_true rfl)
  rw [he0]
  generalize (lg_sl ([.int p0]) ++ List.replicate (1 - (lg_sl ([.int p0])).length) Slot.unset).toArray = ls at hl ⊢
  have hl : lv_has ls 1 [(0, .int p0)] := hl
  unfold fJ6_bitCount_0f7a4 at h
  refine lv_iload_n hx hb dJ6_bitCount_0f7a4_0 rfl (lv_at hl 0 rfl) ?_
  refine lv_iload_n hx hb dJ6_bitCount_0f7a4_1 rfl (lv_at hl 0 rfl) ?_
  refine lv_iconst (v := 1) hx hb dJ6_bitCount_0f7a4_2 (by decide) ?_
  refine lv_iushr hx hb dJ6_bitCount_0f7a4_3 rfl ?_
  refine lv_ldcw hx hb hown (hts _ (List.mem_of_getElem? (i := 1) rfl)) dJ6_bitCount_0f7a4_4 ?_
  refine lv_iand hx hb dJ6_bitCount_0f7a4_7 ?_
  refine lv_isub hx hb dJ6_bitCount_0f7a4_8 ?_
  obtain ⟨x_1, ex_1, h⟩ := nam_e h
  refine lv_ni ex_1 ?_
  refine lv_istore_n (lv' := [(0, .int x_1)]) hx hb dJ6_bitCount_0f7a4_9 rfl hl (by decide) rfl (fun ls hl => ?_)
  refine lv_iload_n hx hb dJ6_bitCount_0f7a4_10 rfl (lv_at hl 0 rfl) ?_
  refine lv_ldcw hx hb hown (hts _ (List.mem_of_getElem? (i := 2) rfl)) dJ6_bitCount_0f7a4_11 ?_
  refine lv_iand hx hb dJ6_bitCount_0f7a4_14 ?_
  refine lv_iload_n hx hb dJ6_bitCount_0f7a4_15 rfl (lv_at hl 0 rfl) ?_
  refine lv_iconst (v := 2) hx hb dJ6_bitCount_0f7a4_16 (by decide) ?_
  refine lv_iushr hx hb dJ6_bitCount_0f7a4_17 rfl ?_
  refine lv_ldcw hx hb hown (hts _ (List.mem_of_getElem? (i := 2) rfl)) dJ6_bitCount_0f7a4_18 ?_
  refine lv_iand hx hb dJ6_bitCount_0f7a4_21 ?_
  refine lv_iadd hx hb dJ6_bitCount_0f7a4_22 ?_
  obtain ⟨x_2, ex_2, h⟩ := nam_e h
  refine lv_ni ex_2 ?_
  refine lv_istore_n (lv' := [(0, .int x_2)]) hx hb dJ6_bitCount_0f7a4_23 rfl hl (by decide) rfl (fun ls hl => ?_)
  refine lv_iload_n hx hb dJ6_bitCount_0f7a4_24 rfl (lv_at hl 0 rfl) ?_
  refine lv_iload_n hx hb dJ6_bitCount_0f7a4_25 rfl (lv_at hl 0 rfl) ?_
  refine lv_iconst (v := 4) hx hb dJ6_bitCount_0f7a4_26 (by decide) ?_
  refine lv_iushr hx hb dJ6_bitCount_0f7a4_27 rfl ?_
  refine lv_iadd hx hb dJ6_bitCount_0f7a4_28 ?_
  refine lv_ldcw hx hb hown (hts _ (List.mem_of_getElem? (i := 3) rfl)) dJ6_bitCount_0f7a4_29 ?_
  refine lv_iand hx hb dJ6_bitCount_0f7a4_32 ?_
  obtain ⟨x_3, ex_3, h⟩ := nam_e h
  refine lv_ni ex_3 ?_
  refine lv_istore_n (lv' := [(0, .int x_3)]) hx hb dJ6_bitCount_0f7a4_33 rfl hl (by decide) rfl (fun ls hl => ?_)
  refine lv_iload_n hx hb dJ6_bitCount_0f7a4_34 rfl (lv_at hl 0 rfl) ?_
  refine lv_iload_n hx hb dJ6_bitCount_0f7a4_35 rfl (lv_at hl 0 rfl) ?_
  refine lv_bipush (v := 8) hx hb dJ6_bitCount_0f7a4_36 (by decide) ?_
  refine lv_iushr hx hb dJ6_bitCount_0f7a4_38 rfl ?_
  refine lv_iadd hx hb dJ6_bitCount_0f7a4_39 ?_
  obtain ⟨x_4, ex_4, h⟩ := nam_e h
  refine lv_ni ex_4 ?_
  refine lv_istore_n (lv' := [(0, .int x_4)]) hx hb dJ6_bitCount_0f7a4_40 rfl hl (by decide) rfl (fun ls hl => ?_)
  refine lv_iload_n hx hb dJ6_bitCount_0f7a4_41 rfl (lv_at hl 0 rfl) ?_
  refine lv_iload_n hx hb dJ6_bitCount_0f7a4_42 rfl (lv_at hl 0 rfl) ?_
  refine lv_bipush (v := 16) hx hb dJ6_bitCount_0f7a4_43 (by decide) ?_
  refine lv_iushr hx hb dJ6_bitCount_0f7a4_45 rfl ?_
  refine lv_iadd hx hb dJ6_bitCount_0f7a4_46 ?_
  obtain ⟨x_5, ex_5, h⟩ := nam_e h
  refine lv_ni ex_5 ?_
  refine lv_istore_n (lv' := [(0, .int x_5)]) hx hb dJ6_bitCount_0f7a4_47 rfl hl (by decide) rfl (fun ls hl => ?_)
  refine lv_iload_n hx hb dJ6_bitCount_0f7a4_48 rfl (lv_at hl 0 rfl) ?_
  refine lv_bipush (v := 63) hx hb dJ6_bitCount_0f7a4_49 (by decide) ?_
  refine lv_iand hx hb dJ6_bitCount_0f7a4_51 ?_
  obtain rfl := Option.some.inj h
  exact W.iret hx hb hr (fun t ht hw => ⟨⟨_, (), rfl, rfl, hW.ret ht⟩, hS.F ht⟩) hS.2.2 dJ6_bitCount_0f7a4_52
abbrev rX3_neighboursOf : Room := { frames := 4, cells := 0, slots := 0, locals := 91 }
set_option maxRecDepth 100000 in
set_option maxHeartbeats 8000000 in
theorem tX3_neighboursOf (l : Launch) (G : WG) (S0 M0 : St) (c : Nat) (hc : c < 7) (p1 : Int32) (rr : Int32) (h : f3_neighboursOf S0 c p1 = some (rr)) : CtI l yX3_neighboursOf wsX3_neighboursOf rX3_neighboursOf G [.ref (gad G (7 + c)), .int p1] S0 M0 rr S0 M0 := by
  refine Met.ofW (cc := cX3_neighboursOf) (maxL := 4) (ret := (some .int)) (by decide) rfl ?_
  intro p e s m args below meth cd s₁ B hml hv
  obtain ⟨hargs, hK, hW⟩ := hv
  have hx := B.exec
  have hb := B.bytes
  have hr := B.returns
  have hts := atoms_spec (ws := wsX3_neighboursOf) B.pre
  have hown : s.vm.findClass RX3 = some m.cls := findClass_of_methodNamed B.named
  have hlocks := B.notSynchronized
  have hA : ∀ q, Aw G q → Aw G q := fun _ h => h
  have hS : va_S (Aw G) s.heap s.heap [] := va_S.rf
  have he0 : entryFrame m args 4 = F0 m 0 ((lg_sl ([.ref (gad G (7 + c)), .int p1]) ++ List.replicate (4 - (lg_sl ([.ref (gad G (7 + c)), .int p1])).length) Slot.unset).toArray) [] := by rw [hargs]; exact lg_entry_eq _ _ _
  have hl := lv_entry ([.ref (gad G (7 + c)), .int p1]) (n := 4) (Nat.le_of_ble_eq_true rfl)
  rw [he0]
  generalize (lg_sl ([.ref (gad G (7 + c)), .int p1]) ++ List.replicate (4 - (lg_sl ([.ref (gad G (7 + c)), .int p1])).length) Slot.unset).toArray = ls at hl ⊢
  have hl : lv_has ls 4 [(0, .ref (gad G (7 + c))), (1, .int p1)] := hl
  have hiX3 : ∀ w ∈ u_ws RX3 TX3 5, w ∈ wsX3_neighboursOf := by decide +kernel
  have B4 : ∀ (n : Nat), ∀ (H : Heap) (locs : List Loc) (_ : WD G S0 M0 H) (_ : va_S (Aw G) s.heap H locs) (ls : Array Slot) (l1 : Int32) (l2 : Int32) (l3 : Int32) (_ : lv_has ls 4 [(0, .ref (gad G (7 + c))), (1, .int l1), (2, .int l2), (3, .int l3)]) (h : f3_neighboursOf_b4 S0 c l1 n l2 l3 = some (rr)), WI p l e (headSpec wsX3_neighboursOf rX3_neighboursOf).room s m args below meth cd G rr S0 M0 H locs (F0 m 4 ls []) := by
    intro n
    induction n with
    | zero => intro H locs hW hS ls l1 l2 l3 hl h; cases (show (none : Option (Int32)) = some _ from h)
    | succ n ih =>
      have B32 : ∀ (H : Heap) (locs : List Loc) (_ : WD G S0 M0 H) (_ : va_S (Aw G) s.heap H locs) (ls : Array Slot) (l1 : Int32) (l2 : Int32) (l3 : Int32) (_ : lv_has ls 4 [(0, .ref (gad G (7 + c))), (1, .int l1), (2, .int l2), (3, .int l3)]) (h : f3_neighboursOf_b32 S0 c (f3_neighboursOf_b4 S0 c l1 n) l1 l2 l3 = some (rr)), WI p l e (headSpec wsX3_neighboursOf rX3_neighboursOf).room s m args below meth cd G rr S0 M0 H locs (F0 m 32 ls []) := by
        intro H locs hW hS ls l1 l2 l3 hl h
        unfold f3_neighboursOf_b32 at h
        refine lv_iinc (v := (l3 + 1)) (lv' := [(3, .int ((l3 + 1))), (0, .ref (gad G (7 + c))), (1, .int l1), (2, .int l2)]) hx hb dX3_neighboursOf_32 hl (k := 3) rfl rfl (by decide) rfl (fun ls hl => ?_)
        refine lv_goto (tgt := 4) hx hb dX3_neighboursOf_35 (by decide) ?_
        exact ih _ _ hW hS ls l1 l2 ((l3 + 1)) (lv_sub hl [1, 2, 3, 0] rfl) h
      intro H locs hW hS ls l1 l2 l3 hl h
      rw [f3_neighboursOf_b4] at h
      refine lv_iload_n hx hb dX3_neighboursOf_4 rfl (lv_at hl 3 rfl) ?_
      refine lv_aload_n hx hb dX3_neighboursOf_5 rfl (lv_at hl 0 rfl) ?_
      refine va_get (D := G.1) (ci := 3) (v := .int (S0.1 (6 * c + 0))) (C := RX3) (T := TX3) (N := 5) hx hb hts hiX3 hown hK.1 hW.1 (7 + c) (lkP (c := c) (by omega)) rfl 4 (by decide) (hts _ (List.mem_of_getElem? (i := 1) rfl)) (fun _ h9 => h9) rfl dX3_neighboursOf_6 ?_
      refine lv_icmp_ge (tgt := 38) hx hb dX3_neighboursOf_9 (by decide) (fun c_1 => ?_) (fun c_1 => ?_)
      · have h := ite_t c_1 h
        refine lv_iload_n hx hb dX3_neighboursOf_38 rfl (lv_at hl 2 rfl) ?_
        refine lv_iload_n hx hb dX3_neighboursOf_39 rfl (lv_at hl 1 rfl) ?_
        obtain ⟨r_2, e_3, h⟩ := bnd_e h
        refine kSN_I (As := [.int l1]) (rest := [.int l2]) ⟨hx, hb, hml, hown, hts⟩ (tX5_markOf l G S0 M0 l1 r_2 e_3) ⟨va_cnB 1 hts gX3_neighboursOf_X5_markOf_n81 rfl rfl rfl (hK.2 _ (List.mem_of_getElem? (i := 21) rfl)) (hts _ (List.mem_of_getElem? (i := 29) rfl)) hdX5_markOf ⟨Nat.le_of_ble_eq_true rfl, Nat.le_of_ble_eq_true rfl⟩, (hts _ (List.mem_of_getElem? (i := 42) rfl)), trivial⟩ hK hW hS hA rfl hl.1 rfl (Nat.le_of_ble_eq_true rfl) dX3_neighboursOf_40 ⟨Nat.zero_le _, Nat.zero_le _⟩ (fun H locs hW hS => ?_)
        refine lv_iconst (v := (-1)) hx hb dX3_neighboursOf_43 (by decide) ?_
        refine lv_ixor hx hb dX3_neighboursOf_44 ?_
        refine lv_iand hx hb dX3_neighboursOf_45 ?_
        obtain ⟨r_4, e_5, h⟩ := bnd_e h
        refine kS_I (As := [.int (((l2 : Int32) &&& ((r_2 : Int32) ^^^ (-1))))]) (rest := []) ⟨hx, hb, hml, hown, hts⟩ (tJ6_bitCount_0f7a4 l G S0 M0 (((l2 : Int32) &&& ((r_2 : Int32) ^^^ (-1)))) r_4 e_5) (va_cwS 1 hts gX3_neighboursOf_J6_bitCount_0f7a4 rfl rfl rfl hdJ6_bitCount_0f7a4 ⟨Nat.le_of_ble_eq_true rfl, Nat.le_of_ble_eq_true rfl⟩) hK hW hS hA rfl hl.1 rfl (Nat.le_of_ble_eq_true rfl) dX3_neighboursOf_46 ⟨Nat.zero_le _, Nat.zero_le _⟩ (fun H locs hW hS => ?_)
        obtain rfl := Option.some.inj h
        exact W.iret hx hb hr (fun t ht hw => ⟨⟨_, (), rfl, rfl, hW.ret ht⟩, hS.F ht⟩) hS.2.2 dX3_neighboursOf_49
      · have h := ite_f c_1 h
        refine lv_aload_n hx hb dX3_neighboursOf_12 rfl (lv_at hl 0 rfl) ?_
        refine va_get (D := G.1) (ci := 3) (v := .ref (gad G (14 + (10 * c + 3)))) (C := RX3) (T := TX3) (N := 5) hx hb hts hiX3 hown hK.1 hW.1 (7 + c) (lkP (c := c) (by omega)) rfl 3 (by decide) (hts _ (List.mem_of_getElem? (i := 2) rfl)) (fun _ h9 => h9) rfl dX3_neighboursOf_13 ?_
        refine lv_iload_n hx hb dX3_neighboursOf_16 rfl (lv_at hl 3 rfl) ?_
        obtain ⟨r_6, e_7, h⟩ := bnd_e h
        refine kV_I (As := [.int l3]) (rest := []) ⟨hx, hb, hml, hown, hts⟩ (tX4_at l G S0 M0 ((10 * c + 3)) (by omega) l3 r_6 e_7) (cwV 1 hts gX3_neighboursOf_X4_at rfl rfl rfl ⟨rfl, hdX4_at⟩ ⟨Nat.le_of_ble_eq_true rfl, Nat.le_of_ble_eq_true rfl⟩) (va_recv hK.1 hW.1 (ci := 4) (q0 := (14 + (10 * c + 3))) rfl (lkR (r := (10 * c + 3)) (by omega))) hK hW hS hA rfl hl.1 rfl (Nat.le_of_ble_eq_true rfl) dX3_neighboursOf_17 ⟨Nat.zero_le _, Nat.zero_le _⟩ (fun H locs hW hS => ?_)
        refine lv_iload_n hx hb dX3_neighboursOf_20 rfl (lv_at hl 1 rfl) ?_
        refine lv_icmp_ne (tgt := 32) hx hb dX3_neighboursOf_21 (by decide) (fun c_8 => ?_) (fun c_8 => ?_)
        · have h := ite_f c_8 h
          exact B32 _ _ hW hS ls l1 l2 l3 (lv_sub hl [0, 1, 2, 3] rfl) h
        · have h := ite_t c_8 h
          refine lv_iload_n hx hb dX3_neighboursOf_24 rfl (lv_at hl 2 rfl) ?_
          refine lv_aload_n hx hb dX3_neighboursOf_25 rfl (lv_at hl 0 rfl) ?_
          refine lv_iload_n hx hb dX3_neighboursOf_26 rfl (lv_at hl 3 rfl) ?_
          obtain ⟨r_9, e_10, h⟩ := bnd_e h
          refine kV_I (As := [.int l3]) (rest := [.int l2]) ⟨hx, hb, hml, hown, hts⟩ (tX3_ownersBeside l G S0 M0 c (by omega) l3 r_9 e_10) (cwV 1 hts gX3_neighboursOf_X3_ownersBeside rfl rfl rfl ⟨rfl, hdX3_ownersBeside⟩ ⟨Nat.le_of_ble_eq_true rfl, Nat.le_of_ble_eq_true rfl⟩) (va_recv hK.1 hW.1 (ci := 3) (q0 := (7 + c)) rfl (lkP (c := c) (by omega))) hK hW hS hA rfl hl.1 rfl (Nat.le_of_ble_eq_true rfl) dX3_neighboursOf_27 ⟨Nat.zero_le _, Nat.zero_le _⟩ (fun H locs hW hS => ?_)
          refine lv_ior hx hb dX3_neighboursOf_30 ?_
          obtain ⟨x_11, ex_11, h⟩ := nam_e h
          refine lv_ni ex_11 ?_
          refine lv_istore_n (lv' := [(2, .int x_11), (0, .ref (gad G (7 + c))), (1, .int l1), (3, .int l3)]) hx hb dX3_neighboursOf_31 rfl hl (by decide) rfl (fun ls hl => ?_)
          exact B32 _ _ hW hS ls l1 x_11 l3 (lv_sub hl [1, 2, 0, 3] rfl) h
  unfold f3_neighboursOf at h
  refine lv_iconst (v := 0) hx hb dX3_neighboursOf_0 (by decide) ?_
  refine lv_istore_n (lv' := [(2, .int 0), (0, .ref (gad G (7 + c))), (1, .int p1)]) hx hb dX3_neighboursOf_1 rfl hl (by decide) rfl (fun ls hl => ?_)
  refine lv_iconst (v := 0) hx hb dX3_neighboursOf_2 (by decide) ?_
  refine lv_istore_n (lv' := [(3, .int 0), (2, .int 0), (0, .ref (gad G (7 + c))), (1, .int p1)]) hx hb dX3_neighboursOf_3 rfl hl (by decide) rfl (fun ls hl => ?_)
  exact B4 fuelN _ _ hW hS ls p1 0 0 (lv_sub hl [2, 3, 1, 0] rfl) h
abbrev rX3_rankOf : Room := { frames := 2, cells := 0, slots := 0, locals := 43 }
set_option maxRecDepth 100000 in
set_option maxHeartbeats 8000000 in
theorem tX3_rankOf (l : Launch) (G : WG) (S0 M0 : St) (c : Nat) (hc : c < 7) (p1 : Int32) (rr : Int32) (h : f3_rankOf S0 c p1 = some (rr)) : CtI l yX3_rankOf wsX3_rankOf rX3_rankOf G [.ref (gad G (7 + c)), .int p1] S0 M0 rr S0 M0 := by
  refine Met.ofW (cc := cX3_rankOf) (maxL := 4) (ret := (some .int)) (by decide) rfl ?_
  intro p e s m args below meth cd s₁ B hml hv
  obtain ⟨hargs, hK, hW⟩ := hv
  have hx := B.exec
  have hb := B.bytes
  have hr := B.returns
  have hts := atoms_spec (ws := wsX3_rankOf) B.pre
  have hown : s.vm.findClass RX3 = some m.cls := findClass_of_methodNamed B.named
  have hlocks := B.notSynchronized
  have hA : ∀ q, Aw G q → Aw G q := fun _ h => h
  have hS : va_S (Aw G) s.heap s.heap [] := va_S.rf
  have he0 : entryFrame m args 4 = F0 m 0 ((lg_sl ([.ref (gad G (7 + c)), .int p1]) ++ List.replicate (4 - (lg_sl ([.ref (gad G (7 + c)), .int p1])).length) Slot.unset).toArray) [] := by rw [hargs]; exact lg_entry_eq _ _ _
  have hl := lv_entry ([.ref (gad G (7 + c)), .int p1]) (n := 4) (Nat.le_of_ble_eq_true rfl)
  rw [he0]
  generalize (lg_sl ([.ref (gad G (7 + c)), .int p1]) ++ List.replicate (4 - (lg_sl ([.ref (gad G (7 + c)), .int p1])).length) Slot.unset).toArray = ls at hl ⊢
  have hl : lv_has ls 4 [(0, .ref (gad G (7 + c))), (1, .int p1)] := hl
  have hiX3 : ∀ w ∈ u_ws RX3 TX3 5, w ∈ wsX3_rankOf := by decide +kernel
  have B4 : ∀ (n : Nat), ∀ (H : Heap) (locs : List Loc) (_ : WD G S0 M0 H) (_ : va_S (Aw G) s.heap H locs) (ls : Array Slot) (l1 : Int32) (l2 : Int32) (l3 : Int32) (_ : lv_has ls 4 [(0, .ref (gad G (7 + c))), (1, .int l1), (2, .int l2), (3, .int l3)]) (h : f3_rankOf_b4 S0 c l1 n l2 l3 = some (rr)), WI p l e (headSpec wsX3_rankOf rX3_rankOf).room s m args below meth cd G rr S0 M0 H locs (F0 m 4 ls []) := by
    intro n
    induction n with
    | zero => intro H locs hW hS ls l1 l2 l3 hl h; cases (show (none : Option (Int32)) = some _ from h)
    | succ n ih =>
      have B43 : ∀ (H : Heap) (locs : List Loc) (_ : WD G S0 M0 H) (_ : va_S (Aw G) s.heap H locs) (ls : Array Slot) (l1 : Int32) (l2 : Int32) (l3 : Int32) (_ : lv_has ls 4 [(0, .ref (gad G (7 + c))), (1, .int l1), (2, .int l2), (3, .int l3)]) (h : f3_rankOf_b43 S0 c (f3_rankOf_b4 S0 c l1 n) l1 l2 l3 = some (rr)), WI p l e (headSpec wsX3_rankOf rX3_rankOf).room s m args below meth cd G rr S0 M0 H locs (F0 m 43 ls []) := by
        intro H locs hW hS ls l1 l2 l3 hl h
        unfold f3_rankOf_b43 at h
        refine lv_iinc (v := (l3 + 1)) (lv' := [(3, .int ((l3 + 1))), (0, .ref (gad G (7 + c))), (1, .int l1), (2, .int l2)]) hx hb dX3_rankOf_43 hl (k := 3) rfl rfl (by decide) rfl (fun ls hl => ?_)
        refine lv_goto (tgt := 4) hx hb dX3_rankOf_46 (by decide) ?_
        exact ih _ _ hW hS ls l1 l2 ((l3 + 1)) (lv_sub hl [1, 2, 3, 0] rfl) h
      intro H locs hW hS ls l1 l2 l3 hl h
      rw [f3_rankOf_b4] at h
      refine lv_iload_n hx hb dX3_rankOf_4 rfl (lv_at hl 3 rfl) ?_
      refine lv_aload_n hx hb dX3_rankOf_5 rfl (lv_at hl 0 rfl) ?_
      refine va_get (D := G.1) (ci := 3) (v := .int (S0.1 (6 * c + 0))) (C := RX3) (T := TX3) (N := 5) hx hb hts hiX3 hown hK.1 hW.1 (7 + c) (lkP (c := c) (by omega)) rfl 4 (by decide) (hts _ (List.mem_of_getElem? (i := 1) rfl)) (fun _ h9 => h9) rfl dX3_rankOf_6 ?_
      refine lv_icmp_ge (tgt := 49) hx hb dX3_rankOf_9 (by decide) (fun c_1 => ?_) (fun c_1 => ?_)
      · have h := ite_t c_1 h
        refine lv_iload_n hx hb dX3_rankOf_49 rfl (lv_at hl 2 rfl) ?_
        obtain rfl := Option.some.inj h
        exact W.iret hx hb hr (fun t ht hw => ⟨⟨_, (), rfl, rfl, hW.ret ht⟩, hS.F ht⟩) hS.2.2 dX3_rankOf_50
      · have h := ite_f c_1 h
        refine lv_aload_n hx hb dX3_rankOf_12 rfl (lv_at hl 0 rfl) ?_
        refine va_get (D := G.1) (ci := 3) (v := .ref (gad G (14 + (10 * c + 3)))) (C := RX3) (T := TX3) (N := 5) hx hb hts hiX3 hown hK.1 hW.1 (7 + c) (lkP (c := c) (by omega)) rfl 3 (by decide) (hts _ (List.mem_of_getElem? (i := 2) rfl)) (fun _ h9 => h9) rfl dX3_rankOf_13 ?_
        refine lv_iload_n hx hb dX3_rankOf_16 rfl (lv_at hl 3 rfl) ?_
        obtain ⟨r_2, e_3, h⟩ := bnd_e h
        refine kV_I (As := [.int l3]) (rest := []) ⟨hx, hb, hml, hown, hts⟩ (tX4_at l G S0 M0 ((10 * c + 3)) (by omega) l3 r_2 e_3) (cwV 1 hts gX3_rankOf_X4_at rfl rfl rfl ⟨rfl, hdX4_at⟩ ⟨Nat.le_of_ble_eq_true rfl, Nat.le_of_ble_eq_true rfl⟩) (va_recv hK.1 hW.1 (ci := 4) (q0 := (14 + (10 * c + 3))) rfl (lkR (r := (10 * c + 3)) (by omega))) hK hW hS hA rfl hl.1 rfl (Nat.le_of_ble_eq_true rfl) dX3_rankOf_17 ⟨Nat.zero_le _, Nat.zero_le _⟩ (fun H locs hW hS => ?_)
        refine lv_aload_n hx hb dX3_rankOf_20 rfl (lv_at hl 0 rfl) ?_
        refine va_get (D := G.1) (ci := 3) (v := .ref (gad G (14 + (10 * c + 3)))) (C := RX3) (T := TX3) (N := 5) hx hb hts hiX3 hown hK.1 hW.1 (7 + c) (lkP (c := c) (by omega)) rfl 3 (by decide) (hts _ (List.mem_of_getElem? (i := 2) rfl)) (fun _ h9 => h9) rfl dX3_rankOf_21 ?_
        refine lv_iload_n hx hb dX3_rankOf_24 rfl (lv_at hl 1 rfl) ?_
        obtain ⟨r_4, e_5, h⟩ := bnd_e h
        refine kV_I (As := [.int l1]) (rest := [.int r_2]) ⟨hx, hb, hml, hown, hts⟩ (tX4_at l G S0 M0 ((10 * c + 3)) (by omega) l1 r_4 e_5) (cwV 1 hts gX3_rankOf_X4_at rfl rfl rfl ⟨rfl, hdX4_at⟩ ⟨Nat.le_of_ble_eq_true rfl, Nat.le_of_ble_eq_true rfl⟩) (va_recv hK.1 hW.1 (ci := 4) (q0 := (14 + (10 * c + 3))) rfl (lkR (r := (10 * c + 3)) (by omega))) hK hW hS hA rfl hl.1 rfl (Nat.le_of_ble_eq_true rfl) dX3_rankOf_25 ⟨Nat.zero_le _, Nat.zero_le _⟩ (fun H locs hW hS => ?_)
        refine lv_icmp_ne (tgt := 43) hx hb dX3_rankOf_28 (by decide) (fun c_6 => ?_) (fun c_6 => ?_)
        · have h := ite_f c_6 h
          exact B43 _ _ hW hS ls l1 l2 l3 (lv_sub hl [0, 1, 2, 3] rfl) h
        · have h := ite_t c_6 h
          refine lv_aload_n hx hb dX3_rankOf_31 rfl (lv_at hl 0 rfl) ?_
          refine lv_iload_n hx hb dX3_rankOf_32 rfl (lv_at hl 3 rfl) ?_
          refine lv_iload_n hx hb dX3_rankOf_33 rfl (lv_at hl 1 rfl) ?_
          obtain ⟨r_7, e_8, h⟩ := bnd_e h
          refine kV_I (As := [.int l3, .int l1]) (rest := []) ⟨hx, hb, hml, hown, hts⟩ (tX3_isCornerLower l G S0 M0 c (by omega) l3 l1 r_7 e_8) (cwV 2 hts gX3_rankOf_X3_isCornerLower rfl rfl rfl ⟨rfl, hdX3_isCornerLower⟩ ⟨Nat.le_of_ble_eq_true rfl, Nat.le_of_ble_eq_true rfl⟩) (va_recv hK.1 hW.1 (ci := 3) (q0 := (7 + c)) rfl (lkP (c := c) (by omega))) hK hW hS hA rfl hl.1 rfl (Nat.le_of_ble_eq_true rfl) dX3_rankOf_34 ⟨Nat.zero_le _, Nat.zero_le _⟩ (fun H locs hW hS => ?_)
          refine lv_if_eq (tgt := 43) hx hb dX3_rankOf_37 (by decide) (fun c_9 => ?_) (fun c_9 => ?_)
          · have h := ite_t c_9 h
            exact B43 _ _ hW hS ls l1 l2 l3 (lv_sub hl [0, 1, 2, 3] rfl) h
          · have h := ite_f c_9 h
            refine lv_iinc (v := (l2 + 1)) (lv' := [(2, .int ((l2 + 1))), (0, .ref (gad G (7 + c))), (1, .int l1), (3, .int l3)]) hx hb dX3_rankOf_40 hl (k := 2) rfl rfl (by decide) rfl (fun ls hl => ?_)
            exact B43 _ _ hW hS ls l1 ((l2 + 1)) l3 (lv_sub hl [1, 2, 0, 3] rfl) h
  unfold f3_rankOf at h
  refine lv_iconst (v := 0) hx hb dX3_rankOf_0 (by decide) ?_
  refine lv_istore_n (lv' := [(2, .int 0), (0, .ref (gad G (7 + c))), (1, .int p1)]) hx hb dX3_rankOf_1 rfl hl (by decide) rfl (fun ls hl => ?_)
  refine lv_iconst (v := 0) hx hb dX3_rankOf_2 (by decide) ?_
  refine lv_istore_n (lv' := [(3, .int 0), (2, .int 0), (0, .ref (gad G (7 + c))), (1, .int p1)]) hx hb dX3_rankOf_3 rfl hl (by decide) rfl (fun ls hl => ?_)
  exact B4 fuelN _ _ hW hS ls p1 0 0 (lv_sub hl [2, 3, 1, 0] rfl) h
abbrev rX3_ranked : Room := { frames := 3, cells := 0, slots := 0, locals := 66 }
set_option maxRecDepth 100000 in
set_option maxHeartbeats 8000000 in
theorem tX3_ranked (l : Launch) (G : WG) (S0 M0 : St) (c : Nat) (hc : c < 7) (p1 : Int32) (p2 : Int32) (rr : Int32) (h : f3_ranked S0 c p1 p2 = some (rr)) : CtI l yX3_ranked wsX3_ranked rX3_ranked G [.ref (gad G (7 + c)), .int p1, .int p2] S0 M0 rr S0 M0 := by
  refine Met.ofW (cc := cX3_ranked) (maxL := 4) (ret := (some .int)) (by decide) rfl ?_
  intro p e s m args below meth cd s₁ B hml hv
  obtain ⟨hargs, hK, hW⟩ := hv
  have hx := B.exec
  have hb := B.bytes
  have hr := B.returns
  have hts := atoms_spec (ws := wsX3_ranked) B.pre
  have hown : s.vm.findClass RX3 = some m.cls := findClass_of_methodNamed B.named
  have hlocks := B.notSynchronized
  have hA : ∀ q, Aw G q → Aw G q := fun _ h => h
  have hS : va_S (Aw G) s.heap s.heap [] := va_S.rf
  have he0 : entryFrame m args 4 = F0 m 0 ((lg_sl ([.ref (gad G (7 + c)), .int p1, .int p2]) ++ List.replicate (4 - (lg_sl ([.ref (gad G (7 + c)), .int p1, .int p2])).length) Slot.unset).toArray) [] := by rw [hargs]; exact lg_entry_eq _ _ _
  have hl := lv_entry ([.ref (gad G (7 + c)), .int p1, .int p2]) (n := 4) (Nat.le_of_ble_eq_true rfl)
  rw [he0]
  generalize (lg_sl ([.ref (gad G (7 + c)), .int p1, .int p2]) ++ List.replicate (4 - (lg_sl ([.ref (gad G (7 + c)), .int p1, .int p2])).length) Slot.unset).toArray = ls at hl ⊢
  have hl : lv_has ls 4 [(0, .ref (gad G (7 + c))), (1, .int p1), (2, .int p2)] := hl
  have hiX3 : ∀ w ∈ u_ws RX3 TX3 5, w ∈ wsX3_ranked := by decide +kernel
  have B2 : ∀ (n : Nat), ∀ (H : Heap) (locs : List Loc) (_ : WD G S0 M0 H) (_ : va_S (Aw G) s.heap H locs) (ls : Array Slot) (l1 : Int32) (l2 : Int32) (l3 : Int32) (_ : lv_has ls 4 [(0, .ref (gad G (7 + c))), (1, .int l1), (2, .int l2), (3, .int l3)]) (h : f3_ranked_b2 S0 c l1 l2 n l3 = some (rr)), WI p l e (headSpec wsX3_ranked rX3_ranked).room s m args below meth cd G rr S0 M0 H locs (F0 m 2 ls []) := by
    intro n
    induction n with
    | zero => intro H locs hW hS ls l1 l2 l3 hl h; cases (show (none : Option (Int32)) = some _ from h)
    | succ n ih =>
      have B33 : ∀ (H : Heap) (locs : List Loc) (_ : WD G S0 M0 H) (_ : va_S (Aw G) s.heap H locs) (ls : Array Slot) (l1 : Int32) (l2 : Int32) (l3 : Int32) (_ : lv_has ls 4 [(0, .ref (gad G (7 + c))), (1, .int l1), (2, .int l2), (3, .int l3)]) (h : f3_ranked_b33 S0 c (f3_ranked_b2 S0 c l1 l2 n) l1 l2 l3 = some (rr)), WI p l e (headSpec wsX3_ranked rX3_ranked).room s m args below meth cd G rr S0 M0 H locs (F0 m 33 ls []) := by
        intro H locs hW hS ls l1 l2 l3 hl h
        unfold f3_ranked_b33 at h
        refine lv_iinc (v := (l3 + 1)) (lv' := [(3, .int ((l3 + 1))), (0, .ref (gad G (7 + c))), (1, .int l1), (2, .int l2)]) hx hb dX3_ranked_33 hl (k := 3) rfl rfl (by decide) rfl (fun ls hl => ?_)
        refine lv_goto (tgt := 2) hx hb dX3_ranked_36 (by decide) ?_
        exact ih _ _ hW hS ls l1 l2 ((l3 + 1)) (lv_sub hl [1, 2, 3, 0] rfl) h
      intro H locs hW hS ls l1 l2 l3 hl h
      rw [f3_ranked_b2] at h
      refine lv_iload_n hx hb dX3_ranked_2 rfl (lv_at hl 3 rfl) ?_
      refine lv_aload_n hx hb dX3_ranked_3 rfl (lv_at hl 0 rfl) ?_
      refine va_get (D := G.1) (ci := 3) (v := .int (S0.1 (6 * c + 0))) (C := RX3) (T := TX3) (N := 5) hx hb hts hiX3 hown hK.1 hW.1 (7 + c) (lkP (c := c) (by omega)) rfl 4 (by decide) (hts _ (List.mem_of_getElem? (i := 1) rfl)) (fun _ h9 => h9) rfl dX3_ranked_4 ?_
      refine lv_icmp_ge (tgt := 39) hx hb dX3_ranked_7 (by decide) (fun c_1 => ?_) (fun c_1 => ?_)
      · have h := ite_t c_1 h
        refine lv_iconst (v := (-1)) hx hb dX3_ranked_39 (by decide) ?_
        obtain rfl := Option.some.inj h
        exact W.iret hx hb hr (fun t ht hw => ⟨⟨_, (), rfl, rfl, hW.ret ht⟩, hS.F ht⟩) hS.2.2 dX3_ranked_40
      · have h := ite_f c_1 h
        refine lv_aload_n hx hb dX3_ranked_10 rfl (lv_at hl 0 rfl) ?_
        refine va_get (D := G.1) (ci := 3) (v := .ref (gad G (14 + (10 * c + 3)))) (C := RX3) (T := TX3) (N := 5) hx hb hts hiX3 hown hK.1 hW.1 (7 + c) (lkP (c := c) (by omega)) rfl 3 (by decide) (hts _ (List.mem_of_getElem? (i := 2) rfl)) (fun _ h9 => h9) rfl dX3_ranked_11 ?_
        refine lv_iload_n hx hb dX3_ranked_14 rfl (lv_at hl 3 rfl) ?_
        obtain ⟨r_2, e_3, h⟩ := bnd_e h
        refine kV_I (As := [.int l3]) (rest := []) ⟨hx, hb, hml, hown, hts⟩ (tX4_at l G S0 M0 ((10 * c + 3)) (by omega) l3 r_2 e_3) (cwV 1 hts gX3_ranked_X4_at rfl rfl rfl ⟨rfl, hdX4_at⟩ ⟨Nat.le_of_ble_eq_true rfl, Nat.le_of_ble_eq_true rfl⟩) (va_recv hK.1 hW.1 (ci := 4) (q0 := (14 + (10 * c + 3))) rfl (lkR (r := (10 * c + 3)) (by omega))) hK hW hS hA rfl hl.1 rfl (Nat.le_of_ble_eq_true rfl) dX3_ranked_15 ⟨Nat.zero_le _, Nat.zero_le _⟩ (fun H locs hW hS => ?_)
        refine lv_iload_n hx hb dX3_ranked_18 rfl (lv_at hl 1 rfl) ?_
        refine lv_icmp_ne (tgt := 33) hx hb dX3_ranked_19 (by decide) (fun c_4 => ?_) (fun c_4 => ?_)
        · have h := ite_f c_4 h
          exact B33 _ _ hW hS ls l1 l2 l3 (lv_sub hl [0, 1, 2, 3] rfl) h
        · have h := ite_t c_4 h
          refine lv_aload_n hx hb dX3_ranked_22 rfl (lv_at hl 0 rfl) ?_
          refine lv_iload_n hx hb dX3_ranked_23 rfl (lv_at hl 3 rfl) ?_
          obtain ⟨r_5, e_6, h⟩ := bnd_e h
          refine kV_I (As := [.int l3]) (rest := []) ⟨hx, hb, hml, hown, hts⟩ (tX3_rankOf l G S0 M0 c (by omega) l3 r_5 e_6) (cwV 1 hts gX3_ranked_X3_rankOf rfl rfl rfl ⟨rfl, hdX3_rankOf⟩ ⟨Nat.le_of_ble_eq_true rfl, Nat.le_of_ble_eq_true rfl⟩) (va_recv hK.1 hW.1 (ci := 3) (q0 := (7 + c)) rfl (lkP (c := c) (by omega))) hK hW hS hA rfl hl.1 rfl (Nat.le_of_ble_eq_true rfl) dX3_ranked_24 ⟨Nat.zero_le _, Nat.zero_le _⟩ (fun H locs hW hS => ?_)
          refine lv_iload_n hx hb dX3_ranked_27 rfl (lv_at hl 2 rfl) ?_
          refine lv_icmp_ne (tgt := 33) hx hb dX3_ranked_28 (by decide) (fun c_7 => ?_) (fun c_7 => ?_)
          · have h := ite_f c_7 h
            exact B33 _ _ hW hS ls l1 l2 l3 (lv_sub hl [0, 1, 2, 3] rfl) h
          · have h := ite_t c_7 h
            refine lv_iload_n hx hb dX3_ranked_31 rfl (lv_at hl 3 rfl) ?_
            obtain rfl := Option.some.inj h
            exact W.iret hx hb hr (fun t ht hw => ⟨⟨_, (), rfl, rfl, hW.ret ht⟩, hS.F ht⟩) hS.2.2 dX3_ranked_32
  unfold f3_ranked at h
  refine lv_iconst (v := 0) hx hb dX3_ranked_0 (by decide) ?_
  refine lv_istore_n (lv' := [(3, .int 0), (0, .ref (gad G (7 + c))), (1, .int p1), (2, .int p2)]) hx hb dX3_ranked_1 rfl hl (by decide) rfl (fun ls hl => ?_)
  exact B2 fuelN _ _ hW hS ls p1 p2 0 (lv_sub hl [1, 2, 3, 0] rfl) h
abbrev rX3_greatestDepth : Room := { frames := 1, cells := 0, slots := 0, locals := 21 }
set_option maxRecDepth 100000 in
set_option maxHeartbeats 8000000 in
theorem tX3_greatestDepth (l : Launch) (G : WG) (S0 M0 : St) (c : Nat) (hc : c < 7) (rr : Int32) (h : f3_greatestDepth S0 c = some (rr)) : CtI l yX3_greatestDepth wsX3_greatestDepth rX3_greatestDepth G [.ref (gad G (7 + c))] S0 M0 rr S0 M0 := by
  refine Met.ofW (cc := cX3_greatestDepth) (maxL := 3) (ret := (some .int)) (by decide) rfl ?_
  intro p e s m args below meth cd s₁ B hml hv
  obtain ⟨hargs, hK, hW⟩ := hv
  have hx := B.exec
  have hb := B.bytes
  have hr := B.returns
  have hts := atoms_spec (ws := wsX3_greatestDepth) B.pre
  have hown : s.vm.findClass RX3 = some m.cls := findClass_of_methodNamed B.named
  have hlocks := B.notSynchronized
  have hA : ∀ q, Aw G q → Aw G q := fun _ h => h
  have hS : va_S (Aw G) s.heap s.heap [] := va_S.rf
  have he0 : entryFrame m args 3 = F0 m 0 ((lg_sl ([.ref (gad G (7 + c))]) ++ List.replicate (3 - (lg_sl ([.ref (gad G (7 + c))])).length) Slot.unset).toArray) [] := by rw [hargs]; exact lg_entry_eq _ _ _
  have hl := lv_entry ([.ref (gad G (7 + c))]) (n := 3) (Nat.le_of_ble_eq_true rfl)
  rw [he0]
  generalize (lg_sl ([.ref (gad G (7 + c))]) ++ List.replicate (3 - (lg_sl ([.ref (gad G (7 + c))])).length) Slot.unset).toArray = ls at hl ⊢
  have hl : lv_has ls 3 [(0, .ref (gad G (7 + c)))] := hl
  have hiX3 : ∀ w ∈ u_ws RX3 TX3 5, w ∈ wsX3_greatestDepth := by decide +kernel
  have B4 : ∀ (n : Nat), ∀ (H : Heap) (locs : List Loc) (_ : WD G S0 M0 H) (_ : va_S (Aw G) s.heap H locs) (ls : Array Slot) (l1 : Int32) (l2 : Int32) (_ : lv_has ls 3 [(0, .ref (gad G (7 + c))), (1, .int l1), (2, .int l2)]) (h : f3_greatestDepth_b4 S0 c n l1 l2 = some (rr)), WI p l e (headSpec wsX3_greatestDepth rX3_greatestDepth).room s m args below meth cd G rr S0 M0 H locs (F0 m 4 ls []) := by
    intro n
    induction n with
    | zero => intro H locs hW hS ls l1 l2 hl h; cases (show (none : Option (Int32)) = some _ from h)
    | succ n ih =>
      intro H locs hW hS ls l1 l2 hl h
      rw [f3_greatestDepth_b4] at h
      refine lv_iload_n hx hb dX3_greatestDepth_4 rfl (lv_at hl 2 rfl) ?_
      refine lv_aload_n hx hb dX3_greatestDepth_5 rfl (lv_at hl 0 rfl) ?_
      refine va_get (D := G.1) (ci := 3) (v := .int (S0.1 (6 * c + 0))) (C := RX3) (T := TX3) (N := 5) hx hb hts hiX3 hown hK.1 hW.1 (7 + c) (lkP (c := c) (by omega)) rfl 4 (by decide) (hts _ (List.mem_of_getElem? (i := 1) rfl)) (fun _ h9 => h9) rfl dX3_greatestDepth_6 ?_
      refine lv_icmp_ge (tgt := 31) hx hb dX3_greatestDepth_9 (by decide) (fun c_1 => ?_) (fun c_1 => ?_)
      · have h := ite_t c_1 h
        refine lv_iload_n hx hb dX3_greatestDepth_31 rfl (lv_at hl 1 rfl) ?_
        obtain rfl := Option.some.inj h
        exact W.iret hx hb hr (fun t ht hw => ⟨⟨_, (), rfl, rfl, hW.ret ht⟩, hS.F ht⟩) hS.2.2 dX3_greatestDepth_32
      · have h := ite_f c_1 h
        refine lv_iload_n hx hb dX3_greatestDepth_12 rfl (lv_at hl 1 rfl) ?_
        refine lv_aload_n hx hb dX3_greatestDepth_13 rfl (lv_at hl 0 rfl) ?_
        refine va_get (D := G.1) (ci := 3) (v := .ref (gad G (14 + (10 * c + 2)))) (C := RX3) (T := TX3) (N := 5) hx hb hts hiX3 hown hK.1 hW.1 (7 + c) (lkP (c := c) (by omega)) rfl 2 (by decide) (hts _ (List.mem_of_getElem? (i := 2) rfl)) (fun _ h9 => h9) rfl dX3_greatestDepth_14 ?_
        refine lv_iload_n hx hb dX3_greatestDepth_17 rfl (lv_at hl 2 rfl) ?_
        obtain ⟨r_2, e_3, h⟩ := bnd_e h
        refine kV_I (As := [.int l2]) (rest := [.int l1]) ⟨hx, hb, hml, hown, hts⟩ (tX4_at l G S0 M0 ((10 * c + 2)) (by omega) l2 r_2 e_3) (cwV 1 hts gX3_greatestDepth_X4_at rfl rfl rfl ⟨rfl, hdX4_at⟩ ⟨Nat.le_of_ble_eq_true rfl, Nat.le_of_ble_eq_true rfl⟩) (va_recv hK.1 hW.1 (ci := 4) (q0 := (14 + (10 * c + 2))) rfl (lkR (r := (10 * c + 2)) (by omega))) hK hW hS hA rfl hl.1 rfl (Nat.le_of_ble_eq_true rfl) dX3_greatestDepth_18 ⟨Nat.zero_le _, Nat.zero_le _⟩ (fun H locs hW hS => ?_)
        refine va_mmax hx hb (hml.trans hl.1.symm) hown (hts _ (List.mem_of_getElem? (i := 3) rfl)) (hts _ (List.mem_of_getElem? (i := 4) rfl)) (hts _ (List.mem_of_getElem? (i := 5) rfl)) (hts _ (List.mem_of_getElem? (i := 6) rfl)) (Nat.le_of_ble_eq_true rfl) (Nat.le_of_ble_eq_true rfl) (Nat.zero_le _) (Nat.zero_le _) dX3_greatestDepth_21 ?_
        obtain ⟨x_4, ex_4, h⟩ := nam_e h
        refine lv_ni ex_4 ?_
        refine lv_istore_n (lv' := [(1, .int x_4), (0, .ref (gad G (7 + c))), (2, .int l2)]) hx hb dX3_greatestDepth_24 rfl hl (by decide) rfl (fun ls hl => ?_)
        refine lv_iinc (v := (l2 + 1)) (lv' := [(2, .int ((l2 + 1))), (1, .int x_4), (0, .ref (gad G (7 + c)))]) hx hb dX3_greatestDepth_25 hl (k := 2) rfl rfl (by decide) rfl (fun ls hl => ?_)
        refine lv_goto (tgt := 4) hx hb dX3_greatestDepth_28 (by decide) ?_
        exact ih _ _ hW hS ls x_4 ((l2 + 1)) (lv_sub hl [2, 1, 0] rfl) h
  unfold f3_greatestDepth at h
  refine lv_iconst (v := 0) hx hb dX3_greatestDepth_0 (by decide) ?_
  refine lv_istore_n (lv' := [(1, .int 0), (0, .ref (gad G (7 + c)))]) hx hb dX3_greatestDepth_1 rfl hl (by decide) rfl (fun ls hl => ?_)
  refine lv_iconst (v := 0) hx hb dX3_greatestDepth_2 (by decide) ?_
  refine lv_istore_n (lv' := [(2, .int 0), (1, .int 0), (0, .ref (gad G (7 + c)))]) hx hb dX3_greatestDepth_3 rfl hl (by decide) rfl (fun ls hl => ?_)
  exact B4 fuelN _ _ hW hS ls 0 0 (lv_sub hl [2, 1, 0] rfl) h
abbrev rX3_leastDepth : Room := { frames := 1, cells := 0, slots := 0, locals := 21 }
set_option maxRecDepth 100000 in
set_option maxHeartbeats 8000000 in
theorem tX3_leastDepth (l : Launch) (G : WG) (S0 M0 : St) (c : Nat) (hc : c < 7) (rr : Int32) (h : f3_leastDepth S0 c = some (rr)) : CtI l yX3_leastDepth wsX3_leastDepth rX3_leastDepth G [.ref (gad G (7 + c))] S0 M0 rr S0 M0 := by
  refine Met.ofW (cc := cX3_leastDepth) (maxL := 3) (ret := (some .int)) (by decide) rfl ?_
  intro p e s m args below meth cd s₁ B hml hv
  obtain ⟨hargs, hK, hW⟩ := hv
  have hx := B.exec
  have hb := B.bytes
  have hr := B.returns
  have hts := atoms_spec (ws := wsX3_leastDepth) B.pre
  have hown : s.vm.findClass RX3 = some m.cls := findClass_of_methodNamed B.named
  have hlocks := B.notSynchronized
  have hA : ∀ q, Aw G q → Aw G q := fun _ h => h
  have hS : va_S (Aw G) s.heap s.heap [] := va_S.rf
  have he0 : entryFrame m args 3 = F0 m 0 ((lg_sl ([.ref (gad G (7 + c))]) ++ List.replicate (3 - (lg_sl ([.ref (gad G (7 + c))])).length) Slot.unset).toArray) [] := by rw [hargs]; exact lg_entry_eq _ _ _
  have hl := lv_entry ([.ref (gad G (7 + c))]) (n := 3) (Nat.le_of_ble_eq_true rfl)
  rw [he0]
  generalize (lg_sl ([.ref (gad G (7 + c))]) ++ List.replicate (3 - (lg_sl ([.ref (gad G (7 + c))])).length) Slot.unset).toArray = ls at hl ⊢
  have hl : lv_has ls 3 [(0, .ref (gad G (7 + c)))] := hl
  have hiX3 : ∀ w ∈ u_ws RX3 TX3 5, w ∈ wsX3_leastDepth := by decide +kernel
  have B5 : ∀ (n : Nat), ∀ (H : Heap) (locs : List Loc) (_ : WD G S0 M0 H) (_ : va_S (Aw G) s.heap H locs) (ls : Array Slot) (l1 : Int32) (l2 : Int32) (_ : lv_has ls 3 [(0, .ref (gad G (7 + c))), (1, .int l1), (2, .int l2)]) (h : f3_leastDepth_b5 S0 c n l1 l2 = some (rr)), WI p l e (headSpec wsX3_leastDepth rX3_leastDepth).room s m args below meth cd G rr S0 M0 H locs (F0 m 5 ls []) := by
    intro n
    induction n with
    | zero => intro H locs hW hS ls l1 l2 hl h; cases (show (none : Option (Int32)) = some _ from h)
    | succ n ih =>
      intro H locs hW hS ls l1 l2 hl h
      rw [f3_leastDepth_b5] at h
      refine lv_iload_n hx hb dX3_leastDepth_5 rfl (lv_at hl 2 rfl) ?_
      refine lv_aload_n hx hb dX3_leastDepth_6 rfl (lv_at hl 0 rfl) ?_
      refine va_get (D := G.1) (ci := 3) (v := .int (S0.1 (6 * c + 0))) (C := RX3) (T := TX3) (N := 5) hx hb hts hiX3 hown hK.1 hW.1 (7 + c) (lkP (c := c) (by omega)) rfl 4 (by decide) (hts _ (List.mem_of_getElem? (i := 1) rfl)) (fun _ h9 => h9) rfl dX3_leastDepth_7 ?_
      refine lv_icmp_ge (tgt := 32) hx hb dX3_leastDepth_10 (by decide) (fun c_1 => ?_) (fun c_1 => ?_)
      · have h := ite_t c_1 h
        refine lv_iload_n hx hb dX3_leastDepth_32 rfl (lv_at hl 1 rfl) ?_
        obtain rfl := Option.some.inj h
        exact W.iret hx hb hr (fun t ht hw => ⟨⟨_, (), rfl, rfl, hW.ret ht⟩, hS.F ht⟩) hS.2.2 dX3_leastDepth_33
      · have h := ite_f c_1 h
        refine lv_iload_n hx hb dX3_leastDepth_13 rfl (lv_at hl 1 rfl) ?_
        refine lv_aload_n hx hb dX3_leastDepth_14 rfl (lv_at hl 0 rfl) ?_
        refine va_get (D := G.1) (ci := 3) (v := .ref (gad G (14 + (10 * c + 2)))) (C := RX3) (T := TX3) (N := 5) hx hb hts hiX3 hown hK.1 hW.1 (7 + c) (lkP (c := c) (by omega)) rfl 2 (by decide) (hts _ (List.mem_of_getElem? (i := 2) rfl)) (fun _ h9 => h9) rfl dX3_leastDepth_15 ?_
        refine lv_iload_n hx hb dX3_leastDepth_18 rfl (lv_at hl 2 rfl) ?_
        obtain ⟨r_2, e_3, h⟩ := bnd_e h
        refine kV_I (As := [.int l2]) (rest := [.int l1]) ⟨hx, hb, hml, hown, hts⟩ (tX4_at l G S0 M0 ((10 * c + 2)) (by omega) l2 r_2 e_3) (cwV 1 hts gX3_leastDepth_X4_at rfl rfl rfl ⟨rfl, hdX4_at⟩ ⟨Nat.le_of_ble_eq_true rfl, Nat.le_of_ble_eq_true rfl⟩) (va_recv hK.1 hW.1 (ci := 4) (q0 := (14 + (10 * c + 2))) rfl (lkR (r := (10 * c + 2)) (by omega))) hK hW hS hA rfl hl.1 rfl (Nat.le_of_ble_eq_true rfl) dX3_leastDepth_19 ⟨Nat.zero_le _, Nat.zero_le _⟩ (fun H locs hW hS => ?_)
        refine va_mmin hx hb (hml.trans hl.1.symm) hown (hts _ (List.mem_of_getElem? (i := 3) rfl)) (hts _ (List.mem_of_getElem? (i := 4) rfl)) (hts _ (List.mem_of_getElem? (i := 5) rfl)) (hts _ (List.mem_of_getElem? (i := 6) rfl)) (Nat.le_of_ble_eq_true rfl) (Nat.le_of_ble_eq_true rfl) (Nat.zero_le _) (Nat.zero_le _) dX3_leastDepth_22 ?_
        obtain ⟨x_4, ex_4, h⟩ := nam_e h
        refine lv_ni ex_4 ?_
        refine lv_istore_n (lv' := [(1, .int x_4), (0, .ref (gad G (7 + c))), (2, .int l2)]) hx hb dX3_leastDepth_25 rfl hl (by decide) rfl (fun ls hl => ?_)
        refine lv_iinc (v := (l2 + 1)) (lv' := [(2, .int ((l2 + 1))), (1, .int x_4), (0, .ref (gad G (7 + c)))]) hx hb dX3_leastDepth_26 hl (k := 2) rfl rfl (by decide) rfl (fun ls hl => ?_)
        refine lv_goto (tgt := 5) hx hb dX3_leastDepth_29 (by decide) ?_
        exact ih _ _ hW hS ls x_4 ((l2 + 1)) (lv_sub hl [2, 1, 0] rfl) h
  unfold f3_leastDepth at h
  refine lv_bipush (v := 12) hx hb dX3_leastDepth_0 (by decide) ?_
  refine lv_istore_n (lv' := [(1, .int 12), (0, .ref (gad G (7 + c)))]) hx hb dX3_leastDepth_2 rfl hl (by decide) rfl (fun ls hl => ?_)
  refine lv_iconst (v := 0) hx hb dX3_leastDepth_3 (by decide) ?_
  refine lv_istore_n (lv' := [(2, .int 0), (1, .int 12), (0, .ref (gad G (7 + c)))]) hx hb dX3_leastDepth_4 rfl hl (by decide) rfl (fun ls hl => ?_)
  exact B5 fuelN _ _ hW hS ls 12 0 (lv_sub hl [2, 1, 0] rfl) h
abbrev rX5_isPoint : Room := { frames := 0, cells := 0, slots := 0, locals := 0 }
set_option maxRecDepth 100000 in
set_option maxHeartbeats 8000000 in
theorem tX5_isPoint (l : Launch) (G : WG) (S0 M0 : St) (p0 : Int32) (p1 : Int32) (rr : Int32) (h : f5_isPoint p0 p1 = some (rr)) : CtI l yX5_isPoint wsX5_isPoint rX5_isPoint G [.int p0, .int p1] S0 M0 rr S0 M0 := by
  refine Met.ofW (cc := cX5_isPoint) (maxL := 2) (ret := (some .boolean)) (by decide) rfl ?_
  intro p e s m args below meth cd s₁ B hml hv
  obtain ⟨hargs, hK, hW⟩ := hv
  have hx := B.exec
  have hb := B.bytes
  have hr := B.returns
  have hts := atoms_spec (ws := wsX5_isPoint) B.pre
  have hown : s.vm.findClass RX5 = some m.cls := findClass_of_methodNamed B.named
  have hlocks := B.notSynchronized
  have hA : ∀ q, Aw G q → Aw G q := fun _ h => h
  have hS : va_S (Aw G) s.heap s.heap [] := va_S.rf
  have he0 : entryFrame m args 2 = F0 m 0 ((lg_sl ([.int p0, .int p1]) ++ List.replicate (2 - (lg_sl ([.int p0, .int p1])).length) Slot.unset).toArray) [] := by rw [hargs]; exact lg_entry_eq _ _ _
  have hl := lv_entry ([.int p0, .int p1]) (n := 2) (Nat.le_of_ble_eq_true rfl)
  rw [he0]
  generalize (lg_sl ([.int p0, .int p1]) ++ List.replicate (2 - (lg_sl ([.int p0, .int p1])).length) Slot.unset).toArray = ls at hl ⊢
  have hl : lv_has ls 2 [(0, .int p0), (1, .int p1)] := hl
  have B25 : ∀ (H : Heap) (locs : List Loc) (_ : WD G S0 M0 H) (_ : va_S (Aw G) s.heap H locs) (ls : Array Slot) (k0 : Int32) (_ : lv_has ls 2 []) (h : f5_isPoint_b25  k0 = some (rr)), WI p l e (headSpec wsX5_isPoint rX5_isPoint).room s m args below meth cd G rr S0 M0 H locs (F0 m 25 ls [.int k0]) := by
    intro H locs hW hS ls k0 hl h
    unfold f5_isPoint_b25 at h
    obtain ⟨z_1, h⟩ := isz_e h
    obtain rfl := Option.some.inj h
    exact W.zret (ty := .boolean) hx hb hr (nz_1 z_1) (fun t ht hw => ⟨⟨_, (), rfl, rfl, hW.ret ht⟩, hS.F ht⟩) hS.2.2 dX5_isPoint_25
  have B24 : ∀ (H : Heap) (locs : List Loc) (_ : WD G S0 M0 H) (_ : va_S (Aw G) s.heap H locs) (ls : Array Slot) (_ : lv_has ls 2 []) (h : f5_isPoint_b24   = some (rr)), WI p l e (headSpec wsX5_isPoint rX5_isPoint).room s m args below meth cd G rr S0 M0 H locs (F0 m 24 ls []) := by
    intro H locs hW hS ls hl h
    unfold f5_isPoint_b24 at h
    refine lv_iconst (v := 0) hx hb dX5_isPoint_24 (by decide) ?_
    exact B25 _ _ hW hS ls 0 (lv_sub hl [] rfl) h
  unfold f5_isPoint at h
  refine lv_iload_n hx hb dX5_isPoint_0 rfl (lv_at hl 0 rfl) ?_
  refine lv_if_lt (tgt := 24) hx hb dX5_isPoint_1 (by decide) (fun c_1 => ?_) (fun c_1 => ?_)
  · have h := ite_t c_1 h
    exact B24 _ _ hW hS ls (lv_sub hl [] rfl) h
  · have h := ite_f c_1 h
    refine lv_iload_n hx hb dX5_isPoint_4 rfl (lv_at hl 0 rfl) ?_
    refine lv_bipush (v := 64) hx hb dX5_isPoint_5 (by decide) ?_
    refine lv_icmp_ge (tgt := 24) hx hb dX5_isPoint_7 (by decide) (fun c_2 => ?_) (fun c_2 => ?_)
    · have h := ite_t c_2 h
      exact B24 _ _ hW hS ls (lv_sub hl [] rfl) h
    · have h := ite_f c_2 h
      refine lv_iload_n hx hb dX5_isPoint_10 rfl (lv_at hl 1 rfl) ?_
      refine lv_if_lt (tgt := 24) hx hb dX5_isPoint_11 (by decide) (fun c_3 => ?_) (fun c_3 => ?_)
      · have h := ite_t c_3 h
        exact B24 _ _ hW hS ls (lv_sub hl [] rfl) h
      · have h := ite_f c_3 h
        refine lv_iload_n hx hb dX5_isPoint_14 rfl (lv_at hl 1 rfl) ?_
        refine lv_bipush (v := 64) hx hb dX5_isPoint_15 (by decide) ?_
        refine lv_icmp_ge (tgt := 24) hx hb dX5_isPoint_17 (by decide) (fun c_4 => ?_) (fun c_4 => ?_)
        · have h := ite_t c_4 h
          exact B24 _ _ hW hS ls (lv_sub hl [] rfl) h
        · have h := ite_f c_4 h
          refine lv_iconst (v := 1) hx hb dX5_isPoint_20 (by decide) ?_
          refine lv_goto (tgt := 25) hx hb dX5_isPoint_21 (by decide) ?_
          exact B25 _ _ hW hS ls 1 (lv_sub hl [] rfl) h
abbrev rX5_toldOwnerOf : Room := { frames := 5, cells := 0, slots := 0, locals := 113 }
set_option maxRecDepth 100000 in
set_option maxHeartbeats 8000000 in
theorem tX5_toldOwnerOf (l : Launch) (G : WG) (S0 M0 : St) (p1 : Int32) (rr : Int32) (h : f5_toldOwnerOf S0 p1 = some (rr)) : CtI l yX5_toldOwnerOf wsX5_toldOwnerOf rX5_toldOwnerOf G [.ref (gad G 154), .int p1] S0 M0 rr S0 M0 := by
  refine Met.ofW (cc := cX5_toldOwnerOf) (maxL := 3) (ret := (some .int)) (by decide) rfl ?_
  intro p e s m args below meth cd s₁ B hml hv
  obtain ⟨hargs, hK, hW⟩ := hv
  have hx := B.exec
  have hb := B.bytes
  have hr := B.returns
  have hts := atoms_spec (ws := wsX5_toldOwnerOf) B.pre
  have hown : s.vm.findClass RX5 = some m.cls := findClass_of_methodNamed B.named
  have hlocks := B.notSynchronized
  have hA : ∀ q, Aw G q → Aw G q := fun _ h => h
  have hS : va_S (Aw G) s.heap s.heap [] := va_S.rf
  have he0 : entryFrame m args 3 = F0 m 0 ((lg_sl ([.ref (gad G 154), .int p1]) ++ List.replicate (3 - (lg_sl ([.ref (gad G 154), .int p1])).length) Slot.unset).toArray) [] := by rw [hargs]; exact lg_entry_eq _ _ _
  have hl := lv_entry ([.ref (gad G 154), .int p1]) (n := 3) (Nat.le_of_ble_eq_true rfl)
  rw [he0]
  generalize (lg_sl ([.ref (gad G 154), .int p1]) ++ List.replicate (3 - (lg_sl ([.ref (gad G 154), .int p1])).length) Slot.unset).toArray = ls at hl ⊢
  have hl : lv_has ls 3 [(0, .ref (gad G 154)), (1, .int p1)] := hl
  have hiX5 : ∀ w ∈ u_ws RX5 TX5 6, w ∈ wsX5_toldOwnerOf := by decide +kernel
  have B20 : ∀ (H : Heap) (locs : List Loc) (_ : WD G S0 M0 H) (_ : va_S (Aw G) s.heap H locs) (ls : Array Slot) (k0 : Int32) (_ : lv_has ls 3 []) (h : f5_toldOwnerOf_b20 S0 k0 = some (rr)), WI p l e (headSpec wsX5_toldOwnerOf rX5_toldOwnerOf).room s m args below meth cd G rr S0 M0 H locs (F0 m 20 ls [.int k0]) := by
    intro H locs hW hS ls k0 hl h
    unfold f5_toldOwnerOf_b20 at h
    obtain rfl := Option.some.inj h
    exact W.iret hx hb hr (fun t ht hw => ⟨⟨_, (), rfl, rfl, hW.ret ht⟩, hS.F ht⟩) hS.2.2 dX5_toldOwnerOf_20
  unfold f5_toldOwnerOf at h
  refine lv_aload_n hx hb dX5_toldOwnerOf_0 rfl (lv_at hl 0 rfl) ?_
  refine va_get (D := G.1) (ci := 5) (v := .ref (gad G 0)) (C := RX5) (T := TX5) (N := 6) hx hb hts hiX5 hown hK.1 hW.1 154 lkT rfl 0 (by decide) (hts _ (List.mem_of_getElem? (i := 1) rfl)) (fun _ h9 => h9) rfl dX5_toldOwnerOf_1 ?_
  refine lv_iload_n hx hb dX5_toldOwnerOf_4 rfl (lv_at hl 1 rfl) ?_
  obtain ⟨r_1, e_2, h⟩ := bnd_e h
  refine kV_I (As := [.int p1]) (rest := []) ⟨hx, hb, hml, hown, hts⟩ (tX0_ownerOfSong l G S0 M0 0 (by omega) p1 r_1 e_2) (cwV 1 hts gX5_toldOwnerOf_X0_ownerOfSong rfl rfl rfl ⟨rfl, hdX0_ownerOfSong⟩ ⟨Nat.le_of_ble_eq_true rfl, Nat.le_of_ble_eq_true rfl⟩) (va_recv hK.1 hW.1 (ci := 0) (q0 := 0) rfl (lkC (c := 0) (by omega))) hK hW hS hA rfl hl.1 rfl (Nat.le_of_ble_eq_true rfl) dX5_toldOwnerOf_5 ⟨Nat.zero_le _, Nat.zero_le _⟩ (fun H locs hW hS => ?_)
  refine lv_istore_n (lv' := [(2, .int r_1), (0, .ref (gad G 154)), (1, .int p1)]) hx hb dX5_toldOwnerOf_8 rfl hl (by decide) rfl (fun ls hl => ?_)
  refine lv_iload_n hx hb dX5_toldOwnerOf_9 rfl (lv_at hl 0 rfl) ?_
  refine lv_iconst (v := (-1)) hx hb dX5_toldOwnerOf_10 (by decide) ?_
  refine lv_icmp_ne (tgt := 19) hx hb dX5_toldOwnerOf_11 (by decide) (fun c_3 => ?_) (fun c_3 => ?_)
  · have h := ite_f c_3 h
    refine lv_iload_n hx hb dX5_toldOwnerOf_19 rfl (lv_at hl 0 rfl) ?_
    exact B20 _ _ hW hS ls r_1 (lv_sub hl [] rfl) h
  · have h := ite_t c_3 h
    refine lv_bipush (v := 100) hx hb dX5_toldOwnerOf_14 (by decide) ?_
    refine lv_goto (tgt := 20) hx hb dX5_toldOwnerOf_16 (by decide) ?_
    exact B20 _ _ hW hS ls 100 (lv_sub hl [] rfl) h
abbrev rX5_type : Room := { frames := 1, cells := 0, slots := 0, locals := 21 }
set_option maxRecDepth 100000 in
set_option maxHeartbeats 8000000 in
theorem tX5_type (l : Launch) (G : WG) (S0 M0 : St) (p1 : Int32) (rr : Int32) (S' : St) (h : f5_type S0 p1 = some (rr, S')) : CtI l yX5_type wsX5_type rX5_type G [.ref (gad G 154), .int p1] S0 M0 rr S' M0 := by
  refine Met.ofW (cc := cX5_type) (maxL := 2) (ret := (some .int)) (by decide) rfl ?_
  intro p e s m args below meth cd s₁ B hml hv
  obtain ⟨hargs, hK, hW⟩ := hv
  have hx := B.exec
  have hb := B.bytes
  have hr := B.returns
  have hts := atoms_spec (ws := wsX5_type) B.pre
  have hown : s.vm.findClass RX5 = some m.cls := findClass_of_methodNamed B.named
  have hlocks := B.notSynchronized
  have hA : ∀ q, Aw G q → Aw G q := fun _ h => h
  have hS : va_S (Aw G) s.heap s.heap [] := va_S.rf
  have he0 : entryFrame m args 2 = F0 m 0 ((lg_sl ([.ref (gad G 154), .int p1]) ++ List.replicate (2 - (lg_sl ([.ref (gad G 154), .int p1])).length) Slot.unset).toArray) [] := by rw [hargs]; exact lg_entry_eq _ _ _
  have hl := lv_entry ([.ref (gad G 154), .int p1]) (n := 2) (Nat.le_of_ble_eq_true rfl)
  rw [he0]
  generalize (lg_sl ([.ref (gad G 154), .int p1]) ++ List.replicate (2 - (lg_sl ([.ref (gad G 154), .int p1])).length) Slot.unset).toArray = ls at hl ⊢
  have hl : lv_has ls 2 [(0, .ref (gad G 154)), (1, .int p1)] := hl
  have hiX1 : ∀ w ∈ u_ws RX1 TX1 2, w ∈ wsX5_type := by decide +kernel
  have hiX5 : ∀ w ∈ u_ws RX5 TX5 6, w ∈ wsX5_type := by decide +kernel
  have B23 : ∀ (H : Heap) (locs : List Loc) (S : St) (_ : WD G S M0 H) (_ : va_S (Aw G) s.heap H locs) (ls : Array Slot) (k0 : Int32) (_ : lv_has ls 2 []) (h : f5_type_b23 S k0 = some (rr, S')), WI p l e (headSpec wsX5_type rX5_type).room s m args below meth cd G rr S' M0 H locs (F0 m 23 ls [.int k0]) := by
    intro H locs S hW hS ls k0 hl h
    unfold f5_type_b23 at h
    obtain ⟨rfl, rfl⟩ := Prod.mk.inj (Option.some.inj h)
    exact W.iret hx hb hr (fun t ht hw => ⟨⟨_, (), rfl, rfl, hW.ret ht⟩, hS.F ht⟩) hS.2.2 dX5_type_23
  unfold f5_type at h
  refine lv_aload_n hx hb dX5_type_0 rfl (lv_at hl 0 rfl) ?_
  refine va_get (D := G.1) (ci := 5) (v := .ref (gad G 157)) (C := RX5) (T := TX5) (N := 6) hx hb hts hiX5 hown hK.1 hW.1 154 lkT rfl 4 (by decide) (hts _ (List.mem_of_getElem? (i := 1) rfl)) (fun _ h9 => h9) rfl dX5_type_1 ?_
  refine lv_iload_n hx hb dX5_type_4 rfl (lv_at hl 1 rfl) ?_
  obtain ⟨r_1, S_2, e_3, h⟩ := bd2_e h
  refine kV_I (As := [.int p1]) (rest := []) ⟨hx, hb, hml, hown, hts⟩ (tX1_append l G S0 M0 p1 r_1 S_2 e_3) (cwV 1 hts gX5_type_X1_append rfl rfl rfl ⟨rfl, hdX1_append⟩ ⟨Nat.le_of_ble_eq_true rfl, Nat.le_of_ble_eq_true rfl⟩) (va_recv hK.1 hW.1 (ci := 1) (q0 := 157) rfl lkX) hK hW hS hA rfl hl.1 rfl (Nat.le_of_ble_eq_true rfl) dX5_type_5 ⟨Nat.zero_le _, Nat.zero_le _⟩ (fun H locs hW hS => ?_)
  refine lv_if_eq (tgt := 21) hx hb dX5_type_8 (by decide) (fun c_4 => ?_) (fun c_4 => ?_)
  · have h := ite_t c_4 h
    refine lv_bipush (v := (-3)) hx hb dX5_type_21 (by decide) ?_
    exact B23 _ _ S_2 hW hS ls ((-3)) (lv_sub hl [] rfl) h
  · have h := ite_f c_4 h
    refine lv_aload_n hx hb dX5_type_11 rfl (lv_at hl 0 rfl) ?_
    refine va_get (D := G.1) (ci := 5) (v := .ref (gad G 157)) (C := RX5) (T := TX5) (N := 6) hx hb hts hiX5 hown hK.1 hW.1 154 lkT rfl 4 (by decide) (hts _ (List.mem_of_getElem? (i := 1) rfl)) (fun _ h9 => h9) rfl dX5_type_12 ?_
    refine va_getN (D := G.1) (ci := 1) (v := .int (S_2.1 45)) (C := RX1) (T := TX1) (N := 2) hx hb hts hiX1 hown hK.1 hW.1 157 lkX rfl 1 (by decide) (va_Nw.use rfl (hK.2 _ (List.mem_of_getElem? (i := 12) rfl))) (fun _ h9 => h9) rfl dX5_type_15 ?_
    refine lv_goto (tgt := 23) hx hb dX5_type_18 (by decide) ?_
    exact B23 _ _ S_2 hW hS ls (S_2.1 45) (lv_sub hl [] rfl) h
abbrev rX5_clearText : Room := { frames := 0, cells := 0, slots := 0, locals := 0 }
set_option maxRecDepth 100000 in
set_option maxHeartbeats 8000000 in
theorem tX5_clearText (l : Launch) (G : WG) (S0 M0 : St) (rr : Int32) (S' : St) (h : f5_clearText S0 = some (rr, S')) : CtI l yX5_clearText wsX5_clearText rX5_clearText G [.ref (gad G 154)] S0 M0 rr S' M0 := by
  refine Met.ofW (cc := cX5_clearText) (maxL := 2) (ret := (some .int)) (by decide) rfl ?_
  intro p e s m args below meth cd s₁ B hml hv
  obtain ⟨hargs, hK, hW⟩ := hv
  have hx := B.exec
  have hb := B.bytes
  have hr := B.returns
  have hts := atoms_spec (ws := wsX5_clearText) B.pre
  have hown : s.vm.findClass RX5 = some m.cls := findClass_of_methodNamed B.named
  have hlocks := B.notSynchronized
  have hA : ∀ q, Aw G q → Aw G q := fun _ h => h
  have hS : va_S (Aw G) s.heap s.heap [] := va_S.rf
  have he0 : entryFrame m args 2 = F0 m 0 ((lg_sl ([.ref (gad G 154)]) ++ List.replicate (2 - (lg_sl ([.ref (gad G 154)])).length) Slot.unset).toArray) [] := by rw [hargs]; exact lg_entry_eq _ _ _
  have hl := lv_entry ([.ref (gad G 154)]) (n := 2) (Nat.le_of_ble_eq_true rfl)
  rw [he0]
  generalize (lg_sl ([.ref (gad G 154)]) ++ List.replicate (2 - (lg_sl ([.ref (gad G 154)])).length) Slot.unset).toArray = ls at hl ⊢
  have hl : lv_has ls 2 [(0, .ref (gad G 154))] := hl
  have hiX1 : ∀ w ∈ u_ws RX1 TX1 2, w ∈ wsX5_clearText := by decide +kernel
  have hiX5 : ∀ w ∈ u_ws RX5 TX5 6, w ∈ wsX5_clearText := by decide +kernel
  unfold f5_clearText at h
  refine lv_aload_n hx hb dX5_clearText_0 rfl (lv_at hl 0 rfl) ?_
  refine va_get (D := G.1) (ci := 5) (v := .ref (gad G 157)) (C := RX5) (T := TX5) (N := 6) hx hb hts hiX5 hown hK.1 hW.1 154 lkT rfl 4 (by decide) (hts _ (List.mem_of_getElem? (i := 1) rfl)) (fun _ h9 => h9) rfl dX5_clearText_1 ?_
  refine va_getN (D := G.1) (ci := 1) (v := .int (S0.1 45)) (C := RX1) (T := TX1) (N := 2) hx hb hts hiX1 hown hK.1 hW.1 157 lkX rfl 1 (by decide) (va_Nw.use rfl (hK.2 _ (List.mem_of_getElem? (i := 12) rfl))) (fun _ h9 => h9) rfl dX5_clearText_4 ?_
  obtain ⟨x_1, ex_1, h⟩ := nam_e h
  refine lv_ni ex_1 ?_
  refine lv_istore_n (lv' := [(1, .int x_1), (0, .ref (gad G 154))]) hx hb dX5_clearText_7 rfl hl (by decide) rfl (fun ls hl => ?_)
  refine lv_aload_n hx hb dX5_clearText_8 rfl (lv_at hl 1 rfl) ?_
  refine va_get (D := G.1) (ci := 5) (v := .ref (gad G 157)) (C := RX5) (T := TX5) (N := 6) hx hb hts hiX5 hown hK.1 hW.1 154 lkT rfl 4 (by decide) (hts _ (List.mem_of_getElem? (i := 1) rfl)) (fun _ h9 => h9) rfl dX5_clearText_9 ?_
  refine lv_iconst (v := 0) hx hb dX5_clearText_12 (by decide) ?_
  obtain ⟨S_2, eS_2, h⟩ := nam_e h
  refine va_putN (D := G.1) (ci := 1) (v := .int 0) (ty := .int) (C := RX1) (T := TX1) (N := 2) hx hb hts hiX1 tyX1 tyX1_ok nmX1 hown hK.1 hW.1 (hW.D hA) hS 157 lkX rfl 1 (by decide) (va_Nw.use rfl (hK.2 _ (List.mem_of_getElem? (i := 12) rfl))) (fun _ h9 => h9) rfl (by decide +kernel) rfl rfl (Nat.le_of_ble_eq_true rfl) dX5_clearText_13 (fun H locs hP hD hS => ?_)
  have hW := upX hW hP
  rw [← eS_2] at hW
  refine lv_iload_n hx hb dX5_clearText_16 rfl (lv_at hl 0 rfl) ?_
  obtain ⟨rfl, rfl⟩ := Prod.mk.inj (Option.some.inj h)
  exact W.iret hx hb hr (fun t ht hw => ⟨⟨_, (), rfl, rfl, hW.ret ht⟩, hS.F ht⟩) hS.2.2 dX5_clearText_17
abbrev rX5_keep : Room := { frames := 3, cells := 0, slots := 0, locals := 65 }
set_option maxRecDepth 100000 in
set_option maxHeartbeats 8000000 in
theorem tX5_keep (l : Launch) (G : WG) (S0 M0 : St) (rr : Int32) (S' : St) (h : f5_keep S0 = some (rr, S')) : CtI l yX5_keep wsX5_keep rX5_keep G [.ref (gad G 154)] S0 M0 rr S' M0 := by
  refine Met.ofW (cc := cX5_keep) (maxL := 1) (ret := (some .int)) (by decide) rfl ?_
  intro p e s m args below meth cd s₁ B hml hv
  obtain ⟨hargs, hK, hW⟩ := hv
  have hx := B.exec
  have hb := B.bytes
  have hr := B.returns
  have hts := atoms_spec (ws := wsX5_keep) B.pre
  have hown : s.vm.findClass RX5 = some m.cls := findClass_of_methodNamed B.named
  have hlocks := B.notSynchronized
  have hA : ∀ q, Aw G q → Aw G q := fun _ h => h
  have hS : va_S (Aw G) s.heap s.heap [] := va_S.rf
  have he0 : entryFrame m args 1 = F0 m 0 ((lg_sl ([.ref (gad G 154)]) ++ List.replicate (1 - (lg_sl ([.ref (gad G 154)])).length) Slot.unset).toArray) [] := by rw [hargs]; exact lg_entry_eq _ _ _
  have hl := lv_entry ([.ref (gad G 154)]) (n := 1) (Nat.le_of_ble_eq_true rfl)
  rw [he0]
  generalize (lg_sl ([.ref (gad G 154)]) ++ List.replicate (1 - (lg_sl ([.ref (gad G 154)])).length) Slot.unset).toArray = ls at hl ⊢
  have hl : lv_has ls 1 [(0, .ref (gad G 154))] := hl
  have hiX5 : ∀ w ∈ u_ws RX5 TX5 6, w ∈ wsX5_keep := by decide +kernel
  unfold f5_keep at h
  refine lv_aload_n hx hb dX5_keep_0 rfl (lv_at hl 0 rfl) ?_
  refine va_get (D := G.1) (ci := 5) (v := .ref (gad G 2)) (C := RX5) (T := TX5) (N := 6) hx hb hts hiX5 hown hK.1 hW.1 154 lkT rfl 2 (by decide) (hts _ (List.mem_of_getElem? (i := 1) rfl)) (fun _ h9 => h9) rfl dX5_keep_1 ?_
  refine lv_aload_n hx hb dX5_keep_4 rfl (lv_at hl 0 rfl) ?_
  refine va_get (D := G.1) (ci := 5) (v := .ref (gad G 0)) (C := RX5) (T := TX5) (N := 6) hx hb hts hiX5 hown hK.1 hW.1 154 lkT rfl 0 (by decide) (hts _ (List.mem_of_getElem? (i := 2) rfl)) (fun _ h9 => h9) rfl dX5_keep_5 ?_
  obtain ⟨S_1, e_2, h⟩ := bnd_e h
  refine kV_V (As := [.ref (gad G 0)]) (rest := []) ⟨hx, hb, hml, hown, hts⟩ (tX0_copyFrom l G S0 M0 2 (by omega) 0 (by omega) S_1 e_2) (cwV 1 hts gX5_keep_X0_copyFrom rfl rfl rfl ⟨rfl, hdX0_copyFrom⟩ ⟨Nat.le_of_ble_eq_true rfl, Nat.le_of_ble_eq_true rfl⟩) (va_recv hK.1 hW.1 (ci := 0) (q0 := 2) rfl (lkC (c := 2) (by omega))) hK hW hS hA rfl hl.1 rfl (Nat.le_of_ble_eq_true rfl) dX5_keep_8 ⟨Nat.zero_le _, Nat.zero_le _⟩ (fun H locs hW hS => ?_)
  refine lv_aload_n hx hb dX5_keep_11 rfl (lv_at hl 0 rfl) ?_
  refine lv_iconst (v := 1) hx hb dX5_keep_12 (by decide) ?_
  obtain ⟨S_3, eS_3, h⟩ := nam_e h
  refine va_put (D := G.1) (ci := 5) (v := .int 1) (ty := .boolean) (C := RX5) (T := TX5) (N := 6) hx hb hts hiX5 tyX5 tyX5_ok nmX5 hown hK.1 hW.1 (hW.D hA) hS 154 lkT rfl 5 (by decide) (hts _ (List.mem_of_getElem? (i := 3) rfl)) (fun _ h9 => h9) rfl (by decide +kernel) rfl rfl (Nat.le_of_ble_eq_true rfl) dX5_keep_13 (fun H locs hP hD hS => ?_)
  have hW := upT hW hP
  rw [← eS_3] at hW
  refine lv_aload_n hx hb dX5_keep_16 rfl (lv_at hl 0 rfl) ?_
  refine va_get (D := G.1) (ci := 5) (v := .ref (gad G 0)) (C := RX5) (T := TX5) (N := 6) hx hb hts hiX5 hown hK.1 hW.1 154 lkT rfl 0 (by decide) (hts _ (List.mem_of_getElem? (i := 2) rfl)) (fun _ h9 => h9) rfl dX5_keep_17 ?_
  obtain ⟨r_4, e_5, h⟩ := bnd_e h
  refine kV_I (As := []) (rest := []) ⟨hx, hb, hml, hown, hts⟩ (tX0_campersHere l G S_3 M0 0 (by omega) r_4 e_5) (cwV 0 hts gX5_keep_X0_campersHere rfl rfl rfl ⟨rfl, hdX0_campersHere⟩ ⟨Nat.le_of_ble_eq_true rfl, Nat.le_of_ble_eq_true rfl⟩) (va_recv hK.1 hW.1 (ci := 0) (q0 := 0) rfl (lkC (c := 0) (by omega))) hK hW hS hA rfl hl.1 rfl (Nat.le_of_ble_eq_true rfl) dX5_keep_20 ⟨Nat.zero_le _, Nat.zero_le _⟩ (fun H locs hW hS => ?_)
  obtain ⟨rfl, rfl⟩ := Prod.mk.inj (Option.some.inj h)
  exact W.iret hx hb hr (fun t ht hw => ⟨⟨_, (), rfl, rfl, hW.ret ht⟩, hS.F ht⟩) hS.2.2 dX5_keep_23
