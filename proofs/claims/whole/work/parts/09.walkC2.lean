abbrev rX6_otherHalf : Room := { frames := 1, cells := 0, slots := 0, locals := 22 }
set_option maxRecDepth 100000 in
set_option maxHeartbeats 8000000 in
theorem tX6_otherHalf (l : Launch) (G : WG) (S0 M0 : St) (p1 : Int32) (rr : Int32) (h : f6_otherHalf M0 p1 = some (rr)) : CtI l yX6_otherHalf wsX6_otherHalf rX6_otherHalf G [.ref (gad G 159), .int p1] S0 M0 rr S0 M0 := by
  refine Met.ofW (cc := cX6_otherHalf) (maxL := 6) (ret := (some .int)) (by decide) rfl ?_
  intro p e s m args below meth cd s₁ B hml hv
  obtain ⟨hargs, hK, hW⟩ := hv
  have hx := B.exec
  have hb := B.bytes
  have hr := B.returns
  have hts := atoms_spec (ws := wsX6_otherHalf) B.pre
  have hown : s.vm.findClass RX6 = some m.cls := findClass_of_methodNamed B.named
  have hlocks := B.notSynchronized
  have hA : ∀ q, Aw G q → Aw G q := fun _ h => h
  have hS : va_S (Aw G) s.heap s.heap [] := va_S.rf
  have he0 : entryFrame m args 6 = F0 m 0 ((lg_sl ([.ref (gad G 159), .int p1]) ++ List.replicate (6 - (lg_sl ([.ref (gad G 159), .int p1])).length) Slot.unset).toArray) [] := by rw [hargs]; exact lg_entry_eq _ _ _
  have hl := lv_entry ([.ref (gad G 159), .int p1]) (n := 6) (Nat.le_of_ble_eq_true rfl)
  rw [he0]
  generalize (lg_sl ([.ref (gad G 159), .int p1]) ++ List.replicate (6 - (lg_sl ([.ref (gad G 159), .int p1])).length) Slot.unset).toArray = ls at hl ⊢
  have hl : lv_has ls 6 [(0, .ref (gad G 159)), (1, .int p1)] := hl
  have hiX6 : ∀ w ∈ u_ws RX6 TX6 14, w ∈ wsX6_otherHalf := by decide +kernel
  have B74 : ∀ (n : Nat), ∀ (H : Heap) (locs : List Loc) (_ : WD G S0 M0 H) (_ : va_S (Aw G) s.heap H locs) (ls : Array Slot) (l2 : Int32) (l3 : Int32) (l4 : Int32) (l5 : Int32) (_ : lv_has ls 6 [(0, .ref (gad G 159)), (2, .int l2), (3, .int l3), (4, .int l4), (5, .int l5)]) (h : f6_otherHalf_b74 M0 l2 l3 l4 n l5 = some (rr)), WI p l e (headSpec wsX6_otherHalf rX6_otherHalf).room s m args below meth cd G rr S0 M0 H locs (F0 m 74 ls []) := by
    intro n
    induction n with
    | zero => intro H locs hW hS ls l2 l3 l4 l5 hl h; cases (show (none : Option (Int32)) = some _ from h)
    | succ n ih =>
      have B122 : ∀ (H : Heap) (locs : List Loc) (_ : WD G S0 M0 H) (_ : va_S (Aw G) s.heap H locs) (ls : Array Slot) (l2 : Int32) (l3 : Int32) (l4 : Int32) (l5 : Int32) (_ : lv_has ls 6 [(0, .ref (gad G 159)), (2, .int l2), (3, .int l3), (4, .int l4), (5, .int l5)]) (h : f6_otherHalf_b122 M0 (f6_otherHalf_b74 M0 l2 l3 l4 n) l2 l3 l4 l5 = some (rr)), WI p l e (headSpec wsX6_otherHalf rX6_otherHalf).room s m args below meth cd G rr S0 M0 H locs (F0 m 122 ls []) := by
        intro H locs hW hS ls l2 l3 l4 l5 hl h
        unfold f6_otherHalf_b122 at h
        refine lv_iinc (v := (l5 + 1)) (lv' := [(5, .int ((l5 + 1))), (0, .ref (gad G 159)), (2, .int l2), (3, .int l3), (4, .int l4)]) hx hb dX6_otherHalf_122 hl (k := 4) rfl rfl (by decide) rfl (fun ls hl => ?_)
        refine lv_goto (tgt := 74) hx hb dX6_otherHalf_125 (by decide) ?_
        exact ih _ _ hW hS ls l2 l3 l4 ((l5 + 1)) (lv_sub hl [1, 2, 3, 4, 0] rfl) h
      intro H locs hW hS ls l2 l3 l4 l5 hl h
      rw [f6_otherHalf_b74] at h
      refine lv_iload hx hb dX6_otherHalf_74 (lv_at hl 4 rfl) ?_
      refine lv_aload_n hx hb dX6_otherHalf_76 rfl (lv_at hl 0 rfl) ?_
      refine va_get (D := G.1) (ci := 6) (v := .ref (gad G (160 + 0))) (C := RX6) (T := TX6) (N := 14) hx hb hts hiX6 hown hK.1 hW.1 159 lkM rfl 1 (by decide) (hts _ (List.mem_of_getElem? (i := 1) rfl)) (fun _ h9 => h9) rfl dX6_otherHalf_77 ?_
      refine lv_iconst (v := 1) hx hb dX6_otherHalf_80 (by decide) ?_
      obtain ⟨x_1, nx_1, ex_1, h⟩ := arr_e h
      refine va_iald hx hb hK.1 hW.1 (160 + 0) 0 (lkMa (j := 0) (by omega)) rfl nx_1 dX6_otherHalf_81 ?_
      refine lv_ni ex_1 ?_
      refine lv_icmp_ge (tgt := 128) hx hb dX6_otherHalf_82 (by decide) (fun c_2 => ?_) (fun c_2 => ?_)
      · have h := ite_t c_2 h
        refine lv_bipush (v := (-5)) hx hb dX6_otherHalf_128 (by decide) ?_
        obtain rfl := Option.some.inj h
        exact W.iret hx hb hr (fun t ht hw => ⟨⟨_, (), rfl, rfl, hW.ret ht⟩, hS.F ht⟩) hS.2.2 dX6_otherHalf_130
      · have h := ite_f c_2 h
        refine lv_aload_n hx hb dX6_otherHalf_85 rfl (lv_at hl 0 rfl) ?_
        refine lv_iload hx hb dX6_otherHalf_86 (lv_at hl 4 rfl) ?_
        refine lv_iconst (v := 0) hx hb dX6_otherHalf_88 (by decide) ?_
        obtain ⟨r_3, e_4, h⟩ := bnd_e h
        refine kV_I (As := [.int l5, .int 0]) (rest := []) ⟨hx, hb, hml, hown, hts⟩ (tX6_ofPlot l G S0 M0 l5 0 r_3 e_4) (cwV 2 hts gX6_otherHalf_X6_ofPlot rfl rfl rfl ⟨rfl, hdX6_ofPlot⟩ ⟨Nat.le_of_ble_eq_true rfl, Nat.le_of_ble_eq_true rfl⟩) (va_recv hK.1 hW.1 (ci := 6) (q0 := 159) rfl lkM) hK hW hS hA rfl hl.1 rfl (Nat.le_of_ble_eq_true rfl) dX6_otherHalf_89 ⟨Nat.zero_le _, Nat.zero_le _⟩ (fun H locs hW hS => ?_)
        refine lv_iload_n hx hb dX6_otherHalf_92 rfl (lv_at hl 1 rfl) ?_
        refine lv_icmp_ne (tgt := 122) hx hb dX6_otherHalf_93 (by decide) (fun c_5 => ?_) (fun c_5 => ?_)
        · have h := ite_f c_5 h
          exact B122 _ _ hW hS ls l2 l3 l4 l5 (lv_sub hl [0, 1, 2, 3, 4] rfl) h
        · have h := ite_t c_5 h
          refine lv_aload_n hx hb dX6_otherHalf_96 rfl (lv_at hl 0 rfl) ?_
          refine lv_iload hx hb dX6_otherHalf_97 (lv_at hl 4 rfl) ?_
          refine lv_iconst (v := 1) hx hb dX6_otherHalf_99 (by decide) ?_
          obtain ⟨r_6, e_7, h⟩ := bnd_e h
          refine kV_I (As := [.int l5, .int 1]) (rest := []) ⟨hx, hb, hml, hown, hts⟩ (tX6_ofPlot l G S0 M0 l5 1 r_6 e_7) (cwV 2 hts gX6_otherHalf_X6_ofPlot rfl rfl rfl ⟨rfl, hdX6_ofPlot⟩ ⟨Nat.le_of_ble_eq_true rfl, Nat.le_of_ble_eq_true rfl⟩) (va_recv hK.1 hW.1 (ci := 6) (q0 := 159) rfl lkM) hK hW hS hA rfl hl.1 rfl (Nat.le_of_ble_eq_true rfl) dX6_otherHalf_100 ⟨Nat.zero_le _, Nat.zero_le _⟩ (fun H locs hW hS => ?_)
          refine lv_iload_n hx hb dX6_otherHalf_103 rfl (lv_at hl 2 rfl) ?_
          refine lv_icmp_ne (tgt := 122) hx hb dX6_otherHalf_104 (by decide) (fun c_8 => ?_) (fun c_8 => ?_)
          · have h := ite_f c_8 h
            exact B122 _ _ hW hS ls l2 l3 l4 l5 (lv_sub hl [0, 1, 2, 3, 4] rfl) h
          · have h := ite_t c_8 h
            refine lv_aload_n hx hb dX6_otherHalf_107 rfl (lv_at hl 0 rfl) ?_
            refine lv_iload hx hb dX6_otherHalf_108 (lv_at hl 4 rfl) ?_
            refine lv_iconst (v := 2) hx hb dX6_otherHalf_110 (by decide) ?_
            obtain ⟨r_9, e_10, h⟩ := bnd_e h
            refine kV_I (As := [.int l5, .int 2]) (rest := []) ⟨hx, hb, hml, hown, hts⟩ (tX6_ofPlot l G S0 M0 l5 2 r_9 e_10) (cwV 2 hts gX6_otherHalf_X6_ofPlot rfl rfl rfl ⟨rfl, hdX6_ofPlot⟩ ⟨Nat.le_of_ble_eq_true rfl, Nat.le_of_ble_eq_true rfl⟩) (va_recv hK.1 hW.1 (ci := 6) (q0 := 159) rfl lkM) hK hW hS hA rfl hl.1 rfl (Nat.le_of_ble_eq_true rfl) dX6_otherHalf_111 ⟨Nat.zero_le _, Nat.zero_le _⟩ (fun H locs hW hS => ?_)
            refine lv_iload hx hb dX6_otherHalf_114 (lv_at hl 3 rfl) ?_
            refine lv_icmp_ne (tgt := 122) hx hb dX6_otherHalf_116 (by decide) (fun c_11 => ?_) (fun c_11 => ?_)
            · have h := ite_f c_11 h
              exact B122 _ _ hW hS ls l2 l3 l4 l5 (lv_sub hl [0, 1, 2, 3, 4] rfl) h
            · have h := ite_t c_11 h
              refine lv_iload hx hb dX6_otherHalf_119 (lv_at hl 4 rfl) ?_
              obtain rfl := Option.some.inj h
              exact W.iret hx hb hr (fun t ht hw => ⟨⟨_, (), rfl, rfl, hW.ret ht⟩, hS.F ht⟩) hS.2.2 dX6_otherHalf_121
  have B69 : ∀ (H : Heap) (locs : List Loc) (_ : WD G S0 M0 H) (_ : va_S (Aw G) s.heap H locs) (ls : Array Slot) (l2 : Int32) (l3 : Int32) (k0 : Int32) (_ : lv_has ls 6 [(0, .ref (gad G 159)), (2, .int l2), (3, .int l3)]) (h : f6_otherHalf_b69 M0 l2 l3 k0 = some (rr)), WI p l e (headSpec wsX6_otherHalf rX6_otherHalf).room s m args below meth cd G rr S0 M0 H locs (F0 m 69 ls [.int k0]) := by
    intro H locs hW hS ls l2 l3 k0 hl h
    unfold f6_otherHalf_b69 at h
    refine lv_istore (lv' := [(4, .int k0), (0, .ref (gad G 159)), (2, .int l2), (3, .int l3)]) hx hb dX6_otherHalf_69 hl (by decide) rfl (fun ls hl => ?_)
    refine lv_iconst (v := 0) hx hb dX6_otherHalf_71 (by decide) ?_
    refine lv_istore (lv' := [(5, .int 0), (4, .int k0), (0, .ref (gad G 159)), (2, .int l2), (3, .int l3)]) hx hb dX6_otherHalf_72 hl (by decide) rfl (fun ls hl => ?_)
    exact B74 fuelN _ _ hW hS ls l2 l3 k0 0 (lv_sub hl [2, 3, 4, 1, 0] rfl) h
  have B41 : ∀ (H : Heap) (locs : List Loc) (_ : WD G S0 M0 H) (_ : va_S (Aw G) s.heap H locs) (ls : Array Slot) (l1 : Int32) (l2 : Int32) (k0 : Int32) (_ : lv_has ls 6 [(0, .ref (gad G 159)), (1, .int l1), (2, .int l2)]) (h : f6_otherHalf_b41 M0 l1 l2 k0 = some (rr)), WI p l e (headSpec wsX6_otherHalf rX6_otherHalf).room s m args below meth cd G rr S0 M0 H locs (F0 m 41 ls [.int k0]) := by
    intro H locs hW hS ls l1 l2 k0 hl h
    unfold f6_otherHalf_b41 at h
    refine lv_istore_n (lv' := [(3, .int k0), (0, .ref (gad G 159)), (1, .int l1), (2, .int l2)]) hx hb dX6_otherHalf_41 rfl hl (by decide) rfl (fun ls hl => ?_)
    refine lv_iload_n hx hb dX6_otherHalf_42 rfl (lv_at hl 3 rfl) ?_
    refine lv_iconst (v := 2) hx hb dX6_otherHalf_43 (by decide) ?_
    refine lv_irem hx hb dX6_otherHalf_44 (by decide) ?_
    refine lv_iconst (v := 1) hx hb dX6_otherHalf_45 (by decide) ?_
    refine lv_icmp_ne (tgt := 58) hx hb dX6_otherHalf_46 (by decide) (fun c_1 => ?_) (fun c_1 => ?_)
    · have h := ite_f c_1 h
      refine lv_aload_n hx hb dX6_otherHalf_58 rfl (lv_at hl 1 rfl) ?_
      refine lv_iload_n hx hb dX6_otherHalf_59 rfl (lv_at hl 2 rfl) ?_
      refine lv_iconst (v := 2) hx hb dX6_otherHalf_60 (by decide) ?_
      obtain ⟨r_2, e_3, h⟩ := bnd_e h
      refine kV_I (As := [.int l1, .int 2]) (rest := []) ⟨hx, hb, hml, hown, hts⟩ (tX6_ofPlot l G S0 M0 l1 2 r_2 e_3) (cwV 2 hts gX6_otherHalf_X6_ofPlot rfl rfl rfl ⟨rfl, hdX6_ofPlot⟩ ⟨Nat.le_of_ble_eq_true rfl, Nat.le_of_ble_eq_true rfl⟩) (va_recv hK.1 hW.1 (ci := 6) (q0 := 159) rfl lkM) hK hW hS hA rfl hl.1 rfl (Nat.le_of_ble_eq_true rfl) dX6_otherHalf_61 ⟨Nat.zero_le _, Nat.zero_le _⟩ (fun H locs hW hS => ?_)
      refine lv_iload_n hx hb dX6_otherHalf_64 rfl (lv_at hl 3 rfl) ?_
      obtain ⟨r_4, e_5, h⟩ := bnd_e h
      refine kS_I (As := [.int l2]) (rest := [.int r_2]) ⟨hx, hb, hml, hown, hts⟩ (tX6_high l G S0 M0 l2 r_4 e_5) (va_cwS 1 hts gX6_otherHalf_X6_high rfl rfl rfl hdX6_high ⟨Nat.le_of_ble_eq_true rfl, Nat.le_of_ble_eq_true rfl⟩) hK hW hS hA rfl hl.1 rfl (Nat.le_of_ble_eq_true rfl) dX6_otherHalf_65 ⟨Nat.zero_le _, Nat.zero_le _⟩ (fun H locs hW hS => ?_)
      refine lv_ixor hx hb dX6_otherHalf_68 ?_
      exact B69 _ _ hW hS ls l2 k0 (((r_2 : Int32) ^^^ r_4)) (lv_sub hl [1, 3, 0] rfl) h
    · have h := ite_t c_1 h
      refine lv_aload_n hx hb dX6_otherHalf_49 rfl (lv_at hl 1 rfl) ?_
      refine lv_iload_n hx hb dX6_otherHalf_50 rfl (lv_at hl 2 rfl) ?_
      refine lv_iconst (v := 2) hx hb dX6_otherHalf_51 (by decide) ?_
      obtain ⟨r_6, e_7, h⟩ := bnd_e h
      refine kV_I (As := [.int l1, .int 2]) (rest := []) ⟨hx, hb, hml, hown, hts⟩ (tX6_ofPlot l G S0 M0 l1 2 r_6 e_7) (cwV 2 hts gX6_otherHalf_X6_ofPlot rfl rfl rfl ⟨rfl, hdX6_ofPlot⟩ ⟨Nat.le_of_ble_eq_true rfl, Nat.le_of_ble_eq_true rfl⟩) (va_recv hK.1 hW.1 (ci := 6) (q0 := 159) rfl lkM) hK hW hS hA rfl hl.1 rfl (Nat.le_of_ble_eq_true rfl) dX6_otherHalf_52 ⟨Nat.zero_le _, Nat.zero_le _⟩ (fun H locs hW hS => ?_)
      refine lv_goto (tgt := 69) hx hb dX6_otherHalf_55 (by decide) ?_
      exact B69 _ _ hW hS ls l2 k0 r_6 (lv_sub hl [1, 3, 0] rfl) h
  unfold f6_otherHalf at h
  refine lv_aload_n hx hb dX6_otherHalf_0 rfl (lv_at hl 0 rfl) ?_
  refine lv_iload_n hx hb dX6_otherHalf_1 rfl (lv_at hl 1 rfl) ?_
  refine lv_iconst (v := 0) hx hb dX6_otherHalf_2 (by decide) ?_
  obtain ⟨r_1, e_2, h⟩ := bnd_e h
  refine kV_I (As := [.int p1, .int 0]) (rest := []) ⟨hx, hb, hml, hown, hts⟩ (tX6_ofPlot l G S0 M0 p1 0 r_1 e_2) (cwV 2 hts gX6_otherHalf_X6_ofPlot rfl rfl rfl ⟨rfl, hdX6_ofPlot⟩ ⟨Nat.le_of_ble_eq_true rfl, Nat.le_of_ble_eq_true rfl⟩) (va_recv hK.1 hW.1 (ci := 6) (q0 := 159) rfl lkM) hK hW hS hA rfl hl.1 rfl (Nat.le_of_ble_eq_true rfl) dX6_otherHalf_3 ⟨Nat.zero_le _, Nat.zero_le _⟩ (fun H locs hW hS => ?_)
  refine lv_istore_n (lv' := [(2, .int r_1), (0, .ref (gad G 159)), (1, .int p1)]) hx hb dX6_otherHalf_6 rfl hl (by decide) rfl (fun ls hl => ?_)
  refine lv_iload_n hx hb dX6_otherHalf_7 rfl (lv_at hl 0 rfl) ?_
  refine lv_if_ne (tgt := 14) hx hb dX6_otherHalf_8 (by decide) (fun c_3 => ?_) (fun c_3 => ?_)
  · have h := ite_f c_3 h
    refine lv_iload_n hx hb dX6_otherHalf_14 rfl (lv_at hl 0 rfl) ?_
    refine lv_iconst (v := 2) hx hb dX6_otherHalf_15 (by decide) ?_
    refine lv_irem hx hb dX6_otherHalf_16 (by decide) ?_
    refine lv_iconst (v := 1) hx hb dX6_otherHalf_17 (by decide) ?_
    refine lv_icmp_ne (tgt := 35) hx hb dX6_otherHalf_18 (by decide) (fun c_4 => ?_) (fun c_4 => ?_)
    · have h := ite_f c_4 h
      refine lv_aload_n hx hb dX6_otherHalf_35 rfl (lv_at hl 1 rfl) ?_
      refine lv_iload_n hx hb dX6_otherHalf_36 rfl (lv_at hl 2 rfl) ?_
      refine lv_iconst (v := 1) hx hb dX6_otherHalf_37 (by decide) ?_
      obtain ⟨r_5, e_6, h⟩ := bnd_e h
      refine kV_I (As := [.int p1, .int 1]) (rest := []) ⟨hx, hb, hml, hown, hts⟩ (tX6_ofPlot l G S0 M0 p1 1 r_5 e_6) (cwV 2 hts gX6_otherHalf_X6_ofPlot rfl rfl rfl ⟨rfl, hdX6_ofPlot⟩ ⟨Nat.le_of_ble_eq_true rfl, Nat.le_of_ble_eq_true rfl⟩) (va_recv hK.1 hW.1 (ci := 6) (q0 := 159) rfl lkM) hK hW hS hA rfl hl.1 rfl (Nat.le_of_ble_eq_true rfl) dX6_otherHalf_38 ⟨Nat.zero_le _, Nat.zero_le _⟩ (fun H locs hW hS => ?_)
      exact B41 _ _ hW hS ls p1 r_1 r_5 (lv_sub hl [1, 2, 0] rfl) h
    · have h := ite_t c_4 h
      refine lv_aload_n hx hb dX6_otherHalf_21 rfl (lv_at hl 1 rfl) ?_
      refine lv_iload_n hx hb dX6_otherHalf_22 rfl (lv_at hl 2 rfl) ?_
      refine lv_iconst (v := 1) hx hb dX6_otherHalf_23 (by decide) ?_
      obtain ⟨r_7, e_8, h⟩ := bnd_e h
      refine kV_I (As := [.int p1, .int 1]) (rest := []) ⟨hx, hb, hml, hown, hts⟩ (tX6_ofPlot l G S0 M0 p1 1 r_7 e_8) (cwV 2 hts gX6_otherHalf_X6_ofPlot rfl rfl rfl ⟨rfl, hdX6_ofPlot⟩ ⟨Nat.le_of_ble_eq_true rfl, Nat.le_of_ble_eq_true rfl⟩) (va_recv hK.1 hW.1 (ci := 6) (q0 := 159) rfl lkM) hK hW hS hA rfl hl.1 rfl (Nat.le_of_ble_eq_true rfl) dX6_otherHalf_24 ⟨Nat.zero_le _, Nat.zero_le _⟩ (fun H locs hW hS => ?_)
      refine lv_iload_n hx hb dX6_otherHalf_27 rfl (lv_at hl 0 rfl) ?_
      obtain ⟨r_9, e_10, h⟩ := bnd_e h
      refine kS_I (As := [.int r_1]) (rest := [.int r_7]) ⟨hx, hb, hml, hown, hts⟩ (tX6_wide l G S0 M0 r_1 r_9 e_10) (va_cwS 1 hts gX6_otherHalf_X6_wide rfl rfl rfl hdX6_wide ⟨Nat.le_of_ble_eq_true rfl, Nat.le_of_ble_eq_true rfl⟩) hK hW hS hA rfl hl.1 rfl (Nat.le_of_ble_eq_true rfl) dX6_otherHalf_28 ⟨Nat.zero_le _, Nat.zero_le _⟩ (fun H locs hW hS => ?_)
      refine lv_ixor hx hb dX6_otherHalf_31 ?_
      refine lv_goto (tgt := 41) hx hb dX6_otherHalf_32 (by decide) ?_
      exact B41 _ _ hW hS ls p1 r_1 (((r_7 : Int32) ^^^ r_9)) (lv_sub hl [1, 2, 0] rfl) h
  · have h := ite_t c_3 h
    refine lv_bipush (v := (-5)) hx hb dX6_otherHalf_11 (by decide) ?_
    obtain rfl := Option.some.inj h
    exact W.iret hx hb hr (fun t ht hw => ⟨⟨_, (), rfl, rfl, hW.ret ht⟩, hS.F ht⟩) hS.2.2 dX6_otherHalf_13
abbrev rX6_joins : Room := { frames := 2, cells := 0, slots := 0, locals := 45 }
set_option maxRecDepth 100000 in
set_option maxHeartbeats 8000000 in
theorem tX6_joins (l : Launch) (G : WG) (S0 M0 : St) (p1 : Int32) (p2 : Int32) (p3 : Int32) (M' : St) (h : f6_joins M0 p1 p2 p3 = some (M')) : CtV l yX6_joins wsX6_joins rX6_joins G [.ref (gad G 159), .int p1, .int p2, .int p3] S0 M0 S0 M' := by
  refine Met.ofW (cc := cX6_joins) (maxL := 7) (ret := none) (by decide) rfl ?_
  intro p e s m args below meth cd s₁ B hml hv
  obtain ⟨hargs, hK, hW⟩ := hv
  have hx := B.exec
  have hb := B.bytes
  have hr := B.returns
  have hts := atoms_spec (ws := wsX6_joins) B.pre
  have hown : s.vm.findClass RX6 = some m.cls := findClass_of_methodNamed B.named
  have hlocks := B.notSynchronized
  have hA : ∀ q, Aw G q → Aw G q := fun _ h => h
  have hS : va_S (Aw G) s.heap s.heap [] := va_S.rf
  have he0 : entryFrame m args 7 = F0 m 0 ((lg_sl ([.ref (gad G 159), .int p1, .int p2, .int p3]) ++ List.replicate (7 - (lg_sl ([.ref (gad G 159), .int p1, .int p2, .int p3])).length) Slot.unset).toArray) [] := by rw [hargs]; exact lg_entry_eq _ _ _
  have hl := lv_entry ([.ref (gad G 159), .int p1, .int p2, .int p3]) (n := 7) (Nat.le_of_ble_eq_true rfl)
  rw [he0]
  generalize (lg_sl ([.ref (gad G 159), .int p1, .int p2, .int p3]) ++ List.replicate (7 - (lg_sl ([.ref (gad G 159), .int p1, .int p2, .int p3])).length) Slot.unset).toArray = ls at hl ⊢
  have hl : lv_has ls 7 [(0, .ref (gad G 159)), (1, .int p1), (2, .int p2), (3, .int p3)] := hl
  have hiX6 : ∀ w ∈ u_ws RX6 TX6 14, w ∈ wsX6_joins := by decide +kernel
  have B27 : ∀ (H : Heap) (locs : List Loc) (M : St) (_ : WD G S0 M H) (_ : va_S (Aw G) s.heap H locs) (ls : Array Slot) (l3 : Int32) (l4 : Int32) (k0 : Int32) (_ : lv_has ls 7 [(0, .ref (gad G 159)), (3, .int l3), (4, .int l4)]) (h : f6_joins_b27 M l3 l4 k0 = some (M')), WV p l e (headSpec wsX6_joins rX6_joins).room s m args below meth cd G S0 M' H locs (F0 m 27 ls [.int k0]) := by
    intro H locs M hW hS ls l3 l4 k0 hl h
    unfold f6_joins_b27 at h
    refine lv_istore (lv' := [(5, .int k0), (0, .ref (gad G 159)), (3, .int l3), (4, .int l4)]) hx hb dX6_joins_27 hl (by decide) rfl (fun ls hl => ?_)
    refine lv_aload_n hx hb dX6_joins_29 rfl (lv_at hl 1 rfl) ?_
    refine lv_iload hx hb dX6_joins_30 (lv_at hl 3 rfl) ?_
    refine lv_aload_n hx hb dX6_joins_32 rfl (lv_at hl 1 rfl) ?_
    refine lv_iload hx hb dX6_joins_33 (lv_at hl 3 rfl) ?_
    refine lv_iconst (v := 0) hx hb dX6_joins_35 (by decide) ?_
    obtain ⟨r_1, e_2, h⟩ := bnd_e h
    refine kV_I (As := [.int l4, .int 0]) (rest := [.int l4, .ref (gad G 159)]) ⟨hx, hb, hml, hown, hts⟩ (tX6_ofPlot l G S0 M l4 0 r_1 e_2) (cwV 2 hts gX6_joins_X6_ofPlot rfl rfl rfl ⟨rfl, hdX6_ofPlot⟩ ⟨Nat.le_of_ble_eq_true rfl, Nat.le_of_ble_eq_true rfl⟩) (va_recv hK.1 hW.1 (ci := 6) (q0 := 159) rfl lkM) hK hW hS hA rfl hl.1 rfl (Nat.le_of_ble_eq_true rfl) dX6_joins_36 ⟨Nat.zero_le _, Nat.zero_le _⟩ (fun H locs hW hS => ?_)
    refine lv_iconst (v := 1) hx hb dX6_joins_39 (by decide) ?_
    refine lv_isub hx hb dX6_joins_40 ?_
    refine lv_aload_n hx hb dX6_joins_41 rfl (lv_at hl 1 rfl) ?_
    refine lv_iload hx hb dX6_joins_42 (lv_at hl 3 rfl) ?_
    refine lv_iconst (v := 1) hx hb dX6_joins_44 (by decide) ?_
    obtain ⟨r_3, e_4, h⟩ := bnd_e h
    refine kV_I (As := [.int l4, .int 1]) (rest := [.int ((r_1 - 1)), .int l4, .ref (gad G 159)]) ⟨hx, hb, hml, hown, hts⟩ (tX6_ofPlot l G S0 M l4 1 r_3 e_4) (cwV 2 hts gX6_joins_X6_ofPlot rfl rfl rfl ⟨rfl, hdX6_ofPlot⟩ ⟨Nat.le_of_ble_eq_true rfl, Nat.le_of_ble_eq_true rfl⟩) (va_recv hK.1 hW.1 (ci := 6) (q0 := 159) rfl lkM) hK hW hS hA rfl hl.1 rfl (Nat.le_of_ble_eq_true rfl) dX6_joins_45 ⟨Nat.zero_le _, Nat.zero_le _⟩ (fun H locs hW hS => ?_)
    refine lv_aload_n hx hb dX6_joins_48 rfl (lv_at hl 1 rfl) ?_
    refine lv_iload hx hb dX6_joins_49 (lv_at hl 3 rfl) ?_
    refine lv_iconst (v := 2) hx hb dX6_joins_51 (by decide) ?_
    obtain ⟨r_5, e_6, h⟩ := bnd_e h
    refine kV_I (As := [.int l4, .int 2]) (rest := [.int r_3, .int ((r_1 - 1)), .int l4, .ref (gad G 159)]) ⟨hx, hb, hml, hown, hts⟩ (tX6_ofPlot l G S0 M l4 2 r_5 e_6) (cwV 2 hts gX6_joins_X6_ofPlot rfl rfl rfl ⟨rfl, hdX6_ofPlot⟩ ⟨Nat.le_of_ble_eq_true rfl, Nat.le_of_ble_eq_true rfl⟩) (va_recv hK.1 hW.1 (ci := 6) (q0 := 159) rfl lkM) hK hW hS hA rfl hl.1 rfl (Nat.le_of_ble_eq_true rfl) dX6_joins_52 ⟨Nat.zero_le _, Nat.zero_le _⟩ (fun H locs hW hS => ?_)
    refine lv_iload_n hx hb dX6_joins_55 rfl (lv_at hl 2 rfl) ?_
    obtain ⟨M_7, e_8, h⟩ := bnd_e h
    refine kV_V (As := [.int l4, .int ((r_1 - 1)), .int r_3, .int r_5, .int l3]) (rest := []) ⟨hx, hb, hml, hown, hts⟩ (tX6_layPlot l G S0 M l4 ((r_1 - 1)) r_3 r_5 l3 M_7 e_8) (cwV 5 hts gX6_joins_X6_layPlot rfl rfl rfl ⟨rfl, hdX6_layPlot⟩ ⟨Nat.le_of_ble_eq_true rfl, Nat.le_of_ble_eq_true rfl⟩) (va_recv hK.1 hW.1 (ci := 6) (q0 := 159) rfl lkM) hK hW hS hA rfl hl.1 rfl (Nat.le_of_ble_eq_true rfl) dX6_joins_56 ⟨Nat.zero_le _, Nat.zero_le _⟩ (fun H locs hW hS => ?_)
    refine lv_aload_n hx hb dX6_joins_59 rfl (lv_at hl 1 rfl) ?_
    refine va_get (D := G.1) (ci := 6) (v := .ref (gad G (160 + 0))) (C := RX6) (T := TX6) (N := 14) hx hb hts hiX6 hown hK.1 hW.1 159 lkM rfl 1 (by decide) (hts _ (List.mem_of_getElem? (i := 1) rfl)) (fun _ h9 => h9) rfl dX6_joins_60 ?_
    refine lv_iconst (v := 1) hx hb dX6_joins_63 (by decide) ?_
    refine lv_dup2_11 hx hb dX6_joins_64 rfl rfl ?_
    obtain ⟨x_9, nx_9, ex_9, h⟩ := arr_e h
    refine va_iald hx hb hK.1 hW.1 (160 + 0) 0 (lkMa (j := 0) (by omega)) rfl nx_9 dX6_joins_65 ?_
    refine lv_ni ex_9 ?_
    refine lv_iconst (v := 1) hx hb dX6_joins_66 (by decide) ?_
    refine lv_isub hx hb dX6_joins_67 ?_
    obtain ⟨n_11, h⟩ := sto_e h
    obtain ⟨M_10, eM_10, h⟩ := nam_e h
    refine va_iast hx hb hK.1 hW.1 (hW.D hA) hS (160 + 0) 0 (lkMa (j := 0) (by omega)) rfl n_11 dX6_joins_68 (fun H locs hP hD hS => ?_)
    have hW := upMa (j := 0) (by omega) hW hP
    rw [← eM_10] at hW
    refine lv_aload_n hx hb dX6_joins_69 rfl (lv_at hl 1 rfl) ?_
    refine va_get (D := G.1) (ci := 6) (v := .ref (gad G (160 + 0))) (C := RX6) (T := TX6) (N := 14) hx hb hts hiX6 hown hK.1 hW.1 159 lkM rfl 1 (by decide) (hts _ (List.mem_of_getElem? (i := 1) rfl)) (fun _ h9 => h9) rfl dX6_joins_70 ?_
    refine lv_iconst (v := 1) hx hb dX6_joins_73 (by decide) ?_
    obtain ⟨x_12, nx_12, ex_12, h⟩ := arr_e h
    refine va_iald hx hb hK.1 hW.1 (160 + 0) 0 (lkMa (j := 0) (by omega)) rfl nx_12 dX6_joins_74 ?_
    refine lv_ni ex_12 ?_
    refine lv_istore (lv' := [(6, .int x_12), (5, .int k0), (0, .ref (gad G 159)), (3, .int l3), (4, .int l4)]) hx hb dX6_joins_75 hl (by decide) rfl (fun ls hl => ?_)
    refine lv_aload_n hx hb dX6_joins_77 rfl (lv_at hl 2 rfl) ?_
    refine lv_iload hx hb dX6_joins_78 (lv_at hl 1 rfl) ?_
    refine lv_aload_n hx hb dX6_joins_80 rfl (lv_at hl 2 rfl) ?_
    refine lv_iload hx hb dX6_joins_81 (lv_at hl 0 rfl) ?_
    refine lv_iconst (v := 0) hx hb dX6_joins_83 (by decide) ?_
    obtain ⟨r_13, e_14, h⟩ := bnd_e h
    refine kV_I (As := [.int x_12, .int 0]) (rest := [.int k0, .ref (gad G 159)]) ⟨hx, hb, hml, hown, hts⟩ (tX6_ofPlot l G S0 M_10 x_12 0 r_13 e_14) (cwV 2 hts gX6_joins_X6_ofPlot rfl rfl rfl ⟨rfl, hdX6_ofPlot⟩ ⟨Nat.le_of_ble_eq_true rfl, Nat.le_of_ble_eq_true rfl⟩) (va_recv hK.1 hW.1 (ci := 6) (q0 := 159) rfl lkM) hK hW hS hA rfl hl.1 rfl (Nat.le_of_ble_eq_true rfl) dX6_joins_84 ⟨Nat.zero_le _, Nat.zero_le _⟩ (fun H locs hW hS => ?_)
    refine lv_aload_n hx hb dX6_joins_87 rfl (lv_at hl 2 rfl) ?_
    refine lv_iload hx hb dX6_joins_88 (lv_at hl 0 rfl) ?_
    refine lv_iconst (v := 1) hx hb dX6_joins_90 (by decide) ?_
    obtain ⟨r_15, e_16, h⟩ := bnd_e h
    refine kV_I (As := [.int x_12, .int 1]) (rest := [.int r_13, .int k0, .ref (gad G 159)]) ⟨hx, hb, hml, hown, hts⟩ (tX6_ofPlot l G S0 M_10 x_12 1 r_15 e_16) (cwV 2 hts gX6_joins_X6_ofPlot rfl rfl rfl ⟨rfl, hdX6_ofPlot⟩ ⟨Nat.le_of_ble_eq_true rfl, Nat.le_of_ble_eq_true rfl⟩) (va_recv hK.1 hW.1 (ci := 6) (q0 := 159) rfl lkM) hK hW hS hA rfl hl.1 rfl (Nat.le_of_ble_eq_true rfl) dX6_joins_91 ⟨Nat.zero_le _, Nat.zero_le _⟩ (fun H locs hW hS => ?_)
    refine lv_aload_n hx hb dX6_joins_94 rfl (lv_at hl 2 rfl) ?_
    refine lv_iload hx hb dX6_joins_95 (lv_at hl 0 rfl) ?_
    refine lv_iconst (v := 2) hx hb dX6_joins_97 (by decide) ?_
    obtain ⟨r_17, e_18, h⟩ := bnd_e h
    refine kV_I (As := [.int x_12, .int 2]) (rest := [.int r_15, .int r_13, .int k0, .ref (gad G 159)]) ⟨hx, hb, hml, hown, hts⟩ (tX6_ofPlot l G S0 M_10 x_12 2 r_17 e_18) (cwV 2 hts gX6_joins_X6_ofPlot rfl rfl rfl ⟨rfl, hdX6_ofPlot⟩ ⟨Nat.le_of_ble_eq_true rfl, Nat.le_of_ble_eq_true rfl⟩) (va_recv hK.1 hW.1 (ci := 6) (q0 := 159) rfl lkM) hK hW hS hA rfl hl.1 rfl (Nat.le_of_ble_eq_true rfl) dX6_joins_98 ⟨Nat.zero_le _, Nat.zero_le _⟩ (fun H locs hW hS => ?_)
    refine lv_aload_n hx hb dX6_joins_101 rfl (lv_at hl 2 rfl) ?_
    refine lv_iload hx hb dX6_joins_102 (lv_at hl 0 rfl) ?_
    refine lv_iconst (v := 3) hx hb dX6_joins_104 (by decide) ?_
    obtain ⟨r_19, e_20, h⟩ := bnd_e h
    refine kV_I (As := [.int x_12, .int 3]) (rest := [.int r_17, .int r_15, .int r_13, .int k0, .ref (gad G 159)]) ⟨hx, hb, hml, hown, hts⟩ (tX6_ofPlot l G S0 M_10 x_12 3 r_19 e_20) (cwV 2 hts gX6_joins_X6_ofPlot rfl rfl rfl ⟨rfl, hdX6_ofPlot⟩ ⟨Nat.le_of_ble_eq_true rfl, Nat.le_of_ble_eq_true rfl⟩) (va_recv hK.1 hW.1 (ci := 6) (q0 := 159) rfl lkM) hK hW hS hA rfl hl.1 rfl (Nat.le_of_ble_eq_true rfl) dX6_joins_105 ⟨Nat.zero_le _, Nat.zero_le _⟩ (fun H locs hW hS => ?_)
    obtain ⟨M_21, e_22, h⟩ := bnd_e h
    refine kV_V (As := [.int k0, .int r_13, .int r_15, .int r_17, .int r_19]) (rest := []) ⟨hx, hb, hml, hown, hts⟩ (tX6_layPlot l G S0 M_10 k0 r_13 r_15 r_17 r_19 M_21 e_22) (cwV 5 hts gX6_joins_X6_layPlot rfl rfl rfl ⟨rfl, hdX6_layPlot⟩ ⟨Nat.le_of_ble_eq_true rfl, Nat.le_of_ble_eq_true rfl⟩) (va_recv hK.1 hW.1 (ci := 6) (q0 := 159) rfl lkM) hK hW hS hA rfl hl.1 rfl (Nat.le_of_ble_eq_true rfl) dX6_joins_108 ⟨Nat.zero_le _, Nat.zero_le _⟩ (fun H locs hW hS => ?_)
    refine lv_aload_n hx hb dX6_joins_111 rfl (lv_at hl 2 rfl) ?_
    refine lv_iload hx hb dX6_joins_112 (lv_at hl 0 rfl) ?_
    refine lv_iconst (v := 0) hx hb dX6_joins_114 (by decide) ?_
    refine lv_iconst (v := 0) hx hb dX6_joins_115 (by decide) ?_
    refine lv_iconst (v := 0) hx hb dX6_joins_116 (by decide) ?_
    refine lv_iconst (v := 0) hx hb dX6_joins_117 (by decide) ?_
    obtain ⟨M_23, e_24, h⟩ := bnd_e h
    refine kV_V (As := [.int x_12, .int 0, .int 0, .int 0, .int 0]) (rest := []) ⟨hx, hb, hml, hown, hts⟩ (tX6_layPlot l G S0 M_21 x_12 0 0 0 0 M_23 e_24) (cwV 5 hts gX6_joins_X6_layPlot rfl rfl rfl ⟨rfl, hdX6_layPlot⟩ ⟨Nat.le_of_ble_eq_true rfl, Nat.le_of_ble_eq_true rfl⟩) (va_recv hK.1 hW.1 (ci := 6) (q0 := 159) rfl lkM) hK hW hS hA rfl hl.1 rfl (Nat.le_of_ble_eq_true rfl) dX6_joins_118 ⟨Nat.zero_le _, Nat.zero_le _⟩ (fun H locs hW hS => ?_)
    refine lv_aload_n hx hb dX6_joins_121 rfl (lv_at hl 2 rfl) ?_
    refine va_get (D := G.1) (ci := 6) (v := .ref (gad G (160 + 0))) (C := RX6) (T := TX6) (N := 14) hx hb hts hiX6 hown hK.1 hW.1 159 lkM rfl 1 (by decide) (hts _ (List.mem_of_getElem? (i := 1) rfl)) (fun _ h9 => h9) rfl dX6_joins_122 ?_
    refine lv_iconst (v := 4) hx hb dX6_joins_125 (by decide) ?_
    refine lv_dup2_11 hx hb dX6_joins_126 rfl rfl ?_
    obtain ⟨x_25, nx_25, ex_25, h⟩ := arr_e h
    refine va_iald hx hb hK.1 hW.1 (160 + 0) 0 (lkMa (j := 0) (by omega)) rfl nx_25 dX6_joins_127 ?_
    refine lv_ni ex_25 ?_
    refine lv_iconst (v := 1) hx hb dX6_joins_128 (by decide) ?_
    refine lv_iadd hx hb dX6_joins_129 ?_
    obtain ⟨n_27, h⟩ := sto_e h
    obtain ⟨M_26, eM_26, h⟩ := nam_e h
    refine va_iast hx hb hK.1 hW.1 (hW.D hA) hS (160 + 0) 0 (lkMa (j := 0) (by omega)) rfl n_27 dX6_joins_130 (fun H locs hP hD hS => ?_)
    have hW := upMa (j := 0) (by omega) hW hP
    rw [← eM_26] at hW
    obtain rfl := Option.some.inj h
    exact W.vret hx hb hr (fun t ht hw => ⟨⟨(), rfl, trivial, hW.ret ht⟩, hS.F ht⟩) hS.2.2 dX6_joins_131
  have B14 : ∀ (H : Heap) (locs : List Loc) (M : St) (_ : WD G S0 M H) (_ : va_S (Aw G) s.heap H locs) (ls : Array Slot) (l1 : Int32) (l2 : Int32) (l3 : Int32) (k0 : Int32) (_ : lv_has ls 7 [(0, .ref (gad G 159)), (1, .int l1), (2, .int l2), (3, .int l3)]) (h : f6_joins_b14 M l1 l2 l3 k0 = some (M')), WV p l e (headSpec wsX6_joins rX6_joins).room s m args below meth cd G S0 M' H locs (F0 m 14 ls [.int k0]) := by
    intro H locs M hW hS ls l1 l2 l3 k0 hl h
    unfold f6_joins_b14 at h
    refine lv_istore (lv' := [(4, .int k0), (0, .ref (gad G 159)), (1, .int l1), (2, .int l2), (3, .int l3)]) hx hb dX6_joins_14 hl (by decide) rfl (fun ls hl => ?_)
    refine lv_iload hx hb dX6_joins_16 (lv_at hl 0 rfl) ?_
    refine lv_iload_n hx hb dX6_joins_18 rfl (lv_at hl 2 rfl) ?_
    refine lv_icmp_ne (tgt := 26) hx hb dX6_joins_19 (by decide) (fun c_1 => ?_) (fun c_1 => ?_)
    · have h := ite_f c_1 h
      refine lv_iload_n hx hb dX6_joins_26 rfl (lv_at hl 2 rfl) ?_
      exact B27 _ _ M hW hS ls l3 k0 l1 (lv_sub hl [1, 4, 0] rfl) h
    · have h := ite_t c_1 h
      refine lv_iload_n hx hb dX6_joins_22 rfl (lv_at hl 3 rfl) ?_
      refine lv_goto (tgt := 27) hx hb dX6_joins_23 (by decide) ?_
      exact B27 _ _ M hW hS ls l3 k0 l2 (lv_sub hl [1, 4, 0] rfl) h
  unfold f6_joins at h
  refine lv_aload_n hx hb dX6_joins_0 rfl (lv_at hl 0 rfl) ?_
  refine lv_iload_n hx hb dX6_joins_1 rfl (lv_at hl 1 rfl) ?_
  refine lv_iload_n hx hb dX6_joins_2 rfl (lv_at hl 2 rfl) ?_
  obtain ⟨r_1, e_2, h⟩ := bnd_e h
  refine kV_I (As := [.int p1, .int p2]) (rest := []) ⟨hx, hb, hml, hown, hts⟩ (tX6_isAhead l G S0 M0 p1 p2 r_1 e_2) (cwV 2 hts gX6_joins_X6_isAhead rfl rfl rfl ⟨rfl, hdX6_isAhead⟩ ⟨Nat.le_of_ble_eq_true rfl, Nat.le_of_ble_eq_true rfl⟩) (va_recv hK.1 hW.1 (ci := 6) (q0 := 159) rfl lkM) hK hW hS hA rfl hl.1 rfl (Nat.le_of_ble_eq_true rfl) dX6_joins_3 ⟨Nat.zero_le _, Nat.zero_le _⟩ (fun H locs hW hS => ?_)
  refine lv_if_eq (tgt := 13) hx hb dX6_joins_6 (by decide) (fun c_3 => ?_) (fun c_3 => ?_)
  · have h := ite_t c_3 h
    refine lv_iload_n hx hb dX6_joins_13 rfl (lv_at hl 2 rfl) ?_
    exact B14 _ _ M0 hW hS ls p1 p2 p3 p2 (lv_sub hl [0, 1, 2, 3] rfl) h
  · have h := ite_f c_3 h
    refine lv_iload_n hx hb dX6_joins_9 rfl (lv_at hl 1 rfl) ?_
    refine lv_goto (tgt := 14) hx hb dX6_joins_10 (by decide) ?_
    exact B14 _ _ M0 hW hS ls p1 p2 p3 p1 (lv_sub hl [0, 1, 2, 3] rfl) h
abbrev rX6_areaOf : Room := { frames := 2, cells := 0, slots := 0, locals := 43 }
set_option maxRecDepth 100000 in
set_option maxHeartbeats 8000000 in
theorem tX6_areaOf (l : Launch) (G : WG) (S0 M0 : St) (p1 : Int32) (rr : Int32) (h : f6_areaOf M0 p1 = some (rr)) : CtI l yX6_areaOf wsX6_areaOf rX6_areaOf G [.ref (gad G 159), .int p1] S0 M0 rr S0 M0 := by
  refine Met.ofW (cc := cX6_areaOf) (maxL := 4) (ret := (some .int)) (by decide) rfl ?_
  intro p e s m args below meth cd s₁ B hml hv
  obtain ⟨hargs, hK, hW⟩ := hv
  have hx := B.exec
  have hb := B.bytes
  have hr := B.returns
  have hts := atoms_spec (ws := wsX6_areaOf) B.pre
  have hown : s.vm.findClass RX6 = some m.cls := findClass_of_methodNamed B.named
  have hlocks := B.notSynchronized
  have hA : ∀ q, Aw G q → Aw G q := fun _ h => h
  have hS : va_S (Aw G) s.heap s.heap [] := va_S.rf
  have he0 : entryFrame m args 4 = F0 m 0 ((lg_sl ([.ref (gad G 159), .int p1]) ++ List.replicate (4 - (lg_sl ([.ref (gad G 159), .int p1])).length) Slot.unset).toArray) [] := by rw [hargs]; exact lg_entry_eq _ _ _
  have hl := lv_entry ([.ref (gad G 159), .int p1]) (n := 4) (Nat.le_of_ble_eq_true rfl)
  rw [he0]
  generalize (lg_sl ([.ref (gad G 159), .int p1]) ++ List.replicate (4 - (lg_sl ([.ref (gad G 159), .int p1])).length) Slot.unset).toArray = ls at hl ⊢
  have hl : lv_has ls 4 [(0, .ref (gad G 159)), (1, .int p1)] := hl
  have hiX6 : ∀ w ∈ u_ws RX6 TX6 14, w ∈ wsX6_areaOf := by decide +kernel
  have B4 : ∀ (n : Nat), ∀ (H : Heap) (locs : List Loc) (_ : WD G S0 M0 H) (_ : va_S (Aw G) s.heap H locs) (ls : Array Slot) (l1 : Int32) (l2 : Int32) (l3 : Int32) (_ : lv_has ls 4 [(0, .ref (gad G 159)), (1, .int l1), (2, .int l2), (3, .int l3)]) (h : f6_areaOf_b4 M0 l1 n l2 l3 = some (rr)), WI p l e (headSpec wsX6_areaOf rX6_areaOf).room s m args below meth cd G rr S0 M0 H locs (F0 m 4 ls []) := by
    intro n
    induction n with
    | zero => intro H locs hW hS ls l1 l2 l3 hl h; cases (show (none : Option (Int32)) = some _ from h)
    | succ n ih =>
      have B36 : ∀ (H : Heap) (locs : List Loc) (_ : WD G S0 M0 H) (_ : va_S (Aw G) s.heap H locs) (ls : Array Slot) (l1 : Int32) (l3 : Int32) (k0 : Int32) (k1 : Int32) (_ : lv_has ls 4 [(0, .ref (gad G 159)), (1, .int l1), (3, .int l3)]) (h : f6_areaOf_b36 M0 (f6_areaOf_b4 M0 l1 n) l1 l3 k0 k1 = some (rr)), WI p l e (headSpec wsX6_areaOf rX6_areaOf).room s m args below meth cd G rr S0 M0 H locs (F0 m 36 ls [.int k0, .int k1]) := by
        intro H locs hW hS ls l1 l3 k0 k1 hl h
        unfold f6_areaOf_b36 at h
        refine lv_iadd hx hb dX6_areaOf_36 ?_
        obtain ⟨x_1, ex_1, h⟩ := nam_e h
        refine lv_ni ex_1 ?_
        refine lv_istore_n (lv' := [(2, .int x_1), (0, .ref (gad G 159)), (1, .int l1), (3, .int l3)]) hx hb dX6_areaOf_37 rfl hl (by decide) rfl (fun ls hl => ?_)
        refine lv_iinc (v := (l3 + 1)) (lv' := [(3, .int ((l3 + 1))), (2, .int x_1), (0, .ref (gad G 159)), (1, .int l1)]) hx hb dX6_areaOf_38 hl (k := 3) rfl rfl (by decide) rfl (fun ls hl => ?_)
        refine lv_goto (tgt := 4) hx hb dX6_areaOf_41 (by decide) ?_
        exact ih _ _ hW hS ls l1 x_1 ((l3 + 1)) (lv_sub hl [2, 3, 1, 0] rfl) h
      intro H locs hW hS ls l1 l2 l3 hl h
      rw [f6_areaOf_b4] at h
      refine lv_iload_n hx hb dX6_areaOf_4 rfl (lv_at hl 3 rfl) ?_
      refine lv_aload_n hx hb dX6_areaOf_5 rfl (lv_at hl 0 rfl) ?_
      refine va_get (D := G.1) (ci := 6) (v := .ref (gad G (160 + 0))) (C := RX6) (T := TX6) (N := 14) hx hb hts hiX6 hown hK.1 hW.1 159 lkM rfl 1 (by decide) (hts _ (List.mem_of_getElem? (i := 1) rfl)) (fun _ h9 => h9) rfl dX6_areaOf_6 ?_
      refine lv_iconst (v := 1) hx hb dX6_areaOf_9 (by decide) ?_
      obtain ⟨x_1, nx_1, ex_1, h⟩ := arr_e h
      refine va_iald hx hb hK.1 hW.1 (160 + 0) 0 (lkMa (j := 0) (by omega)) rfl nx_1 dX6_areaOf_10 ?_
      refine lv_ni ex_1 ?_
      refine lv_icmp_ge (tgt := 44) hx hb dX6_areaOf_11 (by decide) (fun c_2 => ?_) (fun c_2 => ?_)
      · have h := ite_t c_2 h
        refine lv_iload_n hx hb dX6_areaOf_44 rfl (lv_at hl 2 rfl) ?_
        obtain rfl := Option.some.inj h
        exact W.iret hx hb hr (fun t ht hw => ⟨⟨_, (), rfl, rfl, hW.ret ht⟩, hS.F ht⟩) hS.2.2 dX6_areaOf_45
      · have h := ite_f c_2 h
        refine lv_iload_n hx hb dX6_areaOf_14 rfl (lv_at hl 2 rfl) ?_
        refine lv_aload_n hx hb dX6_areaOf_15 rfl (lv_at hl 0 rfl) ?_
        refine lv_iload_n hx hb dX6_areaOf_16 rfl (lv_at hl 3 rfl) ?_
        refine lv_iconst (v := 3) hx hb dX6_areaOf_17 (by decide) ?_
        obtain ⟨r_3, e_4, h⟩ := bnd_e h
        refine kV_I (As := [.int l3, .int 3]) (rest := [.int l2]) ⟨hx, hb, hml, hown, hts⟩ (tX6_ofPlot l G S0 M0 l3 3 r_3 e_4) (cwV 2 hts gX6_areaOf_X6_ofPlot rfl rfl rfl ⟨rfl, hdX6_ofPlot⟩ ⟨Nat.le_of_ble_eq_true rfl, Nat.le_of_ble_eq_true rfl⟩) (va_recv hK.1 hW.1 (ci := 6) (q0 := 159) rfl lkM) hK hW hS hA rfl hl.1 rfl (Nat.le_of_ble_eq_true rfl) dX6_areaOf_18 ⟨Nat.zero_le _, Nat.zero_le _⟩ (fun H locs hW hS => ?_)
        refine lv_iload_n hx hb dX6_areaOf_21 rfl (lv_at hl 1 rfl) ?_
        refine lv_iconst (v := 1) hx hb dX6_areaOf_22 (by decide) ?_
        refine lv_iadd hx hb dX6_areaOf_23 ?_
        refine lv_icmp_ne (tgt := 35) hx hb dX6_areaOf_24 (by decide) (fun c_5 => ?_) (fun c_5 => ?_)
        · have h := ite_f c_5 h
          refine lv_iconst (v := 0) hx hb dX6_areaOf_35 (by decide) ?_
          exact B36 _ _ hW hS ls l1 l3 0 l2 (lv_sub hl [0, 1, 3] rfl) h
        · have h := ite_t c_5 h
          refine lv_aload_n hx hb dX6_areaOf_27 rfl (lv_at hl 0 rfl) ?_
          refine lv_iload_n hx hb dX6_areaOf_28 rfl (lv_at hl 3 rfl) ?_
          obtain ⟨r_6, e_7, h⟩ := bnd_e h
          refine kV_I (As := [.int l3]) (rest := [.int l2]) ⟨hx, hb, hml, hown, hts⟩ (tX6_area l G S0 M0 l3 r_6 e_7) (cwV 1 hts gX6_areaOf_X6_area rfl rfl rfl ⟨rfl, hdX6_area⟩ ⟨Nat.le_of_ble_eq_true rfl, Nat.le_of_ble_eq_true rfl⟩) (va_recv hK.1 hW.1 (ci := 6) (q0 := 159) rfl lkM) hK hW hS hA rfl hl.1 rfl (Nat.le_of_ble_eq_true rfl) dX6_areaOf_29 ⟨Nat.zero_le _, Nat.zero_le _⟩ (fun H locs hW hS => ?_)
          refine lv_goto (tgt := 36) hx hb dX6_areaOf_32 (by decide) ?_
          exact B36 _ _ hW hS ls l1 l3 r_6 l2 (lv_sub hl [0, 1, 3] rfl) h
  unfold f6_areaOf at h
  refine lv_iconst (v := 0) hx hb dX6_areaOf_0 (by decide) ?_
  refine lv_istore_n (lv' := [(2, .int 0), (0, .ref (gad G 159)), (1, .int p1)]) hx hb dX6_areaOf_1 rfl hl (by decide) rfl (fun ls hl => ?_)
  refine lv_iconst (v := 0) hx hb dX6_areaOf_2 (by decide) ?_
  refine lv_istore_n (lv' := [(3, .int 0), (2, .int 0), (0, .ref (gad G 159)), (1, .int p1)]) hx hb dX6_areaOf_3 rfl hl (by decide) rfl (fun ls hl => ?_)
  exact B4 fuelN _ _ hW hS ls p1 0 0 (lv_sub hl [2, 3, 1, 0] rfl) h
abbrev rX6_touches : Room := { frames := 3, cells := 0, slots := 0, locals := 69 }
set_option maxRecDepth 100000 in
set_option maxHeartbeats 8000000 in
theorem tX6_touches (l : Launch) (G : WG) (S0 M0 : St) (p1 : Int32) (p2 : Int32) (rr : Int32) (h : f6_touches M0 p1 p2 = some (rr)) : CtI l yX6_touches wsX6_touches rX6_touches G [.ref (gad G 159), .int p1, .int p2] S0 M0 rr S0 M0 := by
  refine Met.ofW (cc := cX6_touches) (maxL := 5) (ret := (some .boolean)) (by decide) rfl ?_
  intro p e s m args below meth cd s₁ B hml hv
  obtain ⟨hargs, hK, hW⟩ := hv
  have hx := B.exec
  have hb := B.bytes
  have hr := B.returns
  have hts := atoms_spec (ws := wsX6_touches) B.pre
  have hown : s.vm.findClass RX6 = some m.cls := findClass_of_methodNamed B.named
  have hlocks := B.notSynchronized
  have hA : ∀ q, Aw G q → Aw G q := fun _ h => h
  have hS : va_S (Aw G) s.heap s.heap [] := va_S.rf
  have he0 : entryFrame m args 5 = F0 m 0 ((lg_sl ([.ref (gad G 159), .int p1, .int p2]) ++ List.replicate (5 - (lg_sl ([.ref (gad G 159), .int p1, .int p2])).length) Slot.unset).toArray) [] := by rw [hargs]; exact lg_entry_eq _ _ _
  have hl := lv_entry ([.ref (gad G 159), .int p1, .int p2]) (n := 5) (Nat.le_of_ble_eq_true rfl)
  rw [he0]
  generalize (lg_sl ([.ref (gad G 159), .int p1, .int p2]) ++ List.replicate (5 - (lg_sl ([.ref (gad G 159), .int p1, .int p2])).length) Slot.unset).toArray = ls at hl ⊢
  have hl : lv_has ls 5 [(0, .ref (gad G 159)), (1, .int p1), (2, .int p2)] := hl
  have hiX6 : ∀ w ∈ u_ws RX6 TX6 14, w ∈ wsX6_touches := by decide +kernel
  have B5 : ∀ (n : Nat), ∀ (H : Heap) (locs : List Loc) (_ : WD G S0 M0 H) (_ : va_S (Aw G) s.heap H locs) (ls : Array Slot) (l1 : Int32) (l2 : Int32) (l3 : Int32) (l4 : Int32) (_ : lv_has ls 5 [(0, .ref (gad G 159)), (1, .int l1), (2, .int l2), (3, .int l3), (4, .int l4)]) (h : f6_touches_b5 M0 l1 l2 n l3 l4 = some (rr)), WI p l e (headSpec wsX6_touches rX6_touches).room s m args below meth cd G rr S0 M0 H locs (F0 m 5 ls []) := by
    intro n
    induction n with
    | zero => intro H locs hW hS ls l1 l2 l3 l4 hl h; cases (show (none : Option (Int32)) = some _ from h)
    | succ n ih =>
      have B54 : ∀ (H : Heap) (locs : List Loc) (_ : WD G S0 M0 H) (_ : va_S (Aw G) s.heap H locs) (ls : Array Slot) (l1 : Int32) (l2 : Int32) (l4 : Int32) (k0 : Int32) (_ : lv_has ls 5 [(0, .ref (gad G 159)), (1, .int l1), (2, .int l2), (4, .int l4)]) (h : f6_touches_b54 M0 (f6_touches_b5 M0 l1 l2 n) l1 l2 l4 k0 = some (rr)), WI p l e (headSpec wsX6_touches rX6_touches).room s m args below meth cd G rr S0 M0 H locs (F0 m 54 ls [.int k0]) := by
        intro H locs hW hS ls l1 l2 l4 k0 hl h
        unfold f6_touches_b54 at h
        refine lv_istore_n (lv' := [(3, .int k0), (0, .ref (gad G 159)), (1, .int l1), (2, .int l2), (4, .int l4)]) hx hb dX6_touches_54 rfl hl (by decide) rfl (fun ls hl => ?_)
        refine lv_iinc (v := (l4 + 1)) (lv' := [(4, .int ((l4 + 1))), (3, .int k0), (0, .ref (gad G 159)), (1, .int l1), (2, .int l2)]) hx hb dX6_touches_55 hl (k := 4) rfl rfl (by decide) rfl (fun ls hl => ?_)
        refine lv_goto (tgt := 5) hx hb dX6_touches_58 (by decide) ?_
        exact ih _ _ hW hS ls l1 l2 k0 ((l4 + 1)) (lv_sub hl [2, 3, 4, 1, 0] rfl) h
      have B49 : ∀ (H : Heap) (locs : List Loc) (_ : WD G S0 M0 H) (_ : va_S (Aw G) s.heap H locs) (ls : Array Slot) (l1 : Int32) (l2 : Int32) (l4 : Int32) (_ : lv_has ls 5 [(0, .ref (gad G 159)), (1, .int l1), (2, .int l2), (4, .int l4)]) (h : f6_touches_b49 M0 (f6_touches_b5 M0 l1 l2 n) l1 l2 l4 = some (rr)), WI p l e (headSpec wsX6_touches rX6_touches).room s m args below meth cd G rr S0 M0 H locs (F0 m 49 ls []) := by
        intro H locs hW hS ls l1 l2 l4 hl h
        unfold f6_touches_b49 at h
        refine lv_iconst (v := 1) hx hb dX6_touches_49 (by decide) ?_
        refine lv_goto (tgt := 54) hx hb dX6_touches_50 (by decide) ?_
        exact B54 _ _ hW hS ls l1 l2 l4 1 (lv_sub hl [0, 1, 2, 3] rfl) h
      have B53 : ∀ (H : Heap) (locs : List Loc) (_ : WD G S0 M0 H) (_ : va_S (Aw G) s.heap H locs) (ls : Array Slot) (l1 : Int32) (l2 : Int32) (l4 : Int32) (_ : lv_has ls 5 [(0, .ref (gad G 159)), (1, .int l1), (2, .int l2), (4, .int l4)]) (h : f6_touches_b53 M0 (f6_touches_b5 M0 l1 l2 n) l1 l2 l4 = some (rr)), WI p l e (headSpec wsX6_touches rX6_touches).room s m args below meth cd G rr S0 M0 H locs (F0 m 53 ls []) := by
        intro H locs hW hS ls l1 l2 l4 hl h
        unfold f6_touches_b53 at h
        refine lv_iconst (v := 0) hx hb dX6_touches_53 (by decide) ?_
        exact B54 _ _ hW hS ls l1 l2 l4 0 (lv_sub hl [0, 1, 2, 3] rfl) h
      intro H locs hW hS ls l1 l2 l3 l4 hl h
      rw [f6_touches_b5] at h
      refine lv_iload hx hb dX6_touches_5 (lv_at hl 4 rfl) ?_
      refine lv_aload_n hx hb dX6_touches_7 rfl (lv_at hl 0 rfl) ?_
      refine va_get (D := G.1) (ci := 6) (v := .ref (gad G (160 + 0))) (C := RX6) (T := TX6) (N := 14) hx hb hts hiX6 hown hK.1 hW.1 159 lkM rfl 1 (by decide) (hts _ (List.mem_of_getElem? (i := 1) rfl)) (fun _ h9 => h9) rfl dX6_touches_8 ?_
      refine lv_iconst (v := 1) hx hb dX6_touches_11 (by decide) ?_
      obtain ⟨x_1, nx_1, ex_1, h⟩ := arr_e h
      refine va_iald hx hb hK.1 hW.1 (160 + 0) 0 (lkMa (j := 0) (by omega)) rfl nx_1 dX6_touches_12 ?_
      refine lv_ni ex_1 ?_
      refine lv_icmp_ge (tgt := 61) hx hb dX6_touches_13 (by decide) (fun c_2 => ?_) (fun c_2 => ?_)
      · have h := ite_t c_2 h
        refine lv_iload_n hx hb dX6_touches_61 rfl (lv_at hl 3 rfl) ?_
        obtain ⟨z_3, h⟩ := isz_e h
        obtain rfl := Option.some.inj h
        exact W.zret (ty := .boolean) hx hb hr (nz_1 z_3) (fun t ht hw => ⟨⟨_, (), rfl, rfl, hW.ret ht⟩, hS.F ht⟩) hS.2.2 dX6_touches_62
      · have h := ite_f c_2 h
        refine lv_iload_n hx hb dX6_touches_16 rfl (lv_at hl 3 rfl) ?_
        refine lv_if_ne (tgt := 49) hx hb dX6_touches_17 (by decide) (fun c_4 => ?_) (fun c_4 => ?_)
        · have h := ite_f c_4 h
          exact B49 _ _ hW hS ls l1 l2 l4 (lv_sub hl [0, 1, 2, 4] rfl) h
        · have h := ite_t c_4 h
          refine lv_iload hx hb dX6_touches_20 (lv_at hl 4 rfl) ?_
          refine lv_iload_n hx hb dX6_touches_22 rfl (lv_at hl 1 rfl) ?_
          refine lv_icmp_eq (tgt := 53) hx hb dX6_touches_23 (by decide) (fun c_5 => ?_) (fun c_5 => ?_)
          · have h := ite_t c_5 h
            exact B53 _ _ hW hS ls l1 l2 l4 (lv_sub hl [0, 1, 2, 4] rfl) h
          · have h := ite_f c_5 h
            refine lv_aload_n hx hb dX6_touches_26 rfl (lv_at hl 0 rfl) ?_
            refine lv_iload hx hb dX6_touches_27 (lv_at hl 4 rfl) ?_
            refine lv_iconst (v := 3) hx hb dX6_touches_29 (by decide) ?_
            obtain ⟨r_6, e_7, h⟩ := bnd_e h
            refine kV_I (As := [.int l4, .int 3]) (rest := []) ⟨hx, hb, hml, hown, hts⟩ (tX6_ofPlot l G S0 M0 l4 3 r_6 e_7) (cwV 2 hts gX6_touches_X6_ofPlot rfl rfl rfl ⟨rfl, hdX6_ofPlot⟩ ⟨Nat.le_of_ble_eq_true rfl, Nat.le_of_ble_eq_true rfl⟩) (va_recv hK.1 hW.1 (ci := 6) (q0 := 159) rfl lkM) hK hW hS hA rfl hl.1 rfl (Nat.le_of_ble_eq_true rfl) dX6_touches_30 ⟨Nat.zero_le _, Nat.zero_le _⟩ (fun H locs hW hS => ?_)
            refine lv_iload_n hx hb dX6_touches_33 rfl (lv_at hl 2 rfl) ?_
            refine lv_iconst (v := 1) hx hb dX6_touches_34 (by decide) ?_
            refine lv_iadd hx hb dX6_touches_35 ?_
            refine lv_icmp_ne (tgt := 53) hx hb dX6_touches_36 (by decide) (fun c_8 => ?_) (fun c_8 => ?_)
            · have h := ite_f c_8 h
              exact B53 _ _ hW hS ls l1 l2 l4 (lv_sub hl [0, 1, 2, 4] rfl) h
            · have h := ite_t c_8 h
              refine lv_aload_n hx hb dX6_touches_39 rfl (lv_at hl 0 rfl) ?_
              refine lv_iload_n hx hb dX6_touches_40 rfl (lv_at hl 1 rfl) ?_
              refine lv_iload hx hb dX6_touches_41 (lv_at hl 4 rfl) ?_
              obtain ⟨r_9, e_10, h⟩ := bnd_e h
              refine kV_I (As := [.int l1, .int l4]) (rest := []) ⟨hx, hb, hml, hown, hts⟩ (tX6_touch l G S0 M0 l1 l4 r_9 e_10) (cwV 2 hts gX6_touches_X6_touch rfl rfl rfl ⟨rfl, hdX6_touch⟩ ⟨Nat.le_of_ble_eq_true rfl, Nat.le_of_ble_eq_true rfl⟩) (va_recv hK.1 hW.1 (ci := 6) (q0 := 159) rfl lkM) hK hW hS hA rfl hl.1 rfl (Nat.le_of_ble_eq_true rfl) dX6_touches_43 ⟨Nat.zero_le _, Nat.zero_le _⟩ (fun H locs hW hS => ?_)
              refine lv_if_eq (tgt := 53) hx hb dX6_touches_46 (by decide) (fun c_11 => ?_) (fun c_11 => ?_)
              · have h := ite_t c_11 h
                exact B53 _ _ hW hS ls l1 l2 l4 (lv_sub hl [0, 1, 2, 4] rfl) h
              · have h := ite_f c_11 h
                exact B49 _ _ hW hS ls l1 l2 l4 (lv_sub hl [0, 1, 2, 4] rfl) h
  unfold f6_touches at h
  refine lv_iconst (v := 0) hx hb dX6_touches_0 (by decide) ?_
  refine lv_istore_n (lv' := [(3, .int 0), (0, .ref (gad G 159)), (1, .int p1), (2, .int p2)]) hx hb dX6_touches_1 rfl hl (by decide) rfl (fun ls hl => ?_)
  refine lv_iconst (v := 0) hx hb dX6_touches_2 (by decide) ?_
  refine lv_istore (lv' := [(4, .int 0), (3, .int 0), (0, .ref (gad G 159)), (1, .int p1), (2, .int p2)]) hx hb dX6_touches_3 hl (by decide) rfl (fun ls hl => ?_)
  exact B5 fuelN _ _ hW hS ls p1 p2 0 0 (lv_sub hl [2, 3, 4, 1, 0] rfl) h
abbrev rX6_onField : Room := { frames := 1, cells := 0, slots := 0, locals := 22 }
set_option maxRecDepth 100000 in
set_option maxHeartbeats 8000000 in
theorem tX6_onField (l : Launch) (G : WG) (S0 M0 : St) (rr : Int32) (h : f6_onField M0 = some (rr)) : CtI l yX6_onField wsX6_onField rX6_onField G [.ref (gad G 159)] S0 M0 rr S0 M0 := by
  refine Met.ofW (cc := cX6_onField) (maxL := 3) (ret := (some .int)) (by decide) rfl ?_
  intro p e s m args below meth cd s₁ B hml hv
  obtain ⟨hargs, hK, hW⟩ := hv
  have hx := B.exec
  have hb := B.bytes
  have hr := B.returns
  have hts := atoms_spec (ws := wsX6_onField) B.pre
  have hown : s.vm.findClass RX6 = some m.cls := findClass_of_methodNamed B.named
  have hlocks := B.notSynchronized
  have hA : ∀ q, Aw G q → Aw G q := fun _ h => h
  have hS : va_S (Aw G) s.heap s.heap [] := va_S.rf
  have he0 : entryFrame m args 3 = F0 m 0 ((lg_sl ([.ref (gad G 159)]) ++ List.replicate (3 - (lg_sl ([.ref (gad G 159)])).length) Slot.unset).toArray) [] := by rw [hargs]; exact lg_entry_eq _ _ _
  have hl := lv_entry ([.ref (gad G 159)]) (n := 3) (Nat.le_of_ble_eq_true rfl)
  rw [he0]
  generalize (lg_sl ([.ref (gad G 159)]) ++ List.replicate (3 - (lg_sl ([.ref (gad G 159)])).length) Slot.unset).toArray = ls at hl ⊢
  have hl : lv_has ls 3 [(0, .ref (gad G 159))] := hl
  have B4 : ∀ (n : Nat), ∀ (H : Heap) (locs : List Loc) (_ : WD G S0 M0 H) (_ : va_S (Aw G) s.heap H locs) (ls : Array Slot) (l1 : Int32) (l2 : Int32) (_ : lv_has ls 3 [(0, .ref (gad G 159)), (1, .int l1), (2, .int l2)]) (h : f6_onField_b4 M0 n l1 l2 = some (rr)), WI p l e (headSpec wsX6_onField rX6_onField).room s m args below meth cd G rr S0 M0 H locs (F0 m 4 ls []) := by
    intro n
    induction n with
    | zero => intro H locs hW hS ls l1 l2 hl h; cases (show (none : Option (Int32)) = some _ from h)
    | succ n ih =>
      intro H locs hW hS ls l1 l2 hl h
      rw [f6_onField_b4] at h
      refine lv_iload_n hx hb dX6_onField_4 rfl (lv_at hl 2 rfl) ?_
      refine lv_bipush (v := 16) hx hb dX6_onField_5 (by decide) ?_
      refine lv_icmp_ge (tgt := 25) hx hb dX6_onField_7 (by decide) (fun c_1 => ?_) (fun c_1 => ?_)
      · have h := ite_t c_1 h
        refine lv_iload_n hx hb dX6_onField_25 rfl (lv_at hl 1 rfl) ?_
        obtain rfl := Option.some.inj h
        exact W.iret hx hb hr (fun t ht hw => ⟨⟨_, (), rfl, rfl, hW.ret ht⟩, hS.F ht⟩) hS.2.2 dX6_onField_26
      · have h := ite_f c_1 h
        refine lv_iload_n hx hb dX6_onField_10 rfl (lv_at hl 1 rfl) ?_
        refine lv_aload_n hx hb dX6_onField_11 rfl (lv_at hl 0 rfl) ?_
        refine lv_iload_n hx hb dX6_onField_12 rfl (lv_at hl 2 rfl) ?_
        refine lv_iconst (v := 0) hx hb dX6_onField_13 (by decide) ?_
        obtain ⟨r_2, e_3, h⟩ := bnd_e h
        refine kV_I (As := [.int l2, .int 0]) (rest := [.int l1]) ⟨hx, hb, hml, hown, hts⟩ (tX6_ofCamper l G S0 M0 l2 0 r_2 e_3) (cwV 2 hts gX6_onField_X6_ofCamper rfl rfl rfl ⟨rfl, hdX6_ofCamper⟩ ⟨Nat.le_of_ble_eq_true rfl, Nat.le_of_ble_eq_true rfl⟩) (va_recv hK.1 hW.1 (ci := 6) (q0 := 159) rfl lkM) hK hW hS hA rfl hl.1 rfl (Nat.le_of_ble_eq_true rfl) dX6_onField_14 ⟨Nat.zero_le _, Nat.zero_le _⟩ (fun H locs hW hS => ?_)
        refine lv_iadd hx hb dX6_onField_17 ?_
        obtain ⟨x_4, ex_4, h⟩ := nam_e h
        refine lv_ni ex_4 ?_
        refine lv_istore_n (lv' := [(1, .int x_4), (0, .ref (gad G 159)), (2, .int l2)]) hx hb dX6_onField_18 rfl hl (by decide) rfl (fun ls hl => ?_)
        refine lv_iinc (v := (l2 + 1)) (lv' := [(2, .int ((l2 + 1))), (1, .int x_4), (0, .ref (gad G 159))]) hx hb dX6_onField_19 hl (k := 2) rfl rfl (by decide) rfl (fun ls hl => ?_)
        refine lv_goto (tgt := 4) hx hb dX6_onField_22 (by decide) ?_
        exact ih _ _ hW hS ls x_4 ((l2 + 1)) (lv_sub hl [2, 1, 0] rfl) h
  unfold f6_onField at h
  refine lv_iconst (v := 0) hx hb dX6_onField_0 (by decide) ?_
  refine lv_istore_n (lv' := [(1, .int 0), (0, .ref (gad G 159))]) hx hb dX6_onField_1 rfl hl (by decide) rfl (fun ls hl => ?_)
  refine lv_iconst (v := 0) hx hb dX6_onField_2 (by decide) ?_
  refine lv_istore_n (lv' := [(2, .int 0), (1, .int 0), (0, .ref (gad G 159))]) hx hb dX6_onField_3 rfl hl (by decide) rfl (fun ls hl => ?_)
  exact B4 fuelN _ _ hW hS ls 0 0 (lv_sub hl [2, 1, 0] rfl) h
abbrev rX6_refuses : Room := { frames := 4, cells := 0, slots := 0, locals := 89 }
set_option maxRecDepth 100000 in
set_option maxHeartbeats 8000000 in
theorem tX6_refuses (l : Launch) (G : WG) (S0 M0 : St) (p1 : Int32) (p2 : Int32) (rr : Int32) (h : f6_refuses M0 p1 p2 = some (rr)) : CtI l yX6_refuses wsX6_refuses rX6_refuses G [.ref (gad G 159), .int p1, .int p2] S0 M0 rr S0 M0 := by
  refine Met.ofW (cc := cX6_refuses) (maxL := 6) (ret := (some .int)) (by decide) rfl ?_
  intro p e s m args below meth cd s₁ B hml hv
  obtain ⟨hargs, hK, hW⟩ := hv
  have hx := B.exec
  have hb := B.bytes
  have hr := B.returns
  have hts := atoms_spec (ws := wsX6_refuses) B.pre
  have hown : s.vm.findClass RX6 = some m.cls := findClass_of_methodNamed B.named
  have hlocks := B.notSynchronized
  have hA : ∀ q, Aw G q → Aw G q := fun _ h => h
  have hS : va_S (Aw G) s.heap s.heap [] := va_S.rf
  have he0 : entryFrame m args 6 = F0 m 0 ((lg_sl ([.ref (gad G 159), .int p1, .int p2]) ++ List.replicate (6 - (lg_sl ([.ref (gad G 159), .int p1, .int p2])).length) Slot.unset).toArray) [] := by rw [hargs]; exact lg_entry_eq _ _ _
  have hl := lv_entry ([.ref (gad G 159), .int p1, .int p2]) (n := 6) (Nat.le_of_ble_eq_true rfl)
  rw [he0]
  generalize (lg_sl ([.ref (gad G 159), .int p1, .int p2]) ++ List.replicate (6 - (lg_sl ([.ref (gad G 159), .int p1, .int p2])).length) Slot.unset).toArray = ls at hl ⊢
  have hl : lv_has ls 6 [(0, .ref (gad G 159)), (1, .int p1), (2, .int p2)] := hl
  have hiX6 : ∀ w ∈ u_ws RX6 TX6 14, w ∈ wsX6_refuses := by decide +kernel
  have B92 : ∀ (H : Heap) (locs : List Loc) (_ : WD G S0 M0 H) (_ : va_S (Aw G) s.heap H locs) (ls : Array Slot) (k0 : Int32) (_ : lv_has ls 6 []) (h : f6_refuses_b92 M0 k0 = some (rr)), WI p l e (headSpec wsX6_refuses rX6_refuses).room s m args below meth cd G rr S0 M0 H locs (F0 m 92 ls [.int k0]) := by
    intro H locs hW hS ls k0 hl h
    unfold f6_refuses_b92 at h
    obtain rfl := Option.some.inj h
    exact W.iret hx hb hr (fun t ht hw => ⟨⟨_, (), rfl, rfl, hW.ret ht⟩, hS.F ht⟩) hS.2.2 dX6_refuses_92
  have B86 : ∀ (H : Heap) (locs : List Loc) (_ : WD G S0 M0 H) (_ : va_S (Aw G) s.heap H locs) (ls : Array Slot) (_ : lv_has ls 6 []) (h : f6_refuses_b86 M0  = some (rr)), WI p l e (headSpec wsX6_refuses rX6_refuses).room s m args below meth cd G rr S0 M0 H locs (F0 m 86 ls []) := by
    intro H locs hW hS ls hl h
    unfold f6_refuses_b86 at h
    refine lv_bipush (v := (-4)) hx hb dX6_refuses_86 (by decide) ?_
    refine lv_goto (tgt := 92) hx hb dX6_refuses_88 (by decide) ?_
    exact B92 _ _ hW hS ls ((-4)) (lv_sub hl [] rfl) h
  have B91 : ∀ (H : Heap) (locs : List Loc) (_ : WD G S0 M0 H) (_ : va_S (Aw G) s.heap H locs) (ls : Array Slot) (_ : lv_has ls 6 []) (h : f6_refuses_b91 M0  = some (rr)), WI p l e (headSpec wsX6_refuses rX6_refuses).room s m args below meth cd G rr S0 M0 H locs (F0 m 91 ls []) := by
    intro H locs hW hS ls hl h
    unfold f6_refuses_b91 at h
    refine lv_iconst (v := 0) hx hb dX6_refuses_91 (by decide) ?_
    exact B92 _ _ hW hS ls 0 (lv_sub hl [] rfl) h
  have B63 : ∀ (H : Heap) (locs : List Loc) (_ : WD G S0 M0 H) (_ : va_S (Aw G) s.heap H locs) (ls : Array Slot) (l3 : Int32) (l4 : Int32) (k0 : Int32) (_ : lv_has ls 6 [(0, .ref (gad G 159)), (3, .int l3), (4, .int l4)]) (h : f6_refuses_b63 M0 l3 l4 k0 = some (rr)), WI p l e (headSpec wsX6_refuses rX6_refuses).room s m args below meth cd G rr S0 M0 H locs (F0 m 63 ls [.int k0]) := by
    intro H locs hW hS ls l3 l4 k0 hl h
    unfold f6_refuses_b63 at h
    refine lv_istore (lv' := [(5, .int k0), (0, .ref (gad G 159)), (3, .int l3), (4, .int l4)]) hx hb dX6_refuses_63 hl (by decide) rfl (fun ls hl => ?_)
    refine lv_iload hx hb dX6_refuses_65 (lv_at hl 3 rfl) ?_
    refine lv_if_lt (tgt := 91) hx hb dX6_refuses_67 (by decide) (fun c_1 => ?_) (fun c_1 => ?_)
    · have h := ite_t c_1 h
      exact B91 _ _ hW hS ls (lv_sub hl [] rfl) h
    · have h := ite_f c_1 h
      refine lv_iload hx hb dX6_refuses_70 (lv_at hl 0 rfl) ?_
      refine lv_if_ne (tgt := 86) hx hb dX6_refuses_72 (by decide) (fun c_2 => ?_) (fun c_2 => ?_)
      · have h := ite_f c_2 h
        exact B86 _ _ hW hS ls (lv_sub hl [] rfl) h
      · have h := ite_t c_2 h
        refine lv_aload_n hx hb dX6_refuses_75 rfl (lv_at hl 1 rfl) ?_
        refine lv_iload_n hx hb dX6_refuses_76 rfl (lv_at hl 2 rfl) ?_
        refine lv_iconst (v := 0) hx hb dX6_refuses_77 (by decide) ?_
        obtain ⟨r_3, e_4, h⟩ := bnd_e h
        refine kV_I (As := [.int l3, .int 0]) (rest := []) ⟨hx, hb, hml, hown, hts⟩ (tX6_ofPlot l G S0 M0 l3 0 r_3 e_4) (cwV 2 hts gX6_refuses_X6_ofPlot rfl rfl rfl ⟨rfl, hdX6_ofPlot⟩ ⟨Nat.le_of_ble_eq_true rfl, Nat.le_of_ble_eq_true rfl⟩) (va_recv hK.1 hW.1 (ci := 6) (q0 := 159) rfl lkM) hK hW hS hA rfl hl.1 rfl (Nat.le_of_ble_eq_true rfl) dX6_refuses_78 ⟨Nat.zero_le _, Nat.zero_le _⟩ (fun H locs hW hS => ?_)
        refine lv_bipush (v := 12) hx hb dX6_refuses_81 (by decide) ?_
        refine lv_icmp_ne (tgt := 91) hx hb dX6_refuses_83 (by decide) (fun c_5 => ?_) (fun c_5 => ?_)
        · have h := ite_f c_5 h
          exact B91 _ _ hW hS ls (lv_sub hl [] rfl) h
        · have h := ite_t c_5 h
          exact B86 _ _ hW hS ls (lv_sub hl [] rfl) h
  have B62 : ∀ (H : Heap) (locs : List Loc) (_ : WD G S0 M0 H) (_ : va_S (Aw G) s.heap H locs) (ls : Array Slot) (l3 : Int32) (l4 : Int32) (_ : lv_has ls 6 [(0, .ref (gad G 159)), (3, .int l3), (4, .int l4)]) (h : f6_refuses_b62 M0 l3 l4 = some (rr)), WI p l e (headSpec wsX6_refuses rX6_refuses).room s m args below meth cd G rr S0 M0 H locs (F0 m 62 ls []) := by
    intro H locs hW hS ls l3 l4 hl h
    unfold f6_refuses_b62 at h
    refine lv_iconst (v := 0) hx hb dX6_refuses_62 (by decide) ?_
    exact B63 _ _ hW hS ls l3 l4 0 (lv_sub hl [0, 1, 2] rfl) h
  unfold f6_refuses at h
  refine lv_aload_n hx hb dX6_refuses_0 rfl (lv_at hl 0 rfl) ?_
  refine va_get (D := G.1) (ci := 6) (v := .ref (gad G (160 + 0))) (C := RX6) (T := TX6) (N := 14) hx hb hts hiX6 hown hK.1 hW.1 159 lkM rfl 1 (by decide) (hts _ (List.mem_of_getElem? (i := 1) rfl)) (fun _ h9 => h9) rfl dX6_refuses_1 ?_
  refine lv_iconst (v := 0) hx hb dX6_refuses_4 (by decide) ?_
  obtain ⟨x_1, nx_1, ex_1, h⟩ := arr_e h
  refine va_iald hx hb hK.1 hW.1 (160 + 0) 0 (lkMa (j := 0) (by omega)) rfl nx_1 dX6_refuses_5 ?_
  refine lv_ni ex_1 ?_
  refine lv_bipush (v := 16) hx hb dX6_refuses_6 (by decide) ?_
  refine lv_icmp_ne (tgt := 14) hx hb dX6_refuses_8 (by decide) (fun c_2 => ?_) (fun c_2 => ?_)
  · have h := ite_f c_2 h
    refine lv_aload_n hx hb dX6_refuses_14 rfl (lv_at hl 0 rfl) ?_
    refine lv_iload_n hx hb dX6_refuses_15 rfl (lv_at hl 1 rfl) ?_
    refine lv_iload_n hx hb dX6_refuses_16 rfl (lv_at hl 2 rfl) ?_
    obtain ⟨r_3, e_4, h⟩ := bnd_e h
    refine kV_I (As := [.int p1, .int p2]) (rest := []) ⟨hx, hb, hml, hown, hts⟩ (tX6_plotAt l G S0 M0 p1 p2 r_3 e_4) (cwV 2 hts gX6_refuses_X6_plotAt rfl rfl rfl ⟨rfl, hdX6_plotAt⟩ ⟨Nat.le_of_ble_eq_true rfl, Nat.le_of_ble_eq_true rfl⟩) (va_recv hK.1 hW.1 (ci := 6) (q0 := 159) rfl lkM) hK hW hS hA rfl hl.1 rfl (Nat.le_of_ble_eq_true rfl) dX6_refuses_17 ⟨Nat.zero_le _, Nat.zero_le _⟩ (fun H locs hW hS => ?_)
    refine lv_istore_n (lv' := [(3, .int r_3), (0, .ref (gad G 159)), (1, .int p1), (2, .int p2)]) hx hb dX6_refuses_20 rfl hl (by decide) rfl (fun ls hl => ?_)
    refine lv_aload_n hx hb dX6_refuses_21 rfl (lv_at hl 1 rfl) ?_
    refine lv_iload_n hx hb dX6_refuses_22 rfl (lv_at hl 0 rfl) ?_
    refine lv_iconst (v := 3) hx hb dX6_refuses_23 (by decide) ?_
    obtain ⟨r_5, e_6, h⟩ := bnd_e h
    refine kV_I (As := [.int r_3, .int 3]) (rest := []) ⟨hx, hb, hml, hown, hts⟩ (tX6_ofPlot l G S0 M0 r_3 3 r_5 e_6) (cwV 2 hts gX6_refuses_X6_ofPlot rfl rfl rfl ⟨rfl, hdX6_ofPlot⟩ ⟨Nat.le_of_ble_eq_true rfl, Nat.le_of_ble_eq_true rfl⟩) (va_recv hK.1 hW.1 (ci := 6) (q0 := 159) rfl lkM) hK hW hS hA rfl hl.1 rfl (Nat.le_of_ble_eq_true rfl) dX6_refuses_24 ⟨Nat.zero_le _, Nat.zero_le _⟩ (fun H locs hW hS => ?_)
    refine lv_iconst (v := 1) hx hb dX6_refuses_27 (by decide) ?_
    refine lv_isub hx hb dX6_refuses_28 ?_
    obtain ⟨x_7, ex_7, h⟩ := nam_e h
    refine lv_ni ex_7 ?_
    refine lv_istore (lv' := [(4, .int x_7), (3, .int r_3), (0, .ref (gad G 159)), (1, .int p1), (2, .int p2)]) hx hb dX6_refuses_29 hl (by decide) rfl (fun ls hl => ?_)
    refine lv_iload hx hb dX6_refuses_31 (lv_at hl 0 rfl) ?_
    refine lv_if_lt (tgt := 62) hx hb dX6_refuses_33 (by decide) (fun c_8 => ?_) (fun c_8 => ?_)
    · have h := ite_t c_8 h
      exact B62 _ _ hW hS ls r_3 x_7 (lv_sub hl [2, 1, 0] rfl) h
    · have h := ite_f c_8 h
      refine lv_aload_n hx hb dX6_refuses_36 rfl (lv_at hl 2 rfl) ?_
      refine lv_iload hx hb dX6_refuses_37 (lv_at hl 0 rfl) ?_
      refine lv_iconst (v := 1) hx hb dX6_refuses_39 (by decide) ?_
      obtain ⟨r_9, e_10, h⟩ := bnd_e h
      refine kV_I (As := [.int x_7, .int 1]) (rest := []) ⟨hx, hb, hml, hown, hts⟩ (tX6_ofCamper l G S0 M0 x_7 1 r_9 e_10) (cwV 2 hts gX6_refuses_X6_ofCamper rfl rfl rfl ⟨rfl, hdX6_ofCamper⟩ ⟨Nat.le_of_ble_eq_true rfl, Nat.le_of_ble_eq_true rfl⟩) (va_recv hK.1 hW.1 (ci := 6) (q0 := 159) rfl lkM) hK hW hS hA rfl hl.1 rfl (Nat.le_of_ble_eq_true rfl) dX6_refuses_40 ⟨Nat.zero_le _, Nat.zero_le _⟩ (fun H locs hW hS => ?_)
      refine lv_iload_n hx hb dX6_refuses_43 rfl (lv_at hl 3 rfl) ?_
      refine lv_icmp_ne (tgt := 62) hx hb dX6_refuses_44 (by decide) (fun c_11 => ?_) (fun c_11 => ?_)
      · have h := ite_f c_11 h
        exact B62 _ _ hW hS ls r_3 x_7 (lv_sub hl [2, 1, 0] rfl) h
      · have h := ite_t c_11 h
        refine lv_aload_n hx hb dX6_refuses_47 rfl (lv_at hl 2 rfl) ?_
        refine lv_iload hx hb dX6_refuses_48 (lv_at hl 0 rfl) ?_
        refine lv_iconst (v := 2) hx hb dX6_refuses_50 (by decide) ?_
        obtain ⟨r_12, e_13, h⟩ := bnd_e h
        refine kV_I (As := [.int x_7, .int 2]) (rest := []) ⟨hx, hb, hml, hown, hts⟩ (tX6_ofCamper l G S0 M0 x_7 2 r_12 e_13) (cwV 2 hts gX6_refuses_X6_ofCamper rfl rfl rfl ⟨rfl, hdX6_ofCamper⟩ ⟨Nat.le_of_ble_eq_true rfl, Nat.le_of_ble_eq_true rfl⟩) (va_recv hK.1 hW.1 (ci := 6) (q0 := 159) rfl lkM) hK hW hS hA rfl hl.1 rfl (Nat.le_of_ble_eq_true rfl) dX6_refuses_51 ⟨Nat.zero_le _, Nat.zero_le _⟩ (fun H locs hW hS => ?_)
        refine lv_iload_n hx hb dX6_refuses_54 rfl (lv_at hl 4 rfl) ?_
        refine lv_icmp_ne (tgt := 62) hx hb dX6_refuses_55 (by decide) (fun c_14 => ?_) (fun c_14 => ?_)
        · have h := ite_f c_14 h
          exact B62 _ _ hW hS ls r_3 x_7 (lv_sub hl [2, 1, 0] rfl) h
        · have h := ite_t c_14 h
          refine lv_iconst (v := 1) hx hb dX6_refuses_58 (by decide) ?_
          refine lv_goto (tgt := 63) hx hb dX6_refuses_59 (by decide) ?_
          exact B63 _ _ hW hS ls r_3 x_7 1 (lv_sub hl [2, 1, 0] rfl) h
  · have h := ite_t c_2 h
    refine lv_bipush (v := (-3)) hx hb dX6_refuses_11 (by decide) ?_
    obtain rfl := Option.some.inj h
    exact W.iret hx hb hr (fun t ht hw => ⟨⟨_, (), rfl, rfl, hW.ret ht⟩, hS.F ht⟩) hS.2.2 dX6_refuses_13
abbrev rX6_comes : Room := { frames := 4, cells := 0, slots := 0, locals := 89 }
set_option maxRecDepth 100000 in
set_option maxHeartbeats 8000000 in
theorem tX6_comes (l : Launch) (G : WG) (S0 M0 : St) (p1 : Int32) (p2 : Int32) (rr : Int32) (M' : St) (h : f6_comes M0 p1 p2 = some (rr, M')) : CtI l yX6_comes wsX6_comes rX6_comes G [.ref (gad G 159), .int p1, .int p2] S0 M0 rr S0 M' := by
  refine Met.ofW (cc := cX6_comes) (maxL := 7) (ret := (some .int)) (by decide) rfl ?_
  intro p e s m args below meth cd s₁ B hml hv
  obtain ⟨hargs, hK, hW⟩ := hv
  have hx := B.exec
  have hb := B.bytes
  have hr := B.returns
  have hts := atoms_spec (ws := wsX6_comes) B.pre
  have hown : s.vm.findClass RX6 = some m.cls := findClass_of_methodNamed B.named
  have hlocks := B.notSynchronized
  have hA : ∀ q, Aw G q → Aw G q := fun _ h => h
  have hS : va_S (Aw G) s.heap s.heap [] := va_S.rf
  have he0 : entryFrame m args 7 = F0 m 0 ((lg_sl ([.ref (gad G 159), .int p1, .int p2]) ++ List.replicate (7 - (lg_sl ([.ref (gad G 159), .int p1, .int p2])).length) Slot.unset).toArray) [] := by rw [hargs]; exact lg_entry_eq _ _ _
  have hl := lv_entry ([.ref (gad G 159), .int p1, .int p2]) (n := 7) (Nat.le_of_ble_eq_true rfl)
  rw [he0]
  generalize (lg_sl ([.ref (gad G 159), .int p1, .int p2]) ++ List.replicate (7 - (lg_sl ([.ref (gad G 159), .int p1, .int p2])).length) Slot.unset).toArray = ls at hl ⊢
  have hl : lv_has ls 7 [(0, .ref (gad G 159)), (1, .int p1), (2, .int p2)] := hl
  have hiX6 : ∀ w ∈ u_ws RX6 TX6 14, w ∈ wsX6_comes := by decide +kernel
  have B69 : ∀ (n : Nat), ∀ (H : Heap) (locs : List Loc) (M : St) (_ : WD G S0 M H) (_ : va_S (Aw G) s.heap H locs) (ls : Array Slot) (l1 : Int32) (l2 : Int32) (l3 : Int32) (l4 : Int32) (l5 : Int32) (l6 : Int32) (_ : lv_has ls 7 [(0, .ref (gad G 159)), (1, .int l1), (2, .int l2), (3, .int l3), (4, .int l4), (5, .int l5), (6, .int l6)]) (h : f6_comes_b69 l1 l2 l3 l5 n M l4 l6 = some (rr, M')), WI p l e (headSpec wsX6_comes rX6_comes).room s m args below meth cd G rr S0 M' H locs (F0 m 69 ls []) := by
    intro n
    induction n with
    | zero => intro H locs M hW hS ls l1 l2 l3 l4 l5 l6 hl h; cases (show (none : Option (Int32 × St)) = some _ from h)
    | succ n ih =>
      intro H locs M hW hS ls l1 l2 l3 l4 l5 l6 hl h
      rw [f6_comes_b69] at h
      refine lv_iload hx hb dX6_comes_69 (lv_at hl 6 rfl) ?_
      refine lv_if_eq (tgt := 113) hx hb dX6_comes_71 (by decide) (fun c_1 => ?_) (fun c_1 => ?_)
      · have h := ite_t c_1 h
        refine lv_aload_n hx hb dX6_comes_113 rfl (lv_at hl 0 rfl) ?_
        refine va_get (D := G.1) (ci := 6) (v := .ref (gad G (160 + 0))) (C := RX6) (T := TX6) (N := 14) hx hb hts hiX6 hown hK.1 hW.1 159 lkM rfl 1 (by decide) (hts _ (List.mem_of_getElem? (i := 1) rfl)) (fun _ h9 => h9) rfl dX6_comes_114 ?_
        refine lv_bipush (v := 54) hx hb dX6_comes_117 (by decide) ?_
        refine lv_iconst (v := 4) hx hb dX6_comes_119 (by decide) ?_
        refine lv_iload hx hb dX6_comes_120 (lv_at hl 4 rfl) ?_
        refine lv_imul hx hb dX6_comes_122 ?_
        refine lv_iadd hx hb dX6_comes_123 ?_
        refine lv_iconst (v := 3) hx hb dX6_comes_124 (by decide) ?_
        refine lv_iadd hx hb dX6_comes_125 ?_
        refine lv_iload_n hx hb dX6_comes_126 rfl (lv_at hl 3 rfl) ?_
        refine lv_iconst (v := 1) hx hb dX6_comes_127 (by decide) ?_
        refine lv_iadd hx hb dX6_comes_128 ?_
        obtain ⟨n_3, h⟩ := sto_e h
        obtain ⟨M_2, eM_2, h⟩ := nam_e h
        refine va_iast hx hb hK.1 hW.1 (hW.D hA) hS (160 + 0) 0 (lkMa (j := 0) (by omega)) rfl n_3 dX6_comes_129 (fun H locs hP hD hS => ?_)
        have hW := upMa (j := 0) (by omega) hW hP
        rw [← eM_2] at hW
        refine lv_iload_n hx hb dX6_comes_130 rfl (lv_at hl 3 rfl) ?_
        obtain ⟨rfl, rfl⟩ := Prod.mk.inj (Option.some.inj h)
        exact W.iret hx hb hr (fun t ht hw => ⟨⟨_, (), rfl, rfl, hW.ret ht⟩, hS.F ht⟩) hS.2.2 dX6_comes_131
      · have h := ite_f c_1 h
        refine lv_aload_n hx hb dX6_comes_74 rfl (lv_at hl 0 rfl) ?_
        refine lv_iload hx hb dX6_comes_75 (lv_at hl 4 rfl) ?_
        obtain ⟨M_4, e_5, h⟩ := bnd_e h
        refine kV_V (As := [.int l4]) (rest := []) ⟨hx, hb, hml, hown, hts⟩ (tX6_halves l G S0 M l4 M_4 e_5) (cwV 1 hts gX6_comes_X6_halves rfl rfl rfl ⟨rfl, hdX6_halves⟩ ⟨Nat.le_of_ble_eq_true rfl, Nat.le_of_ble_eq_true rfl⟩) (va_recv hK.1 hW.1 (ci := 6) (q0 := 159) rfl lkM) hK hW hS hA rfl hl.1 rfl (Nat.le_of_ble_eq_true rfl) dX6_comes_77 ⟨Nat.zero_le _, Nat.zero_le _⟩ (fun H locs hW hS => ?_)
        refine lv_aload_n hx hb dX6_comes_80 rfl (lv_at hl 0 rfl) ?_
        refine lv_iload_n hx hb dX6_comes_81 rfl (lv_at hl 1 rfl) ?_
        refine lv_iload_n hx hb dX6_comes_82 rfl (lv_at hl 2 rfl) ?_
        obtain ⟨r_6, e_7, h⟩ := bnd_e h
        refine kV_I (As := [.int l1, .int l2]) (rest := []) ⟨hx, hb, hml, hown, hts⟩ (tX6_plotAt l G S0 M_4 l1 l2 r_6 e_7) (cwV 2 hts gX6_comes_X6_plotAt rfl rfl rfl ⟨rfl, hdX6_plotAt⟩ ⟨Nat.le_of_ble_eq_true rfl, Nat.le_of_ble_eq_true rfl⟩) (va_recv hK.1 hW.1 (ci := 6) (q0 := 159) rfl lkM) hK hW hS hA rfl hl.1 rfl (Nat.le_of_ble_eq_true rfl) dX6_comes_83 ⟨Nat.zero_le _, Nat.zero_le _⟩ (fun H locs hW hS => ?_)
        refine lv_istore (lv' := [(4, .int r_6), (0, .ref (gad G 159)), (1, .int l1), (2, .int l2), (3, .int l3), (5, .int l5), (6, .int l6)]) hx hb dX6_comes_86 hl (by decide) rfl (fun ls hl => ?_)
        refine lv_aload_n hx hb dX6_comes_88 rfl (lv_at hl 1 rfl) ?_
        refine lv_iload hx hb dX6_comes_89 (lv_at hl 0 rfl) ?_
        refine lv_aload_n hx hb dX6_comes_91 rfl (lv_at hl 1 rfl) ?_
        refine lv_iload hx hb dX6_comes_92 (lv_at hl 5 rfl) ?_
        refine lv_iconst (v := 1) hx hb dX6_comes_94 (by decide) ?_
        obtain ⟨r_8, e_9, h⟩ := bnd_e h
        refine kV_I (As := [.int l5, .int 1]) (rest := [.int r_6, .ref (gad G 159)]) ⟨hx, hb, hml, hown, hts⟩ (tX6_ofCamper l G S0 M_4 l5 1 r_8 e_9) (cwV 2 hts gX6_comes_X6_ofCamper rfl rfl rfl ⟨rfl, hdX6_ofCamper⟩ ⟨Nat.le_of_ble_eq_true rfl, Nat.le_of_ble_eq_true rfl⟩) (va_recv hK.1 hW.1 (ci := 6) (q0 := 159) rfl lkM) hK hW hS hA rfl hl.1 rfl (Nat.le_of_ble_eq_true rfl) dX6_comes_95 ⟨Nat.zero_le _, Nat.zero_le _⟩ (fun H locs hW hS => ?_)
        refine lv_aload_n hx hb dX6_comes_98 rfl (lv_at hl 1 rfl) ?_
        refine lv_iload hx hb dX6_comes_99 (lv_at hl 5 rfl) ?_
        refine lv_iconst (v := 2) hx hb dX6_comes_101 (by decide) ?_
        obtain ⟨r_10, e_11, h⟩ := bnd_e h
        refine kV_I (As := [.int l5, .int 2]) (rest := [.int r_8, .int r_6, .ref (gad G 159)]) ⟨hx, hb, hml, hown, hts⟩ (tX6_ofCamper l G S0 M_4 l5 2 r_10 e_11) (cwV 2 hts gX6_comes_X6_ofCamper rfl rfl rfl ⟨rfl, hdX6_ofCamper⟩ ⟨Nat.le_of_ble_eq_true rfl, Nat.le_of_ble_eq_true rfl⟩) (va_recv hK.1 hW.1 (ci := 6) (q0 := 159) rfl lkM) hK hW hS hA rfl hl.1 rfl (Nat.le_of_ble_eq_true rfl) dX6_comes_102 ⟨Nat.zero_le _, Nat.zero_le _⟩ (fun H locs hW hS => ?_)
        obtain ⟨r_12, e_13, h⟩ := bnd_e h
        refine kV_I (As := [.int r_6, .int r_8, .int r_10]) (rest := []) ⟨hx, hb, hml, hown, hts⟩ (tX6_has l G S0 M_4 r_6 r_8 r_10 r_12 e_13) (cwV 3 hts gX6_comes_X6_has rfl rfl rfl ⟨rfl, hdX6_has⟩ ⟨Nat.le_of_ble_eq_true rfl, Nat.le_of_ble_eq_true rfl⟩) (va_recv hK.1 hW.1 (ci := 6) (q0 := 159) rfl lkM) hK hW hS hA rfl hl.1 rfl (Nat.le_of_ble_eq_true rfl) dX6_comes_105 ⟨Nat.zero_le _, Nat.zero_le _⟩ (fun H locs hW hS => ?_)
        refine lv_istore (lv' := [(6, .int r_12), (4, .int r_6), (0, .ref (gad G 159)), (1, .int l1), (2, .int l2), (3, .int l3), (5, .int l5)]) hx hb dX6_comes_108 hl (by decide) rfl (fun ls hl => ?_)
        refine lv_goto (tgt := 69) hx hb dX6_comes_110 (by decide) ?_
        exact ih _ _ M_4 hW hS ls l1 l2 l3 r_6 l5 r_12 (lv_sub hl [2, 3, 4, 5, 1, 6, 0] rfl) h
  have B67 : ∀ (H : Heap) (locs : List Loc) (M : St) (_ : WD G S0 M H) (_ : va_S (Aw G) s.heap H locs) (ls : Array Slot) (l1 : Int32) (l2 : Int32) (l3 : Int32) (l4 : Int32) (l5 : Int32) (k0 : Int32) (_ : lv_has ls 7 [(0, .ref (gad G 159)), (1, .int l1), (2, .int l2), (3, .int l3), (4, .int l4), (5, .int l5)]) (h : f6_comes_b67 M l1 l2 l3 l4 l5 k0 = some (rr, M')), WI p l e (headSpec wsX6_comes rX6_comes).room s m args below meth cd G rr S0 M' H locs (F0 m 67 ls [.int k0]) := by
    intro H locs M hW hS ls l1 l2 l3 l4 l5 k0 hl h
    unfold f6_comes_b67 at h
    refine lv_istore (lv' := [(6, .int k0), (0, .ref (gad G 159)), (1, .int l1), (2, .int l2), (3, .int l3), (4, .int l4), (5, .int l5)]) hx hb dX6_comes_67 hl (by decide) rfl (fun ls hl => ?_)
    exact B69 fuelN _ _ M hW hS ls l1 l2 l3 l4 l5 k0 (lv_sub hl [1, 2, 3, 4, 5, 6, 0] rfl) h
  unfold f6_comes at h
  refine lv_aload_n hx hb dX6_comes_0 rfl (lv_at hl 0 rfl) ?_
  refine va_get (D := G.1) (ci := 6) (v := .ref (gad G (160 + 0))) (C := RX6) (T := TX6) (N := 14) hx hb hts hiX6 hown hK.1 hW.1 159 lkM rfl 1 (by decide) (hts _ (List.mem_of_getElem? (i := 1) rfl)) (fun _ h9 => h9) rfl dX6_comes_1 ?_
  refine lv_iconst (v := 0) hx hb dX6_comes_4 (by decide) ?_
  obtain ⟨x_1, nx_1, ex_1, h⟩ := arr_e h
  refine va_iald hx hb hK.1 hW.1 (160 + 0) 0 (lkMa (j := 0) (by omega)) rfl nx_1 dX6_comes_5 ?_
  refine lv_ni ex_1 ?_
  refine lv_istore_n (lv' := [(3, .int x_1), (0, .ref (gad G 159)), (1, .int p1), (2, .int p2)]) hx hb dX6_comes_6 rfl hl (by decide) rfl (fun ls hl => ?_)
  refine lv_aload_n hx hb dX6_comes_7 rfl (lv_at hl 1 rfl) ?_
  refine va_get (D := G.1) (ci := 6) (v := .ref (gad G (160 + 0))) (C := RX6) (T := TX6) (N := 14) hx hb hts hiX6 hown hK.1 hW.1 159 lkM rfl 1 (by decide) (hts _ (List.mem_of_getElem? (i := 1) rfl)) (fun _ h9 => h9) rfl dX6_comes_8 ?_
  refine lv_iconst (v := 0) hx hb dX6_comes_11 (by decide) ?_
  refine lv_dup2_11 hx hb dX6_comes_12 rfl rfl ?_
  obtain ⟨x_2, nx_2, ex_2, h⟩ := arr_e h
  refine va_iald hx hb hK.1 hW.1 (160 + 0) 0 (lkMa (j := 0) (by omega)) rfl nx_2 dX6_comes_13 ?_
  refine lv_ni ex_2 ?_
  refine lv_iconst (v := 1) hx hb dX6_comes_14 (by decide) ?_
  refine lv_iadd hx hb dX6_comes_15 ?_
  obtain ⟨n_4, h⟩ := sto_e h
  obtain ⟨M_3, eM_3, h⟩ := nam_e h
  refine va_iast hx hb hK.1 hW.1 (hW.D hA) hS (160 + 0) 0 (lkMa (j := 0) (by omega)) rfl n_4 dX6_comes_16 (fun H locs hP hD hS => ?_)
  have hW := upMa (j := 0) (by omega) hW hP
  rw [← eM_3] at hW
  refine lv_aload_n hx hb dX6_comes_17 rfl (lv_at hl 1 rfl) ?_
  refine lv_iload_n hx hb dX6_comes_18 rfl (lv_at hl 0 rfl) ?_
  refine lv_iconst (v := 0) hx hb dX6_comes_19 (by decide) ?_
  refine lv_iconst (v := 1) hx hb dX6_comes_20 (by decide) ?_
  obtain ⟨M_5, e_6, h⟩ := bnd_e h
  refine kV_V (As := [.int x_1, .int 0, .int 1]) (rest := []) ⟨hx, hb, hml, hown, hts⟩ (tX6_layCamper l G S0 M_3 x_1 0 1 M_5 e_6) (cwV 3 hts gX6_comes_X6_layCamper rfl rfl rfl ⟨rfl, hdX6_layCamper⟩ ⟨Nat.le_of_ble_eq_true rfl, Nat.le_of_ble_eq_true rfl⟩) (va_recv hK.1 hW.1 (ci := 6) (q0 := 159) rfl lkM) hK hW hS hA rfl hl.1 rfl (Nat.le_of_ble_eq_true rfl) dX6_comes_21 ⟨Nat.zero_le _, Nat.zero_le _⟩ (fun H locs hW hS => ?_)
  refine lv_aload_n hx hb dX6_comes_24 rfl (lv_at hl 1 rfl) ?_
  refine lv_iload_n hx hb dX6_comes_25 rfl (lv_at hl 0 rfl) ?_
  refine lv_iconst (v := 1) hx hb dX6_comes_26 (by decide) ?_
  refine lv_iload_n hx hb dX6_comes_27 rfl (lv_at hl 2 rfl) ?_
  obtain ⟨M_7, e_8, h⟩ := bnd_e h
  refine kV_V (As := [.int x_1, .int 1, .int p1]) (rest := []) ⟨hx, hb, hml, hown, hts⟩ (tX6_layCamper l G S0 M_5 x_1 1 p1 M_7 e_8) (cwV 3 hts gX6_comes_X6_layCamper rfl rfl rfl ⟨rfl, hdX6_layCamper⟩ ⟨Nat.le_of_ble_eq_true rfl, Nat.le_of_ble_eq_true rfl⟩) (va_recv hK.1 hW.1 (ci := 6) (q0 := 159) rfl lkM) hK hW hS hA rfl hl.1 rfl (Nat.le_of_ble_eq_true rfl) dX6_comes_28 ⟨Nat.zero_le _, Nat.zero_le _⟩ (fun H locs hW hS => ?_)
  refine lv_aload_n hx hb dX6_comes_31 rfl (lv_at hl 1 rfl) ?_
  refine lv_iload_n hx hb dX6_comes_32 rfl (lv_at hl 0 rfl) ?_
  refine lv_iconst (v := 2) hx hb dX6_comes_33 (by decide) ?_
  refine lv_iload_n hx hb dX6_comes_34 rfl (lv_at hl 3 rfl) ?_
  obtain ⟨M_9, e_10, h⟩ := bnd_e h
  refine kV_V (As := [.int x_1, .int 2, .int p2]) (rest := []) ⟨hx, hb, hml, hown, hts⟩ (tX6_layCamper l G S0 M_7 x_1 2 p2 M_9 e_10) (cwV 3 hts gX6_comes_X6_layCamper rfl rfl rfl ⟨rfl, hdX6_layCamper⟩ ⟨Nat.le_of_ble_eq_true rfl, Nat.le_of_ble_eq_true rfl⟩) (va_recv hK.1 hW.1 (ci := 6) (q0 := 159) rfl lkM) hK hW hS hA rfl hl.1 rfl (Nat.le_of_ble_eq_true rfl) dX6_comes_35 ⟨Nat.zero_le _, Nat.zero_le _⟩ (fun H locs hW hS => ?_)
  refine lv_aload_n hx hb dX6_comes_38 rfl (lv_at hl 1 rfl) ?_
  refine lv_iload_n hx hb dX6_comes_39 rfl (lv_at hl 2 rfl) ?_
  refine lv_iload_n hx hb dX6_comes_40 rfl (lv_at hl 3 rfl) ?_
  obtain ⟨r_11, e_12, h⟩ := bnd_e h
  refine kV_I (As := [.int p1, .int p2]) (rest := []) ⟨hx, hb, hml, hown, hts⟩ (tX6_plotAt l G S0 M_9 p1 p2 r_11 e_12) (cwV 2 hts gX6_comes_X6_plotAt rfl rfl rfl ⟨rfl, hdX6_plotAt⟩ ⟨Nat.le_of_ble_eq_true rfl, Nat.le_of_ble_eq_true rfl⟩) (va_recv hK.1 hW.1 (ci := 6) (q0 := 159) rfl lkM) hK hW hS hA rfl hl.1 rfl (Nat.le_of_ble_eq_true rfl) dX6_comes_41 ⟨Nat.zero_le _, Nat.zero_le _⟩ (fun H locs hW hS => ?_)
  refine lv_istore (lv' := [(4, .int r_11), (3, .int x_1), (0, .ref (gad G 159)), (1, .int p1), (2, .int p2)]) hx hb dX6_comes_44 hl (by decide) rfl (fun ls hl => ?_)
  refine lv_aload_n hx hb dX6_comes_46 rfl (lv_at hl 2 rfl) ?_
  refine lv_iload hx hb dX6_comes_47 (lv_at hl 0 rfl) ?_
  refine lv_iconst (v := 3) hx hb dX6_comes_49 (by decide) ?_
  obtain ⟨r_13, e_14, h⟩ := bnd_e h
  refine kV_I (As := [.int r_11, .int 3]) (rest := []) ⟨hx, hb, hml, hown, hts⟩ (tX6_ofPlot l G S0 M_9 r_11 3 r_13 e_14) (cwV 2 hts gX6_comes_X6_ofPlot rfl rfl rfl ⟨rfl, hdX6_ofPlot⟩ ⟨Nat.le_of_ble_eq_true rfl, Nat.le_of_ble_eq_true rfl⟩) (va_recv hK.1 hW.1 (ci := 6) (q0 := 159) rfl lkM) hK hW hS hA rfl hl.1 rfl (Nat.le_of_ble_eq_true rfl) dX6_comes_50 ⟨Nat.zero_le _, Nat.zero_le _⟩ (fun H locs hW hS => ?_)
  refine lv_iconst (v := 1) hx hb dX6_comes_53 (by decide) ?_
  refine lv_isub hx hb dX6_comes_54 ?_
  obtain ⟨x_15, ex_15, h⟩ := nam_e h
  refine lv_ni ex_15 ?_
  refine lv_istore (lv' := [(5, .int x_15), (4, .int r_11), (3, .int x_1), (0, .ref (gad G 159)), (1, .int p1), (2, .int p2)]) hx hb dX6_comes_55 hl (by decide) rfl (fun ls hl => ?_)
  refine lv_iload hx hb dX6_comes_57 (lv_at hl 0 rfl) ?_
  refine lv_if_lt (tgt := 66) hx hb dX6_comes_59 (by decide) (fun c_16 => ?_) (fun c_16 => ?_)
  · have h := ite_t c_16 h
    refine lv_iconst (v := 0) hx hb dX6_comes_66 (by decide) ?_
    exact B67 _ _ M_9 hW hS ls p1 p2 x_1 r_11 x_15 0 (lv_sub hl [3, 4, 5, 2, 1, 0] rfl) h
  · have h := ite_f c_16 h
    refine lv_iconst (v := 1) hx hb dX6_comes_62 (by decide) ?_
    refine lv_goto (tgt := 67) hx hb dX6_comes_63 (by decide) ?_
    exact B67 _ _ M_9 hW hS ls p1 p2 x_1 r_11 x_15 1 (lv_sub hl [3, 4, 5, 2, 1, 0] rfl) h
abbrev rX6_come : Room := { frames := 5, cells := 0, slots := 0, locals := 115 }
set_option maxRecDepth 100000 in
set_option maxHeartbeats 8000000 in
theorem tX6_come (l : Launch) (G : WG) (S0 M0 : St) (p1 : Int32) (p2 : Int32) (rr : Int32) (M' : St) (h : f6_come M0 p1 p2 = some (rr, M')) : CtI l yX6_come wsX6_come rX6_come G [.ref (gad G 159), .int p1, .int p2] S0 M0 rr S0 M' := by
  refine Met.ofW (cc := cX6_come) (maxL := 4) (ret := (some .int)) (by decide) rfl ?_
  intro p e s m args below meth cd s₁ B hml hv
  obtain ⟨hargs, hK, hW⟩ := hv
  have hx := B.exec
  have hb := B.bytes
  have hr := B.returns
  have hts := atoms_spec (ws := wsX6_come) B.pre
  have hown : s.vm.findClass RX6 = some m.cls := findClass_of_methodNamed B.named
  have hlocks := B.notSynchronized
  have hA : ∀ q, Aw G q → Aw G q := fun _ h => h
  have hS : va_S (Aw G) s.heap s.heap [] := va_S.rf
  have he0 : entryFrame m args 4 = F0 m 0 ((lg_sl ([.ref (gad G 159), .int p1, .int p2]) ++ List.replicate (4 - (lg_sl ([.ref (gad G 159), .int p1, .int p2])).length) Slot.unset).toArray) [] := by rw [hargs]; exact lg_entry_eq _ _ _
  have hl := lv_entry ([.ref (gad G 159), .int p1, .int p2]) (n := 4) (Nat.le_of_ble_eq_true rfl)
  rw [he0]
  generalize (lg_sl ([.ref (gad G 159), .int p1, .int p2]) ++ List.replicate (4 - (lg_sl ([.ref (gad G 159), .int p1, .int p2])).length) Slot.unset).toArray = ls at hl ⊢
  have hl : lv_has ls 4 [(0, .ref (gad G 159)), (1, .int p1), (2, .int p2)] := hl
  have hiX6 : ∀ w ∈ u_ws RX6 TX6 14, w ∈ wsX6_come := by decide +kernel
  unfold f6_come at h
  refine lv_aload_n hx hb dX6_come_0 rfl (lv_at hl 0 rfl) ?_
  refine lv_iconst (v := 0) hx hb dX6_come_1 (by decide) ?_
  obtain ⟨M_1, eM_1, h⟩ := nam_e h
  refine va_put (D := G.1) (ci := 6) (v := .int 0) (ty := .int) (C := RX6) (T := TX6) (N := 14) hx hb hts hiX6 tyX6 tyX6_ok nmX6 hown hK.1 hW.1 (hW.D hA) hS 159 lkM rfl 0 (by decide) (hts _ (List.mem_of_getElem? (i := 1) rfl)) (fun _ h9 => h9) rfl (by decide +kernel) rfl rfl (Nat.le_of_ble_eq_true rfl) dX6_come_2 (fun H locs hP hD hS => ?_)
  have hW := upM0 hW hP
  rw [← eM_1] at hW
  refine lv_iload_n hx hb dX6_come_5 rfl (lv_at hl 1 rfl) ?_
  refine lv_iload_n hx hb dX6_come_6 rfl (lv_at hl 2 rfl) ?_
  obtain ⟨r_2, e_3, h⟩ := bnd_e h
  refine kS_I (As := [.int p1, .int p2]) (rest := []) ⟨hx, hb, hml, hown, hts⟩ (tX6_isPoint l G S0 M_1 p1 p2 r_2 e_3) (va_cwS 2 hts gX6_come_X6_isPoint rfl rfl rfl hdX6_isPoint ⟨Nat.le_of_ble_eq_true rfl, Nat.le_of_ble_eq_true rfl⟩) hK hW hS hA rfl hl.1 rfl (Nat.le_of_ble_eq_true rfl) dX6_come_7 ⟨Nat.zero_le _, Nat.zero_le _⟩ (fun H locs hW hS => ?_)
  refine lv_if_ne (tgt := 15) hx hb dX6_come_10 (by decide) (fun c_4 => ?_) (fun c_4 => ?_)
  · have h := ite_f c_4 h
    refine lv_aload_n hx hb dX6_come_15 rfl (lv_at hl 0 rfl) ?_
    refine lv_iload_n hx hb dX6_come_16 rfl (lv_at hl 1 rfl) ?_
    refine lv_iload_n hx hb dX6_come_17 rfl (lv_at hl 2 rfl) ?_
    obtain ⟨r_5, e_6, h⟩ := bnd_e h
    refine kV_I (As := [.int p1, .int p2]) (rest := []) ⟨hx, hb, hml, hown, hts⟩ (tX6_refuses l G S0 M_1 p1 p2 r_5 e_6) (cwV 2 hts gX6_come_X6_refuses rfl rfl rfl ⟨rfl, hdX6_refuses⟩ ⟨Nat.le_of_ble_eq_true rfl, Nat.le_of_ble_eq_true rfl⟩) (va_recv hK.1 hW.1 (ci := 6) (q0 := 159) rfl lkM) hK hW hS hA rfl hl.1 rfl (Nat.le_of_ble_eq_true rfl) dX6_come_18 ⟨Nat.zero_le _, Nat.zero_le _⟩ (fun H locs hW hS => ?_)
    refine lv_istore_n (lv' := [(3, .int r_5), (0, .ref (gad G 159)), (1, .int p1), (2, .int p2)]) hx hb dX6_come_21 rfl hl (by decide) rfl (fun ls hl => ?_)
    refine lv_iload_n hx hb dX6_come_22 rfl (lv_at hl 0 rfl) ?_
    refine lv_if_eq (tgt := 28) hx hb dX6_come_23 (by decide) (fun c_7 => ?_) (fun c_7 => ?_)
    · have h := ite_t c_7 h
      refine lv_aload_n hx hb dX6_come_28 rfl (lv_at hl 1 rfl) ?_
      obtain ⟨M_8, e_9, h⟩ := bnd_e h
      refine kV_V (As := []) (rest := []) ⟨hx, hb, hml, hown, hts⟩ (tX6_records l G S0 M_1 M_8 e_9) (cwV 0 hts gX6_come_X6_records rfl rfl rfl ⟨rfl, hdX6_records⟩ ⟨Nat.le_of_ble_eq_true rfl, Nat.le_of_ble_eq_true rfl⟩) (va_recv hK.1 hW.1 (ci := 6) (q0 := 159) rfl lkM) hK hW hS hA rfl hl.1 rfl (Nat.le_of_ble_eq_true rfl) dX6_come_29 ⟨Nat.zero_le _, Nat.zero_le _⟩ (fun H locs hW hS => ?_)
      refine lv_aload_n hx hb dX6_come_32 rfl (lv_at hl 1 rfl) ?_
      refine lv_iload_n hx hb dX6_come_33 rfl (lv_at hl 2 rfl) ?_
      refine lv_iload_n hx hb dX6_come_34 rfl (lv_at hl 3 rfl) ?_
      obtain ⟨r_10, M_11, e_12, h⟩ := bd2_e h
      refine kV_I (As := [.int p1, .int p2]) (rest := []) ⟨hx, hb, hml, hown, hts⟩ (tX6_comes l G S0 M_8 p1 p2 r_10 M_11 e_12) (cwV 2 hts gX6_come_X6_comes rfl rfl rfl ⟨rfl, hdX6_comes⟩ ⟨Nat.le_of_ble_eq_true rfl, Nat.le_of_ble_eq_true rfl⟩) (va_recv hK.1 hW.1 (ci := 6) (q0 := 159) rfl lkM) hK hW hS hA rfl hl.1 rfl (Nat.le_of_ble_eq_true rfl) dX6_come_35 ⟨Nat.zero_le _, Nat.zero_le _⟩ (fun H locs hW hS => ?_)
      obtain ⟨rfl, rfl⟩ := Prod.mk.inj (Option.some.inj h)
      exact W.iret hx hb hr (fun t ht hw => ⟨⟨_, (), rfl, rfl, hW.ret ht⟩, hS.F ht⟩) hS.2.2 dX6_come_38
    · have h := ite_f c_7 h
      refine lv_iload_n hx hb dX6_come_26 rfl (lv_at hl 0 rfl) ?_
      obtain ⟨rfl, rfl⟩ := Prod.mk.inj (Option.some.inj h)
      exact W.iret hx hb hr (fun t ht hw => ⟨⟨_, (), rfl, rfl, hW.ret ht⟩, hS.F ht⟩) hS.2.2 dX6_come_27
  · have h := ite_t c_4 h
    refine lv_iconst (v := (-1)) hx hb dX6_come_13 (by decide) ?_
    obtain ⟨rfl, rfl⟩ := Prod.mk.inj (Option.some.inj h)
    exact W.iret hx hb hr (fun t ht hw => ⟨⟨_, (), rfl, rfl, hW.ret ht⟩, hS.F ht⟩) hS.2.2 dX6_come_14
abbrev rX6_swapsAside : Room := { frames := 0, cells := 0, slots := 0, locals := 0 }
set_option maxRecDepth 100000 in
set_option maxHeartbeats 8000000 in
theorem tX6_swapsAside (l : Launch) (G : WG) (S0 M0 : St) (M' : St) (h : f6_swapsAside M0 = some (M')) : CtV l yX6_swapsAside wsX6_swapsAside rX6_swapsAside G [.ref (gad G 159)] S0 M0 S0 M' := by
  refine Met.ofW (cc := cX6_swapsAside) (maxL := 3) (ret := none) (by decide) rfl ?_
  intro p e s m args below meth cd s₁ B hml hv
  obtain ⟨hargs, hK, hW⟩ := hv
  have hx := B.exec
  have hb := B.bytes
  have hr := B.returns
  have hts := atoms_spec (ws := wsX6_swapsAside) B.pre
  have hown : s.vm.findClass RX6 = some m.cls := findClass_of_methodNamed B.named
  have hlocks := B.notSynchronized
  have hA : ∀ q, Aw G q → Aw G q := fun _ h => h
  have hS : va_S (Aw G) s.heap s.heap [] := va_S.rf
  have he0 : entryFrame m args 3 = F0 m 0 ((lg_sl ([.ref (gad G 159)]) ++ List.replicate (3 - (lg_sl ([.ref (gad G 159)])).length) Slot.unset).toArray) [] := by rw [hargs]; exact lg_entry_eq _ _ _
  have hl := lv_entry ([.ref (gad G 159)]) (n := 3) (Nat.le_of_ble_eq_true rfl)
  rw [he0]
  generalize (lg_sl ([.ref (gad G 159)]) ++ List.replicate (3 - (lg_sl ([.ref (gad G 159)])).length) Slot.unset).toArray = ls at hl ⊢
  have hl : lv_has ls 3 [(0, .ref (gad G 159))] := hl
  have hiX6 : ∀ w ∈ u_ws RX6 TX6 14, w ∈ wsX6_swapsAside := by decide +kernel
  have B2 : ∀ (n : Nat), ∀ (H : Heap) (locs : List Loc) (M : St) (_ : WD G S0 M H) (_ : va_S (Aw G) s.heap H locs) (ls : Array Slot) (l1 : Int32) (_ : lv_has ls 3 [(0, .ref (gad G 159)), (1, .int l1)]) (h : f6_swapsAside_b2  n M l1 = some (M')), WV p l e (headSpec wsX6_swapsAside rX6_swapsAside).room s m args below meth cd G S0 M' H locs (F0 m 2 ls []) := by
    intro n
    induction n with
    | zero => intro H locs M hW hS ls l1 hl h; cases (show (none : Option (St)) = some _ from h)
    | succ n ih =>
      intro H locs M hW hS ls l1 hl h
      rw [f6_swapsAside_b2] at h
      refine lv_iload_n hx hb dX6_swapsAside_2 rfl (lv_at hl 1 rfl) ?_
      refine lv_sipush (v := 886) hx hb dX6_swapsAside_3 (by decide) ?_
      refine lv_icmp_ge (tgt := 41) hx hb dX6_swapsAside_6 (by decide) (fun c_1 => ?_) (fun c_1 => ?_)
      · have h := ite_t c_1 h
        obtain rfl := Option.some.inj h
        exact W.vret hx hb hr (fun t ht hw => ⟨⟨(), rfl, trivial, hW.ret ht⟩, hS.F ht⟩) hS.2.2 dX6_swapsAside_41
      · have h := ite_f c_1 h
        refine lv_aload_n hx hb dX6_swapsAside_9 rfl (lv_at hl 0 rfl) ?_
        refine va_get (D := G.1) (ci := 6) (v := .ref (gad G (160 + 0))) (C := RX6) (T := TX6) (N := 14) hx hb hts hiX6 hown hK.1 hW.1 159 lkM rfl 1 (by decide) (hts _ (List.mem_of_getElem? (i := 1) rfl)) (fun _ h9 => h9) rfl dX6_swapsAside_10 ?_
        refine lv_iload_n hx hb dX6_swapsAside_13 rfl (lv_at hl 1 rfl) ?_
        obtain ⟨x_2, nx_2, ex_2, h⟩ := arr_e h
        refine va_iald hx hb hK.1 hW.1 (160 + 0) 0 (lkMa (j := 0) (by omega)) rfl nx_2 dX6_swapsAside_14 ?_
        refine lv_ni ex_2 ?_
        refine lv_istore_n (lv' := [(2, .int x_2), (0, .ref (gad G 159)), (1, .int l1)]) hx hb dX6_swapsAside_15 rfl hl (by decide) rfl (fun ls hl => ?_)
        refine lv_aload_n hx hb dX6_swapsAside_16 rfl (lv_at hl 1 rfl) ?_
        refine va_get (D := G.1) (ci := 6) (v := .ref (gad G (160 + 0))) (C := RX6) (T := TX6) (N := 14) hx hb hts hiX6 hown hK.1 hW.1 159 lkM rfl 1 (by decide) (hts _ (List.mem_of_getElem? (i := 1) rfl)) (fun _ h9 => h9) rfl dX6_swapsAside_17 ?_
        refine lv_iload_n hx hb dX6_swapsAside_20 rfl (lv_at hl 2 rfl) ?_
        refine lv_aload_n hx hb dX6_swapsAside_21 rfl (lv_at hl 1 rfl) ?_
        refine va_get (D := G.1) (ci := 6) (v := .ref (gad G (160 + 1))) (C := RX6) (T := TX6) (N := 14) hx hb hts hiX6 hown hK.1 hW.1 159 lkM rfl 2 (by decide) (hts _ (List.mem_of_getElem? (i := 2) rfl)) (fun _ h9 => h9) rfl dX6_swapsAside_22 ?_
        refine lv_iload_n hx hb dX6_swapsAside_25 rfl (lv_at hl 2 rfl) ?_
        obtain ⟨x_3, nx_3, ex_3, h⟩ := arr_e h
        refine va_iald hx hb hK.1 hW.1 (160 + 1) 0 (lkMa (j := 1) (by omega)) rfl nx_3 dX6_swapsAside_26 ?_
        refine lv_ni ex_3 ?_
        obtain ⟨n_5, h⟩ := sto_e h
        obtain ⟨M_4, eM_4, h⟩ := nam_e h
        refine va_iast hx hb hK.1 hW.1 (hW.D hA) hS (160 + 0) 0 (lkMa (j := 0) (by omega)) rfl n_5 dX6_swapsAside_27 (fun H locs hP hD hS => ?_)
        have hW := upMa (j := 0) (by omega) hW hP
        rw [← eM_4] at hW
        refine lv_aload_n hx hb dX6_swapsAside_28 rfl (lv_at hl 1 rfl) ?_
        refine va_get (D := G.1) (ci := 6) (v := .ref (gad G (160 + 1))) (C := RX6) (T := TX6) (N := 14) hx hb hts hiX6 hown hK.1 hW.1 159 lkM rfl 2 (by decide) (hts _ (List.mem_of_getElem? (i := 2) rfl)) (fun _ h9 => h9) rfl dX6_swapsAside_29 ?_
        refine lv_iload_n hx hb dX6_swapsAside_32 rfl (lv_at hl 2 rfl) ?_
        refine lv_iload_n hx hb dX6_swapsAside_33 rfl (lv_at hl 0 rfl) ?_
        obtain ⟨n_7, h⟩ := sto_e h
        obtain ⟨M_6, eM_6, h⟩ := nam_e h
        refine va_iast hx hb hK.1 hW.1 (hW.D hA) hS (160 + 1) 0 (lkMa (j := 1) (by omega)) rfl n_7 dX6_swapsAside_34 (fun H locs hP hD hS => ?_)
        have hW := upMa (j := 1) (by omega) hW hP
        rw [← eM_6] at hW
        refine lv_iinc (v := (l1 + 1)) (lv' := [(1, .int ((l1 + 1))), (2, .int x_2), (0, .ref (gad G 159))]) hx hb dX6_swapsAside_35 hl (k := 2) rfl rfl (by decide) rfl (fun ls hl => ?_)
        refine lv_goto (tgt := 2) hx hb dX6_swapsAside_38 (by decide) ?_
        exact ih _ _ M_6 hW hS ls ((l1 + 1)) (lv_sub hl [2, 0] rfl) h
  unfold f6_swapsAside at h
  refine lv_iconst (v := 0) hx hb dX6_swapsAside_0 (by decide) ?_
  refine lv_istore_n (lv' := [(1, .int 0), (0, .ref (gad G 159))]) hx hb dX6_swapsAside_1 rfl hl (by decide) rfl (fun ls hl => ?_)
  exact B2 fuelN _ _ M0 hW hS ls 0 (lv_sub hl [1, 0] rfl) h
abbrev rX6_sign : Room := { frames := 0, cells := 0, slots := 0, locals := 0 }
set_option maxRecDepth 100000 in
set_option maxHeartbeats 8000000 in
theorem tX6_sign (l : Launch) (G : WG) (S0 M0 : St) (rr : Int32) (h : f6_sign M0 = some (rr)) : CtI l yX6_sign wsX6_sign rX6_sign G [.ref (gad G 159)] S0 M0 rr S0 M0 := by
  refine Met.ofW (cc := cX6_sign) (maxL := 1) (ret := (some .int)) (by decide) rfl ?_
  intro p e s m args below meth cd s₁ B hml hv
  obtain ⟨hargs, hK, hW⟩ := hv
  have hx := B.exec
  have hb := B.bytes
  have hr := B.returns
  have hts := atoms_spec (ws := wsX6_sign) B.pre
  have hown : s.vm.findClass RX6 = some m.cls := findClass_of_methodNamed B.named
  have hlocks := B.notSynchronized
  have hA : ∀ q, Aw G q → Aw G q := fun _ h => h
  have hS : va_S (Aw G) s.heap s.heap [] := va_S.rf
  have he0 : entryFrame m args 1 = F0 m 0 ((lg_sl ([.ref (gad G 159)]) ++ List.replicate (1 - (lg_sl ([.ref (gad G 159)])).length) Slot.unset).toArray) [] := by rw [hargs]; exact lg_entry_eq _ _ _
  have hl := lv_entry ([.ref (gad G 159)]) (n := 1) (Nat.le_of_ble_eq_true rfl)
  rw [he0]
  generalize (lg_sl ([.ref (gad G 159)]) ++ List.replicate (1 - (lg_sl ([.ref (gad G 159)])).length) Slot.unset).toArray = ls at hl ⊢
  have hl : lv_has ls 1 [(0, .ref (gad G 159))] := hl
  have hiX6 : ∀ w ∈ u_ws RX6 TX6 14, w ∈ wsX6_sign := by decide +kernel
  have B24 : ∀ (H : Heap) (locs : List Loc) (_ : WD G S0 M0 H) (_ : va_S (Aw G) s.heap H locs) (ls : Array Slot) (k0 : Int32) (_ : lv_has ls 1 []) (h : f6_sign_b24 M0 k0 = some (rr)), WI p l e (headSpec wsX6_sign rX6_sign).room s m args below meth cd G rr S0 M0 H locs (F0 m 24 ls [.int k0]) := by
    intro H locs hW hS ls k0 hl h
    unfold f6_sign_b24 at h
    obtain rfl := Option.some.inj h
    exact W.iret hx hb hr (fun t ht hw => ⟨⟨_, (), rfl, rfl, hW.ret ht⟩, hS.F ht⟩) hS.2.2 dX6_sign_24
  unfold f6_sign at h
  refine lv_aload_n hx hb dX6_sign_0 rfl (lv_at hl 0 rfl) ?_
  refine va_get (D := G.1) (ci := 6) (v := .int (M0.1 4)) (C := RX6) (T := TX6) (N := 14) hx hb hts hiX6 hown hK.1 hW.1 159 lkM rfl 9 (by decide) (hts _ (List.mem_of_getElem? (i := 1) rfl)) (fun _ h9 => h9) rfl dX6_sign_1 ?_
  refine lv_aload_n hx hb dX6_sign_4 rfl (lv_at hl 0 rfl) ?_
  refine va_get (D := G.1) (ci := 6) (v := .int (M0.1 3)) (C := RX6) (T := TX6) (N := 14) hx hb hts hiX6 hown hK.1 hW.1 159 lkM rfl 8 (by decide) (hts _ (List.mem_of_getElem? (i := 2) rfl)) (fun _ h9 => h9) rfl dX6_sign_5 ?_
  refine lv_icmp_ge (tgt := 23) hx hb dX6_sign_8 (by decide) (fun c_1 => ?_) (fun c_1 => ?_)
  · have h := ite_t c_1 h
    refine lv_iconst (v := 0) hx hb dX6_sign_23 (by decide) ?_
    exact B24 _ _ hW hS ls 0 (lv_sub hl [] rfl) h
  · have h := ite_f c_1 h
    refine lv_aload_n hx hb dX6_sign_11 rfl (lv_at hl 0 rfl) ?_
    refine va_get (D := G.1) (ci := 6) (v := .ref (gad G (160 + 4))) (C := RX6) (T := TX6) (N := 14) hx hb hts hiX6 hown hK.1 hW.1 159 lkM rfl 7 (by decide) (hts _ (List.mem_of_getElem? (i := 3) rfl)) (fun _ h9 => h9) rfl dX6_sign_12 ?_
    refine lv_aload_n hx hb dX6_sign_15 rfl (lv_at hl 0 rfl) ?_
    refine va_get (D := G.1) (ci := 6) (v := .int (M0.1 4)) (C := RX6) (T := TX6) (N := 14) hx hb hts hiX6 hown hK.1 hW.1 159 lkM rfl 9 (by decide) (hts _ (List.mem_of_getElem? (i := 1) rfl)) (fun _ h9 => h9) rfl dX6_sign_16 ?_
    obtain ⟨x_2, nx_2, ex_2, h⟩ := arr_e h
    refine va_iald hx hb hK.1 hW.1 (160 + 4) 0 (lkMa (j := 4) (by omega)) rfl nx_2 dX6_sign_19 ?_
    refine lv_ni ex_2 ?_
    refine lv_goto (tgt := 24) hx hb dX6_sign_20 (by decide) ?_
    exact B24 _ _ hW hS ls x_2 (lv_sub hl [] rfl) h
abbrev rX6_number : Room := { frames := 1, cells := 0, slots := 0, locals := 22 }
set_option maxRecDepth 100000 in
set_option maxHeartbeats 8000000 in
theorem tX6_number (l : Launch) (G : WG) (S0 M0 : St) (rr : Int32) (M' : St) (h : f6_number M0 = some (rr, M')) : CtI l yX6_number wsX6_number rX6_number G [.ref (gad G 159)] S0 M0 rr S0 M' := by
  refine Met.ofW (cc := cX6_number) (maxL := 2) (ret := (some .int)) (by decide) rfl ?_
  intro p e s m args below meth cd s₁ B hml hv
  obtain ⟨hargs, hK, hW⟩ := hv
  have hx := B.exec
  have hb := B.bytes
  have hr := B.returns
  have hts := atoms_spec (ws := wsX6_number) B.pre
  have hown : s.vm.findClass RX6 = some m.cls := findClass_of_methodNamed B.named
  have hlocks := B.notSynchronized
  have hA : ∀ q, Aw G q → Aw G q := fun _ h => h
  have hS : va_S (Aw G) s.heap s.heap [] := va_S.rf
  have he0 : entryFrame m args 2 = F0 m 0 ((lg_sl ([.ref (gad G 159)]) ++ List.replicate (2 - (lg_sl ([.ref (gad G 159)])).length) Slot.unset).toArray) [] := by rw [hargs]; exact lg_entry_eq _ _ _
  have hl := lv_entry ([.ref (gad G 159)]) (n := 2) (Nat.le_of_ble_eq_true rfl)
  rw [he0]
  generalize (lg_sl ([.ref (gad G 159)]) ++ List.replicate (2 - (lg_sl ([.ref (gad G 159)])).length) Slot.unset).toArray = ls at hl ⊢
  have hl : lv_has ls 2 [(0, .ref (gad G 159))] := hl
  have hiX6 : ∀ w ∈ u_ws RX6 TX6 14, w ∈ wsX6_number := by decide +kernel
  have B124 : ∀ (H : Heap) (locs : List Loc) (M : St) (_ : WD G S0 M H) (_ : va_S (Aw G) s.heap H locs) (ls : Array Slot) (l1 : Int32) (_ : lv_has ls 2 [(1, .int l1)]) (h : f6_number_b124 M l1 = some (rr, M')), WI p l e (headSpec wsX6_number rX6_number).room s m args below meth cd G rr S0 M' H locs (F0 m 124 ls []) := by
    intro H locs M hW hS ls l1 hl h
    unfold f6_number_b124 at h
    refine lv_iload_n hx hb dX6_number_124 rfl (lv_at hl 0 rfl) ?_
    obtain ⟨rfl, rfl⟩ := Prod.mk.inj (Option.some.inj h)
    exact W.iret hx hb hr (fun t ht hw => ⟨⟨_, (), rfl, rfl, hW.ret ht⟩, hS.F ht⟩) hS.2.2 dX6_number_125
  have B55 : ∀ (H : Heap) (locs : List Loc) (M : St) (_ : WD G S0 M H) (_ : va_S (Aw G) s.heap H locs) (ls : Array Slot) (l1 : Int32) (k0 : Int32) (k1 : Int32) (_ : lv_has ls 2 [(0, .ref (gad G 159)), (1, .int l1)]) (h : f6_number_b55 M l1 k0 k1 = some (rr, M')), WI p l e (headSpec wsX6_number rX6_number).room s m args below meth cd G rr S0 M' H locs (F0 m 55 ls [.int k0, .int k1, .ref (gad G 159)]) := by
    intro H locs M hW hS ls l1 k0 k1 hl h
    unfold f6_number_b55 at h
    refine lv_iadd hx hb dX6_number_55 ?_
    obtain ⟨M_1, eM_1, h⟩ := nam_e h
    refine va_put (D := G.1) (ci := 6) (v := .int ((k1 + k0))) (ty := .int) (C := RX6) (T := TX6) (N := 14) hx hb hts hiX6 tyX6 tyX6_ok nmX6 hown hK.1 hW.1 (hW.D hA) hS 159 lkM rfl 9 (by decide) (hts _ (List.mem_of_getElem? (i := 2) rfl)) (fun _ h9 => h9) rfl (by decide +kernel) rfl rfl (Nat.le_of_ble_eq_true rfl) dX6_number_56 (fun H locs hP hD hS => ?_)
    have hW := upM4 hW hP
    rw [← eM_1] at hW
    refine lv_aload_n hx hb dX6_number_59 rfl (lv_at hl 0 rfl) ?_
    refine va_get (D := G.1) (ci := 6) (v := .int (M_1.1 5)) (C := RX6) (T := TX6) (N := 14) hx hb hts hiX6 hown hK.1 hW.1 159 lkM rfl 10 (by decide) (hts _ (List.mem_of_getElem? (i := 1) rfl)) (fun _ h9 => h9) rfl dX6_number_60 ?_
    refine lv_if_eq (tgt := 124) hx hb dX6_number_63 (by decide) (fun c_2 => ?_) (fun c_2 => ?_)
    · have h := ite_t c_2 h
      exact B124 _ _ M_1 hW hS ls l1 (lv_sub hl [1] rfl) h
    · have h := ite_f c_2 h
      refine lv_iload_n hx hb dX6_number_66 rfl (lv_at hl 1 rfl) ?_
      refine lv_if_le (tgt := 124) hx hb dX6_number_67 (by decide) (fun c_3 => ?_) (fun c_3 => ?_)
      · have h := ite_t c_3 h
        exact B124 _ _ M_1 hW hS ls l1 (lv_sub hl [1] rfl) h
      · have h := ite_f c_3 h
        refine lv_aload_n hx hb dX6_number_70 rfl (lv_at hl 0 rfl) ?_
        obtain ⟨r_4, e_5, h⟩ := bnd_e h
        refine kV_I (As := []) (rest := []) ⟨hx, hb, hml, hown, hts⟩ (tX6_sign l G S0 M_1 r_4 e_5) (cwV 0 hts gX6_number_X6_sign rfl rfl rfl ⟨rfl, hdX6_sign⟩ ⟨Nat.le_of_ble_eq_true rfl, Nat.le_of_ble_eq_true rfl⟩) (va_recv hK.1 hW.1 (ci := 6) (q0 := 159) rfl lkM) hK hW hS hA rfl hl.1 rfl (Nat.le_of_ble_eq_true rfl) dX6_number_71 ⟨Nat.zero_le _, Nat.zero_le _⟩ (fun H locs hW hS => ?_)
        refine lv_bipush (v := 48) hx hb dX6_number_74 (by decide) ?_
        refine lv_bipush (v := 57) hx hb dX6_number_76 (by decide) ?_
        obtain ⟨r_6, e_7, h⟩ := bnd_e h
        refine kS_I (As := [.int r_4, .int 48, .int 57]) (rest := []) ⟨hx, hb, hml, hown, hts⟩ (tX6_in l G S0 M_1 r_4 48 57 r_6 e_7) (va_cwS 3 hts gX6_number_X6_in rfl rfl rfl hdX6_in ⟨Nat.le_of_ble_eq_true rfl, Nat.le_of_ble_eq_true rfl⟩) hK hW hS hA rfl hl.1 rfl (Nat.le_of_ble_eq_true rfl) dX6_number_78 ⟨Nat.zero_le _, Nat.zero_le _⟩ (fun H locs hW hS => ?_)
        refine lv_if_eq (tgt := 124) hx hb dX6_number_81 (by decide) (fun c_8 => ?_) (fun c_8 => ?_)
        · have h := ite_t c_8 h
          exact B124 _ _ M_1 hW hS ls l1 (lv_sub hl [1] rfl) h
        · have h := ite_f c_8 h
          refine lv_bipush (v := 10) hx hb dX6_number_84 (by decide) ?_
          refine lv_iload_n hx hb dX6_number_86 rfl (lv_at hl 1 rfl) ?_
          refine lv_imul hx hb dX6_number_87 ?_
          refine lv_aload_n hx hb dX6_number_88 rfl (lv_at hl 0 rfl) ?_
          obtain ⟨r_9, e_10, h⟩ := bnd_e h
          refine kV_I (As := []) (rest := [.int ((10 * l1))]) ⟨hx, hb, hml, hown, hts⟩ (tX6_sign l G S0 M_1 r_9 e_10) (cwV 0 hts gX6_number_X6_sign rfl rfl rfl ⟨rfl, hdX6_sign⟩ ⟨Nat.le_of_ble_eq_true rfl, Nat.le_of_ble_eq_true rfl⟩) (va_recv hK.1 hW.1 (ci := 6) (q0 := 159) rfl lkM) hK hW hS hA rfl hl.1 rfl (Nat.le_of_ble_eq_true rfl) dX6_number_89 ⟨Nat.zero_le _, Nat.zero_le _⟩ (fun H locs hW hS => ?_)
          refine lv_iadd hx hb dX6_number_92 ?_
          refine lv_bipush (v := 48) hx hb dX6_number_93 (by decide) ?_
          refine lv_isub hx hb dX6_number_95 ?_
          refine lv_bipush (v := 64) hx hb dX6_number_96 (by decide) ?_
          refine lv_icmp_ge (tgt := 124) hx hb dX6_number_98 (by decide) (fun c_11 => ?_) (fun c_11 => ?_)
          · have h := ite_t c_11 h
            exact B124 _ _ M_1 hW hS ls l1 (lv_sub hl [1] rfl) h
          · have h := ite_f c_11 h
            refine lv_bipush (v := 10) hx hb dX6_number_101 (by decide) ?_
            refine lv_iload_n hx hb dX6_number_103 rfl (lv_at hl 1 rfl) ?_
            refine lv_imul hx hb dX6_number_104 ?_
            refine lv_aload_n hx hb dX6_number_105 rfl (lv_at hl 0 rfl) ?_
            obtain ⟨r_12, e_13, h⟩ := bnd_e h
            refine kV_I (As := []) (rest := [.int ((10 * l1))]) ⟨hx, hb, hml, hown, hts⟩ (tX6_sign l G S0 M_1 r_12 e_13) (cwV 0 hts gX6_number_X6_sign rfl rfl rfl ⟨rfl, hdX6_sign⟩ ⟨Nat.le_of_ble_eq_true rfl, Nat.le_of_ble_eq_true rfl⟩) (va_recv hK.1 hW.1 (ci := 6) (q0 := 159) rfl lkM) hK hW hS hA rfl hl.1 rfl (Nat.le_of_ble_eq_true rfl) dX6_number_106 ⟨Nat.zero_le _, Nat.zero_le _⟩ (fun H locs hW hS => ?_)
            refine lv_iadd hx hb dX6_number_109 ?_
            refine lv_bipush (v := 48) hx hb dX6_number_110 (by decide) ?_
            refine lv_isub hx hb dX6_number_112 ?_
            obtain ⟨x_14, ex_14, h⟩ := nam_e h
            refine lv_ni ex_14 ?_
            refine lv_istore_n (lv' := [(1, .int x_14), (0, .ref (gad G 159))]) hx hb dX6_number_113 rfl hl (by decide) rfl (fun ls hl => ?_)
            refine lv_aload_n hx hb dX6_number_114 rfl (lv_at hl 1 rfl) ?_
            refine lv_dup hx hb dX6_number_115 rfl ?_
            refine va_get (D := G.1) (ci := 6) (v := .int (M_1.1 4)) (C := RX6) (T := TX6) (N := 14) hx hb hts hiX6 hown hK.1 hW.1 159 lkM rfl 9 (by decide) (hts _ (List.mem_of_getElem? (i := 2) rfl)) (fun _ h9 => h9) rfl dX6_number_116 ?_
            refine lv_iconst (v := 1) hx hb dX6_number_119 (by decide) ?_
            refine lv_iadd hx hb dX6_number_120 ?_
            obtain ⟨M_15, eM_15, h⟩ := nam_e h
            refine va_put (D := G.1) (ci := 6) (v := .int ((M_1.1 4 + 1))) (ty := .int) (C := RX6) (T := TX6) (N := 14) hx hb hts hiX6 tyX6 tyX6_ok nmX6 hown hK.1 hW.1 (hW.D hA) hS 159 lkM rfl 9 (by decide) (hts _ (List.mem_of_getElem? (i := 2) rfl)) (fun _ h9 => h9) rfl (by decide +kernel) rfl rfl (Nat.le_of_ble_eq_true rfl) dX6_number_121 (fun H locs hP hD hS => ?_)
            have hW := upM4 hW hP
            rw [← eM_15] at hW
            exact B124 _ _ M_15 hW hS ls x_14 (lv_sub hl [0] rfl) h
  have B27 : ∀ (H : Heap) (locs : List Loc) (M : St) (_ : WD G S0 M H) (_ : va_S (Aw G) s.heap H locs) (ls : Array Slot) (k0 : Int32) (_ : lv_has ls 2 [(0, .ref (gad G 159))]) (h : f6_number_b27 M k0 = some (rr, M')), WI p l e (headSpec wsX6_number rX6_number).room s m args below meth cd G rr S0 M' H locs (F0 m 27 ls [.int k0, .ref (gad G 159)]) := by
    intro H locs M hW hS ls k0 hl h
    unfold f6_number_b27 at h
    obtain ⟨z_1, h⟩ := isz_e h
    obtain ⟨M_2, eM_2, h⟩ := nam_e h
    refine va_put (D := G.1) (ci := 6) (v := .int k0) (ty := .boolean) (C := RX6) (T := TX6) (N := 14) hx hb hts hiX6 tyX6 tyX6_ok nmX6 hown hK.1 hW.1 (hW.D hA) hS 159 lkM rfl 10 (by decide) (hts _ (List.mem_of_getElem? (i := 1) rfl)) (fun _ h9 => h9) rfl (by decide +kernel) (nz_1 z_1) (nz_2 z_1) (Nat.le_of_ble_eq_true rfl) dX6_number_27 (fun H locs hP hD hS => ?_)
    have hW := upM5 hW hP
    rw [← eM_2] at hW
    refine lv_aload_n hx hb dX6_number_30 rfl (lv_at hl 0 rfl) ?_
    obtain ⟨r_3, e_4, h⟩ := bnd_e h
    refine kV_I (As := []) (rest := []) ⟨hx, hb, hml, hown, hts⟩ (tX6_sign l G S0 M_2 r_3 e_4) (cwV 0 hts gX6_number_X6_sign rfl rfl rfl ⟨rfl, hdX6_sign⟩ ⟨Nat.le_of_ble_eq_true rfl, Nat.le_of_ble_eq_true rfl⟩) (va_recv hK.1 hW.1 (ci := 6) (q0 := 159) rfl lkM) hK hW hS hA rfl hl.1 rfl (Nat.le_of_ble_eq_true rfl) dX6_number_31 ⟨Nat.zero_le _, Nat.zero_le _⟩ (fun H locs hW hS => ?_)
    refine lv_bipush (v := 48) hx hb dX6_number_34 (by decide) ?_
    refine lv_isub hx hb dX6_number_36 ?_
    obtain ⟨x_5, ex_5, h⟩ := nam_e h
    refine lv_ni ex_5 ?_
    refine lv_istore_n (lv' := [(1, .int x_5), (0, .ref (gad G 159))]) hx hb dX6_number_37 rfl hl (by decide) rfl (fun ls hl => ?_)
    refine lv_aload_n hx hb dX6_number_38 rfl (lv_at hl 1 rfl) ?_
    refine lv_dup hx hb dX6_number_39 rfl ?_
    refine va_get (D := G.1) (ci := 6) (v := .int (M_2.1 4)) (C := RX6) (T := TX6) (N := 14) hx hb hts hiX6 hown hK.1 hW.1 159 lkM rfl 9 (by decide) (hts _ (List.mem_of_getElem? (i := 2) rfl)) (fun _ h9 => h9) rfl dX6_number_40 ?_
    refine lv_aload_n hx hb dX6_number_43 rfl (lv_at hl 1 rfl) ?_
    refine va_get (D := G.1) (ci := 6) (v := .int (M_2.1 5)) (C := RX6) (T := TX6) (N := 14) hx hb hts hiX6 hown hK.1 hW.1 159 lkM rfl 10 (by decide) (hts _ (List.mem_of_getElem? (i := 1) rfl)) (fun _ h9 => h9) rfl dX6_number_44 ?_
    refine lv_if_eq (tgt := 54) hx hb dX6_number_47 (by decide) (fun c_6 => ?_) (fun c_6 => ?_)
    · have h := ite_t c_6 h
      refine lv_iconst (v := 0) hx hb dX6_number_54 (by decide) ?_
      exact B55 _ _ M_2 hW hS ls x_5 0 (M_2.1 4) (lv_sub hl [1, 0] rfl) h
    · have h := ite_f c_6 h
      refine lv_iconst (v := 1) hx hb dX6_number_50 (by decide) ?_
      refine lv_goto (tgt := 55) hx hb dX6_number_51 (by decide) ?_
      exact B55 _ _ M_2 hW hS ls x_5 1 (M_2.1 4) (lv_sub hl [1, 0] rfl) h
  have B26 : ∀ (H : Heap) (locs : List Loc) (M : St) (_ : WD G S0 M H) (_ : va_S (Aw G) s.heap H locs) (ls : Array Slot) (_ : lv_has ls 2 [(0, .ref (gad G 159))]) (h : f6_number_b26 M  = some (rr, M')), WI p l e (headSpec wsX6_number rX6_number).room s m args below meth cd G rr S0 M' H locs (F0 m 26 ls [.ref (gad G 159)]) := by
    intro H locs M hW hS ls hl h
    unfold f6_number_b26 at h
    refine lv_iconst (v := 0) hx hb dX6_number_26 (by decide) ?_
    exact B27 _ _ M hW hS ls 0 (lv_sub hl [0] rfl) h
  unfold f6_number at h
  refine lv_aload_n hx hb dX6_number_0 rfl (lv_at hl 0 rfl) ?_
  refine lv_aload_n hx hb dX6_number_1 rfl (lv_at hl 0 rfl) ?_
  refine va_get (D := G.1) (ci := 6) (v := .int (M0.1 5)) (C := RX6) (T := TX6) (N := 14) hx hb hts hiX6 hown hK.1 hW.1 159 lkM rfl 10 (by decide) (hts _ (List.mem_of_getElem? (i := 1) rfl)) (fun _ h9 => h9) rfl dX6_number_2 ?_
  refine lv_if_eq (tgt := 26) hx hb dX6_number_5 (by decide) (fun c_1 => ?_) (fun c_1 => ?_)
  · have h := ite_t c_1 h
    exact B26 _ _ M0 hW hS ls (lv_sub hl [0] rfl) h
  · have h := ite_f c_1 h
    refine lv_aload_n hx hb dX6_number_8 rfl (lv_at hl 0 rfl) ?_
    obtain ⟨r_2, e_3, h⟩ := bnd_e h
    refine kV_I (As := []) (rest := [.ref (gad G 159)]) ⟨hx, hb, hml, hown, hts⟩ (tX6_sign l G S0 M0 r_2 e_3) (cwV 0 hts gX6_number_X6_sign rfl rfl rfl ⟨rfl, hdX6_sign⟩ ⟨Nat.le_of_ble_eq_true rfl, Nat.le_of_ble_eq_true rfl⟩) (va_recv hK.1 hW.1 (ci := 6) (q0 := 159) rfl lkM) hK hW hS hA rfl hl.1 rfl (Nat.le_of_ble_eq_true rfl) dX6_number_9 ⟨Nat.zero_le _, Nat.zero_le _⟩ (fun H locs hW hS => ?_)
    refine lv_bipush (v := 48) hx hb dX6_number_12 (by decide) ?_
    refine lv_bipush (v := 57) hx hb dX6_number_14 (by decide) ?_
    obtain ⟨r_4, e_5, h⟩ := bnd_e h
    refine kS_I (As := [.int r_2, .int 48, .int 57]) (rest := [.ref (gad G 159)]) ⟨hx, hb, hml, hown, hts⟩ (tX6_in l G S0 M0 r_2 48 57 r_4 e_5) (va_cwS 3 hts gX6_number_X6_in rfl rfl rfl hdX6_in ⟨Nat.le_of_ble_eq_true rfl, Nat.le_of_ble_eq_true rfl⟩) hK hW hS hA rfl hl.1 rfl (Nat.le_of_ble_eq_true rfl) dX6_number_16 ⟨Nat.zero_le _, Nat.zero_le _⟩ (fun H locs hW hS => ?_)
    refine lv_if_eq (tgt := 26) hx hb dX6_number_19 (by decide) (fun c_6 => ?_) (fun c_6 => ?_)
    · have h := ite_t c_6 h
      exact B26 _ _ M0 hW hS ls (lv_sub hl [0] rfl) h
    · have h := ite_f c_6 h
      refine lv_iconst (v := 1) hx hb dX6_number_22 (by decide) ?_
      refine lv_goto (tgt := 27) hx hb dX6_number_23 (by decide) ?_
      exact B27 _ _ M0 hW hS ls 1 (lv_sub hl [0] rfl) h
