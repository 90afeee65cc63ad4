abbrev rL_holds : Room := { frames := 7, cells := 0, slots := 0, locals := 168 }
set_option maxRecDepth 100000 in
set_option maxHeartbeats 8000000 in
theorem tL_holds (l : Launch) (G : WG) (S0 M0 : St) (p1 : Int32) (rr : Int32) (h : fL_holds S0 p1 = some (rr)) : CtI l yL_holds wsL_holds rL_holds G [.ref (gad G 154), .int p1] S0 M0 rr S0 M0 := by
  refine Met.ofW (cc := cL_holds) (maxL := 14) (ret := (some .boolean)) (by decide) rfl ?_
  intro p e s m args below meth cd s₁ B hml hv
  obtain ⟨hargs, hK, hW⟩ := hv
  have hx := B.exec
  have hb := B.bytes
  have hr := B.returns
  have hts := atoms_spec (ws := wsL_holds) B.pre
  have hown : s.vm.findClass RL = some m.cls := findClass_of_methodNamed B.named
  have hlocks := B.notSynchronized
  have hA : ∀ q, Aw G q → Aw G q := fun _ h => h
  have hS : va_S (Aw G) s.heap s.heap [] := va_S.rf
  have he0 : entryFrame m args 14 = F0 m 0 ((lg_sl ([.ref (gad G 154), .int p1]) ++ List.replicate (14 - (lg_sl ([.ref (gad G 154), .int p1])).length) Slot.unset).toArray) [] := by rw [hargs]; exact lg_entry_eq _ _ _
  have hl := lv_entry ([.ref (gad G 154), .int p1]) (n := 14) (Nat.le_of_ble_eq_true rfl)
  rw [he0]
  generalize (lg_sl ([.ref (gad G 154), .int p1]) ++ List.replicate (14 - (lg_sl ([.ref (gad G 154), .int p1])).length) Slot.unset).toArray = ls at hl ⊢
  have hl : lv_has ls 14 [(0, .ref (gad G 154)), (1, .int p1)] := hl
  have B175 : ∀ (H : Heap) (locs : List Loc) (_ : WD G S0 M0 H) (_ : va_S (Aw G) s.heap H locs) (ls : Array Slot) (_ : lv_has ls 14 []) (h : fL_holds_b175 S0  = some (rr)), WI p l e (headSpec wsL_holds rL_holds).room s m args below meth cd G rr S0 M0 H locs (F0 m 175 ls []) := by
    intro H locs hW hS ls hl h
    unfold fL_holds_b175 at h
    refine lv_iconst (v := 0) hx hb dL_holds_175 (by decide) ?_
    obtain rfl := Option.some.inj h
    exact W.zret (ty := .boolean) hx hb hr rfl (fun t ht hw => ⟨⟨_, (), rfl, rfl, hW.ret ht⟩, hS.F ht⟩) hS.2.2 dL_holds_176
  have B511 : ∀ (H : Heap) (locs : List Loc) (_ : WD G S0 M0 H) (_ : va_S (Aw G) s.heap H locs) (ls : Array Slot) (k0 : Int32) (_ : lv_has ls 14 []) (h : fL_holds_b511 S0 k0 = some (rr)), WI p l e (headSpec wsL_holds rL_holds).room s m args below meth cd G rr S0 M0 H locs (F0 m 511 ls [.int k0]) := by
    intro H locs hW hS ls k0 hl h
    unfold fL_holds_b511 at h
    obtain ⟨z_1, h⟩ := isz_e h
    obtain rfl := Option.some.inj h
    exact W.zret (ty := .boolean) hx hb hr (nz_1 z_1) (fun t ht hw => ⟨⟨_, (), rfl, rfl, hW.ret ht⟩, hS.F ht⟩) hS.2.2 dL_holds_511
  have B510 : ∀ (H : Heap) (locs : List Loc) (_ : WD G S0 M0 H) (_ : va_S (Aw G) s.heap H locs) (ls : Array Slot) (_ : lv_has ls 14 []) (h : fL_holds_b510 S0  = some (rr)), WI p l e (headSpec wsL_holds rL_holds).room s m args below meth cd G rr S0 M0 H locs (F0 m 510 ls []) := by
    intro H locs hW hS ls hl h
    unfold fL_holds_b510 at h
    refine lv_iconst (v := 0) hx hb dL_holds_510 (by decide) ?_
    exact B511 _ _ hW hS ls 0 (lv_sub hl [] rfl) h
  have B428 : ∀ (H : Heap) (locs : List Loc) (_ : WD G S0 M0 H) (_ : va_S (Aw G) s.heap H locs) (ls : Array Slot) (l3 : Int32) (l6 : Int32) (l9 : Int32) (l12 : Int32) (k0 : Int32) (_ : lv_has ls 14 [(0, .ref (gad G 154)), (3, .int l3), (6, .int l6), (9, .int l9), (12, .int l12)]) (h : fL_holds_b428 S0 l3 l6 l9 l12 k0 = some (rr)), WI p l e (headSpec wsL_holds rL_holds).room s m args below meth cd G rr S0 M0 H locs (F0 m 428 ls [.int k0]) := by
    intro H locs hW hS ls l3 l6 l9 l12 k0 hl h
    unfold fL_holds_b428 at h
    refine lv_istore (lv' := [(13, .int k0), (0, .ref (gad G 154)), (3, .int l3), (6, .int l6), (9, .int l9), (12, .int l12)]) hx hb dL_holds_428 hl (by decide) rfl (fun ls hl => ?_)
    refine lv_iload hx hb dL_holds_430 (lv_at hl 5 rfl) ?_
    refine lv_if_eq (tgt := 510) hx hb dL_holds_432 (by decide) (fun c_1 => ?_) (fun c_1 => ?_)
    · have h := ite_t c_1 h
      exact B510 _ _ hW hS ls (lv_sub hl [] rfl) h
    · have h := ite_f c_1 h
      refine lv_iload hx hb dL_holds_435 (lv_at hl 0 rfl) ?_
      refine lv_if_eq (tgt := 510) hx hb dL_holds_437 (by decide) (fun c_2 => ?_) (fun c_2 => ?_)
      · have h := ite_t c_2 h
        exact B510 _ _ hW hS ls (lv_sub hl [] rfl) h
      · have h := ite_f c_2 h
        refine lv_iload_n hx hb dL_holds_440 rfl (lv_at hl 2 rfl) ?_
        refine lv_aload_n hx hb dL_holds_441 rfl (lv_at hl 1 rfl) ?_
        refine lv_iconst (v := 0) hx hb dL_holds_442 (by decide) ?_
        obtain ⟨r_3, e_4, h⟩ := bnd_e h
        refine kV_I (As := [.int 0]) (rest := [.int l3]) ⟨hx, hb, hml, hown, hts⟩ (tX5_count l G S0 M0 0 r_3 e_4) (cwV 1 hts gL_holds_X5_count rfl rfl rfl ⟨rfl, hdX5_count⟩ ⟨Nat.le_of_ble_eq_true rfl, Nat.le_of_ble_eq_true rfl⟩) (va_recv hK.1 hW.1 (ci := 5) (q0 := 154) rfl lkT) hK hW hS hA rfl hl.1 rfl (Nat.le_of_ble_eq_true rfl) dL_holds_443 ⟨Nat.zero_le _, Nat.zero_le _⟩ (fun H locs hW hS => ?_)
        refine lv_icmp_ne (tgt := 510) hx hb dL_holds_446 (by decide) (fun c_5 => ?_) (fun c_5 => ?_)
        · have h := ite_f c_5 h
          exact B510 _ _ hW hS ls (lv_sub hl [] rfl) h
        · have h := ite_t c_5 h
          refine lv_iload hx hb dL_holds_449 (lv_at hl 3 rfl) ?_
          refine lv_aload_n hx hb dL_holds_451 rfl (lv_at hl 1 rfl) ?_
          refine lv_bipush (v := 6) hx hb dL_holds_452 (by decide) ?_
          obtain ⟨r_6, e_7, h⟩ := bnd_e h
          refine kV_I (As := [.int 6]) (rest := [.int l6]) ⟨hx, hb, hml, hown, hts⟩ (tX5_count l G S0 M0 6 r_6 e_7) (cwV 1 hts gL_holds_X5_count rfl rfl rfl ⟨rfl, hdX5_count⟩ ⟨Nat.le_of_ble_eq_true rfl, Nat.le_of_ble_eq_true rfl⟩) (va_recv hK.1 hW.1 (ci := 5) (q0 := 154) rfl lkT) hK hW hS hA rfl hl.1 rfl (Nat.le_of_ble_eq_true rfl) dL_holds_454 ⟨Nat.zero_le _, Nat.zero_le _⟩ (fun H locs hW hS => ?_)
          refine lv_icmp_ne (tgt := 510) hx hb dL_holds_457 (by decide) (fun c_8 => ?_) (fun c_8 => ?_)
          · have h := ite_f c_8 h
            exact B510 _ _ hW hS ls (lv_sub hl [] rfl) h
          · have h := ite_t c_8 h
            refine lv_aload_n hx hb dL_holds_460 rfl (lv_at hl 1 rfl) ?_
            refine lv_iconst (v := 2) hx hb dL_holds_461 (by decide) ?_
            obtain ⟨r_9, e_10, h⟩ := bnd_e h
            refine kV_I (As := [.int 2]) (rest := []) ⟨hx, hb, hml, hown, hts⟩ (tX5_count l G S0 M0 2 r_9 e_10) (cwV 1 hts gL_holds_X5_count rfl rfl rfl ⟨rfl, hdX5_count⟩ ⟨Nat.le_of_ble_eq_true rfl, Nat.le_of_ble_eq_true rfl⟩) (va_recv hK.1 hW.1 (ci := 5) (q0 := 154) rfl lkT) hK hW hS hA rfl hl.1 rfl (Nat.le_of_ble_eq_true rfl) dL_holds_462 ⟨Nat.zero_le _, Nat.zero_le _⟩ (fun H locs hW hS => ?_)
            refine lv_aload_n hx hb dL_holds_465 rfl (lv_at hl 1 rfl) ?_
            refine lv_bipush (v := 7) hx hb dL_holds_466 (by decide) ?_
            obtain ⟨r_11, e_12, h⟩ := bnd_e h
            refine kV_I (As := [.int 7]) (rest := [.int r_9]) ⟨hx, hb, hml, hown, hts⟩ (tX5_count l G S0 M0 7 r_11 e_12) (cwV 1 hts gL_holds_X5_count rfl rfl rfl ⟨rfl, hdX5_count⟩ ⟨Nat.le_of_ble_eq_true rfl, Nat.le_of_ble_eq_true rfl⟩) (va_recv hK.1 hW.1 (ci := 5) (q0 := 154) rfl lkT) hK hW hS hA rfl hl.1 rfl (Nat.le_of_ble_eq_true rfl) dL_holds_468 ⟨Nat.zero_le _, Nat.zero_le _⟩ (fun H locs hW hS => ?_)
            refine lv_iconst (v := 1) hx hb dL_holds_471 (by decide) ?_
            refine lv_iadd hx hb dL_holds_472 ?_
            refine lv_icmp_gt (tgt := 510) hx hb dL_holds_473 (by decide) (fun c_13 => ?_) (fun c_13 => ?_)
            · have h := ite_t c_13 h
              exact B510 _ _ hW hS ls (lv_sub hl [] rfl) h
            · have h := ite_f c_13 h
              refine lv_aload_n hx hb dL_holds_476 rfl (lv_at hl 1 rfl) ?_
              refine lv_iconst (v := 4) hx hb dL_holds_477 (by decide) ?_
              obtain ⟨r_14, e_15, h⟩ := bnd_e h
              refine kV_I (As := [.int 4]) (rest := []) ⟨hx, hb, hml, hown, hts⟩ (tX5_count l G S0 M0 4 r_14 e_15) (cwV 1 hts gL_holds_X5_count rfl rfl rfl ⟨rfl, hdX5_count⟩ ⟨Nat.le_of_ble_eq_true rfl, Nat.le_of_ble_eq_true rfl⟩) (va_recv hK.1 hW.1 (ci := 5) (q0 := 154) rfl lkT) hK hW hS hA rfl hl.1 rfl (Nat.le_of_ble_eq_true rfl) dL_holds_478 ⟨Nat.zero_le _, Nat.zero_le _⟩ (fun H locs hW hS => ?_)
              refine lv_bipush (v := 12) hx hb dL_holds_481 (by decide) ?_
              refine lv_icmp_gt (tgt := 510) hx hb dL_holds_483 (by decide) (fun c_16 => ?_) (fun c_16 => ?_)
              · have h := ite_t c_16 h
                exact B510 _ _ hW hS ls (lv_sub hl [] rfl) h
              · have h := ite_f c_16 h
                refine lv_aload_n hx hb dL_holds_486 rfl (lv_at hl 1 rfl) ?_
                refine lv_iconst (v := 5) hx hb dL_holds_487 (by decide) ?_
                obtain ⟨r_17, e_18, h⟩ := bnd_e h
                refine kV_I (As := [.int 5]) (rest := []) ⟨hx, hb, hml, hown, hts⟩ (tX5_count l G S0 M0 5 r_17 e_18) (cwV 1 hts gL_holds_X5_count rfl rfl rfl ⟨rfl, hdX5_count⟩ ⟨Nat.le_of_ble_eq_true rfl, Nat.le_of_ble_eq_true rfl⟩) (va_recv hK.1 hW.1 (ci := 5) (q0 := 154) rfl lkT) hK hW hS hA rfl hl.1 rfl (Nat.le_of_ble_eq_true rfl) dL_holds_488 ⟨Nat.zero_le _, Nat.zero_le _⟩ (fun H locs hW hS => ?_)
                refine lv_iload hx hb dL_holds_491 (lv_at hl 4 rfl) ?_
                refine lv_icmp_gt (tgt := 510) hx hb dL_holds_493 (by decide) (fun c_19 => ?_) (fun c_19 => ?_)
                · have h := ite_t c_19 h
                  exact B510 _ _ hW hS ls (lv_sub hl [] rfl) h
                · have h := ite_f c_19 h
                  refine lv_iload hx hb dL_holds_496 (lv_at hl 4 rfl) ?_
                  refine lv_aload_n hx hb dL_holds_498 rfl (lv_at hl 1 rfl) ?_
                  refine lv_iconst (v := 4) hx hb dL_holds_499 (by decide) ?_
                  obtain ⟨r_20, e_21, h⟩ := bnd_e h
                  refine kV_I (As := [.int 4]) (rest := [.int l9]) ⟨hx, hb, hml, hown, hts⟩ (tX5_count l G S0 M0 4 r_20 e_21) (cwV 1 hts gL_holds_X5_count rfl rfl rfl ⟨rfl, hdX5_count⟩ ⟨Nat.le_of_ble_eq_true rfl, Nat.le_of_ble_eq_true rfl⟩) (va_recv hK.1 hW.1 (ci := 5) (q0 := 154) rfl lkT) hK hW hS hA rfl hl.1 rfl (Nat.le_of_ble_eq_true rfl) dL_holds_500 ⟨Nat.zero_le _, Nat.zero_le _⟩ (fun H locs hW hS => ?_)
                  refine lv_icmp_gt (tgt := 510) hx hb dL_holds_503 (by decide) (fun c_22 => ?_) (fun c_22 => ?_)
                  · have h := ite_t c_22 h
                    exact B510 _ _ hW hS ls (lv_sub hl [] rfl) h
                  · have h := ite_f c_22 h
                    refine lv_iconst (v := 1) hx hb dL_holds_506 (by decide) ?_
                    refine lv_goto (tgt := 511) hx hb dL_holds_507 (by decide) ?_
                    exact B511 _ _ hW hS ls 1 (lv_sub hl [] rfl) h
  have B392 : ∀ (H : Heap) (locs : List Loc) (_ : WD G S0 M0 H) (_ : va_S (Aw G) s.heap H locs) (ls : Array Slot) (l3 : Int32) (l6 : Int32) (l9 : Int32) (l12 : Int32) (_ : lv_has ls 14 [(0, .ref (gad G 154)), (3, .int l3), (6, .int l6), (9, .int l9), (12, .int l12)]) (h : fL_holds_b392 S0 l3 l6 l9 l12 = some (rr)), WI p l e (headSpec wsL_holds rL_holds).room s m args below meth cd G rr S0 M0 H locs (F0 m 392 ls []) := by
    intro H locs hW hS ls l3 l6 l9 l12 hl h
    unfold fL_holds_b392 at h
    refine lv_iconst (v := 0) hx hb dL_holds_392 (by decide) ?_
    refine lv_goto (tgt := 428) hx hb dL_holds_393 (by decide) ?_
    exact B428 _ _ hW hS ls l3 l6 l9 l12 0 (lv_sub hl [0, 1, 2, 3, 4] rfl) h
  have B427 : ∀ (H : Heap) (locs : List Loc) (_ : WD G S0 M0 H) (_ : va_S (Aw G) s.heap H locs) (ls : Array Slot) (l3 : Int32) (l6 : Int32) (l9 : Int32) (l12 : Int32) (_ : lv_has ls 14 [(0, .ref (gad G 154)), (3, .int l3), (6, .int l6), (9, .int l9), (12, .int l12)]) (h : fL_holds_b427 S0 l3 l6 l9 l12 = some (rr)), WI p l e (headSpec wsL_holds rL_holds).room s m args below meth cd G rr S0 M0 H locs (F0 m 427 ls []) := by
    intro H locs hW hS ls l3 l6 l9 l12 hl h
    unfold fL_holds_b427 at h
    refine lv_iconst (v := 0) hx hb dL_holds_427 (by decide) ?_
    exact B428 _ _ hW hS ls l3 l6 l9 l12 0 (lv_sub hl [0, 1, 2, 3, 4] rfl) h
  have B350 : ∀ (H : Heap) (locs : List Loc) (_ : WD G S0 M0 H) (_ : va_S (Aw G) s.heap H locs) (ls : Array Slot) (l2 : Int32) (l3 : Int32) (l4 : Int32) (l5 : Int32) (l6 : Int32) (l7 : Int32) (l8 : Int32) (l9 : Int32) (k0 : Int32) (_ : lv_has ls 14 [(0, .ref (gad G 154)), (2, .int l2), (3, .int l3), (4, .int l4), (5, .int l5), (6, .int l6), (7, .int l7), (8, .int l8), (9, .int l9)]) (h : fL_holds_b350 S0 l2 l3 l4 l5 l6 l7 l8 l9 k0 = some (rr)), WI p l e (headSpec wsL_holds rL_holds).room s m args below meth cd G rr S0 M0 H locs (F0 m 350 ls [.int k0]) := by
    intro H locs hW hS ls l2 l3 l4 l5 l6 l7 l8 l9 k0 hl h
    unfold fL_holds_b350 at h
    refine lv_istore (lv' := [(12, .int k0), (0, .ref (gad G 154)), (2, .int l2), (3, .int l3), (4, .int l4), (5, .int l5), (6, .int l6), (7, .int l7), (8, .int l8), (9, .int l9)]) hx hb dL_holds_350 hl (by decide) rfl (fun ls hl => ?_)
    refine lv_iload_n hx hb dL_holds_352 rfl (lv_at hl 3 rfl) ?_
    refine lv_if_ne (tgt := 396) hx hb dL_holds_353 (by decide) (fun c_1 => ?_) (fun c_1 => ?_)
    · have h := ite_f c_1 h
      refine lv_iload_n hx hb dL_holds_396 rfl (lv_at hl 2 rfl) ?_
      refine lv_sipush (v := 4096) hx hb dL_holds_397 (by decide) ?_
      refine lv_icmp_ne (tgt := 427) hx hb dL_holds_400 (by decide) (fun c_2 => ?_) (fun c_2 => ?_)
      · have h := ite_f c_2 h
        exact B427 _ _ hW hS ls l3 l6 l9 k0 (lv_sub hl [1, 3, 6, 9, 0] rfl) h
      · have h := ite_t c_2 h
        refine lv_iload hx hb dL_holds_403 (lv_at hl 4 rfl) ?_
        refine lv_aload_n hx hb dL_holds_405 rfl (lv_at hl 1 rfl) ?_
        refine lv_iconst (v := 2) hx hb dL_holds_406 (by decide) ?_
        obtain ⟨r_3, e_4, h⟩ := bnd_e h
        refine kV_I (As := [.int 2]) (rest := [.int l4]) ⟨hx, hb, hml, hown, hts⟩ (tX5_count l G S0 M0 2 r_3 e_4) (cwV 1 hts gL_holds_X5_count rfl rfl rfl ⟨rfl, hdX5_count⟩ ⟨Nat.le_of_ble_eq_true rfl, Nat.le_of_ble_eq_true rfl⟩) (va_recv hK.1 hW.1 (ci := 5) (q0 := 154) rfl lkT) hK hW hS hA rfl hl.1 rfl (Nat.le_of_ble_eq_true rfl) dL_holds_407 ⟨Nat.zero_le _, Nat.zero_le _⟩ (fun H locs hW hS => ?_)
        refine lv_icmp_ne (tgt := 427) hx hb dL_holds_410 (by decide) (fun c_5 => ?_) (fun c_5 => ?_)
        · have h := ite_f c_5 h
          exact B427 _ _ hW hS ls l3 l6 l9 k0 (lv_sub hl [1, 3, 6, 9, 0] rfl) h
        · have h := ite_t c_5 h
          refine lv_iload hx hb dL_holds_413 (lv_at hl 5 rfl) ?_
          refine lv_aload_n hx hb dL_holds_415 rfl (lv_at hl 1 rfl) ?_
          refine lv_iconst (v := 3) hx hb dL_holds_416 (by decide) ?_
          obtain ⟨r_6, e_7, h⟩ := bnd_e h
          refine kV_I (As := [.int 3]) (rest := [.int l5]) ⟨hx, hb, hml, hown, hts⟩ (tX5_count l G S0 M0 3 r_6 e_7) (cwV 1 hts gL_holds_X5_count rfl rfl rfl ⟨rfl, hdX5_count⟩ ⟨Nat.le_of_ble_eq_true rfl, Nat.le_of_ble_eq_true rfl⟩) (va_recv hK.1 hW.1 (ci := 5) (q0 := 154) rfl lkT) hK hW hS hA rfl hl.1 rfl (Nat.le_of_ble_eq_true rfl) dL_holds_417 ⟨Nat.zero_le _, Nat.zero_le _⟩ (fun H locs hW hS => ?_)
          refine lv_icmp_ne (tgt := 427) hx hb dL_holds_420 (by decide) (fun c_8 => ?_) (fun c_8 => ?_)
          · have h := ite_f c_8 h
            exact B427 _ _ hW hS ls l3 l6 l9 k0 (lv_sub hl [1, 3, 6, 9, 0] rfl) h
          · have h := ite_t c_8 h
            refine lv_iconst (v := 1) hx hb dL_holds_423 (by decide) ?_
            refine lv_goto (tgt := 428) hx hb dL_holds_424 (by decide) ?_
            exact B428 _ _ hW hS ls l3 l6 l9 k0 1 (lv_sub hl [1, 3, 6, 9, 0] rfl) h
    · have h := ite_t c_1 h
      refine lv_aload_n hx hb dL_holds_356 rfl (lv_at hl 1 rfl) ?_
      refine lv_iconst (v := 2) hx hb dL_holds_357 (by decide) ?_
      obtain ⟨r_9, e_10, h⟩ := bnd_e h
      refine kV_I (As := [.int 2]) (rest := []) ⟨hx, hb, hml, hown, hts⟩ (tX5_count l G S0 M0 2 r_9 e_10) (cwV 1 hts gL_holds_X5_count rfl rfl rfl ⟨rfl, hdX5_count⟩ ⟨Nat.le_of_ble_eq_true rfl, Nat.le_of_ble_eq_true rfl⟩) (va_recv hK.1 hW.1 (ci := 5) (q0 := 154) rfl lkT) hK hW hS hA rfl hl.1 rfl (Nat.le_of_ble_eq_true rfl) dL_holds_358 ⟨Nat.zero_le _, Nat.zero_le _⟩ (fun H locs hW hS => ?_)
      refine lv_iconst (v := 1) hx hb dL_holds_361 (by decide) ?_
      refine lv_icmp_ne (tgt := 392) hx hb dL_holds_362 (by decide) (fun c_11 => ?_) (fun c_11 => ?_)
      · have h := ite_f c_11 h
        exact B392 _ _ hW hS ls l3 l6 l9 k0 (lv_sub hl [1, 3, 6, 9, 0] rfl) h
      · have h := ite_t c_11 h
        refine lv_aload_n hx hb dL_holds_365 rfl (lv_at hl 1 rfl) ?_
        refine lv_iload hx hb dL_holds_366 (lv_at hl 7 rfl) ?_
        refine lv_iload hx hb dL_holds_368 (lv_at hl 8 rfl) ?_
        refine lv_iconst (v := 0) hx hb dL_holds_370 (by decide) ?_
        obtain ⟨r_12, e_13, h⟩ := bnd_e h
        refine kV_I (As := [.int l7, .int l8, .int 0]) (rest := []) ⟨hx, hb, hml, hown, hts⟩ (tX5_plot l G S0 M0 l7 l8 0 r_12 e_13) (cwV 3 hts gL_holds_X5_plot rfl rfl rfl ⟨rfl, hdX5_plot⟩ ⟨Nat.le_of_ble_eq_true rfl, Nat.le_of_ble_eq_true rfl⟩) (va_recv hK.1 hW.1 (ci := 5) (q0 := 154) rfl lkT) hK hW hS hA rfl hl.1 rfl (Nat.le_of_ble_eq_true rfl) dL_holds_371 ⟨Nat.zero_le _, Nat.zero_le _⟩ (fun H locs hW hS => ?_)
        refine lv_bipush (v := (-5)) hx hb dL_holds_374 (by decide) ?_
        refine lv_icmp_ne (tgt := 392) hx hb dL_holds_376 (by decide) (fun c_14 => ?_) (fun c_14 => ?_)
        · have h := ite_f c_14 h
          exact B392 _ _ hW hS ls l3 l6 l9 k0 (lv_sub hl [1, 3, 6, 9, 0] rfl) h
        · have h := ite_t c_14 h
          refine lv_aload_n hx hb dL_holds_379 rfl (lv_at hl 1 rfl) ?_
          obtain ⟨r_15, e_16, h⟩ := bnd_e h
          refine kV_I (As := []) (rest := []) ⟨hx, hb, hml, hown, hts⟩ (tX5_loudest l G S0 M0 r_15 e_16) (cwV 0 hts gL_holds_X5_loudest rfl rfl rfl ⟨rfl, hdX5_loudest⟩ ⟨Nat.le_of_ble_eq_true rfl, Nat.le_of_ble_eq_true rfl⟩) (va_recv hK.1 hW.1 (ci := 5) (q0 := 154) rfl lkT) hK hW hS hA rfl hl.1 rfl (Nat.le_of_ble_eq_true rfl) dL_holds_380 ⟨Nat.zero_le _, Nat.zero_le _⟩ (fun H locs hW hS => ?_)
          refine lv_bipush (v := (-5)) hx hb dL_holds_383 (by decide) ?_
          refine lv_icmp_ne (tgt := 392) hx hb dL_holds_385 (by decide) (fun c_17 => ?_) (fun c_17 => ?_)
          · have h := ite_f c_17 h
            exact B392 _ _ hW hS ls l3 l6 l9 k0 (lv_sub hl [1, 3, 6, 9, 0] rfl) h
          · have h := ite_t c_17 h
            refine lv_iconst (v := 1) hx hb dL_holds_388 (by decide) ?_
            refine lv_goto (tgt := 428) hx hb dL_holds_389 (by decide) ?_
            exact B428 _ _ hW hS ls l3 l6 l9 k0 1 (lv_sub hl [1, 3, 6, 9, 0] rfl) h
  have B349 : ∀ (H : Heap) (locs : List Loc) (_ : WD G S0 M0 H) (_ : va_S (Aw G) s.heap H locs) (ls : Array Slot) (l2 : Int32) (l3 : Int32) (l4 : Int32) (l5 : Int32) (l6 : Int32) (l7 : Int32) (l8 : Int32) (l9 : Int32) (_ : lv_has ls 14 [(0, .ref (gad G 154)), (2, .int l2), (3, .int l3), (4, .int l4), (5, .int l5), (6, .int l6), (7, .int l7), (8, .int l8), (9, .int l9)]) (h : fL_holds_b349 S0 l2 l3 l4 l5 l6 l7 l8 l9 = some (rr)), WI p l e (headSpec wsL_holds rL_holds).room s m args below meth cd G rr S0 M0 H locs (F0 m 349 ls []) := by
    intro H locs hW hS ls l2 l3 l4 l5 l6 l7 l8 l9 hl h
    unfold fL_holds_b349 at h
    refine lv_iconst (v := 0) hx hb dL_holds_349 (by decide) ?_
    exact B350 _ _ hW hS ls l2 l3 l4 l5 l6 l7 l8 l9 0 (lv_sub hl [0, 1, 2, 3, 4, 5, 6, 7, 8] rfl) h
  have B289 : ∀ (H : Heap) (locs : List Loc) (_ : WD G S0 M0 H) (_ : va_S (Aw G) s.heap H locs) (ls : Array Slot) (l2 : Int32) (l3 : Int32) (l4 : Int32) (l5 : Int32) (l6 : Int32) (l7 : Int32) (l8 : Int32) (l9 : Int32) (_ : lv_has ls 14 [(0, .ref (gad G 154)), (2, .int l2), (3, .int l3), (4, .int l4), (5, .int l5), (6, .int l6), (7, .int l7), (8, .int l8), (9, .int l9)]) (h : fL_holds_b289 S0 l2 l3 l4 l5 l6 l7 l8 l9 = some (rr)), WI p l e (headSpec wsL_holds rL_holds).room s m args below meth cd G rr S0 M0 H locs (F0 m 289 ls []) := by
    intro H locs hW hS ls l2 l3 l4 l5 l6 l7 l8 l9 hl h
    unfold fL_holds_b289 at h
    refine lv_iload hx hb dL_holds_289 (lv_at hl 6 rfl) ?_
    refine lv_aload_n hx hb dL_holds_291 rfl (lv_at hl 0 rfl) ?_
    refine lv_iload hx hb dL_holds_292 (lv_at hl 6 rfl) ?_
    refine lv_iload hx hb dL_holds_294 (lv_at hl 7 rfl) ?_
    refine lv_iconst (v := 2) hx hb dL_holds_296 (by decide) ?_
    obtain ⟨r_1, e_2, h⟩ := bnd_e h
    refine kV_I (As := [.int l7, .int l8, .int 2]) (rest := [.int l7]) ⟨hx, hb, hml, hown, hts⟩ (tX5_plot l G S0 M0 l7 l8 2 r_1 e_2) (cwV 3 hts gL_holds_X5_plot rfl rfl rfl ⟨rfl, hdX5_plot⟩ ⟨Nat.le_of_ble_eq_true rfl, Nat.le_of_ble_eq_true rfl⟩) (va_recv hK.1 hW.1 (ci := 5) (q0 := 154) rfl lkT) hK hW hS hA rfl hl.1 rfl (Nat.le_of_ble_eq_true rfl) dL_holds_297 ⟨Nat.zero_le _, Nat.zero_le _⟩ (fun H locs hW hS => ?_)
    refine lv_icmp_lt (tgt := 349) hx hb dL_holds_300 (by decide) (fun c_3 => ?_) (fun c_3 => ?_)
    · have h := ite_t c_3 h
      exact B349 _ _ hW hS ls l2 l3 l4 l5 l6 l7 l8 l9 (lv_sub hl [0, 1, 2, 3, 4, 5, 6, 7, 8] rfl) h
    · have h := ite_f c_3 h
      refine lv_iload hx hb dL_holds_303 (lv_at hl 6 rfl) ?_
      refine lv_aload_n hx hb dL_holds_305 rfl (lv_at hl 0 rfl) ?_
      refine lv_iload hx hb dL_holds_306 (lv_at hl 6 rfl) ?_
      refine lv_iload hx hb dL_holds_308 (lv_at hl 7 rfl) ?_
      refine lv_iconst (v := 4) hx hb dL_holds_310 (by decide) ?_
      obtain ⟨r_4, e_5, h⟩ := bnd_e h
      refine kV_I (As := [.int l7, .int l8, .int 4]) (rest := [.int l7]) ⟨hx, hb, hml, hown, hts⟩ (tX5_plot l G S0 M0 l7 l8 4 r_4 e_5) (cwV 3 hts gL_holds_X5_plot rfl rfl rfl ⟨rfl, hdX5_plot⟩ ⟨Nat.le_of_ble_eq_true rfl, Nat.le_of_ble_eq_true rfl⟩) (va_recv hK.1 hW.1 (ci := 5) (q0 := 154) rfl lkT) hK hW hS hA rfl hl.1 rfl (Nat.le_of_ble_eq_true rfl) dL_holds_311 ⟨Nat.zero_le _, Nat.zero_le _⟩ (fun H locs hW hS => ?_)
      refine lv_icmp_gt (tgt := 349) hx hb dL_holds_314 (by decide) (fun c_6 => ?_) (fun c_6 => ?_)
      · have h := ite_t c_6 h
        exact B349 _ _ hW hS ls l2 l3 l4 l5 l6 l7 l8 l9 (lv_sub hl [0, 1, 2, 3, 4, 5, 6, 7, 8] rfl) h
      · have h := ite_f c_6 h
        refine lv_iload hx hb dL_holds_317 (lv_at hl 7 rfl) ?_
        refine lv_aload_n hx hb dL_holds_319 rfl (lv_at hl 0 rfl) ?_
        refine lv_iload hx hb dL_holds_320 (lv_at hl 6 rfl) ?_
        refine lv_iload hx hb dL_holds_322 (lv_at hl 7 rfl) ?_
        refine lv_iconst (v := 3) hx hb dL_holds_324 (by decide) ?_
        obtain ⟨r_7, e_8, h⟩ := bnd_e h
        refine kV_I (As := [.int l7, .int l8, .int 3]) (rest := [.int l8]) ⟨hx, hb, hml, hown, hts⟩ (tX5_plot l G S0 M0 l7 l8 3 r_7 e_8) (cwV 3 hts gL_holds_X5_plot rfl rfl rfl ⟨rfl, hdX5_plot⟩ ⟨Nat.le_of_ble_eq_true rfl, Nat.le_of_ble_eq_true rfl⟩) (va_recv hK.1 hW.1 (ci := 5) (q0 := 154) rfl lkT) hK hW hS hA rfl hl.1 rfl (Nat.le_of_ble_eq_true rfl) dL_holds_325 ⟨Nat.zero_le _, Nat.zero_le _⟩ (fun H locs hW hS => ?_)
        refine lv_icmp_lt (tgt := 349) hx hb dL_holds_328 (by decide) (fun c_9 => ?_) (fun c_9 => ?_)
        · have h := ite_t c_9 h
          exact B349 _ _ hW hS ls l2 l3 l4 l5 l6 l7 l8 l9 (lv_sub hl [0, 1, 2, 3, 4, 5, 6, 7, 8] rfl) h
        · have h := ite_f c_9 h
          refine lv_iload hx hb dL_holds_331 (lv_at hl 7 rfl) ?_
          refine lv_aload_n hx hb dL_holds_333 rfl (lv_at hl 0 rfl) ?_
          refine lv_iload hx hb dL_holds_334 (lv_at hl 6 rfl) ?_
          refine lv_iload hx hb dL_holds_336 (lv_at hl 7 rfl) ?_
          refine lv_iconst (v := 5) hx hb dL_holds_338 (by decide) ?_
          obtain ⟨r_10, e_11, h⟩ := bnd_e h
          refine kV_I (As := [.int l7, .int l8, .int 5]) (rest := [.int l8]) ⟨hx, hb, hml, hown, hts⟩ (tX5_plot l G S0 M0 l7 l8 5 r_10 e_11) (cwV 3 hts gL_holds_X5_plot rfl rfl rfl ⟨rfl, hdX5_plot⟩ ⟨Nat.le_of_ble_eq_true rfl, Nat.le_of_ble_eq_true rfl⟩) (va_recv hK.1 hW.1 (ci := 5) (q0 := 154) rfl lkT) hK hW hS hA rfl hl.1 rfl (Nat.le_of_ble_eq_true rfl) dL_holds_339 ⟨Nat.zero_le _, Nat.zero_le _⟩ (fun H locs hW hS => ?_)
          refine lv_icmp_gt (tgt := 349) hx hb dL_holds_342 (by decide) (fun c_12 => ?_) (fun c_12 => ?_)
          · have h := ite_t c_12 h
            exact B349 _ _ hW hS ls l2 l3 l4 l5 l6 l7 l8 l9 (lv_sub hl [0, 1, 2, 3, 4, 5, 6, 7, 8] rfl) h
          · have h := ite_f c_12 h
            refine lv_iconst (v := 1) hx hb dL_holds_345 (by decide) ?_
            refine lv_goto (tgt := 350) hx hb dL_holds_346 (by decide) ?_
            exact B350 _ _ hW hS ls l2 l3 l4 l5 l6 l7 l8 l9 1 (lv_sub hl [0, 1, 2, 3, 4, 5, 6, 7, 8] rfl) h
  have B16 : ∀ (n : Nat), ∀ (H : Heap) (locs : List Loc) (_ : WD G S0 M0 H) (_ : va_S (Aw G) s.heap H locs) (ls : Array Slot) (l1 : Int32) (l2 : Int32) (l3 : Int32) (l4 : Int32) (l5 : Int32) (l6 : Int32) (l7 : Int32) (_ : lv_has ls 14 [(0, .ref (gad G 154)), (1, .int l1), (2, .int l2), (3, .int l3), (4, .int l4), (5, .int l5), (6, .int l6), (7, .int l7)]) (h : fL_holds_b16 S0 l1 n l2 l3 l4 l5 l6 l7 = some (rr)), WI p l e (headSpec wsL_holds rL_holds).room s m args below meth cd G rr S0 M0 H locs (F0 m 16 ls []) := by
    intro n
    induction n with
    | zero => intro H locs hW hS ls l1 l2 l3 l4 l5 l6 l7 hl h; cases (show (none : Option (Int32)) = some _ from h)
    | succ n ih =>
      have B177 : ∀ (H : Heap) (locs : List Loc) (_ : WD G S0 M0 H) (_ : va_S (Aw G) s.heap H locs) (ls : Array Slot) (l1 : Int32) (l2 : Int32) (l3 : Int32) (l4 : Int32) (l5 : Int32) (l6 : Int32) (l7 : Int32) (_ : lv_has ls 14 [(0, .ref (gad G 154)), (1, .int l1), (2, .int l2), (3, .int l3), (4, .int l4), (5, .int l5), (6, .int l6), (7, .int l7)]) (h : fL_holds_b177 S0 (fL_holds_b16 S0 l1 n) l1 l2 l3 l4 l5 l6 l7 = some (rr)), WI p l e (headSpec wsL_holds rL_holds).room s m args below meth cd G rr S0 M0 H locs (F0 m 177 ls []) := by
        intro H locs hW hS ls l1 l2 l3 l4 l5 l6 l7 hl h
        unfold fL_holds_b177 at h
        refine lv_iinc (v := (l7 + 1)) (lv' := [(7, .int ((l7 + 1))), (0, .ref (gad G 154)), (1, .int l1), (2, .int l2), (3, .int l3), (4, .int l4), (5, .int l5), (6, .int l6)]) hx hb dL_holds_177 hl (k := 7) rfl rfl (by decide) rfl (fun ls hl => ?_)
        refine lv_goto (tgt := 16) hx hb dL_holds_180 (by decide) ?_
        exact ih _ _ hW hS ls l1 l2 l3 l4 l5 l6 ((l7 + 1)) (lv_sub hl [1, 2, 3, 4, 5, 6, 7, 0] rfl) h
      have B86 : ∀ (H : Heap) (locs : List Loc) (_ : WD G S0 M0 H) (_ : va_S (Aw G) s.heap H locs) (ls : Array Slot) (l1 : Int32) (l2 : Int32) (l3 : Int32) (l4 : Int32) (l5 : Int32) (l7 : Int32) (l8 : Int32) (k0 : Int32) (k1 : Int32) (_ : lv_has ls 14 [(0, .ref (gad G 154)), (1, .int l1), (2, .int l2), (3, .int l3), (4, .int l4), (5, .int l5), (7, .int l7), (8, .int l8)]) (h : fL_holds_b86 S0 (fL_holds_b16 S0 l1 n) l1 l2 l3 l4 l5 l7 l8 k0 k1 = some (rr)), WI p l e (headSpec wsL_holds rL_holds).room s m args below meth cd G rr S0 M0 H locs (F0 m 86 ls [.int k0, .int k1]) := by
        intro H locs hW hS ls l1 l2 l3 l4 l5 l7 l8 k0 k1 hl h
        unfold fL_holds_b86 at h
        refine lv_iadd hx hb dL_holds_86 ?_
        obtain ⟨x_1, ex_1, h⟩ := nam_e h
        refine lv_ni ex_1 ?_
        refine lv_istore (lv' := [(6, .int x_1), (0, .ref (gad G 154)), (1, .int l1), (2, .int l2), (3, .int l3), (4, .int l4), (5, .int l5), (7, .int l7), (8, .int l8)]) hx hb dL_holds_87 hl (by decide) rfl (fun ls hl => ?_)
        refine lv_iload hx hb dL_holds_89 (lv_at hl 8 rfl) ?_
        refine lv_iconst (v := 1) hx hb dL_holds_91 (by decide) ?_
        refine lv_icmp_lt (tgt := 175) hx hb dL_holds_92 (by decide) (fun c_2 => ?_) (fun c_2 => ?_)
        · have h := ite_t c_2 h
          exact B175 _ _ hW hS ls (lv_sub hl [] rfl) h
        · have h := ite_f c_2 h
          refine lv_aload_n hx hb dL_holds_95 rfl (lv_at hl 1 rfl) ?_
          refine lv_aload_n hx hb dL_holds_96 rfl (lv_at hl 1 rfl) ?_
          refine lv_iload hx hb dL_holds_97 (lv_at hl 7 rfl) ?_
          refine lv_iconst (v := 0) hx hb dL_holds_99 (by decide) ?_
          obtain ⟨r_3, e_4, h⟩ := bnd_e h
          refine kV_I (As := [.int l7, .int 0]) (rest := [.ref (gad G 154)]) ⟨hx, hb, hml, hown, hts⟩ (tX5_camper l G S0 M0 l7 0 r_3 e_4) (cwV 2 hts gL_holds_X5_camper rfl rfl rfl ⟨rfl, hdX5_camper⟩ ⟨Nat.le_of_ble_eq_true rfl, Nat.le_of_ble_eq_true rfl⟩) (va_recv hK.1 hW.1 (ci := 5) (q0 := 154) rfl lkT) hK hW hS hA rfl hl.1 rfl (Nat.le_of_ble_eq_true rfl) dL_holds_100 ⟨Nat.zero_le _, Nat.zero_le _⟩ (fun H locs hW hS => ?_)
          refine lv_aload_n hx hb dL_holds_103 rfl (lv_at hl 1 rfl) ?_
          refine lv_iload hx hb dL_holds_104 (lv_at hl 7 rfl) ?_
          refine lv_iconst (v := 1) hx hb dL_holds_106 (by decide) ?_
          obtain ⟨r_5, e_6, h⟩ := bnd_e h
          refine kV_I (As := [.int l7, .int 1]) (rest := [.int r_3, .ref (gad G 154)]) ⟨hx, hb, hml, hown, hts⟩ (tX5_camper l G S0 M0 l7 1 r_5 e_6) (cwV 2 hts gL_holds_X5_camper rfl rfl rfl ⟨rfl, hdX5_camper⟩ ⟨Nat.le_of_ble_eq_true rfl, Nat.le_of_ble_eq_true rfl⟩) (va_recv hK.1 hW.1 (ci := 5) (q0 := 154) rfl lkT) hK hW hS hA rfl hl.1 rfl (Nat.le_of_ble_eq_true rfl) dL_holds_107 ⟨Nat.zero_le _, Nat.zero_le _⟩ (fun H locs hW hS => ?_)
          refine lv_iconst (v := 0) hx hb dL_holds_110 (by decide) ?_
          obtain ⟨r_7, e_8, h⟩ := bnd_e h
          refine kV_I (As := [.int r_3, .int r_5, .int 0]) (rest := []) ⟨hx, hb, hml, hown, hts⟩ (tX5_plot l G S0 M0 r_3 r_5 0 r_7 e_8) (cwV 3 hts gL_holds_X5_plot rfl rfl rfl ⟨rfl, hdX5_plot⟩ ⟨Nat.le_of_ble_eq_true rfl, Nat.le_of_ble_eq_true rfl⟩) (va_recv hK.1 hW.1 (ci := 5) (q0 := 154) rfl lkT) hK hW hS hA rfl hl.1 rfl (Nat.le_of_ble_eq_true rfl) dL_holds_111 ⟨Nat.zero_le _, Nat.zero_le _⟩ (fun H locs hW hS => ?_)
          refine lv_iload hx hb dL_holds_114 (lv_at hl 7 rfl) ?_
          refine lv_icmp_ne (tgt := 175) hx hb dL_holds_116 (by decide) (fun c_9 => ?_) (fun c_9 => ?_)
          · have h := ite_f c_9 h
            exact B175 _ _ hW hS ls (lv_sub hl [] rfl) h
          · have h := ite_t c_9 h
            refine lv_aload_n hx hb dL_holds_119 rfl (lv_at hl 1 rfl) ?_
            refine lv_iload hx hb dL_holds_120 (lv_at hl 7 rfl) ?_
            refine lv_iconst (v := 5) hx hb dL_holds_122 (by decide) ?_
            obtain ⟨r_10, e_11, h⟩ := bnd_e h
            refine kV_I (As := [.int l7, .int 5]) (rest := []) ⟨hx, hb, hml, hown, hts⟩ (tX5_camper l G S0 M0 l7 5 r_10 e_11) (cwV 2 hts gL_holds_X5_camper rfl rfl rfl ⟨rfl, hdX5_camper⟩ ⟨Nat.le_of_ble_eq_true rfl, Nat.le_of_ble_eq_true rfl⟩) (va_recv hK.1 hW.1 (ci := 5) (q0 := 154) rfl lkT) hK hW hS hA rfl hl.1 rfl (Nat.le_of_ble_eq_true rfl) dL_holds_123 ⟨Nat.zero_le _, Nat.zero_le _⟩ (fun H locs hW hS => ?_)
            refine lv_aload_n hx hb dL_holds_126 rfl (lv_at hl 1 rfl) ?_
            refine lv_iconst (v := 0) hx hb dL_holds_127 (by decide) ?_
            obtain ⟨r_12, e_13, h⟩ := bnd_e h
            refine kV_I (As := [.int 0]) (rest := [.int r_10]) ⟨hx, hb, hml, hown, hts⟩ (tX5_count l G S0 M0 0 r_12 e_13) (cwV 1 hts gL_holds_X5_count rfl rfl rfl ⟨rfl, hdX5_count⟩ ⟨Nat.le_of_ble_eq_true rfl, Nat.le_of_ble_eq_true rfl⟩) (va_recv hK.1 hW.1 (ci := 5) (q0 := 154) rfl lkT) hK hW hS hA rfl hl.1 rfl (Nat.le_of_ble_eq_true rfl) dL_holds_128 ⟨Nat.zero_le _, Nat.zero_le _⟩ (fun H locs hW hS => ?_)
            refine lv_icmp_ge (tgt := 175) hx hb dL_holds_131 (by decide) (fun c_14 => ?_) (fun c_14 => ?_)
            · have h := ite_t c_14 h
              exact B175 _ _ hW hS ls (lv_sub hl [] rfl) h
            · have h := ite_f c_14 h
              refine lv_aload_n hx hb dL_holds_134 rfl (lv_at hl 1 rfl) ?_
              refine lv_iload hx hb dL_holds_135 (lv_at hl 7 rfl) ?_
              refine lv_iload hx hb dL_holds_137 (lv_at hl 8 rfl) ?_
              refine lv_iconst (v := 0) hx hb dL_holds_139 (by decide) ?_
              obtain ⟨r_15, e_16, h⟩ := bnd_e h
              refine kV_I (As := [.int l7, .int l8, .int 0]) (rest := []) ⟨hx, hb, hml, hown, hts⟩ (tX5_plotOf l G S0 M0 l7 l8 0 r_15 e_16) (cwV 3 hts gL_holds_X5_plotOf rfl rfl rfl ⟨rfl, hdX5_plotOf⟩ ⟨Nat.le_of_ble_eq_true rfl, Nat.le_of_ble_eq_true rfl⟩) (va_recv hK.1 hW.1 (ci := 5) (q0 := 154) rfl lkT) hK hW hS hA rfl hl.1 rfl (Nat.le_of_ble_eq_true rfl) dL_holds_140 ⟨Nat.zero_le _, Nat.zero_le _⟩ (fun H locs hW hS => ?_)
              refine lv_bipush (v := (-5)) hx hb dL_holds_143 (by decide) ?_
              refine lv_icmp_ne (tgt := 175) hx hb dL_holds_145 (by decide) (fun c_17 => ?_) (fun c_17 => ?_)
              · have h := ite_f c_17 h
                exact B175 _ _ hW hS ls (lv_sub hl [] rfl) h
              · have h := ite_t c_17 h
                refine lv_aload_n hx hb dL_holds_148 rfl (lv_at hl 1 rfl) ?_
                refine lv_iload hx hb dL_holds_149 (lv_at hl 7 rfl) ?_
                refine lv_aload_n hx hb dL_holds_151 rfl (lv_at hl 1 rfl) ?_
                refine lv_iload hx hb dL_holds_152 (lv_at hl 7 rfl) ?_
                refine lv_iconst (v := 0) hx hb dL_holds_154 (by decide) ?_
                obtain ⟨r_18, e_19, h⟩ := bnd_e h
                refine kV_I (As := [.int l7, .int 0]) (rest := [.int l7, .ref (gad G 154)]) ⟨hx, hb, hml, hown, hts⟩ (tX5_camper l G S0 M0 l7 0 r_18 e_19) (cwV 2 hts gL_holds_X5_camper rfl rfl rfl ⟨rfl, hdX5_camper⟩ ⟨Nat.le_of_ble_eq_true rfl, Nat.le_of_ble_eq_true rfl⟩) (va_recv hK.1 hW.1 (ci := 5) (q0 := 154) rfl lkT) hK hW hS hA rfl hl.1 rfl (Nat.le_of_ble_eq_true rfl) dL_holds_155 ⟨Nat.zero_le _, Nat.zero_le _⟩ (fun H locs hW hS => ?_)
                refine lv_aload_n hx hb dL_holds_158 rfl (lv_at hl 1 rfl) ?_
                refine lv_iload hx hb dL_holds_159 (lv_at hl 7 rfl) ?_
                refine lv_iconst (v := 1) hx hb dL_holds_161 (by decide) ?_
                obtain ⟨r_20, e_21, h⟩ := bnd_e h
                refine kV_I (As := [.int l7, .int 1]) (rest := [.int r_18, .int l7, .ref (gad G 154)]) ⟨hx, hb, hml, hown, hts⟩ (tX5_camper l G S0 M0 l7 1 r_20 e_21) (cwV 2 hts gL_holds_X5_camper rfl rfl rfl ⟨rfl, hdX5_camper⟩ ⟨Nat.le_of_ble_eq_true rfl, Nat.le_of_ble_eq_true rfl⟩) (va_recv hK.1 hW.1 (ci := 5) (q0 := 154) rfl lkT) hK hW hS hA rfl hl.1 rfl (Nat.le_of_ble_eq_true rfl) dL_holds_162 ⟨Nat.zero_le _, Nat.zero_le _⟩ (fun H locs hW hS => ?_)
                refine lv_iconst (v := 1) hx hb dL_holds_165 (by decide) ?_
                refine lv_iconst (v := 0) hx hb dL_holds_166 (by decide) ?_
                obtain ⟨r_22, e_23, h⟩ := bnd_e h
                refine kV_I (As := [.int l7, .int r_18, .int r_20, .int 1, .int 0]) (rest := []) ⟨hx, hb, hml, hown, hts⟩ (tX5_way l G S0 M0 l7 r_18 r_20 1 0 r_22 e_23) (cwV 5 hts gL_holds_X5_way rfl rfl rfl ⟨rfl, hdX5_way⟩ ⟨Nat.le_of_ble_eq_true rfl, Nat.le_of_ble_eq_true rfl⟩) (va_recv hK.1 hW.1 (ci := 5) (q0 := 154) rfl lkT) hK hW hS hA rfl hl.1 rfl (Nat.le_of_ble_eq_true rfl) dL_holds_167 ⟨Nat.zero_le _, Nat.zero_le _⟩ (fun H locs hW hS => ?_)
                refine lv_bipush (v := (-5)) hx hb dL_holds_170 (by decide) ?_
                refine lv_icmp_eq (tgt := 177) hx hb dL_holds_172 (by decide) (fun c_24 => ?_) (fun c_24 => ?_)
                · have h := ite_t c_24 h
                  exact B177 _ _ hW hS ls l1 l2 l3 l4 l5 x_1 l7 (lv_sub hl [1, 2, 3, 4, 5, 6, 0, 7] rfl) h
                · have h := ite_f c_24 h
                  exact B175 _ _ hW hS ls (lv_sub hl [] rfl) h
      intro H locs hW hS ls l1 l2 l3 l4 l5 l6 l7 hl h
      rw [fL_holds_b16] at h
      refine lv_iload hx hb dL_holds_16 (lv_at hl 7 rfl) ?_
      refine lv_aload_n hx hb dL_holds_18 rfl (lv_at hl 0 rfl) ?_
      refine lv_iconst (v := 1) hx hb dL_holds_19 (by decide) ?_
      obtain ⟨r_1, e_2, h⟩ := bnd_e h
      refine kV_I (As := [.int 1]) (rest := [.int l7]) ⟨hx, hb, hml, hown, hts⟩ (tX5_count l G S0 M0 1 r_1 e_2) (cwV 1 hts gL_holds_X5_count rfl rfl rfl ⟨rfl, hdX5_count⟩ ⟨Nat.le_of_ble_eq_true rfl, Nat.le_of_ble_eq_true rfl⟩) (va_recv hK.1 hW.1 (ci := 5) (q0 := 154) rfl lkT) hK hW hS hA rfl hl.1 rfl (Nat.le_of_ble_eq_true rfl) dL_holds_20 ⟨Nat.zero_le _, Nat.zero_le _⟩ (fun H locs hW hS => ?_)
      refine lv_icmp_ge (tgt := 183) hx hb dL_holds_23 (by decide) (fun c_3 => ?_) (fun c_3 => ?_)
      · have h := ite_t c_3 h
        refine lv_iload_n hx hb dL_holds_183 rfl (lv_at hl 1 rfl) ?_
        refine lv_bipush (v := 64) hx hb dL_holds_184 (by decide) ?_
        obtain ⟨r_4, e_5, h⟩ := bnd_e h
        refine kS_I (As := [.int l1, .int 64]) (rest := []) ⟨hx, hb, hml, hown, hts⟩ (tL_low l G S0 M0 l1 64 r_4 e_5) (va_cwS 2 hts gL_holds_L_low rfl rfl rfl hdL_low ⟨Nat.le_of_ble_eq_true rfl, Nat.le_of_ble_eq_true rfl⟩) hK hW hS hA rfl hl.1 rfl (Nat.le_of_ble_eq_true rfl) dL_holds_186 ⟨Nat.zero_le _, Nat.zero_le _⟩ (fun H locs hW hS => ?_)
        refine lv_istore (lv' := [(7, .int r_4), (0, .ref (gad G 154)), (1, .int l1), (2, .int l2), (3, .int l3), (4, .int l4), (5, .int l5), (6, .int l6)]) hx hb dL_holds_189 hl (by decide) rfl (fun ls hl => ?_)
        refine lv_iload_n hx hb dL_holds_191 rfl (lv_at hl 2 rfl) ?_
        refine lv_bipush (v := 6) hx hb dL_holds_192 (by decide) ?_
        refine lv_ishr hx hb dL_holds_194 ?_
        refine lv_bipush (v := 64) hx hb dL_holds_195 (by decide) ?_
        obtain ⟨r_6, e_7, h⟩ := bnd_e h
        refine kS_I (As := [.int (((l1 : Int32) >>> ((6 : Int32) &&& 31))), .int 64]) (rest := []) ⟨hx, hb, hml, hown, hts⟩ (tL_low l G S0 M0 (((l1 : Int32) >>> ((6 : Int32) &&& 31))) 64 r_6 e_7) (va_cwS 2 hts gL_holds_L_low rfl rfl rfl hdL_low ⟨Nat.le_of_ble_eq_true rfl, Nat.le_of_ble_eq_true rfl⟩) hK hW hS hA rfl hl.1 rfl (Nat.le_of_ble_eq_true rfl) dL_holds_197 ⟨Nat.zero_le _, Nat.zero_le _⟩ (fun H locs hW hS => ?_)
        refine lv_istore (lv' := [(8, .int r_6), (7, .int r_4), (0, .ref (gad G 154)), (1, .int l1), (2, .int l2), (3, .int l3), (4, .int l4), (5, .int l5), (6, .int l6)]) hx hb dL_holds_200 hl (by decide) rfl (fun ls hl => ?_)
        refine lv_aload_n hx hb dL_holds_202 rfl (lv_at hl 2 rfl) ?_
        refine lv_iload hx hb dL_holds_203 (lv_at hl 1 rfl) ?_
        refine lv_iload hx hb dL_holds_205 (lv_at hl 0 rfl) ?_
        refine lv_iconst (v := 1) hx hb dL_holds_207 (by decide) ?_
        obtain ⟨r_8, e_9, h⟩ := bnd_e h
        refine kV_I (As := [.int r_4, .int r_6, .int 1]) (rest := []) ⟨hx, hb, hml, hown, hts⟩ (tX5_plot l G S0 M0 r_4 r_6 1 r_8 e_9) (cwV 3 hts gL_holds_X5_plot rfl rfl rfl ⟨rfl, hdX5_plot⟩ ⟨Nat.le_of_ble_eq_true rfl, Nat.le_of_ble_eq_true rfl⟩) (va_recv hK.1 hW.1 (ci := 5) (q0 := 154) rfl lkT) hK hW hS hA rfl hl.1 rfl (Nat.le_of_ble_eq_true rfl) dL_holds_208 ⟨Nat.zero_le _, Nat.zero_le _⟩ (fun H locs hW hS => ?_)
        refine lv_istore (lv' := [(9, .int r_8), (8, .int r_6), (7, .int r_4), (0, .ref (gad G 154)), (1, .int l1), (2, .int l2), (3, .int l3), (4, .int l4), (5, .int l5), (6, .int l6)]) hx hb dL_holds_211 hl (by decide) rfl (fun ls hl => ?_)
        refine lv_aload_n hx hb dL_holds_213 rfl (lv_at hl 3 rfl) ?_
        refine lv_iload hx hb dL_holds_214 (lv_at hl 2 rfl) ?_
        refine lv_iload hx hb dL_holds_216 (lv_at hl 1 rfl) ?_
        refine lv_iconst (v := 4) hx hb dL_holds_218 (by decide) ?_
        obtain ⟨r_10, e_11, h⟩ := bnd_e h
        refine kV_I (As := [.int r_4, .int r_6, .int 4]) (rest := []) ⟨hx, hb, hml, hown, hts⟩ (tX5_plot l G S0 M0 r_4 r_6 4 r_10 e_11) (cwV 3 hts gL_holds_X5_plot rfl rfl rfl ⟨rfl, hdX5_plot⟩ ⟨Nat.le_of_ble_eq_true rfl, Nat.le_of_ble_eq_true rfl⟩) (va_recv hK.1 hW.1 (ci := 5) (q0 := 154) rfl lkT) hK hW hS hA rfl hl.1 rfl (Nat.le_of_ble_eq_true rfl) dL_holds_219 ⟨Nat.zero_le _, Nat.zero_le _⟩ (fun H locs hW hS => ?_)
        refine lv_aload_n hx hb dL_holds_222 rfl (lv_at hl 3 rfl) ?_
        refine lv_iload hx hb dL_holds_223 (lv_at hl 2 rfl) ?_
        refine lv_iload hx hb dL_holds_225 (lv_at hl 1 rfl) ?_
        refine lv_iconst (v := 2) hx hb dL_holds_227 (by decide) ?_
        obtain ⟨r_12, e_13, h⟩ := bnd_e h
        refine kV_I (As := [.int r_4, .int r_6, .int 2]) (rest := [.int r_10]) ⟨hx, hb, hml, hown, hts⟩ (tX5_plot l G S0 M0 r_4 r_6 2 r_12 e_13) (cwV 3 hts gL_holds_X5_plot rfl rfl rfl ⟨rfl, hdX5_plot⟩ ⟨Nat.le_of_ble_eq_true rfl, Nat.le_of_ble_eq_true rfl⟩) (va_recv hK.1 hW.1 (ci := 5) (q0 := 154) rfl lkT) hK hW hS hA rfl hl.1 rfl (Nat.le_of_ble_eq_true rfl) dL_holds_228 ⟨Nat.zero_le _, Nat.zero_le _⟩ (fun H locs hW hS => ?_)
        refine lv_isub hx hb dL_holds_231 ?_
        refine lv_iconst (v := 1) hx hb dL_holds_232 (by decide) ?_
        refine lv_iadd hx hb dL_holds_233 ?_
        obtain ⟨x_14, ex_14, h⟩ := nam_e h
        refine lv_ni ex_14 ?_
        refine lv_istore (lv' := [(10, .int x_14), (9, .int r_8), (8, .int r_6), (7, .int r_4), (0, .ref (gad G 154)), (1, .int l1), (2, .int l2), (3, .int l3), (4, .int l4), (5, .int l5), (6, .int l6)]) hx hb dL_holds_234 hl (by decide) rfl (fun ls hl => ?_)
        refine lv_aload_n hx hb dL_holds_236 rfl (lv_at hl 4 rfl) ?_
        refine lv_iload hx hb dL_holds_237 (lv_at hl 3 rfl) ?_
        refine lv_iload hx hb dL_holds_239 (lv_at hl 2 rfl) ?_
        refine lv_iconst (v := 5) hx hb dL_holds_241 (by decide) ?_
        obtain ⟨r_15, e_16, h⟩ := bnd_e h
        refine kV_I (As := [.int r_4, .int r_6, .int 5]) (rest := []) ⟨hx, hb, hml, hown, hts⟩ (tX5_plot l G S0 M0 r_4 r_6 5 r_15 e_16) (cwV 3 hts gL_holds_X5_plot rfl rfl rfl ⟨rfl, hdX5_plot⟩ ⟨Nat.le_of_ble_eq_true rfl, Nat.le_of_ble_eq_true rfl⟩) (va_recv hK.1 hW.1 (ci := 5) (q0 := 154) rfl lkT) hK hW hS hA rfl hl.1 rfl (Nat.le_of_ble_eq_true rfl) dL_holds_242 ⟨Nat.zero_le _, Nat.zero_le _⟩ (fun H locs hW hS => ?_)
        refine lv_aload_n hx hb dL_holds_245 rfl (lv_at hl 4 rfl) ?_
        refine lv_iload hx hb dL_holds_246 (lv_at hl 3 rfl) ?_
        refine lv_iload hx hb dL_holds_248 (lv_at hl 2 rfl) ?_
        refine lv_iconst (v := 3) hx hb dL_holds_250 (by decide) ?_
        obtain ⟨r_17, e_18, h⟩ := bnd_e h
        refine kV_I (As := [.int r_4, .int r_6, .int 3]) (rest := [.int r_15]) ⟨hx, hb, hml, hown, hts⟩ (tX5_plot l G S0 M0 r_4 r_6 3 r_17 e_18) (cwV 3 hts gL_holds_X5_plot rfl rfl rfl ⟨rfl, hdX5_plot⟩ ⟨Nat.le_of_ble_eq_true rfl, Nat.le_of_ble_eq_true rfl⟩) (va_recv hK.1 hW.1 (ci := 5) (q0 := 154) rfl lkT) hK hW hS hA rfl hl.1 rfl (Nat.le_of_ble_eq_true rfl) dL_holds_251 ⟨Nat.zero_le _, Nat.zero_le _⟩ (fun H locs hW hS => ?_)
        refine lv_isub hx hb dL_holds_254 ?_
        refine lv_iconst (v := 1) hx hb dL_holds_255 (by decide) ?_
        refine lv_iadd hx hb dL_holds_256 ?_
        obtain ⟨x_19, ex_19, h⟩ := nam_e h
        refine lv_ni ex_19 ?_
        refine lv_istore (lv' := [(11, .int x_19), (10, .int x_14), (9, .int r_8), (8, .int r_6), (7, .int r_4), (0, .ref (gad G 154)), (1, .int l1), (2, .int l2), (3, .int l3), (4, .int l4), (5, .int l5), (6, .int l6)]) hx hb dL_holds_257 hl (by decide) rfl (fun ls hl => ?_)
        refine lv_iload hx hb dL_holds_259 (lv_at hl 1 rfl) ?_
        refine lv_iload hx hb dL_holds_261 (lv_at hl 0 rfl) ?_
        refine lv_imul hx hb dL_holds_263 ?_
        refine lv_sipush (v := 4096) hx hb dL_holds_264 (by decide) ?_
        refine lv_iload hx hb dL_holds_267 (lv_at hl 2 rfl) ?_
        refine lv_ishr hx hb dL_holds_269 ?_
        refine lv_icmp_ne (tgt := 349) hx hb dL_holds_270 (by decide) (fun c_20 => ?_) (fun c_20 => ?_)
        · have h := ite_f c_20 h
          exact B349 _ _ hW hS ls l2 l3 l4 l5 l6 r_4 r_6 r_8 (lv_sub hl [5, 7, 8, 9, 10, 11, 4, 3, 2] rfl) h
        · have h := ite_t c_20 h
          refine lv_iload hx hb dL_holds_273 (lv_at hl 1 rfl) ?_
          refine lv_iload hx hb dL_holds_275 (lv_at hl 0 rfl) ?_
          refine lv_icmp_eq (tgt := 289) hx hb dL_holds_277 (by decide) (fun c_21 => ?_) (fun c_21 => ?_)
          · have h := ite_t c_21 h
            exact B289 _ _ hW hS ls l2 l3 l4 l5 l6 r_4 r_6 r_8 (lv_sub hl [5, 7, 8, 9, 10, 11, 4, 3, 2] rfl) h
          · have h := ite_f c_21 h
            refine lv_iconst (v := 2) hx hb dL_holds_280 (by decide) ?_
            refine lv_iload hx hb dL_holds_281 (lv_at hl 1 rfl) ?_
            refine lv_imul hx hb dL_holds_283 ?_
            refine lv_iload hx hb dL_holds_284 (lv_at hl 0 rfl) ?_
            refine lv_icmp_ne (tgt := 349) hx hb dL_holds_286 (by decide) (fun c_22 => ?_) (fun c_22 => ?_)
            · have h := ite_f c_22 h
              exact B349 _ _ hW hS ls l2 l3 l4 l5 l6 r_4 r_6 r_8 (lv_sub hl [5, 7, 8, 9, 10, 11, 4, 3, 2] rfl) h
            · have h := ite_t c_22 h
              exact B289 _ _ hW hS ls l2 l3 l4 l5 l6 r_4 r_6 r_8 (lv_sub hl [5, 7, 8, 9, 10, 11, 4, 3, 2] rfl) h
      · have h := ite_f c_3 h
        refine lv_aload_n hx hb dL_holds_26 rfl (lv_at hl 0 rfl) ?_
        refine lv_iload hx hb dL_holds_27 (lv_at hl 7 rfl) ?_
        refine lv_iconst (v := 2) hx hb dL_holds_29 (by decide) ?_
        obtain ⟨r_23, e_24, h⟩ := bnd_e h
        refine kV_I (As := [.int l7, .int 2]) (rest := []) ⟨hx, hb, hml, hown, hts⟩ (tX5_camper l G S0 M0 l7 2 r_23 e_24) (cwV 2 hts gL_holds_X5_camper rfl rfl rfl ⟨rfl, hdX5_camper⟩ ⟨Nat.le_of_ble_eq_true rfl, Nat.le_of_ble_eq_true rfl⟩) (va_recv hK.1 hW.1 (ci := 5) (q0 := 154) rfl lkT) hK hW hS hA rfl hl.1 rfl (Nat.le_of_ble_eq_true rfl) dL_holds_30 ⟨Nat.zero_le _, Nat.zero_le _⟩ (fun H locs hW hS => ?_)
        refine lv_istore (lv' := [(8, .int r_23), (0, .ref (gad G 154)), (1, .int l1), (2, .int l2), (3, .int l3), (4, .int l4), (5, .int l5), (6, .int l6), (7, .int l7)]) hx hb dL_holds_33 hl (by decide) rfl (fun ls hl => ?_)
        refine lv_iload hx hb dL_holds_35 (lv_at hl 0 rfl) ?_
        refine lv_iconst (v := (-1)) hx hb dL_holds_37 (by decide) ?_
        refine lv_icmp_eq (tgt := 177) hx hb dL_holds_38 (by decide) (fun c_25 => ?_) (fun c_25 => ?_)
        · have h := ite_t c_25 h
          exact B177 _ _ hW hS ls l1 l2 l3 l4 l5 l6 l7 (lv_sub hl [1, 2, 3, 4, 5, 6, 7, 8] rfl) h
        · have h := ite_f c_25 h
          refine lv_iinc (v := (l3 + 1)) (lv' := [(3, .int ((l3 + 1))), (8, .int r_23), (0, .ref (gad G 154)), (1, .int l1), (2, .int l2), (4, .int l4), (5, .int l5), (6, .int l6), (7, .int l7)]) hx hb dL_holds_41 hl (k := 4) rfl rfl (by decide) rfl (fun ls hl => ?_)
          refine lv_iload_n hx hb dL_holds_44 rfl (lv_at hl 4 rfl) ?_
          refine lv_aload_n hx hb dL_holds_45 rfl (lv_at hl 2 rfl) ?_
          refine lv_iload hx hb dL_holds_46 (lv_at hl 8 rfl) ?_
          refine lv_iconst (v := 3) hx hb dL_holds_48 (by decide) ?_
          obtain ⟨r_26, e_27, h⟩ := bnd_e h
          refine kV_I (As := [.int l7, .int 3]) (rest := [.int l2]) ⟨hx, hb, hml, hown, hts⟩ (tX5_camper l G S0 M0 l7 3 r_26 e_27) (cwV 2 hts gL_holds_X5_camper rfl rfl rfl ⟨rfl, hdX5_camper⟩ ⟨Nat.le_of_ble_eq_true rfl, Nat.le_of_ble_eq_true rfl⟩) (va_recv hK.1 hW.1 (ci := 5) (q0 := 154) rfl lkT) hK hW hS hA rfl hl.1 rfl (Nat.le_of_ble_eq_true rfl) dL_holds_49 ⟨Nat.zero_le _, Nat.zero_le _⟩ (fun H locs hW hS => ?_)
          refine lv_iadd hx hb dL_holds_52 ?_
          obtain ⟨x_28, ex_28, h⟩ := nam_e h
          refine lv_ni ex_28 ?_
          refine lv_istore_n (lv' := [(2, .int x_28), (3, .int ((l3 + 1))), (8, .int r_23), (0, .ref (gad G 154)), (1, .int l1), (4, .int l4), (5, .int l5), (6, .int l6), (7, .int l7)]) hx hb dL_holds_53 rfl hl (by decide) rfl (fun ls hl => ?_)
          refine lv_iload hx hb dL_holds_54 (lv_at hl 5 rfl) ?_
          refine lv_iload hx hb dL_holds_56 (lv_at hl 2 rfl) ?_
          refine lv_iadd hx hb dL_holds_58 ?_
          obtain ⟨x_29, ex_29, h⟩ := nam_e h
          refine lv_ni ex_29 ?_
          refine lv_istore (lv' := [(4, .int x_29), (2, .int x_28), (3, .int ((l3 + 1))), (8, .int r_23), (0, .ref (gad G 154)), (1, .int l1), (5, .int l5), (6, .int l6), (7, .int l7)]) hx hb dL_holds_59 hl (by decide) rfl (fun ls hl => ?_)
          refine lv_iload hx hb dL_holds_61 (lv_at hl 6 rfl) ?_
          refine lv_aload_n hx hb dL_holds_63 rfl (lv_at hl 4 rfl) ?_
          refine lv_iload hx hb dL_holds_64 (lv_at hl 8 rfl) ?_
          refine lv_iconst (v := 4) hx hb dL_holds_66 (by decide) ?_
          obtain ⟨r_30, e_31, h⟩ := bnd_e h
          refine kV_I (As := [.int l7, .int 4]) (rest := [.int l5]) ⟨hx, hb, hml, hown, hts⟩ (tX5_camper l G S0 M0 l7 4 r_30 e_31) (cwV 2 hts gL_holds_X5_camper rfl rfl rfl ⟨rfl, hdX5_camper⟩ ⟨Nat.le_of_ble_eq_true rfl, Nat.le_of_ble_eq_true rfl⟩) (va_recv hK.1 hW.1 (ci := 5) (q0 := 154) rfl lkT) hK hW hS hA rfl hl.1 rfl (Nat.le_of_ble_eq_true rfl) dL_holds_67 ⟨Nat.zero_le _, Nat.zero_le _⟩ (fun H locs hW hS => ?_)
          refine lv_iadd hx hb dL_holds_70 ?_
          obtain ⟨x_32, ex_32, h⟩ := nam_e h
          refine lv_ni ex_32 ?_
          refine lv_istore (lv' := [(5, .int x_32), (4, .int x_29), (2, .int x_28), (3, .int ((l3 + 1))), (8, .int r_23), (0, .ref (gad G 154)), (1, .int l1), (6, .int l6), (7, .int l7)]) hx hb dL_holds_71 hl (by decide) rfl (fun ls hl => ?_)
          refine lv_iload hx hb dL_holds_73 (lv_at hl 7 rfl) ?_
          refine lv_iload hx hb dL_holds_75 (lv_at hl 4 rfl) ?_
          refine lv_iconst (v := 1) hx hb dL_holds_77 (by decide) ?_
          refine lv_icmp_le (tgt := 85) hx hb dL_holds_78 (by decide) (fun c_33 => ?_) (fun c_33 => ?_)
          · have h := ite_t c_33 h
            refine lv_iconst (v := 0) hx hb dL_holds_85 (by decide) ?_
            exact B86 _ _ hW hS ls l1 x_28 ((l3 + 1)) x_29 x_32 l7 r_23 0 l6 (lv_sub hl [5, 6, 2, 3, 1, 0, 8, 4] rfl) h
          · have h := ite_f c_33 h
            refine lv_iconst (v := 1) hx hb dL_holds_81 (by decide) ?_
            refine lv_goto (tgt := 86) hx hb dL_holds_82 (by decide) ?_
            exact B86 _ _ hW hS ls l1 x_28 ((l3 + 1)) x_29 x_32 l7 r_23 1 l6 (lv_sub hl [5, 6, 2, 3, 1, 0, 8, 4] rfl) h
  unfold fL_holds at h
  refine lv_iconst (v := 0) hx hb dL_holds_0 (by decide) ?_
  refine lv_istore_n (lv' := [(2, .int 0), (0, .ref (gad G 154)), (1, .int p1)]) hx hb dL_holds_1 rfl hl (by decide) rfl (fun ls hl => ?_)
  refine lv_iconst (v := 0) hx hb dL_holds_2 (by decide) ?_
  refine lv_istore_n (lv' := [(3, .int 0), (2, .int 0), (0, .ref (gad G 154)), (1, .int p1)]) hx hb dL_holds_3 rfl hl (by decide) rfl (fun ls hl => ?_)
  refine lv_iconst (v := 0) hx hb dL_holds_4 (by decide) ?_
  refine lv_istore (lv' := [(4, .int 0), (3, .int 0), (2, .int 0), (0, .ref (gad G 154)), (1, .int p1)]) hx hb dL_holds_5 hl (by decide) rfl (fun ls hl => ?_)
  refine lv_iconst (v := 0) hx hb dL_holds_7 (by decide) ?_
  refine lv_istore (lv' := [(5, .int 0), (4, .int 0), (3, .int 0), (2, .int 0), (0, .ref (gad G 154)), (1, .int p1)]) hx hb dL_holds_8 hl (by decide) rfl (fun ls hl => ?_)
  refine lv_iconst (v := 0) hx hb dL_holds_10 (by decide) ?_
  refine lv_istore (lv' := [(6, .int 0), (5, .int 0), (4, .int 0), (3, .int 0), (2, .int 0), (0, .ref (gad G 154)), (1, .int p1)]) hx hb dL_holds_11 hl (by decide) rfl (fun ls hl => ?_)
  refine lv_iconst (v := 0) hx hb dL_holds_13 (by decide) ?_
  refine lv_istore (lv' := [(7, .int 0), (6, .int 0), (5, .int 0), (4, .int 0), (3, .int 0), (2, .int 0), (0, .ref (gad G 154)), (1, .int p1)]) hx hb dL_holds_14 hl (by decide) rfl (fun ls hl => ?_)
  exact B16 fuelN _ _ hW hS ls p1 0 0 0 0 0 0 (lv_sub hl [6, 7, 5, 4, 3, 2, 1, 0] rfl) h
