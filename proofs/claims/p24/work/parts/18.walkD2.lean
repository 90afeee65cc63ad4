abbrev rL_act : Room := { frames := 7, cells := 0, slots := 0, locals := 168 }
set_option maxRecDepth 100000 in
set_option maxHeartbeats 8000000 in
theorem tL_act (l : Launch) (G : WG) (S0 M0 : St) (p1 : Int32) (p2 : Int32) (rr : Int32) (S' : St) (h : fL_act S0 p1 p2 = some (rr, S')) : CtI l yL_act wsL_act rL_act G [.ref (gad G 154), .int p1, .int p2] S0 M0 rr S' M0 := by
  refine Met.ofW (cc := cL_act) (maxL := 6) (ret := (some .int)) (by decide) rfl ?_
  intro p e s m args below meth cd s₁ B hml hv
  obtain ⟨hargs, hK, hW⟩ := hv
  have hx := B.exec
  have hb := B.bytes
  have hr := B.returns
  have hts := atoms_spec (ws := wsL_act) B.pre
  have hown : s.vm.findClass RL = some m.cls := findClass_of_methodNamed B.named
  have hlocks := B.notSynchronized
  have hA : ∀ q, Aw G q → Aw G q := fun _ h => h
  have hS : va_S (Aw G) s.heap s.heap [] := va_S.rf
  have he0 : entryFrame m args 6 = F0 m 0 ((lg_sl ([.ref (gad G 154), .int p1, .int p2]) ++ List.replicate (6 - (lg_sl ([.ref (gad G 154), .int p1, .int p2])).length) Slot.unset).toArray) [] := by rw [hargs]; exact lg_entry_eq _ _ _
  have hl := lv_entry ([.ref (gad G 154), .int p1, .int p2]) (n := 6) (Nat.le_of_ble_eq_true rfl)
  rw [he0]
  generalize (lg_sl ([.ref (gad G 154), .int p1, .int p2]) ++ List.replicate (6 - (lg_sl ([.ref (gad G 154), .int p1, .int p2])).length) Slot.unset).toArray = ls at hl ⊢
  have hl : lv_has ls 6 [(0, .ref (gad G 154)), (1, .int p1), (2, .int p2)] := hl
  have B153 : ∀ (H : Heap) (locs : List Loc) (S : St) (_ : WD G S M0 H) (_ : va_S (Aw G) s.heap H locs) (ls : Array Slot) (l4 : Int32) (k0 : Int32) (_ : lv_has ls 6 [(4, .int l4)]) (h : fL_act_b153 S l4 k0 = some (rr, S')), WI p l e (headSpec wsL_act rL_act).room s m args below meth cd G rr S' M0 H locs (F0 m 153 ls [.int k0, .ref (gad G 154)]) := by
    intro H locs S hW hS ls l4 k0 hl h
    unfold fL_act_b153 at h
    refine lv_iload hx hb dL_act_153 (lv_at hl 0 rfl) ?_
    obtain ⟨r_1, S_2, e_3, h⟩ := bd2_e h
    refine kV_I (As := [.int k0, .int l4]) (rest := []) ⟨hx, hb, hml, hown, hts⟩ (tX5_come l G S M0 k0 l4 r_1 S_2 e_3) (cwV 2 hts gL_act_X5_come rfl rfl rfl ⟨rfl, hdX5_come⟩ ⟨Nat.le_of_ble_eq_true rfl, Nat.le_of_ble_eq_true rfl⟩) (va_recv hK.1 hW.1 (ci := 5) (q0 := 154) rfl lkT) hK hW hS hA rfl hl.1 rfl (Nat.le_of_ble_eq_true rfl) dL_act_155 ⟨Nat.zero_le _, Nat.zero_le _⟩ (fun H locs hW hS => ?_)
    obtain ⟨rfl, rfl⟩ := Prod.mk.inj (Option.some.inj h)
    exact W.iret hx hb hr (fun t ht hw => ⟨⟨_, (), rfl, rfl, hW.ret ht⟩, hS.F ht⟩) hS.2.2 dL_act_158
  have B41 : ∀ (H : Heap) (locs : List Loc) (S : St) (_ : WD G S M0 H) (_ : va_S (Aw G) s.heap H locs) (ls : Array Slot) (l1 : Int32) (l2 : Int32) (l3 : Int32) (k0 : Int32) (k1 : Int32) (_ : lv_has ls 6 [(0, .ref (gad G 154)), (1, .int l1), (2, .int l2), (3, .int l3)]) (h : fL_act_b41 S l1 l2 l3 k0 k1 = some (rr, S')), WI p l e (headSpec wsL_act rL_act).room s m args below meth cd G rr S' M0 H locs (F0 m 41 ls [.int k0, .int k1]) := by
    intro H locs S hW hS ls l1 l2 l3 k0 k1 hl h
    unfold fL_act_b41 at h
    obtain ⟨r_1, e_2, h⟩ := bnd_e h
    refine kS_I (As := [.int k1, .int k0]) (rest := []) ⟨hx, hb, hml, hown, hts⟩ (tL_low l G S M0 k1 k0 r_1 e_2) (va_cwS 2 hts gL_act_L_low rfl rfl rfl hdL_low ⟨Nat.le_of_ble_eq_true rfl, Nat.le_of_ble_eq_true rfl⟩) hK hW hS hA rfl hl.1 rfl (Nat.le_of_ble_eq_true rfl) dL_act_41 ⟨Nat.zero_le _, Nat.zero_le _⟩ (fun H locs hW hS => ?_)
    refine lv_istore (lv' := [(4, .int r_1), (0, .ref (gad G 154)), (1, .int l1), (2, .int l2), (3, .int l3)]) hx hb dL_act_44 hl (by decide) rfl (fun ls hl => ?_)
    refine lv_iload_n hx hb dL_act_46 rfl (lv_at hl 2 rfl) ?_
    refine lv_iconst (v := 4) hx hb dL_act_47 (by decide) ?_
    refine lv_ishr hx hb dL_act_48 ?_
    refine lv_aload_n hx hb dL_act_49 rfl (lv_at hl 1 rfl) ?_
    refine lv_iconst (v := 1) hx hb dL_act_50 (by decide) ?_
    obtain ⟨r_3, e_4, h⟩ := bnd_e h
    refine kV_I (As := [.int 1]) (rest := [.int (((l1 : Int32) >>> ((4 : Int32) &&& 31)))]) ⟨hx, hb, hml, hown, hts⟩ (tX5_count l G S M0 1 r_3 e_4) (cwV 1 hts gL_act_X5_count rfl rfl rfl ⟨rfl, hdX5_count⟩ ⟨Nat.le_of_ble_eq_true rfl, Nat.le_of_ble_eq_true rfl⟩) (va_recv hK.1 hW.1 (ci := 5) (q0 := 154) rfl lkT) hK hW hS hA rfl hl.1 rfl (Nat.le_of_ble_eq_true rfl) dL_act_51 ⟨Nat.zero_le _, Nat.zero_le _⟩ (fun H locs hW hS => ?_)
    refine lv_iconst (v := 1) hx hb dL_act_54 (by decide) ?_
    refine lv_iadd hx hb dL_act_55 ?_
    obtain ⟨r_5, e_6, h⟩ := bnd_e h
    refine kS_I (As := [.int (((l1 : Int32) >>> ((4 : Int32) &&& 31))), .int ((r_3 + 1))]) (rest := []) ⟨hx, hb, hml, hown, hts⟩ (tL_low l G S M0 (((l1 : Int32) >>> ((4 : Int32) &&& 31))) ((r_3 + 1)) r_5 e_6) (va_cwS 2 hts gL_act_L_low rfl rfl rfl hdL_low ⟨Nat.le_of_ble_eq_true rfl, Nat.le_of_ble_eq_true rfl⟩) hK hW hS hA rfl hl.1 rfl (Nat.le_of_ble_eq_true rfl) dL_act_56 ⟨Nat.zero_le _, Nat.zero_le _⟩ (fun H locs hW hS => ?_)
    refine lv_istore (lv' := [(5, .int r_5), (4, .int r_1), (0, .ref (gad G 154)), (1, .int l1), (2, .int l2), (3, .int l3)]) hx hb dL_act_59 hl (by decide) rfl (fun ls hl => ?_)
    refine lv_iload_n hx hb dL_act_61 rfl (lv_at hl 3 rfl) ?_
    refine lv_bipush (v := 15) hx hb dL_act_62 (by decide) ?_
    refine lv_iand hx hb dL_act_64 ?_
    by_cases c_7 : Int32.toInt (((l1 : Int32) &&& 15)) < 0 ∨ 13 < Int32.toInt (((l1 : Int32) &&& 15))
    · have h := ite_t c_7 h
      refine lv_tableOut (tgt := 229) hx hb dL_act_65 c_7 (by decide) ?_
      refine lv_aload_n hx hb dL_act_229 rfl (lv_at hl 2 rfl) ?_
      obtain ⟨r_8, S_9, e_10, h⟩ := bd2_e h
      refine kV_I (As := []) (rest := []) ⟨hx, hb, hml, hown, hts⟩ (tX5_clearText l G S M0 r_8 S_9 e_10) (cwV 0 hts gL_act_X5_clearText rfl rfl rfl ⟨rfl, hdX5_clearText⟩ ⟨Nat.le_of_ble_eq_true rfl, Nat.le_of_ble_eq_true rfl⟩) (va_recv hK.1 hW.1 (ci := 5) (q0 := 154) rfl lkT) hK hW hS hA rfl hl.1 rfl (Nat.le_of_ble_eq_true rfl) dL_act_230 ⟨Nat.zero_le _, Nat.zero_le _⟩ (fun H locs hW hS => ?_)
      refine lv_pop hx hb dL_act_233 rfl ?_
      refine lv_aload_n hx hb dL_act_234 rfl (lv_at hl 2 rfl) ?_
      refine lv_bipush (v := 48) hx hb dL_act_235 (by decide) ?_
      refine lv_iload_n hx hb dL_act_237 rfl (lv_at hl 4 rfl) ?_
      refine lv_bipush (v := 10) hx hb dL_act_238 (by decide) ?_
      obtain ⟨r_11, e_12, h⟩ := bnd_e h
      refine kS_I (As := [.int l2, .int 10]) (rest := [.int 48, .ref (gad G 154)]) ⟨hx, hb, hml, hown, hts⟩ (tL_low l G S_9 M0 l2 10 r_11 e_12) (va_cwS 2 hts gL_act_L_low rfl rfl rfl hdL_low ⟨Nat.le_of_ble_eq_true rfl, Nat.le_of_ble_eq_true rfl⟩) hK hW hS hA rfl hl.1 rfl (Nat.le_of_ble_eq_true rfl) dL_act_240 ⟨Nat.zero_le _, Nat.zero_le _⟩ (fun H locs hW hS => ?_)
      refine lv_iadd hx hb dL_act_243 ?_
      refine lv_i2c hx hb dL_act_244 rfl ?_
      obtain ⟨r_13, S_14, e_15, h⟩ := bd2_e h
      refine kV_I (As := [.int ((((48 + r_11)).toUInt32 % 65536).toInt32)]) (rest := []) ⟨hx, hb, hml, hown, hts⟩ (tX5_type l G S_9 M0 ((((48 + r_11)).toUInt32 % 65536).toInt32) r_13 S_14 e_15) (cwV 1 hts gL_act_X5_type rfl rfl rfl ⟨rfl, hdX5_type⟩ ⟨Nat.le_of_ble_eq_true rfl, Nat.le_of_ble_eq_true rfl⟩) (va_recv hK.1 hW.1 (ci := 5) (q0 := 154) rfl lkT) hK hW hS hA rfl hl.1 rfl (Nat.le_of_ble_eq_true rfl) dL_act_245 ⟨Nat.zero_le _, Nat.zero_le _⟩ (fun H locs hW hS => ?_)
      refine lv_pop hx hb dL_act_248 rfl ?_
      refine lv_aload_n hx hb dL_act_249 rfl (lv_at hl 2 rfl) ?_
      refine lv_bipush (v := 44) hx hb dL_act_250 (by decide) ?_
      obtain ⟨r_16, S_17, e_18, h⟩ := bd2_e h
      refine kV_I (As := [.int 44]) (rest := []) ⟨hx, hb, hml, hown, hts⟩ (tX5_type l G S_14 M0 44 r_16 S_17 e_18) (cwV 1 hts gL_act_X5_type rfl rfl rfl ⟨rfl, hdX5_type⟩ ⟨Nat.le_of_ble_eq_true rfl, Nat.le_of_ble_eq_true rfl⟩) (va_recv hK.1 hW.1 (ci := 5) (q0 := 154) rfl lkT) hK hW hS hA rfl hl.1 rfl (Nat.le_of_ble_eq_true rfl) dL_act_252 ⟨Nat.zero_le _, Nat.zero_le _⟩ (fun H locs hW hS => ?_)
      refine lv_pop hx hb dL_act_255 rfl ?_
      refine lv_aload_n hx hb dL_act_256 rfl (lv_at hl 2 rfl) ?_
      refine lv_bipush (v := 48) hx hb dL_act_257 (by decide) ?_
      refine lv_iload_n hx hb dL_act_259 rfl (lv_at hl 4 rfl) ?_
      refine lv_iconst (v := 4) hx hb dL_act_260 (by decide) ?_
      refine lv_ishr hx hb dL_act_261 ?_
      refine lv_bipush (v := 10) hx hb dL_act_262 (by decide) ?_
      obtain ⟨r_19, e_20, h⟩ := bnd_e h
      refine kS_I (As := [.int (((l2 : Int32) >>> ((4 : Int32) &&& 31))), .int 10]) (rest := [.int 48, .ref (gad G 154)]) ⟨hx, hb, hml, hown, hts⟩ (tL_low l G S_17 M0 (((l2 : Int32) >>> ((4 : Int32) &&& 31))) 10 r_19 e_20) (va_cwS 2 hts gL_act_L_low rfl rfl rfl hdL_low ⟨Nat.le_of_ble_eq_true rfl, Nat.le_of_ble_eq_true rfl⟩) hK hW hS hA rfl hl.1 rfl (Nat.le_of_ble_eq_true rfl) dL_act_264 ⟨Nat.zero_le _, Nat.zero_le _⟩ (fun H locs hW hS => ?_)
      refine lv_iadd hx hb dL_act_267 ?_
      refine lv_i2c hx hb dL_act_268 rfl ?_
      obtain ⟨r_21, S_22, e_23, h⟩ := bd2_e h
      refine kV_I (As := [.int ((((48 + r_19)).toUInt32 % 65536).toInt32)]) (rest := []) ⟨hx, hb, hml, hown, hts⟩ (tX5_type l G S_17 M0 ((((48 + r_19)).toUInt32 % 65536).toInt32) r_21 S_22 e_23) (cwV 1 hts gL_act_X5_type rfl rfl rfl ⟨rfl, hdX5_type⟩ ⟨Nat.le_of_ble_eq_true rfl, Nat.le_of_ble_eq_true rfl⟩) (va_recv hK.1 hW.1 (ci := 5) (q0 := 154) rfl lkT) hK hW hS hA rfl hl.1 rfl (Nat.le_of_ble_eq_true rfl) dL_act_269 ⟨Nat.zero_le _, Nat.zero_le _⟩ (fun H locs hW hS => ?_)
      refine lv_pop hx hb dL_act_272 rfl ?_
      refine lv_aload_n hx hb dL_act_273 rfl (lv_at hl 2 rfl) ?_
      obtain ⟨r_24, S_25, e_26, h⟩ := bd2_e h
      refine kV_I (As := []) (rest := []) ⟨hx, hb, hml, hown, hts⟩ (tX5_comeAll l G S_22 M0 r_24 S_25 e_26) (cwV 0 hts gL_act_X5_comeAll rfl rfl rfl ⟨rfl, hdX5_comeAll⟩ ⟨Nat.le_of_ble_eq_true rfl, Nat.le_of_ble_eq_true rfl⟩) (va_recv hK.1 hW.1 (ci := 5) (q0 := 154) rfl lkT) hK hW hS hA rfl hl.1 rfl (Nat.le_of_ble_eq_true rfl) dL_act_274 ⟨Nat.zero_le _, Nat.zero_le _⟩ (fun H locs hW hS => ?_)
      obtain ⟨rfl, rfl⟩ := Prod.mk.inj (Option.some.inj h)
      exact W.iret hx hb hr (fun t ht hw => ⟨⟨_, (), rfl, rfl, hW.ret ht⟩, hS.F ht⟩) hS.2.2 dL_act_277
    · have h := ite_f c_7 h
      by_cases c_27 : (((l1 : Int32) &&& 15) : Int32) = 0
      · have h := ite_t c_27 h
        refine lv_tableIn (off := 71) (tgt := 136) hx hb dL_act_65 (by rw [c_27]; decide) (by rw [c_27]; decide) (by rw [c_27]; rfl) (by decide) ?_
        refine lv_aload_n hx hb dL_act_136 rfl (lv_at hl 2 rfl) ?_
        refine lv_iload_n hx hb dL_act_137 rfl (lv_at hl 4 rfl) ?_
        refine lv_bipush (v := 22) hx hb dL_act_138 (by decide) ?_
        refine lv_ishr hx hb dL_act_140 ?_
        refine lv_bipush (v := 31) hx hb dL_act_141 (by decide) ?_
        refine lv_iand hx hb dL_act_143 ?_
        refine lv_if_ne (tgt := 152) hx hb dL_act_144 (by decide) (fun c_28 => ?_) (fun c_28 => ?_)
        · have h := ite_f c_28 h
          refine lv_iload_n hx hb dL_act_152 rfl (lv_at hl 5 rfl) ?_
          exact B153 _ _ S hW hS ls r_1 l3 (lv_sub hl [1] rfl) h
        · have h := ite_t c_28 h
          refine lv_bipush (v := 64) hx hb dL_act_147 (by decide) ?_
          refine lv_goto (tgt := 153) hx hb dL_act_149 (by decide) ?_
          exact B153 _ _ S hW hS ls r_1 64 (lv_sub hl [1] rfl) h
      · have h := ite_f c_27 h
        by_cases c_29 : (((l1 : Int32) &&& 15) : Int32) = 1
        · have h := ite_t c_29 h
          refine lv_tableIn (off := 71) (tgt := 136) hx hb dL_act_65 (by rw [c_29]; decide) (by rw [c_29]; decide) (by rw [c_29]; rfl) (by decide) ?_
          refine lv_aload_n hx hb dL_act_136 rfl (lv_at hl 2 rfl) ?_
          refine lv_iload_n hx hb dL_act_137 rfl (lv_at hl 4 rfl) ?_
          refine lv_bipush (v := 22) hx hb dL_act_138 (by decide) ?_
          refine lv_ishr hx hb dL_act_140 ?_
          refine lv_bipush (v := 31) hx hb dL_act_141 (by decide) ?_
          refine lv_iand hx hb dL_act_143 ?_
          refine lv_if_ne (tgt := 152) hx hb dL_act_144 (by decide) (fun c_30 => ?_) (fun c_30 => ?_)
          · have h := ite_f c_30 h
            refine lv_iload_n hx hb dL_act_152 rfl (lv_at hl 5 rfl) ?_
            exact B153 _ _ S hW hS ls r_1 l3 (lv_sub hl [1] rfl) h
          · have h := ite_t c_30 h
            refine lv_bipush (v := 64) hx hb dL_act_147 (by decide) ?_
            refine lv_goto (tgt := 153) hx hb dL_act_149 (by decide) ?_
            exact B153 _ _ S hW hS ls r_1 64 (lv_sub hl [1] rfl) h
        · have h := ite_f c_29 h
          by_cases c_31 : (((l1 : Int32) &&& 15) : Int32) = 2
          · have h := ite_t c_31 h
            refine lv_tableIn (off := 71) (tgt := 136) hx hb dL_act_65 (by rw [c_31]; decide) (by rw [c_31]; decide) (by rw [c_31]; rfl) (by decide) ?_
            refine lv_aload_n hx hb dL_act_136 rfl (lv_at hl 2 rfl) ?_
            refine lv_iload_n hx hb dL_act_137 rfl (lv_at hl 4 rfl) ?_
            refine lv_bipush (v := 22) hx hb dL_act_138 (by decide) ?_
            refine lv_ishr hx hb dL_act_140 ?_
            refine lv_bipush (v := 31) hx hb dL_act_141 (by decide) ?_
            refine lv_iand hx hb dL_act_143 ?_
            refine lv_if_ne (tgt := 152) hx hb dL_act_144 (by decide) (fun c_32 => ?_) (fun c_32 => ?_)
            · have h := ite_f c_32 h
              refine lv_iload_n hx hb dL_act_152 rfl (lv_at hl 5 rfl) ?_
              exact B153 _ _ S hW hS ls r_1 l3 (lv_sub hl [1] rfl) h
            · have h := ite_t c_32 h
              refine lv_bipush (v := 64) hx hb dL_act_147 (by decide) ?_
              refine lv_goto (tgt := 153) hx hb dL_act_149 (by decide) ?_
              exact B153 _ _ S hW hS ls r_1 64 (lv_sub hl [1] rfl) h
          · have h := ite_f c_31 h
            by_cases c_33 : (((l1 : Int32) &&& 15) : Int32) = 3
            · have h := ite_t c_33 h
              refine lv_tableIn (off := 71) (tgt := 136) hx hb dL_act_65 (by rw [c_33]; decide) (by rw [c_33]; decide) (by rw [c_33]; rfl) (by decide) ?_
              refine lv_aload_n hx hb dL_act_136 rfl (lv_at hl 2 rfl) ?_
              refine lv_iload_n hx hb dL_act_137 rfl (lv_at hl 4 rfl) ?_
              refine lv_bipush (v := 22) hx hb dL_act_138 (by decide) ?_
              refine lv_ishr hx hb dL_act_140 ?_
              refine lv_bipush (v := 31) hx hb dL_act_141 (by decide) ?_
              refine lv_iand hx hb dL_act_143 ?_
              refine lv_if_ne (tgt := 152) hx hb dL_act_144 (by decide) (fun c_34 => ?_) (fun c_34 => ?_)
              · have h := ite_f c_34 h
                refine lv_iload_n hx hb dL_act_152 rfl (lv_at hl 5 rfl) ?_
                exact B153 _ _ S hW hS ls r_1 l3 (lv_sub hl [1] rfl) h
              · have h := ite_t c_34 h
                refine lv_bipush (v := 64) hx hb dL_act_147 (by decide) ?_
                refine lv_goto (tgt := 153) hx hb dL_act_149 (by decide) ?_
                exact B153 _ _ S hW hS ls r_1 64 (lv_sub hl [1] rfl) h
            · have h := ite_f c_33 h
              by_cases c_35 : (((l1 : Int32) &&& 15) : Int32) = 4
              · have h := ite_t c_35 h
                refine lv_tableIn (off := 94) (tgt := 159) hx hb dL_act_65 (by rw [c_35]; decide) (by rw [c_35]; decide) (by rw [c_35]; rfl) (by decide) ?_
                refine lv_aload_n hx hb dL_act_159 rfl (lv_at hl 2 rfl) ?_
                refine lv_iload hx hb dL_act_160 (lv_at hl 0 rfl) ?_
                obtain ⟨r_36, S_37, e_38, h⟩ := bd2_e h
                refine kV_I (As := [.int r_5]) (rest := []) ⟨hx, hb, hml, hown, hts⟩ (tX5_leave l G S M0 r_5 r_36 S_37 e_38) (cwV 1 hts gL_act_X5_leave rfl rfl rfl ⟨rfl, hdX5_leave⟩ ⟨Nat.le_of_ble_eq_true rfl, Nat.le_of_ble_eq_true rfl⟩) (va_recv hK.1 hW.1 (ci := 5) (q0 := 154) rfl lkT) hK hW hS hA rfl hl.1 rfl (Nat.le_of_ble_eq_true rfl) dL_act_162 ⟨Nat.zero_le _, Nat.zero_le _⟩ (fun H locs hW hS => ?_)
                obtain ⟨rfl, rfl⟩ := Prod.mk.inj (Option.some.inj h)
                exact W.iret hx hb hr (fun t ht hw => ⟨⟨_, (), rfl, rfl, hW.ret ht⟩, hS.F ht⟩) hS.2.2 dL_act_165
              · have h := ite_f c_35 h
                by_cases c_39 : (((l1 : Int32) &&& 15) : Int32) = 5
                · have h := ite_t c_39 h
                  refine lv_tableIn (off := 94) (tgt := 159) hx hb dL_act_65 (by rw [c_39]; decide) (by rw [c_39]; decide) (by rw [c_39]; rfl) (by decide) ?_
                  refine lv_aload_n hx hb dL_act_159 rfl (lv_at hl 2 rfl) ?_
                  refine lv_iload hx hb dL_act_160 (lv_at hl 0 rfl) ?_
                  obtain ⟨r_40, S_41, e_42, h⟩ := bd2_e h
                  refine kV_I (As := [.int r_5]) (rest := []) ⟨hx, hb, hml, hown, hts⟩ (tX5_leave l G S M0 r_5 r_40 S_41 e_42) (cwV 1 hts gL_act_X5_leave rfl rfl rfl ⟨rfl, hdX5_leave⟩ ⟨Nat.le_of_ble_eq_true rfl, Nat.le_of_ble_eq_true rfl⟩) (va_recv hK.1 hW.1 (ci := 5) (q0 := 154) rfl lkT) hK hW hS hA rfl hl.1 rfl (Nat.le_of_ble_eq_true rfl) dL_act_162 ⟨Nat.zero_le _, Nat.zero_le _⟩ (fun H locs hW hS => ?_)
                  obtain ⟨rfl, rfl⟩ := Prod.mk.inj (Option.some.inj h)
                  exact W.iret hx hb hr (fun t ht hw => ⟨⟨_, (), rfl, rfl, hW.ret ht⟩, hS.F ht⟩) hS.2.2 dL_act_165
                · have h := ite_f c_39 h
                  by_cases c_43 : (((l1 : Int32) &&& 15) : Int32) = 6
                  · have h := ite_t c_43 h
                    refine lv_tableIn (off := 101) (tgt := 166) hx hb dL_act_65 (by rw [c_43]; decide) (by rw [c_43]; decide) (by rw [c_43]; rfl) (by decide) ?_
                    refine lv_aload_n hx hb dL_act_166 rfl (lv_at hl 2 rfl) ?_
                    refine lv_iload hx hb dL_act_167 (lv_at hl 0 rfl) ?_
                    refine lv_iload_n hx hb dL_act_169 rfl (lv_at hl 5 rfl) ?_
                    refine lv_iload hx hb dL_act_170 (lv_at hl 1 rfl) ?_
                    obtain ⟨r_44, S_45, e_46, h⟩ := bd2_e h
                    refine kV_I (As := [.int r_5, .int l3, .int r_1]) (rest := []) ⟨hx, hb, hml, hown, hts⟩ (tX5_moveTent l G S M0 r_5 l3 r_1 r_44 S_45 e_46) (cwV 3 hts gL_act_X5_moveTent rfl rfl rfl ⟨rfl, hdX5_moveTent⟩ ⟨Nat.le_of_ble_eq_true rfl, Nat.le_of_ble_eq_true rfl⟩) (va_recv hK.1 hW.1 (ci := 5) (q0 := 154) rfl lkT) hK hW hS hA rfl hl.1 rfl (Nat.le_of_ble_eq_true rfl) dL_act_172 ⟨Nat.zero_le _, Nat.zero_le _⟩ (fun H locs hW hS => ?_)
                    obtain ⟨rfl, rfl⟩ := Prod.mk.inj (Option.some.inj h)
                    exact W.iret hx hb hr (fun t ht hw => ⟨⟨_, (), rfl, rfl, hW.ret ht⟩, hS.F ht⟩) hS.2.2 dL_act_175
                  · have h := ite_f c_43 h
                    by_cases c_47 : (((l1 : Int32) &&& 15) : Int32) = 7
                    · have h := ite_t c_47 h
                      refine lv_tableIn (off := 101) (tgt := 166) hx hb dL_act_65 (by rw [c_47]; decide) (by rw [c_47]; decide) (by rw [c_47]; rfl) (by decide) ?_
                      refine lv_aload_n hx hb dL_act_166 rfl (lv_at hl 2 rfl) ?_
                      refine lv_iload hx hb dL_act_167 (lv_at hl 0 rfl) ?_
                      refine lv_iload_n hx hb dL_act_169 rfl (lv_at hl 5 rfl) ?_
                      refine lv_iload hx hb dL_act_170 (lv_at hl 1 rfl) ?_
                      obtain ⟨r_48, S_49, e_50, h⟩ := bd2_e h
                      refine kV_I (As := [.int r_5, .int l3, .int r_1]) (rest := []) ⟨hx, hb, hml, hown, hts⟩ (tX5_moveTent l G S M0 r_5 l3 r_1 r_48 S_49 e_50) (cwV 3 hts gL_act_X5_moveTent rfl rfl rfl ⟨rfl, hdX5_moveTent⟩ ⟨Nat.le_of_ble_eq_true rfl, Nat.le_of_ble_eq_true rfl⟩) (va_recv hK.1 hW.1 (ci := 5) (q0 := 154) rfl lkT) hK hW hS hA rfl hl.1 rfl (Nat.le_of_ble_eq_true rfl) dL_act_172 ⟨Nat.zero_le _, Nat.zero_le _⟩ (fun H locs hW hS => ?_)
                      obtain ⟨rfl, rfl⟩ := Prod.mk.inj (Option.some.inj h)
                      exact W.iret hx hb hr (fun t ht hw => ⟨⟨_, (), rfl, rfl, hW.ret ht⟩, hS.F ht⟩) hS.2.2 dL_act_175
                    · have h := ite_f c_47 h
                      by_cases c_51 : (((l1 : Int32) &&& 15) : Int32) = 8
                      · have h := ite_t c_51 h
                        refine lv_tableIn (off := 111) (tgt := 176) hx hb dL_act_65 (by rw [c_51]; decide) (by rw [c_51]; decide) (by rw [c_51]; rfl) (by decide) ?_
                        refine lv_aload_n hx hb dL_act_176 rfl (lv_at hl 2 rfl) ?_
                        refine lv_iload_n hx hb dL_act_177 rfl (lv_at hl 5 rfl) ?_
                        refine lv_iload hx hb dL_act_178 (lv_at hl 1 rfl) ?_
                        refine lv_iload hx hb dL_act_180 (lv_at hl 0 rfl) ?_
                        obtain ⟨r_52, S_53, e_54, h⟩ := bd2_e h
                        refine kV_I (As := [.int l3, .int r_1, .int r_5]) (rest := []) ⟨hx, hb, hml, hown, hts⟩ (tX5_handOver l G S M0 l3 r_1 r_5 r_52 S_53 e_54) (cwV 3 hts gL_act_X5_handOver rfl rfl rfl ⟨rfl, hdX5_handOver⟩ ⟨Nat.le_of_ble_eq_true rfl, Nat.le_of_ble_eq_true rfl⟩) (va_recv hK.1 hW.1 (ci := 5) (q0 := 154) rfl lkT) hK hW hS hA rfl hl.1 rfl (Nat.le_of_ble_eq_true rfl) dL_act_182 ⟨Nat.zero_le _, Nat.zero_le _⟩ (fun H locs hW hS => ?_)
                        obtain ⟨rfl, rfl⟩ := Prod.mk.inj (Option.some.inj h)
                        exact W.iret hx hb hr (fun t ht hw => ⟨⟨_, (), rfl, rfl, hW.ret ht⟩, hS.F ht⟩) hS.2.2 dL_act_185
                      · have h := ite_f c_51 h
                        by_cases c_55 : (((l1 : Int32) &&& 15) : Int32) = 9
                        · have h := ite_t c_55 h
                          refine lv_tableIn (off := 111) (tgt := 176) hx hb dL_act_65 (by rw [c_55]; decide) (by rw [c_55]; decide) (by rw [c_55]; rfl) (by decide) ?_
                          refine lv_aload_n hx hb dL_act_176 rfl (lv_at hl 2 rfl) ?_
                          refine lv_iload_n hx hb dL_act_177 rfl (lv_at hl 5 rfl) ?_
                          refine lv_iload hx hb dL_act_178 (lv_at hl 1 rfl) ?_
                          refine lv_iload hx hb dL_act_180 (lv_at hl 0 rfl) ?_
                          obtain ⟨r_56, S_57, e_58, h⟩ := bd2_e h
                          refine kV_I (As := [.int l3, .int r_1, .int r_5]) (rest := []) ⟨hx, hb, hml, hown, hts⟩ (tX5_handOver l G S M0 l3 r_1 r_5 r_56 S_57 e_58) (cwV 3 hts gL_act_X5_handOver rfl rfl rfl ⟨rfl, hdX5_handOver⟩ ⟨Nat.le_of_ble_eq_true rfl, Nat.le_of_ble_eq_true rfl⟩) (va_recv hK.1 hW.1 (ci := 5) (q0 := 154) rfl lkT) hK hW hS hA rfl hl.1 rfl (Nat.le_of_ble_eq_true rfl) dL_act_182 ⟨Nat.zero_le _, Nat.zero_le _⟩ (fun H locs hW hS => ?_)
                          obtain ⟨rfl, rfl⟩ := Prod.mk.inj (Option.some.inj h)
                          exact W.iret hx hb hr (fun t ht hw => ⟨⟨_, (), rfl, rfl, hW.ret ht⟩, hS.F ht⟩) hS.2.2 dL_act_185
                        · have h := ite_f c_55 h
                          by_cases c_59 : (((l1 : Int32) &&& 15) : Int32) = 10
                          · have h := ite_t c_59 h
                            refine lv_tableIn (off := 111) (tgt := 176) hx hb dL_act_65 (by rw [c_59]; decide) (by rw [c_59]; decide) (by rw [c_59]; rfl) (by decide) ?_
                            refine lv_aload_n hx hb dL_act_176 rfl (lv_at hl 2 rfl) ?_
                            refine lv_iload_n hx hb dL_act_177 rfl (lv_at hl 5 rfl) ?_
                            refine lv_iload hx hb dL_act_178 (lv_at hl 1 rfl) ?_
                            refine lv_iload hx hb dL_act_180 (lv_at hl 0 rfl) ?_
                            obtain ⟨r_60, S_61, e_62, h⟩ := bd2_e h
                            refine kV_I (As := [.int l3, .int r_1, .int r_5]) (rest := []) ⟨hx, hb, hml, hown, hts⟩ (tX5_handOver l G S M0 l3 r_1 r_5 r_60 S_61 e_62) (cwV 3 hts gL_act_X5_handOver rfl rfl rfl ⟨rfl, hdX5_handOver⟩ ⟨Nat.le_of_ble_eq_true rfl, Nat.le_of_ble_eq_true rfl⟩) (va_recv hK.1 hW.1 (ci := 5) (q0 := 154) rfl lkT) hK hW hS hA rfl hl.1 rfl (Nat.le_of_ble_eq_true rfl) dL_act_182 ⟨Nat.zero_le _, Nat.zero_le _⟩ (fun H locs hW hS => ?_)
                            obtain ⟨rfl, rfl⟩ := Prod.mk.inj (Option.some.inj h)
                            exact W.iret hx hb hr (fun t ht hw => ⟨⟨_, (), rfl, rfl, hW.ret ht⟩, hS.F ht⟩) hS.2.2 dL_act_185
                          · have h := ite_f c_59 h
                            by_cases c_63 : (((l1 : Int32) &&& 15) : Int32) = 11
                            · have h := ite_t c_63 h
                              refine lv_tableIn (off := 121) (tgt := 186) hx hb dL_act_65 (by rw [c_63]; decide) (by rw [c_63]; decide) (by rw [c_63]; rfl) (by decide) ?_
                              refine lv_aload_n hx hb dL_act_186 rfl (lv_at hl 2 rfl) ?_
                              refine lv_iload_n hx hb dL_act_187 rfl (lv_at hl 5 rfl) ?_
                              refine lv_iload hx hb dL_act_188 (lv_at hl 1 rfl) ?_
                              refine lv_iload_n hx hb dL_act_190 rfl (lv_at hl 4 rfl) ?_
                              refine lv_iconst (v := 3) hx hb dL_act_191 (by decide) ?_
                              refine lv_ishr hx hb dL_act_192 ?_
                              refine lv_sipush (v := 1001) hx hb dL_act_193 (by decide) ?_
                              obtain ⟨r_64, e_65, h⟩ := bnd_e h
                              refine kS_I (As := [.int (((l2 : Int32) >>> ((3 : Int32) &&& 31))), .int 1001]) (rest := [.int r_1, .int l3, .ref (gad G 154)]) ⟨hx, hb, hml, hown, hts⟩ (tL_low l G S M0 (((l2 : Int32) >>> ((3 : Int32) &&& 31))) 1001 r_64 e_65) (va_cwS 2 hts gL_act_L_low rfl rfl rfl hdL_low ⟨Nat.le_of_ble_eq_true rfl, Nat.le_of_ble_eq_true rfl⟩) hK hW hS hA rfl hl.1 rfl (Nat.le_of_ble_eq_true rfl) dL_act_196 ⟨Nat.zero_le _, Nat.zero_le _⟩ (fun H locs hW hS => ?_)
                              obtain ⟨r_66, S_67, e_68, h⟩ := bd2_e h
                              refine kV_I (As := [.int l3, .int r_1, .int r_64]) (rest := []) ⟨hx, hb, hml, hown, hts⟩ (tX5_lay l G S M0 l3 r_1 r_64 r_66 S_67 e_68) (cwV 3 hts gL_act_X5_lay rfl rfl rfl ⟨rfl, hdX5_lay⟩ ⟨Nat.le_of_ble_eq_true rfl, Nat.le_of_ble_eq_true rfl⟩) (va_recv hK.1 hW.1 (ci := 5) (q0 := 154) rfl lkT) hK hW hS hA rfl hl.1 rfl (Nat.le_of_ble_eq_true rfl) dL_act_199 ⟨Nat.zero_le _, Nat.zero_le _⟩ (fun H locs hW hS => ?_)
                              obtain ⟨rfl, rfl⟩ := Prod.mk.inj (Option.some.inj h)
                              exact W.iret hx hb hr (fun t ht hw => ⟨⟨_, (), rfl, rfl, hW.ret ht⟩, hS.F ht⟩) hS.2.2 dL_act_202
                            · have h := ite_f c_63 h
                              by_cases c_69 : (((l1 : Int32) &&& 15) : Int32) = 12
                              · have h := ite_t c_69 h
                                refine lv_tableIn (off := 138) (tgt := 203) hx hb dL_act_65 (by rw [c_69]; decide) (by rw [c_69]; decide) (by rw [c_69]; rfl) (by decide) ?_
                                refine lv_aload_n hx hb dL_act_203 rfl (lv_at hl 2 rfl) ?_
                                refine lv_iload_n hx hb dL_act_204 rfl (lv_at hl 3 rfl) ?_
                                refine lv_iconst (v := 4) hx hb dL_act_205 (by decide) ?_
                                refine lv_ishr hx hb dL_act_206 ?_
                                refine lv_aload_n hx hb dL_act_207 rfl (lv_at hl 2 rfl) ?_
                                refine lv_iconst (v := 3) hx hb dL_act_208 (by decide) ?_
                                obtain ⟨r_70, e_71, h⟩ := bnd_e h
                                refine kV_I (As := [.int 3]) (rest := [.int (((l1 : Int32) >>> ((4 : Int32) &&& 31))), .ref (gad G 154)]) ⟨hx, hb, hml, hown, hts⟩ (tX5_count l G S M0 3 r_70 e_71) (cwV 1 hts gL_act_X5_count rfl rfl rfl ⟨rfl, hdX5_count⟩ ⟨Nat.le_of_ble_eq_true rfl, Nat.le_of_ble_eq_true rfl⟩) (va_recv hK.1 hW.1 (ci := 5) (q0 := 154) rfl lkT) hK hW hS hA rfl hl.1 rfl (Nat.le_of_ble_eq_true rfl) dL_act_209 ⟨Nat.zero_le _, Nat.zero_le _⟩ (fun H locs hW hS => ?_)
                                refine lv_iconst (v := 1) hx hb dL_act_212 (by decide) ?_
                                refine lv_iadd hx hb dL_act_213 ?_
                                obtain ⟨r_72, e_73, h⟩ := bnd_e h
                                refine kS_I (As := [.int (((l1 : Int32) >>> ((4 : Int32) &&& 31))), .int ((r_70 + 1))]) (rest := [.ref (gad G 154)]) ⟨hx, hb, hml, hown, hts⟩ (tL_low l G S M0 (((l1 : Int32) >>> ((4 : Int32) &&& 31))) ((r_70 + 1)) r_72 e_73) (va_cwS 2 hts gL_act_L_low rfl rfl rfl hdL_low ⟨Nat.le_of_ble_eq_true rfl, Nat.le_of_ble_eq_true rfl⟩) hK hW hS hA rfl hl.1 rfl (Nat.le_of_ble_eq_true rfl) dL_act_214 ⟨Nat.zero_le _, Nat.zero_le _⟩ (fun H locs hW hS => ?_)
                                refine lv_iload_n hx hb dL_act_217 rfl (lv_at hl 5 rfl) ?_
                                refine lv_iload hx hb dL_act_218 (lv_at hl 1 rfl) ?_
                                obtain ⟨r_74, S_75, e_76, h⟩ := bd2_e h
                                refine kV_I (As := [.int r_72, .int l3, .int r_1]) (rest := []) ⟨hx, hb, hml, hown, hts⟩ (tX5_carry l G S M0 r_72 l3 r_1 r_74 S_75 e_76) (cwV 3 hts gL_act_X5_carry rfl rfl rfl ⟨rfl, hdX5_carry⟩ ⟨Nat.le_of_ble_eq_true rfl, Nat.le_of_ble_eq_true rfl⟩) (va_recv hK.1 hW.1 (ci := 5) (q0 := 154) rfl lkT) hK hW hS hA rfl hl.1 rfl (Nat.le_of_ble_eq_true rfl) dL_act_220 ⟨Nat.zero_le _, Nat.zero_le _⟩ (fun H locs hW hS => ?_)
                                obtain ⟨rfl, rfl⟩ := Prod.mk.inj (Option.some.inj h)
                                exact W.iret hx hb hr (fun t ht hw => ⟨⟨_, (), rfl, rfl, hW.ret ht⟩, hS.F ht⟩) hS.2.2 dL_act_223
                              · have h := ite_f c_69 h
                                by_cases c_77 : (((l1 : Int32) &&& 15) : Int32) = 13
                                · have h := ite_t c_77 h
                                  refine lv_tableIn (off := 159) (tgt := 224) hx hb dL_act_65 (by rw [c_77]; decide) (by rw [c_77]; decide) (by rw [c_77]; rfl) (by decide) ?_
                                  refine lv_aload_n hx hb dL_act_224 rfl (lv_at hl 2 rfl) ?_
                                  obtain ⟨r_78, S_79, e_80, h⟩ := bd2_e h
                                  refine kV_I (As := []) (rest := []) ⟨hx, hb, hml, hown, hts⟩ (tX5_restore l G S M0 r_78 S_79 e_80) (cwV 0 hts gL_act_X5_restore rfl rfl rfl ⟨rfl, hdX5_restore⟩ ⟨Nat.le_of_ble_eq_true rfl, Nat.le_of_ble_eq_true rfl⟩) (va_recv hK.1 hW.1 (ci := 5) (q0 := 154) rfl lkT) hK hW hS hA rfl hl.1 rfl (Nat.le_of_ble_eq_true rfl) dL_act_225 ⟨Nat.zero_le _, Nat.zero_le _⟩ (fun H locs hW hS => ?_)
                                  obtain ⟨rfl, rfl⟩ := Prod.mk.inj (Option.some.inj h)
                                  exact W.iret hx hb hr (fun t ht hw => ⟨⟨_, (), rfl, rfl, hW.ret ht⟩, hS.F ht⟩) hS.2.2 dL_act_228
                                · have h := ite_f c_77 h
                                  cases h
  have B17 : ∀ (H : Heap) (locs : List Loc) (S : St) (_ : WD G S M0 H) (_ : va_S (Aw G) s.heap H locs) (ls : Array Slot) (l1 : Int32) (l2 : Int32) (k0 : Int32) (k1 : Int32) (_ : lv_has ls 6 [(0, .ref (gad G 154)), (1, .int l1), (2, .int l2)]) (h : fL_act_b17 S l1 l2 k0 k1 = some (rr, S')), WI p l e (headSpec wsL_act rL_act).room s m args below meth cd G rr S' M0 H locs (F0 m 17 ls [.int k0, .int k1]) := by
    intro H locs S hW hS ls l1 l2 k0 k1 hl h
    unfold fL_act_b17 at h
    obtain ⟨r_1, e_2, h⟩ := bnd_e h
    refine kS_I (As := [.int k1, .int k0]) (rest := []) ⟨hx, hb, hml, hown, hts⟩ (tL_low l G S M0 k1 k0 r_1 e_2) (va_cwS 2 hts gL_act_L_low rfl rfl rfl hdL_low ⟨Nat.le_of_ble_eq_true rfl, Nat.le_of_ble_eq_true rfl⟩) hK hW hS hA rfl hl.1 rfl (Nat.le_of_ble_eq_true rfl) dL_act_17 ⟨Nat.zero_le _, Nat.zero_le _⟩ (fun H locs hW hS => ?_)
    refine lv_istore_n (lv' := [(3, .int r_1), (0, .ref (gad G 154)), (1, .int l1), (2, .int l2)]) hx hb dL_act_20 rfl hl (by decide) rfl (fun ls hl => ?_)
    refine lv_iload_n hx hb dL_act_21 rfl (lv_at hl 3 rfl) ?_
    refine lv_bipush (v := 6) hx hb dL_act_22 (by decide) ?_
    refine lv_ishr hx hb dL_act_24 ?_
    refine lv_iload_n hx hb dL_act_25 rfl (lv_at hl 3 rfl) ?_
    refine lv_bipush (v := 20) hx hb dL_act_26 (by decide) ?_
    refine lv_ishr hx hb dL_act_28 ?_
    refine lv_iconst (v := 1) hx hb dL_act_29 (by decide) ?_
    refine lv_iand hx hb dL_act_30 ?_
    refine lv_if_ne (tgt := 39) hx hb dL_act_31 (by decide) (fun c_3 => ?_) (fun c_3 => ?_)
    · have h := ite_f c_3 h
      refine lv_bipush (v := 9) hx hb dL_act_39 (by decide) ?_
      exact B41 _ _ S hW hS ls l1 l2 r_1 9 (((l2 : Int32) >>> ((6 : Int32) &&& 31))) (lv_sub hl [1, 2, 3, 0] rfl) h
    · have h := ite_t c_3 h
      refine lv_bipush (v := 64) hx hb dL_act_34 (by decide) ?_
      refine lv_goto (tgt := 41) hx hb dL_act_36 (by decide) ?_
      exact B41 _ _ S hW hS ls l1 l2 r_1 64 (((l2 : Int32) >>> ((6 : Int32) &&& 31))) (lv_sub hl [1, 2, 3, 0] rfl) h
  unfold fL_act at h
  refine lv_iload_n hx hb dL_act_0 rfl (lv_at hl 2 rfl) ?_
  refine lv_iload_n hx hb dL_act_1 rfl (lv_at hl 2 rfl) ?_
  refine lv_bipush (v := 20) hx hb dL_act_2 (by decide) ?_
  refine lv_ishr hx hb dL_act_4 ?_
  refine lv_iconst (v := 1) hx hb dL_act_5 (by decide) ?_
  refine lv_iand hx hb dL_act_6 ?_
  refine lv_if_ne (tgt := 15) hx hb dL_act_7 (by decide) (fun c_1 => ?_) (fun c_1 => ?_)
  · have h := ite_f c_1 h
    refine lv_bipush (v := 9) hx hb dL_act_15 (by decide) ?_
    exact B17 _ _ S0 hW hS ls p1 p2 9 p2 (lv_sub hl [0, 1, 2] rfl) h
  · have h := ite_t c_1 h
    refine lv_bipush (v := 64) hx hb dL_act_10 (by decide) ?_
    refine lv_goto (tgt := 17) hx hb dL_act_12 (by decide) ?_
    exact B17 _ _ S0 hW hS ls p1 p2 64 p2 (lv_sub hl [0, 1, 2] rfl) h
