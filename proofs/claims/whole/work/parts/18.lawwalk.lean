set_option maxRecDepth 100000 in
set_option maxHeartbeats 64000000 in
/-- THE LAW'S LOOP: where its function answers 1, the walk comes to the law's end with 1 -/
theorem law_loop {p : Program} {l : Launch} {e : Env} {s : State} {m : MethodId} {below : List Frame} {meth : Method} {cd : Code} {b L : Nat} {xs : Nat → Int32} (hL : L ≤ 3072) (C0 : lw_At p s m meth cd b L xs) (G : WG) (hK : KW G s) (hA : ∀ q, Aw G q → (fun q : Nat => s.heap.size ≤ q) q) : ∀ (n : Nat) (H : Heap) (locs : List Loc) (S M : St) (_ : WD G S M H) (_ : va_S (fun q : Nat => s.heap.size ≤ q) s.heap H locs) (ls : Array Slot) (l3 : Int32) (_ : lv_has ls 8 [(0, .ref b), (1, .ref (gad G 154)), (2, .ref (gad G 159)), (3, .int l3)]) (h : flaw_b18 xs L n S M l3 = some 1), W p l e room_1 s m #[Value.ref b] below meth cd H locs 167 12396 (lw_Z below #[Value.ref b] s) (F0 m 18 ls []) := by
  obtain ⟨hx, hb, hr, hml, hown, hts0, hX, hbl, hlocks, hgv⟩ := id C0
  have hts : ∀ w ∈ wsL_law, w.before #[Value.ref b] s = true := fun w h => hts0 w (wsL_law_in w h)
  have hbA : ¬ (fun q : Nat => s.heap.size ≤ q) b := Nat.not_le.mpr hbl
  intro n
  induction n with
  | zero => intro H locs S M hW hS ls l3 hl h; cases (show (none : Option (Int32)) = some _ from h)
  | succ n ih =>
    have B797 : ∀ (H : Heap) (locs : List Loc) (S : St) (M : St) (_ : WD G S M H) (_ : va_S (fun q : Nat => s.heap.size ≤ q) s.heap H locs) (ls : Array Slot) (l3 : Int32) (_ : lv_has ls 8 [(0, .ref (b)), (1, .ref (gad G 154)), (2, .ref (gad G 159)), (3, .int l3)]) (h : flaw_b797 xs L S M (flaw_b18 xs L n) l3 = some 1), W p l e room_1 s m #[Value.ref b] below meth cd H locs 167 12396 (lw_Z below #[Value.ref b] s) (F0 m 797 ls []) := by
      intro H locs S M hW hS ls l3 hl h
      unfold flaw_b797 at h
      refine lv_iinc (v := (l3 + 6)) (lv' := [(3, .int ((l3 + 6))), (0, .ref (b)), (1, .ref (gad G 154)), (2, .ref (gad G 159))]) hx hb dL_law_797 hl (k := 3) rfl rfl (by decide) rfl (fun ls hl => ?_)
      refine lv_goto (tgt := 18) hx hb dL_law_800 (by decide) ?_
      exact ih _ _ S M hW hS ls ((l3 + 6)) (lv_sub hl [1, 2, 3, 0] rfl) h
    have B771 : ∀ (H : Heap) (locs : List Loc) (S : St) (M : St) (_ : WD G S M H) (_ : va_S (fun q : Nat => s.heap.size ≤ q) s.heap H locs) (ls : Array Slot) (l3 : Int32) (_ : lv_has ls 8 [(0, .ref (b)), (1, .ref (gad G 154)), (2, .ref (gad G 159)), (3, .int l3)]) (h : flaw_b771 xs L S M (flaw_b18 xs L n) l3 = some 1), W p l e room_1 s m #[Value.ref b] below meth cd H locs 167 12396 (lw_Z below #[Value.ref b] s) (F0 m 771 ls []) := by
      intro H locs S M hW hS ls l3 hl h
      unfold flaw_b771 at h
      refine lv_goto (tgt := 797) hx hb dL_law_771 (by decide) ?_
      exact B797 _ _ S M hW hS ls l3 (lv_sub hl [0, 1, 2, 3] rfl) h
    intro H locs S M hW hS ls l3 hl h
    rw [flaw_b18] at h
    refine lv_iload_n hx hb dL_law_18 rfl (lv_at hl 3 rfl) ?_
    refine lv_aload_n hx hb dL_law_19 rfl (lv_at hl 0 rfl) ?_
    refine va_slen hx hb hX hbl hbA hS dL_law_20 ?_
    refine lv_bipush (v := 6) hx hb dL_law_21 (by decide) ?_
    refine lv_isub hx hb dL_law_23 ?_
    refine lv_icmp_gt (tgt := 803) hx hb dL_law_24 (by decide) (fun c_1 => ?_) (fun c_1 => ?_)
    · have h := ite_t c_1 h
      refine lv_iconst (v := 1) hx hb dL_law_803 (by decide) ?_
      refine va_forget (fun q hq => hS.2.2 q hq) ?_
      refine W.widen (k := 600000) (n := 7302250) (Nat.le_of_ble_eq_true rfl) (Nat.le_of_ble_eq_true rfl) ?_
      exact W.base (lw_ret (Drawn.sameBut.refl s.drawn lw_cs) hx hb hr hlocks dL_law_804)
    · have h := ite_f c_1 h
      refine lv_aload_n hx hb dL_law_27 rfl (lv_at hl 0 rfl) ?_
      refine lv_iload_n hx hb dL_law_28 rfl (lv_at hl 3 rfl) ?_
      obtain ⟨x_2, nx_2, ex_2, h⟩ := arr_e h
      refine va_sld hx hb hX hbl hbA hS nx_2 dL_law_29 ?_
      refine lv_ni ex_2 ?_
      refine lv_bipush (v := 31) hx hb dL_law_30 (by decide) ?_
      refine lv_iand hx hb dL_law_32 ?_
      by_cases c_3 : Int32.toInt (((x_2 : Int32) &&& 31)) < 0 ∨ 20 < Int32.toInt (((x_2 : Int32) &&& 31))
      · have h := ite_t c_3 h
        refine lv_tableOut (tgt := 797) hx hb dL_law_33 c_3 (by decide) ?_
        exact B797 _ _ S M hW hS ls l3 (lv_sub hl [0, 1, 2, 3] rfl) h
      · have h := ite_f c_3 h
        by_cases c_4 : (((x_2 : Int32) &&& 31) : Int32) = 0
        · have h := ite_t c_4 h
          refine lv_tableIn (off := 99) (tgt := 132) hx hb dL_law_33 (by rw [c_4]; decide) (by rw [c_4]; decide) (by rw [c_4]; rfl) (by decide) ?_
          refine lv_aload_n hx hb dL_law_132 rfl (lv_at hl 1 rfl) ?_
          refine lv_aload_n hx hb dL_law_133 rfl (lv_at hl 0 rfl) ?_
          refine lv_iload_n hx hb dL_law_134 rfl (lv_at hl 3 rfl) ?_
          refine lv_iconst (v := 1) hx hb dL_law_135 (by decide) ?_
          refine lv_iadd hx hb dL_law_136 ?_
          obtain ⟨x_5, nx_5, ex_5, h⟩ := arr_e h
          refine va_sld hx hb hX hbl hbA hS nx_5 dL_law_137 ?_
          refine lv_ni ex_5 ?_
          refine lv_aload_n hx hb dL_law_138 rfl (lv_at hl 0 rfl) ?_
          refine lv_iload_n hx hb dL_law_139 rfl (lv_at hl 3 rfl) ?_
          refine lv_iconst (v := 2) hx hb dL_law_140 (by decide) ?_
          refine lv_iadd hx hb dL_law_141 ?_
          obtain ⟨x_6, nx_6, ex_6, h⟩ := arr_e h
          refine va_sld hx hb hX hbl hbA hS nx_6 dL_law_142 ?_
          refine lv_ni ex_6 ?_
          obtain ⟨r_7, S_8, e_9, h⟩ := bd2_e h
          refine kV_I (As := [.int x_5, .int x_6]) (rest := []) ⟨hx, hb, hml, hown, hts⟩ (tX5_come l G S M x_5 x_6 r_7 S_8 e_9) (cwV 2 hts gL_law_X5_come rfl rfl rfl ⟨rfl, hdX5_come⟩ ⟨Nat.le_of_ble_eq_true rfl, Nat.le_of_ble_eq_true rfl⟩) (va_recv hK.1 hW.1 (ci := 5) (q0 := 154) rfl lkT) hK hW hS hA rfl hl.1 rfl (Nat.le_of_ble_eq_true rfl) dL_law_143 ⟨Nat.le_of_ble_eq_true rfl, Nat.le_of_ble_eq_true rfl⟩ (fun H locs hW hS => ?_)
          refine lv_aload_n hx hb dL_law_146 rfl (lv_at hl 2 rfl) ?_
          refine lv_aload_n hx hb dL_law_147 rfl (lv_at hl 0 rfl) ?_
          refine lv_iload_n hx hb dL_law_148 rfl (lv_at hl 3 rfl) ?_
          refine lv_iconst (v := 1) hx hb dL_law_149 (by decide) ?_
          refine lv_iadd hx hb dL_law_150 ?_
          obtain ⟨x_10, nx_10, ex_10, h⟩ := arr_e h
          refine va_sld hx hb hX hbl hbA hS nx_10 dL_law_151 ?_
          refine lv_ni ex_10 ?_
          refine lv_aload_n hx hb dL_law_152 rfl (lv_at hl 0 rfl) ?_
          refine lv_iload_n hx hb dL_law_153 rfl (lv_at hl 3 rfl) ?_
          refine lv_iconst (v := 2) hx hb dL_law_154 (by decide) ?_
          refine lv_iadd hx hb dL_law_155 ?_
          obtain ⟨x_11, nx_11, ex_11, h⟩ := arr_e h
          refine va_sld hx hb hX hbl hbA hS nx_11 dL_law_156 ?_
          refine lv_ni ex_11 ?_
          obtain ⟨r_12, M_13, e_14, h⟩ := bd2_e h
          refine kV_I (As := [.int x_10, .int x_11]) (rest := [.int r_7]) ⟨hx, hb, hml, hown, hts⟩ (tX6_come l G S_8 M x_10 x_11 r_12 M_13 e_14) (cwV 2 hts gL_law_X6_come rfl rfl rfl ⟨rfl, hdX6_come⟩ ⟨Nat.le_of_ble_eq_true rfl, Nat.le_of_ble_eq_true rfl⟩) (va_recv hK.1 hW.1 (ci := 6) (q0 := 159) rfl lkM) hK hW hS hA rfl hl.1 rfl (Nat.le_of_ble_eq_true rfl) dL_law_157 ⟨Nat.le_of_ble_eq_true rfl, Nat.le_of_ble_eq_true rfl⟩ (fun H locs hW hS => ?_)
          refine lv_icmp_eq (tgt := 797) hx hb dL_law_160 (by decide) (fun c_15 => ?_) (fun c_15 => ?_)
          · have h := ite_t c_15 h
            exact B797 _ _ S_8 M_13 hW hS ls l3 (lv_sub hl [0, 1, 2, 3] rfl) h
          · have h := ite_f c_15 h
            refine lv_iconst (v := 0) hx hb dL_law_163 (by decide) ?_
            cases h
        · have h := ite_f c_4 h
          by_cases c_16 : (((x_2 : Int32) &&& 31) : Int32) = 1
          · have h := ite_t c_16 h
            refine lv_tableIn (off := 132) (tgt := 165) hx hb dL_law_33 (by rw [c_16]; decide) (by rw [c_16]; decide) (by rw [c_16]; rfl) (by decide) ?_
            refine lv_aload_n hx hb dL_law_165 rfl (lv_at hl 1 rfl) ?_
            obtain ⟨r_17, S_18, e_19, h⟩ := bd2_e h
            refine kV_I (As := []) (rest := []) ⟨hx, hb, hml, hown, hts⟩ (tX5_comeAll l G S M r_17 S_18 e_19) (cwV 0 hts gL_law_X5_comeAll rfl rfl rfl ⟨rfl, hdX5_comeAll⟩ ⟨Nat.le_of_ble_eq_true rfl, Nat.le_of_ble_eq_true rfl⟩) (va_recv hK.1 hW.1 (ci := 5) (q0 := 154) rfl lkT) hK hW hS hA rfl hl.1 rfl (Nat.le_of_ble_eq_true rfl) dL_law_166 ⟨Nat.le_of_ble_eq_true rfl, Nat.le_of_ble_eq_true rfl⟩ (fun H locs hW hS => ?_)
            refine lv_aload_n hx hb dL_law_169 rfl (lv_at hl 2 rfl) ?_
            obtain ⟨r_20, M_21, e_22, h⟩ := bd2_e h
            refine kV_I (As := []) (rest := [.int r_17]) ⟨hx, hb, hml, hown, hts⟩ (tX6_comeAll l G S_18 M r_20 M_21 e_22) (cwV 0 hts gL_law_X6_comeAll rfl rfl rfl ⟨rfl, hdX6_comeAll⟩ ⟨Nat.le_of_ble_eq_true rfl, Nat.le_of_ble_eq_true rfl⟩) (va_recv hK.1 hW.1 (ci := 6) (q0 := 159) rfl lkM) hK hW hS hA rfl hl.1 rfl (Nat.le_of_ble_eq_true rfl) dL_law_170 ⟨Nat.le_of_ble_eq_true rfl, Nat.le_of_ble_eq_true rfl⟩ (fun H locs hW hS => ?_)
            refine lv_icmp_eq (tgt := 797) hx hb dL_law_173 (by decide) (fun c_23 => ?_) (fun c_23 => ?_)
            · have h := ite_t c_23 h
              exact B797 _ _ S_18 M_21 hW hS ls l3 (lv_sub hl [0, 1, 2, 3] rfl) h
            · have h := ite_f c_23 h
              refine lv_iconst (v := 0) hx hb dL_law_176 (by decide) ?_
              cases h
          · have h := ite_f c_16 h
            by_cases c_24 : (((x_2 : Int32) &&& 31) : Int32) = 2
            · have h := ite_t c_24 h
              refine lv_tableIn (off := 145) (tgt := 178) hx hb dL_law_33 (by rw [c_24]; decide) (by rw [c_24]; decide) (by rw [c_24]; rfl) (by decide) ?_
              refine lv_aload_n hx hb dL_law_178 rfl (lv_at hl 1 rfl) ?_
              refine lv_aload_n hx hb dL_law_179 rfl (lv_at hl 0 rfl) ?_
              refine lv_iload_n hx hb dL_law_180 rfl (lv_at hl 3 rfl) ?_
              refine lv_iconst (v := 1) hx hb dL_law_181 (by decide) ?_
              refine lv_iadd hx hb dL_law_182 ?_
              obtain ⟨x_25, nx_25, ex_25, h⟩ := arr_e h
              refine va_sld hx hb hX hbl hbA hS nx_25 dL_law_183 ?_
              refine lv_ni ex_25 ?_
              obtain ⟨r_26, S_27, e_28, h⟩ := bd2_e h
              refine kV_I (As := [.int x_25]) (rest := []) ⟨hx, hb, hml, hown, hts⟩ (tX5_leave l G S M x_25 r_26 S_27 e_28) (cwV 1 hts gL_law_X5_leave rfl rfl rfl ⟨rfl, hdX5_leave⟩ ⟨Nat.le_of_ble_eq_true rfl, Nat.le_of_ble_eq_true rfl⟩) (va_recv hK.1 hW.1 (ci := 5) (q0 := 154) rfl lkT) hK hW hS hA rfl hl.1 rfl (Nat.le_of_ble_eq_true rfl) dL_law_184 ⟨Nat.le_of_ble_eq_true rfl, Nat.le_of_ble_eq_true rfl⟩ (fun H locs hW hS => ?_)
              refine lv_aload_n hx hb dL_law_187 rfl (lv_at hl 2 rfl) ?_
              refine lv_aload_n hx hb dL_law_188 rfl (lv_at hl 0 rfl) ?_
              refine lv_iload_n hx hb dL_law_189 rfl (lv_at hl 3 rfl) ?_
              refine lv_iconst (v := 1) hx hb dL_law_190 (by decide) ?_
              refine lv_iadd hx hb dL_law_191 ?_
              obtain ⟨x_29, nx_29, ex_29, h⟩ := arr_e h
              refine va_sld hx hb hX hbl hbA hS nx_29 dL_law_192 ?_
              refine lv_ni ex_29 ?_
              obtain ⟨r_30, M_31, e_32, h⟩ := bd2_e h
              refine kV_I (As := [.int x_29]) (rest := [.int r_26]) ⟨hx, hb, hml, hown, hts⟩ (tX6_leave l G S_27 M x_29 r_30 M_31 e_32) (cwV 1 hts gL_law_X6_leave rfl rfl rfl ⟨rfl, hdX6_leave⟩ ⟨Nat.le_of_ble_eq_true rfl, Nat.le_of_ble_eq_true rfl⟩) (va_recv hK.1 hW.1 (ci := 6) (q0 := 159) rfl lkM) hK hW hS hA rfl hl.1 rfl (Nat.le_of_ble_eq_true rfl) dL_law_193 ⟨Nat.le_of_ble_eq_true rfl, Nat.le_of_ble_eq_true rfl⟩ (fun H locs hW hS => ?_)
              refine lv_icmp_eq (tgt := 797) hx hb dL_law_196 (by decide) (fun c_33 => ?_) (fun c_33 => ?_)
              · have h := ite_t c_33 h
                exact B797 _ _ S_27 M_31 hW hS ls l3 (lv_sub hl [0, 1, 2, 3] rfl) h
              · have h := ite_f c_33 h
                refine lv_iconst (v := 0) hx hb dL_law_199 (by decide) ?_
                cases h
            · have h := ite_f c_24 h
              by_cases c_34 : (((x_2 : Int32) &&& 31) : Int32) = 3
              · have h := ite_t c_34 h
                refine lv_tableIn (off := 168) (tgt := 201) hx hb dL_law_33 (by rw [c_34]; decide) (by rw [c_34]; decide) (by rw [c_34]; rfl) (by decide) ?_
                refine lv_aload_n hx hb dL_law_201 rfl (lv_at hl 1 rfl) ?_
                refine lv_aload_n hx hb dL_law_202 rfl (lv_at hl 0 rfl) ?_
                refine lv_iload_n hx hb dL_law_203 rfl (lv_at hl 3 rfl) ?_
                refine lv_iconst (v := 1) hx hb dL_law_204 (by decide) ?_
                refine lv_iadd hx hb dL_law_205 ?_
                obtain ⟨x_35, nx_35, ex_35, h⟩ := arr_e h
                refine va_sld hx hb hX hbl hbA hS nx_35 dL_law_206 ?_
                refine lv_ni ex_35 ?_
                refine lv_aload_n hx hb dL_law_207 rfl (lv_at hl 0 rfl) ?_
                refine lv_iload_n hx hb dL_law_208 rfl (lv_at hl 3 rfl) ?_
                refine lv_iconst (v := 2) hx hb dL_law_209 (by decide) ?_
                refine lv_iadd hx hb dL_law_210 ?_
                obtain ⟨x_36, nx_36, ex_36, h⟩ := arr_e h
                refine va_sld hx hb hX hbl hbA hS nx_36 dL_law_211 ?_
                refine lv_ni ex_36 ?_
                refine lv_aload_n hx hb dL_law_212 rfl (lv_at hl 0 rfl) ?_
                refine lv_iload_n hx hb dL_law_213 rfl (lv_at hl 3 rfl) ?_
                refine lv_iconst (v := 3) hx hb dL_law_214 (by decide) ?_
                refine lv_iadd hx hb dL_law_215 ?_
                obtain ⟨x_37, nx_37, ex_37, h⟩ := arr_e h
                refine va_sld hx hb hX hbl hbA hS nx_37 dL_law_216 ?_
                refine lv_ni ex_37 ?_
                obtain ⟨r_38, S_39, e_40, h⟩ := bd2_e h
                refine kV_I (As := [.int x_35, .int x_36, .int x_37]) (rest := []) ⟨hx, hb, hml, hown, hts⟩ (tX5_moveTent l G S M x_35 x_36 x_37 r_38 S_39 e_40) (cwV 3 hts gL_law_X5_moveTent rfl rfl rfl ⟨rfl, hdX5_moveTent⟩ ⟨Nat.le_of_ble_eq_true rfl, Nat.le_of_ble_eq_true rfl⟩) (va_recv hK.1 hW.1 (ci := 5) (q0 := 154) rfl lkT) hK hW hS hA rfl hl.1 rfl (Nat.le_of_ble_eq_true rfl) dL_law_217 ⟨Nat.le_of_ble_eq_true rfl, Nat.le_of_ble_eq_true rfl⟩ (fun H locs hW hS => ?_)
                refine lv_aload_n hx hb dL_law_220 rfl (lv_at hl 2 rfl) ?_
                refine lv_aload_n hx hb dL_law_221 rfl (lv_at hl 0 rfl) ?_
                refine lv_iload_n hx hb dL_law_222 rfl (lv_at hl 3 rfl) ?_
                refine lv_iconst (v := 1) hx hb dL_law_223 (by decide) ?_
                refine lv_iadd hx hb dL_law_224 ?_
                obtain ⟨x_41, nx_41, ex_41, h⟩ := arr_e h
                refine va_sld hx hb hX hbl hbA hS nx_41 dL_law_225 ?_
                refine lv_ni ex_41 ?_
                refine lv_aload_n hx hb dL_law_226 rfl (lv_at hl 0 rfl) ?_
                refine lv_iload_n hx hb dL_law_227 rfl (lv_at hl 3 rfl) ?_
                refine lv_iconst (v := 2) hx hb dL_law_228 (by decide) ?_
                refine lv_iadd hx hb dL_law_229 ?_
                obtain ⟨x_42, nx_42, ex_42, h⟩ := arr_e h
                refine va_sld hx hb hX hbl hbA hS nx_42 dL_law_230 ?_
                refine lv_ni ex_42 ?_
                refine lv_aload_n hx hb dL_law_231 rfl (lv_at hl 0 rfl) ?_
                refine lv_iload_n hx hb dL_law_232 rfl (lv_at hl 3 rfl) ?_
                refine lv_iconst (v := 3) hx hb dL_law_233 (by decide) ?_
                refine lv_iadd hx hb dL_law_234 ?_
                obtain ⟨x_43, nx_43, ex_43, h⟩ := arr_e h
                refine va_sld hx hb hX hbl hbA hS nx_43 dL_law_235 ?_
                refine lv_ni ex_43 ?_
                obtain ⟨r_44, M_45, e_46, h⟩ := bd2_e h
                refine kV_I (As := [.int x_41, .int x_42, .int x_43]) (rest := [.int r_38]) ⟨hx, hb, hml, hown, hts⟩ (tX6_moveTent l G S_39 M x_41 x_42 x_43 r_44 M_45 e_46) (cwV 3 hts gL_law_X6_moveTent rfl rfl rfl ⟨rfl, hdX6_moveTent⟩ ⟨Nat.le_of_ble_eq_true rfl, Nat.le_of_ble_eq_true rfl⟩) (va_recv hK.1 hW.1 (ci := 6) (q0 := 159) rfl lkM) hK hW hS hA rfl hl.1 rfl (Nat.le_of_ble_eq_true rfl) dL_law_236 ⟨Nat.le_of_ble_eq_true rfl, Nat.le_of_ble_eq_true rfl⟩ (fun H locs hW hS => ?_)
                refine lv_icmp_eq (tgt := 797) hx hb dL_law_239 (by decide) (fun c_47 => ?_) (fun c_47 => ?_)
                · have h := ite_t c_47 h
                  exact B797 _ _ S_39 M_45 hW hS ls l3 (lv_sub hl [0, 1, 2, 3] rfl) h
                · have h := ite_f c_47 h
                  refine lv_iconst (v := 0) hx hb dL_law_242 (by decide) ?_
                  cases h
              · have h := ite_f c_34 h
                by_cases c_48 : (((x_2 : Int32) &&& 31) : Int32) = 4
                · have h := ite_t c_48 h
                  refine lv_tableIn (off := 211) (tgt := 244) hx hb dL_law_33 (by rw [c_48]; decide) (by rw [c_48]; decide) (by rw [c_48]; rfl) (by decide) ?_
                  refine lv_aload_n hx hb dL_law_244 rfl (lv_at hl 1 rfl) ?_
                  refine lv_aload_n hx hb dL_law_245 rfl (lv_at hl 0 rfl) ?_
                  refine lv_iload_n hx hb dL_law_246 rfl (lv_at hl 3 rfl) ?_
                  refine lv_iconst (v := 1) hx hb dL_law_247 (by decide) ?_
                  refine lv_iadd hx hb dL_law_248 ?_
                  obtain ⟨x_49, nx_49, ex_49, h⟩ := arr_e h
                  refine va_sld hx hb hX hbl hbA hS nx_49 dL_law_249 ?_
                  refine lv_ni ex_49 ?_
                  refine lv_aload_n hx hb dL_law_250 rfl (lv_at hl 0 rfl) ?_
                  refine lv_iload_n hx hb dL_law_251 rfl (lv_at hl 3 rfl) ?_
                  refine lv_iconst (v := 2) hx hb dL_law_252 (by decide) ?_
                  refine lv_iadd hx hb dL_law_253 ?_
                  obtain ⟨x_50, nx_50, ex_50, h⟩ := arr_e h
                  refine va_sld hx hb hX hbl hbA hS nx_50 dL_law_254 ?_
                  refine lv_ni ex_50 ?_
                  refine lv_aload_n hx hb dL_law_255 rfl (lv_at hl 0 rfl) ?_
                  refine lv_iload_n hx hb dL_law_256 rfl (lv_at hl 3 rfl) ?_
                  refine lv_iconst (v := 3) hx hb dL_law_257 (by decide) ?_
                  refine lv_iadd hx hb dL_law_258 ?_
                  obtain ⟨x_51, nx_51, ex_51, h⟩ := arr_e h
                  refine va_sld hx hb hX hbl hbA hS nx_51 dL_law_259 ?_
                  refine lv_ni ex_51 ?_
                  obtain ⟨r_52, S_53, e_54, h⟩ := bd2_e h
                  refine kV_I (As := [.int x_49, .int x_50, .int x_51]) (rest := []) ⟨hx, hb, hml, hown, hts⟩ (tX5_handOver l G S M x_49 x_50 x_51 r_52 S_53 e_54) (cwV 3 hts gL_law_X5_handOver rfl rfl rfl ⟨rfl, hdX5_handOver⟩ ⟨Nat.le_of_ble_eq_true rfl, Nat.le_of_ble_eq_true rfl⟩) (va_recv hK.1 hW.1 (ci := 5) (q0 := 154) rfl lkT) hK hW hS hA rfl hl.1 rfl (Nat.le_of_ble_eq_true rfl) dL_law_260 ⟨Nat.le_of_ble_eq_true rfl, Nat.le_of_ble_eq_true rfl⟩ (fun H locs hW hS => ?_)
                  refine lv_aload_n hx hb dL_law_263 rfl (lv_at hl 2 rfl) ?_
                  refine lv_aload_n hx hb dL_law_264 rfl (lv_at hl 0 rfl) ?_
                  refine lv_iload_n hx hb dL_law_265 rfl (lv_at hl 3 rfl) ?_
                  refine lv_iconst (v := 1) hx hb dL_law_266 (by decide) ?_
                  refine lv_iadd hx hb dL_law_267 ?_
                  obtain ⟨x_55, nx_55, ex_55, h⟩ := arr_e h
                  refine va_sld hx hb hX hbl hbA hS nx_55 dL_law_268 ?_
                  refine lv_ni ex_55 ?_
                  refine lv_aload_n hx hb dL_law_269 rfl (lv_at hl 0 rfl) ?_
                  refine lv_iload_n hx hb dL_law_270 rfl (lv_at hl 3 rfl) ?_
                  refine lv_iconst (v := 2) hx hb dL_law_271 (by decide) ?_
                  refine lv_iadd hx hb dL_law_272 ?_
                  obtain ⟨x_56, nx_56, ex_56, h⟩ := arr_e h
                  refine va_sld hx hb hX hbl hbA hS nx_56 dL_law_273 ?_
                  refine lv_ni ex_56 ?_
                  refine lv_aload_n hx hb dL_law_274 rfl (lv_at hl 0 rfl) ?_
                  refine lv_iload_n hx hb dL_law_275 rfl (lv_at hl 3 rfl) ?_
                  refine lv_iconst (v := 3) hx hb dL_law_276 (by decide) ?_
                  refine lv_iadd hx hb dL_law_277 ?_
                  obtain ⟨x_57, nx_57, ex_57, h⟩ := arr_e h
                  refine va_sld hx hb hX hbl hbA hS nx_57 dL_law_278 ?_
                  refine lv_ni ex_57 ?_
                  obtain ⟨r_58, M_59, e_60, h⟩ := bd2_e h
                  refine kV_I (As := [.int x_55, .int x_56, .int x_57]) (rest := [.int r_52]) ⟨hx, hb, hml, hown, hts⟩ (tX6_handOver l G S_53 M x_55 x_56 x_57 r_58 M_59 e_60) (cwV 3 hts gL_law_X6_handOver rfl rfl rfl ⟨rfl, hdX6_handOver⟩ ⟨Nat.le_of_ble_eq_true rfl, Nat.le_of_ble_eq_true rfl⟩) (va_recv hK.1 hW.1 (ci := 6) (q0 := 159) rfl lkM) hK hW hS hA rfl hl.1 rfl (Nat.le_of_ble_eq_true rfl) dL_law_279 ⟨Nat.le_of_ble_eq_true rfl, Nat.le_of_ble_eq_true rfl⟩ (fun H locs hW hS => ?_)
                  refine lv_icmp_eq (tgt := 797) hx hb dL_law_282 (by decide) (fun c_61 => ?_) (fun c_61 => ?_)
                  · have h := ite_t c_61 h
                    exact B797 _ _ S_53 M_59 hW hS ls l3 (lv_sub hl [0, 1, 2, 3] rfl) h
                  · have h := ite_f c_61 h
                    refine lv_iconst (v := 0) hx hb dL_law_285 (by decide) ?_
                    cases h
                · have h := ite_f c_48 h
                  by_cases c_62 : (((x_2 : Int32) &&& 31) : Int32) = 5
                  · have h := ite_t c_62 h
                    refine lv_tableIn (off := 254) (tgt := 287) hx hb dL_law_33 (by rw [c_62]; decide) (by rw [c_62]; decide) (by rw [c_62]; rfl) (by decide) ?_
                    refine lv_aload_n hx hb dL_law_287 rfl (lv_at hl 1 rfl) ?_
                    refine lv_aload_n hx hb dL_law_288 rfl (lv_at hl 0 rfl) ?_
                    refine lv_iload_n hx hb dL_law_289 rfl (lv_at hl 3 rfl) ?_
                    refine lv_iconst (v := 1) hx hb dL_law_290 (by decide) ?_
                    refine lv_iadd hx hb dL_law_291 ?_
                    obtain ⟨x_63, nx_63, ex_63, h⟩ := arr_e h
                    refine va_sld hx hb hX hbl hbA hS nx_63 dL_law_292 ?_
                    refine lv_ni ex_63 ?_
                    refine lv_aload_n hx hb dL_law_293 rfl (lv_at hl 0 rfl) ?_
                    refine lv_iload_n hx hb dL_law_294 rfl (lv_at hl 3 rfl) ?_
                    refine lv_iconst (v := 2) hx hb dL_law_295 (by decide) ?_
                    refine lv_iadd hx hb dL_law_296 ?_
                    obtain ⟨x_64, nx_64, ex_64, h⟩ := arr_e h
                    refine va_sld hx hb hX hbl hbA hS nx_64 dL_law_297 ?_
                    refine lv_ni ex_64 ?_
                    refine lv_aload_n hx hb dL_law_298 rfl (lv_at hl 0 rfl) ?_
                    refine lv_iload_n hx hb dL_law_299 rfl (lv_at hl 3 rfl) ?_
                    refine lv_iconst (v := 3) hx hb dL_law_300 (by decide) ?_
                    refine lv_iadd hx hb dL_law_301 ?_
                    obtain ⟨x_65, nx_65, ex_65, h⟩ := arr_e h
                    refine va_sld hx hb hX hbl hbA hS nx_65 dL_law_302 ?_
                    refine lv_ni ex_65 ?_
                    obtain ⟨r_66, S_67, e_68, h⟩ := bd2_e h
                    refine kV_I (As := [.int x_63, .int x_64, .int x_65]) (rest := []) ⟨hx, hb, hml, hown, hts⟩ (tX5_lay l G S M x_63 x_64 x_65 r_66 S_67 e_68) (cwV 3 hts gL_law_X5_lay rfl rfl rfl ⟨rfl, hdX5_lay⟩ ⟨Nat.le_of_ble_eq_true rfl, Nat.le_of_ble_eq_true rfl⟩) (va_recv hK.1 hW.1 (ci := 5) (q0 := 154) rfl lkT) hK hW hS hA rfl hl.1 rfl (Nat.le_of_ble_eq_true rfl) dL_law_303 ⟨Nat.le_of_ble_eq_true rfl, Nat.le_of_ble_eq_true rfl⟩ (fun H locs hW hS => ?_)
                    refine lv_aload_n hx hb dL_law_306 rfl (lv_at hl 2 rfl) ?_
                    refine lv_aload_n hx hb dL_law_307 rfl (lv_at hl 0 rfl) ?_
                    refine lv_iload_n hx hb dL_law_308 rfl (lv_at hl 3 rfl) ?_
                    refine lv_iconst (v := 1) hx hb dL_law_309 (by decide) ?_
                    refine lv_iadd hx hb dL_law_310 ?_
                    obtain ⟨x_69, nx_69, ex_69, h⟩ := arr_e h
                    refine va_sld hx hb hX hbl hbA hS nx_69 dL_law_311 ?_
                    refine lv_ni ex_69 ?_
                    refine lv_aload_n hx hb dL_law_312 rfl (lv_at hl 0 rfl) ?_
                    refine lv_iload_n hx hb dL_law_313 rfl (lv_at hl 3 rfl) ?_
                    refine lv_iconst (v := 2) hx hb dL_law_314 (by decide) ?_
                    refine lv_iadd hx hb dL_law_315 ?_
                    obtain ⟨x_70, nx_70, ex_70, h⟩ := arr_e h
                    refine va_sld hx hb hX hbl hbA hS nx_70 dL_law_316 ?_
                    refine lv_ni ex_70 ?_
                    refine lv_aload_n hx hb dL_law_317 rfl (lv_at hl 0 rfl) ?_
                    refine lv_iload_n hx hb dL_law_318 rfl (lv_at hl 3 rfl) ?_
                    refine lv_iconst (v := 3) hx hb dL_law_319 (by decide) ?_
                    refine lv_iadd hx hb dL_law_320 ?_
                    obtain ⟨x_71, nx_71, ex_71, h⟩ := arr_e h
                    refine va_sld hx hb hX hbl hbA hS nx_71 dL_law_321 ?_
                    refine lv_ni ex_71 ?_
                    obtain ⟨r_72, M_73, e_74, h⟩ := bd2_e h
                    refine kV_I (As := [.int x_69, .int x_70, .int x_71]) (rest := [.int r_66]) ⟨hx, hb, hml, hown, hts⟩ (tX6_lay l G S_67 M x_69 x_70 x_71 r_72 M_73 e_74) (cwV 3 hts gL_law_X6_lay rfl rfl rfl ⟨rfl, hdX6_lay⟩ ⟨Nat.le_of_ble_eq_true rfl, Nat.le_of_ble_eq_true rfl⟩) (va_recv hK.1 hW.1 (ci := 6) (q0 := 159) rfl lkM) hK hW hS hA rfl hl.1 rfl (Nat.le_of_ble_eq_true rfl) dL_law_322 ⟨Nat.le_of_ble_eq_true rfl, Nat.le_of_ble_eq_true rfl⟩ (fun H locs hW hS => ?_)
                    refine lv_icmp_eq (tgt := 797) hx hb dL_law_325 (by decide) (fun c_75 => ?_) (fun c_75 => ?_)
                    · have h := ite_t c_75 h
                      exact B797 _ _ S_67 M_73 hW hS ls l3 (lv_sub hl [0, 1, 2, 3] rfl) h
                    · have h := ite_f c_75 h
                      refine lv_iconst (v := 0) hx hb dL_law_328 (by decide) ?_
                      cases h
                  · have h := ite_f c_62 h
                    by_cases c_76 : (((x_2 : Int32) &&& 31) : Int32) = 6
                    · have h := ite_t c_76 h
                      refine lv_tableIn (off := 297) (tgt := 330) hx hb dL_law_33 (by rw [c_76]; decide) (by rw [c_76]; decide) (by rw [c_76]; rfl) (by decide) ?_
                      refine lv_aload_n hx hb dL_law_330 rfl (lv_at hl 1 rfl) ?_
                      refine lv_aload_n hx hb dL_law_331 rfl (lv_at hl 0 rfl) ?_
                      refine lv_iload_n hx hb dL_law_332 rfl (lv_at hl 3 rfl) ?_
                      refine lv_iconst (v := 1) hx hb dL_law_333 (by decide) ?_
                      refine lv_iadd hx hb dL_law_334 ?_
                      obtain ⟨x_77, nx_77, ex_77, h⟩ := arr_e h
                      refine va_sld hx hb hX hbl hbA hS nx_77 dL_law_335 ?_
                      refine lv_ni ex_77 ?_
                      refine lv_aload_n hx hb dL_law_336 rfl (lv_at hl 0 rfl) ?_
                      refine lv_iload_n hx hb dL_law_337 rfl (lv_at hl 3 rfl) ?_
                      refine lv_iconst (v := 2) hx hb dL_law_338 (by decide) ?_
                      refine lv_iadd hx hb dL_law_339 ?_
                      obtain ⟨x_78, nx_78, ex_78, h⟩ := arr_e h
                      refine va_sld hx hb hX hbl hbA hS nx_78 dL_law_340 ?_
                      refine lv_ni ex_78 ?_
                      refine lv_aload_n hx hb dL_law_341 rfl (lv_at hl 0 rfl) ?_
                      refine lv_iload_n hx hb dL_law_342 rfl (lv_at hl 3 rfl) ?_
                      refine lv_iconst (v := 3) hx hb dL_law_343 (by decide) ?_
                      refine lv_iadd hx hb dL_law_344 ?_
                      obtain ⟨x_79, nx_79, ex_79, h⟩ := arr_e h
                      refine va_sld hx hb hX hbl hbA hS nx_79 dL_law_345 ?_
                      refine lv_ni ex_79 ?_
                      obtain ⟨r_80, S_81, e_82, h⟩ := bd2_e h
                      refine kV_I (As := [.int x_77, .int x_78, .int x_79]) (rest := []) ⟨hx, hb, hml, hown, hts⟩ (tX5_carry l G S M x_77 x_78 x_79 r_80 S_81 e_82) (cwV 3 hts gL_law_X5_carry rfl rfl rfl ⟨rfl, hdX5_carry⟩ ⟨Nat.le_of_ble_eq_true rfl, Nat.le_of_ble_eq_true rfl⟩) (va_recv hK.1 hW.1 (ci := 5) (q0 := 154) rfl lkT) hK hW hS hA rfl hl.1 rfl (Nat.le_of_ble_eq_true rfl) dL_law_346 ⟨Nat.le_of_ble_eq_true rfl, Nat.le_of_ble_eq_true rfl⟩ (fun H locs hW hS => ?_)
                      refine lv_aload_n hx hb dL_law_349 rfl (lv_at hl 2 rfl) ?_
                      refine lv_aload_n hx hb dL_law_350 rfl (lv_at hl 0 rfl) ?_
                      refine lv_iload_n hx hb dL_law_351 rfl (lv_at hl 3 rfl) ?_
                      refine lv_iconst (v := 1) hx hb dL_law_352 (by decide) ?_
                      refine lv_iadd hx hb dL_law_353 ?_
                      obtain ⟨x_83, nx_83, ex_83, h⟩ := arr_e h
                      refine va_sld hx hb hX hbl hbA hS nx_83 dL_law_354 ?_
                      refine lv_ni ex_83 ?_
                      refine lv_aload_n hx hb dL_law_355 rfl (lv_at hl 0 rfl) ?_
                      refine lv_iload_n hx hb dL_law_356 rfl (lv_at hl 3 rfl) ?_
                      refine lv_iconst (v := 2) hx hb dL_law_357 (by decide) ?_
                      refine lv_iadd hx hb dL_law_358 ?_
                      obtain ⟨x_84, nx_84, ex_84, h⟩ := arr_e h
                      refine va_sld hx hb hX hbl hbA hS nx_84 dL_law_359 ?_
                      refine lv_ni ex_84 ?_
                      refine lv_aload_n hx hb dL_law_360 rfl (lv_at hl 0 rfl) ?_
                      refine lv_iload_n hx hb dL_law_361 rfl (lv_at hl 3 rfl) ?_
                      refine lv_iconst (v := 3) hx hb dL_law_362 (by decide) ?_
                      refine lv_iadd hx hb dL_law_363 ?_
                      obtain ⟨x_85, nx_85, ex_85, h⟩ := arr_e h
                      refine va_sld hx hb hX hbl hbA hS nx_85 dL_law_364 ?_
                      refine lv_ni ex_85 ?_
                      obtain ⟨r_86, M_87, e_88, h⟩ := bd2_e h
                      refine kV_I (As := [.int x_83, .int x_84, .int x_85]) (rest := [.int r_80]) ⟨hx, hb, hml, hown, hts⟩ (tX6_carry l G S_81 M x_83 x_84 x_85 r_86 M_87 e_88) (cwV 3 hts gL_law_X6_carry rfl rfl rfl ⟨rfl, hdX6_carry⟩ ⟨Nat.le_of_ble_eq_true rfl, Nat.le_of_ble_eq_true rfl⟩) (va_recv hK.1 hW.1 (ci := 6) (q0 := 159) rfl lkM) hK hW hS hA rfl hl.1 rfl (Nat.le_of_ble_eq_true rfl) dL_law_365 ⟨Nat.le_of_ble_eq_true rfl, Nat.le_of_ble_eq_true rfl⟩ (fun H locs hW hS => ?_)
                      refine lv_icmp_eq (tgt := 797) hx hb dL_law_368 (by decide) (fun c_89 => ?_) (fun c_89 => ?_)
                      · have h := ite_t c_89 h
                        exact B797 _ _ S_81 M_87 hW hS ls l3 (lv_sub hl [0, 1, 2, 3] rfl) h
                      · have h := ite_f c_89 h
                        refine lv_iconst (v := 0) hx hb dL_law_371 (by decide) ?_
                        cases h
                    · have h := ite_f c_76 h
                      by_cases c_90 : (((x_2 : Int32) &&& 31) : Int32) = 7
                      · have h := ite_t c_90 h
                        refine lv_tableIn (off := 340) (tgt := 373) hx hb dL_law_33 (by rw [c_90]; decide) (by rw [c_90]; decide) (by rw [c_90]; rfl) (by decide) ?_
                        refine lv_aload_n hx hb dL_law_373 rfl (lv_at hl 1 rfl) ?_
                        refine lv_aload_n hx hb dL_law_374 rfl (lv_at hl 0 rfl) ?_
                        refine lv_iload_n hx hb dL_law_375 rfl (lv_at hl 3 rfl) ?_
                        refine lv_iconst (v := 1) hx hb dL_law_376 (by decide) ?_
                        refine lv_iadd hx hb dL_law_377 ?_
                        obtain ⟨x_91, nx_91, ex_91, h⟩ := arr_e h
                        refine va_sld hx hb hX hbl hbA hS nx_91 dL_law_378 ?_
                        refine lv_ni ex_91 ?_
                        refine lv_i2c hx hb dL_law_379 rfl ?_
                        obtain ⟨r_92, S_93, e_94, h⟩ := bd2_e h
                        refine kV_I (As := [.int (((x_91).toUInt32 % 65536).toInt32)]) (rest := []) ⟨hx, hb, hml, hown, hts⟩ (tX5_type l G S M (((x_91).toUInt32 % 65536).toInt32) r_92 S_93 e_94) (cwV 1 hts gL_law_X5_type rfl rfl rfl ⟨rfl, hdX5_type⟩ ⟨Nat.le_of_ble_eq_true rfl, Nat.le_of_ble_eq_true rfl⟩) (va_recv hK.1 hW.1 (ci := 5) (q0 := 154) rfl lkT) hK hW hS hA rfl hl.1 rfl (Nat.le_of_ble_eq_true rfl) dL_law_380 ⟨Nat.le_of_ble_eq_true rfl, Nat.le_of_ble_eq_true rfl⟩ (fun H locs hW hS => ?_)
                        refine lv_aload_n hx hb dL_law_383 rfl (lv_at hl 2 rfl) ?_
                        refine lv_aload_n hx hb dL_law_384 rfl (lv_at hl 0 rfl) ?_
                        refine lv_iload_n hx hb dL_law_385 rfl (lv_at hl 3 rfl) ?_
                        refine lv_iconst (v := 1) hx hb dL_law_386 (by decide) ?_
                        refine lv_iadd hx hb dL_law_387 ?_
                        obtain ⟨x_95, nx_95, ex_95, h⟩ := arr_e h
                        refine va_sld hx hb hX hbl hbA hS nx_95 dL_law_388 ?_
                        refine lv_ni ex_95 ?_
                        refine lv_i2c hx hb dL_law_389 rfl ?_
                        obtain ⟨r_96, M_97, e_98, h⟩ := bd2_e h
                        refine kV_I (As := [.int (((x_95).toUInt32 % 65536).toInt32)]) (rest := [.int r_92]) ⟨hx, hb, hml, hown, hts⟩ (tX6_type l G S_93 M (((x_95).toUInt32 % 65536).toInt32) r_96 M_97 e_98) (cwV 1 hts gL_law_X6_type rfl rfl rfl ⟨rfl, hdX6_type⟩ ⟨Nat.le_of_ble_eq_true rfl, Nat.le_of_ble_eq_true rfl⟩) (va_recv hK.1 hW.1 (ci := 6) (q0 := 159) rfl lkM) hK hW hS hA rfl hl.1 rfl (Nat.le_of_ble_eq_true rfl) dL_law_390 ⟨Nat.le_of_ble_eq_true rfl, Nat.le_of_ble_eq_true rfl⟩ (fun H locs hW hS => ?_)
                        refine lv_icmp_eq (tgt := 797) hx hb dL_law_393 (by decide) (fun c_99 => ?_) (fun c_99 => ?_)
                        · have h := ite_t c_99 h
                          exact B797 _ _ S_93 M_97 hW hS ls l3 (lv_sub hl [0, 1, 2, 3] rfl) h
                        · have h := ite_f c_99 h
                          refine lv_iconst (v := 0) hx hb dL_law_396 (by decide) ?_
                          cases h
                      · have h := ite_f c_90 h
                        by_cases c_100 : (((x_2 : Int32) &&& 31) : Int32) = 8
                        · have h := ite_t c_100 h
                          refine lv_tableIn (off := 365) (tgt := 398) hx hb dL_law_33 (by rw [c_100]; decide) (by rw [c_100]; decide) (by rw [c_100]; rfl) (by decide) ?_
                          refine lv_aload_n hx hb dL_law_398 rfl (lv_at hl 1 rfl) ?_
                          obtain ⟨r_101, S_102, e_103, h⟩ := bd2_e h
                          refine kV_I (As := []) (rest := []) ⟨hx, hb, hml, hown, hts⟩ (tX5_clearText l G S M r_101 S_102 e_103) (cwV 0 hts gL_law_X5_clearText rfl rfl rfl ⟨rfl, hdX5_clearText⟩ ⟨Nat.le_of_ble_eq_true rfl, Nat.le_of_ble_eq_true rfl⟩) (va_recv hK.1 hW.1 (ci := 5) (q0 := 154) rfl lkT) hK hW hS hA rfl hl.1 rfl (Nat.le_of_ble_eq_true rfl) dL_law_399 ⟨Nat.le_of_ble_eq_true rfl, Nat.le_of_ble_eq_true rfl⟩ (fun H locs hW hS => ?_)
                          refine lv_aload_n hx hb dL_law_402 rfl (lv_at hl 2 rfl) ?_
                          obtain ⟨r_104, M_105, e_106, h⟩ := bd2_e h
                          refine kV_I (As := []) (rest := [.int r_101]) ⟨hx, hb, hml, hown, hts⟩ (tX6_clearText l G S_102 M r_104 M_105 e_106) (cwV 0 hts gL_law_X6_clearText rfl rfl rfl ⟨rfl, hdX6_clearText⟩ ⟨Nat.le_of_ble_eq_true rfl, Nat.le_of_ble_eq_true rfl⟩) (va_recv hK.1 hW.1 (ci := 6) (q0 := 159) rfl lkM) hK hW hS hA rfl hl.1 rfl (Nat.le_of_ble_eq_true rfl) dL_law_403 ⟨Nat.le_of_ble_eq_true rfl, Nat.le_of_ble_eq_true rfl⟩ (fun H locs hW hS => ?_)
                          refine lv_icmp_eq (tgt := 797) hx hb dL_law_406 (by decide) (fun c_107 => ?_) (fun c_107 => ?_)
                          · have h := ite_t c_107 h
                            exact B797 _ _ S_102 M_105 hW hS ls l3 (lv_sub hl [0, 1, 2, 3] rfl) h
                          · have h := ite_f c_107 h
                            refine lv_iconst (v := 0) hx hb dL_law_409 (by decide) ?_
                            cases h
                        · have h := ite_f c_100 h
                          by_cases c_108 : (((x_2 : Int32) &&& 31) : Int32) = 9
                          · have h := ite_t c_108 h
                            refine lv_tableIn (off := 378) (tgt := 411) hx hb dL_law_33 (by rw [c_108]; decide) (by rw [c_108]; decide) (by rw [c_108]; rfl) (by decide) ?_
                            refine lv_aload_n hx hb dL_law_411 rfl (lv_at hl 1 rfl) ?_
                            obtain ⟨r_109, S_110, e_111, h⟩ := bd2_e h
                            refine kV_I (As := []) (rest := []) ⟨hx, hb, hml, hown, hts⟩ (tX5_undo l G S M r_109 S_110 e_111) (cwV 0 hts gL_law_X5_undo rfl rfl rfl ⟨rfl, hdX5_undo⟩ ⟨Nat.le_of_ble_eq_true rfl, Nat.le_of_ble_eq_true rfl⟩) (va_recv hK.1 hW.1 (ci := 5) (q0 := 154) rfl lkT) hK hW hS hA rfl hl.1 rfl (Nat.le_of_ble_eq_true rfl) dL_law_412 ⟨Nat.le_of_ble_eq_true rfl, Nat.le_of_ble_eq_true rfl⟩ (fun H locs hW hS => ?_)
                            refine lv_aload_n hx hb dL_law_415 rfl (lv_at hl 2 rfl) ?_
                            obtain ⟨r_112, M_113, e_114, h⟩ := bd2_e h
                            refine kV_I (As := []) (rest := [.int r_109]) ⟨hx, hb, hml, hown, hts⟩ (tX6_undo l G S_110 M r_112 M_113 e_114) (cwV 0 hts gL_law_X6_undo rfl rfl rfl ⟨rfl, hdX6_undo⟩ ⟨Nat.le_of_ble_eq_true rfl, Nat.le_of_ble_eq_true rfl⟩) (va_recv hK.1 hW.1 (ci := 6) (q0 := 159) rfl lkM) hK hW hS hA rfl hl.1 rfl (Nat.le_of_ble_eq_true rfl) dL_law_416 ⟨Nat.le_of_ble_eq_true rfl, Nat.le_of_ble_eq_true rfl⟩ (fun H locs hW hS => ?_)
                            refine lv_icmp_eq (tgt := 797) hx hb dL_law_419 (by decide) (fun c_115 => ?_) (fun c_115 => ?_)
                            · have h := ite_t c_115 h
                              exact B797 _ _ S_110 M_113 hW hS ls l3 (lv_sub hl [0, 1, 2, 3] rfl) h
                            · have h := ite_f c_115 h
                              refine lv_iconst (v := 0) hx hb dL_law_422 (by decide) ?_
                              cases h
                          · have h := ite_f c_108 h
                            by_cases c_116 : (((x_2 : Int32) &&& 31) : Int32) = 10
                            · have h := ite_t c_116 h
                              refine lv_tableIn (off := 391) (tgt := 424) hx hb dL_law_33 (by rw [c_116]; decide) (by rw [c_116]; decide) (by rw [c_116]; rfl) (by decide) ?_
                              refine lv_aload_n hx hb dL_law_424 rfl (lv_at hl 1 rfl) ?_
                              obtain ⟨r_117, S_118, e_119, h⟩ := bd2_e h
                              refine kV_I (As := []) (rest := []) ⟨hx, hb, hml, hown, hts⟩ (tX5_keep l G S M r_117 S_118 e_119) (cwV 0 hts gL_law_X5_keep rfl rfl rfl ⟨rfl, hdX5_keep⟩ ⟨Nat.le_of_ble_eq_true rfl, Nat.le_of_ble_eq_true rfl⟩) (va_recv hK.1 hW.1 (ci := 5) (q0 := 154) rfl lkT) hK hW hS hA rfl hl.1 rfl (Nat.le_of_ble_eq_true rfl) dL_law_425 ⟨Nat.le_of_ble_eq_true rfl, Nat.le_of_ble_eq_true rfl⟩ (fun H locs hW hS => ?_)
                              refine lv_aload_n hx hb dL_law_428 rfl (lv_at hl 2 rfl) ?_
                              obtain ⟨r_120, M_121, e_122, h⟩ := bd2_e h
                              refine kV_I (As := []) (rest := [.int r_117]) ⟨hx, hb, hml, hown, hts⟩ (tX6_keep l G S_118 M r_120 M_121 e_122) (cwV 0 hts gL_law_X6_keep rfl rfl rfl ⟨rfl, hdX6_keep⟩ ⟨Nat.le_of_ble_eq_true rfl, Nat.le_of_ble_eq_true rfl⟩) (va_recv hK.1 hW.1 (ci := 6) (q0 := 159) rfl lkM) hK hW hS hA rfl hl.1 rfl (Nat.le_of_ble_eq_true rfl) dL_law_429 ⟨Nat.le_of_ble_eq_true rfl, Nat.le_of_ble_eq_true rfl⟩ (fun H locs hW hS => ?_)
                              refine lv_icmp_eq (tgt := 797) hx hb dL_law_432 (by decide) (fun c_123 => ?_) (fun c_123 => ?_)
                              · have h := ite_t c_123 h
                                exact B797 _ _ S_118 M_121 hW hS ls l3 (lv_sub hl [0, 1, 2, 3] rfl) h
                              · have h := ite_f c_123 h
                                refine lv_iconst (v := 0) hx hb dL_law_435 (by decide) ?_
                                cases h
                            · have h := ite_f c_116 h
                              by_cases c_124 : (((x_2 : Int32) &&& 31) : Int32) = 11
                              · have h := ite_t c_124 h
                                refine lv_tableIn (off := 404) (tgt := 437) hx hb dL_law_33 (by rw [c_124]; decide) (by rw [c_124]; decide) (by rw [c_124]; rfl) (by decide) ?_
                                refine lv_aload_n hx hb dL_law_437 rfl (lv_at hl 1 rfl) ?_
                                obtain ⟨r_125, S_126, e_127, h⟩ := bd2_e h
                                refine kV_I (As := []) (rest := []) ⟨hx, hb, hml, hown, hts⟩ (tX5_restore l G S M r_125 S_126 e_127) (cwV 0 hts gL_law_X5_restore rfl rfl rfl ⟨rfl, hdX5_restore⟩ ⟨Nat.le_of_ble_eq_true rfl, Nat.le_of_ble_eq_true rfl⟩) (va_recv hK.1 hW.1 (ci := 5) (q0 := 154) rfl lkT) hK hW hS hA rfl hl.1 rfl (Nat.le_of_ble_eq_true rfl) dL_law_438 ⟨Nat.le_of_ble_eq_true rfl, Nat.le_of_ble_eq_true rfl⟩ (fun H locs hW hS => ?_)
                                refine lv_aload_n hx hb dL_law_441 rfl (lv_at hl 2 rfl) ?_
                                obtain ⟨r_128, M_129, e_130, h⟩ := bd2_e h
                                refine kV_I (As := []) (rest := [.int r_125]) ⟨hx, hb, hml, hown, hts⟩ (tX6_restore l G S_126 M r_128 M_129 e_130) (cwV 0 hts gL_law_X6_restore rfl rfl rfl ⟨rfl, hdX6_restore⟩ ⟨Nat.le_of_ble_eq_true rfl, Nat.le_of_ble_eq_true rfl⟩) (va_recv hK.1 hW.1 (ci := 6) (q0 := 159) rfl lkM) hK hW hS hA rfl hl.1 rfl (Nat.le_of_ble_eq_true rfl) dL_law_442 ⟨Nat.le_of_ble_eq_true rfl, Nat.le_of_ble_eq_true rfl⟩ (fun H locs hW hS => ?_)
                                refine lv_icmp_eq (tgt := 797) hx hb dL_law_445 (by decide) (fun c_131 => ?_) (fun c_131 => ?_)
                                · have h := ite_t c_131 h
                                  exact B797 _ _ S_126 M_129 hW hS ls l3 (lv_sub hl [0, 1, 2, 3] rfl) h
                                · have h := ite_f c_131 h
                                  refine lv_iconst (v := 0) hx hb dL_law_448 (by decide) ?_
                                  cases h
                              · have h := ite_f c_124 h
                                by_cases c_132 : (((x_2 : Int32) &&& 31) : Int32) = 12
                                · have h := ite_t c_132 h
                                  refine lv_tableIn (off := 417) (tgt := 450) hx hb dL_law_33 (by rw [c_132]; decide) (by rw [c_132]; decide) (by rw [c_132]; rfl) (by decide) ?_
                                  refine lv_aload_n hx hb dL_law_450 rfl (lv_at hl 1 rfl) ?_
                                  refine lv_aload_n hx hb dL_law_451 rfl (lv_at hl 0 rfl) ?_
                                  refine lv_iload_n hx hb dL_law_452 rfl (lv_at hl 3 rfl) ?_
                                  refine lv_iconst (v := 1) hx hb dL_law_453 (by decide) ?_
                                  refine lv_iadd hx hb dL_law_454 ?_
                                  obtain ⟨x_133, nx_133, ex_133, h⟩ := arr_e h
                                  refine va_sld hx hb hX hbl hbA hS nx_133 dL_law_455 ?_
                                  refine lv_ni ex_133 ?_
                                  refine lv_aload_n hx hb dL_law_456 rfl (lv_at hl 0 rfl) ?_
                                  refine lv_iload_n hx hb dL_law_457 rfl (lv_at hl 3 rfl) ?_
                                  refine lv_iconst (v := 2) hx hb dL_law_458 (by decide) ?_
                                  refine lv_iadd hx hb dL_law_459 ?_
                                  obtain ⟨x_134, nx_134, ex_134, h⟩ := arr_e h
                                  refine va_sld hx hb hX hbl hbA hS nx_134 dL_law_460 ?_
                                  refine lv_ni ex_134 ?_
                                  refine lv_aload_n hx hb dL_law_461 rfl (lv_at hl 0 rfl) ?_
                                  refine lv_iload_n hx hb dL_law_462 rfl (lv_at hl 3 rfl) ?_
                                  refine lv_iconst (v := 3) hx hb dL_law_463 (by decide) ?_
                                  refine lv_iadd hx hb dL_law_464 ?_
                                  obtain ⟨x_135, nx_135, ex_135, h⟩ := arr_e h
                                  refine va_sld hx hb hX hbl hbA hS nx_135 dL_law_465 ?_
                                  refine lv_ni ex_135 ?_
                                  obtain ⟨r_136, e_137, h⟩ := bnd_e h
                                  refine kV_I (As := [.int x_133, .int x_134, .int x_135]) (rest := []) ⟨hx, hb, hml, hown, hts⟩ (tX5_plot l G S M x_133 x_134 x_135 r_136 e_137) (cwV 3 hts gL_law_X5_plot rfl rfl rfl ⟨rfl, hdX5_plot⟩ ⟨Nat.le_of_ble_eq_true rfl, Nat.le_of_ble_eq_true rfl⟩) (va_recv hK.1 hW.1 (ci := 5) (q0 := 154) rfl lkT) hK hW hS hA rfl hl.1 rfl (Nat.le_of_ble_eq_true rfl) dL_law_466 ⟨Nat.le_of_ble_eq_true rfl, Nat.le_of_ble_eq_true rfl⟩ (fun H locs hW hS => ?_)
                                  refine lv_aload_n hx hb dL_law_469 rfl (lv_at hl 2 rfl) ?_
                                  refine lv_aload_n hx hb dL_law_470 rfl (lv_at hl 0 rfl) ?_
                                  refine lv_iload_n hx hb dL_law_471 rfl (lv_at hl 3 rfl) ?_
                                  refine lv_iconst (v := 1) hx hb dL_law_472 (by decide) ?_
                                  refine lv_iadd hx hb dL_law_473 ?_
                                  obtain ⟨x_138, nx_138, ex_138, h⟩ := arr_e h
                                  refine va_sld hx hb hX hbl hbA hS nx_138 dL_law_474 ?_
                                  refine lv_ni ex_138 ?_
                                  refine lv_aload_n hx hb dL_law_475 rfl (lv_at hl 0 rfl) ?_
                                  refine lv_iload_n hx hb dL_law_476 rfl (lv_at hl 3 rfl) ?_
                                  refine lv_iconst (v := 2) hx hb dL_law_477 (by decide) ?_
                                  refine lv_iadd hx hb dL_law_478 ?_
                                  obtain ⟨x_139, nx_139, ex_139, h⟩ := arr_e h
                                  refine va_sld hx hb hX hbl hbA hS nx_139 dL_law_479 ?_
                                  refine lv_ni ex_139 ?_
                                  refine lv_aload_n hx hb dL_law_480 rfl (lv_at hl 0 rfl) ?_
                                  refine lv_iload_n hx hb dL_law_481 rfl (lv_at hl 3 rfl) ?_
                                  refine lv_iconst (v := 3) hx hb dL_law_482 (by decide) ?_
                                  refine lv_iadd hx hb dL_law_483 ?_
                                  obtain ⟨x_140, nx_140, ex_140, h⟩ := arr_e h
                                  refine va_sld hx hb hX hbl hbA hS nx_140 dL_law_484 ?_
                                  refine lv_ni ex_140 ?_
                                  obtain ⟨r_141, M_142, e_143, h⟩ := bd2_e h
                                  refine kV_I (As := [.int x_138, .int x_139, .int x_140]) (rest := [.int r_136]) ⟨hx, hb, hml, hown, hts⟩ (tX6_plot l G S M x_138 x_139 x_140 r_141 M_142 e_143) (cwV 3 hts gL_law_X6_plot rfl rfl rfl ⟨rfl, hdX6_plot⟩ ⟨Nat.le_of_ble_eq_true rfl, Nat.le_of_ble_eq_true rfl⟩) (va_recv hK.1 hW.1 (ci := 6) (q0 := 159) rfl lkM) hK hW hS hA rfl hl.1 rfl (Nat.le_of_ble_eq_true rfl) dL_law_485 ⟨Nat.le_of_ble_eq_true rfl, Nat.le_of_ble_eq_true rfl⟩ (fun H locs hW hS => ?_)
                                  refine lv_icmp_eq (tgt := 797) hx hb dL_law_488 (by decide) (fun c_144 => ?_) (fun c_144 => ?_)
                                  · have h := ite_t c_144 h
                                    exact B797 _ _ S M_142 hW hS ls l3 (lv_sub hl [0, 1, 2, 3] rfl) h
                                  · have h := ite_f c_144 h
                                    refine lv_iconst (v := 0) hx hb dL_law_491 (by decide) ?_
                                    cases h
                                · have h := ite_f c_132 h
                                  by_cases c_145 : (((x_2 : Int32) &&& 31) : Int32) = 13
                                  · have h := ite_t c_145 h
                                    refine lv_tableIn (off := 460) (tgt := 493) hx hb dL_law_33 (by rw [c_145]; decide) (by rw [c_145]; decide) (by rw [c_145]; rfl) (by decide) ?_
                                    refine lv_aload_n hx hb dL_law_493 rfl (lv_at hl 1 rfl) ?_
                                    refine lv_aload_n hx hb dL_law_494 rfl (lv_at hl 0 rfl) ?_
                                    refine lv_iload_n hx hb dL_law_495 rfl (lv_at hl 3 rfl) ?_
                                    refine lv_iconst (v := 1) hx hb dL_law_496 (by decide) ?_
                                    refine lv_iadd hx hb dL_law_497 ?_
                                    obtain ⟨x_146, nx_146, ex_146, h⟩ := arr_e h
                                    refine va_sld hx hb hX hbl hbA hS nx_146 dL_law_498 ?_
                                    refine lv_ni ex_146 ?_
                                    refine lv_aload_n hx hb dL_law_499 rfl (lv_at hl 0 rfl) ?_
                                    refine lv_iload_n hx hb dL_law_500 rfl (lv_at hl 3 rfl) ?_
                                    refine lv_iconst (v := 2) hx hb dL_law_501 (by decide) ?_
                                    refine lv_iadd hx hb dL_law_502 ?_
                                    obtain ⟨x_147, nx_147, ex_147, h⟩ := arr_e h
                                    refine va_sld hx hb hX hbl hbA hS nx_147 dL_law_503 ?_
                                    refine lv_ni ex_147 ?_
                                    obtain ⟨r_148, e_149, h⟩ := bnd_e h
                                    refine kV_I (As := [.int x_146, .int x_147]) (rest := []) ⟨hx, hb, hml, hown, hts⟩ (tX5_camper l G S M x_146 x_147 r_148 e_149) (cwV 2 hts gL_law_X5_camper rfl rfl rfl ⟨rfl, hdX5_camper⟩ ⟨Nat.le_of_ble_eq_true rfl, Nat.le_of_ble_eq_true rfl⟩) (va_recv hK.1 hW.1 (ci := 5) (q0 := 154) rfl lkT) hK hW hS hA rfl hl.1 rfl (Nat.le_of_ble_eq_true rfl) dL_law_504 ⟨Nat.le_of_ble_eq_true rfl, Nat.le_of_ble_eq_true rfl⟩ (fun H locs hW hS => ?_)
                                    refine lv_aload_n hx hb dL_law_507 rfl (lv_at hl 2 rfl) ?_
                                    refine lv_aload_n hx hb dL_law_508 rfl (lv_at hl 0 rfl) ?_
                                    refine lv_iload_n hx hb dL_law_509 rfl (lv_at hl 3 rfl) ?_
                                    refine lv_iconst (v := 1) hx hb dL_law_510 (by decide) ?_
                                    refine lv_iadd hx hb dL_law_511 ?_
                                    obtain ⟨x_150, nx_150, ex_150, h⟩ := arr_e h
                                    refine va_sld hx hb hX hbl hbA hS nx_150 dL_law_512 ?_
                                    refine lv_ni ex_150 ?_
                                    refine lv_aload_n hx hb dL_law_513 rfl (lv_at hl 0 rfl) ?_
                                    refine lv_iload_n hx hb dL_law_514 rfl (lv_at hl 3 rfl) ?_
                                    refine lv_iconst (v := 2) hx hb dL_law_515 (by decide) ?_
                                    refine lv_iadd hx hb dL_law_516 ?_
                                    obtain ⟨x_151, nx_151, ex_151, h⟩ := arr_e h
                                    refine va_sld hx hb hX hbl hbA hS nx_151 dL_law_517 ?_
                                    refine lv_ni ex_151 ?_
                                    obtain ⟨r_152, M_153, e_154, h⟩ := bd2_e h
                                    refine kV_I (As := [.int x_150, .int x_151]) (rest := [.int r_148]) ⟨hx, hb, hml, hown, hts⟩ (tX6_camper l G S M x_150 x_151 r_152 M_153 e_154) (cwV 2 hts gL_law_X6_camper rfl rfl rfl ⟨rfl, hdX6_camper⟩ ⟨Nat.le_of_ble_eq_true rfl, Nat.le_of_ble_eq_true rfl⟩) (va_recv hK.1 hW.1 (ci := 6) (q0 := 159) rfl lkM) hK hW hS hA rfl hl.1 rfl (Nat.le_of_ble_eq_true rfl) dL_law_518 ⟨Nat.le_of_ble_eq_true rfl, Nat.le_of_ble_eq_true rfl⟩ (fun H locs hW hS => ?_)
                                    refine lv_icmp_eq (tgt := 797) hx hb dL_law_521 (by decide) (fun c_155 => ?_) (fun c_155 => ?_)
                                    · have h := ite_t c_155 h
                                      exact B797 _ _ S M_153 hW hS ls l3 (lv_sub hl [0, 1, 2, 3] rfl) h
                                    · have h := ite_f c_155 h
                                      refine lv_iconst (v := 0) hx hb dL_law_524 (by decide) ?_
                                      cases h
                                  · have h := ite_f c_145 h
                                    by_cases c_156 : (((x_2 : Int32) &&& 31) : Int32) = 14
                                    · have h := ite_t c_156 h
                                      refine lv_tableIn (off := 493) (tgt := 526) hx hb dL_law_33 (by rw [c_156]; decide) (by rw [c_156]; decide) (by rw [c_156]; rfl) (by decide) ?_
                                      refine lv_aload_n hx hb dL_law_526 rfl (lv_at hl 1 rfl) ?_
                                      refine lv_aload_n hx hb dL_law_527 rfl (lv_at hl 0 rfl) ?_
                                      refine lv_iload_n hx hb dL_law_528 rfl (lv_at hl 3 rfl) ?_
                                      refine lv_iconst (v := 1) hx hb dL_law_529 (by decide) ?_
                                      refine lv_iadd hx hb dL_law_530 ?_
                                      obtain ⟨x_157, nx_157, ex_157, h⟩ := arr_e h
                                      refine va_sld hx hb hX hbl hbA hS nx_157 dL_law_531 ?_
                                      refine lv_ni ex_157 ?_
                                      refine lv_aload_n hx hb dL_law_532 rfl (lv_at hl 0 rfl) ?_
                                      refine lv_iload_n hx hb dL_law_533 rfl (lv_at hl 3 rfl) ?_
                                      refine lv_iconst (v := 2) hx hb dL_law_534 (by decide) ?_
                                      refine lv_iadd hx hb dL_law_535 ?_
                                      obtain ⟨x_158, nx_158, ex_158, h⟩ := arr_e h
                                      refine va_sld hx hb hX hbl hbA hS nx_158 dL_law_536 ?_
                                      refine lv_ni ex_158 ?_
                                      refine lv_aload_n hx hb dL_law_537 rfl (lv_at hl 0 rfl) ?_
                                      refine lv_iload_n hx hb dL_law_538 rfl (lv_at hl 3 rfl) ?_
                                      refine lv_iconst (v := 3) hx hb dL_law_539 (by decide) ?_
                                      refine lv_iadd hx hb dL_law_540 ?_
                                      obtain ⟨x_159, nx_159, ex_159, h⟩ := arr_e h
                                      refine va_sld hx hb hX hbl hbA hS nx_159 dL_law_541 ?_
                                      refine lv_ni ex_159 ?_
                                      obtain ⟨r_160, e_161, h⟩ := bnd_e h
                                      refine kV_I (As := [.int x_157, .int x_158, .int x_159]) (rest := []) ⟨hx, hb, hml, hown, hts⟩ (tX5_plotOf l G S M x_157 x_158 x_159 r_160 e_161) (cwV 3 hts gL_law_X5_plotOf rfl rfl rfl ⟨rfl, hdX5_plotOf⟩ ⟨Nat.le_of_ble_eq_true rfl, Nat.le_of_ble_eq_true rfl⟩) (va_recv hK.1 hW.1 (ci := 5) (q0 := 154) rfl lkT) hK hW hS hA rfl hl.1 rfl (Nat.le_of_ble_eq_true rfl) dL_law_542 ⟨Nat.le_of_ble_eq_true rfl, Nat.le_of_ble_eq_true rfl⟩ (fun H locs hW hS => ?_)
                                      refine lv_aload_n hx hb dL_law_545 rfl (lv_at hl 2 rfl) ?_
                                      refine lv_aload_n hx hb dL_law_546 rfl (lv_at hl 0 rfl) ?_
                                      refine lv_iload_n hx hb dL_law_547 rfl (lv_at hl 3 rfl) ?_
                                      refine lv_iconst (v := 1) hx hb dL_law_548 (by decide) ?_
                                      refine lv_iadd hx hb dL_law_549 ?_
                                      obtain ⟨x_162, nx_162, ex_162, h⟩ := arr_e h
                                      refine va_sld hx hb hX hbl hbA hS nx_162 dL_law_550 ?_
                                      refine lv_ni ex_162 ?_
                                      refine lv_aload_n hx hb dL_law_551 rfl (lv_at hl 0 rfl) ?_
                                      refine lv_iload_n hx hb dL_law_552 rfl (lv_at hl 3 rfl) ?_
                                      refine lv_iconst (v := 2) hx hb dL_law_553 (by decide) ?_
                                      refine lv_iadd hx hb dL_law_554 ?_
                                      obtain ⟨x_163, nx_163, ex_163, h⟩ := arr_e h
                                      refine va_sld hx hb hX hbl hbA hS nx_163 dL_law_555 ?_
                                      refine lv_ni ex_163 ?_
                                      refine lv_aload_n hx hb dL_law_556 rfl (lv_at hl 0 rfl) ?_
                                      refine lv_iload_n hx hb dL_law_557 rfl (lv_at hl 3 rfl) ?_
                                      refine lv_iconst (v := 3) hx hb dL_law_558 (by decide) ?_
                                      refine lv_iadd hx hb dL_law_559 ?_
                                      obtain ⟨x_164, nx_164, ex_164, h⟩ := arr_e h
                                      refine va_sld hx hb hX hbl hbA hS nx_164 dL_law_560 ?_
                                      refine lv_ni ex_164 ?_
                                      obtain ⟨r_165, M_166, e_167, h⟩ := bd2_e h
                                      refine kV_I (As := [.int x_162, .int x_163, .int x_164]) (rest := [.int r_160]) ⟨hx, hb, hml, hown, hts⟩ (tX6_plotOf l G S M x_162 x_163 x_164 r_165 M_166 e_167) (cwV 3 hts gL_law_X6_plotOf rfl rfl rfl ⟨rfl, hdX6_plotOf⟩ ⟨Nat.le_of_ble_eq_true rfl, Nat.le_of_ble_eq_true rfl⟩) (va_recv hK.1 hW.1 (ci := 6) (q0 := 159) rfl lkM) hK hW hS hA rfl hl.1 rfl (Nat.le_of_ble_eq_true rfl) dL_law_561 ⟨Nat.le_of_ble_eq_true rfl, Nat.le_of_ble_eq_true rfl⟩ (fun H locs hW hS => ?_)
                                      refine lv_icmp_eq (tgt := 797) hx hb dL_law_564 (by decide) (fun c_168 => ?_) (fun c_168 => ?_)
                                      · have h := ite_t c_168 h
                                        exact B797 _ _ S M_166 hW hS ls l3 (lv_sub hl [0, 1, 2, 3] rfl) h
                                      · have h := ite_f c_168 h
                                        refine lv_iconst (v := 0) hx hb dL_law_567 (by decide) ?_
                                        cases h
                                    · have h := ite_f c_156 h
                                      by_cases c_169 : (((x_2 : Int32) &&& 31) : Int32) = 15
                                      · have h := ite_t c_169 h
                                        refine lv_tableIn (off := 536) (tgt := 569) hx hb dL_law_33 (by rw [c_169]; decide) (by rw [c_169]; decide) (by rw [c_169]; rfl) (by decide) ?_
                                        refine lv_aload_n hx hb dL_law_569 rfl (lv_at hl 1 rfl) ?_
                                        refine lv_aload_n hx hb dL_law_570 rfl (lv_at hl 0 rfl) ?_
                                        refine lv_iload_n hx hb dL_law_571 rfl (lv_at hl 3 rfl) ?_
                                        refine lv_iconst (v := 1) hx hb dL_law_572 (by decide) ?_
                                        refine lv_iadd hx hb dL_law_573 ?_
                                        obtain ⟨x_170, nx_170, ex_170, h⟩ := arr_e h
                                        refine va_sld hx hb hX hbl hbA hS nx_170 dL_law_574 ?_
                                        refine lv_ni ex_170 ?_
                                        refine lv_aload_n hx hb dL_law_575 rfl (lv_at hl 0 rfl) ?_
                                        refine lv_iload_n hx hb dL_law_576 rfl (lv_at hl 3 rfl) ?_
                                        refine lv_iconst (v := 2) hx hb dL_law_577 (by decide) ?_
                                        refine lv_iadd hx hb dL_law_578 ?_
                                        obtain ⟨x_171, nx_171, ex_171, h⟩ := arr_e h
                                        refine va_sld hx hb hX hbl hbA hS nx_171 dL_law_579 ?_
                                        refine lv_ni ex_171 ?_
                                        obtain ⟨r_172, e_173, h⟩ := bnd_e h
                                        refine kV_I (As := [.int x_170, .int x_171]) (rest := []) ⟨hx, hb, hml, hown, hts⟩ (tX5_song l G S M x_170 x_171 r_172 e_173) (cwV 2 hts gL_law_X5_song rfl rfl rfl ⟨rfl, hdX5_song⟩ ⟨Nat.le_of_ble_eq_true rfl, Nat.le_of_ble_eq_true rfl⟩) (va_recv hK.1 hW.1 (ci := 5) (q0 := 154) rfl lkT) hK hW hS hA rfl hl.1 rfl (Nat.le_of_ble_eq_true rfl) dL_law_580 ⟨Nat.le_of_ble_eq_true rfl, Nat.le_of_ble_eq_true rfl⟩ (fun H locs hW hS => ?_)
                                        refine lv_aload_n hx hb dL_law_583 rfl (lv_at hl 2 rfl) ?_
                                        refine lv_aload_n hx hb dL_law_584 rfl (lv_at hl 0 rfl) ?_
                                        refine lv_iload_n hx hb dL_law_585 rfl (lv_at hl 3 rfl) ?_
                                        refine lv_iconst (v := 1) hx hb dL_law_586 (by decide) ?_
                                        refine lv_iadd hx hb dL_law_587 ?_
                                        obtain ⟨x_174, nx_174, ex_174, h⟩ := arr_e h
                                        refine va_sld hx hb hX hbl hbA hS nx_174 dL_law_588 ?_
                                        refine lv_ni ex_174 ?_
                                        refine lv_aload_n hx hb dL_law_589 rfl (lv_at hl 0 rfl) ?_
                                        refine lv_iload_n hx hb dL_law_590 rfl (lv_at hl 3 rfl) ?_
                                        refine lv_iconst (v := 2) hx hb dL_law_591 (by decide) ?_
                                        refine lv_iadd hx hb dL_law_592 ?_
                                        obtain ⟨x_175, nx_175, ex_175, h⟩ := arr_e h
                                        refine va_sld hx hb hX hbl hbA hS nx_175 dL_law_593 ?_
                                        refine lv_ni ex_175 ?_
                                        obtain ⟨r_176, M_177, e_178, h⟩ := bd2_e h
                                        refine kV_I (As := [.int x_174, .int x_175]) (rest := [.int r_172]) ⟨hx, hb, hml, hown, hts⟩ (tX6_song l G S M x_174 x_175 r_176 M_177 e_178) (cwV 2 hts gL_law_X6_song rfl rfl rfl ⟨rfl, hdX6_song⟩ ⟨Nat.le_of_ble_eq_true rfl, Nat.le_of_ble_eq_true rfl⟩) (va_recv hK.1 hW.1 (ci := 6) (q0 := 159) rfl lkM) hK hW hS hA rfl hl.1 rfl (Nat.le_of_ble_eq_true rfl) dL_law_594 ⟨Nat.le_of_ble_eq_true rfl, Nat.le_of_ble_eq_true rfl⟩ (fun H locs hW hS => ?_)
                                        refine lv_icmp_eq (tgt := 797) hx hb dL_law_597 (by decide) (fun c_179 => ?_) (fun c_179 => ?_)
                                        · have h := ite_t c_179 h
                                          exact B797 _ _ S M_177 hW hS ls l3 (lv_sub hl [0, 1, 2, 3] rfl) h
                                        · have h := ite_f c_179 h
                                          refine lv_iconst (v := 0) hx hb dL_law_600 (by decide) ?_
                                          cases h
                                      · have h := ite_f c_169 h
                                        by_cases c_180 : (((x_2 : Int32) &&& 31) : Int32) = 16
                                        · have h := ite_t c_180 h
                                          refine lv_tableIn (off := 569) (tgt := 602) hx hb dL_law_33 (by rw [c_180]; decide) (by rw [c_180]; decide) (by rw [c_180]; rfl) (by decide) ?_
                                          refine lv_aload_n hx hb dL_law_602 rfl (lv_at hl 1 rfl) ?_
                                          refine lv_aload_n hx hb dL_law_603 rfl (lv_at hl 0 rfl) ?_
                                          refine lv_iload_n hx hb dL_law_604 rfl (lv_at hl 3 rfl) ?_
                                          refine lv_iconst (v := 1) hx hb dL_law_605 (by decide) ?_
                                          refine lv_iadd hx hb dL_law_606 ?_
                                          obtain ⟨x_181, nx_181, ex_181, h⟩ := arr_e h
                                          refine va_sld hx hb hX hbl hbA hS nx_181 dL_law_607 ?_
                                          refine lv_ni ex_181 ?_
                                          refine lv_aload_n hx hb dL_law_608 rfl (lv_at hl 0 rfl) ?_
                                          refine lv_iload_n hx hb dL_law_609 rfl (lv_at hl 3 rfl) ?_
                                          refine lv_iconst (v := 2) hx hb dL_law_610 (by decide) ?_
                                          refine lv_iadd hx hb dL_law_611 ?_
                                          obtain ⟨x_182, nx_182, ex_182, h⟩ := arr_e h
                                          refine va_sld hx hb hX hbl hbA hS nx_182 dL_law_612 ?_
                                          refine lv_ni ex_182 ?_
                                          refine lv_aload_n hx hb dL_law_613 rfl (lv_at hl 0 rfl) ?_
                                          refine lv_iload_n hx hb dL_law_614 rfl (lv_at hl 3 rfl) ?_
                                          refine lv_iconst (v := 3) hx hb dL_law_615 (by decide) ?_
                                          refine lv_iadd hx hb dL_law_616 ?_
                                          obtain ⟨x_183, nx_183, ex_183, h⟩ := arr_e h
                                          refine va_sld hx hb hX hbl hbA hS nx_183 dL_law_617 ?_
                                          refine lv_ni ex_183 ?_
                                          refine lv_aload_n hx hb dL_law_618 rfl (lv_at hl 0 rfl) ?_
                                          refine lv_iload_n hx hb dL_law_619 rfl (lv_at hl 3 rfl) ?_
                                          refine lv_iconst (v := 4) hx hb dL_law_620 (by decide) ?_
                                          refine lv_iadd hx hb dL_law_621 ?_
                                          obtain ⟨x_184, nx_184, ex_184, h⟩ := arr_e h
                                          refine va_sld hx hb hX hbl hbA hS nx_184 dL_law_622 ?_
                                          refine lv_ni ex_184 ?_
                                          refine lv_aload_n hx hb dL_law_623 rfl (lv_at hl 0 rfl) ?_
                                          refine lv_iload_n hx hb dL_law_624 rfl (lv_at hl 3 rfl) ?_
                                          refine lv_iconst (v := 5) hx hb dL_law_625 (by decide) ?_
                                          refine lv_iadd hx hb dL_law_626 ?_
                                          obtain ⟨x_185, nx_185, ex_185, h⟩ := arr_e h
                                          refine va_sld hx hb hX hbl hbA hS nx_185 dL_law_627 ?_
                                          refine lv_ni ex_185 ?_
                                          obtain ⟨r_186, e_187, h⟩ := bnd_e h
                                          refine kV_I (As := [.int x_181, .int x_182, .int x_183, .int x_184, .int x_185]) (rest := []) ⟨hx, hb, hml, hown, hts⟩ (tX5_way l G S M x_181 x_182 x_183 x_184 x_185 r_186 e_187) (cwV 5 hts gL_law_X5_way rfl rfl rfl ⟨rfl, hdX5_way⟩ ⟨Nat.le_of_ble_eq_true rfl, Nat.le_of_ble_eq_true rfl⟩) (va_recv hK.1 hW.1 (ci := 5) (q0 := 154) rfl lkT) hK hW hS hA rfl hl.1 rfl (Nat.le_of_ble_eq_true rfl) dL_law_628 ⟨Nat.le_of_ble_eq_true rfl, Nat.le_of_ble_eq_true rfl⟩ (fun H locs hW hS => ?_)
                                          refine lv_aload_n hx hb dL_law_631 rfl (lv_at hl 2 rfl) ?_
                                          refine lv_aload_n hx hb dL_law_632 rfl (lv_at hl 0 rfl) ?_
                                          refine lv_iload_n hx hb dL_law_633 rfl (lv_at hl 3 rfl) ?_
                                          refine lv_iconst (v := 1) hx hb dL_law_634 (by decide) ?_
                                          refine lv_iadd hx hb dL_law_635 ?_
                                          obtain ⟨x_188, nx_188, ex_188, h⟩ := arr_e h
                                          refine va_sld hx hb hX hbl hbA hS nx_188 dL_law_636 ?_
                                          refine lv_ni ex_188 ?_
                                          refine lv_aload_n hx hb dL_law_637 rfl (lv_at hl 0 rfl) ?_
                                          refine lv_iload_n hx hb dL_law_638 rfl (lv_at hl 3 rfl) ?_
                                          refine lv_iconst (v := 2) hx hb dL_law_639 (by decide) ?_
                                          refine lv_iadd hx hb dL_law_640 ?_
                                          obtain ⟨x_189, nx_189, ex_189, h⟩ := arr_e h
                                          refine va_sld hx hb hX hbl hbA hS nx_189 dL_law_641 ?_
                                          refine lv_ni ex_189 ?_
                                          refine lv_aload_n hx hb dL_law_642 rfl (lv_at hl 0 rfl) ?_
                                          refine lv_iload_n hx hb dL_law_643 rfl (lv_at hl 3 rfl) ?_
                                          refine lv_iconst (v := 3) hx hb dL_law_644 (by decide) ?_
                                          refine lv_iadd hx hb dL_law_645 ?_
                                          obtain ⟨x_190, nx_190, ex_190, h⟩ := arr_e h
                                          refine va_sld hx hb hX hbl hbA hS nx_190 dL_law_646 ?_
                                          refine lv_ni ex_190 ?_
                                          refine lv_aload_n hx hb dL_law_647 rfl (lv_at hl 0 rfl) ?_
                                          refine lv_iload_n hx hb dL_law_648 rfl (lv_at hl 3 rfl) ?_
                                          refine lv_iconst (v := 4) hx hb dL_law_649 (by decide) ?_
                                          refine lv_iadd hx hb dL_law_650 ?_
                                          obtain ⟨x_191, nx_191, ex_191, h⟩ := arr_e h
                                          refine va_sld hx hb hX hbl hbA hS nx_191 dL_law_651 ?_
                                          refine lv_ni ex_191 ?_
                                          refine lv_aload_n hx hb dL_law_652 rfl (lv_at hl 0 rfl) ?_
                                          refine lv_iload_n hx hb dL_law_653 rfl (lv_at hl 3 rfl) ?_
                                          refine lv_iconst (v := 5) hx hb dL_law_654 (by decide) ?_
                                          refine lv_iadd hx hb dL_law_655 ?_
                                          obtain ⟨x_192, nx_192, ex_192, h⟩ := arr_e h
                                          refine va_sld hx hb hX hbl hbA hS nx_192 dL_law_656 ?_
                                          refine lv_ni ex_192 ?_
                                          obtain ⟨r_193, M_194, e_195, h⟩ := bd2_e h
                                          refine kV_I (As := [.int x_188, .int x_189, .int x_190, .int x_191, .int x_192]) (rest := [.int r_186]) ⟨hx, hb, hml, hown, hts⟩ (tX6_way l G S M x_188 x_189 x_190 x_191 x_192 r_193 M_194 e_195) (cwV 5 hts gL_law_X6_way rfl rfl rfl ⟨rfl, hdX6_way⟩ ⟨Nat.le_of_ble_eq_true rfl, Nat.le_of_ble_eq_true rfl⟩) (va_recv hK.1 hW.1 (ci := 6) (q0 := 159) rfl lkM) hK hW hS hA rfl hl.1 rfl (Nat.le_of_ble_eq_true rfl) dL_law_657 ⟨Nat.le_of_ble_eq_true rfl, Nat.le_of_ble_eq_true rfl⟩ (fun H locs hW hS => ?_)
                                          refine lv_icmp_eq (tgt := 797) hx hb dL_law_660 (by decide) (fun c_196 => ?_) (fun c_196 => ?_)
                                          · have h := ite_t c_196 h
                                            exact B797 _ _ S M_194 hW hS ls l3 (lv_sub hl [0, 1, 2, 3] rfl) h
                                          · have h := ite_f c_196 h
                                            refine lv_iconst (v := 0) hx hb dL_law_663 (by decide) ?_
                                            cases h
                                        · have h := ite_f c_180 h
                                          by_cases c_197 : (((x_2 : Int32) &&& 31) : Int32) = 17
                                          · have h := ite_t c_197 h
                                            refine lv_tableIn (off := 632) (tgt := 665) hx hb dL_law_33 (by rw [c_197]; decide) (by rw [c_197]; decide) (by rw [c_197]; rfl) (by decide) ?_
                                            refine lv_aload_n hx hb dL_law_665 rfl (lv_at hl 1 rfl) ?_
                                            refine lv_aload_n hx hb dL_law_666 rfl (lv_at hl 0 rfl) ?_
                                            refine lv_iload_n hx hb dL_law_667 rfl (lv_at hl 3 rfl) ?_
                                            refine lv_iconst (v := 1) hx hb dL_law_668 (by decide) ?_
                                            refine lv_iadd hx hb dL_law_669 ?_
                                            obtain ⟨x_198, nx_198, ex_198, h⟩ := arr_e h
                                            refine va_sld hx hb hX hbl hbA hS nx_198 dL_law_670 ?_
                                            refine lv_ni ex_198 ?_
                                            refine lv_aload_n hx hb dL_law_671 rfl (lv_at hl 0 rfl) ?_
                                            refine lv_iload_n hx hb dL_law_672 rfl (lv_at hl 3 rfl) ?_
                                            refine lv_iconst (v := 2) hx hb dL_law_673 (by decide) ?_
                                            refine lv_iadd hx hb dL_law_674 ?_
                                            obtain ⟨x_199, nx_199, ex_199, h⟩ := arr_e h
                                            refine va_sld hx hb hX hbl hbA hS nx_199 dL_law_675 ?_
                                            refine lv_ni ex_199 ?_
                                            refine lv_aload_n hx hb dL_law_676 rfl (lv_at hl 0 rfl) ?_
                                            refine lv_iload_n hx hb dL_law_677 rfl (lv_at hl 3 rfl) ?_
                                            refine lv_iconst (v := 3) hx hb dL_law_678 (by decide) ?_
                                            refine lv_iadd hx hb dL_law_679 ?_
                                            obtain ⟨x_200, nx_200, ex_200, h⟩ := arr_e h
                                            refine va_sld hx hb hX hbl hbA hS nx_200 dL_law_680 ?_
                                            refine lv_ni ex_200 ?_
                                            obtain ⟨r_201, e_202, h⟩ := bnd_e h
                                            refine kV_I (As := [.int x_198, .int x_199, .int x_200]) (rest := []) ⟨hx, hb, hml, hown, hts⟩ (tX5_would l G S M x_198 x_199 x_200 r_201 e_202) (cwV 3 hts gL_law_X5_would rfl rfl rfl ⟨rfl, hdX5_would⟩ ⟨Nat.le_of_ble_eq_true rfl, Nat.le_of_ble_eq_true rfl⟩) (va_recv hK.1 hW.1 (ci := 5) (q0 := 154) rfl lkT) hK hW hS hA rfl hl.1 rfl (Nat.le_of_ble_eq_true rfl) dL_law_681 ⟨Nat.le_of_ble_eq_true rfl, Nat.le_of_ble_eq_true rfl⟩ (fun H locs hW hS => ?_)
                                            refine lv_aload_n hx hb dL_law_684 rfl (lv_at hl 2 rfl) ?_
                                            refine lv_aload_n hx hb dL_law_685 rfl (lv_at hl 0 rfl) ?_
                                            refine lv_iload_n hx hb dL_law_686 rfl (lv_at hl 3 rfl) ?_
                                            refine lv_iconst (v := 1) hx hb dL_law_687 (by decide) ?_
                                            refine lv_iadd hx hb dL_law_688 ?_
                                            obtain ⟨x_203, nx_203, ex_203, h⟩ := arr_e h
                                            refine va_sld hx hb hX hbl hbA hS nx_203 dL_law_689 ?_
                                            refine lv_ni ex_203 ?_
                                            refine lv_aload_n hx hb dL_law_690 rfl (lv_at hl 0 rfl) ?_
                                            refine lv_iload_n hx hb dL_law_691 rfl (lv_at hl 3 rfl) ?_
                                            refine lv_iconst (v := 2) hx hb dL_law_692 (by decide) ?_
                                            refine lv_iadd hx hb dL_law_693 ?_
                                            obtain ⟨x_204, nx_204, ex_204, h⟩ := arr_e h
                                            refine va_sld hx hb hX hbl hbA hS nx_204 dL_law_694 ?_
                                            refine lv_ni ex_204 ?_
                                            refine lv_aload_n hx hb dL_law_695 rfl (lv_at hl 0 rfl) ?_
                                            refine lv_iload_n hx hb dL_law_696 rfl (lv_at hl 3 rfl) ?_
                                            refine lv_iconst (v := 3) hx hb dL_law_697 (by decide) ?_
                                            refine lv_iadd hx hb dL_law_698 ?_
                                            obtain ⟨x_205, nx_205, ex_205, h⟩ := arr_e h
                                            refine va_sld hx hb hX hbl hbA hS nx_205 dL_law_699 ?_
                                            refine lv_ni ex_205 ?_
                                            obtain ⟨r_206, M_207, e_208, h⟩ := bd2_e h
                                            refine kV_I (As := [.int x_203, .int x_204, .int x_205]) (rest := [.int r_201]) ⟨hx, hb, hml, hown, hts⟩ (tX6_would l G S M x_203 x_204 x_205 r_206 M_207 e_208) (cwV 3 hts gL_law_X6_would rfl rfl rfl ⟨rfl, hdX6_would⟩ ⟨Nat.le_of_ble_eq_true rfl, Nat.le_of_ble_eq_true rfl⟩) (va_recv hK.1 hW.1 (ci := 6) (q0 := 159) rfl lkM) hK hW hS hA rfl hl.1 rfl (Nat.le_of_ble_eq_true rfl) dL_law_700 ⟨Nat.le_of_ble_eq_true rfl, Nat.le_of_ble_eq_true rfl⟩ (fun H locs hW hS => ?_)
                                            refine lv_icmp_eq (tgt := 797) hx hb dL_law_703 (by decide) (fun c_209 => ?_) (fun c_209 => ?_)
                                            · have h := ite_t c_209 h
                                              exact B797 _ _ S M_207 hW hS ls l3 (lv_sub hl [0, 1, 2, 3] rfl) h
                                            · have h := ite_f c_209 h
                                              refine lv_iconst (v := 0) hx hb dL_law_706 (by decide) ?_
                                              cases h
                                          · have h := ite_f c_197 h
                                            by_cases c_210 : (((x_2 : Int32) &&& 31) : Int32) = 18
                                            · have h := ite_t c_210 h
                                              refine lv_tableIn (off := 675) (tgt := 708) hx hb dL_law_33 (by rw [c_210]; decide) (by rw [c_210]; decide) (by rw [c_210]; rfl) (by decide) ?_
                                              refine lv_aload_n hx hb dL_law_708 rfl (lv_at hl 1 rfl) ?_
                                              obtain ⟨r_211, e_212, h⟩ := bnd_e h
                                              refine kV_I (As := []) (rest := []) ⟨hx, hb, hml, hown, hts⟩ (tX5_loudest l G S M r_211 e_212) (cwV 0 hts gL_law_X5_loudest rfl rfl rfl ⟨rfl, hdX5_loudest⟩ ⟨Nat.le_of_ble_eq_true rfl, Nat.le_of_ble_eq_true rfl⟩) (va_recv hK.1 hW.1 (ci := 5) (q0 := 154) rfl lkT) hK hW hS hA rfl hl.1 rfl (Nat.le_of_ble_eq_true rfl) dL_law_709 ⟨Nat.le_of_ble_eq_true rfl, Nat.le_of_ble_eq_true rfl⟩ (fun H locs hW hS => ?_)
                                              refine lv_aload_n hx hb dL_law_712 rfl (lv_at hl 2 rfl) ?_
                                              obtain ⟨r_213, M_214, e_215, h⟩ := bd2_e h
                                              refine kV_I (As := []) (rest := [.int r_211]) ⟨hx, hb, hml, hown, hts⟩ (tX6_loudest l G S M r_213 M_214 e_215) (cwV 0 hts gL_law_X6_loudest rfl rfl rfl ⟨rfl, hdX6_loudest⟩ ⟨Nat.le_of_ble_eq_true rfl, Nat.le_of_ble_eq_true rfl⟩) (va_recv hK.1 hW.1 (ci := 6) (q0 := 159) rfl lkM) hK hW hS hA rfl hl.1 rfl (Nat.le_of_ble_eq_true rfl) dL_law_713 ⟨Nat.le_of_ble_eq_true rfl, Nat.le_of_ble_eq_true rfl⟩ (fun H locs hW hS => ?_)
                                              refine lv_icmp_eq (tgt := 797) hx hb dL_law_716 (by decide) (fun c_216 => ?_) (fun c_216 => ?_)
                                              · have h := ite_t c_216 h
                                                exact B797 _ _ S M_214 hW hS ls l3 (lv_sub hl [0, 1, 2, 3] rfl) h
                                              · have h := ite_f c_216 h
                                                refine lv_iconst (v := 0) hx hb dL_law_719 (by decide) ?_
                                                cases h
                                            · have h := ite_f c_210 h
                                              by_cases c_217 : (((x_2 : Int32) &&& 31) : Int32) = 19
                                              · have h := ite_t c_217 h
                                                refine lv_tableIn (off := 688) (tgt := 721) hx hb dL_law_33 (by rw [c_217]; decide) (by rw [c_217]; decide) (by rw [c_217]; rfl) (by decide) ?_
                                                refine lv_aload_n hx hb dL_law_721 rfl (lv_at hl 1 rfl) ?_
                                                refine lv_aload_n hx hb dL_law_722 rfl (lv_at hl 0 rfl) ?_
                                                refine lv_iload_n hx hb dL_law_723 rfl (lv_at hl 3 rfl) ?_
                                                refine lv_iconst (v := 1) hx hb dL_law_724 (by decide) ?_
                                                refine lv_iadd hx hb dL_law_725 ?_
                                                obtain ⟨x_218, nx_218, ex_218, h⟩ := arr_e h
                                                refine va_sld hx hb hX hbl hbA hS nx_218 dL_law_726 ?_
                                                refine lv_ni ex_218 ?_
                                                obtain ⟨r_219, e_220, h⟩ := bnd_e h
                                                refine kV_F (As := [.int x_218]) (rest := []) ⟨hx, hb, hml, hown, hts⟩ (tX5_share l G S M x_218 r_219 e_220) (cwV 1 hts gL_law_X5_share rfl rfl rfl ⟨rfl, hdX5_share⟩ ⟨Nat.le_of_ble_eq_true rfl, Nat.le_of_ble_eq_true rfl⟩) (va_recv hK.1 hW.1 (ci := 5) (q0 := 154) rfl lkT) hK hW hS hA rfl hl.1 rfl (Nat.le_of_ble_eq_true rfl) dL_law_727 ⟨Nat.le_of_ble_eq_true rfl, Nat.le_of_ble_eq_true rfl⟩ (fun H locs hW hS => ?_)
                                                obtain ⟨x_221, nx_221, ex_221, h⟩ := dnn_e h
                                                refine lv_f2d hx hb dL_law_730 nx_221 ?_
                                                refine lv_nd ex_221 ?_
                                                refine lv_dstore (lv' := [(4, .double x_221), (0, .ref (b)), (1, .ref (gad G 154)), (2, .ref (gad G 159)), (3, .int l3)]) hx hb dL_law_731 hl (by decide) rfl (fun ls hl => ?_)
                                                refine lv_aload_n hx hb dL_law_733 rfl (lv_at hl 3 rfl) ?_
                                                refine lv_aload_n hx hb dL_law_734 rfl (lv_at hl 1 rfl) ?_
                                                refine lv_iload_n hx hb dL_law_735 rfl (lv_at hl 4 rfl) ?_
                                                refine lv_iconst (v := 1) hx hb dL_law_736 (by decide) ?_
                                                refine lv_iadd hx hb dL_law_737 ?_
                                                obtain ⟨x_222, nx_222, ex_222, h⟩ := arr_e h
                                                refine va_sld hx hb hX hbl hbA hS nx_222 dL_law_738 ?_
                                                refine lv_ni ex_222 ?_
                                                obtain ⟨r_223, M_224, e_225, h⟩ := bd2_e h
                                                refine kV_F (As := [.int x_222]) (rest := []) ⟨hx, hb, hml, hown, hts⟩ (tX6_share l G S M x_222 r_223 M_224 e_225) (cwV 1 hts gL_law_X6_share rfl rfl rfl ⟨rfl, hdX6_share⟩ ⟨Nat.le_of_ble_eq_true rfl, Nat.le_of_ble_eq_true rfl⟩) (va_recv hK.1 hW.1 (ci := 6) (q0 := 159) rfl lkM) hK hW hS hA rfl hl.1 rfl (Nat.le_of_ble_eq_true rfl) dL_law_739 ⟨Nat.le_of_ble_eq_true rfl, Nat.le_of_ble_eq_true rfl⟩ (fun H locs hW hS => ?_)
                                                obtain ⟨x_226, nx_226, ex_226, h⟩ := dnn_e h
                                                refine lv_f2d hx hb dL_law_742 nx_226 ?_
                                                refine lv_nd ex_226 ?_
                                                refine lv_dstore (lv' := [(6, .double x_226), (4, .double x_221), (0, .ref (b)), (1, .ref (gad G 154)), (2, .ref (gad G 159)), (3, .int l3)]) hx hb dL_law_743 hl (by decide) rfl (fun ls hl => ?_)
                                                refine lv_dload hx hb dL_law_745 (lv_at hl 1 rfl) ?_
                                                refine lv_dload hx hb dL_law_747 (lv_at hl 0 rfl) ?_
                                                refine lv_dcmp hx hb dL_law_749 ?_
                                                refine lv_if_eq (tgt := 771) hx hb dL_law_750 (by decide) (fun c_227 => ?_) (fun c_227 => ?_)
                                                · have h := ite_t c_227 h
                                                  exact B771 _ _ S M_224 hW hS ls l3 (lv_sub hl [2, 3, 4, 5] rfl) h
                                                · have h := ite_f c_227 h
                                                  refine lv_dload hx hb dL_law_753 (lv_at hl 1 rfl) ?_
                                                  refine lv_dload hx hb dL_law_755 (lv_at hl 1 rfl) ?_
                                                  refine lv_dcmp hx hb dL_law_757 ?_
                                                  refine lv_if_eq (tgt := 769) hx hb dL_law_758 (by decide) (fun c_228 => ?_) (fun c_228 => ?_)
                                                  · have h := ite_t c_228 h
                                                    refine lv_iconst (v := 0) hx hb dL_law_769 (by decide) ?_
                                                    cases h
                                                  · have h := ite_f c_228 h
                                                    refine lv_dload hx hb dL_law_761 (lv_at hl 0 rfl) ?_
                                                    refine lv_dload hx hb dL_law_763 (lv_at hl 0 rfl) ?_
                                                    refine lv_dcmp hx hb dL_law_765 ?_
                                                    refine lv_if_ne (tgt := 771) hx hb dL_law_766 (by decide) (fun c_229 => ?_) (fun c_229 => ?_)
                                                    · have h := ite_f c_229 h
                                                      exact B771 _ _ S M_224 hW hS ls l3 (lv_sub hl [2, 3, 4, 5] rfl) h
                                                    · have h := ite_t c_229 h
                                                      refine lv_iconst (v := 0) hx hb dL_law_769 (by decide) ?_
                                                      cases h
                                              · have h := ite_f c_217 h
                                                by_cases c_230 : (((x_2 : Int32) &&& 31) : Int32) = 20
                                                · have h := ite_t c_230 h
                                                  refine lv_tableIn (off := 741) (tgt := 774) hx hb dL_law_33 (by rw [c_230]; decide) (by rw [c_230]; decide) (by rw [c_230]; rfl) (by decide) ?_
                                                  refine lv_aload_n hx hb dL_law_774 rfl (lv_at hl 1 rfl) ?_
                                                  refine lv_aload_n hx hb dL_law_775 rfl (lv_at hl 0 rfl) ?_
                                                  refine lv_iload_n hx hb dL_law_776 rfl (lv_at hl 3 rfl) ?_
                                                  refine lv_iconst (v := 1) hx hb dL_law_777 (by decide) ?_
                                                  refine lv_iadd hx hb dL_law_778 ?_
                                                  obtain ⟨x_231, nx_231, ex_231, h⟩ := arr_e h
                                                  refine va_sld hx hb hX hbl hbA hS nx_231 dL_law_779 ?_
                                                  refine lv_ni ex_231 ?_
                                                  obtain ⟨r_232, e_233, h⟩ := bnd_e h
                                                  refine kV_I (As := [.int x_231]) (rest := []) ⟨hx, hb, hml, hown, hts⟩ (tX5_count l G S M x_231 r_232 e_233) (cwV 1 hts gL_law_X5_count rfl rfl rfl ⟨rfl, hdX5_count⟩ ⟨Nat.le_of_ble_eq_true rfl, Nat.le_of_ble_eq_true rfl⟩) (va_recv hK.1 hW.1 (ci := 5) (q0 := 154) rfl lkT) hK hW hS hA rfl hl.1 rfl (Nat.le_of_ble_eq_true rfl) dL_law_780 ⟨Nat.le_of_ble_eq_true rfl, Nat.le_of_ble_eq_true rfl⟩ (fun H locs hW hS => ?_)
                                                  refine lv_aload_n hx hb dL_law_783 rfl (lv_at hl 2 rfl) ?_
                                                  refine lv_aload_n hx hb dL_law_784 rfl (lv_at hl 0 rfl) ?_
                                                  refine lv_iload_n hx hb dL_law_785 rfl (lv_at hl 3 rfl) ?_
                                                  refine lv_iconst (v := 1) hx hb dL_law_786 (by decide) ?_
                                                  refine lv_iadd hx hb dL_law_787 ?_
                                                  obtain ⟨x_234, nx_234, ex_234, h⟩ := arr_e h
                                                  refine va_sld hx hb hX hbl hbA hS nx_234 dL_law_788 ?_
                                                  refine lv_ni ex_234 ?_
                                                  obtain ⟨r_235, M_236, e_237, h⟩ := bd2_e h
                                                  refine kV_I (As := [.int x_234]) (rest := [.int r_232]) ⟨hx, hb, hml, hown, hts⟩ (tX6_count l G S M x_234 r_235 M_236 e_237) (cwV 1 hts gL_law_X6_count rfl rfl rfl ⟨rfl, hdX6_count⟩ ⟨Nat.le_of_ble_eq_true rfl, Nat.le_of_ble_eq_true rfl⟩) (va_recv hK.1 hW.1 (ci := 6) (q0 := 159) rfl lkM) hK hW hS hA rfl hl.1 rfl (Nat.le_of_ble_eq_true rfl) dL_law_789 ⟨Nat.le_of_ble_eq_true rfl, Nat.le_of_ble_eq_true rfl⟩ (fun H locs hW hS => ?_)
                                                  refine lv_icmp_eq (tgt := 797) hx hb dL_law_792 (by decide) (fun c_238 => ?_) (fun c_238 => ?_)
                                                  · have h := ite_t c_238 h
                                                    exact B797 _ _ S M_236 hW hS ls l3 (lv_sub hl [0, 1, 2, 3] rfl) h
                                                  · have h := ite_f c_238 h
                                                    refine lv_iconst (v := 0) hx hb dL_law_795 (by decide) ?_
                                                    cases h
                                                · have h := ite_f c_230 h
                                                  cases h
