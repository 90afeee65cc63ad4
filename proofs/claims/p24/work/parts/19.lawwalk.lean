set_option maxRecDepth 100000 in
set_option maxHeartbeats 64000000 in
/-- THE LAW: where its function answers 1, the walk comes to the law's end with 1 -/
theorem law_walk {p : Program} {l : Launch} {e : Env} {s : State} {m : MethodId} {below : List Frame} {meth : Method} {cd : Code} {b L : Nat} {xs : Nat → Int32} (hL : L ≤ 260) (C0 : lw_At p s m meth cd b L xs) (G : WG) (hK : KW G s) (hA : ∀ q, Aw G q → (fun q : Nat => s.heap.size ≤ q) q) (H : Heap) (locs : List Loc) (S M0 : St) (hW : WD G S M0 H) (hS : va_S (fun q : Nat => s.heap.size ≤ q) s.heap H locs) (ls : Array Slot) (hl : lv_has ls 14 [(1, .ref (gad G 154)), (0, .ref b)]) (h : flaw xs L S = some 1) : W p l e room_1 s m #[Value.ref b] below meth cd H locs 159 6088 (lw_Z below #[Value.ref b] s) (F0 m 8 ls []) := by
  obtain ⟨hx, hb, hr, hml, hown, hts0, hX, hbl, hlocks, hgv⟩ := id C0
  have hts : ∀ w ∈ wsL_law, w.before #[Value.ref b] s = true := fun w h => hts0 w (wsL_law_in w h)
  have hbA : ¬ (fun q : Nat => s.heap.size ≤ q) b := Nat.not_le.mpr hbl
  have hbW : ¬ Aw G b := fun q => hbA (hA b q)
  have B43 : ∀ (n : Nat), ∀ (H : Heap) (locs : List Loc) (S : St) (_ : WD G S M0 H) (_ : va_S (fun q : Nat => s.heap.size ≤ q) s.heap H locs) (ls : Array Slot) (l2 : Int64) (l4 : Int32) (_ : lv_has ls 14 [(0, .ref (b)), (1, .ref (gad G 154)), (2, .long l2), (4, .int l4)]) (h : flaw_b43 xs L n S l2 l4 = some 1), W p l e room_1 s m #[Value.ref b] below meth cd H locs 159 6088 (lw_Z below #[Value.ref b] s) (F0 m 43 ls []) := by
    intro n
    induction n with
    | zero => intro H locs S hW hS ls l2 l4 hl h; cases (show (none : Option (Int32)) = some _ from h)
    | succ n ih =>
      have B278 : ∀ (H : Heap) (locs : List Loc) (S : St) (_ : WD G S M0 H) (_ : va_S (fun q : Nat => s.heap.size ≤ q) s.heap H locs) (ls : Array Slot) (l2 : Int64) (l4 : Int32) (_ : lv_has ls 14 [(0, .ref (b)), (1, .ref (gad G 154)), (2, .long l2), (4, .int l4)]) (h : flaw_b278 xs L S (flaw_b43 xs L n) l2 l4 = some 1), W p l e room_1 s m #[Value.ref b] below meth cd H locs 159 6088 (lw_Z below #[Value.ref b] s) (F0 m 278 ls []) := by
        intro H locs S hW hS ls l2 l4 hl h
        unfold flaw_b278 at h
        refine lv_iinc (v := (l4 + 1)) (lv' := [(4, .int ((l4 + 1))), (0, .ref (b)), (1, .ref (gad G 154)), (2, .long l2)]) hx hb dL_law_278 hl (k := 3) rfl rfl (by decide) rfl (fun ls hl => ?_)
        refine lv_goto (tgt := 43) hx hb dL_law_281 (by decide) ?_
        exact ih _ _ S hW hS ls l2 ((l4 + 1)) (lv_sub hl [1, 2, 3, 0] rfl) h
      have B247 : ∀ (H : Heap) (locs : List Loc) (S : St) (_ : WD G S M0 H) (_ : va_S (fun q : Nat => s.heap.size ≤ q) s.heap H locs) (ls : Array Slot) (l2 : Int64) (l4 : Int32) (l5 : Int32) (l6 : Int32) (l11 : Int64) (_ : lv_has ls 14 [(0, .ref (b)), (1, .ref (gad G 154)), (2, .long l2), (4, .int l4), (5, .int l5), (6, .int l6), (11, .long l11)]) (h : flaw_b247 xs L S (flaw_b43 xs L n) l2 l4 l5 l6 l11 = some 1), W p l e room_1 s m #[Value.ref b] below meth cd H locs 159 6088 (lw_Z below #[Value.ref b] s) (F0 m 247 ls []) := by
        intro H locs S hW hS ls l2 l4 l5 l6 l11 hl h
        unfold flaw_b247 at h
        refine lv_aload_n hx hb dL_law_247 rfl (lv_at hl 1 rfl) ?_
        refine lv_iload hx hb dL_law_248 (lv_at hl 5 rfl) ?_
        obtain ⟨r_1, e_2, h⟩ := bnd_e h
        refine kS_I (As := [.ref (gad G 154), .int l6]) (rest := []) ⟨hx, hb, hml, hown, hts⟩ (tL_holds l G S M0 l6 r_1 e_2) (va_cwS 2 hts gL_law_L_holds rfl rfl rfl hdL_holds ⟨Nat.le_of_ble_eq_true rfl, Nat.le_of_ble_eq_true rfl⟩) hK hW hS hA rfl hl.1 rfl (Nat.le_of_ble_eq_true rfl) dL_law_250 ⟨Nat.le_of_ble_eq_true rfl, Nat.le_of_ble_eq_true rfl⟩ (fun H locs hW hS => ?_)
        refine lv_if_ne (tgt := 258) hx hb dL_law_253 (by decide) (fun c_3 => ?_) (fun c_3 => ?_)
        · have h := ite_f c_3 h
          refine lv_iload hx hb dL_law_258 (lv_at hl 4 rfl) ?_
          refine lv_bipush (v := 10) hx hb dL_law_260 (by decide) ?_
          refine lv_ishr hx hb dL_law_262 ?_
          refine lv_bipush (v := 7) hx hb dL_law_263 (by decide) ?_
          refine lv_iand hx hb dL_law_265 ?_
          refine lv_iconst (v := 1) hx hb dL_law_266 (by decide) ?_
          refine lv_icmp_ne (tgt := 278) hx hb dL_law_267 (by decide) (fun c_4 => ?_) (fun c_4 => ?_)
          · have h := ite_f c_4 h
            exact B278 _ _ S hW hS ls l2 l4 (lv_sub hl [0, 1, 2, 3] rfl) h
          · have h := ite_t c_4 h
            refine lv_aload_n hx hb dL_law_270 rfl (lv_at hl 1 rfl) ?_
            obtain ⟨r_5, S_6, e_7, h⟩ := bd2_e h
            refine kV_I (As := []) (rest := []) ⟨hx, hb, hml, hown, hts⟩ (tX5_keep l G S M0 r_5 S_6 e_7) (cwV 0 hts gL_law_X5_keep rfl rfl rfl ⟨rfl, hdX5_keep⟩ ⟨Nat.le_of_ble_eq_true rfl, Nat.le_of_ble_eq_true rfl⟩) (va_recv hK.1 hW.1 (ci := 5) (q0 := 154) rfl lkT) hK hW hS hA rfl hl.1 rfl (Nat.le_of_ble_eq_true rfl) dL_law_271 ⟨Nat.le_of_ble_eq_true rfl, Nat.le_of_ble_eq_true rfl⟩ (fun H locs hW hS => ?_)
            refine lv_pop hx hb dL_law_274 rfl ?_
            refine lv_lload hx hb dL_law_275 (lv_at hl 6 rfl) ?_
            refine lv_lstore_n (lv' := [(2, .long l11), (0, .ref (b)), (1, .ref (gad G 154)), (4, .int l4), (5, .int l5), (6, .int l6), (11, .long l11)]) hx hb dL_law_277 rfl hl (by decide) rfl (fun ls hl => ?_)
            exact B278 _ _ S_6 hW hS ls l11 l4 (lv_sub hl [1, 2, 0, 3] rfl) h
        · have h := ite_t c_3 h
          refine lv_iconst (v := 0) hx hb dL_law_256 (by decide) ?_
          cases h
      have B178 : ∀ (H : Heap) (locs : List Loc) (S : St) (_ : WD G S M0 H) (_ : va_S (fun q : Nat => s.heap.size ≤ q) s.heap H locs) (ls : Array Slot) (l2 : Int64) (l4 : Int32) (l5 : Int32) (l6 : Int32) (l7 : Int64) (l10 : Int32) (l11 : Int64) (_ : lv_has ls 14 [(0, .ref (b)), (1, .ref (gad G 154)), (2, .long l2), (4, .int l4), (5, .int l5), (6, .int l6), (7, .long l7), (10, .int l10), (11, .long l11)]) (h : flaw_b178 xs L S (flaw_b43 xs L n) l2 l4 l5 l6 l7 l10 l11 = some 1), W p l e room_1 s m #[Value.ref b] below meth cd H locs 159 6088 (lw_Z below #[Value.ref b] s) (F0 m 178 ls []) := by
        intro H locs S hW hS ls l2 l4 l5 l6 l7 l10 l11 hl h
        unfold flaw_b178 at h
        refine lv_iload hx hb dL_law_178 (lv_at hl 7 rfl) ?_
        refine lv_if_lt (tgt := 247) hx hb dL_law_180 (by decide) (fun c_1 => ?_) (fun c_1 => ?_)
        · have h := ite_t c_1 h
          exact B247 _ _ S hW hS ls l2 l4 l5 l6 l11 (lv_sub hl [0, 1, 2, 3, 4, 5, 8] rfl) h
        · have h := ite_f c_1 h
          refine lv_iload hx hb dL_law_183 (lv_at hl 4 rfl) ?_
          refine lv_bipush (v := 9) hx hb dL_law_185 (by decide) ?_
          refine lv_ishr hx hb dL_law_187 ?_
          refine lv_iconst (v := 1) hx hb dL_law_188 (by decide) ?_
          refine lv_iand hx hb dL_law_189 ?_
          refine lv_if_ne (tgt := 247) hx hb dL_law_190 (by decide) (fun c_2 => ?_) (fun c_2 => ?_)
          · have h := ite_f c_2 h
            exact B247 _ _ S hW hS ls l2 l4 l5 l6 l11 (lv_sub hl [0, 1, 2, 3, 4, 5, 8] rfl) h
          · have h := ite_t c_2 h
            refine lv_aload_n hx hb dL_law_193 rfl (lv_at hl 1 rfl) ?_
            refine lv_bipush (v := 10) hx hb dL_law_194 (by decide) ?_
            obtain ⟨r_3, e_4, h⟩ := bnd_e h
            refine kV_I (As := [.int 10]) (rest := []) ⟨hx, hb, hml, hown, hts⟩ (tX5_count l G S M0 10 r_3 e_4) (cwV 1 hts gL_law_X5_count rfl rfl rfl ⟨rfl, hdX5_count⟩ ⟨Nat.le_of_ble_eq_true rfl, Nat.le_of_ble_eq_true rfl⟩) (va_recv hK.1 hW.1 (ci := 5) (q0 := 154) rfl lkT) hK hW hS hA rfl hl.1 rfl (Nat.le_of_ble_eq_true rfl) dL_law_196 ⟨Nat.le_of_ble_eq_true rfl, Nat.le_of_ble_eq_true rfl⟩ (fun H locs hW hS => ?_)
            refine lv_iconst (v := 1) hx hb dL_law_199 (by decide) ?_
            refine lv_isub hx hb dL_law_200 ?_
            obtain ⟨x_5, ex_5, h⟩ := nam_e h
            refine lv_ni ex_5 ?_
            refine lv_istore (lv' := [(13, .int x_5), (0, .ref (b)), (1, .ref (gad G 154)), (2, .long l2), (4, .int l4), (5, .int l5), (6, .int l6), (7, .long l7), (10, .int l10), (11, .long l11)]) hx hb dL_law_201 hl (by decide) rfl (fun ls hl => ?_)
            refine lv_aload_n hx hb dL_law_203 rfl (lv_at hl 2 rfl) ?_
            obtain ⟨r_6, S_7, e_8, h⟩ := bd2_e h
            refine kV_I (As := []) (rest := []) ⟨hx, hb, hml, hown, hts⟩ (tX5_undo l G S M0 r_6 S_7 e_8) (cwV 0 hts gL_law_X5_undo rfl rfl rfl ⟨rfl, hdX5_undo⟩ ⟨Nat.le_of_ble_eq_true rfl, Nat.le_of_ble_eq_true rfl⟩) (va_recv hK.1 hW.1 (ci := 5) (q0 := 154) rfl lkT) hK hW hS hA rfl hl.1 rfl (Nat.le_of_ble_eq_true rfl) dL_law_204 ⟨Nat.le_of_ble_eq_true rfl, Nat.le_of_ble_eq_true rfl⟩ (fun H locs hW hS => ?_)
            refine lv_iload hx hb dL_law_207 (lv_at hl 0 rfl) ?_
            refine lv_icmp_ne (tgt := 245) hx hb dL_law_209 (by decide) (fun c_9 => ?_) (fun c_9 => ?_)
            · have h := ite_f c_9 h
              refine lv_iconst (v := 0) hx hb dL_law_245 (by decide) ?_
              cases h
            · have h := ite_t c_9 h
              refine lv_aload_n hx hb dL_law_212 rfl (lv_at hl 2 rfl) ?_
              obtain ⟨r_10, e_11, h⟩ := bnd_e h
              refine kS_J (As := [.ref (gad G 154)]) (rest := []) ⟨hx, hb, hml, hown, hts⟩ (tL_told l G S_7 M0 r_10 e_11) (va_cwS 1 hts gL_law_L_told rfl rfl rfl hdL_told ⟨Nat.le_of_ble_eq_true rfl, Nat.le_of_ble_eq_true rfl⟩) hK hW hS hA rfl hl.1 rfl (Nat.le_of_ble_eq_true rfl) dL_law_213 ⟨Nat.le_of_ble_eq_true rfl, Nat.le_of_ble_eq_true rfl⟩ (fun H locs hW hS => ?_)
              refine lv_lload hx hb dL_law_216 (lv_at hl 7 rfl) ?_
              refine W.lcmp hx hb dL_law_218 ?_
              refine lv_if_ne (tgt := 245) hx hb dL_law_219 (by decide) (fun c_12 => ?_) (fun c_12 => ?_)
              · have h := ite_f c_12 h
                refine lv_iconst (v := 0) hx hb dL_law_245 (by decide) ?_
                cases h
              · have h := ite_t c_12 h
                refine lv_aload_n hx hb dL_law_222 rfl (lv_at hl 2 rfl) ?_
                refine lv_iload hx hb dL_law_223 (lv_at hl 5 rfl) ?_
                refine lv_iload hx hb dL_law_225 (lv_at hl 6 rfl) ?_
                obtain ⟨r_13, S_14, e_15, h⟩ := bd2_e h
                refine kS_I (As := [.ref (gad G 154), .int l5, .int l6]) (rest := []) ⟨hx, hb, hml, hown, hts⟩ (tL_act l G S_7 M0 l5 l6 r_13 S_14 e_15) (va_cwS 3 hts gL_law_L_act rfl rfl rfl hdL_act ⟨Nat.le_of_ble_eq_true rfl, Nat.le_of_ble_eq_true rfl⟩) hK hW hS hA rfl hl.1 rfl (Nat.le_of_ble_eq_true rfl) dL_law_227 ⟨Nat.le_of_ble_eq_true rfl, Nat.le_of_ble_eq_true rfl⟩ (fun H locs hW hS => ?_)
                refine lv_iload hx hb dL_law_230 (lv_at hl 8 rfl) ?_
                refine lv_icmp_ne (tgt := 245) hx hb dL_law_232 (by decide) (fun c_16 => ?_) (fun c_16 => ?_)
                · have h := ite_f c_16 h
                  refine lv_iconst (v := 0) hx hb dL_law_245 (by decide) ?_
                  cases h
                · have h := ite_t c_16 h
                  refine lv_aload_n hx hb dL_law_235 rfl (lv_at hl 2 rfl) ?_
                  obtain ⟨r_17, e_18, h⟩ := bnd_e h
                  refine kS_J (As := [.ref (gad G 154)]) (rest := []) ⟨hx, hb, hml, hown, hts⟩ (tL_told l G S_14 M0 r_17 e_18) (va_cwS 1 hts gL_law_L_told rfl rfl rfl hdL_told ⟨Nat.le_of_ble_eq_true rfl, Nat.le_of_ble_eq_true rfl⟩) hK hW hS hA rfl hl.1 rfl (Nat.le_of_ble_eq_true rfl) dL_law_236 ⟨Nat.le_of_ble_eq_true rfl, Nat.le_of_ble_eq_true rfl⟩ (fun H locs hW hS => ?_)
                  refine lv_lload hx hb dL_law_239 (lv_at hl 9 rfl) ?_
                  refine W.lcmp hx hb dL_law_241 ?_
                  refine lv_if_eq (tgt := 247) hx hb dL_law_242 (by decide) (fun c_19 => ?_) (fun c_19 => ?_)
                  · have h := ite_t c_19 h
                    exact B247 _ _ S_14 hW hS ls l2 l4 l5 l6 l11 (lv_sub hl [1, 2, 3, 4, 5, 6, 9] rfl) h
                  · have h := ite_f c_19 h
                    refine lv_iconst (v := 0) hx hb dL_law_245 (by decide) ?_
                    cases h
      have B154 : ∀ (H : Heap) (locs : List Loc) (S : St) (_ : WD G S M0 H) (_ : va_S (fun q : Nat => s.heap.size ≤ q) s.heap H locs) (ls : Array Slot) (l2 : Int64) (l4 : Int32) (l5 : Int32) (l6 : Int32) (l7 : Int64) (l10 : Int32) (l11 : Int64) (_ : lv_has ls 14 [(0, .ref (b)), (1, .ref (gad G 154)), (2, .long l2), (4, .int l4), (5, .int l5), (6, .int l6), (7, .long l7), (10, .int l10), (11, .long l11)]) (h : flaw_b154 xs L S (flaw_b43 xs L n) l2 l4 l5 l6 l7 l10 l11 = some 1), W p l e room_1 s m #[Value.ref b] below meth cd H locs 159 6088 (lw_Z below #[Value.ref b] s) (F0 m 154 ls []) := by
        intro H locs S hW hS ls l2 l4 l5 l6 l7 l10 l11 hl h
        unfold flaw_b154 at h
        refine lv_iload hx hb dL_law_154 (lv_at hl 7 rfl) ?_
        refine lv_if_lt (tgt := 178) hx hb dL_law_156 (by decide) (fun c_1 => ?_) (fun c_1 => ?_)
        · have h := ite_t c_1 h
          exact B178 _ _ S hW hS ls l2 l4 l5 l6 l7 l10 l11 (lv_sub hl [0, 1, 2, 3, 4, 5, 6, 7, 8] rfl) h
        · have h := ite_f c_1 h
          refine lv_iload hx hb dL_law_159 (lv_at hl 4 rfl) ?_
          refine lv_bipush (v := 15) hx hb dL_law_161 (by decide) ?_
          refine lv_iand hx hb dL_law_163 ?_
          refine lv_bipush (v := 13) hx hb dL_law_164 (by decide) ?_
          refine lv_icmp_ne (tgt := 178) hx hb dL_law_166 (by decide) (fun c_2 => ?_) (fun c_2 => ?_)
          · have h := ite_f c_2 h
            exact B178 _ _ S hW hS ls l2 l4 l5 l6 l7 l10 l11 (lv_sub hl [0, 1, 2, 3, 4, 5, 6, 7, 8] rfl) h
          · have h := ite_t c_2 h
            refine lv_lload hx hb dL_law_169 (lv_at hl 8 rfl) ?_
            refine lv_lload_n hx hb dL_law_171 rfl (lv_at hl 2 rfl) ?_
            refine W.lcmp hx hb dL_law_172 ?_
            refine lv_if_eq (tgt := 178) hx hb dL_law_173 (by decide) (fun c_3 => ?_) (fun c_3 => ?_)
            · have h := ite_t c_3 h
              exact B178 _ _ S hW hS ls l2 l4 l5 l6 l7 l10 l11 (lv_sub hl [0, 1, 2, 3, 4, 5, 6, 7, 8] rfl) h
            · have h := ite_f c_3 h
              refine lv_iconst (v := 0) hx hb dL_law_176 (by decide) ?_
              cases h
      have B149 : ∀ (H : Heap) (locs : List Loc) (S : St) (_ : WD G S M0 H) (_ : va_S (fun q : Nat => s.heap.size ≤ q) s.heap H locs) (ls : Array Slot) (l2 : Int64) (l4 : Int32) (l5 : Int32) (l6 : Int32) (l7 : Int64) (l10 : Int32) (l11 : Int64) (k0 : Int32) (k1 : Int32) (_ : lv_has ls 14 [(0, .ref (b)), (1, .ref (gad G 154)), (2, .long l2), (4, .int l4), (5, .int l5), (6, .int l6), (7, .long l7), (10, .int l10), (11, .long l11)]) (h : flaw_b149 xs L S (flaw_b43 xs L n) l2 l4 l5 l6 l7 l10 l11 k0 k1 = some 1), W p l e room_1 s m #[Value.ref b] below meth cd H locs 159 6088 (lw_Z below #[Value.ref b] s) (F0 m 149 ls [.int k0, .int k1]) := by
        intro H locs S hW hS ls l2 l4 l5 l6 l7 l10 l11 k0 k1 hl h
        unfold flaw_b149 at h
        refine lv_icmp_eq (tgt := 154) hx hb dL_law_149 (by decide) (fun c_1 => ?_) (fun c_1 => ?_)
        · have h := ite_t c_1 h
          exact B154 _ _ S hW hS ls l2 l4 l5 l6 l7 l10 l11 (lv_sub hl [0, 1, 2, 3, 4, 5, 6, 7, 8] rfl) h
        · have h := ite_f c_1 h
          refine lv_iconst (v := 0) hx hb dL_law_152 (by decide) ?_
          cases h
      intro H locs S hW hS ls l2 l4 hl h
      rw [flaw_b43] at h
      refine lv_iload hx hb dL_law_43 (lv_at hl 3 rfl) ?_
      refine lv_bipush (v := 30) hx hb dL_law_45 (by decide) ?_
      refine lv_icmp_ge (tgt := 284) hx hb dL_law_47 (by decide) (fun c_1 => ?_) (fun c_1 => ?_)
      · have h := ite_t c_1 h
        refine lv_iconst (v := 1) hx hb dL_law_284 (by decide) ?_
        refine va_forget (fun q hq => hS.2.2 q hq) ?_
        refine W.widen (k := 600000) (n := 7302250) (Nat.le_of_ble_eq_true rfl) (Nat.le_of_ble_eq_true rfl) ?_
        exact W.base (lw_ret (Drawn.sameBut.refl s.drawn lw_cs) hx hb hr hlocks dL_law_285)
      · have h := ite_f c_1 h
        refine lv_aload_n hx hb dL_law_50 rfl (lv_at hl 0 rfl) ?_
        refine lv_iconst (v := 2) hx hb dL_law_51 (by decide) ?_
        refine lv_iload hx hb dL_law_52 (lv_at hl 3 rfl) ?_
        refine lv_imul hx hb dL_law_54 ?_
        obtain ⟨r_2, e_3, h⟩ := bnd_e h
        refine kS_X hX hbl hbA (As := [.ref (b), .int ((2 * l4))]) (rest := []) ⟨hx, hb, hml, hown, hts⟩ (tL_cell l G hbW S M0 ((2 * l4)) r_2 e_3) (va_cwS 2 hts gL_law_L_cell rfl rfl rfl hdL_cell ⟨Nat.le_of_ble_eq_true rfl, Nat.le_of_ble_eq_true rfl⟩) hK hW hS hA rfl hl.1 rfl (Nat.le_of_ble_eq_true rfl) dL_law_55 ⟨Nat.le_of_ble_eq_true rfl, Nat.le_of_ble_eq_true rfl⟩ (fun H locs hW hS => ?_)
        refine lv_istore (lv' := [(5, .int r_2), (0, .ref (b)), (1, .ref (gad G 154)), (2, .long l2), (4, .int l4)]) hx hb dL_law_58 hl (by decide) rfl (fun ls hl => ?_)
        refine lv_aload_n hx hb dL_law_60 rfl (lv_at hl 1 rfl) ?_
        refine lv_iconst (v := 2) hx hb dL_law_61 (by decide) ?_
        refine lv_iload hx hb dL_law_62 (lv_at hl 4 rfl) ?_
        refine lv_imul hx hb dL_law_64 ?_
        refine lv_iconst (v := 1) hx hb dL_law_65 (by decide) ?_
        refine lv_iadd hx hb dL_law_66 ?_
        obtain ⟨r_4, e_5, h⟩ := bnd_e h
        refine kS_X hX hbl hbA (As := [.ref (b), .int (((2 * l4) + 1))]) (rest := []) ⟨hx, hb, hml, hown, hts⟩ (tL_cell l G hbW S M0 (((2 * l4) + 1)) r_4 e_5) (va_cwS 2 hts gL_law_L_cell rfl rfl rfl hdL_cell ⟨Nat.le_of_ble_eq_true rfl, Nat.le_of_ble_eq_true rfl⟩) hK hW hS hA rfl hl.1 rfl (Nat.le_of_ble_eq_true rfl) dL_law_67 ⟨Nat.le_of_ble_eq_true rfl, Nat.le_of_ble_eq_true rfl⟩ (fun H locs hW hS => ?_)
        refine lv_istore (lv' := [(6, .int r_4), (5, .int r_2), (0, .ref (b)), (1, .ref (gad G 154)), (2, .long l2), (4, .int l4)]) hx hb dL_law_70 hl (by decide) rfl (fun ls hl => ?_)
        refine lv_aload_n hx hb dL_law_72 rfl (lv_at hl 3 rfl) ?_
        obtain ⟨r_6, e_7, h⟩ := bnd_e h
        refine kS_J (As := [.ref (gad G 154)]) (rest := []) ⟨hx, hb, hml, hown, hts⟩ (tL_told l G S M0 r_6 e_7) (va_cwS 1 hts gL_law_L_told rfl rfl rfl hdL_told ⟨Nat.le_of_ble_eq_true rfl, Nat.le_of_ble_eq_true rfl⟩) hK hW hS hA rfl hl.1 rfl (Nat.le_of_ble_eq_true rfl) dL_law_73 ⟨Nat.le_of_ble_eq_true rfl, Nat.le_of_ble_eq_true rfl⟩ (fun H locs hW hS => ?_)
        refine lv_lstore (lv' := [(7, .long r_6), (6, .int r_4), (5, .int r_2), (0, .ref (b)), (1, .ref (gad G 154)), (2, .long l2), (4, .int l4)]) hx hb dL_law_76 hl (by decide) rfl (fun ls hl => ?_)
        refine lv_aload_n hx hb dL_law_78 rfl (lv_at hl 4 rfl) ?_
        refine lv_bipush (v := 10) hx hb dL_law_79 (by decide) ?_
        obtain ⟨r_8, e_9, h⟩ := bnd_e h
        refine kV_I (As := [.int 10]) (rest := []) ⟨hx, hb, hml, hown, hts⟩ (tX5_count l G S M0 10 r_8 e_9) (cwV 1 hts gL_law_X5_count rfl rfl rfl ⟨rfl, hdX5_count⟩ ⟨Nat.le_of_ble_eq_true rfl, Nat.le_of_ble_eq_true rfl⟩) (va_recv hK.1 hW.1 (ci := 5) (q0 := 154) rfl lkT) hK hW hS hA rfl hl.1 rfl (Nat.le_of_ble_eq_true rfl) dL_law_81 ⟨Nat.le_of_ble_eq_true rfl, Nat.le_of_ble_eq_true rfl⟩ (fun H locs hW hS => ?_)
        refine lv_istore (lv' := [(9, .int r_8), (7, .long r_6), (6, .int r_4), (5, .int r_2), (0, .ref (b)), (1, .ref (gad G 154)), (2, .long l2), (4, .int l4)]) hx hb dL_law_84 hl (by decide) rfl (fun ls hl => ?_)
        refine lv_aload_n hx hb dL_law_86 rfl (lv_at hl 5 rfl) ?_
        refine lv_iload hx hb dL_law_87 (lv_at hl 3 rfl) ?_
        refine lv_iload hx hb dL_law_89 (lv_at hl 2 rfl) ?_
        obtain ⟨r_10, S_11, e_12, h⟩ := bd2_e h
        refine kS_I (As := [.ref (gad G 154), .int r_2, .int r_4]) (rest := []) ⟨hx, hb, hml, hown, hts⟩ (tL_act l G S M0 r_2 r_4 r_10 S_11 e_12) (va_cwS 3 hts gL_law_L_act rfl rfl rfl hdL_act ⟨Nat.le_of_ble_eq_true rfl, Nat.le_of_ble_eq_true rfl⟩) hK hW hS hA rfl hl.1 rfl (Nat.le_of_ble_eq_true rfl) dL_law_91 ⟨Nat.le_of_ble_eq_true rfl, Nat.le_of_ble_eq_true rfl⟩ (fun H locs hW hS => ?_)
        refine lv_istore (lv' := [(10, .int r_10), (9, .int r_8), (7, .long r_6), (6, .int r_4), (5, .int r_2), (0, .ref (b)), (1, .ref (gad G 154)), (2, .long l2), (4, .int l4)]) hx hb dL_law_94 hl (by decide) rfl (fun ls hl => ?_)
        refine lv_aload_n hx hb dL_law_96 rfl (lv_at hl 6 rfl) ?_
        obtain ⟨r_13, e_14, h⟩ := bnd_e h
        refine kS_J (As := [.ref (gad G 154)]) (rest := []) ⟨hx, hb, hml, hown, hts⟩ (tL_told l G S_11 M0 r_13 e_14) (va_cwS 1 hts gL_law_L_told rfl rfl rfl hdL_told ⟨Nat.le_of_ble_eq_true rfl, Nat.le_of_ble_eq_true rfl⟩) hK hW hS hA rfl hl.1 rfl (Nat.le_of_ble_eq_true rfl) dL_law_97 ⟨Nat.le_of_ble_eq_true rfl, Nat.le_of_ble_eq_true rfl⟩ (fun H locs hW hS => ?_)
        refine lv_lstore (lv' := [(11, .long r_13), (10, .int r_10), (9, .int r_8), (7, .long r_6), (6, .int r_4), (5, .int r_2), (0, .ref (b)), (1, .ref (gad G 154)), (2, .long l2), (4, .int l4)]) hx hb dL_law_100 hl (by decide) rfl (fun ls hl => ?_)
        refine lv_iload hx hb dL_law_102 (lv_at hl 1 rfl) ?_
        refine lv_if_ge (tgt := 129) hx hb dL_law_104 (by decide) (fun c_15 => ?_) (fun c_15 => ?_)
        · have h := ite_t c_15 h
          refine lv_aload_n hx hb dL_law_129 rfl (lv_at hl 7 rfl) ?_
          refine lv_bipush (v := 10) hx hb dL_law_130 (by decide) ?_
          obtain ⟨r_16, e_17, h⟩ := bnd_e h
          refine kV_I (As := [.int 10]) (rest := []) ⟨hx, hb, hml, hown, hts⟩ (tX5_count l G S_11 M0 10 r_16 e_17) (cwV 1 hts gL_law_X5_count rfl rfl rfl ⟨rfl, hdX5_count⟩ ⟨Nat.le_of_ble_eq_true rfl, Nat.le_of_ble_eq_true rfl⟩) (va_recv hK.1 hW.1 (ci := 5) (q0 := 154) rfl lkT) hK hW hS hA rfl hl.1 rfl (Nat.le_of_ble_eq_true rfl) dL_law_132 ⟨Nat.le_of_ble_eq_true rfl, Nat.le_of_ble_eq_true rfl⟩ (fun H locs hW hS => ?_)
          refine lv_iload hx hb dL_law_135 (lv_at hl 2 rfl) ?_
          refine lv_iconst (v := 4) hx hb dL_law_137 (by decide) ?_
          refine lv_icmp_ge (tgt := 148) hx hb dL_law_138 (by decide) (fun c_18 => ?_) (fun c_18 => ?_)
          · have h := ite_t c_18 h
            refine lv_iconst (v := 4) hx hb dL_law_148 (by decide) ?_
            exact B149 _ _ S_11 hW hS ls l2 l4 r_2 r_4 r_6 r_10 r_13 4 r_16 (lv_sub hl [6, 7, 8, 9, 5, 4, 3, 1, 0] rfl) h
          · have h := ite_f c_18 h
            refine lv_iload hx hb dL_law_141 (lv_at hl 2 rfl) ?_
            refine lv_iconst (v := 1) hx hb dL_law_143 (by decide) ?_
            refine lv_iadd hx hb dL_law_144 ?_
            refine lv_goto (tgt := 149) hx hb dL_law_145 (by decide) ?_
            exact B149 _ _ S_11 hW hS ls l2 l4 r_2 r_4 r_6 r_10 r_13 ((r_8 + 1)) r_16 (lv_sub hl [6, 7, 8, 9, 5, 4, 3, 1, 0] rfl) h
        · have h := ite_f c_15 h
          refine lv_lload hx hb dL_law_107 (lv_at hl 0 rfl) ?_
          refine lv_lload hx hb dL_law_109 (lv_at hl 3 rfl) ?_
          refine W.lcmp hx hb dL_law_111 ?_
          refine lv_if_ne (tgt := 152) hx hb dL_law_112 (by decide) (fun c_19 => ?_) (fun c_19 => ?_)
          · have h := ite_f c_19 h
            refine lv_iconst (v := 0) hx hb dL_law_152 (by decide) ?_
            cases h
          · have h := ite_t c_19 h
            refine lv_aload_n hx hb dL_law_115 rfl (lv_at hl 7 rfl) ?_
            refine lv_bipush (v := 10) hx hb dL_law_116 (by decide) ?_
            obtain ⟨r_20, e_21, h⟩ := bnd_e h
            refine kV_I (As := [.int 10]) (rest := []) ⟨hx, hb, hml, hown, hts⟩ (tX5_count l G S_11 M0 10 r_20 e_21) (cwV 1 hts gL_law_X5_count rfl rfl rfl ⟨rfl, hdX5_count⟩ ⟨Nat.le_of_ble_eq_true rfl, Nat.le_of_ble_eq_true rfl⟩) (va_recv hK.1 hW.1 (ci := 5) (q0 := 154) rfl lkT) hK hW hS hA rfl hl.1 rfl (Nat.le_of_ble_eq_true rfl) dL_law_118 ⟨Nat.le_of_ble_eq_true rfl, Nat.le_of_ble_eq_true rfl⟩ (fun H locs hW hS => ?_)
            refine lv_iload hx hb dL_law_121 (lv_at hl 2 rfl) ?_
            refine lv_icmp_eq (tgt := 154) hx hb dL_law_123 (by decide) (fun c_22 => ?_) (fun c_22 => ?_)
            · have h := ite_t c_22 h
              exact B154 _ _ S_11 hW hS ls l2 l4 r_2 r_4 r_6 r_10 r_13 (lv_sub hl [6, 7, 8, 9, 5, 4, 3, 1, 0] rfl) h
            · have h := ite_f c_22 h
              refine lv_goto (tgt := 152) hx hb dL_law_126 (by decide) ?_
              refine lv_iconst (v := 0) hx hb dL_law_152 (by decide) ?_
              cases h
  unfold flaw at h
  refine lv_aload_n hx hb dL_law_8 rfl (lv_at hl 0 rfl) ?_
  obtain ⟨r_1, S_2, e_3, h⟩ := bd2_e h
  refine kV_I (As := []) (rest := []) ⟨hx, hb, hml, hown, hts⟩ (tX5_undo l G S M0 r_1 S_2 e_3) (cwV 0 hts gL_law_X5_undo rfl rfl rfl ⟨rfl, hdX5_undo⟩ ⟨Nat.le_of_ble_eq_true rfl, Nat.le_of_ble_eq_true rfl⟩) (va_recv hK.1 hW.1 (ci := 5) (q0 := 154) rfl lkT) hK hW hS hA rfl hl.1 rfl (Nat.le_of_ble_eq_true rfl) dL_law_9 ⟨Nat.le_of_ble_eq_true rfl, Nat.le_of_ble_eq_true rfl⟩ (fun H locs hW hS => ?_)
  refine lv_bipush (v := (-5)) hx hb dL_law_12 (by decide) ?_
  refine lv_icmp_ne (tgt := 33) hx hb dL_law_14 (by decide) (fun c_4 => ?_) (fun c_4 => ?_)
  · have h := ite_f c_4 h
    refine lv_iconst (v := 0) hx hb dL_law_33 (by decide) ?_
    cases h
  · have h := ite_t c_4 h
    refine lv_aload_n hx hb dL_law_17 rfl (lv_at hl 0 rfl) ?_
    obtain ⟨r_5, S_6, e_7, h⟩ := bd2_e h
    refine kV_I (As := []) (rest := []) ⟨hx, hb, hml, hown, hts⟩ (tX5_restore l G S_2 M0 r_5 S_6 e_7) (cwV 0 hts gL_law_X5_restore rfl rfl rfl ⟨rfl, hdX5_restore⟩ ⟨Nat.le_of_ble_eq_true rfl, Nat.le_of_ble_eq_true rfl⟩) (va_recv hK.1 hW.1 (ci := 5) (q0 := 154) rfl lkT) hK hW hS hA rfl hl.1 rfl (Nat.le_of_ble_eq_true rfl) dL_law_18 ⟨Nat.le_of_ble_eq_true rfl, Nat.le_of_ble_eq_true rfl⟩ (fun H locs hW hS => ?_)
    refine lv_bipush (v := (-5)) hx hb dL_law_21 (by decide) ?_
    refine lv_icmp_ne (tgt := 33) hx hb dL_law_23 (by decide) (fun c_8 => ?_) (fun c_8 => ?_)
    · have h := ite_f c_8 h
      refine lv_iconst (v := 0) hx hb dL_law_33 (by decide) ?_
      cases h
    · have h := ite_t c_8 h
      refine lv_aload_n hx hb dL_law_26 rfl (lv_at hl 0 rfl) ?_
      obtain ⟨r_9, S_10, e_11, h⟩ := bd2_e h
      refine kV_I (As := []) (rest := []) ⟨hx, hb, hml, hown, hts⟩ (tX5_keep l G S_6 M0 r_9 S_10 e_11) (cwV 0 hts gL_law_X5_keep rfl rfl rfl ⟨rfl, hdX5_keep⟩ ⟨Nat.le_of_ble_eq_true rfl, Nat.le_of_ble_eq_true rfl⟩) (va_recv hK.1 hW.1 (ci := 5) (q0 := 154) rfl lkT) hK hW hS hA rfl hl.1 rfl (Nat.le_of_ble_eq_true rfl) dL_law_27 ⟨Nat.le_of_ble_eq_true rfl, Nat.le_of_ble_eq_true rfl⟩ (fun H locs hW hS => ?_)
      refine lv_if_eq (tgt := 35) hx hb dL_law_30 (by decide) (fun c_12 => ?_) (fun c_12 => ?_)
      · have h := ite_t c_12 h
        refine lv_aload_n hx hb dL_law_35 rfl (lv_at hl 0 rfl) ?_
        obtain ⟨r_13, e_14, h⟩ := bnd_e h
        refine kS_J (As := [.ref (gad G 154)]) (rest := []) ⟨hx, hb, hml, hown, hts⟩ (tL_told l G S_10 M0 r_13 e_14) (va_cwS 1 hts gL_law_L_told rfl rfl rfl hdL_told ⟨Nat.le_of_ble_eq_true rfl, Nat.le_of_ble_eq_true rfl⟩) hK hW hS hA rfl hl.1 rfl (Nat.le_of_ble_eq_true rfl) dL_law_36 ⟨Nat.le_of_ble_eq_true rfl, Nat.le_of_ble_eq_true rfl⟩ (fun H locs hW hS => ?_)
        refine lv_lstore_n (lv' := [(2, .long r_13), (1, .ref (gad G 154)), (0, .ref (b))]) hx hb dL_law_39 rfl hl (by decide) rfl (fun ls hl => ?_)
        refine lv_iconst (v := 0) hx hb dL_law_40 (by decide) ?_
        refine lv_istore (lv' := [(4, .int 0), (2, .long r_13), (1, .ref (gad G 154)), (0, .ref (b))]) hx hb dL_law_41 hl (by decide) rfl (fun ls hl => ?_)
        exact B43 fuelN _ _ S_10 hW hS ls r_13 0 (lv_sub hl [3, 2, 1, 0] rfl) h
      · have h := ite_f c_12 h
        refine lv_iconst (v := 0) hx hb dL_law_33 (by decide) ?_
        cases h
