def nestW : List Cond := [.fieldLinkNest "TentFields" 219 "TentFields$Plots" "size" "I" "TentFields", .fieldLinkNest "TentFields" 81 "TentFields$Camp" "plots" "LTentFields$Plots;" "TentFields", .fieldLinkNest "TentFields" 93 "TentFields$Camp" "tentXs" "LTentFields$Row;" "TentFields", .fieldLinkNest "TentFields" 102 "TentFields$Camp" "tentYs" "LTentFields$Row;" "TentFields", .fieldLinkNest "TentFields" 135 "TentFields$Camp" "songXs" "LTentFields$Row;" "TentFields", .fieldLinkNest "TentFields" 138 "TentFields$Camp" "songYs" "LTentFields$Row;" "TentFields", .fieldLinkNest "TentFields" 215 "TentFields$Camp" "campersSoFar" "I" "TentFields", .fieldLinkNest "TentFields" 125 "TentFields$Camp" "songsSoFar" "I" "TentFields", .fieldLinkNest "TentFields" 229 "TentFields$Camp" "halvings" "I" "TentFields", .fieldLinkNest "TentFields" 232 "TentFields$Camp" "joinings" "I" "TentFields", .fieldLinkNest "TentFields" 235 "TentFields$Camp" "takings" "I" "TentFields", .fieldLinkNest "TentFields" 154 "TentFields$History" "size" "I" "TentFields", .fieldLinkNest "TentFields" 151 "TentFields$CampText" "length" "I" "TentFields", .methodLinkNest "TentFields$Plots" 45 ⟨"TentFields", "widthAt", "(I)I"⟩ "TentFields", .methodLinkNest "TentFields$Plots" 48 ⟨"TentFields", "heightAt", "(I)I"⟩ "TentFields", .methodLinkNest "TentFields$Plots" 81 ⟨"TentFields", "markOf", "(I)I"⟩ "TentFields", .methodLinkNest "TentFields$Camp" 98 ⟨"TentFields", "partX0", "(II)I"⟩ "TentFields", .methodLinkNest "TentFields$Camp" 101 ⟨"TentFields", "partY0", "(II)I"⟩ "TentFields", .methodLinkNest "TentFields$Plots" 120 ⟨"TentFields", "partX0", "(II)I"⟩ "TentFields", .methodLinkNest "TentFields$Plots" 59 ⟨"TentFields", "otherHalfX0", "(II)I"⟩ "TentFields", .methodLinkNest "TentFields$Plots" 123 ⟨"TentFields", "partY0", "(II)I"⟩ "TentFields", .methodLinkNest "TentFields$Plots" 62 ⟨"TentFields", "otherHalfY0", "(II)I"⟩ "TentFields", .methodLinkNest "TentFields$Camp" 144 ⟨"TentFields", "isMarked", "(II)Z"⟩ "TentFields"]
/-! THE WORLD AS A CONTRACT SPEAKS OF IT, the pure functions' small words, the calls' rows. -/
abbrev wTy (G : WG) : List (ClassId × FieldType) := [(gI G, .int), (gC G, .char), (gR G, .object "TentFields$Camp")]
theorem nest_warm : ∀ w ∈ nestW, ∀ (s U : State), s.WarmedH U.vm → va_Nw w s → va_Nw w U := by
  intro w hw s U h hz
  simp only [nestW, List.mem_cons, List.not_mem_nil, or_false] at hw
  rcases hw with rfl | rfl | rfl | rfl | rfl | rfl | rfl | rfl | rfl | rfl | rfl | rfl | rfl | rfl | rfl | rfl | rfl | rfl | rfl | rfl | rfl | rfl | rfl <;> first | exact va_Nw.warmF h hz | exact va_Nw.warmM h hz
theorem nest_tabs : ∀ w ∈ nestW, w.onTables = true := by decide +kernel
def KW (G : WG) (U : State) : Prop := va_K G.1 vwCl (wTy G) U ∧ ∀ w ∈ nestW, va_Nw w U
theorem KW.moved {G : WG} {s U : State} (h : s.WarmedH U.vm) (hK : KW G s) : KW G U := ⟨va_K.moved h.alike hK.1, fun w hw => nest_warm w hw s U h (hK.2 w hw)⟩
abbrev Pw (G : WG) (S M : St) : State → Prop := fun U => KW G U ∧ WD G S M U.heap
theorem Pw_blind {G : WG} {S M : St} {av : List Value} : FrameBlind (va_Pc av (Pw G S M)) := fun a U g mk q => ⟨q.1, ⟨va_K.moved (u := U) (U := U.calling g mk a) (Vm.Alike.refl U.vm) q.2.1.1, fun w hw => va_Nw.same (u := U) (U := U.calling g mk a) (nest_tabs w hw) rfl (q.2.1.2 w hw)⟩, q.2.2⟩
theorem Pw_at {G : WG} {S M : St} {av : List Value} {s : State} {H : Heap} (hK : KW G s) (hW : WD G S M H) : ∀ U : State, U.heap = H → s.WarmedH U.vm → va_Pc av (Pw G S M) av.toArray U := fun U hU hw => ⟨rfl, hK.moved hw, by rw [hU]; exact hW⟩
abbrev CtI (l : Launch) (y : MethodName) (ws : List Cond) (rm : Room) (G : WG) (av : List Value) (S M : St) (r : Int32) (S' M' : St) : Prop := Met l y ws rm (va_Pc av (Pw G S M)) (va_Qi (fun (x : Int32) (_ : Unit) => x = r) (fun _ t => WD G S' M' t.heap) (Aw G)) 0 0 (Aw G)
abbrev CtF (l : Launch) (y : MethodName) (ws : List Cond) (rm : Room) (G : WG) (av : List Value) (S M : St) (r : UInt32) (S' M' : St) : Prop := Met l y ws rm (va_Pc av (Pw G S M)) (va_Qf (fun (x : UInt32) (_ : Unit) => x = r) (fun _ t => WD G S' M' t.heap) (Aw G)) 0 0 (Aw G)
abbrev CtV (l : Launch) (y : MethodName) (ws : List Cond) (rm : Room) (G : WG) (av : List Value) (S M : St) (S' M' : St) : Prop := Met l y ws rm (va_Pc av (Pw G S M)) (va_Qv (fun (_ : Unit) => True) (fun _ t => WD G S' M' t.heap) (Aw G)) 0 0 (Aw G)
abbrev CtQ (l : Launch) (y : MethodName) (ws : List Cond) (rm : Room) (G : WG) (av : List Value) (S M : St) (r : Option Nat) (S' M' : St) : Prop := Met l y ws rm (va_Pc av (Pw G S M)) (va_Qq (fun (x : Option Nat) (_ : Unit) => x = r) (fun _ t => WD G S' M' t.heap) (Aw G)) 0 0 (Aw G)
abbrev WI (p : Program) (l : Launch) (e : Env) (R : Room) (s : State) (m : MethodId) (args : Array Value) (below : List Frame) (meth : Method) (c : Code) (G : WG) (r : Int32) (S' M' : St) (H : Heap) (locs : List Loc) (g : JFrame) : Prop := W p l e R s m args below meth c H locs 0 0 (MQ below (va_Qi (fun (x : Int32) (_ : Unit) => x = r) (fun _ t => WD G S' M' t.heap) (Aw G)) args s 0 0 (Aw G)) g
abbrev WF (p : Program) (l : Launch) (e : Env) (R : Room) (s : State) (m : MethodId) (args : Array Value) (below : List Frame) (meth : Method) (c : Code) (G : WG) (r : UInt32) (S' M' : St) (H : Heap) (locs : List Loc) (g : JFrame) : Prop := W p l e R s m args below meth c H locs 0 0 (MQ below (va_Qf (fun (x : UInt32) (_ : Unit) => x = r) (fun _ t => WD G S' M' t.heap) (Aw G)) args s 0 0 (Aw G)) g
abbrev WV (p : Program) (l : Launch) (e : Env) (R : Room) (s : State) (m : MethodId) (args : Array Value) (below : List Frame) (meth : Method) (c : Code) (G : WG) (S' M' : St) (H : Heap) (locs : List Loc) (g : JFrame) : Prop := W p l e R s m args below meth c H locs 0 0 (MQ below (va_Qv (fun (_ : Unit) => True) (fun _ t => WD G S' M' t.heap) (Aw G)) args s 0 0 (Aw G)) g
theorem WD.ret {G : WG} {S M : St} {H : Heap} (hW : WD G S M H) {t : State} (ht : t.heap = H) : WD G S M t.heap := by rw [ht]; exact hW
-- the small words of the functions, and how a walk takes them apart
def fuelN : Nat := 100000
def nam {σ α : Type} (x : σ) (k : σ → Option α) : Option α := k x
def bd2 {α β γ : Type} (o : Option (α × β)) (k : α → β → Option γ) : Option γ := o.bind fun q => k q.1 q.2
def arr {α : Type} (f : Nat → Int32) (n : Nat) (i : Int32) (k : Int32 → Option α) : Option α := if i < 0 ∨ n ≤ i.toNatClampNeg then none else k (f i.toNatClampNeg)
def sto {α : Type} (n : Nat) (i : Int32) (k : Option α) : Option α := if i < 0 ∨ n ≤ i.toNatClampNeg then none else k
def fnn {α : Type} (x : UInt32) (k : UInt32 → Option α) : Option α := if x &&& 0x7fffffff ≤ 0x7f800000 then k x else none
def dnn {α : Type} (x : UInt64) (k : UInt64 → Option α) : Option α := if x &&& 0x7fffffffffffffff ≤ 0x7ff0000000000000 then k x else none
def isz {α : Type} (v : Int32) (k : Option α) : Option α := if v = 0 ∨ v = 1 then k else none
def isc {α : Type} (v : Int32) (k : Option α) : Option α := if v.toUInt32.toUInt16.toUInt32.toInt32 = v then k else none
theorem ite_t {α : Sort _} {C : Prop} [Decidable C] {a b x : α} (hc : C) (h : (if C then a else b) = x) : a = x := by rw [if_pos hc] at h; exact h
theorem ite_f {α : Sort _} {C : Prop} [Decidable C] {a b x : α} (hc : ¬ C) (h : (if C then a else b) = x) : b = x := by rw [if_neg hc] at h; exact h
theorem bnd_e {α β : Type} {o : Option α} {k : α → Option β} {x : β} (h : o.bind k = some x) : ∃ q, o = some q ∧ k q = some x := Option.bind_eq_some_iff.mp h
theorem bd2_e {α β γ : Type} {o : Option (α × β)} {k : α → β → Option γ} {x : γ} (h : bd2 o k = some x) : ∃ a b, o = some (a, b) ∧ k a b = some x := by
  obtain ⟨⟨a, b⟩, h1, h2⟩ := Option.bind_eq_some_iff.mp h
  exact ⟨a, b, h1, h2⟩
theorem nam_e {σ α : Type} {x : σ} {k : σ → Option α} {y : α} (h : nam x k = some y) : ∃ v, v = x ∧ k v = some y := ⟨x, rfl, h⟩
theorem arr_e {α : Type} {f : Nat → Int32} {n : Nat} {i : Int32} {k : Int32 → Option α} {y : α} (h : arr f n i k = some y) : ∃ v, vp_in i n ∧ v = f i.toNatClampNeg ∧ k v = some y := by
  unfold arr at h
  by_cases hc : i < 0 ∨ n ≤ i.toNatClampNeg
  · rw [if_pos hc] at h; cases h
  · rw [if_neg hc] at h; exact ⟨_, hc, rfl, h⟩
theorem sto_e {α : Type} {n : Nat} {i : Int32} {k : Option α} {y : α} (h : sto n i k = some y) : ∃ _ : vp_in i n, k = some y := by
  unfold sto at h
  by_cases hc : i < 0 ∨ n ≤ i.toNatClampNeg
  · rw [if_pos hc] at h; cases h
  · rw [if_neg hc] at h; exact ⟨hc, h⟩
theorem fnn_e {α : Type} {x : UInt32} {k : UInt32 → Option α} {y : α} (h : fnn x k = some y) : ∃ v, vf_n32 x ∧ v = x ∧ k v = some y := by
  unfold fnn at h
  by_cases hc : x &&& 0x7fffffff ≤ 0x7f800000
  · rw [if_pos hc] at h; exact ⟨x, hc, rfl, h⟩
  · rw [if_neg hc] at h; cases h
theorem dnn_e {α : Type} {x : UInt64} {k : UInt64 → Option α} {y : α} (h : dnn x k = some y) : ∃ v, vf_n64 x ∧ v = x ∧ k v = some y := by
  unfold dnn at h
  by_cases hc : x &&& 0x7fffffffffffffff ≤ 0x7ff0000000000000
  · rw [if_pos hc] at h; exact ⟨x, hc, rfl, h⟩
  · rw [if_neg hc] at h; cases h
theorem isz_e {α : Type} {v : Int32} {k : Option α} {y : α} (h : isz v k = some y) : ∃ _ : v = 0 ∨ v = 1, k = some y := by
  unfold isz at h
  by_cases hc : v = 0 ∨ v = 1
  · rw [if_pos hc] at h; exact ⟨hc, h⟩
  · rw [if_neg hc] at h; cases h
theorem isc_e {α : Type} {v : Int32} {k : Option α} {y : α} (h : isc v k = some y) : ∃ _ : v.toUInt32.toUInt16.toUInt32.toInt32 = v, k = some y := by
  unfold isc at h
  by_cases hc : v.toUInt32.toUInt16.toUInt32.toInt32 = v
  · rw [if_pos hc] at h; exact ⟨hc, h⟩
  · rw [if_neg hc] at h; cases h
theorem nz_1 {v : Int32} (h : v = 0 ∨ v = 1) : narrow .boolean (.int v) = .int v := by rcases h with rfl | rfl <;> rfl
theorem nz_2 {v : Int32} (h : v = 0 ∨ v = 1) : fits .boolean (.int v) = true := by rcases h with rfl | rfl <;> decide
theorem nc_1 {v : Int32} (h : v.toUInt32.toUInt16.toUInt32.toInt32 = v) : narrow .char (.int v) = .int v := congrArg Value.int h
section RW
variable {p : Program} {l : Launch} {e : Env} {R : Room} {s : State} {m : MethodId} {args : Array Value} {below : List Frame} {meth : Method} {c : Code} {H : Heap} {locs : List Loc} {cells slots : Nat} {Q : State → Prop} {pc : Nat} {ls : Array Slot} {rest : List Value}
theorem lv_ni {x y : Int32} (h : y = x) (k : W p l e R s m args below meth c H locs cells slots Q (F0 m pc ls (.int y :: rest))) : W p l e R s m args below meth c H locs cells slots Q (F0 m pc ls (.int x :: rest)) := h ▸ k
theorem lv_nf {x y : UInt32} (h : y = x) (k : W p l e R s m args below meth c H locs cells slots Q (F0 m pc ls (.float y :: rest))) : W p l e R s m args below meth c H locs cells slots Q (F0 m pc ls (.float x :: rest)) := h ▸ k
theorem lv_nd {x y : UInt64} (h : y = x) (k : W p l e R s m args below meth c H locs cells slots Q (F0 m pc ls (.double y :: rest))) : W p l e R s m args below meth c H locs cells slots Q (F0 m pc ls (.double x :: rest)) := h ▸ k
end RW
section RK
variable {p : Program} {l : Launch} {e : Env} {R : Room} {s : State} {m : MethodId} {args : Array Value} {below : List Frame} {meth : Method} {c : Code} {H : Heap} {locs : List Loc} {cells slots : Nat} {Q : State → Prop} {pc : Nat} {ls : Array Slot}
variable {y : MethodName} {bytes cc : ByteArray} {maxL nL n index : Nat} {ret : Option FieldType} {ws : List Cond} {rm : Room} {Ts : List Cond} {own C host : String} {b : Addr} {As rest st0 : List Value} {G : WG} {S M S' M' : St} {A0 : Nat → Prop} {H0 : Heap}
theorem kV_I {r : Int32} (S0 : CallFix p m c cc nL s args Ts own) (hM : CtI l y ws rm G (.ref b :: As) S M r S' M') (cw : CallW R s args own C index y bytes maxL ret ws rm 0 0 n) (hrc : ∃ cellB : Cell, H[b]? = some cellB ∧ cellB.vm.isStatics = false ∧ s.vm.findClass C = some cellB.cls) (hK : KW G s) (hW : WD G S M H) (hS : va_S A0 H0 H locs) (hA : ∀ q, Aw G q → A0 q) (hn : As.length = n) (hsize : ls.size = nL) (hst : st0 = As.reverse ++ .ref b :: rest) (hw8 : (rest.map fun v => v.category).sum ≤ 8) (hdg : decode cc pc = .ok (.invokevirtual index, 3)) (hf : cells ≤ R.cells ∧ slots ≤ R.slots)
    (k : ∀ (H : Heap) (locs : List Loc), WD G S' M' H → va_S A0 H0 H locs → W p l e R s m args below meth c H locs cells slots Q (F0 m (pc + 3) ls (.int r :: rest))) : W p l e R s m args below meth c H locs cells slots Q (F0 m pc ls st0) := by
  subst hst
  refine va_calli (va_runV S0 hM cw ⟨Pw_blind, hrc, Pw_at hK hW⟩ rfl hn hsize rfl (lv_room hw8) hdg hf) hS (fun q _ h => hA q h) hA (fun x u t H1 locs1 ht hvm hp hB hz hk hS1 => ?_)
  subst hp
  exact k H1 locs1 (by rw [← ht]; exact hB) hS1
theorem kV_F {r : UInt32} (S0 : CallFix p m c cc nL s args Ts own) (hM : CtF l y ws rm G (.ref b :: As) S M r S' M') (cw : CallW R s args own C index y bytes maxL ret ws rm 0 0 n) (hrc : ∃ cellB : Cell, H[b]? = some cellB ∧ cellB.vm.isStatics = false ∧ s.vm.findClass C = some cellB.cls) (hK : KW G s) (hW : WD G S M H) (hS : va_S A0 H0 H locs) (hA : ∀ q, Aw G q → A0 q) (hn : As.length = n) (hsize : ls.size = nL) (hst : st0 = As.reverse ++ .ref b :: rest) (hw8 : (rest.map fun v => v.category).sum ≤ 8) (hdg : decode cc pc = .ok (.invokevirtual index, 3)) (hf : cells ≤ R.cells ∧ slots ≤ R.slots)
    (k : ∀ (H : Heap) (locs : List Loc), WD G S' M' H → va_S A0 H0 H locs → W p l e R s m args below meth c H locs cells slots Q (F0 m (pc + 3) ls (.float r :: rest))) : W p l e R s m args below meth c H locs cells slots Q (F0 m pc ls st0) := by
  subst hst
  refine va_callf (va_runV S0 hM cw ⟨Pw_blind, hrc, Pw_at hK hW⟩ rfl hn hsize rfl (lv_room hw8) hdg hf) hS (fun q _ h => hA q h) hA (fun x u t H1 locs1 ht hvm hp hB hz hk hS1 => ?_)
  subst hp
  exact k H1 locs1 (by rw [← ht]; exact hB) hS1
theorem kV_V (S0 : CallFix p m c cc nL s args Ts own) (hM : CtV l y ws rm G (.ref b :: As) S M S' M') (cw : CallW R s args own C index y bytes maxL ret ws rm 0 0 n) (hrc : ∃ cellB : Cell, H[b]? = some cellB ∧ cellB.vm.isStatics = false ∧ s.vm.findClass C = some cellB.cls) (hK : KW G s) (hW : WD G S M H) (hS : va_S A0 H0 H locs) (hA : ∀ q, Aw G q → A0 q) (hn : As.length = n) (hsize : ls.size = nL) (hst : st0 = As.reverse ++ .ref b :: rest) (hw8 : (rest.map fun v => v.category).sum ≤ 8) (hdg : decode cc pc = .ok (.invokevirtual index, 3)) (hf : cells ≤ R.cells ∧ slots ≤ R.slots)
    (k : ∀ (H : Heap) (locs : List Loc), WD G S' M' H → va_S A0 H0 H locs → W p l e R s m args below meth c H locs cells slots Q (F0 m (pc + 3) ls (rest))) : W p l e R s m args below meth c H locs cells slots Q (F0 m pc ls st0) := by
  subst hst
  refine va_callv (va_runV S0 hM cw ⟨Pw_blind, hrc, Pw_at hK hW⟩ rfl hn hsize rfl (lv_room hw8) hdg hf) hS (fun q _ h => hA q h) hA (fun u t H1 locs1 ht hvm hp hB hz hk hS1 => ?_)
  exact k H1 locs1 (by rw [← ht]; exact hB) hS1
theorem kV_Q {r : Option Nat} (S0 : CallFix p m c cc nL s args Ts own) (hM : CtQ l y ws rm G (.ref b :: As) S M r S' M') (cw : CallW R s args own C index y bytes maxL ret ws rm 0 0 n) (hrc : ∃ cellB : Cell, H[b]? = some cellB ∧ cellB.vm.isStatics = false ∧ s.vm.findClass C = some cellB.cls) (hK : KW G s) (hW : WD G S M H) (hS : va_S A0 H0 H locs) (hA : ∀ q, Aw G q → A0 q) (hn : As.length = n) (hsize : ls.size = nL) (hst : st0 = As.reverse ++ .ref b :: rest) (hw8 : (rest.map fun v => v.category).sum ≤ 8) (hdg : decode cc pc = .ok (.invokevirtual index, 3)) (hf : cells ≤ R.cells ∧ slots ≤ R.slots)
    (k : ∀ (H : Heap) (locs : List Loc), WD G S' M' H → va_S A0 H0 H locs → W p l e R s m args below meth c H locs cells slots Q (F0 m (pc + 3) ls (va_rf r :: rest))) : W p l e R s m args below meth c H locs cells slots Q (F0 m pc ls st0) := by
  subst hst
  refine va_callq (va_runV S0 hM cw ⟨Pw_blind, hrc, Pw_at hK hW⟩ rfl hn hsize rfl (lv_room hw8) hdg hf) hS (fun q _ h => hA q h) hA (fun x u t H1 locs1 ht hvm hp hB hz hk hS1 => ?_)
  subst hp
  exact k H1 locs1 (by rw [← ht]; exact hB) hS1
theorem kS_I {r : Int32} (S0 : CallFix p m c cc nL s args Ts own) (hM : CtI l y ws rm G As S M r S' M') (cw : CallB R s args own index y bytes maxL ret ws rm 0 0 n ∧ (Cond.static y).before args s = true) (hK : KW G s) (hW : WD G S M H) (hS : va_S A0 H0 H locs) (hA : ∀ q, Aw G q → A0 q) (hn : As.length = n) (hsize : ls.size = nL) (hst : st0 = As.reverse ++ rest) (hw8 : (rest.map fun v => v.category).sum ≤ 8) (hdg : decode cc pc = .ok (.invokestatic index, 3)) (hf : cells ≤ R.cells ∧ slots ≤ R.slots)
    (k : ∀ (H : Heap) (locs : List Loc), WD G S' M' H → va_S A0 H0 H locs → W p l e R s m args below meth c H locs cells slots Q (F0 m (pc + 3) ls (.int r :: rest))) : W p l e R s m args below meth c H locs cells slots Q (F0 m pc ls st0) := by
  subst hst
  refine va_calli (va_runS S0 hM cw ⟨Pw_blind, Pw_at hK hW⟩ rfl hn hsize rfl (lv_room hw8) hdg hf) hS (fun q _ h => hA q h) hA (fun x u t H1 locs1 ht hvm hp hB hz hk hS1 => ?_)
  subst hp
  exact k H1 locs1 (by rw [← ht]; exact hB) hS1
theorem kS_F {r : UInt32} (S0 : CallFix p m c cc nL s args Ts own) (hM : CtF l y ws rm G As S M r S' M') (cw : CallB R s args own index y bytes maxL ret ws rm 0 0 n ∧ (Cond.static y).before args s = true) (hK : KW G s) (hW : WD G S M H) (hS : va_S A0 H0 H locs) (hA : ∀ q, Aw G q → A0 q) (hn : As.length = n) (hsize : ls.size = nL) (hst : st0 = As.reverse ++ rest) (hw8 : (rest.map fun v => v.category).sum ≤ 8) (hdg : decode cc pc = .ok (.invokestatic index, 3)) (hf : cells ≤ R.cells ∧ slots ≤ R.slots)
    (k : ∀ (H : Heap) (locs : List Loc), WD G S' M' H → va_S A0 H0 H locs → W p l e R s m args below meth c H locs cells slots Q (F0 m (pc + 3) ls (.float r :: rest))) : W p l e R s m args below meth c H locs cells slots Q (F0 m pc ls st0) := by
  subst hst
  refine va_callf (va_runS S0 hM cw ⟨Pw_blind, Pw_at hK hW⟩ rfl hn hsize rfl (lv_room hw8) hdg hf) hS (fun q _ h => hA q h) hA (fun x u t H1 locs1 ht hvm hp hB hz hk hS1 => ?_)
  subst hp
  exact k H1 locs1 (by rw [← ht]; exact hB) hS1
theorem kS_V (S0 : CallFix p m c cc nL s args Ts own) (hM : CtV l y ws rm G As S M S' M') (cw : CallB R s args own index y bytes maxL ret ws rm 0 0 n ∧ (Cond.static y).before args s = true) (hK : KW G s) (hW : WD G S M H) (hS : va_S A0 H0 H locs) (hA : ∀ q, Aw G q → A0 q) (hn : As.length = n) (hsize : ls.size = nL) (hst : st0 = As.reverse ++ rest) (hw8 : (rest.map fun v => v.category).sum ≤ 8) (hdg : decode cc pc = .ok (.invokestatic index, 3)) (hf : cells ≤ R.cells ∧ slots ≤ R.slots)
    (k : ∀ (H : Heap) (locs : List Loc), WD G S' M' H → va_S A0 H0 H locs → W p l e R s m args below meth c H locs cells slots Q (F0 m (pc + 3) ls (rest))) : W p l e R s m args below meth c H locs cells slots Q (F0 m pc ls st0) := by
  subst hst
  refine va_callv (va_runS S0 hM cw ⟨Pw_blind, Pw_at hK hW⟩ rfl hn hsize rfl (lv_room hw8) hdg hf) hS (fun q _ h => hA q h) hA (fun u t H1 locs1 ht hvm hp hB hz hk hS1 => ?_)
  exact k H1 locs1 (by rw [← ht]; exact hB) hS1
theorem kSN_I {r : Int32} (S0 : CallFix p m c cc nL s args Ts own) (hM : CtI l y ws rm G As S M r S' M') (cw : va_CN R s args own index y host bytes maxL ret ws rm 0 0 n ∧ (Cond.static y).before args s = true ∧ True) (hK : KW G s) (hW : WD G S M H) (hS : va_S A0 H0 H locs) (hA : ∀ q, Aw G q → A0 q) (hn : As.length = n) (hsize : ls.size = nL) (hst : st0 = As.reverse ++ rest) (hw8 : (rest.map fun v => v.category).sum ≤ 8) (hdg : decode cc pc = .ok (.invokestatic index, 3)) (hf : cells ≤ R.cells ∧ slots ≤ R.slots)
    (k : ∀ (H : Heap) (locs : List Loc), WD G S' M' H → va_S A0 H0 H locs → W p l e R s m args below meth c H locs cells slots Q (F0 m (pc + 3) ls (.int r :: rest))) : W p l e R s m args below meth c H locs cells slots Q (F0 m pc ls st0) := by
  subst hst
  refine va_calli (va_runSN S0 hM cw ⟨Pw_blind, Pw_at hK hW⟩ rfl hn hsize rfl (lv_room hw8) hdg hf) hS (fun q _ h => hA q h) hA (fun x u t H1 locs1 ht hvm hp hB hz hk hS1 => ?_)
  subst hp
  exact k H1 locs1 (by rw [← ht]; exact hB) hS1
theorem kSN_F {r : UInt32} (S0 : CallFix p m c cc nL s args Ts own) (hM : CtF l y ws rm G As S M r S' M') (cw : va_CN R s args own index y host bytes maxL ret ws rm 0 0 n ∧ (Cond.static y).before args s = true ∧ True) (hK : KW G s) (hW : WD G S M H) (hS : va_S A0 H0 H locs) (hA : ∀ q, Aw G q → A0 q) (hn : As.length = n) (hsize : ls.size = nL) (hst : st0 = As.reverse ++ rest) (hw8 : (rest.map fun v => v.category).sum ≤ 8) (hdg : decode cc pc = .ok (.invokestatic index, 3)) (hf : cells ≤ R.cells ∧ slots ≤ R.slots)
    (k : ∀ (H : Heap) (locs : List Loc), WD G S' M' H → va_S A0 H0 H locs → W p l e R s m args below meth c H locs cells slots Q (F0 m (pc + 3) ls (.float r :: rest))) : W p l e R s m args below meth c H locs cells slots Q (F0 m pc ls st0) := by
  subst hst
  refine va_callf (va_runSN S0 hM cw ⟨Pw_blind, Pw_at hK hW⟩ rfl hn hsize rfl (lv_room hw8) hdg hf) hS (fun q _ h => hA q h) hA (fun x u t H1 locs1 ht hvm hp hB hz hk hS1 => ?_)
  subst hp
  exact k H1 locs1 (by rw [← ht]; exact hB) hS1
theorem kSN_V (S0 : CallFix p m c cc nL s args Ts own) (hM : CtV l y ws rm G As S M S' M') (cw : va_CN R s args own index y host bytes maxL ret ws rm 0 0 n ∧ (Cond.static y).before args s = true ∧ True) (hK : KW G s) (hW : WD G S M H) (hS : va_S A0 H0 H locs) (hA : ∀ q, Aw G q → A0 q) (hn : As.length = n) (hsize : ls.size = nL) (hst : st0 = As.reverse ++ rest) (hw8 : (rest.map fun v => v.category).sum ≤ 8) (hdg : decode cc pc = .ok (.invokestatic index, 3)) (hf : cells ≤ R.cells ∧ slots ≤ R.slots)
    (k : ∀ (H : Heap) (locs : List Loc), WD G S' M' H → va_S A0 H0 H locs → W p l e R s m args below meth c H locs cells slots Q (F0 m (pc + 3) ls (rest))) : W p l e R s m args below meth c H locs cells slots Q (F0 m pc ls st0) := by
  subst hst
  refine va_callv (va_runSN S0 hM cw ⟨Pw_blind, Pw_at hK hW⟩ rfl hn hsize rfl (lv_room hw8) hdg hf) hS (fun q _ h => hA q h) hA (fun u t H1 locs1 ht hvm hp hB hz hk hS1 => ?_)
  exact k H1 locs1 (by rw [← ht]; exact hB) hS1
end RK
-- what p24 wants besides: longs, the script's row, a remainder by a number that is not written
abbrev CtJ (l : Launch) (y : MethodName) (ws : List Cond) (rm : Room) (G : WG) (av : List Value) (S M : St) (r : Int64) (S' M' : St) : Prop := Met l y ws rm (va_Pc av (Pw G S M)) (va_Ql (fun (x : Int64) (_ : Unit) => x = r) (fun _ t => WD G S' M' t.heap) (Aw G)) 0 0 (Aw G)
abbrev WJ (p : Program) (l : Launch) (e : Env) (R : Room) (s : State) (m : MethodId) (args : Array Value) (below : List Frame) (meth : Method) (c : Code) (G : WG) (r : Int64) (S' M' : St) (H : Heap) (locs : List Loc) (g : JFrame) : Prop := W p l e R s m args below meth c H locs 0 0 (MQ below (va_Ql (fun (x : Int64) (_ : Unit) => x = r) (fun _ t => WD G S' M' t.heap) (Aw G)) args s 0 0 (Aw G)) g
abbrev Px (b L : Nat) (xs : Nat → Int32) (G : WG) (S M : St) : State → Prop := fun U => (KW G U ∧ WD G S M U.heap) ∧ va_X b L xs U U.heap
theorem Px_blind {b L : Nat} {xs : Nat → Int32} {G : WG} {S M : St} {av : List Value} : FrameBlind (va_Pc av (Px b L xs G S M)) := fun a U g mk q => ⟨q.1, ⟨⟨va_K.moved (u := U) (U := U.calling g mk a) (Vm.Alike.refl U.vm) q.2.1.1.1, fun w hw => va_Nw.same (u := U) (U := U.calling g mk a) (nest_tabs w hw) rfl (q.2.1.1.2 w hw)⟩, q.2.1.2⟩, va_X.moved (u := U) (U := U.calling g mk a) (Vm.Alike.refl U.vm) q.2.2⟩
theorem Px_at {b L : Nat} {xs : Nat → Int32} {G : WG} {S M : St} {av : List Value} {s : State} {H : Heap} (hK : KW G s) (hW : WD G S M H) (hX : va_X b L xs s H) : ∀ U : State, U.heap = H → s.WarmedH U.vm → va_Pc av (Px b L xs G S M) av.toArray U := fun U hU hw => ⟨rfl, ⟨hK.moved hw, by rw [hU]; exact hW⟩, by rw [hU]; exact va_X.moved hw.alike hX⟩
abbrev CtX (b L : Nat) (xs : Nat → Int32) (l : Launch) (y : MethodName) (ws : List Cond) (rm : Room) (G : WG) (av : List Value) (S M : St) (r : Int32) (S' M' : St) : Prop := Met l y ws rm (va_Pc av (Px b L xs G S M)) (va_Qi (fun (x : Int32) (_ : Unit) => x = r) (fun _ t => WD G S' M' t.heap) (Aw G)) 0 0 (Aw G)
def nzd {α : Type} (y : Int32) (k : Option α) : Option α := if y = 0 then none else k
theorem nzd_e {α : Type} {v : Int32} {k : Option α} {y : α} (h : nzd v k = some y) : ∃ _ : ¬ v = 0, k = some y := by
  unfold nzd at h
  by_cases hc : v = 0
  · rw [if_pos hc] at h; cases h
  · rw [if_neg hc] at h; exact ⟨hc, h⟩
section RX
variable {p : Program} {l : Launch} {e : Env} {R : Room} {s : State} {m : MethodId} {args : Array Value} {below : List Frame} {meth : Method} {c : Code} {H : Heap} {locs : List Loc} {cells slots : Nat} {Q : State → Prop} {pc : Nat} {ls : Array Slot}
theorem lv_nj {rest : List Value} {x y : Int64} (h : y = x) (k : W p l e R s m args below meth c H locs cells slots Q (F0 m pc ls (.long y :: rest))) : W p l e R s m args below meth c H locs cells slots Q (F0 m pc ls (.long x :: rest)) := h ▸ k
variable {y : MethodName} {bytes cc : ByteArray} {maxL nL n index : Nat} {ret : Option FieldType} {ws : List Cond} {rm : Room} {Ts : List Cond} {own C host : String} {b : Addr} {As rest st0 : List Value} {G : WG} {S M S' M' : St} {A0 : Nat → Prop} {H0 : Heap}
theorem kS_J {r : Int64} (S0 : CallFix p m c cc nL s args Ts own) (hM : CtJ l y ws rm G As S M r S' M') (cw : CallB R s args own index y bytes maxL ret ws rm 0 0 n ∧ (Cond.static y).before args s = true) (hK : KW G s) (hW : WD G S M H) (hS : va_S A0 H0 H locs) (hA : ∀ q, Aw G q → A0 q) (hn : As.length = n) (hsize : ls.size = nL) (hst : st0 = As.reverse ++ rest) (hw8 : (rest.map fun v => v.category).sum ≤ 8) (hdg : decode cc pc = .ok (.invokestatic index, 3)) (hf : cells ≤ R.cells ∧ slots ≤ R.slots)
    (k : ∀ (H : Heap) (locs : List Loc), WD G S' M' H → va_S A0 H0 H locs → W p l e R s m args below meth c H locs cells slots Q (F0 m (pc + 3) ls (.long r :: rest))) : W p l e R s m args below meth c H locs cells slots Q (F0 m pc ls st0) := by
  subst hst
  refine va_calll (va_runS S0 hM cw ⟨Pw_blind, Pw_at hK hW⟩ rfl hn hsize rfl (lv_room hw8) hdg hf) hS (fun q _ h => hA q h) hA (fun x u t H1 locs1 ht hvm hp hB hz hk hS1 => ?_)
  subst hp
  exact k H1 locs1 (by rw [← ht]; exact hB) hS1
theorem kS_X {bb L : Nat} {xs : Nat → Int32} (hX : va_X bb L xs s H0) (hbl : bb < H0.size) (hbA : ¬ A0 bb) {r : Int32} (S0 : CallFix p m c cc nL s args Ts own) (hM : CtX bb L xs l y ws rm G As S M r S' M') (cw : CallB R s args own index y bytes maxL ret ws rm 0 0 n ∧ (Cond.static y).before args s = true) (hK : KW G s) (hW : WD G S M H) (hS : va_S A0 H0 H locs) (hA : ∀ q, Aw G q → A0 q) (hn : As.length = n) (hsize : ls.size = nL) (hst : st0 = As.reverse ++ rest) (hw8 : (rest.map fun v => v.category).sum ≤ 8) (hdg : decode cc pc = .ok (.invokestatic index, 3)) (hf : cells ≤ R.cells ∧ slots ≤ R.slots)
    (k : ∀ (H : Heap) (locs : List Loc), WD G S' M' H → va_S A0 H0 H locs → W p l e R s m args below meth c H locs cells slots Q (F0 m (pc + 3) ls (.int r :: rest))) : W p l e R s m args below meth c H locs cells slots Q (F0 m pc ls st0) := by
  subst hst
  refine va_calli (va_runS S0 hM cw ⟨Px_blind, Px_at hK hW (hX.kept (hS.2.1 bb hbl hbA))⟩ rfl hn hsize rfl (lv_room hw8) hdg hf) hS (fun q _ h => hA q h) hA (fun x u t H1 locs1 ht hvm hp hB hz hk hS1 => ?_)
  subst hp
  exact k H1 locs1 (by rw [← ht]; exact hB) hS1
end RX
theorem hdL_cell : yL_cell.cls ≠ "java/lang/invoke/MethodHandle" ∧ yL_cell.cls ≠ "java/lang/invoke/VarHandle" ∧ (parseMethodDescriptor yL_cell.desc).map (fun d => d.parameters.length) = some 2 := by decide +kernel
theorem hdL_low : yL_low.cls ≠ "java/lang/invoke/MethodHandle" ∧ yL_low.cls ≠ "java/lang/invoke/VarHandle" ∧ (parseMethodDescriptor yL_low.desc).map (fun d => d.parameters.length) = some 2 := by decide +kernel
theorem hdX4_at : yX4_at.cls ≠ "java/lang/invoke/MethodHandle" ∧ yX4_at.cls ≠ "java/lang/invoke/VarHandle" ∧ (parseMethodDescriptor yX4_at.desc).map (fun d => d.parameters.length) = some 1 := by decide +kernel
theorem hdX3_manyOf : yX3_manyOf.cls ≠ "java/lang/invoke/MethodHandle" ∧ yX3_manyOf.cls ≠ "java/lang/invoke/VarHandle" ∧ (parseMethodDescriptor yX3_manyOf.desc).map (fun d => d.parameters.length) = some 1 := by decide +kernel
theorem hdX0_campersWithMorePlots : yX0_campersWithMorePlots.cls ≠ "java/lang/invoke/MethodHandle" ∧ yX0_campersWithMorePlots.cls ≠ "java/lang/invoke/VarHandle" ∧ (parseMethodDescriptor yX0_campersWithMorePlots.desc).map (fun d => d.parameters.length) = some 0 := by decide +kernel
theorem hdX3_leastDepth : yX3_leastDepth.cls ≠ "java/lang/invoke/MethodHandle" ∧ yX3_leastDepth.cls ≠ "java/lang/invoke/VarHandle" ∧ (parseMethodDescriptor yX3_leastDepth.desc).map (fun d => d.parameters.length) = some 0 := by decide +kernel
theorem hdX3_greatestDepth : yX3_greatestDepth.cls ≠ "java/lang/invoke/MethodHandle" ∧ yX3_greatestDepth.cls ≠ "java/lang/invoke/VarHandle" ∧ (parseMethodDescriptor yX3_greatestDepth.desc).map (fun d => d.parameters.length) = some 0 := by decide +kernel
theorem hdX0_campersHere : yX0_campersHere.cls ≠ "java/lang/invoke/MethodHandle" ∧ yX0_campersHere.cls ≠ "java/lang/invoke/VarHandle" ∧ (parseMethodDescriptor yX0_campersHere.desc).map (fun d => d.parameters.length) = some 0 := by decide +kernel
theorem hdX5_count : yX5_count.cls ≠ "java/lang/invoke/MethodHandle" ∧ yX5_count.cls ≠ "java/lang/invoke/VarHandle" ∧ (parseMethodDescriptor yX5_count.desc).map (fun d => d.parameters.length) = some 1 := by decide +kernel
theorem hdX0_isHere : yX0_isHere.cls ≠ "java/lang/invoke/MethodHandle" ∧ yX0_isHere.cls ≠ "java/lang/invoke/VarHandle" ∧ (parseMethodDescriptor yX0_isHere.desc).map (fun d => d.parameters.length) = some 1 := by decide +kernel
theorem hdX5_widthAt : yX5_widthAt.cls ≠ "java/lang/invoke/MethodHandle" ∧ yX5_widthAt.cls ≠ "java/lang/invoke/VarHandle" ∧ (parseMethodDescriptor yX5_widthAt.desc).map (fun d => d.parameters.length) = some 1 := by decide +kernel
theorem hdX5_heightAt : yX5_heightAt.cls ≠ "java/lang/invoke/MethodHandle" ∧ yX5_heightAt.cls ≠ "java/lang/invoke/VarHandle" ∧ (parseMethodDescriptor yX5_heightAt.desc).map (fun d => d.parameters.length) = some 1 := by decide +kernel
theorem hdX3_has : yX3_has.cls ≠ "java/lang/invoke/MethodHandle" ∧ yX3_has.cls ≠ "java/lang/invoke/VarHandle" ∧ (parseMethodDescriptor yX3_has.desc).map (fun d => d.parameters.length) = some 3 := by decide +kernel
theorem hdX3_find : yX3_find.cls ≠ "java/lang/invoke/MethodHandle" ∧ yX3_find.cls ≠ "java/lang/invoke/VarHandle" ∧ (parseMethodDescriptor yX3_find.desc).map (fun d => d.parameters.length) = some 2 := by decide +kernel
theorem hdX3_ownerAt : yX3_ownerAt.cls ≠ "java/lang/invoke/MethodHandle" ∧ yX3_ownerAt.cls ≠ "java/lang/invoke/VarHandle" ∧ (parseMethodDescriptor yX3_ownerAt.desc).map (fun d => d.parameters.length) = some 2 := by decide +kernel
theorem hdX0_ownerOfSong : yX0_ownerOfSong.cls ≠ "java/lang/invoke/MethodHandle" ∧ yX0_ownerOfSong.cls ≠ "java/lang/invoke/VarHandle" ∧ (parseMethodDescriptor yX0_ownerOfSong.desc).map (fun d => d.parameters.length) = some 1 := by decide +kernel
theorem hdX0_loudnessOfSong : yX0_loudnessOfSong.cls ≠ "java/lang/invoke/MethodHandle" ∧ yX0_loudnessOfSong.cls ≠ "java/lang/invoke/VarHandle" ∧ (parseMethodDescriptor yX0_loudnessOfSong.desc).map (fun d => d.parameters.length) = some 1 := by decide +kernel
theorem hdX0_loudnessOf : yX0_loudnessOf.cls ≠ "java/lang/invoke/MethodHandle" ∧ yX0_loudnessOf.cls ≠ "java/lang/invoke/VarHandle" ∧ (parseMethodDescriptor yX0_loudnessOf.desc).map (fun d => d.parameters.length) = some 1 := by decide +kernel
theorem hdX5_bitsOf : yX5_bitsOf.cls ≠ "java/lang/invoke/MethodHandle" ∧ yX5_bitsOf.cls ≠ "java/lang/invoke/VarHandle" ∧ (parseMethodDescriptor yX5_bitsOf.desc).map (fun d => d.parameters.length) = some 1 := by decide +kernel
theorem hdX3_x0Of : yX3_x0Of.cls ≠ "java/lang/invoke/MethodHandle" ∧ yX3_x0Of.cls ≠ "java/lang/invoke/VarHandle" ∧ (parseMethodDescriptor yX3_x0Of.desc).map (fun d => d.parameters.length) = some 1 := by decide +kernel
theorem hdX3_x1Of : yX3_x1Of.cls ≠ "java/lang/invoke/MethodHandle" ∧ yX3_x1Of.cls ≠ "java/lang/invoke/VarHandle" ∧ (parseMethodDescriptor yX3_x1Of.desc).map (fun d => d.parameters.length) = some 1 := by decide +kernel
theorem hdX3_y0Of : yX3_y0Of.cls ≠ "java/lang/invoke/MethodHandle" ∧ yX3_y0Of.cls ≠ "java/lang/invoke/VarHandle" ∧ (parseMethodDescriptor yX3_y0Of.desc).map (fun d => d.parameters.length) = some 1 := by decide +kernel
theorem hdX3_y1Of : yX3_y1Of.cls ≠ "java/lang/invoke/MethodHandle" ∧ yX3_y1Of.cls ≠ "java/lang/invoke/VarHandle" ∧ (parseMethodDescriptor yX3_y1Of.desc).map (fun d => d.parameters.length) = some 1 := by decide +kernel
theorem hdX3_areBeside : yX3_areBeside.cls ≠ "java/lang/invoke/MethodHandle" ∧ yX3_areBeside.cls ≠ "java/lang/invoke/VarHandle" ∧ (parseMethodDescriptor yX3_areBeside.desc).map (fun d => d.parameters.length) = some 2 := by decide +kernel
theorem hdX5_markOf : yX5_markOf.cls ≠ "java/lang/invoke/MethodHandle" ∧ yX5_markOf.cls ≠ "java/lang/invoke/VarHandle" ∧ (parseMethodDescriptor yX5_markOf.desc).map (fun d => d.parameters.length) = some 1 := by decide +kernel
theorem hdX3_ownersBeside : yX3_ownersBeside.cls ≠ "java/lang/invoke/MethodHandle" ∧ yX3_ownersBeside.cls ≠ "java/lang/invoke/VarHandle" ∧ (parseMethodDescriptor yX3_ownersBeside.desc).map (fun d => d.parameters.length) = some 1 := by decide +kernel
theorem hdJ6_bitCount_0f7a4 : yJ6_bitCount_0f7a4.cls ≠ "java/lang/invoke/MethodHandle" ∧ yJ6_bitCount_0f7a4.cls ≠ "java/lang/invoke/VarHandle" ∧ (parseMethodDescriptor yJ6_bitCount_0f7a4.desc).map (fun d => d.parameters.length) = some 1 := by decide +kernel
theorem hdX3_neighboursOf : yX3_neighboursOf.cls ≠ "java/lang/invoke/MethodHandle" ∧ yX3_neighboursOf.cls ≠ "java/lang/invoke/VarHandle" ∧ (parseMethodDescriptor yX3_neighboursOf.desc).map (fun d => d.parameters.length) = some 1 := by decide +kernel
theorem hdX0_songsOf : yX0_songsOf.cls ≠ "java/lang/invoke/MethodHandle" ∧ yX0_songsOf.cls ≠ "java/lang/invoke/VarHandle" ∧ (parseMethodDescriptor yX0_songsOf.desc).map (fun d => d.parameters.length) = some 1 := by decide +kernel
theorem hdX3_pointsOf : yX3_pointsOf.cls ≠ "java/lang/invoke/MethodHandle" ∧ yX3_pointsOf.cls ≠ "java/lang/invoke/VarHandle" ∧ (parseMethodDescriptor yX3_pointsOf.desc).map (fun d => d.parameters.length) = some 1 := by decide +kernel
theorem hdX5_camper : yX5_camper.cls ≠ "java/lang/invoke/MethodHandle" ∧ yX5_camper.cls ≠ "java/lang/invoke/VarHandle" ∧ (parseMethodDescriptor yX5_camper.desc).map (fun d => d.parameters.length) = some 2 := by decide +kernel
theorem hdX3_isCornerLower : yX3_isCornerLower.cls ≠ "java/lang/invoke/MethodHandle" ∧ yX3_isCornerLower.cls ≠ "java/lang/invoke/VarHandle" ∧ (parseMethodDescriptor yX3_isCornerLower.desc).map (fun d => d.parameters.length) = some 2 := by decide +kernel
theorem hdX3_rankOf : yX3_rankOf.cls ≠ "java/lang/invoke/MethodHandle" ∧ yX3_rankOf.cls ≠ "java/lang/invoke/VarHandle" ∧ (parseMethodDescriptor yX3_rankOf.desc).map (fun d => d.parameters.length) = some 1 := by decide +kernel
theorem hdX3_ranked : yX3_ranked.cls ≠ "java/lang/invoke/MethodHandle" ∧ yX3_ranked.cls ≠ "java/lang/invoke/VarHandle" ∧ (parseMethodDescriptor yX3_ranked.desc).map (fun d => d.parameters.length) = some 2 := by decide +kernel
theorem hdX3_depthOf : yX3_depthOf.cls ≠ "java/lang/invoke/MethodHandle" ∧ yX3_depthOf.cls ≠ "java/lang/invoke/VarHandle" ∧ (parseMethodDescriptor yX3_depthOf.desc).map (fun d => d.parameters.length) = some 1 := by decide +kernel
theorem hdX5_plotOf : yX5_plotOf.cls ≠ "java/lang/invoke/MethodHandle" ∧ yX5_plotOf.cls ≠ "java/lang/invoke/VarHandle" ∧ (parseMethodDescriptor yX5_plotOf.desc).map (fun d => d.parameters.length) = some 3 := by decide +kernel
theorem hdX0_isSong : yX0_isSong.cls ≠ "java/lang/invoke/MethodHandle" ∧ yX0_isSong.cls ≠ "java/lang/invoke/VarHandle" ∧ (parseMethodDescriptor yX0_isSong.desc).map (fun d => d.parameters.length) = some 1 := by decide +kernel
theorem hdX5_toldOwnerOf : yX5_toldOwnerOf.cls ≠ "java/lang/invoke/MethodHandle" ∧ yX5_toldOwnerOf.cls ≠ "java/lang/invoke/VarHandle" ∧ (parseMethodDescriptor yX5_toldOwnerOf.desc).map (fun d => d.parameters.length) = some 1 := by decide +kernel
theorem hdX5_song : yX5_song.cls ≠ "java/lang/invoke/MethodHandle" ∧ yX5_song.cls ≠ "java/lang/invoke/VarHandle" ∧ (parseMethodDescriptor yX5_song.desc).map (fun d => d.parameters.length) = some 2 := by decide +kernel
theorem hdL_told : yL_told.cls ≠ "java/lang/invoke/MethodHandle" ∧ yL_told.cls ≠ "java/lang/invoke/VarHandle" ∧ (parseMethodDescriptor yL_told.desc).map (fun d => d.parameters.length) = some 1 := by decide +kernel
theorem hdX5_clearText : yX5_clearText.cls ≠ "java/lang/invoke/MethodHandle" ∧ yX5_clearText.cls ≠ "java/lang/invoke/VarHandle" ∧ (parseMethodDescriptor yX5_clearText.desc).map (fun d => d.parameters.length) = some 0 := by decide +kernel
theorem hdX1_append : yX1_append.cls ≠ "java/lang/invoke/MethodHandle" ∧ yX1_append.cls ≠ "java/lang/invoke/VarHandle" ∧ (parseMethodDescriptor yX1_append.desc).map (fun d => d.parameters.length) = some 1 := by decide +kernel
theorem hdX5_type : yX5_type.cls ≠ "java/lang/invoke/MethodHandle" ∧ yX5_type.cls ≠ "java/lang/invoke/VarHandle" ∧ (parseMethodDescriptor yX5_type.desc).map (fun d => d.parameters.length) = some 1 := by decide +kernel
theorem hdX1_at : yX1_at.cls ≠ "java/lang/invoke/MethodHandle" ∧ yX1_at.cls ≠ "java/lang/invoke/VarHandle" ∧ (parseMethodDescriptor yX1_at.desc).map (fun d => d.parameters.length) = some 1 := by decide +kernel
theorem hdX1_isDigit : yX1_isDigit.cls ≠ "java/lang/invoke/MethodHandle" ∧ yX1_isDigit.cls ≠ "java/lang/invoke/VarHandle" ∧ (parseMethodDescriptor yX1_isDigit.desc).map (fun d => d.parameters.length) = some 1 := by decide +kernel
theorem hdX1_extended : yX1_extended.cls ≠ "java/lang/invoke/MethodHandle" ∧ yX1_extended.cls ≠ "java/lang/invoke/VarHandle" ∧ (parseMethodDescriptor yX1_extended.desc).map (fun d => d.parameters.length) = some 2 := by decide +kernel
theorem hdX1_fault : yX1_fault.cls ≠ "java/lang/invoke/MethodHandle" ∧ yX1_fault.cls ≠ "java/lang/invoke/VarHandle" ∧ (parseMethodDescriptor yX1_fault.desc).map (fun d => d.parameters.length) = some 0 := by decide +kernel
theorem hdX4_copyFrom : yX4_copyFrom.cls ≠ "java/lang/invoke/MethodHandle" ∧ yX4_copyFrom.cls ≠ "java/lang/invoke/VarHandle" ∧ (parseMethodDescriptor yX4_copyFrom.desc).map (fun d => d.parameters.length) = some 2 := by decide +kernel
theorem hdX3_copyFrom : yX3_copyFrom.cls ≠ "java/lang/invoke/MethodHandle" ∧ yX3_copyFrom.cls ≠ "java/lang/invoke/VarHandle" ∧ (parseMethodDescriptor yX3_copyFrom.desc).map (fun d => d.parameters.length) = some 1 := by decide +kernel
theorem hdX0_copyFrom : yX0_copyFrom.cls ≠ "java/lang/invoke/MethodHandle" ∧ yX0_copyFrom.cls ≠ "java/lang/invoke/VarHandle" ∧ (parseMethodDescriptor yX0_copyFrom.desc).map (fun d => d.parameters.length) = some 1 := by decide +kernel
theorem hdX1_campers : yX1_campers.cls ≠ "java/lang/invoke/MethodHandle" ∧ yX1_campers.cls ≠ "java/lang/invoke/VarHandle" ∧ (parseMethodDescriptor yX1_campers.desc).map (fun d => d.parameters.length) = some 0 := by decide +kernel
theorem hdX1_number : yX1_number.cls ≠ "java/lang/invoke/MethodHandle" ∧ yX1_number.cls ≠ "java/lang/invoke/VarHandle" ∧ (parseMethodDescriptor yX1_number.desc).map (fun d => d.parameters.length) = some 1 := by decide +kernel
theorem hdX3_ownerOf : yX3_ownerOf.cls ≠ "java/lang/invoke/MethodHandle" ∧ yX3_ownerOf.cls ≠ "java/lang/invoke/VarHandle" ∧ (parseMethodDescriptor yX3_ownerOf.desc).map (fun d => d.parameters.length) = some 1 := by decide +kernel
theorem hdX0_isTentIn : yX0_isTentIn.cls ≠ "java/lang/invoke/MethodHandle" ∧ yX0_isTentIn.cls ≠ "java/lang/invoke/VarHandle" ∧ (parseMethodDescriptor yX0_isTentIn.desc).map (fun d => d.parameters.length) = some 2 := by decide +kernel
theorem hdX5_partX0 : yX5_partX0.cls ≠ "java/lang/invoke/MethodHandle" ∧ yX5_partX0.cls ≠ "java/lang/invoke/VarHandle" ∧ (parseMethodDescriptor yX5_partX0.desc).map (fun d => d.parameters.length) = some 2 := by decide +kernel
theorem hdX5_partY0 : yX5_partY0.cls ≠ "java/lang/invoke/MethodHandle" ∧ yX5_partY0.cls ≠ "java/lang/invoke/VarHandle" ∧ (parseMethodDescriptor yX5_partY0.desc).map (fun d => d.parameters.length) = some 2 := by decide +kernel
theorem hdX0_isInPart : yX0_isInPart.cls ≠ "java/lang/invoke/MethodHandle" ∧ yX0_isInPart.cls ≠ "java/lang/invoke/VarHandle" ∧ (parseMethodDescriptor yX0_isInPart.desc).map (fun d => d.parameters.length) = some 5 := by decide +kernel
theorem hdX0_depthForNewcomer : yX0_depthForNewcomer.cls ≠ "java/lang/invoke/MethodHandle" ∧ yX0_depthForNewcomer.cls ≠ "java/lang/invoke/VarHandle" ∧ (parseMethodDescriptor yX0_depthForNewcomer.desc).map (fun d => d.parameters.length) = some 2 := by decide +kernel
theorem hdX5_otherHalfX0 : yX5_otherHalfX0.cls ≠ "java/lang/invoke/MethodHandle" ∧ yX5_otherHalfX0.cls ≠ "java/lang/invoke/VarHandle" ∧ (parseMethodDescriptor yX5_otherHalfX0.desc).map (fun d => d.parameters.length) = some 2 := by decide +kernel
theorem hdX5_otherHalfY0 : yX5_otherHalfY0.cls ≠ "java/lang/invoke/MethodHandle" ∧ yX5_otherHalfY0.cls ≠ "java/lang/invoke/VarHandle" ∧ (parseMethodDescriptor yX5_otherHalfY0.desc).map (fun d => d.parameters.length) = some 2 := by decide +kernel
theorem hdX4_put : yX4_put.cls ≠ "java/lang/invoke/MethodHandle" ∧ yX4_put.cls ≠ "java/lang/invoke/VarHandle" ∧ (parseMethodDescriptor yX4_put.desc).map (fun d => d.parameters.length) = some 2 := by decide +kernel
theorem hdX3_put : yX3_put.cls ≠ "java/lang/invoke/MethodHandle" ∧ yX3_put.cls ≠ "java/lang/invoke/VarHandle" ∧ (parseMethodDescriptor yX3_put.desc).map (fun d => d.parameters.length) = some 5 := by decide +kernel
theorem hdX3_add : yX3_add.cls ≠ "java/lang/invoke/MethodHandle" ∧ yX3_add.cls ≠ "java/lang/invoke/VarHandle" ∧ (parseMethodDescriptor yX3_add.desc).map (fun d => d.parameters.length) = some 4 := by decide +kernel
theorem hdX3_halveDown : yX3_halveDown.cls ≠ "java/lang/invoke/MethodHandle" ∧ yX3_halveDown.cls ≠ "java/lang/invoke/VarHandle" ∧ (parseMethodDescriptor yX3_halveDown.desc).map (fun d => d.parameters.length) = some 5 := by decide +kernel
theorem hdX0_pitch : yX0_pitch.cls ≠ "java/lang/invoke/MethodHandle" ∧ yX0_pitch.cls ≠ "java/lang/invoke/VarHandle" ∧ (parseMethodDescriptor yX0_pitch.desc).map (fun d => d.parameters.length) = some 3 := by decide +kernel
theorem hdX0_settle : yX0_settle.cls ≠ "java/lang/invoke/MethodHandle" ∧ yX0_settle.cls ≠ "java/lang/invoke/VarHandle" ∧ (parseMethodDescriptor yX0_settle.desc).map (fun d => d.parameters.length) = some 3 := by decide +kernel
theorem hdX2_stateAt : yX2_stateAt.cls ≠ "java/lang/invoke/MethodHandle" ∧ yX2_stateAt.cls ≠ "java/lang/invoke/VarHandle" ∧ (parseMethodDescriptor yX2_stateAt.desc).map (fun d => d.parameters.length) = some 1 := by decide +kernel
theorem hdX2_push : yX2_push.cls ≠ "java/lang/invoke/MethodHandle" ∧ yX2_push.cls ≠ "java/lang/invoke/VarHandle" ∧ (parseMethodDescriptor yX2_push.desc).map (fun d => d.parameters.length) = some 1 := by decide +kernel
theorem hdX5_comeAll : yX5_comeAll.cls ≠ "java/lang/invoke/MethodHandle" ∧ yX5_comeAll.cls ≠ "java/lang/invoke/VarHandle" ∧ (parseMethodDescriptor yX5_comeAll.desc).map (fun d => d.parameters.length) = some 0 := by decide +kernel
theorem hdX5_restore : yX5_restore.cls ≠ "java/lang/invoke/MethodHandle" ∧ yX5_restore.cls ≠ "java/lang/invoke/VarHandle" ∧ (parseMethodDescriptor yX5_restore.desc).map (fun d => d.parameters.length) = some 0 := by decide +kernel
theorem hdX5_isPoint : yX5_isPoint.cls ≠ "java/lang/invoke/MethodHandle" ∧ yX5_isPoint.cls ≠ "java/lang/invoke/VarHandle" ∧ (parseMethodDescriptor yX5_isPoint.desc).map (fun d => d.parameters.length) = some 2 := by decide +kernel
theorem hdX0_putSong : yX0_putSong.cls ≠ "java/lang/invoke/MethodHandle" ∧ yX0_putSong.cls ≠ "java/lang/invoke/VarHandle" ∧ (parseMethodDescriptor yX0_putSong.desc).map (fun d => d.parameters.length) = some 3 := by decide +kernel
theorem hdX5_carry : yX5_carry.cls ≠ "java/lang/invoke/MethodHandle" ∧ yX5_carry.cls ≠ "java/lang/invoke/VarHandle" ∧ (parseMethodDescriptor yX5_carry.desc).map (fun d => d.parameters.length) = some 3 := by decide +kernel
theorem hdX0_addSong : yX0_addSong.cls ≠ "java/lang/invoke/MethodHandle" ∧ yX0_addSong.cls ≠ "java/lang/invoke/VarHandle" ∧ (parseMethodDescriptor yX0_addSong.desc).map (fun d => d.parameters.length) = some 3 := by decide +kernel
theorem hdX5_lay : yX5_lay.cls ≠ "java/lang/invoke/MethodHandle" ∧ yX5_lay.cls ≠ "java/lang/invoke/VarHandle" ∧ (parseMethodDescriptor yX5_lay.desc).map (fun d => d.parameters.length) = some 3 := by decide +kernel
theorem hdX5_isMarked : yX5_isMarked.cls ≠ "java/lang/invoke/MethodHandle" ∧ yX5_isMarked.cls ≠ "java/lang/invoke/VarHandle" ∧ (parseMethodDescriptor yX5_isMarked.desc).map (fun d => d.parameters.length) = some 2 := by decide +kernel
theorem hdX3_giveTo : yX3_giveTo.cls ≠ "java/lang/invoke/MethodHandle" ∧ yX3_giveTo.cls ≠ "java/lang/invoke/VarHandle" ∧ (parseMethodDescriptor yX3_giveTo.desc).map (fun d => d.parameters.length) = some 2 := by decide +kernel
theorem hdX3_otherHalf : yX3_otherHalf.cls ≠ "java/lang/invoke/MethodHandle" ∧ yX3_otherHalf.cls ≠ "java/lang/invoke/VarHandle" ∧ (parseMethodDescriptor yX3_otherHalf.desc).map (fun d => d.parameters.length) = some 1 := by decide +kernel
theorem hdX3_remove : yX3_remove.cls ≠ "java/lang/invoke/MethodHandle" ∧ yX3_remove.cls ≠ "java/lang/invoke/VarHandle" ∧ (parseMethodDescriptor yX3_remove.desc).map (fun d => d.parameters.length) = some 1 := by decide +kernel
theorem hdX3_join : yX3_join.cls ≠ "java/lang/invoke/MethodHandle" ∧ yX3_join.cls ≠ "java/lang/invoke/VarHandle" ∧ (parseMethodDescriptor yX3_join.desc).map (fun d => d.parameters.length) = some 3 := by decide +kernel
theorem hdX0_passOn : yX0_passOn.cls ≠ "java/lang/invoke/MethodHandle" ∧ yX0_passOn.cls ≠ "java/lang/invoke/VarHandle" ∧ (parseMethodDescriptor yX0_passOn.desc).map (fun d => d.parameters.length) = some 2 := by decide +kernel
theorem hdX5_handOver : yX5_handOver.cls ≠ "java/lang/invoke/MethodHandle" ∧ yX5_handOver.cls ≠ "java/lang/invoke/VarHandle" ∧ (parseMethodDescriptor yX5_handOver.desc).map (fun d => d.parameters.length) = some 3 := by decide +kernel
theorem hdX5_moveTent : yX5_moveTent.cls ≠ "java/lang/invoke/MethodHandle" ∧ yX5_moveTent.cls ≠ "java/lang/invoke/VarHandle" ∧ (parseMethodDescriptor yX5_moveTent.desc).map (fun d => d.parameters.length) = some 3 := by decide +kernel
theorem hdX3_joinAll : yX3_joinAll.cls ≠ "java/lang/invoke/MethodHandle" ∧ yX3_joinAll.cls ≠ "java/lang/invoke/VarHandle" ∧ (parseMethodDescriptor yX3_joinAll.desc).map (fun d => d.parameters.length) = some 0 := by decide +kernel
theorem hdX3_isGivenBefore : yX3_isGivenBefore.cls ≠ "java/lang/invoke/MethodHandle" ∧ yX3_isGivenBefore.cls ≠ "java/lang/invoke/VarHandle" ∧ (parseMethodDescriptor yX3_isGivenBefore.desc).map (fun d => d.parameters.length) = some 2 := by decide +kernel
theorem hdX3_firstToGive : yX3_firstToGive.cls ≠ "java/lang/invoke/MethodHandle" ∧ yX3_firstToGive.cls ≠ "java/lang/invoke/VarHandle" ∧ (parseMethodDescriptor yX3_firstToGive.desc).map (fun d => d.parameters.length) = some 1 := by decide +kernel
theorem hdX0_leastOf : yX0_leastOf.cls ≠ "java/lang/invoke/MethodHandle" ∧ yX0_leastOf.cls ≠ "java/lang/invoke/VarHandle" ∧ (parseMethodDescriptor yX0_leastOf.desc).map (fun d => d.parameters.length) = some 1 := by decide +kernel
theorem hdX0_giveAway : yX0_giveAway.cls ≠ "java/lang/invoke/MethodHandle" ∧ yX0_giveAway.cls ≠ "java/lang/invoke/VarHandle" ∧ (parseMethodDescriptor yX0_giveAway.desc).map (fun d => d.parameters.length) = some 1 := by decide +kernel
theorem hdX0_sendAway : yX0_sendAway.cls ≠ "java/lang/invoke/MethodHandle" ∧ yX0_sendAway.cls ≠ "java/lang/invoke/VarHandle" ∧ (parseMethodDescriptor yX0_sendAway.desc).map (fun d => d.parameters.length) = some 1 := by decide +kernel
theorem hdX5_leave : yX5_leave.cls ≠ "java/lang/invoke/MethodHandle" ∧ yX5_leave.cls ≠ "java/lang/invoke/VarHandle" ∧ (parseMethodDescriptor yX5_leave.desc).map (fun d => d.parameters.length) = some 1 := by decide +kernel
theorem hdX5_come : yX5_come.cls ≠ "java/lang/invoke/MethodHandle" ∧ yX5_come.cls ≠ "java/lang/invoke/VarHandle" ∧ (parseMethodDescriptor yX5_come.desc).map (fun d => d.parameters.length) = some 2 := by decide +kernel
theorem hdL_act : yL_act.cls ≠ "java/lang/invoke/MethodHandle" ∧ yL_act.cls ≠ "java/lang/invoke/VarHandle" ∧ (parseMethodDescriptor yL_act.desc).map (fun d => d.parameters.length) = some 3 := by decide +kernel
theorem hdX3_manyBeside : yX3_manyBeside.cls ≠ "java/lang/invoke/MethodHandle" ∧ yX3_manyBeside.cls ≠ "java/lang/invoke/VarHandle" ∧ (parseMethodDescriptor yX3_manyBeside.desc).map (fun d => d.parameters.length) = some 1 := by decide +kernel
theorem hdX5_orNone : yX5_orNone.cls ≠ "java/lang/invoke/MethodHandle" ∧ yX5_orNone.cls ≠ "java/lang/invoke/VarHandle" ∧ (parseMethodDescriptor yX5_orNone.desc).map (fun d => d.parameters.length) = some 1 := by decide +kernel
theorem hdX5_plot : yX5_plot.cls ≠ "java/lang/invoke/MethodHandle" ∧ yX5_plot.cls ≠ "java/lang/invoke/VarHandle" ∧ (parseMethodDescriptor yX5_plot.desc).map (fun d => d.parameters.length) = some 3 := by decide +kernel
theorem hdX3_outside : yX3_outside.cls ≠ "java/lang/invoke/MethodHandle" ∧ yX3_outside.cls ≠ "java/lang/invoke/VarHandle" ∧ (parseMethodDescriptor yX3_outside.desc).map (fun d => d.parameters.length) = some 3 := by decide +kernel
theorem hdX3_distance : yX3_distance.cls ≠ "java/lang/invoke/MethodHandle" ∧ yX3_distance.cls ≠ "java/lang/invoke/VarHandle" ∧ (parseMethodDescriptor yX3_distance.desc).map (fun d => d.parameters.length) = some 3 := by decide +kernel
theorem hdX3_isBetterStep : yX3_isBetterStep.cls ≠ "java/lang/invoke/MethodHandle" ∧ yX3_isBetterStep.cls ≠ "java/lang/invoke/VarHandle" ∧ (parseMethodDescriptor yX3_isBetterStep.desc).map (fun d => d.parameters.length) = some 4 := by decide +kernel
theorem hdX3_nextToward : yX3_nextToward.cls ≠ "java/lang/invoke/MethodHandle" ∧ yX3_nextToward.cls ≠ "java/lang/invoke/VarHandle" ∧ (parseMethodDescriptor yX3_nextToward.desc).map (fun d => d.parameters.length) = some 3 := by decide +kernel
theorem hdX0_plotOnWay : yX0_plotOnWay.cls ≠ "java/lang/invoke/MethodHandle" ∧ yX0_plotOnWay.cls ≠ "java/lang/invoke/VarHandle" ∧ (parseMethodDescriptor yX0_plotOnWay.desc).map (fun d => d.parameters.length) = some 4 := by decide +kernel
theorem hdX5_way : yX5_way.cls ≠ "java/lang/invoke/MethodHandle" ∧ yX5_way.cls ≠ "java/lang/invoke/VarHandle" ∧ (parseMethodDescriptor yX5_way.desc).map (fun d => d.parameters.length) = some 5 := by decide +kernel
theorem hdX5_loudest : yX5_loudest.cls ≠ "java/lang/invoke/MethodHandle" ∧ yX5_loudest.cls ≠ "java/lang/invoke/VarHandle" ∧ (parseMethodDescriptor yX5_loudest.desc).map (fun d => d.parameters.length) = some 0 := by decide +kernel
theorem hdL_holds : yL_holds.cls ≠ "java/lang/invoke/MethodHandle" ∧ yL_holds.cls ≠ "java/lang/invoke/VarHandle" ∧ (parseMethodDescriptor yL_holds.desc).map (fun d => d.parameters.length) = some 2 := by decide +kernel
theorem hdX2_pop : yX2_pop.cls ≠ "java/lang/invoke/MethodHandle" ∧ yX2_pop.cls ≠ "java/lang/invoke/VarHandle" ∧ (parseMethodDescriptor yX2_pop.desc).map (fun d => d.parameters.length) = some 1 := by decide +kernel
theorem hdX5_undo : yX5_undo.cls ≠ "java/lang/invoke/MethodHandle" ∧ yX5_undo.cls ≠ "java/lang/invoke/VarHandle" ∧ (parseMethodDescriptor yX5_undo.desc).map (fun d => d.parameters.length) = some 0 := by decide +kernel
theorem hdX5_keep : yX5_keep.cls ≠ "java/lang/invoke/MethodHandle" ∧ yX5_keep.cls ≠ "java/lang/invoke/VarHandle" ∧ (parseMethodDescriptor yX5_keep.desc).map (fun d => d.parameters.length) = some 0 := by decide +kernel
