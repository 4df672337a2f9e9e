/-! methods that may throw: k = 1, 2, 3 for IllegalArgument, IllegalState, IndexOutOfBounds; rows of throws, of calls that may throw, of handlers -/
def xnm (k : Nat) : String := match k with
  | 1 => "java/lang/IllegalArgumentException"
  | 2 => "java/lang/IllegalStateException"
  | _ => "java/lang/IndexOutOfBoundsException"
def xsup : List String := ["java/lang/RuntimeException", "java/lang/Exception"]
def Xw (k ik ic : Nat) : Prop := Bundle.fit (xnm k) = true ∧ Cond.classLink RX7 ik (xnm k) ∈ TsG ∧ Cond.initialized (xnm k) ∈ TsG ∧ (∀ w ∈ vx_atS RX7 ic (xnm k) xsup, w ∈ TsG ∨ w = .castable (xnm k) (xnm k) ∨ ∃ q ∈ gx_dec, w = .declares q) ∧ xnm k ∈ gx_cas
theorem xsup_fit : ∀ n ∈ xsup, Bundle.fit n = true := by decide +kernel
theorem xw_1 : Xw 1 57 61 := ⟨by decide +kernel, cl_X7_57, in_E1, fun w hw => by
  rcases (by decide +kernel : ∀ w ∈ vx_atS RX7 61 (xnm 1) xsup, goodWord w = true ∨ w = .castable (xnm 1) (xnm 1) ∨ ∃ q ∈ gx_dec, w = .declares q) w hw with h | h
  · exact Or.inl (TsG_of ((by decide +kernel : ∀ w ∈ vx_atS RX7 61 (xnm 1) xsup, w ∈ lw_tbl) w hw) h)
  · exact Or.inr h, by decide +kernel⟩
theorem xw_2 : Xw 2 68 72 := ⟨by decide +kernel, cl_X7_68, in_E2, fun w hw => by
  rcases (by decide +kernel : ∀ w ∈ vx_atS RX7 72 (xnm 2) xsup, goodWord w = true ∨ w = .castable (xnm 2) (xnm 2) ∨ ∃ q ∈ gx_dec, w = .declares q) w hw with h | h
  · exact Or.inl (TsG_of ((by decide +kernel : ∀ w ∈ vx_atS RX7 72 (xnm 2) xsup, w ∈ lw_tbl) w hw) h)
  · exact Or.inr h, by decide +kernel⟩
theorem xw_3 : Xw 3 197 201 := ⟨by decide +kernel, cl_X7_197, in_E3, fun w hw => by
  rcases (by decide +kernel : ∀ w ∈ vx_atS RX7 201 (xnm 3) xsup, goodWord w = true ∨ w = .castable (xnm 3) (xnm 3) ∨ ∃ q ∈ gx_dec, w = .declares q) w hw with h | h
  · exact Or.inl (TsG_of ((by decide +kernel : ∀ w ∈ vx_atS RX7 201 (xnm 3) xsup, w ∈ lw_tbl) w hw) h)
  · exact Or.inr h, by decide +kernel⟩
theorem TsG_ot {w : Cond} (h : w ∈ TsG) : vx_ot w = true := by
  have h1 : goodWord w = true := (List.mem_filter.mp h).2
  simp [vx_ot, h1]
def sw {α : Type} (x : Int32 ⊕ Nat) (a : Int32 → α) (b : Nat → α) : α := match x with
  | .inl r => a r
  | .inr k => b k
theorem sw_l {α : Type} {x : Int32 ⊕ Nat} {a : Int32 → α} {b : Nat → α} {r : Int32} {y : α} (h : x = .inl r) (hf : sw x a b = y) : a r = y := by subst h; exact hf
theorem sw_r {α : Type} {x : Int32 ⊕ Nat} {a : Int32 → α} {b : Nat → α} {k : Nat} {y : α} (h : x = .inr k) (hf : sw x a b = y) : b k = y := by subst h; exact hf
def gx_QiX (Γ : gx_G) (x : Int32 ⊕ Nat) (C M : Mem) : Array Value → State → Outcome → State → Prop := va_Qi (S := Unit) (fun r _ => x = .inl r) (fun _ t => gx_W Γ C M t.heap) (gA Γ)
def gx_QvX (Γ : gx_G) (x : Int32 ⊕ Nat) (C M : Mem) : Array Value → State → Outcome → State → Prop := va_Qv (S := Unit) (fun _ => x = .inl 0) (fun _ t => gx_W Γ C M t.heap) (gA Γ)
def gx_XX (Γ : gx_G) (x : Int32 ⊕ Nat) (C M : Mem) : String → State → State → Prop := vx_X (S := Unit) (fun _ => True) (fun E _ t => (∃ k, x = .inr k ∧ E = xnm k) ∧ gx_W Γ C M t.heap) (gA Γ)
section GX
variable {p : Program} {l : Launch} {e : Env} {R : Room} {s : State} {m : MethodId} {args : Array Value} {below : List Frame} {meth : Method} {c : Code} {H : Heap} {locs : List Loc} {cells slots : Nat} {Q : State → Prop}
variable {cc : ByteArray} {nL pc : Nat} {ls : Array Slot} {rest st0 : List Value} {Γ : gx_G} {C M : Mem} {own : String} {x : Int32 ⊕ Nat} {mc ms : Nat}
theorem gt_throw (S : CallFix p m c cc nL s args TsG RX7) (hl0 : l.stackTraces = false) (hlk : meth.locks = false) (htab : ∀ z ∈ c.exceptionTable.toList, False) (hRf : 5 < R.frames) (hRl : 100 ≤ R.locals) (hRc : mc ≤ R.cells) (hRs : ms ≤ R.slots) (hG : gx_K Γ s) {Qc : Array Value → State → Outcome → State → Prop} (hW : gx_W Γ C M H) (hS : va_S (gA Γ) s.heap H locs) (hsz : ls.size = nL) {k ik is ic : Nat} {text : String} (hX : Xw k ik ic) (hstr : (is, text) ∈ gx_strs) (hx : x = .inr k) (hcat : (rest.map fun v => v.category).sum ≤ 8) (hc : cells + 1 ≤ mc) (hs : slots + 6 ≤ ms)
    (d0 : decode cc pc = .ok (.new ik, 3)) (d3 : decode cc (pc + 3) = .ok (.dup, 1)) (d4 : decode cc (pc + 4) = .ok (.ldc is, 2)) (d6 : decode cc (pc + 6) = .ok (.invokespecial ic, 3)) (d9 : decode cc (pc + 9) = .ok (.athrow, 1)) :
    W p l e R s m args below meth c H locs cells slots (vx_MQ below Qc (gx_XX Γ x C M) args s mc ms (gA Γ)) (F0 m pc ls rest) := by
  obtain ⟨sa, hsa⟩ := hG.2.2.2.1.2.2.1 _ hstr
  obtain ⟨x1, x2, x3, x4, x5⟩ := hX
  have hcas := hG.2.2.2.1.2.2.2.2.1 _ x5
  refine vx_throwS (own := RX7) (cls := xnm k) (text := text) (names := xsup) (A := gA Γ) S.1 S.2.1 hl0 S.2.2.2.1 x1 xsup_fit (S.2.2.2.2 _ x2) (S.2.2.2.2 _ x3) hsa (fun w hw => (x4 w hw).elim (fun h => S.2.2.2.2 _ h) (fun h => h.elim (fun h => by rw [h]; exact va_Nw.use rfl hcas) (fun h => by obtain ⟨q, hq, h⟩ := h; rw [h]; exact va_Nw.use rfl (hG.2.2.2.1.2.2.2.2.2 q hq)))) (fun w hw => ?_) hG.2.2.2.1.1 hG.2.2.2.1.2.1 hS (hsz.trans S.2.2.1.symm) d0 d3 d4 d6 d9 (fun z hz => (htab z hz).elim) hRf ?_ (Nat.le_trans hc hRc) (Nat.le_trans hs hRs) hlk (fun t _ h1 h2 => ?_) hS.2.2 hc hs
  · rcases List.mem_cons.mp hw with rfl | hw
    · exact TsG_ot x2
    · rcases List.mem_cons.mp hw with rfl | hw
      · exact TsG_ot x3
      · exact (x4 w hw).elim TsG_ot (fun h => h.elim (fun h => by rw [h]; rfl) (fun h => by obtain ⟨q, hq, h⟩ := h; rw [h]; rfl))
  · have : xsup.length = 2 := rfl
    omega
  · refine ⟨(), trivial, ⟨⟨k, hx, rfl⟩, va_P.kept hW (fun i q hq => h2 _ (hW i q hq).lt)⟩, ⟨Nat.le_trans hS.1 h1, fun q h3 h4 => ?_⟩⟩
    rw [h2 q (Nat.lt_of_lt_of_le h3 hS.1)]
    exact hS.2.1 q h3 h4
theorem gt_throwW (S : CallFix p m c cc nL s args TsG RX7) (hl0 : l.stackTraces = false) (hlk : meth.locks = false) (htab : ∀ z ∈ c.exceptionTable.toList, False) (hRf : 5 < R.frames) (hRl : 100 ≤ R.locals) (hRc : mc ≤ R.cells) (hRs : ms ≤ R.slots) (hG : gx_K Γ s) {Qc : Array Value → State → Outcome → State → Prop} (hW : gx_W Γ C M H) (hS : va_S (gA Γ) s.heap H locs) (hsz : ls.size = nL) {k ik is ic : Nat} {text : String} (hX : Xw k ik ic) (hstr : (is, text) ∈ gx_strs) (hx : x = .inr k) (hcat : (rest.map fun v => v.category).sum ≤ 8) (hc : cells + 1 ≤ mc) (hs : slots + 6 ≤ ms)
    (d0 : decode cc pc = .ok (.new ik, 3)) (d3 : decode cc (pc + 3) = .ok (.dup, 1)) (d4 : decode cc (pc + 4) = .ok (.ldc_w is, 3)) (d7 : decode cc (pc + 7) = .ok (.invokespecial ic, 3)) (d10 : decode cc (pc + 10) = .ok (.athrow, 1)) :
    W p l e R s m args below meth c H locs cells slots (vx_MQ below Qc (gx_XX Γ x C M) args s mc ms (gA Γ)) (F0 m pc ls rest) := by
  obtain ⟨sa, hsa⟩ := hG.2.2.2.1.2.2.1 _ hstr
  obtain ⟨x1, x2, x3, x4, x5⟩ := hX
  have hcas := hG.2.2.2.1.2.2.2.2.1 _ x5
  refine vx_throwSW (own := RX7) (cls := xnm k) (text := text) (names := xsup) (A := gA Γ) S.1 S.2.1 hl0 S.2.2.2.1 x1 xsup_fit (S.2.2.2.2 _ x2) (S.2.2.2.2 _ x3) hsa (fun w hw => (x4 w hw).elim (fun h => S.2.2.2.2 _ h) (fun h => h.elim (fun h => by rw [h]; exact va_Nw.use rfl hcas) (fun h => by obtain ⟨q, hq, h⟩ := h; rw [h]; exact va_Nw.use rfl (hG.2.2.2.1.2.2.2.2.2 q hq)))) (fun w hw => ?_) hG.2.2.2.1.1 hG.2.2.2.1.2.1 hS (hsz.trans S.2.2.1.symm) d0 d3 d4 d7 d10 (fun z hz => (htab z hz).elim) hRf ?_ (Nat.le_trans hc hRc) (Nat.le_trans hs hRs) hlk (fun t _ h1 h2 => ?_) hS.2.2 hc hs
  · rcases List.mem_cons.mp hw with rfl | hw
    · exact TsG_ot x2
    · rcases List.mem_cons.mp hw with rfl | hw
      · exact TsG_ot x3
      · exact (x4 w hw).elim TsG_ot (fun h => h.elim (fun h => by rw [h]; rfl) (fun h => by obtain ⟨q, hq, h⟩ := h; rw [h]; rfl))
  · have : xsup.length = 2 := rfl
    omega
  · refine ⟨(), trivial, ⟨⟨k, hx, rfl⟩, va_P.kept hW (fun i q hq => h2 _ (hW i q hq).lt)⟩, ⟨Nat.le_trans hS.1 h1, fun q h3 h4 => ?_⟩⟩
    rw [h2 q (Nat.lt_of_lt_of_le h3 hS.1)]
    exact hS.2.1 q h3 h4
/-- what a body that may throw is given: its returns, its throws, what it lets through -/
def XRi (p : Program) (l : Launch) (e : Env) (R : Room) (s : State) (m : MethodId) (args : Array Value) (below : List Frame) (meth : Method) (c : Code) (Q : State → Prop) (Γ : gx_G) (x : Int32 ⊕ Nat) (C M : Mem) (mc ms : Nat) (ty : FieldType) (cc : ByteArray) : Prop := ∀ (pc : Nat) (ls : Array Slot) (H : Heap) (locs : List Loc) (v : Int32) (cells slots : Nat), gx_W Γ C M H → va_S (gA Γ) s.heap H locs → narrow ty (.int v) = .int v → .inl v = x → cells ≤ mc → slots ≤ ms → decode cc pc = .ok (.ireturn, 1) → W p l e R s m args below meth c H locs cells slots Q (F0 m pc ls [.int v])
def XRv (p : Program) (l : Launch) (e : Env) (R : Room) (s : State) (m : MethodId) (args : Array Value) (below : List Frame) (meth : Method) (c : Code) (Q : State → Prop) (Γ : gx_G) (x : Int32 ⊕ Nat) (C M : Mem) (mc ms : Nat) (cc : ByteArray) : Prop := ∀ (pc : Nat) (ls : Array Slot) (H : Heap) (locs : List Loc) (cells slots : Nat), gx_W Γ C M H → va_S (gA Γ) s.heap H locs → .inl 0 = x → cells ≤ mc → slots ≤ ms → decode cc pc = .ok (.return_, 1) → W p l e R s m args below meth c H locs cells slots Q (F0 m pc ls [])
def XT (p : Program) (l : Launch) (e : Env) (R : Room) (s : State) (m : MethodId) (args : Array Value) (below : List Frame) (meth : Method) (c : Code) (Q : State → Prop) (Γ : gx_G) (x : Int32 ⊕ Nat) (C M : Mem) (mc ms nL : Nat) (cc : ByteArray) : Prop := ∀ (pc : Nat) (ls : Array Slot) (H : Heap) (locs : List Loc) (cells slots : Nat) (rest : List Value) (k ik is ic : Nat) (text : String), Xw k ik ic → (is, text) ∈ gx_strs → gx_W Γ C M H → va_S (gA Γ) s.heap H locs → ls.size = nL → .inr k = x → (rest.map fun v => v.category).sum ≤ 8 → cells + 1 ≤ mc → slots + 6 ≤ ms → decode cc pc = .ok (.new ik, 3) → decode cc (pc + 3) = .ok (.dup, 1) →
  (decode cc (pc + 4) = .ok (.ldc is, 2) ∧ decode cc (pc + 6) = .ok (.invokespecial ic, 3) ∧ decode cc (pc + 9) = .ok (.athrow, 1)) ∨ (decode cc (pc + 4) = .ok (.ldc_w is, 3) ∧ decode cc (pc + 7) = .ok (.invokespecial ic, 3) ∧ decode cc (pc + 10) = .ok (.athrow, 1)) → W p l e R s m args below meth c H locs cells slots Q (F0 m pc ls rest)
def XO (p : Program) (l : Launch) (e : Env) (R : Room) (s : State) (m : MethodId) (args : Array Value) (below : List Frame) (meth : Method) (c : Code) (Q : State → Prop) (Γ : gx_G) (x : Int32 ⊕ Nat) (C M : Mem) (mc ms : Nat) : Prop := ∀ (pc : Nat) (ls : Array Slot) (H : Heap) (locs : List Loc) (cells slots : Nat) (rest : List Value) (k : Nat) (ce : Cell) (q : Addr), gx_W Γ C M H → va_S (gA Γ) s.heap H locs → .inr k = x → H[q]? = some ce → ce.vm = .none → s.vm.findClass (xnm k) = some ce.cls → cells ≤ mc → slots ≤ ms → vx_W p l e R s m args below meth c H locs cells slots Q (F0 m pc ls rest) q
theorem gx_ofW {y : MethodName} {bytes : ByteArray} {maxL : Nat} {ret : Option FieldType} {rm : Room} {av : List Value} {Qc : Array Value → State → Outcome → State → Prop} {C' M' : Mem} (hy : plainName y.cls = true) (hown : y.cls = RX7) (hsz : (lg_sl av).length ≤ maxL) (hl0 : l.stackTraces = false) (hRf : 5 < rm.frames) (hRl : 100 ≤ rm.locals) (hRc : mc ≤ rm.cells) (hRs : ms ≤ rm.slots)
    (body : ∀ (p : Program) (e : Env) (s : State) (m : MethodId) (below : List Frame) (meth : Method) (c : Code) (Q : State → Prop), Q = vx_MQ below Qc (gx_XX Γ x C' M') av.toArray s mc ms (gA Γ) → CallFix p m c bytes maxL s av.toArray TsG RX7 → meth.locks = false → meth.sig.returnType = ret → gx_K Γ s → XT p l e rm s m av.toArray below meth c Q Γ x C' M' mc ms maxL bytes → XO p l e rm s m av.toArray below meth c Q Γ x C' M' mc ms → ∀ (ls : Array Slot) (H : Heap) (locs : List Loc), lv_has ls maxL (lv_args 0 av) → gx_W Γ C M H → va_S (gA Γ) s.heap H locs → W p l e rm s m av.toArray below meth c H locs 0 0 Q (F0 m 0 ls [])) :
    vx_Met l y (.code y bytes maxL ret :: TsG) rm (va_Pc av (gx_P Γ C M)) Qc (gx_XX Γ x C' M') mc ms (gA Γ) := by
  refine vx_ofW (cc := bytes) (maxL := maxL) (ret := ret) hy rfl ?_
  intro p e s m args below meth c s₁ B hml htab hv
  obtain ⟨rfl, hG, hW⟩ := hv
  have hts := atoms_spec (ws := Cond.code y bytes maxL ret :: TsG) B.pre
  rw [lg_entry_eq]
  have S : CallFix p m c bytes maxL s av.toArray TsG RX7 := ⟨B.exec, B.bytes, hml, hown ▸ findClass_of_methodNamed B.named, fun w h => hts w (List.mem_cons_of_mem _ h)⟩
  refine body p e s m below meth c _ rfl S B.notSynchronized B.returns hG ?_ ?_ _ _ _ (lv_entry av hsz) hW va_S.rf
  · intro pc ls H locs cells slots rest k ik is ic text hX hstr hW hS hsz hx hcat hc hs d0 d3 d
    rcases d with ⟨d4, d6, d9⟩ | ⟨d4, d7, d10⟩
    · exact gt_throw S hl0 B.notSynchronized htab hRf hRl hRc hRs hG hW hS hsz hX hstr hx.symm hcat hc hs d0 d3 d4 d6 d9
    · exact gt_throwW S hl0 B.notSynchronized htab hRf hRl hRc hRs hG hW hS hsz hX hstr hx.symm hcat hc hs d0 d3 d4 d7 d10
  · intro pc ls H locs cells slots rest k ce q hW hS hx hce hcv hcl hc hs
    exact vx_out (fun z hz => (htab z hz).elim) B.notSynchronized hce hcv hcl (fun t ht _ => ⟨(), trivial, ⟨⟨k, hx.symm, rfl⟩, by show gx_W Γ C' M' t.heap; rw [ht]; exact hW⟩, hS.F ht⟩) hS.2.2 hc hs
theorem gx_i {y : MethodName} {bytes : ByteArray} {maxL : Nat} {ty : FieldType} {rm : Room} {av : List Value} {C' M' : Mem} (hy : plainName y.cls = true) (hown : y.cls = RX7) (hsz : (lg_sl av).length ≤ maxL) (hl0 : l.stackTraces = false) (hRf : 5 < rm.frames) (hRl : 100 ≤ rm.locals) (hRc : mc ≤ rm.cells) (hRs : ms ≤ rm.slots)
    (body : ∀ (p : Program) (e : Env) (s : State) (m : MethodId) (args : Array Value) (below : List Frame) (meth : Method) (c : Code) (Q : State → Prop), CallFix p m c bytes maxL s args TsG RX7 → gx_K Γ s → XRi p l e rm s m args below meth c Q Γ x C' M' mc ms ty bytes → XT p l e rm s m args below meth c Q Γ x C' M' mc ms maxL bytes → XO p l e rm s m args below meth c Q Γ x C' M' mc ms → ∀ (ls : Array Slot) (H : Heap) (locs : List Loc), lv_has ls maxL (lv_args 0 av) → gx_W Γ C M H → va_S (gA Γ) s.heap H locs → W p l e rm s m args below meth c H locs 0 0 Q (F0 m 0 ls [])) :
    vx_Met l y (.code y bytes maxL (some ty) :: TsG) rm (va_Pc av (gx_P Γ C M)) (gx_QiX Γ x C' M') (gx_XX Γ x C' M') mc ms (gA Γ) :=
  gx_ofW hy hown hsz hl0 hRf hRl hRc hRs (fun p e s m below meth c Q hQ S hlk hr hG hT hO => body p e s m _ below meth c Q S hG (fun pc ls H locs v cells slots hW hS hn hv hc hs hd => by
    subst hQ
    refine W.widen hc hs (vx_ret ?_)
    exact W.zret S.1 S.2.1 hr hn (fun t ht _ => ⟨⟨v, (), rfl, hv.symm, by show gx_W Γ C' M' t.heap; rw [ht]; exact hW⟩, hS.F ht⟩) hS.2.2 hd hlk) hT hO)
theorem gx_v {y : MethodName} {bytes : ByteArray} {maxL : Nat} {rm : Room} {av : List Value} {C' M' : Mem} (hy : plainName y.cls = true) (hown : y.cls = RX7) (hsz : (lg_sl av).length ≤ maxL) (hl0 : l.stackTraces = false) (hRf : 5 < rm.frames) (hRl : 100 ≤ rm.locals) (hRc : mc ≤ rm.cells) (hRs : ms ≤ rm.slots)
    (body : ∀ (p : Program) (e : Env) (s : State) (m : MethodId) (args : Array Value) (below : List Frame) (meth : Method) (c : Code) (Q : State → Prop), CallFix p m c bytes maxL s args TsG RX7 → gx_K Γ s → XRv p l e rm s m args below meth c Q Γ x C' M' mc ms bytes → XT p l e rm s m args below meth c Q Γ x C' M' mc ms maxL bytes → XO p l e rm s m args below meth c Q Γ x C' M' mc ms → ∀ (ls : Array Slot) (H : Heap) (locs : List Loc), lv_has ls maxL (lv_args 0 av) → gx_W Γ C M H → va_S (gA Γ) s.heap H locs → W p l e rm s m args below meth c H locs 0 0 Q (F0 m 0 ls [])) :
    vx_Met l y (.code y bytes maxL none :: TsG) rm (va_Pc av (gx_P Γ C M)) (gx_QvX Γ x C' M') (gx_XX Γ x C' M') mc ms (gA Γ) :=
  gx_ofW hy hown hsz hl0 hRf hRl hRc hRs (fun p e s m below meth c Q hQ S hlk hr hG hT hO => body p e s m _ below meth c Q S hG (fun pc ls H locs cells slots hW hS hv hc hs hd => by
    subst hQ
    refine W.widen hc hs (vx_ret ?_)
    exact W.vret S.1 S.2.1 hr (fun t ht _ => ⟨⟨(), rfl, hv.symm, by show gx_W Γ C' M' t.heap; rw [ht]; exact hW⟩, hS.F ht⟩) hS.2.2 hd hlk) hT hO)
/-! calls of methods that may throw -/
variable {C' M' : Mem} {As : List Value}
theorem gxk_i (hS : va_S (gA Γ) s.heap H locs) {a : Array Value} (hr : vx_Run p l e R s m args below meth c H locs cells slots mc ms (F0 m pc ls st0) rest (gx_QiX Γ x C' M' a) (gx_XX Γ x C' M') (gA Γ))
    (kx : ∀ (H1 : Heap) (locs1 : List Loc) (k : Nat) (ce : Cell) (q : Addr), gx_W Γ C' M' H1 → va_S (gA Γ) s.heap H1 locs1 → x = .inr k → H1[q]? = some ce → ce.vm = .none → s.vm.findClass (xnm k) = some ce.cls → vx_W p l e R s m args below meth c H1 locs1 (cells + mc) (slots + ms) Q (F0 m pc ls rest) q)
    (kk : ∀ (H1 : Heap) (locs1 : List Loc) (r : Int32), gx_W Γ C' M' H1 → va_S (gA Γ) s.heap H1 locs1 → x = .inl r → W p l e R s m args below meth c H1 locs1 (cells + mc) (slots + ms) Q (F0 m (pc + 3) ls (.int r :: rest))) : W p l e R s m args below meth c H locs cells slots Q (F0 m pc ls st0) :=
  vx_calli hr hS (fun _ _ h => h) (fun _ h => h) (fun _ _ h => h) (fun E ce q9 _ t H1 locs1 ht _ _ hb _ _ hS1 hce hcv hcl => by
    obtain ⟨⟨k, e1, e2⟩, hw⟩ := hb
    subst e2
    exact kx H1 locs1 k ce q9 (by rw [← ht]; exact hw) hS1 e1 hce hcv hcl) (fun r _ t H1 locs1 ht _ hp hb _ _ hS1 => kk H1 locs1 r (by rw [← ht]; exact hb) hS1 hp)
theorem gxk_v (hS : va_S (gA Γ) s.heap H locs) {a : Array Value} (hr : vx_Run p l e R s m args below meth c H locs cells slots mc ms (F0 m pc ls st0) rest (gx_QvX Γ x C' M' a) (gx_XX Γ x C' M') (gA Γ))
    (kx : ∀ (H1 : Heap) (locs1 : List Loc) (k : Nat) (ce : Cell) (q : Addr), gx_W Γ C' M' H1 → va_S (gA Γ) s.heap H1 locs1 → x = .inr k → H1[q]? = some ce → ce.vm = .none → s.vm.findClass (xnm k) = some ce.cls → vx_W p l e R s m args below meth c H1 locs1 (cells + mc) (slots + ms) Q (F0 m pc ls rest) q)
    (kk : ∀ (H1 : Heap) (locs1 : List Loc), gx_W Γ C' M' H1 → va_S (gA Γ) s.heap H1 locs1 → x = .inl 0 → W p l e R s m args below meth c H1 locs1 (cells + mc) (slots + ms) Q (F0 m (pc + 3) ls rest)) : W p l e R s m args below meth c H locs cells slots Q (F0 m pc ls st0) :=
  vx_callv hr hS (fun _ _ h => h) (fun _ h => h) (fun _ _ h => h) (fun E ce q9 _ t H1 locs1 ht _ _ hb _ _ hS1 hce hcv hcl => by
    obtain ⟨⟨k, e1, e2⟩, hw⟩ := hb
    subst e2
    exact kx H1 locs1 k ce q9 (by rw [← ht]; exact hw) hS1 e1 hce hcv hcl) (fun _ t H1 locs1 ht _ hp hb _ _ hS1 => kk H1 locs1 (by rw [← ht]; exact hb) hS1 hp)
theorem gvx_run {y : MethodName} {bytes : ByteArray} {maxL n index : Nat} {ret : Option FieldType} {rm : Room} {Qc : Array Value → State → Outcome → State → Prop} {XC : String → State → State → Prop} (S : CallFix p m c cc nL s args TsG own) (hG : gx_K Γ s) (hW : gx_W Γ C M H) (hS : va_S (gA Γ) s.heap H locs) (As : List Value) (hM : vx_Met l y (.code y bytes maxL ret :: TsG) rm (va_Pc (.ref (Γ.1 0) :: As) (gx_P Γ C M)) Qc XC mc ms (gA Γ)) (pk : PkV y bytes maxL ret n) (hy : y.cls = RX7) (ml : Cond.methodLink own index y ∈ TsG)
    (hrc : rm.cells = mc) (hrs : rm.slots = ms) (hR : rm.frames + 1 ≤ R.frames ∧ 8 + (maxL + 11) + rm.locals ≤ R.locals) (hn : As.length = n) (hsz : ls.size = nL) (hst : st0 = As.reverse ++ .ref (Γ.1 0) :: rest) (hroom : (rest.map fun v => v.category).sum ≤ 8) (hdg : decode cc pc = .ok (.invokevirtual index, 3)) (hf : cells + mc ≤ R.cells ∧ slots + ms ≤ R.slots) :
    vx_Run p l e R s m args below meth c H locs cells slots mc ms (F0 m pc ls st0) rest (Qc (Value.ref (Γ.1 0) :: As).toArray) XC (gA Γ) :=
  vx_runV (As := As) (rest := rest) S hM (gc_cwV S pk ml hrc hrs hR) (gc_preV (k := 0) (CC := y.cls) (T := TX7) (N := 6) hG hW hS (by decide) rfl (by rw [hy]; rfl)) rfl hn hsz hst (lv_room hroom) hdg hf
end GX
