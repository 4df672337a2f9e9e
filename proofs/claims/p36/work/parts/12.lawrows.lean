/-! the law's own static methods: act catches what a method of the class throws -/
def RLs : String := "MonobuildLaw"
def PkW (y : MethodName) (bytes : ByteArray) (maxL : Nat) (ret : Option FieldType) (hh : List (Nat × Nat × Nat × Nat)) (n : Nat) : Prop :=
  Cond.codeWith y bytes maxL ret hh ∈ TsG ∧ Cond.static y ∈ TsG ∧ Cond.initialized y.cls ∈ TsG ∧ y.cls ≠ "java/lang/invoke/MethodHandle" ∧ y.cls ≠ "java/lang/invoke/VarHandle" ∧ (parseMethodDescriptor y.desc).map (fun d => d.parameters.length) = some n
section GL
variable {p : Program} {l : Launch} {e : Env} {R : Room} {s : State} {m : MethodId} {args : Array Value} {below : List Frame} {meth : Method} {c : Code} {H : Heap} {locs : List Loc} {cells slots : Nat} {Q : State → Prop}
variable {cc : ByteArray} {nL pc : Nat} {ls : Array Slot} {rest st0 : List Value} {Γ : gx_G} {C M : Mem} {own : String} {x : Int32 ⊕ Nat} {mc ms : Nat}
theorem gl_catch (S : CallFix p m c cc nL s args TsG own) (hG : gx_K Γ s) {k : Nat} {ce : Cell} {q : Addr} (pre : List ExceptionTableEntry) (x : ExceptionTableEntry) (suf : List ExceptionTableEntry) (hsplit : c.exceptionTable.toList = pre ++ x :: suf)
    (hpass : ∀ z ∈ pre, z.catchType ≠ 0 ∧ ∃ nm : String, Cond.classLink own z.catchType nm ∈ TsG ∧ (xnm k, nm) ∈ gx_ncs) (hx : covers x pc = true) (h0 : x.catchType ≠ 0) (hlink : Cond.classLink own x.catchType (xnm k) ∈ TsG) (hk : xnm k ∈ gx_cas) (hce : H[q]? = some ce) (hcv : ce.vm = .none) (hcl : s.vm.findClass (xnm k) = some ce.cls)
    (kk : W p l e R s m args below meth c H locs cells slots Q (F0 m x.handlerPc ls [.ref q])) : vx_W p l e R s m args below meth c H locs cells slots Q (F0 m pc ls rest) q :=
  vx_catch (E := xnm k) (name := xnm k) S.2.2.2.1 pre x suf hsplit (fun z hz => Or.inr ⟨(hpass z hz).1, by
    obtain ⟨nm, h1, h2⟩ := (hpass z hz).2
    exact ⟨nm, S.2.2.2.2 _ h1, hG.2.2.2.1.2.2.2.1 _ h2⟩⟩) hx h0 (S.2.2.2.2 _ hlink) (va_Nw.use rfl (hG.2.2.2.1.2.2.2.2.1 _ hk)) hce hcv hcl kk
/-- the body of a method with handlers, that returns an int -/
theorem gl_ofW {y : MethodName} {bytes : ByteArray} {maxL : Nat} {hh : List (Nat × Nat × Nat × Nat)} {rm : Room} {av : List Value} {r : Int32} {C' M' : Mem} (hy : plainName y.cls = true) (hsz : (lg_sl av).length ≤ maxL)
    (body : ∀ (p : Program) (e : Env) (s : State) (m : MethodId) (args : Array Value) (below : List Frame) (meth : Method) (c : Code) (Q : State → Prop), CallFix p m c bytes maxL s args TsG y.cls → c.exceptionTable.toList = tableOf hh → gx_K Γ s → (∀ (pc : Nat) (ls : Array Slot) (H : Heap) (locs : List Loc) (v : Int32) (cells slots : Nat), gx_W Γ C' M' H → va_S (gA Γ) s.heap H locs → v = r → cells ≤ mc → slots ≤ ms → decode bytes pc = .ok (.ireturn, 1) → W p l e rm s m args below meth c H locs cells slots Q (F0 m pc ls [.int v])) → ∀ (ls : Array Slot) (H : Heap) (locs : List Loc), lv_has ls maxL (lv_args 0 av) → gx_W Γ C M H → va_S (gA Γ) s.heap H locs → W p l e rm s m args below meth c H locs 0 0 Q (F0 m 0 ls [])) :
    Met l y (.codeWith y bytes maxL (some .int) hh :: TsG) rm (va_Pc av (gx_P Γ C M)) (gx_Qi Γ r C' M') mc ms (gA Γ) := by
  refine va_MetW (cc := bytes) (maxL := maxL) (ret := some .int) (hh := hh) hy rfl ?_
  intro p e s m args below meth c s₁ B hml hv
  obtain ⟨rfl, hG, hW⟩ := hv
  have hts := atoms_spec (ws := Cond.codeWith y bytes maxL (some .int) hh :: TsG) B.pre
  rw [lg_entry_eq]
  have S : CallFix p m c bytes maxL s av.toArray TsG y.cls := ⟨B.exec, B.bytes, hml, findClass_of_methodNamed B.named, fun w h => hts w (List.mem_cons_of_mem _ h)⟩
  refine body p e s m _ below meth c _ S (vx_table (x := y) B (hts _ List.mem_cons_self)) hG (fun pc ls H locs v cells slots hW hS hv hc hs hd => ?_) _ _ _ (lv_entry av hsz) hW va_S.rf
  exact W.widen hc hs (gr_i S B.notSynchronized B.returns hW hS rfl hv hd)
theorem gsw_run {y : MethodName} {bytes : ByteArray} {maxL n index : Nat} {ret : Option FieldType} {hh : List (Nat × Nat × Nat × Nat)} {rm : Room} {Qc : Array Value → State → Outcome → State → Prop} (S : CallFix p m c cc nL s args TsG own) (hG : gx_K Γ s) (hW : gx_W Γ C M H) (hS : va_S (gA Γ) s.heap H locs) (As : List Value) (hM : Met l y (.codeWith y bytes maxL ret hh :: TsG) rm (va_Pc As (gx_P Γ C M)) Qc mc ms (gA Γ)) (pk : PkW y bytes maxL ret hh n) (ml : Cond.methodLink own index y ∈ TsG)
    (hrc : rm.cells = mc) (hrs : rm.slots = ms) (hR : rm.frames + 1 ≤ R.frames ∧ 8 + (maxL + 11) + rm.locals ≤ R.locals) (hn : As.length = n) (hsz : ls.size = nL) (hst : st0 = As.reverse ++ rest) (hroom : (rest.map fun v => v.category).sum ≤ 8) (hdg : decode cc pc = .ok (.invokestatic index, 3)) (hf : cells + mc ≤ R.cells ∧ slots + ms ≤ R.slots) :
    va_Run p l e R s m args below meth c H locs cells slots mc ms (F0 m pc ls st0) rest (Qc As.toArray) (gA Γ) := by
  obtain ⟨h1, h2, h3, h4, h5, h6⟩ := pk
  refine vx_runSW (As := As) (rest := rest) S hM (vx_cwSW n S.2.2.2.2 (gi_all (fun w hw => ?_) (fun _ h => h)) rfl hrc hrs ⟨h4, h5, h6⟩ hR) (gc_pre (y := y) hG hW hS) rfl hn hsz hst (lv_room hroom) hdg hf
  rcases List.mem_append.mp hw with hw | hw
  · rcases List.mem_cons.mp hw with rfl | hw
    · exact ml
    · rcases List.mem_cons.mp hw with rfl | hw
      · exact h2
      · rcases List.mem_cons.mp hw with rfl | hw
        · exact h3
        · cases hw
  · rcases List.mem_cons.mp hw with rfl | hw
    · exact h1
    · exact hw
end GL
