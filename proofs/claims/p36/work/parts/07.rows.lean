/-! rows over the one memory: fields, rows of numbers, calls -/
section GR
variable {p : Program} {l : Launch} {e : Env} {R : Room} {s : State} {m : MethodId} {args : Array Value} {below : List Frame} {meth : Method} {c : Code} {H : Heap} {locs : List Loc} {cells slots : Nat} {Q : State → Prop}
variable {cc : ByteArray} {nL pc : Nat} {ls : Array Slot} {rest : List Value} {Γ : gx_G} {C M : Mem} {own : String}
theorem gg_get (S : CallFix p m c cc nL s args TsG own) (hG : gx_K Γ s) (hW : gx_W Γ C M H) {k ci N : Nat} {fs : List Value} {CC : String} {T : u_T} (hk : k < 475) (he : gx_cc Γ k (C k) (M k) = .inr (ci, fs)) (hc : vwCl[ci]? = some (CC, T, N)) (hin : ∀ w ∈ u_ws CC T N, w ∈ TsG) (j : Nat) (hj : j < N) {index : Nat} (hlink : Cond.fieldLink own index (T j).1 (T j).2.1 (T j).2.2.1 ∈ TsG) {v : Value} (hv : fs[j]? = some v) (hdg : decode cc pc = .ok (.getfield index, 3))
    (kk : W p l e R s m args below meth c H locs cells slots Q (F0 m (pc + 3) ls (v :: rest))) : W p l e R s m args below meth c H locs cells slots Q (F0 m pc ls (.ref (Γ.1 k) :: rest)) :=
  va_get (D := Γ.2.2.1) (ci := ci) (v := v) (C := CC) (T := T) (N := N) S.1 S.2.1 S.2.2.2.2 hin S.2.2.2.1 hG.1 hW k (gx_at_c hk he) hc j hj (S.2.2.2.2 _ hlink) (fun _ h9 => h9) hv hdg kk
theorem gg_putC (S : CallFix p m c cc nL s args TsG own) (hG : gx_K Γ s) (hW : gx_W Γ C M H) (hS : va_S (gA Γ) s.heap H locs) {k ci N : Nat} {fs : List Value} {CC : String} {T : u_T} (hk : k < 475) (he : gx_cc Γ k (C k) (M k) = .inr (ci, fs)) (hc : vwCl[ci]? = some (CC, T, N)) (hin : ∀ w ∈ u_ws CC T N, w ∈ TsG) (ty0 : Nat → FieldType) (hty : ∀ k, k < N → parseFieldDescriptor (T k).2.2.1 = some (ty0 k)) (hnm : ∀ a, a < N → ∀ b, b < N → a ≠ b → (T a).2.1 ≠ (T b).2.1) (j : Nat) (hj : j < N) {index : Nat} (hlink : Cond.fieldLink own index (T j).1 (T j).2.1 (T j).2.2.1 ∈ TsG) (hfin : (T j).2.2.2 = false) (hd : parseFieldDescriptor (T j).2.2.1 = some .int) (hl : j < fs.length) {x : Int32} (he2 : gx_cc Γ k (upd (C k) j x) (M k) = .inr (ci, fs.set j (.int x))) (hdg : decode cc pc = .ok (.putfield index, 3))
    (kk : ∀ (H1 : Heap) (locs1 : List Loc), gx_W Γ (mset C k j x) M H1 → va_S (gA Γ) s.heap H1 locs1 → W p l e R s m args below meth c H1 locs1 cells slots Q (F0 m (pc + 3) ls rest)) : W p l e R s m args below meth c H locs cells slots Q (F0 m pc ls (.int x :: .ref (Γ.1 k) :: rest)) :=
  va_put (D := Γ.2.2.1) (ci := ci) (v := .int x) (ty := .int) (C := CC) (T := T) (N := N) S.1 S.2.1 S.2.2.2.2 hin ty0 hty hnm S.2.2.2.1 hG.1 hW (gx_D C M hG.2.1) hS k (gx_at_c hk he) hc j hj (S.2.2.2.2 _ hlink) (fun _ h9 => h9) hfin hd rfl rfl hl hdg (fun H1 locs1 hP _ hS1 => kk H1 locs1 (by rw [← he2, gx_setC hk] at hP; exact hP) hS1)
/-! rows of numbers -/
theorem ald_c (S : CallFix p m c cc nL s args TsG own) (hG : gx_K Γ s) (hW : gx_W Γ C M H) {k : Nat} (hk : shp k = 2) {i : Int32} (hin : vp_in i 24) (hdg : decode cc pc = .ok (.caload, 1))
    (kk : W p l e R s m args below meth c H locs cells slots Q (F0 m (pc + 1) ls (.int (C k i.toNatClampNeg) :: rest))) : W p l e R s m args below meth c H locs cells slots Q (F0 m pc ls (.int i :: .ref (Γ.1 k) :: rest)) :=
  va_cald (D := Γ.2.2.1) S.1 S.2.1 hG.1 hW k 0 (gx_at_c (sh_lt (by rw [hk]; decide)) (cc_2 hk _ _)) rfl hin hdg kk
theorem ast_c (S : CallFix p m c cc nL s args TsG own) (hG : gx_K Γ s) (hW : gx_W Γ C M H) (hS : va_S (gA Γ) s.heap H locs) {k : Nat} (hk : shp k = 2) {i x : Int32} (hin : vp_in i 24) (hdg : decode cc pc = .ok (.castore, 1))
    (kk : ∀ (H1 : Heap) (locs1 : List Loc), gx_W Γ (mset C k i.toNatClampNeg (vp_nar .char x)) M H1 → va_S (gA Γ) s.heap H1 locs1 → W p l e R s m args below meth c H1 locs1 cells slots Q (F0 m (pc + 1) ls rest)) : W p l e R s m args below meth c H locs cells slots Q (F0 m pc ls (.int x :: .int i :: .ref (Γ.1 k) :: rest)) :=
  va_cast (D := Γ.2.2.1) S.1 S.2.1 hG.1 hW (gx_D C M hG.2.1) hS k 0 (gx_at_c (sh_lt (by rw [hk]; decide)) (cc_2 hk _ _)) rfl hin hdg (fun H1 locs1 hP _ hS1 => kk H1 locs1 (by rw [← cc_2 hk _ (M k), gx_setC (sh_lt (by rw [hk]; decide))] at hP; exact hP) hS1)
theorem ald_i (S : CallFix p m c cc nL s args TsG own) (hG : gx_K Γ s) (hW : gx_W Γ C M H) {k n : Nat} (hk : shp k = 3) (hn : ln k = n) {i : Int32} (hin : vp_in i n) (hdg : decode cc pc = .ok (.iaload, 1))
    (kk : W p l e R s m args below meth c H locs cells slots Q (F0 m (pc + 1) ls (.int (C k i.toNatClampNeg) :: rest))) : W p l e R s m args below meth c H locs cells slots Q (F0 m pc ls (.int i :: .ref (Γ.1 k) :: rest)) :=
  va_iald (D := Γ.2.2.1) S.1 S.2.1 hG.1 hW k 1 (gx_at_c (sh_lt (by rw [hk]; decide)) (cc_3 hk _ _)) rfl (by rw [hn]; exact hin) hdg kk
theorem ast_i (S : CallFix p m c cc nL s args TsG own) (hG : gx_K Γ s) (hW : gx_W Γ C M H) (hS : va_S (gA Γ) s.heap H locs) {k n : Nat} (hk : shp k = 3) (hn : ln k = n) {i x : Int32} (hin : vp_in i n) (hdg : decode cc pc = .ok (.iastore, 1))
    (kk : ∀ (H1 : Heap) (locs1 : List Loc), gx_W Γ (mset C k i.toNatClampNeg x) M H1 → va_S (gA Γ) s.heap H1 locs1 → W p l e R s m args below meth c H1 locs1 cells slots Q (F0 m (pc + 1) ls rest)) : W p l e R s m args below meth c H locs cells slots Q (F0 m pc ls (.int x :: .int i :: .ref (Γ.1 k) :: rest)) :=
  va_iast (D := Γ.2.2.1) S.1 S.2.1 hG.1 hW (gx_D C M hG.2.1) hS k 1 (gx_at_c (sh_lt (by rw [hk]; decide)) (cc_3 hk _ _)) rfl (by rw [hn]; exact hin) hdg (fun H1 locs1 hP _ hS1 => kk H1 locs1 (by rw [← cc_3 hk _ (M k), gx_setC (sh_lt (by rw [hk]; decide))] at hP; exact hP) hS1)
theorem alen_i (S : CallFix p m c cc nL s args TsG own) (hG : gx_K Γ s) (hW : gx_W Γ C M H) {k n : Nat} (hk : shp k = 3) (hn : ln k = n) (hdg : decode cc pc = .ok (.arraylength, 1))
    (kk : W p l e R s m args below meth c H locs cells slots Q (F0 m (pc + 1) ls (.int (nI n) :: rest))) : W p l e R s m args below meth c H locs cells slots Q (F0 m pc ls (.ref (Γ.1 k) :: rest)) :=
  va_alen (D := Γ.2.2.1) S.1 S.2.1 hG.1 hW k 1 (gx_at_c (sh_lt (by rw [hk]; decide)) (cc_3 hk _ _)) rfl (by rw [hn]; rfl) hdg kk
/-! rows of references -/
theorem ald_paths (S : CallFix p m c cc nL s args TsG own) (hG : gx_K Γ s) (hW : gx_W Γ C M H) {i : Int32} (hin : vp_in i 24) (hdg : decode cc pc = .ok (.aaload, 1))
    (kk : W p l e R s m args below meth c H locs cells slots Q (F0 m (pc + 1) ls (.ref (Γ.1 (7 + 2 * i.toNatClampNeg)) :: rest))) : W p l e R s m args below meth c H locs cells slots Q (F0 m pc ls (.int i :: .ref (Γ.1 4) :: rest)) :=
  va_aldq (D := Γ.2.2.1) (C := "Monobuild$Text") S.1 S.2.1 hG.1 hW 4 4 (gx_at_c (k := 4) (by decide) rfl) rfl hin hdg kk
theorem ald_globs (S : CallFix p m c cc nL s args TsG own) (hG : gx_K Γ s) (hW : gx_W Γ C M H) {i : Int32} (hin : vp_in i 16) (hdg : decode cc pc = .ok (.aaload, 1))
    (kk : W p l e R s m args below meth c H locs cells slots Q (F0 m (pc + 1) ls (.ref (Γ.1 (60 + 11 * i.toNatClampNeg)) :: rest))) : W p l e R s m args below meth c H locs cells slots Q (F0 m pc ls (.int i :: .ref (Γ.1 58) :: rest)) :=
  va_aldq (D := Γ.2.2.1) (C := "Monobuild$Globs") S.1 S.2.1 hG.1 hW 58 5 (gx_at_c (k := 58) (by decide) rfl) rfl hin hdg kk
theorem ald_pat (S : CallFix p m c cc nL s args TsG own) (hG : gx_K Γ s) (hW : gx_W Γ C M H) {g : Nat} (hg : shp g = 9) {i : Int32} (hin : vp_in i (ln g)) (hdg : decode cc pc = .ok (.aaload, 1))
    (kk : W p l e R s m args below meth c H locs cells slots Q (F0 m (pc + 1) ls (.ref (Γ.1 (g + 3 + 2 * i.toNatClampNeg)) :: rest))) : W p l e R s m args below meth c H locs cells slots Q (F0 m pc ls (.int i :: .ref (Γ.1 (g + 1)) :: rest)) :=
  va_aldq (D := Γ.2.2.1) (C := "Monobuild$Text") S.1 S.2.1 hG.1 hW (g + 1) 4 (gx_at_c (sh_lt (by rw [sh_g1 hg]; decide)) (cc_10 (sh_g1 hg) _ _)) rfl (by rw [ln_g1 hg]; exact hin) hdg kk
theorem ald_qq {D : va_G} {cl : List vw_C} {tys : List (ClassId × FieldType)} {ws : va_W} (hexec : p.tables.exec = Jvm.exec) (hb : c.code = cc) (hK : va_K D cl tys s) (hP : va_P D cl ws H) (q0 t0 : Nat) {a : Nat} {cA : ClassId} {ty : FieldType} {n : Nat} {f : Nat → Option Nat} (ha : ws[q0]? = some (a, .inl (cA, n, .inr (.inr (.inr (.inr f)))))) (ht : tys[t0]? = some (cA, .array ty)) {i : Int32} (hin : vp_in i n) (hdg : decode cc pc = .ok (.aaload, 1))
    (kk : W p l e R s m args below meth c H locs cells slots Q (F0 m (pc + 1) ls (va_rf (f i.toNatClampNeg) :: rest))) : W p l e R s m args below meth c H locs cells slots Q (F0 m pc ls (.int i :: .ref a :: rest)) := by
  have hlt : i.toNatClampNeg < n := Nat.not_le.mp fun q => hin (Or.inr q)
  exact W.aald (v := va_rf (f i.toNatClampNeg)) (ty := .array ty) hexec hb (hP q0 _ ha) ((hK.2 t0 _ ht).1 n (fun j => va_rf (f j))) rfl (fun q => by cases q) (by show ¬ (i < 0 ∨ (arrV _ _ _).slots.size ≤ _); rw [arrV_size]; exact hin) (by show (arrV _ _ _).slots[_]? = _; rw [arrV_read _ _ hlt]) rfl rfl hdg kk
theorem ald_rows (S : CallFix p m c cc nL s args TsG own) (hG : gx_K Γ s) (hW : gx_W Γ C M H) {i : Int32} (hin : vp_in i 201) (hdg : decode cc pc = .ok (.aaload, 1))
    (kk : W p l e R s m args below meth c H locs cells slots Q (F0 m (pc + 1) ls (.ref (Γ.1 (238 + i.toNatClampNeg)) :: rest))) : W p l e R s m args below meth c H locs cells slots Q (F0 m pc ls (.int i :: .ref (Γ.1 237) :: rest)) :=
  ald_qq (D := Γ.2.2.1) S.1 S.2.1 hG.1 hW 237 6 (gx_at_c (k := 237) (by decide) rfl) rfl hin hdg kk
/-- a row of ints copied upon another one -/
theorem cpy_i (S : CallFix p m c cc nL s args TsG own) (hG : gx_K Γ s) (hW : gx_W Γ C M H) (hS : va_S (gA Γ) s.heap H locs) (hsz : ls.size = nL) {a b na nb : Nat} (ha : shp a = 3) (hna : ln a = na) (hb : shp b = 3) (hnb : ln b = nb) {sp dp n : Int32} (h1 : ¬ sp < 0) (h2 : ¬ dp < 0) (h3 : ¬ n < 0) (h4 : sp.toNatClampNeg + n.toNatClampNeg ≤ na) (h5 : dp.toNatClampNeg + n.toNatClampNeg ≤ nb) {index : Nat} (hlink : Cond.methodLink own index arraycopyName ∈ TsG) (hnat : Cond.native arraycopyName ∈ TsG) (hstat : Cond.static arraycopyName ∈ TsG) (hini : Cond.initialized "java/lang/System" ∈ TsG)
    (hframes : 1 ≤ R.frames) (hlocals : (rest.map fun v => v.category).sum + (nativeFrameWords "java/lang/System" "arraycopy" 5 + 11) ≤ R.locals) (hdg : decode cc pc = .ok (.invokestatic index, 3))
    (kk : ∀ (H1 : Heap) (locs1 : List Loc), gx_W Γ (fun k => if k = b then va_cpy (C a) (C b) sp.toNatClampNeg dp.toNatClampNeg n.toNatClampNeg else C k) M H1 → va_S (gA Γ) s.heap H1 locs1 → W p l e R s m args below meth c H1 locs1 cells slots Q (F0 m (pc + 3) ls rest)) : W p l e R s m args below meth c H locs cells slots Q (F0 m pc ls (.int n :: .int dp :: .ref (Γ.1 b) :: .int sp :: .ref (Γ.1 a) :: rest)) :=
  va_copyi (D := Γ.2.2.1) S.1 S.2.1 (S.2.2.1.trans hsz.symm) S.2.2.2.1 (S.2.2.2.2 _ hlink) (S.2.2.2.2 _ hnat) (S.2.2.2.2 _ hstat) (S.2.2.2.2 _ hini) hG.1 hW (gx_D C M hG.2.1) hS a b 1 1 (gx_at_c (sh_lt (by rw [ha]; decide)) (cc_3 ha _ _)) (gx_at_c (sh_lt (by rw [hb]; decide)) (cc_3 hb _ _)) rfl rfl rfl h1 h2 h3 (by rw [hna]; exact h4) (by rw [hnb]; exact h5) (fun _ _ => rfl) hframes hlocals hdg (fun H1 locs1 hP _ hS1 => kk H1 locs1 (by rw [← cc_3 hb _ (M b), gx_setC (sh_lt (by rw [hb]; decide))] at hP; exact hP) hS1)
/-! a method's body, its ends -/
theorem gm_of {l : Launch} {Γ : gx_G} {C M : Mem} {y : MethodName} {bytes : ByteArray} {maxL : Nat} {ret : Option FieldType} {rm : Room} {av : List Value} {Qc : Array Value → State → Outcome → State → Prop} {mc ms : Nat} {free : Addr → Prop} (hy : plainName y.cls = true) (hsz : (lg_sl av).length ≤ maxL)
    (body : ∀ (p : Program) (e : Env) (s : State) (m : MethodId) (below : List Frame) (meth : Method) (c : Code), CallFix p m c bytes maxL s av.toArray TsG y.cls → meth.locks = false → meth.sig.returnType = ret → gx_K Γ s → ∀ (ls : Array Slot) (H : Heap) (locs : List Loc), lv_has ls maxL (lv_args 0 av) → gx_W Γ C M H → va_S (gA Γ) s.heap H locs → W p l e rm s m av.toArray below meth c H locs 0 0 (MQ below Qc av.toArray s mc ms free) (F0 m 0 ls [])) :
    Met l y (.code y bytes maxL ret :: TsG) rm (va_Pc av (gx_P Γ C M)) Qc mc ms free := by
  refine Met.ofW (cc := bytes) (maxL := maxL) (ret := ret) hy rfl ?_
  intro p e s m args below meth c s₁ B hml hv
  obtain ⟨rfl, hG, hW⟩ := hv
  have hts := atoms_spec (ws := Cond.code y bytes maxL ret :: TsG) B.pre
  rw [lg_entry_eq]
  exact body p e s m below meth c ⟨B.exec, B.bytes, hml, findClass_of_methodNamed B.named, fun w h => hts w (List.mem_cons_of_mem _ h)⟩ B.notSynchronized B.returns hG _ _ _ (lv_entry av hsz) hW va_S.rf
/-- what a method answers: r, a cell, nothing; C', M' behind it -/
def gx_Qi (Γ : gx_G) (r : Int32) (C M : Mem) : Array Value → State → Outcome → State → Prop := va_Qi (S := Unit) (fun r' _ => r' = r) (fun _ t => gx_W Γ C M t.heap) (gA Γ)
def gx_Qv (Γ : gx_G) (C M : Mem) : Array Value → State → Outcome → State → Prop := va_Qv (S := Unit) (fun _ => True) (fun _ t => gx_W Γ C M t.heap) (gA Γ)
def gx_Qr (Γ : gx_G) (k : Nat) (C M : Mem) : Array Value → State → Outcome → State → Prop := va_Qr (S := Unit) (fun _ => True) (fun _ a t => a = Γ.1 k ∧ gx_W Γ C M t.heap) (gA Γ)
theorem gr_i (S : CallFix p m c cc nL s args TsG own) (hlk : meth.locks = false) {ty : FieldType} (hr : meth.sig.returnType = some ty) (hW : gx_W Γ C M H) (hS : va_S (gA Γ) s.heap H locs) {v r : Int32} (hn : narrow ty (.int v) = .int v) (hv : v = r) (hdg : decode cc pc = .ok (.ireturn, 1)) :
    W p l e R s m args below meth c H locs cells slots (MQ below (gx_Qi Γ r C M) args s cells slots (gA Γ)) (F0 m pc ls [.int v]) :=
  W.zret S.1 S.2.1 hr hn (fun t ht _ => ⟨⟨v, (), rfl, hv, by show gx_W Γ C M t.heap; rw [ht]; exact hW⟩, hS.F ht⟩) hS.2.2 hdg hlk
theorem gr_v (S : CallFix p m c cc nL s args TsG own) (hlk : meth.locks = false) (hr : meth.sig.returnType = none) (hW : gx_W Γ C M H) (hS : va_S (gA Γ) s.heap H locs) (hdg : decode cc pc = .ok (.return_, 1)) :
    W p l e R s m args below meth c H locs cells slots (MQ below (gx_Qv Γ C M) args s cells slots (gA Γ)) (F0 m pc ls []) :=
  W.vret S.1 S.2.1 hr (fun t ht _ => ⟨⟨(), rfl, trivial, by show gx_W Γ C M t.heap; rw [ht]; exact hW⟩, hS.F ht⟩) hS.2.2 hdg hlk
theorem gr_r (S : CallFix p m c cc nL s args TsG own) (hlk : meth.locks = false) {ty : FieldType} (hr : meth.sig.returnType = some ty) (hty : (∃ n, ty = .object n) ∨ ∃ t, ty = .array t) (hW : gx_W Γ C M H) (hS : va_S (gA Γ) s.heap H locs) {k k' : Nat} (hk : k = k') (hdg : decode cc pc = .ok (.areturn, 1)) :
    W p l e R s m args below meth c H locs cells slots (MQ below (gx_Qr Γ k' C M) args s cells slots (gA Γ)) (F0 m pc ls [.ref (Γ.1 k)]) :=
  W.aret S.1 S.2.1 hr hty (Or.inr ⟨_, rfl⟩) (fun t ht _ => ⟨⟨(), Γ.1 k, rfl, trivial, by rw [hk], by rw [ht]; exact hW⟩, hS.F ht⟩) hS.2.2 hdg hlk
/-! calls -/
theorem gc_pre {y : MethodName} {As : List Value} (hG : gx_K Γ s) (hW : gx_W Γ C M H) (hS : va_S (gA Γ) s.heap H locs) : PreS s H (va_Pc As (gx_P Γ C M)) As :=
  ⟨gx_P_blind As, fun _ hU hWm => ⟨rfl, gx_K_on hG hS hU hWm, by rw [hU]; exact hW⟩⟩
theorem gc_preV {As : List Value} (hG : gx_K Γ s) (hW : gx_W Γ C M H) (hS : va_S (gA Γ) s.heap H locs) {k ci N : Nat} {fs : List Value} {CC : String} {T : u_T} (hk : k < 475) (he : gx_cc Γ k (C k) (M k) = .inr (ci, fs)) (hc : vwCl[ci]? = some (CC, T, N)) : PreV s H CC (Γ.1 k) (va_Pc (.ref (Γ.1 k) :: As) (gx_P Γ C M)) As :=
  ⟨gx_P_blind _, va_recv hG.1 hW hc (gx_at_c hk he), fun _ hU hWm => ⟨rfl, gx_K_on hG hS hU hWm, by rw [hU]; exact hW⟩⟩
theorem gc_cwV (S : CallFix p m c cc nL s args TsG own) {y : MethodName} {bytes : ByteArray} {maxL n index mc ms : Nat} {ret : Option FieldType} {rm : Room} (pk : PkV y bytes maxL ret n) (ml : Cond.methodLink own index y ∈ TsG) (hrc : rm.cells = mc) (hrs : rm.slots = ms) (hR : rm.frames + 1 ≤ R.frames ∧ 8 + (maxL + 11) + rm.locals ≤ R.locals) :
    CallW R s args own y.cls index y bytes maxL ret (.code y bytes maxL ret :: TsG) rm mc ms n := by
  obtain ⟨⟨h1, h2, h3, h4, h5⟩, h6, h7⟩ := pk
  refine cwV n S.2.2.2.2 (gi_all (fun w hw => ?_) (fun _ h => h)) rfl hrc hrs ⟨rfl, h3, h4, h5⟩ hR
  rcases List.mem_append.mp hw with hw | hw
  · rcases List.mem_cons.mp hw with rfl | hw
    · exact ml
    · rcases List.mem_cons.mp hw with rfl | hw
      · exact h6
      · rcases List.mem_cons.mp hw with rfl | hw
        · exact h7
        · rcases List.mem_cons.mp hw with rfl | hw
          · exact h2
          · cases hw
  · rcases List.mem_cons.mp hw with rfl | hw
    · exact h1
    · exact hw
theorem gc_good {y : MethodName} {bytes : ByteArray} {maxL : Nat} {ret : Option FieldType} (h1 : Cond.code y bytes maxL ret ∈ TsG) : GoodIn TsG (.code y bytes maxL ret :: TsG) :=
  gi_all (fun w hw => by
    rcases List.mem_cons.mp hw with rfl | hw
    · exact h1
    · exact hw) (fun _ h => h)
theorem gc_cwS (S : CallFix p m c cc nL s args TsG own) {y : MethodName} {bytes : ByteArray} {maxL n index mc ms : Nat} {ret : Option FieldType} {rm : Room} (pk : PkS y bytes maxL ret n) (ml : Cond.methodLink own index y ∈ TsG) (hrc : rm.cells = mc) (hrs : rm.slots = ms) (hR : rm.frames + 1 ≤ R.frames ∧ 8 + (maxL + 11) + rm.locals ≤ R.locals) :
    CallB R s args own index y bytes maxL ret (.code y bytes maxL ret :: TsG) rm mc ms n ∧ (Cond.static y).before args s = true := by
  obtain ⟨⟨h1, h2, h3, h4, h5⟩, h6⟩ := pk
  exact ⟨callB_of n S.2.2.2.2 (gc_good h1) rfl hrc hrs (S.2.2.2.2 _ h2) (S.2.2.2.2 _ ml) ⟨h3, h4, h5⟩ hR, S.2.2.2.2 _ h6⟩
theorem gc_cwN (S : CallFix p m c cc nL s args TsG own) (hG : gx_K Γ s) {y : MethodName} {bytes : ByteArray} {maxL n index mc ms : Nat} {ret : Option FieldType} {rm : Room} (pk : PkS y bytes maxL ret n) (ml : (own, index, y) ∈ gx_nst) (hrc : rm.cells = mc) (hrs : rm.slots = ms) (hR : rm.frames + 1 ≤ R.frames ∧ 8 + (maxL + 11) + rm.locals ≤ R.locals) :
    va_CN R s args own index y RX7 bytes maxL ret (.code y bytes maxL ret :: TsG) rm mc ms n ∧ (Cond.static y).before args s = true ∧ True := by
  obtain ⟨⟨h1, h2, h3, h4, h5⟩, h6⟩ := pk
  exact ⟨va_cnB n S.2.2.2.2 (gc_good h1) rfl hrc hrs (hG.2.2.2.2 _ ml) (S.2.2.2.2 _ h2) ⟨h3, h4, h5⟩ hR, S.2.2.2.2 _ h6, trivial⟩
section Calls
variable {y : MethodName} {bytes : ByteArray} {maxL n index mc ms : Nat} {ret : Option FieldType} {rm : Room} {C' M' : Mem} {r : Int32} {As : List Value} {st0 : List Value}
theorem gk_i (hS : va_S (gA Γ) s.heap H locs) {a : Array Value} (hr : va_Run p l e R s m args below meth c H locs cells slots mc ms (F0 m pc ls st0) rest (gx_Qi Γ r C' M' a) (gA Γ))
    (kk : ∀ (H1 : Heap) (locs1 : List Loc), gx_W Γ C' M' H1 → va_S (gA Γ) s.heap H1 locs1 → W p l e R s m args below meth c H1 locs1 (cells + mc) (slots + ms) Q (F0 m (pc + 3) ls (.int r :: rest))) : W p l e R s m args below meth c H locs cells slots Q (F0 m pc ls st0) :=
  va_calli hr hS (fun _ _ h => h) (fun _ h => h) (fun r' _ t H1 locs1 ht _ hp hb _ _ hS1 => by subst hp; exact kk H1 locs1 (by rw [← ht]; exact hb) hS1)
theorem gk_v (hS : va_S (gA Γ) s.heap H locs) {a : Array Value} (hr : va_Run p l e R s m args below meth c H locs cells slots mc ms (F0 m pc ls st0) rest (gx_Qv Γ C' M' a) (gA Γ))
    (kk : ∀ (H1 : Heap) (locs1 : List Loc), gx_W Γ C' M' H1 → va_S (gA Γ) s.heap H1 locs1 → W p l e R s m args below meth c H1 locs1 (cells + mc) (slots + ms) Q (F0 m (pc + 3) ls rest)) : W p l e R s m args below meth c H locs cells slots Q (F0 m pc ls st0) :=
  va_callv hr hS (fun _ _ h => h) (fun _ h => h) (fun _ t H1 locs1 ht _ _ hb _ _ hS1 => kk H1 locs1 (by rw [← ht]; exact hb) hS1)
theorem gk_r (hS : va_S (gA Γ) s.heap H locs) {k : Nat} {a : Array Value} (hr : va_Run p l e R s m args below meth c H locs cells slots mc ms (F0 m pc ls st0) rest (gx_Qr Γ k C' M' a) (gA Γ))
    (kk : ∀ (H1 : Heap) (locs1 : List Loc), gx_W Γ C' M' H1 → va_S (gA Γ) s.heap H1 locs1 → W p l e R s m args below meth c H1 locs1 (cells + mc) (slots + ms) Q (F0 m (pc + 3) ls (.ref (Γ.1 k) :: rest))) : W p l e R s m args below meth c H locs cells slots Q (F0 m pc ls st0) :=
  va_callr hr hS (fun _ _ h => h) (fun _ h => h) (fun _ ra t H1 locs1 ht _ _ hb _ _ hS1 => by obtain ⟨e1, e2⟩ := hb; subst e1; exact kk H1 locs1 (by rw [← ht]; exact e2) hS1)
variable {Qc : Array Value → State → Outcome → State → Prop}
theorem gv_run (S : CallFix p m c cc nL s args TsG own) (hG : gx_K Γ s) (hW : gx_W Γ C M H) (hS : va_S (gA Γ) s.heap H locs) {k ci N : Nat} {fs : List Value} {T : u_T} (As : List Value) (hM : Met l y (.code y bytes maxL ret :: TsG) rm (va_Pc (.ref (Γ.1 k) :: As) (gx_P Γ C M)) Qc mc ms (gA Γ)) (pk : PkV y bytes maxL ret n) (ml : Cond.methodLink own index y ∈ TsG)
    (hk : k < 475) (he : gx_cc Γ k (C k) (M k) = .inr (ci, fs)) (hc : vwCl[ci]? = some (y.cls, T, N)) (hrc : rm.cells = mc) (hrs : rm.slots = ms) (hR : rm.frames + 1 ≤ R.frames ∧ 8 + (maxL + 11) + rm.locals ≤ R.locals) (hn : As.length = n) (hsz : ls.size = nL) (hst : st0 = As.reverse ++ .ref (Γ.1 k) :: rest) (hroom : (rest.map fun v => v.category).sum ≤ 8) (hdg : decode cc pc = .ok (.invokevirtual index, 3)) (hf : cells + mc ≤ R.cells ∧ slots + ms ≤ R.slots) :
    va_Run p l e R s m args below meth c H locs cells slots mc ms (F0 m pc ls st0) rest (Qc (Value.ref (Γ.1 k) :: As).toArray) (gA Γ) :=
  va_runV (As := As) (rest := rest) S hM (gc_cwV S pk ml hrc hrs hR) (gc_preV hG hW hS hk he hc) rfl hn hsz hst (lv_room hroom) hdg hf
theorem gs_run (S : CallFix p m c cc nL s args TsG own) (hG : gx_K Γ s) (hW : gx_W Γ C M H) (hS : va_S (gA Γ) s.heap H locs) (As : List Value) (hM : Met l y (.code y bytes maxL ret :: TsG) rm (va_Pc As (gx_P Γ C M)) Qc mc ms (gA Γ)) (pk : PkS y bytes maxL ret n) (ml : Cond.methodLink own index y ∈ TsG)
    (hrc : rm.cells = mc) (hrs : rm.slots = ms) (hR : rm.frames + 1 ≤ R.frames ∧ 8 + (maxL + 11) + rm.locals ≤ R.locals) (hn : As.length = n) (hsz : ls.size = nL) (hst : st0 = As.reverse ++ rest) (hroom : (rest.map fun v => v.category).sum ≤ 8) (hdg : decode cc pc = .ok (.invokestatic index, 3)) (hf : cells + mc ≤ R.cells ∧ slots + ms ≤ R.slots) :
    va_Run p l e R s m args below meth c H locs cells slots mc ms (F0 m pc ls st0) rest (Qc As.toArray) (gA Γ) :=
  va_runS (As := As) (rest := rest) S hM (gc_cwS S pk ml hrc hrs hR) (gc_pre (y := y) hG hW hS) rfl hn hsz hst (lv_room hroom) hdg hf
theorem gn_run (S : CallFix p m c cc nL s args TsG own) (hG : gx_K Γ s) (hW : gx_W Γ C M H) (hS : va_S (gA Γ) s.heap H locs) (As : List Value) (hM : Met l y (.code y bytes maxL ret :: TsG) rm (va_Pc As (gx_P Γ C M)) Qc mc ms (gA Γ)) (pk : PkS y bytes maxL ret n) (ml : (own, index, y) ∈ gx_nst)
    (hrc : rm.cells = mc) (hrs : rm.slots = ms) (hR : rm.frames + 1 ≤ R.frames ∧ 8 + (maxL + 11) + rm.locals ≤ R.locals) (hn : As.length = n) (hsz : ls.size = nL) (hst : st0 = As.reverse ++ rest) (hroom : (rest.map fun v => v.category).sum ≤ 8) (hdg : decode cc pc = .ok (.invokestatic index, 3)) (hf : cells + mc ≤ R.cells ∧ slots + ms ≤ R.slots) :
    va_Run p l e R s m args below meth c H locs cells slots mc ms (F0 m pc ls st0) rest (Qc As.toArray) (gA Γ) :=
  va_runSN (As := As) (rest := rest) S hM (gc_cwN S hG pk ml hrc hrs hR) (gc_pre (y := y) hG hW hS) rfl hn hsz hst (lv_room hroom) hdg hf
end Calls
end GR
