/-! rows of constructors, the list's shape told by equations -/
theorem own_at {Lc own : List va_E} {n0 j : Nat} {x : va_E} (hn : Lc.length = n0) (h : own[j]? = some x) : (Lc ++ own)[n0 + j]? = some x := by
  rw [← hn, List.getElem?_append_right (by omega), Nat.add_sub_cancel_left]
  exact h
theorem own_set {Lc own : List va_E} {n0 : Nat} (hn : Lc.length = n0) (j : Nat) (x : va_E) : (Lc ++ own).set (n0 + j) x = Lc ++ own.set j x := by
  rw [← hn, List.set_append_right _ _ (by omega), Nat.add_sub_cancel_left]
theorem seg_at {Γ : gx_G} {a n j : Nat} (h : j < n) : (seg Γ a n)[j]? = some (fin Γ (a + j)) := by simp [seg, h]
theorem fin_1 {Γ : gx_G} {k : Nat} (h : shp k = 1) : fin Γ k = .inr (6, [.ref (Γ.1 (k + 1)), .int 0]) := by
  unfold fin
  rw [cc_1 h]
  simp [C0m]
theorem fin_2 {Γ : gx_G} {k : Nat} (h : shp k = 2) : fin Γ k = .inl (Γ.2.1 0, 24, .inl (fun _ => 0)) := by
  unfold fin
  rw [cc_2 h]
  have : C0m k = fun _ => 0 := by funext j; simp [C0m, h]
  rw [this]
theorem fin_3 {Γ : gx_G} {k : Nat} (h : shp k = 3) : fin Γ k = .inl (Γ.2.1 1, ln k, .inl (fun _ => 0)) := by
  unfold fin
  rw [cc_3 h]
  have : C0m k = fun _ => 0 := by funext j; simp [C0m, h]
  rw [this]
theorem fin_9 {Γ : gx_G} {k : Nat} (h : shp k = 9) : fin Γ k = .inr (1, [.ref (Γ.1 (k + 1)), .ref (Γ.1 (k + 2)), .int (nI (ln k)), .int 0]) := by
  unfold fin
  rw [cc_9 h]
  simp [C0m, h]
theorem fin_10 {Γ : gx_G} {k : Nat} (h : shp k = 10) : fin Γ k = .inl (Γ.2.1 4, ln k, .inr (.inr (.inr (.inr (fun i => some (Γ.1 (k + 2 + 2 * i))))))) := by
  unfold fin
  rw [cc_10 h]
/-- a row of references filled so far -/
def rfs (f : Nat → Nat) (i : Nat) : Nat → Option Nat := fun j => if j < i then some (f j) else none
theorem rfs_0 (f : Nat → Nat) : rfs f 0 = fun _ => none := by funext j; simp [rfs]
theorem rfs_s (f : Nat → Nat) (i : Nat) : va_up (rfs f i) i (some (f i)) = rfs f (i + 1) := by
  funext j
  unfold va_up rfs
  by_cases h : j = i
  · subst h
    simp
  · by_cases h2 : j < i
    · simp [h, h2, Nat.lt_succ_of_lt h2]
    · simp [h, h2, show ¬ j < i + 1 by omega]
section CT2
variable {p : Program} {l : Launch} {e : Env} {R : Room} {s : State} {m : MethodId} {args : Array Value} {below : List Frame} {meth : Method} {c : Code} {H : Heap} {locs : List Loc} {cells slots : Nat} {Q : State → Prop}
variable {cc : ByteArray} {nL pc : Nat} {ls : Array Slot} {rest st0 : List Value} {Γ : gx_G} {Lc L2 : List va_E} {own : String} {mc ms a : Nat}
theorem cr_new (S : CallFix p m c cc nL s args TsG own) (hG : gx_K Γ s) (hW : cW Γ Lc H) (hS : va_S (gA Γ) s.heap H locs) {ci N index : Nat} {CC : String} {T : u_T} {ty : Nat → FieldType} (hc : vwCl[ci]? = some (CC, T, N)) (hin : ∀ w ∈ u_ws CC T N, w ∈ TsG) (hty : ∀ k, k < N → parseFieldDescriptor (T k).2.2.1 = some (ty k)) (hcl : Cond.classLink own index CC ∈ TsG) (hinst : Cond.instantiable CC N ∈ TsG) (hini : Cond.initialized CC ∈ TsG) {fs : List Value} (hfs : ∀ j, j < N → defaultValue (ty j) = vp_V fs j) (hcells : cells + 1 ≤ R.cells) (hslots : slots + N ≤ R.slots) (hdg : decode cc pc = .ok (.new index, 3)) (ha : Γ.2.2.2 + Lc.length = a) (hL2 : Lc ++ [.inr (ci, fs)] = L2)
    (kk : ∀ H1 : Heap, cW Γ L2 H1 → va_S (gA Γ) s.heap H1 locs → W p l e R s m args below meth c H1 locs (cells + 1) (slots + N) Q (F0 m (pc + 3) ls (.ref a :: rest))) : W p l e R s m args below meth c H locs cells slots Q (F0 m pc ls rest) := by
  subst ha
  subst hL2
  exact cn_new S hG hW hS hc hin hty hcl hinst hini hfs hcells hslots hdg kk
theorem cr_newa (S : CallFix p m c cc nL s args TsG own) (hG : gx_K Γ s) (hW : cW Γ Lc H) (hS : va_S (gA Γ) s.heap H locs) {atype : ArrayType} {ty : FieldType} (hty : newarray.typeOf atype = ty) (harr : Cond.arrayClass ty ∈ TsG) {i : Nat} {ca : ClassId} (hi : (gx_tys Γ)[i]? = some (ca, ty)) (hRA : ∀ x, va_RA s x ty → s.vm.findClass ("[" ++ ty.toString) = some x) {n : Int32} {N' : Nat} {a0 : vp_A} (ha0 : ∀ cA : ClassId, vp_cell cA a0 = arrV cA N' (fun _ => defaultValue ty)) (hn : ¬ n < 0) (hN : n.toNatClampNeg = N') (hbytes : N' * componentBytes ty ≤ 536870912) (hcells : cells + 1 ≤ R.cells) (hslots : slots + N' ≤ R.slots) (hdg : decode cc pc = .ok (.newarray atype, 2)) (ha : Γ.2.2.2 + Lc.length = a) (hL2 : Lc ++ [.inl (ca, a0)] = L2)
    (kk : ∀ H1 : Heap, cW Γ L2 H1 → va_S (gA Γ) s.heap H1 locs → W p l e R s m args below meth c H1 locs (cells + 1) (slots + N') Q (F0 m (pc + 2) ls (.ref a :: rest))) : W p l e R s m args below meth c H locs cells slots Q (F0 m pc ls (.int n :: rest)) := by
  subst ha
  subst hL2
  exact cn_newa S hG hW hS hty harr hi hRA ha0 hn hN hbytes hcells hslots hdg kk
theorem cr_newq (S : CallFix p m c cc nL s args TsG own) (hG : gx_K Γ s) (hW : cW Γ Lc H) (hS : va_S (gA Γ) s.heap H locs) {C : String} {index i : Nat} {ca : ClassId} (hcl : Cond.classLink own index C ∈ TsG) (hover : va_AO C s) (hi : (gx_tys Γ)[i]? = some (ca, .object C)) {n : Int32} {N' : Nat} (hn : ¬ n < 0) (hN : n.toNatClampNeg = N') (hbytes : N' * 4 ≤ 536870912) (hcells : cells + 1 ≤ R.cells) (hslots : slots + N' ≤ R.slots) (hdg : decode cc pc = .ok (.anewarray index, 3)) (ha : Γ.2.2.2 + Lc.length = a) (f : Nat → Nat) (hL2 : Lc ++ [.inl (ca, N', .inr (.inr (.inr (.inr (rfs f 0)))))] = L2)
    (kk : ∀ H1 : Heap, cW Γ L2 H1 → va_S (gA Γ) s.heap H1 locs → W p l e R s m args below meth c H1 locs (cells + 1) (slots + N') Q (F0 m (pc + 3) ls (.ref a :: rest))) : W p l e R s m args below meth c H locs cells slots Q (F0 m pc ls (.int n :: rest)) := by
  subst ha
  subst hL2
  rw [rfs_0] at kk
  exact cn_newq S hG hW hS hcl hover hi hn hN hbytes hcells hslots hdg kk
theorem cr_mna (S : CallFix p m c cc nL s args TsG own) (hG : gx_K Γ s) (hW : cW Γ Lc H) (hS : va_S (gA Γ) s.heap H locs) {index : Nat} (hcl : Cond.classLink own index "[[I" ∈ TsG) (hover : va_AOA .int s) (harr : Cond.arrayClass .int ∈ TsG) {n k : Int32} {N' K' : Nat} (hn : ¬ n < 0) (hk : ¬ k < 0) (hN : n.toNatClampNeg = N') (hM : k.toNatClampNeg = K')
    (hb1 : N' * 4 ≤ 536870912) (hb2 : K' * componentBytes .int ≤ 536870912) (hb3 : K' ≤ 536870912) (hcells : cells + (1 + N') ≤ R.cells) (hslots : slots + (N' + N' * K') ≤ R.slots) (hdg : decode cc pc = .ok (.multianewarray index 2, 4)) (ha : Γ.2.2.2 + Lc.length = a) (hL2 : (Lc ++ [.inl (Γ.2.1 6, N', .inr (.inr (.inr (.inr (fun i => if i < N' then some (Γ.2.2.2 + (Lc.length + 1 + i)) else none)))))]) ++ List.replicate N' (.inl (Γ.2.1 1, K', .inl (fun _ => 0))) = L2)
    (kk : ∀ H1 : Heap, cW Γ L2 H1 → va_S (gA Γ) s.heap H1 locs → W p l e R s m args below meth c H1 locs (cells + 1 + N') (slots + N' + N' * K') Q (F0 m (pc + 4) ls (.ref a :: rest))) : W p l e R s m args below meth c H locs cells slots Q (F0 m pc ls (.int k :: .int n :: rest)) := by
  subst ha
  subst hL2
  exact cn_mna S hG hW hS hcl hover harr hn hk hN hM hb1 hb2 hb3 hcells hslots hdg kk
theorem cr_get (S : CallFix p m c cc nL s args TsG own) (hG : gx_K Γ s) (hW : cW Γ Lc H) {j ci N : Nat} {fs : List Value} {CC : String} {T : u_T} (he : Lc[j]? = some (.inr (ci, fs))) (hc : vwCl[ci]? = some (CC, T, N)) (hin : ∀ w ∈ u_ws CC T N, w ∈ TsG) (k : Nat) (hk : k < N) {index : Nat} (hlink : Cond.fieldLink own index (T k).1 (T k).2.1 (T k).2.2.1 ∈ TsG) {v : Value} (hv : fs[k]? = some v) (hdg : decode cc pc = .ok (.getfield index, 3)) (ha : a = Γ.2.2.2 + j)
    (kk : W p l e R s m args below meth c H locs cells slots Q (F0 m (pc + 3) ls (v :: rest))) : W p l e R s m args below meth c H locs cells slots Q (F0 m pc ls (.ref a :: rest)) := by
  subst ha
  exact va_get (D := Γ.2.2.1) (ci := ci) (v := v) (C := CC) (T := T) (N := N) S.1 S.2.1 S.2.2.2.2 hin S.2.2.2.1 hG.1 hW.2 j (cws_at he) hc k hk (S.2.2.2.2 _ hlink) (fun _ h9 => h9) hv hdg kk
theorem cr_obj (S : CallFix p m c cc nL s args TsG own) (hsz : ls.size = nL) {index : Nat} (hlink : Cond.methodLink own index Lib.objectInit ∈ TsG) (hdg : decode cc pc = .ok (.invokespecial index, 3)) (hframes : 1 ≤ R.frames) (hlocals : (rest.map fun v => v.category).sum + 12 ≤ R.locals)
    (kk : W p l e R s m args below meth c H locs cells slots Q (F0 m (pc + 3) ls rest)) : W p l e R s m args below meth c H locs cells slots Q (F0 m pc ls (.ref a :: rest)) :=
  W.objInit S.1 S.2.1 S.2.2.2.1 (S.2.2.2.2 _ hlink) (S.2.2.2.2 _ (TsG_t (w := .instanceMethod Lib.objectInit) (List.mem_of_getElem? (i := 28) (by decide +kernel)) (by decide +kernel))) (S.2.2.2.2 _ (TsG_t (w := .code Lib.objectInit ⟨#[0xb1]⟩ 1 none) (List.mem_of_getElem? (i := 29) (by decide +kernel)) (by decide +kernel))) rfl (by show ls.size = _; rw [hsz, S.2.2.1]) rfl hdg hframes (by show 2 * 0 + _ + 12 ≤ _; omega) kk
end CT2
