/-! WHILE THE OBJECTS ARE MADE: the cells lie one behind another from b on, in the order of their numbers; a list says what they hold so far -/
theorem idx_bare2 (vm : Vm) (comp : ClassId) : (vm.bare.classes.findIdx? fun (x : Class) => match x.kind with | .array component _ => component == comp | _ => false) = (vm.classes.findIdx? fun (x : Class) => match x.kind with | .array component _ => component == comp | _ => false) := by
  simp only [Vm.bare, Array.findIdx?_map]
  rfl
theorem va_AOA_moved {t : FieldType} {u U : State} (hvm : u.vm.Alike U.vm) (h : va_AOA t u) : va_AOA t U := by
  obtain ⟨comp, c, k, h1, h2, h3, h4, h5⟩ := arrayOverA_spec h
  obtain ⟨k', hk', he⟩ := hvm.2.2 _ _ h3
  have hi : (U.vm.classes.findIdx? fun (x : Class) => match x.kind with | .array component _ => component == comp | _ => false) = some c := by
    rw [← idx_bare2]
    first | rw [hvm.bare_eq] | rw [← hvm.bare_eq]
    rw [idx_bare2]
    exact h2
  have hkind : k'.kind = .array comp (.array t) := by rw [he]; exact h4
  have f1 : U.vm.findClass (FieldType.array t).toString = some comp := by rw [hvm.findClass]; exact h1
  have f2 : U.vm.findClass ("[" ++ (FieldType.array t).toString) = some c := by rw [hvm.findClass]; exact h5
  unfold va_AOA Cond.before Cond.holds
  simp only [Cond.value]
  rw [f1, Option.bind_some]
  refine (congrArg (fun o : Option Nat => (o.bind (fun c => (U.vm.classes[c]?).map fun (k : Class) => match k.kind with | .array _ ty => decide (ty = FieldType.array t) && decide (U.vm.findClass ("[" ++ (FieldType.array t).toString) = some c) | _ => false) == some true)) hi).trans ?_
  simp [hk', hkind, f2]
abbrev gB (b : Nat) (ca : Nat → ClassId) (D : va_G) : gx_G := (fun k => b + k, ca, D, b)
def C0m : Mem := fun k j => if shp k = 9 ∧ j = 2 then nI (ln k) else 0
def M0m : Mem := fun _ _ => 0
def fin (Γ : gx_G) (k : Nat) : va_E := gx_cc Γ k (C0m k) (M0m k)
def seg (Γ : gx_G) (a n : Nat) : List va_E := (List.range n).map (fun i => fin Γ (a + i))
theorem seg_len (Γ : gx_G) (a n : Nat) : (seg Γ a n).length = n := by simp [seg]
theorem seg_0 (Γ : gx_G) (a : Nat) : seg Γ a 0 = [] := rfl
theorem seg_s (Γ : gx_G) (a n : Nat) : seg Γ a (n + 1) = seg Γ a n ++ [fin Γ (a + n)] := by simp [seg, List.range_succ]
theorem seg_app (Γ : gx_G) (a n k : Nat) : seg Γ a (n + k) = seg Γ a n ++ seg Γ (a + n) k := by
  induction k with
  | zero => simp [seg]
  | succ k ih => rw [← Nat.add_assoc, seg_s, ih, seg_s, List.append_assoc, Nat.add_assoc]
def cws (b : Nat) (Lc : List va_E) : va_W := Lc.mapIdx (fun j e => (b + j, e))
def cW (Γ : gx_G) (Lc : List va_E) (H : Heap) : Prop := H.size = Γ.2.2.2 + Lc.length ∧ va_P Γ.2.2.1 vwCl (cws Γ.2.2.2 Lc) H
theorem cws_at {b j : Nat} {Lc : List va_E} {e : va_E} (h : Lc[j]? = some e) : (cws b Lc)[j]? = some (b + j, e) := by simp [cws, h]
theorem cws_app (b : Nat) (Lc : List va_E) (e : va_E) : cws b (Lc ++ [e]) = cws b Lc ++ [(b + Lc.length, e)] := by simp [cws]
theorem cws_len (b : Nat) (Lc : List va_E) : (cws b Lc).length = Lc.length := by simp [cws]
theorem cws_set (b j : Nat) (Lc : List va_E) (e : va_E) : (cws b Lc).set j (b + j, e) = cws b (Lc.set j e) := by
  apply List.ext_getElem?
  intro i
  rw [List.getElem?_set]
  simp only [cws, List.getElem?_mapIdx, List.getElem?_set, List.length_mapIdx]
  by_cases h : j = i
  · subst h
    by_cases hl : j < Lc.length
    · simp [hl]
    · simp [hl]
  · simp [h]
theorem cws_D {A : Nat → Prop} {b : Nat} (Lc : List va_E) (h : ∀ q, b ≤ q → A q) : va_D A (cws b Lc) := by
  have key : ∀ (k : Nat) (q : Nat × va_E), (cws b Lc)[k]? = some q → q.1 = b + k := by
    intro k q hq
    simp only [cws, List.getElem?_mapIdx, Option.map_eq_some_iff] at hq
    obtain ⟨e, -, rfl⟩ := hq
    rfl
  refine ⟨fun i j p q hp hq hpq => ?_, fun k q hq => h _ (by rw [key k q hq]; omega)⟩
  have h1 := key i p hp
  have h2 := key j q hq
  omega
theorem cW_put {Γ : gx_G} {Lc : List va_E} {H H1 : Heap} {j : Nat} {e : va_E} (h : cW Γ Lc H) (hP : va_P Γ.2.2.1 vwCl ((cws Γ.2.2.2 Lc).set j (Γ.2.2.2 + j, e)) H1) (hz : H1.size = H.size) : cW Γ (Lc.set j e) H1 :=
  ⟨by rw [hz, h.1, List.length_set], by rw [← cws_set]; exact hP⟩
theorem cW_eq {Γ : gx_G} {L1 L2 : List va_E} {H : Heap} (h : cW Γ L1 H) (e : L1 = L2) : cW Γ L2 H := e ▸ h
theorem arrV_cg {cI : ClassId} {N : Nat} {f g : Nat → Value} (h : ∀ j, j < N → f j = g j) : arrV cI N f = arrV cI N g := by
  unfold arrV
  congr 1
  exact congrArg Array.ofFn (funext fun j => h j.val j.isLt)
/-- a row of references, as far as it goes -/
theorem cW_cg {Γ : gx_G} {Lc : List va_E} {H : Heap} {j n : Nat} {cA : ClassId} {f g : Nat → Option Nat} (h : cW Γ Lc H) (hj : Lc[j]? = some (.inl (cA, n, .inr (.inr (.inr (.inr f)))))) (hfg : ∀ i, i < n → f i = g i) : cW Γ (Lc.set j (.inl (cA, n, .inr (.inr (.inr (.inr g)))))) H := by
  refine ⟨by rw [List.length_set]; exact h.1, fun k q hq => ?_⟩
  rw [← cws_set, List.getElem?_set] at hq
  by_cases e : j = k
  · subst e
    have hjl : j < (cws Γ.2.2.2 Lc).length := (List.getElem?_eq_some_iff.mp (cws_at (b := Γ.2.2.2) hj)).1
    rw [if_pos rfl, if_pos hjl] at hq
    cases hq
    have h1 := h.2 j _ (cws_at hj)
    show H[Γ.2.2.2 + j]? = some (vp_cell _ _)
    have h2 : H[Γ.2.2.2 + j]? = some (vp_cell cA (n, .inr (.inr (.inr (.inr f))))) := h1
    rw [h2, vp_cell_q, vp_cell_q]
    exact congrArg some (arrV_cg fun i hi => by rw [hfg i hi])
  · rw [if_neg e] at hq
    exact h.2 k q hq
def cX (U : State) : Prop := va_AO "Monobuild$Text" U ∧ va_AO "Monobuild$Globs" U ∧ va_AOA .int U
theorem cX.moved {u U : State} (hvm : u.vm.Alike U.vm) (h : cX u) : cX U := ⟨h.1.moved hvm, h.2.1.moved hvm, va_AOA_moved hvm h.2.2⟩
def cP (Γ : gx_G) (Lc : List va_E) (U : State) : Prop := gx_K Γ U ∧ cX U ∧ cW Γ Lc U.heap
def cQ (Γ : gx_G) (Lc : List va_E) : Array Value → State → Outcome → State → Prop := va_Qv (S := Unit) (fun _ => True) (fun _ t => cW Γ Lc t.heap) (gA Γ)
theorem cP_blind {Γ : gx_G} {Lc : List va_E} (av : List Value) : FrameBlind (va_Pc av (cP Γ Lc)) := fun _ U g mk h => ⟨h.1, gx_K_blind h.2.1, cX.moved (u := U) (U := U.calling g mk _) (Vm.Alike.refl U.vm) h.2.2.1, h.2.2.2⟩
section CT
variable {p : Program} {l : Launch} {e : Env} {R : Room} {s : State} {m : MethodId} {args : Array Value} {below : List Frame} {meth : Method} {c : Code} {H : Heap} {locs : List Loc} {cells slots : Nat} {Q : State → Prop}
variable {cc : ByteArray} {nL pc : Nat} {ls : Array Slot} {rest st0 : List Value} {Γ : gx_G} {Lc Lc' : List va_E} {own : String} {mc ms : Nat}
theorem cn_S (hS : va_S (gA Γ) s.heap H locs) {H1 : Heap} (hz : H.size ≤ H1.size) (ho : ∀ q, q < H.size → H1[q]? = H[q]?) : va_S (gA Γ) s.heap H1 locs :=
  ⟨Nat.le_trans hS.1 hz, fun x h1 h2 => (ho x (Nat.lt_of_lt_of_le h1 hS.1)).trans (hS.2.1 x h1 h2), hS.2.2⟩
theorem cn_push {H1 : Heap} {x : va_E} (h : cW Γ Lc H) (hz : H1.size = H.size + 1) (ho : ∀ q, q < H.size → H1[q]? = H[q]?) (hx : va_at Γ.2.2.1 vwCl (H.size, x) H1) : cW Γ (Lc ++ [x]) H1 := by
  refine ⟨by rw [hz, h.1, List.length_append]; rfl, ?_⟩
  rw [cws_app, ← h.1]
  refine va_P.app (h.2.kept fun k q hk => ho _ (h.2 k q hk).lt) (fun k q hk => ?_)
  have hz : k < 1 := (List.getElem?_eq_some_iff.mp hk).1
  rw [show k = 0 by omega] at hk
  cases hk
  exact hx
theorem cn_new (S : CallFix p m c cc nL s args TsG own) (hG : gx_K Γ s) (hW : cW Γ Lc H) (hS : va_S (gA Γ) s.heap H locs) {ci N index : Nat} {CC : String} {T : u_T} {ty : Nat → FieldType} (hc : vwCl[ci]? = some (CC, T, N)) (hin : ∀ w ∈ u_ws CC T N, w ∈ TsG) (hty : ∀ k, k < N → parseFieldDescriptor (T k).2.2.1 = some (ty k)) (hcl : Cond.classLink own index CC ∈ TsG) (hinst : Cond.instantiable CC N ∈ TsG) (hini : Cond.initialized CC ∈ TsG) {fs : List Value} (hfs : ∀ j, j < N → defaultValue (ty j) = vp_V fs j) (hcells : cells + 1 ≤ R.cells) (hslots : slots + N ≤ R.slots) (hdg : decode cc pc = .ok (.new index, 3))
    (kk : ∀ H1 : Heap, cW Γ (Lc ++ [.inr (ci, fs)]) H1 → va_S (gA Γ) s.heap H1 locs → W p l e R s m args below meth c H1 locs (cells + 1) (slots + N) Q (F0 m (pc + 3) ls (.ref (Γ.2.2.2 + Lc.length) :: rest))) : W p l e R s m args below meth c H locs cells slots Q (F0 m pc ls rest) := by
  have hKn := hG.1.1 ci _ hc
  refine W.newcK S.1 S.2.1 S.2.2.2.1 (S.2.2.2.2 _ hcl) (S.2.2.2.2 _ hinst) (S.2.2.2.2 _ hini) rfl hdg hcells hslots hKn.2.1 hW.1 fun H1 kC hkC e1 z1 o1 => ?_
  rw [← hW.1] at e1 z1 o1
  exact kk H1 (cn_push hW z1 o1 ⟨_, hc, (u_born ty S.2.2.2.2 hin hKn hkC e1 hty).to hfs⟩) (cn_S hS (by omega) o1)
theorem cn_newa (S : CallFix p m c cc nL s args TsG own) (hG : gx_K Γ s) (hW : cW Γ Lc H) (hS : va_S (gA Γ) s.heap H locs) {atype : ArrayType} {ty : FieldType} (hty : newarray.typeOf atype = ty) (harr : Cond.arrayClass ty ∈ TsG) {i : Nat} {ca : ClassId} (hi : (gx_tys Γ)[i]? = some (ca, ty)) (hRA : ∀ x, va_RA s x ty → s.vm.findClass ("[" ++ ty.toString) = some x) {n : Int32} {N' : Nat} {a0 : vp_A} (ha : ∀ cA : ClassId, vp_cell cA a0 = arrV cA N' (fun _ => defaultValue ty)) (hn : ¬ n < 0) (hN : n.toNatClampNeg = N') (hbytes : N' * componentBytes ty ≤ 536870912) (hcells : cells + 1 ≤ R.cells) (hslots : slots + N' ≤ R.slots) (hdg : decode cc pc = .ok (.newarray atype, 2))
    (kk : ∀ H1 : Heap, cW Γ (Lc ++ [.inl (ca, a0)]) H1 → va_S (gA Γ) s.heap H1 locs → W p l e R s m args below meth c H1 locs (cells + 1) (slots + N') Q (F0 m (pc + 2) ls (.ref (Γ.2.2.2 + Lc.length) :: rest))) : W p l e R s m args below meth c H locs cells slots Q (F0 m pc ls (.int n :: rest)) := by
  subst hty
  refine va_newaK S.1 S.2.1 (S.2.2.2.2 _ harr) rfl hdg rfl hn hN hbytes hcells hslots hW.1 fun H1 cA e1 z1 o1 _ hNm => ?_
  have hc2 := hRA _ (hG.1.2 i _ hi).2
  have : cA = ca := Option.some.inj (hNm.symm.trans hc2)
  subst this
  rw [← hW.1] at e1 z1 o1
  refine kk H1 (cn_push hW z1 o1 ?_) (cn_S hS (by omega) o1)
  show H1[H.size]? = some (vp_cell _ _)
  rw [ha]
  exact e1
theorem cn_newq (S : CallFix p m c cc nL s args TsG own) (hG : gx_K Γ s) (hW : cW Γ Lc H) (hS : va_S (gA Γ) s.heap H locs) {C : String} {index i : Nat} {ca : ClassId} (hcl : Cond.classLink own index C ∈ TsG) (hover : va_AO C s) (hi : (gx_tys Γ)[i]? = some (ca, .object C)) {n : Int32} {N' : Nat} (hn : ¬ n < 0) (hN : n.toNatClampNeg = N') (hbytes : N' * 4 ≤ 536870912) (hcells : cells + 1 ≤ R.cells) (hslots : slots + N' ≤ R.slots) (hdg : decode cc pc = .ok (.anewarray index, 3))
    (kk : ∀ H1 : Heap, cW Γ (Lc ++ [.inl (ca, N', .inr (.inr (.inr (.inr (fun _ => none)))))]) H1 → va_S (gA Γ) s.heap H1 locs → W p l e R s m args below meth c H1 locs (cells + 1) (slots + N') Q (F0 m (pc + 3) ls (.ref (Γ.2.2.2 + Lc.length) :: rest))) : W p l e R s m args below meth c H locs cells slots Q (F0 m pc ls (.int n :: rest)) := by
  subst hN
  refine W.anew S.1 S.2.1 S.2.2.2.1 (S.2.2.2.2 _ hcl) (va_AO.use hover) rfl hdg rfl hn hbytes hcells hslots fun cA kA comp f1 f2 f3 f4 => ?_
  obtain ⟨kA', comp', -, -, -, g4⟩ := (hG.1.2 i _ hi).2
  have : cA = ca := Option.some.inj (f1.symm.trans g4)
  subst this
  generalize hH1 : H.push ({ cls := cA, slots := Array.replicate n.toNatClampNeg .null, vm := .none } : Cell) = H1
  have z1 : H1.size = H.size + 1 := by rw [← hH1, Array.size_push]
  have e1 : H1[H.size]? = some (arrV cA n.toNatClampNeg (fun _ => .null)) := by rw [← hH1, Array.getElem?_push_size, ← arrV_new]
  have o1 : ∀ q : Nat, q < H.size → H1[q]? = H[q]? := fun q hq => by rw [← hH1, Array.getElem?_push, if_neg (Nat.ne_of_lt hq)]
  rw [hW.1]
  refine kk H1 (cn_push hW z1 o1 ?_) (cn_S hS (by omega) o1)
  show H1[H.size]? = some (vp_cell _ _)
  rw [vp_cell_q]
  exact e1
/-- new int[n][k] -/
theorem cn_mna (S : CallFix p m c cc nL s args TsG own) (hG : gx_K Γ s) (hW : cW Γ Lc H) (hS : va_S (gA Γ) s.heap H locs) {index : Nat} (hcl : Cond.classLink own index "[[I" ∈ TsG) (hover : va_AOA .int s) (harr : Cond.arrayClass .int ∈ TsG) {n k : Int32} {N' K' : Nat} (hn : ¬ n < 0) (hk : ¬ k < 0) (hN : n.toNatClampNeg = N') (hM : k.toNatClampNeg = K')
    (hb1 : N' * 4 ≤ 536870912) (hb2 : K' * componentBytes .int ≤ 536870912) (hb3 : K' ≤ 536870912) (hcells : cells + (1 + N') ≤ R.cells) (hslots : slots + (N' + N' * K') ≤ R.slots) (hdg : decode cc pc = .ok (.multianewarray index 2, 4))
    (kk : ∀ H1 : Heap, cW Γ ((Lc ++ [.inl (Γ.2.1 6, N', .inr (.inr (.inr (.inr (fun i => if i < N' then some (Γ.2.2.2 + (Lc.length + 1 + i)) else none)))))]) ++ List.replicate N' (.inl (Γ.2.1 1, K', .inl (fun _ => 0)))) H1 → va_S (gA Γ) s.heap H1 locs → W p l e R s m args below meth c H1 locs (cells + 1 + N') (slots + N' + N' * K') Q (F0 m (pc + 4) ls (.ref (Γ.2.2.2 + Lc.length) :: rest))) : W p l e R s m args below meth c H locs cells slots Q (F0 m pc ls (.int k :: .int n :: rest)) := by
  subst hN
  subst hM
  intro T hT Xs
  obtain ⟨vm₁, cA, comp, -, fA, fC, hO, -, X', step⟩ := Xs.multianewarray2F S.1 S.2.2.2.1 (S.2.2.2.2 _ hcl) (va_AOA.use hover) (S.2.2.2.2 _ harr) (g := F0 m pc ls (.int k :: .int n :: rest)) rfl (by rw [S.2.1]; exact hdg) rfl hn hk hb1 hb2 hb3 rfl rfl hcells hslots
  have hcy : s.vm.findClass ("[" ++ FieldType.int.toString) = some (Γ.2.1 1) := (hG.1.2 1 _ rfl).2
  have ec : some (Γ.2.1 1) = some comp := hcy.symm.trans fC
  cases ec
  have hcz : s.vm.findClass ("[" ++ (FieldType.array FieldType.int).toString) = some (Γ.2.1 6) := (hG.1.2 6 _ rfl).2
  have ed : some (Γ.2.1 6) = some cA := hcz.symm.trans fA
  cases ed
  generalize hF : Jvm.Free.Multi.fill (T.setVm vm₁) (Γ.2.1 6) (Γ.2.1 1) n.toNatClampNeg k.toNatClampNeg (defaultValue .int) n.toNatClampNeg = F at X' step
  have hTh : (T.setVm vm₁).heap = H := hT
  obtain ⟨f1, f2, -, -⟩ := Jvm.Free.Multi.fill_facts (T.setVm vm₁) (Γ.2.1 6) (Γ.2.1 1) n.toNatClampNeg k.toNatClampNeg (defaultValue .int) n.toNatClampNeg
  rw [hF, hTh] at f1 f2
  have hold : ∀ x : Nat, x < H.size → F.heap[x]? = H[x]? := fun x hx => by
    have := Jvm.Free.Multi.fill_old (T.setVm vm₁) (Γ.2.1 6) (Γ.2.1 1) n.toNatClampNeg k.toNatClampNeg (defaultValue .int) (a := x) (by rw [hTh]; exact hx) n.toNatClampNeg
    rw [hF, hTh] at this
    exact this
  have hrow : ∀ j : Nat, j < n.toNatClampNeg → F.heap[H.size + 1 + j]? = some (vp_cell (Γ.2.1 1) (k.toNatClampNeg, .inl (fun _ => 0))) := fun j hj => by
    have := Jvm.Free.Multi.fill_inner (T.setVm vm₁) (Γ.2.1 6) (Γ.2.1 1) n.toNatClampNeg k.toNatClampNeg (defaultValue .int) n.toNatClampNeg j hj
    rw [hF, hTh] at this
    rw [this]
    exact congrArg some (arrV_new _ _ _)
  have hout : Jvm.Free.Multi.outerC (Γ.2.1 6) n.toNatClampNeg H.size n.toNatClampNeg = vp_cell (Γ.2.1 6) (n.toNatClampNeg, .inr (.inr (.inr (.inr (fun i => if i < n.toNatClampNeg then some (H.size + 1 + i) else none))))) := by
    rw [vp_cell_q]
    exact vr_outer (Γ.2.1 6) n.toNatClampNeg H.size n.toNatClampNeg
  rw [hout] at f2
  have hsz : F.heap.size = H.size + 1 + n.toNatClampNeg := f1
  have hW1 : cW Γ ((Lc ++ [.inl (Γ.2.1 6, n.toNatClampNeg, .inr (.inr (.inr (.inr (fun i => if i < n.toNatClampNeg then some (Γ.2.2.2 + (Lc.length + 1 + i)) else none)))))]) ++ List.replicate n.toNatClampNeg (.inl (Γ.2.1 1, k.toNatClampNeg, .inl (fun _ => 0)))) F.heap := by
    refine ⟨by rw [hsz, hW.1]; simp; omega, fun q x hx => ?_⟩
    simp only [cws, List.getElem?_mapIdx, Option.map_eq_some_iff] at hx
    obtain ⟨y, hy, rfl⟩ := hx
    by_cases h1 : q < Lc.length
    · rw [List.getElem?_append_left (by simp; omega), List.getElem?_append_left h1] at hy
      exact (hW.2 q _ (cws_at hy)).kept (hold _ (by rw [hW.1]; show _ + _ < _; omega))
    · by_cases h2 : q = Lc.length
      · subst h2
        rw [List.getElem?_append_left (by simp), List.getElem?_append_right (Nat.le_refl _), Nat.sub_self] at hy
        cases hy
        show F.heap[Γ.2.2.2 + Lc.length]? = some (vp_cell _ _)
        rw [← hW.1, f2]
        simp only [hW.1, Nat.add_assoc]
      · rw [List.getElem?_append_right (by simp; omega)] at hy
        obtain ⟨h3, h4⟩ := List.getElem?_eq_some_iff.mp hy
        rw [List.getElem_replicate] at h4
        subst h4
        have h5 : q - (Lc.length + 1) < n.toNatClampNeg := by simpa using h3
        show F.heap[Γ.2.2.2 + q]? = some (vp_cell _ _)
        have h6 := hrow _ h5
        rw [hW.1, show Γ.2.2.2 + Lc.length + 1 + (q - (Lc.length + 1)) = Γ.2.2.2 + q by omega] at h6
        exact h6
  obtain ⟨t, a1, b1⟩ := kk F.heap hW1 (cn_S hS (by omega) hold) F rfl X'
  refine ⟨t, step t ?_, b1⟩
  have e9 : T.heap.size = Γ.2.2.2 + Lc.length := by rw [hT]; exact hW.1
  rw [e9]
  exact a1
theorem cn_putF (S : CallFix p m c cc nL s args TsG own) (hG : gx_K Γ s) (hW : cW Γ Lc H) (hS : va_S (gA Γ) s.heap H locs) (hin2 : meth.name = "<init>") {j ci N : Nat} {fs : List Value} {T : u_T} (he : Lc[j]? = some (.inr (ci, fs))) (hc : vwCl[ci]? = some (own, T, N)) (hin : ∀ w ∈ u_ws own T N, w ∈ TsG) (ty0 : Nat → FieldType) (hty : ∀ k, k < N → parseFieldDescriptor (T k).2.2.1 = some (ty0 k)) (hnm : ∀ a, a < N → ∀ b, b < N → a ≠ b → (T a).2.1 ≠ (T b).2.1) (k : Nat) (hk : k < N) {index : Nat} (hlink : Cond.fieldLink own index (T k).1 (T k).2.1 (T k).2.2.1 ∈ TsG) (hfin : (T k).2.2.2 = true) (hdecl : (T k).1 = own) {ty : FieldType} {v : Value} (hd : parseFieldDescriptor (T k).2.2.1 = some ty) (hn : narrow ty v = v) (hfit : fits ty v = true) (hl : k < fs.length) (hdg : decode cc pc = .ok (.putfield index, 3)) {a : Nat} (haj : a = Γ.2.2.2 + j) {L2 : List va_E} (hL2 : Lc.set j (.inr (ci, fs.set k v)) = L2)
    (kk : ∀ (H1 : Heap) (locs1 : List Loc), cW Γ L2 H1 → va_S (gA Γ) s.heap H1 locs1 → W p l e R s m args below meth c H1 locs1 cells slots Q (F0 m (pc + 3) ls rest)) : W p l e R s m args below meth c H locs cells slots Q (F0 m pc ls (v :: .ref a :: rest)) := by
  subst haj
  subst hL2
  have hap := va_apart (own := own) S.2.2.2.2 hin ty0 hty hnm hG.1 hc
  obtain ⟨r, h1, cell, q1, q2, q3, q4⟩ := hW.2 j _ (cws_at he)
  have hr : r = (own, T, N) := Option.some.inj (h1.symm.trans hc)
  subst hr
  obtain ⟨hSl, hfc, kC, hkC, hkind⟩ := hG.1.1 ci _ hc
  obtain ⟨cf, kf, fi, f, hi, hsl⟩ := hSl k hk
  have hlay := S.2.2.2.2 _ (hin _ (u_in_lay hk))
  unfold u_lay at hlay
  rw [if_pos hfin] at hlay
  have hst := (u_facts hfc hkC (u_lays S.2.2.2.2 hin hk) hi).1
  have hcf : m.cls = cf := by
    obtain ⟨_, _, c', _, _, _, -, -, hf', -, -, -, hown2, -⟩ := Cond.laysFinal_spec hlay
    have e1 : c' = cf := by have := hi.symm.trans hf'; simp at this; exact this.1.symm
    rw [hdecl] at hown2
    rw [← e1]; exact Option.some.inj (S.2.2.2.1.symm.trans hown2)
  have h6 := u_fits hfc hkC hkind (Or.inr hlay) hi hd hn hfit
  refine W.putFinK S.1 S.2.1 S.2.2.2.1 (S.2.2.2.2 _ hlink) hi hst hcf hin2 (by rw [q2]; exact h6) q1 q3 (by rw [hsl]; exact k2_hasslot (q4 k hk)) rfl rfl hdg fun H' e1 e2 e3 => ?_
  rw [hsl] at e1 ⊢
  exact kk H' _ (cW_put hW (hW.2.set (cws_D (A := gA Γ) Lc (fun _ h => h)) (cws_at he) ⟨_, hc, t_OB.to (V := updV (vp_V fs) k v) ⟨_, e1, q2, q3, t_set q4 hap hk v⟩ (fun j _ => vp_updV_set hl v j)⟩ e3) e2) (hS.put e2 e3 (show Γ.2.2.2 ≤ Γ.2.2.2 + j by omega))
theorem cn_astq (S : CallFix p m c cc nL s args TsG own) (hG : gx_K Γ s) (hW : cW Γ Lc H) (hS : va_S (gA Γ) s.heap H locs) {j jv t0 ci n : Nat} {cA : ClassId} {r : vw_C} {vs : List Value} {f : Nat → Option Nat} (ha : Lc[j]? = some (.inl (cA, n, .inr (.inr (.inr (.inr f)))))) (ht : (gx_tys Γ)[t0]? = some (cA, .object r.1)) (hv : Lc[jv]? = some (.inr (ci, vs))) (hc : vwCl[ci]? = some r) {i : Int32} (hin : vp_in i n) {a v : Nat} (haj : a = Γ.2.2.2 + j) (hvj : v = Γ.2.2.2 + jv) (hdg : decode cc pc = .ok (.aastore, 1)) {L2 : List va_E} (hL2 : Lc.set j (.inl (cA, n, .inr (.inr (.inr (.inr (va_up f i.toNatClampNeg (some v))))))) = L2)
    (kk : ∀ (H1 : Heap) (locs1 : List Loc), cW Γ L2 H1 → va_S (gA Γ) s.heap H1 locs1 → W p l e R s m args below meth c H1 locs1 cells slots Q (F0 m (pc + 1) ls rest)) : W p l e R s m args below meth c H locs cells slots Q (F0 m pc ls (.ref v :: .int i :: .ref a :: rest)) := by
  subst haj
  subst hvj
  subst hL2
  have hlt : i.toNatClampNeg < n := Nat.not_le.mp fun q => hin (Or.inr q)
  have h0 : ¬ i < 0 := fun q => hin (Or.inl q)
  obtain ⟨r', hr', cellV, g1, g2, g3, -⟩ := hW.2 jv _ (cws_at hv)
  have hcls := (hG.1.1 ci r hc).2
  obtain ⟨kA, comp, k1, k2, k3, -⟩ := (hG.1.2 t0 _ ht).2
  have hcomp : comp = Γ.2.2.1.1 ci := Option.some.inj (k3.symm.trans hcls.1)
  subst hcomp
  obtain ⟨kC, hkC, -⟩ := hcls.2
  refine W.aast S.1 S.2.1 (hW.2 j _ (cws_at ha)) (fun q h => by cases h) (fun h => by cases h) k1 k2 rfl hkC ⟨h0, by show _ < (arrV _ _ _).slots.size; rw [arrV_size]; exact hlt⟩ g1 (fun q h => by rw [g3] at h; cases h) (by rw [g2]; exact hkC) (by rw [g2]; exact va_assign hcls) rfl rfl hdg fun H1 e z oq => ?_
  refine kk H1 _ (cW_put hW (hW.2.set (cws_D (A := gA Γ) Lc (fun _ h => h)) (cws_at ha) ?_ oq) z) (hS.put z oq (show Γ.2.2.2 ≤ Γ.2.2.2 + j by omega))
  show H1[Γ.2.2.2 + j]? = some (vp_cell _ _)
  rw [e]
  rw [vp_cell_q, vp_cell_q, arrV_store]
  congr 2
  funext q
  by_cases hq : q = i.toNatClampNeg
  · subst hq
    simp [updV, va_up, va_rf]
  · simp [updV, va_up, hq]
/-! bodies and calls of constructors -/
theorem cn_of {y : MethodName} {bytes : ByteArray} {maxL : Nat} {rm : Room} {av : List Value} (hy : plainName y.cls = true) (hyn : y.name = "<init>") (hsz : (lg_sl av).length ≤ maxL)
    (body : ∀ (p : Program) (e : Env) (s : State) (m : MethodId) (args : Array Value) (below : List Frame) (meth : Method) (c : Code) (Q : State → Prop), CallFix p m c bytes maxL s args TsG y.cls → meth.name = "<init>" → gx_K Γ s → cX s → (∀ (pc : Nat) (ls : Array Slot) (H : Heap) (locs : List Loc) (cells slots : Nat), cW Γ Lc' H → va_S (gA Γ) s.heap H locs → cells ≤ mc → slots ≤ ms → decode bytes pc = .ok (.return_, 1) → W p l e rm s m args below meth c H locs cells slots Q (F0 m pc ls [])) → ∀ (ls : Array Slot) (H : Heap) (locs : List Loc), lv_has ls maxL (lv_args 0 av) → cW Γ Lc H → va_S (gA Γ) s.heap H locs → W p l e rm s m args below meth c H locs 0 0 Q (F0 m 0 ls [])) :
    Met l y (.code y bytes maxL none :: TsG) rm (va_Pc av (cP Γ Lc)) (cQ Γ Lc') mc ms (gA Γ) := by
  refine Met.ofW (cc := bytes) (maxL := maxL) (ret := none) hy rfl ?_
  intro p e s m args below meth c s₁ B hml hv
  obtain ⟨rfl, hG, hX, hW⟩ := hv
  have hts := atoms_spec (ws := Cond.code y bytes maxL none :: TsG) B.pre
  rw [lg_entry_eq]
  have S : CallFix p m c bytes maxL s av.toArray TsG y.cls := ⟨B.exec, B.bytes, hml, findClass_of_methodNamed B.named, fun w h => hts w (List.mem_cons_of_mem _ h)⟩
  refine body p e s m _ below meth c _ S ((name_of_methodNamed B.named B.method).1.trans hyn) hG hX (fun pc ls H locs cells slots hW hS hc hs hd => ?_) _ _ _ (lv_entry av hsz) hW va_S.rf
  exact W.widen hc hs (W.vret S.1 S.2.1 B.returns (fun t ht _ => ⟨⟨(), rfl, trivial, by show cW Γ Lc' t.heap; rw [ht]; exact hW⟩, hS.F ht⟩) hS.2.2 hd B.notSynchronized)
theorem cn_pre {As : List Value} (hG : gx_K Γ s) (hX : cX s) (hW : cW Γ Lc H) (hS : va_S (gA Γ) s.heap H locs) : PreS s H (va_Pc As (cP Γ Lc)) As :=
  ⟨cP_blind As, fun _ hU hWm => ⟨rfl, gx_K_on hG hS hU hWm, hX.moved hWm.alike, by rw [hU]; exact hW⟩⟩
theorem cn_k (hS : va_S (gA Γ) s.heap H locs) {a : Array Value} (hr : va_Run p l e R s m args below meth c H locs cells slots mc ms (F0 m pc ls st0) rest (cQ Γ Lc' a) (gA Γ))
    (kk : ∀ (H1 : Heap) (locs1 : List Loc), cW Γ Lc' H1 → va_S (gA Γ) s.heap H1 locs1 → W p l e R s m args below meth c H1 locs1 (cells + mc) (slots + ms) Q (F0 m (pc + 3) ls rest)) : W p l e R s m args below meth c H locs cells slots Q (F0 m pc ls st0) :=
  va_callv hr hS (fun _ _ h => h) (fun _ h => h) (fun _ t H1 locs1 ht _ _ hb _ _ hS1 => kk H1 locs1 (by rw [← ht]; exact hb) hS1)
theorem cn_runI {y : MethodName} {bytes : ByteArray} {maxL n index : Nat} {rm : Room} {Qc : Array Value → State → Outcome → State → Prop} (S : CallFix p m c cc nL s args TsG own) (hG : gx_K Γ s) (hX : cX s) (hW : cW Γ Lc H) (hS : va_S (gA Γ) s.heap H locs) {b : Nat} (As : List Value) (hM : Met l y (.code y bytes maxL none :: TsG) rm (va_Pc (.ref b :: As) (cP Γ Lc)) Qc mc ms (gA Γ)) (pk : Pk y bytes maxL none n ∧ Cond.instanceMethod y ∈ TsG) (ml : Cond.methodLink own index y ∈ TsG) (hy : y.name = "<init>")
    (hrc : rm.cells = mc) (hrs : rm.slots = ms) (hR : rm.frames + 1 ≤ R.frames ∧ 8 + (maxL + 11) + rm.locals ≤ R.locals) (hn : As.length = n) (hsz : ls.size = nL) (hst : st0 = As.reverse ++ .ref b :: rest) (hroom : (rest.map fun v => v.category).sum ≤ 8) (hdg : decode cc pc = .ok (.invokespecial index, 3)) (hf : cells + mc ≤ R.cells ∧ slots + ms ≤ R.slots) :
    va_Run p l e R s m args below meth c H locs cells slots mc ms (F0 m pc ls st0) rest (Qc (Value.ref b :: As).toArray) (gA Γ) := by
  obtain ⟨⟨h1, h2, h3, h4, h5⟩, h6⟩ := pk
  exact va_runI (As := As) (rest := rest) S hM (cwI n S.2.2.2.2 (gc_good h1) rfl hrc hrs (S.2.2.2.2 _ h2) (S.2.2.2.2 _ ml) (S.2.2.2.2 _ h6) hy ⟨h3, h4, h5⟩ hR) (cn_pre hG hX hW hS) rfl hn hsz hst (lv_room hroom) hdg hf
theorem cn_runN {y : MethodName} {bytes : ByteArray} {maxL n index : Nat} {rm : Room} {Qc : Array Value → State → Outcome → State → Prop} (S : CallFix p m c cc nL s args TsG own) (hG : gx_K Γ s) (hX : cX s) (hW : cW Γ Lc H) (hS : va_S (gA Γ) s.heap H locs) {b : Nat} (As : List Value) (hM : Met l y (.code y bytes maxL none :: TsG) rm (va_Pc (.ref b :: As) (cP Γ Lc)) Qc mc ms (gA Γ)) (pk : Pk y bytes maxL none n ∧ Cond.instanceMethod y ∈ TsG) (ml : (own, index, y) ∈ gx_nst) (hy : y.name = "<init>")
    (hrc : rm.cells = mc) (hrs : rm.slots = ms) (hR : rm.frames + 1 ≤ R.frames ∧ 8 + (maxL + 11) + rm.locals ≤ R.locals) (hn : As.length = n) (hsz : ls.size = nL) (hst : st0 = As.reverse ++ .ref b :: rest) (hroom : (rest.map fun v => v.category).sum ≤ 8) (hdg : decode cc pc = .ok (.invokespecial index, 3)) (hf : cells + mc ≤ R.cells ∧ slots + ms ≤ R.slots) :
    va_Run p l e R s m args below meth c H locs cells slots mc ms (F0 m pc ls st0) rest (Qc (Value.ref b :: As).toArray) (gA Γ) := by
  obtain ⟨⟨h1, h2, h3, h4, h5⟩, h6⟩ := pk
  exact va_runIN (host := RX7) (As := As) (rest := rest) S hM ⟨va_cnB n S.2.2.2.2 (gc_good h1) rfl hrc hrs (hG.2.2.2.2 _ ml) (S.2.2.2.2 _ h2) ⟨h3, h4, h5⟩ hR, hy, S.2.2.2.2 _ h6⟩ (cn_pre hG hX hW hS) rfl hn hsz hst (lv_room hroom) hdg hf
end CT
