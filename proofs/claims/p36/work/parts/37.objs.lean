/-! THREE OBJECTS, one behind the other: each is made at the heap's end, b -/
def kP (b : Nat) (ca : Nat → ClassId) (D : va_G) (U : State) : Prop := U.heap.size = b ∧ gx_K (gB b ca D) U ∧ cX U
theorem kP_blind {b : Nat} {ca : Nat → ClassId} {D : va_G} (av : List Value) : FrameBlind (va_Pc av (kP b ca D)) := fun _ U g mk h => ⟨h.1, h.2.1, gx_K_blind h.2.2.1, cX.moved (u := U) (U := U.calling g mk _) (Vm.Alike.refl U.vm) h.2.2.2⟩
theorem gx_K_up {b b' : Nat} {ca : Nat → ClassId} {D : va_G} {U : State} (h : gx_K (gB b ca D) U) (hb : b ≤ b') (hs : b' ≤ U.heap.size) : gx_K (gB b' ca D) U := by
  obtain ⟨h1, h2, h3, ⟨h4, h5, h6, h8, h9, h10⟩, h7⟩ := h
  exact ⟨h1, ⟨fun i j _ _ h => by have h : b' + i = b' + j := h; omega, fun k _ => Nat.le_add_right _ _⟩, hs, ⟨h4.narrow (fun q hq => Nat.le_trans hb hq), h5.narrow (fun q hq => Nat.le_trans hb hq), h6, h8, h9, h10⟩, h7⟩
theorem kP_pre {s : State} {H : Heap} {locs : List Loc} {b0 : Nat} {ca : Nat → ClassId} {D : va_G} {As : List Value} (hG : gx_K (gB b0 ca D) s) (hX : cX s) (hz : b0 ≤ H.size) (hS : va_S (gA (gB b0 ca D)) s.heap H locs) : PreS s H (va_Pc As (kP H.size ca D)) As :=
  ⟨kP_blind As, fun _ hU hWm => ⟨rfl, by rw [hU], gx_K_up (gx_K_on hG hS hU hWm) hz (by rw [hU]; exact Nat.le_refl _), hX.moved hWm.alike⟩⟩
def kQ (b : Nat) (ca : Nat → ClassId) (D : va_G) (r : Int32) : Array Value → State → Outcome → State → Prop := va_Qi (S := Unit) (fun r' _ => r' = r) (fun _ _ => True) (gA (gB b ca D))
theorem ob_of {l : Launch} {b : Nat} {ca : Nat → ClassId} {D : va_G} {y : MethodName} {bytes : ByteArray} {maxL mc ms : Nat} {ty : FieldType} {rm : Room} {av : List Value} {r : Int32} (hy : plainName y.cls = true) (hsz : (lg_sl av).length ≤ maxL)
    (body : ∀ (p : Program) (e : Env) (s : State) (m : MethodId) (args : Array Value) (below : List Frame) (meth : Method) (c : Code) (Q : State → Prop), CallFix p m c bytes maxL s args TsG y.cls → gx_K (gB b ca D) s → cX s → s.heap.size = b → (∀ (pc : Nat) (ls : Array Slot) (H : Heap) (locs : List Loc) (v : Int32) (cells slots : Nat), va_S (gA (gB b ca D)) s.heap H locs → narrow ty (.int v) = .int v → v = r → cells ≤ mc → slots ≤ ms → decode bytes pc = .ok (.ireturn, 1) → W p l e rm s m args below meth c H locs cells slots Q (F0 m pc ls [.int v])) → ∀ (ls : Array Slot), lv_has ls maxL (lv_args 0 av) → W p l e rm s m args below meth c s.heap [] 0 0 Q (F0 m 0 ls [])) :
    Met l y (.code y bytes maxL (some ty) :: TsG) rm (va_Pc av (kP b ca D)) (kQ b ca D r) mc ms (gA (gB b ca D)) := by
  refine Met.ofW (cc := bytes) (maxL := maxL) (ret := some ty) hy rfl ?_
  intro p e s m args below meth c s₁ B hml hv
  obtain ⟨rfl, hz, hG, hX⟩ := hv
  have hts := atoms_spec (ws := Cond.code y bytes maxL (some ty) :: TsG) B.pre
  rw [lg_entry_eq]
  have S : CallFix p m c bytes maxL s av.toArray TsG y.cls := ⟨B.exec, B.bytes, hml, findClass_of_methodNamed B.named, fun w h => hts w (List.mem_cons_of_mem _ h)⟩
  refine body p e s m _ below meth c _ S hG hX hz (fun pc ls H locs v cells slots hS hn hv hc hs hd => ?_) _ (lv_entry av hsz)
  exact W.widen hc hs (W.zret S.1 S.2.1 B.returns hn (fun t ht _ => ⟨⟨v, (), rfl, hv, trivial⟩, hS.F ht⟩) hS.2.2 hd B.notSynchronized)
theorem st_fin {b : Nat} {ca : Nat → ClassId} {D : va_G} {H : Heap} (h : cW (gB b ca D) (seg (gB b ca D) 0 475) H) : gx_W (gB b ca D) C0m M0m H := by
  intro k q hq
  by_cases hk : k < 475
  · rw [gx_at hk] at hq
    cases hq
    have h1 : (seg (gB b ca D) 0 475)[k]? = some (fin (gB b ca D) (0 + k)) := seg_at hk
    rw [Nat.zero_add] at h1
    exact h.2 k _ (cws_at h1)
  · simp [gx_ws, hk] at hq
theorem kk_run {p : Program} {l : Launch} {e : Env} {R : Room} {s : State} {m : MethodId} {args : Array Value} {below : List Frame} {meth : Method} {c : Code} {H : Heap} {locs : List Loc} {cells slots : Nat} {Q : State → Prop} {cc : ByteArray} {nL pc : Nat} {ls : Array Slot} {rest st0 : List Value} {own : String} {b0 mc ms n index maxL : Nat} {ca : Nat → ClassId} {D : va_G} {y : MethodName} {bytes : ByteArray} {ret : Option FieldType} {rm : Room} {r : Int32} (S : CallFix p m c cc nL s args TsG own) (hG : gx_K (gB b0 ca D) s) (hX : cX s) (hz : b0 ≤ H.size) (hS : va_S (gA (gB b0 ca D)) s.heap H locs) (As : List Value) (hM : Met l y (.code y bytes maxL ret :: TsG) rm (va_Pc As (kP H.size ca D)) (kQ H.size ca D r) mc ms (gA (gB H.size ca D))) (pk : PkS y bytes maxL ret n) (ml : Cond.methodLink own index y ∈ TsG)
    (hrc : rm.cells = mc) (hrs : rm.slots = ms) (hR : rm.frames + 1 ≤ R.frames ∧ 8 + (maxL + 11) + rm.locals ≤ R.locals) (hn : As.length = n) (hsz : ls.size = nL) (hst : st0 = As.reverse ++ rest) (hroom : (rest.map fun v => v.category).sum ≤ 8) (hdg : decode cc pc = .ok (.invokestatic index, 3)) (hf : cells + mc ≤ R.cells ∧ slots + ms ≤ R.slots)
    (kk : ∀ (H1 : Heap) (locs1 : List Loc), H.size ≤ H1.size → va_S (gA (gB b0 ca D)) s.heap H1 locs1 → W p l e R s m args below meth c H1 locs1 (cells + mc) (slots + ms) Q (F0 m (pc + 3) ls (.int r :: rest))) : W p l e R s m args below meth c H locs cells slots Q (F0 m pc ls st0) :=
  va_calli (va_runS (As := As) (rest := rest) S hM (gc_cwS S pk ml hrc hrs hR) (kP_pre hG hX hz hS) rfl hn hsz hst (lv_room hroom) hdg hf) hS (fun q h1 h2 => absurd h1 (Nat.not_lt.mpr h2)) (fun q h1 => Nat.le_trans hz h1) (fun r' _ t H1 locs1 _ _ hp _ hz1 _ hS1 => by subst hp; exact kk H1 locs1 hz1 hS1)
set_option maxHeartbeats 8000000 in
set_option maxRecDepth 100000 in
theorem c_L_globs (l : Launch) (hl0 : l.stackTraces = false) (b : Nat) (ca : Nat → ClassId) (D : va_G) {y0 : Int32} (hf : fL_globs = some y0) : Met l yL_globs (.code yL_globs cL_globs 2 (some .boolean) :: TsG) rm_L_globs (va_Pc [] (kP b ca D)) (kQ b ca D y0) 1474 38844 (gA (gB b ca D)) := by
  refine ob_of (by decide) (Nat.le_of_ble_eq_true rfl) ?_
  intro p e s m args below meth c Q S hG hX hz hret ls hl
  obtain ⟨hx, hb, hml, hown, hts⟩ := id S
  have hl : lv_has ls 2 [] := hl
  have hS : va_S (gA (gB b ca D)) s.heap s.heap [] := va_S.rf
  have hW : cW (gB b ca D) [] s.heap := ⟨hz, fun k q h => by simp [cws] at h⟩
  refine cr_new (Γ := gB b ca D) (rest := []) (a := b + 0) (L2 := [] ++ [.inr (7, [.null, .null, .null, .null, .null, .null])]) (ci := 7) (CC := RX7) (T := TX7) (N := 6) (fs := [.null, .null, .null, .null, .null, .null]) S hG hW hS rfl iw_X7 tyX7_ok cl_L_8 (TsG_t (List.mem_of_getElem? (i := 23) (by decide +kernel)) (by decide +kernel)) in_X7 (by decide) (Nat.le_of_ble_eq_true rfl) (Nat.le_of_ble_eq_true rfl) dL_globs_0 rfl rfl (fun H hW hS => ?_)
  refine lv_dup hx hb dL_globs_3 rfl ?_
  refine cn_k (Γ := gB b ca D) (rest := [.ref (b + 0)]) hS (cn_runI S hG hX hW hS [] (c_X7_init l b ca D [] rfl) pk_X7_init ml_L_116 rfl rfl rfl ⟨Nat.le_of_ble_eq_true rfl, Nat.le_of_ble_eq_true rfl⟩ rfl hl.1 rfl (Nat.le_of_ble_eq_true rfl) dL_globs_4 ⟨Nat.le_of_ble_eq_true rfl, Nat.le_of_ble_eq_true rfl⟩) (fun H locs hW hS => ?_)
  refine lv_astore_n (lv' := [(0, .ref (b + 0))]) hx hb dL_globs_7 rfl hl (by decide) rfl (fun ls hl => ?_)
  have hW := cW_eq (L2 := seg (gB b ca D) 0 475) hW rfl
  exact w_L_globs hl0 S hG hf (fun pc ls H locs v cs ss hS hn hv hc hs hd => hret pc ls H locs v cs ss hS hn hv hc hs hd) _ _ (Nat.le_of_ble_eq_true rfl) (Nat.le_of_ble_eq_true rfl) H _ ls (st_fin hW) hS hl
set_option maxHeartbeats 8000000 in
set_option maxRecDepth 100000 in
theorem c_L_runs (l : Launch) (hl0 : l.stackTraces = false) (b : Nat) (ca : Nat → ClassId) (D : va_G) {y0 : Int32} (hf : fL_runs = some y0) : Met l yL_runs (.code yL_runs cL_runs 2 (some .boolean) :: TsG) rm_L_runs (va_Pc [] (kP b ca D)) (kQ b ca D y0) 2080 42480 (gA (gB b ca D)) := by
  refine ob_of (by decide) (Nat.le_of_ble_eq_true rfl) ?_
  intro p e s m args below meth c Q S hG hX hz hret ls hl
  obtain ⟨hx, hb, hml, hown, hts⟩ := id S
  have hl : lv_has ls 2 [] := hl
  have hS : va_S (gA (gB b ca D)) s.heap s.heap [] := va_S.rf
  have hW : cW (gB b ca D) [] s.heap := ⟨hz, fun k q h => by simp [cws] at h⟩
  refine cr_new (Γ := gB b ca D) (rest := []) (a := b + 0) (L2 := [] ++ [.inr (7, [.null, .null, .null, .null, .null, .null])]) (ci := 7) (CC := RX7) (T := TX7) (N := 6) (fs := [.null, .null, .null, .null, .null, .null]) S hG hW hS rfl iw_X7 tyX7_ok cl_L_8 (TsG_t (List.mem_of_getElem? (i := 23) (by decide +kernel)) (by decide +kernel)) in_X7 (by decide) (Nat.le_of_ble_eq_true rfl) (Nat.le_of_ble_eq_true rfl) dL_runs_0 rfl rfl (fun H hW hS => ?_)
  refine lv_dup hx hb dL_runs_3 rfl ?_
  refine cn_k (Γ := gB b ca D) (rest := [.ref (b + 0)]) hS (cn_runI S hG hX hW hS [] (c_X7_init l b ca D [] rfl) pk_X7_init ml_L_116 rfl rfl rfl ⟨Nat.le_of_ble_eq_true rfl, Nat.le_of_ble_eq_true rfl⟩ rfl hl.1 rfl (Nat.le_of_ble_eq_true rfl) dL_runs_4 ⟨Nat.le_of_ble_eq_true rfl, Nat.le_of_ble_eq_true rfl⟩) (fun H locs hW hS => ?_)
  refine lv_astore_n (lv' := [(0, .ref (b + 0))]) hx hb dL_runs_7 rfl hl (by decide) rfl (fun ls hl => ?_)
  have hW := cW_eq (L2 := seg (gB b ca D) 0 475) hW rfl
  exact w_L_runs hl0 S hG hf (fun pc ls H locs v cs ss hS hn hv hc hs hd => hret pc ls H locs v cs ss hS hn hv hc hs hd) _ _ (Nat.le_of_ble_eq_true rfl) (Nat.le_of_ble_eq_true rfl) H _ ls (st_fin hW) hS hl
set_option maxHeartbeats 8000000 in
set_option maxRecDepth 100000 in
theorem c_L_bounds (l : Launch) (hl0 : l.stackTraces = false) (b : Nat) (ca : Nat → ClassId) (D : va_G) (a1 : Int32) {y0 : Int32} (hf : fL_bounds a1 = some y0) : Met l yL_bounds (.code yL_bounds cL_bounds 3 (some .boolean) :: TsG) rm_L_bounds (va_Pc [.int a1] (kP b ca D)) (kQ b ca D y0) 2393 44358 (gA (gB b ca D)) := by
  refine ob_of (by decide) (Nat.le_of_ble_eq_true rfl) ?_
  intro p e s m args below meth c Q S hG hX hz hret ls hl
  obtain ⟨hx, hb, hml, hown, hts⟩ := id S
  have hl : lv_has ls 3 [(0, .int a1)] := hl
  have hS : va_S (gA (gB b ca D)) s.heap s.heap [] := va_S.rf
  have hW : cW (gB b ca D) [] s.heap := ⟨hz, fun k q h => by simp [cws] at h⟩
  refine cr_new (Γ := gB b ca D) (rest := []) (a := b + 0) (L2 := [] ++ [.inr (7, [.null, .null, .null, .null, .null, .null])]) (ci := 7) (CC := RX7) (T := TX7) (N := 6) (fs := [.null, .null, .null, .null, .null, .null]) S hG hW hS rfl iw_X7 tyX7_ok cl_L_8 (TsG_t (List.mem_of_getElem? (i := 23) (by decide +kernel)) (by decide +kernel)) in_X7 (by decide) (Nat.le_of_ble_eq_true rfl) (Nat.le_of_ble_eq_true rfl) dL_bounds_0 rfl rfl (fun H hW hS => ?_)
  refine lv_dup hx hb dL_bounds_3 rfl ?_
  refine cn_k (Γ := gB b ca D) (rest := [.ref (b + 0)]) hS (cn_runI S hG hX hW hS [] (c_X7_init l b ca D [] rfl) pk_X7_init ml_L_116 rfl rfl rfl ⟨Nat.le_of_ble_eq_true rfl, Nat.le_of_ble_eq_true rfl⟩ rfl hl.1 rfl (Nat.le_of_ble_eq_true rfl) dL_bounds_4 ⟨Nat.le_of_ble_eq_true rfl, Nat.le_of_ble_eq_true rfl⟩) (fun H locs hW hS => ?_)
  refine lv_astore_n (lv' := [(1, .ref (b + 0)), (0, .int a1)]) hx hb dL_bounds_7 rfl hl (by decide) rfl (fun ls hl => ?_)
  have hW := cW_eq (L2 := seg (gB b ca D) 0 475) hW rfl
  exact w_L_bounds hl0 S hG a1 hf (fun pc ls H locs v cs ss hS hn hv hc hs hd => hret pc ls H locs v cs ss hS hn hv hc hs hd) _ _ (Nat.le_of_ble_eq_true rfl) (Nat.le_of_ble_eq_true rfl) H _ ls (st_fin hW) hS (lv_sub hl [1, 0] rfl)
