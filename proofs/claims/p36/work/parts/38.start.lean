/-! THE CLAIM OUT OF ONE WALK OF THE LAW'S BODY. Your part is whole_start (and what it stands on); all else here is the same for every law, but numbers. -/
def R_law : String := "MonobuildLaw"
def lw_P (b : Addr) (xs : List Int32) (args : Array Value) (s : State) : Prop := args = #[.ref b] ∧ s.IntsAt b xs ∧ xs.length ≤ 260 ∧ (Jvm.Cond.and given_1 narrow_1).before args s = true
def lw_Q (_ : Array Value) (s : State) (o : Outcome) (t : State) : Prop := o = .returned (some (.int 1)) ∧ Framed s o t [] 600172 7300668
def lw_Z (below : List Frame) (a : Array Value) (s : State) : State → Prop := fun t => ∃ o, t.status = .running ∧ Ended t below o ∧ lw_Q a s o t
/-- the law's own end, with 1 on the stack, nothing written that was there before, its room as the claim has it -/
theorem lw_ret {p : Program} {l : Launch} {e : Env} {s : State} {m : MethodId} {below : List Frame} {meth : Method} {c : Code} {b : Nat} (hx : p.tables.exec = Jvm.exec) (hb : c.code = code) (hr : meth.sig.returnType = ret) (hlocks : meth.locks = false) {pc : Nat} {H : Heap} {ls : Array Slot} (hdg : decode code pc = .ok (.ireturn, 1)) : W p l e room_1 s m #[Value.ref b] below meth c H [] 600172 7300668 (lw_Z below #[Value.ref b] s) (F0 m pc ls [.int 1]) := by
  intro T hT X
  obtain ⟨fs, hret, hrun, hended, hW, hframe⟩ := X.leave (v := some (.int 1)) (hlocks := hlocks) (fun h => by rw [hr] at h; cases h)
  have hmeth' : T.vm.method? m = some meth := X.method'
  refine ⟨T.setFrames fs, ?_, .returned (some (.int 1)), hrun, hended, rfl, ⟨_, rfl⟩, hW, hframe⟩
  jvm_step X.here [X.here.top, hx, hb, hdg, hmeth', hr, ret, narrow_b1]
  (try refine ⟨rfl, ?_⟩); (try refine ⟨rfl, ?_⟩)
  first | (intro acts; rw [hret _ acts rfl rfl rfl]) | rw [hret _ _ rfl rfl rfl]
  exact Steps.refl _
/-- what holds at the law's entry: the machine, the code, the tables' words (any of lw_tbl by 'hts w (by decide +kernel)'), the script of L ints xs at the cell b, what the Statement gives of the start (any of its parts by flat_of_before) -/
def lw_At (p : Program) (s : State) (m : MethodId) (meth : Method) (c : Code) (b L : Nat) (xs : Nat → Int32) : Prop :=
  p.tables.exec = Jvm.exec ∧ c.code = code ∧ meth.sig.returnType = ret ∧ c.maxLocals = 1 ∧ s.vm.findClass R_law = some m.cls ∧ (∀ w ∈ lw_tbl, w.before #[Value.ref b] s = true) ∧ va_X b L xs s s.heap ∧ b < s.heap.size ∧ meth.locks = false ∧ (Jvm.Cond.and given_1 narrow_1).before #[Value.ref b] s = true

theorem st_str {args : Array Value} {s : State} {k : Nat} {tx : String} (h1 : (Cond.stringRef "Monobuild" k tx).before args s = true) (h2 : (Cond.exactly (.string "Monobuild" k) "java/lang/String").before args s = true) : ∃ sa, vk_R RX7 k tx sa s := by
  obtain ⟨a, c, cell, kk, h3, -⟩ := Cond.exactly_spec h2
  exact ⟨a, vk_R.of h1 h3⟩
def st_sw : List Cond := [.stringRef "Monobuild" 59 "not a letter a to z, '/', '*' or '?'", .stringRef "Monobuild" 70 "the text is full", .stringRef "Monobuild" 280 "the content is not 0 to 9999", .stringRef "Monobuild" 94 "the text is no path", .stringRef "Monobuild" 104 "the file is there", .stringRef "Monobuild" 107 "there are 24 files", .stringRef "Monobuild" 287 "there is no such file, or it is deleted", .stringRef "Monobuild" 285 "there is no such file", .stringRef "Monobuild" 132 "the text is no glob", .stringRef "Monobuild" 142 "the cost is not 1 to 1000", .stringRef "Monobuild" 145 "there are 16 targets", .stringRef "Monobuild" 290 "there is no such target", .stringRef "Monobuild" 163 "the target has 4 globs", .stringRef "Monobuild" 186 "it depends on the other one already", .stringRef "Monobuild" 191 "both are the same, or the other one is above", .stringRef "Monobuild" 199 "there are not so many targets", .stringRef "Monobuild" 229 "a target on which it depends needs to run", .stringRef "Monobuild" 234 "200 keys were given", .stringRef "Monobuild" 239 "more than 200 keys would be given", .stringRef "Monobuild" 292 "the shards are not 1 to 8", .stringRef "Monobuild" 257 "the limit is not 1 to 16000", .stringRef "Monobuild" 259 "there is no such owner", .stringRef "Monobuild" 262 "there are 12 rules"]
def st_se : List Cond := [.exactly (.string "Monobuild" 59) "java/lang/String", .exactly (.string "Monobuild" 70) "java/lang/String", .exactly (.string "Monobuild" 280) "java/lang/String", .exactly (.string "Monobuild" 94) "java/lang/String", .exactly (.string "Monobuild" 104) "java/lang/String", .exactly (.string "Monobuild" 107) "java/lang/String", .exactly (.string "Monobuild" 287) "java/lang/String", .exactly (.string "Monobuild" 285) "java/lang/String", .exactly (.string "Monobuild" 132) "java/lang/String", .exactly (.string "Monobuild" 142) "java/lang/String", .exactly (.string "Monobuild" 145) "java/lang/String", .exactly (.string "Monobuild" 290) "java/lang/String", .exactly (.string "Monobuild" 163) "java/lang/String", .exactly (.string "Monobuild" 186) "java/lang/String", .exactly (.string "Monobuild" 191) "java/lang/String", .exactly (.string "Monobuild" 199) "java/lang/String", .exactly (.string "Monobuild" 229) "java/lang/String", .exactly (.string "Monobuild" 234) "java/lang/String", .exactly (.string "Monobuild" 239) "java/lang/String", .exactly (.string "Monobuild" 292) "java/lang/String", .exactly (.string "Monobuild" 257) "java/lang/String", .exactly (.string "Monobuild" 259) "java/lang/String", .exactly (.string "Monobuild" 262) "java/lang/String"]
theorem st_sw_in : ∀ w ∈ st_sw, w ∈ tables_1 := by decide +kernel
set_option maxRecDepth 100000 in
theorem st_se_in : ∀ w ∈ st_se, w ∈ flatC (Jvm.Cond.and given_1 narrow_1) := by decide +kernel
theorem st_nst_in : ∀ q ∈ gx_nst, Cond.methodLinkNest q.1 q.2.1 q.2.2 RX7 ∈ tables_1 := by decide +kernel
set_option maxRecDepth 100000 in
theorem st_ncs_in : ∀ q ∈ gx_ncs, Cond.not (.castable q.1 q.2) ∈ flatC (Jvm.Cond.and given_1 narrow_1) := by decide +kernel
theorem st_cas_in : ∀ q ∈ gx_cas, Cond.castable q q ∈ tables_1 := by decide +kernel
theorem st_dec_in : ∀ q ∈ gx_dec, Cond.declares q ∈ tables_1 := by decide +kernel
theorem st_ov_in : ∀ w ∈ ([.arrayOver (.object "Monobuild$Text"), .arrayOver (.object "Monobuild$Globs"), .arrayOver (.array .int), .laysStatic Bundle.tN "UNASSIGNED_STACK" Bundle.steD, .laysStatic Bundle.tN "SUPPRESSED_SENTINEL" Bundle.listD, .initialized Bundle.tN] : List Cond), w ∈ tables_1 := by decide +kernel
set_option maxRecDepth 100000 in
theorem st_ref_in : ∀ w ∈ ([.isRef (.static Bundle.tN "UNASSIGNED_STACK" Bundle.steD), .isRef (.static Bundle.tN "SUPPRESSED_SENTINEL" Bundle.listD)] : List Cond), w ∈ flatC (Jvm.Cond.and given_1 narrow_1) := by decide +kernel
theorem st_rc {args : Array Value} {s : State} {t : FieldType} (h : (Cond.arrayClass t).before args s = true) (hRA : ∀ c, s.vm.findClass ("[" ++ t.toString) = some c → va_RA s c t) : ∃ c : ClassId, ArrOfT s c t ∧ va_RA s c t := by
  obtain ⟨c, k, comp, h1, h2, h3⟩ := Cond.arrayClass_spec h
  exact ⟨c, fun N z => ⟨(fun q hq => by cases hq), k, h2, comp, h3⟩, hRA c h1⟩
theorem st_ro {args : Array Value} {s : State} {n : String} (h : (Cond.arrayOver (.object n)).before args s = true) : ∃ c : ClassId, ArrOfT s c (.object n) ∧ va_RA s c (.object n) := by
  obtain ⟨comp, c, k, h1, -, h3, h4, h5⟩ := Cond.arrayOver_spec h
  exact ⟨c, fun N z => ⟨(fun q hq => by cases hq), k, h3, comp, h4⟩, k, comp, h3, h4, h1, h5⟩
theorem st_ra {args : Array Value} {s : State} {t : FieldType} (h : (Cond.arrayOver (.array t)).before args s = true) : ∃ c : ClassId, ArrOfT s c (.array t) ∧ va_RA s c (.array t) := by
  obtain ⟨comp, c, k, h1, -, h3, h4, h5⟩ := arrayOverA_spec h
  exact ⟨c, fun N z => ⟨(fun q hq => by cases hq), k, h3, comp, h4⟩, h5⟩
set_option maxHeartbeats 4000000 in
set_option maxRecDepth 100000 in
theorem st_K {p : Program} {s : State} {m : MethodId} {meth : Method} {c : Code} {b L : Nat} {xs : Nat → Int32} (C0 : lw_At p s m meth c b L xs) : ∃ (ca : Nat → ClassId) (D : va_G), gx_K (gB s.heap.size ca D) s ∧ cX s := by
  obtain ⟨-, -, -, -, -, hts, -, -, -, hgv⟩ := C0
  have ht : ∀ w ∈ tables_1, w.before #[Value.ref b] s = true := fun w h => hts w (List.mem_append_right _ h)
  have hs := flat_of_before _ hgv
  obtain ⟨c0, i0, k0⟩ := u_known (C := RX0) (T := TX0) (N := 6) (n := 6) hts (fun w hw => TsG_l (iw_X0 w hw)) (ht _ (List.mem_of_getElem? (i := 45) (by decide +kernel)))
  obtain ⟨c1, i1, k1⟩ := u_known (C := RX1) (T := TX1) (N := 4) (n := 4) hts (fun w hw => TsG_l (iw_X1 w hw)) (ht _ (List.mem_of_getElem? (i := 81) (by decide +kernel)))
  obtain ⟨c2, i2, k2⟩ := u_known (C := RX2) (T := TX2) (N := 5) (n := 5) hts (fun w hw => TsG_l (iw_X2 w hw)) (ht _ (List.mem_of_getElem? (i := 74) (by decide +kernel)))
  obtain ⟨c3, i3, k3⟩ := u_known (C := RX3) (T := TX3) (N := 8) (n := 8) hts (fun w hw => TsG_l (iw_X3 w hw)) (ht _ (List.mem_of_getElem? (i := 121) (by decide +kernel)))
  obtain ⟨c4, i4, k4⟩ := u_known (C := RX4) (T := TX4) (N := 2) (n := 2) hts (fun w hw => TsG_l (iw_X4 w hw)) (ht _ (List.mem_of_getElem? (i := 167) (by decide +kernel)))
  obtain ⟨c5, i5, k5⟩ := u_known (C := RX5) (T := TX5) (N := 2) (n := 2) hts (fun w hw => TsG_l (iw_X5 w hw)) (ht _ (List.mem_of_getElem? (i := 154) (by decide +kernel)))
  obtain ⟨c6, i6, k6⟩ := u_known (C := RX6) (T := TX6) (N := 2) (n := 2) hts (fun w hw => TsG_l (iw_X6 w hw)) (ht _ (List.mem_of_getElem? (i := 31) (by decide +kernel)))
  obtain ⟨c7, i7, k7⟩ := u_known (C := RX7) (T := TX7) (N := 6) (n := 6) hts (fun w hw => TsG_l (iw_X7 w hw)) (ht _ (List.mem_of_getElem? (i := 23) (by decide +kernel)))
  obtain ⟨a0, r0⟩ := st_rc (t := .char) (ht _ (List.mem_of_getElem? (i := 43) (by decide +kernel))) (fun _ h => h)
  obtain ⟨a1, r1⟩ := st_rc (t := .int) (ht _ (List.mem_of_getElem? (i := 72) (by decide +kernel))) (fun _ h => h)
  have ov := fun w hw => ht w (st_ov_in w hw)
  obtain ⟨a4, r4⟩ := st_ro (ov _ (List.mem_of_getElem? (i := 0) rfl))
  obtain ⟨a5, r5⟩ := st_ro (ov _ (List.mem_of_getElem? (i := 1) rfl))
  obtain ⟨a6, r6⟩ := st_ra (ov _ (List.mem_of_getElem? (i := 2) rfl))
  refine ⟨fun k => if k = 0 then a0 else if k = 1 then a1 else if k = 2 then a1 else if k = 3 then a1 else if k = 4 then a4 else if k = 5 then a5 else a6, (fun k => if k = 0 then c0 else if k = 1 then c1 else if k = 2 then c2 else if k = 3 then c3 else if k = 4 then c4 else if k = 5 then c5 else if k = 6 then c6 else c7, fun k => if k = 0 then i0 else if k = 1 then i1 else if k = 2 then i2 else if k = 3 then i3 else if k = 4 then i4 else if k = 5 then i5 else if k = 6 then i6 else i7), ⟨⟨?_, ?_⟩, ⟨fun i j _ _ h => by have h : s.heap.size + i = s.heap.size + j := h; omega, fun k _ => Nat.le_add_right _ _⟩, Nat.le_refl _, ⟨?_, ?_, ?_, ?_, ?_, ?_⟩, ?_⟩, ⟨va_AO.of (ov _ (List.mem_of_getElem? (i := 0) rfl)), va_AO.of (ov _ (List.mem_of_getElem? (i := 1) rfl)), va_AOA.of (ov _ (List.mem_of_getElem? (i := 2) rfl))⟩⟩
  · intro k q hq
    match k, hq with
    | 0, hq => cases hq; exact k0
    | 1, hq => cases hq; exact k1
    | 2, hq => cases hq; exact k2
    | 3, hq => cases hq; exact k3
    | 4, hq => cases hq; exact k4
    | 5, hq => cases hq; exact k5
    | 6, hq => cases hq; exact k6
    | 7, hq => cases hq; exact k7
    | k + 8, hq => simp [vwCl] at hq
  · intro k q hq
    match k, hq with
    | 0, hq => cases hq; exact r0
    | 1, hq => cases hq; exact r1
    | 2, hq => cases hq; exact r1
    | 3, hq => cases hq; exact r1
    | 4, hq => cases hq; exact r4
    | 5, hq => cases hq; exact r5
    | 6, hq => cases hq; exact r6
    | k + 7, hq => simp [gx_tys] at hq
  · exact vx_Zqof (ov _ (List.mem_of_getElem? (i := 3) rfl)) (ov _ (List.mem_of_getElem? (i := 5) rfl)) (hs _ (st_ref_in _ (List.mem_of_getElem? (i := 0) rfl))) (fun a h => Nat.not_le.mpr h)
  · exact vx_Zqof (ov _ (List.mem_of_getElem? (i := 4) rfl)) (ov _ (List.mem_of_getElem? (i := 5) rfl)) (hs _ (st_ref_in _ (List.mem_of_getElem? (i := 1) rfl))) (fun a h => Nat.not_le.mpr h)
  · intro q hq
    obtain ⟨i, hi⟩ := List.getElem?_of_mem hq
    have hw : st_sw[i]? = some (.stringRef "Monobuild" q.1 q.2) := by
      have e : st_sw = gx_strs.map (fun q => .stringRef "Monobuild" q.1 q.2) := rfl
      rw [e, List.getElem?_map, hi]
      rfl
    have he : st_se[i]? = some (.exactly (.string "Monobuild" q.1) "java/lang/String") := by
      have e : st_se = gx_strs.map (fun q => .exactly (.string "Monobuild" q.1) "java/lang/String") := rfl
      rw [e, List.getElem?_map, hi]
      rfl
    exact st_str (ht _ (st_sw_in _ (List.mem_of_getElem? hw))) (hs _ (st_se_in _ (List.mem_of_getElem? he)))
  · intro q hq
    exact va_Nc.of (hs _ (st_ncs_in q hq))
  · intro q hq
    exact va_Nw.of rfl (ht _ (st_cas_in q hq))
  · intro q hq
    exact va_Nw.of rfl (ht _ (st_dec_in q hq))
  · intro q hq
    exact va_Nw.of rfl (ht _ (st_nst_in q hq))
theorem law_rem (x : Int32) : ∃ k, k < 1000 ∧ ((x &&& (1023 : Int32)) - (x &&& (1023 : Int32)) / (1000 : Int32) * (1000 : Int32)) = nI k := by
  have h1 : (x &&& (1023 : Int32)) = nI (x.toBitVec.toNat % 1024) := by
    apply Int32.toBitVec_inj.mp
    apply BitVec.eq_of_toNat_eq
    show (x.toBitVec &&& 1023#32).toNat = (BitVec.ofNat 32 _).toNat
    have h2 : x.toBitVec.toNat % 1024 < 1024 := Nat.mod_lt _ (by decide)
    rw [BitVec.toNat_and, BitVec.toNat_ofNat, BitVec.toNat_ofNat, Nat.mod_eq_of_lt (a := 1023) (by decide), Nat.mod_eq_of_lt (a := x.toBitVec.toNat % 1024) (by omega)]
    exact Nat.and_two_pow_sub_one_eq_mod x.toBitVec.toNat 10
  rw [h1]
  have h2 : x.toBitVec.toNat % 1024 < 1024 := Nat.mod_lt _ (by decide)
  generalize x.toBitVec.toNat % 1024 = n at h2
  exact ⟨n % 1000, Nat.mod_lt _ (by decide), (by decide +kernel : ∀ n, n < 1024 → nI n - nI n / (1000 : Int32) * (1000 : Int32) = nI (n % 1000)) n h2⟩
set_option maxHeartbeats 8000000 in
set_option maxRecDepth 100000 in
theorem start_open {p : Program} {e : Env} {s : State} {m : MethodId} {below : List Frame} {meth : Method} {c : Code} (l : Launch) (hflags : l.flags = flags0) {b L : Nat} {xs : Nat → Int32} (hL : L ≤ 260) (C0 : lw_At p s m meth c b L xs) (pg : fL_globs = some (1 : Int32)) (pr : fL_runs = some (1 : Int32)) (pb : ∀ k : Nat, k < 1000 → fL_bounds (nI k) = some (1 : Int32)) : W p l e room_1 s m #[Value.ref b] below meth c s.heap [] 0 0 (lw_Z below #[Value.ref b] s) (entryFrame m ([Value.ref b] : List Value).toArray 1) := by
  obtain ⟨ca, D, hG, hX⟩ := st_K C0
  obtain ⟨hx, hb, hr, hml, hown, hts, hXs, hbl, hlocks, hgv⟩ := id C0
  have hl0 : l.stackTraces = false := by
    unfold Launch.stackTraces
    rw [hflags]
    decide +kernel
  have S : CallFix p m c code 1 s #[Value.ref b] TsG RL := ⟨hx, hb, hml, hown, fun w h => hts w (TsG_l h)⟩
  have hbA : ¬ gA (gB s.heap.size ca D) b := Nat.not_le.mpr hbl
  have hl := lv_entry ([.ref b]) (n := 1) (Nat.le_of_ble_eq_true rfl)
  rw [lg_entry_eq]
  generalize (lg_sl ([.ref b]) ++ List.replicate (1 - (lg_sl ([.ref b])).length) Slot.unset).toArray = ls at hl ⊢
  have hl : lv_has ls 1 [(0, .ref b)] := hl
  have hS : va_S (gA (gB s.heap.size ca D)) s.heap s.heap [] := va_S.rf
  have hz0 : s.heap.size ≤ s.heap.size := Nat.le_refl _
  refine kk_run (rest := []) S hG hX hz0 hS [] (c_L_globs l hl0 _ ca D pg) pk_L_globs ml_L_150 rfl rfl ⟨Nat.le_of_ble_eq_true rfl, Nat.le_of_ble_eq_true rfl⟩ rfl hl.1 rfl (Nat.le_of_ble_eq_true rfl) dL_law_0 ⟨by show 0 + 1474 ≤ 600172; omega, by show 0 + 38844 ≤ 7300668; omega⟩ (fun H locs hz hS => ?_)
  have hz0 : s.heap.size ≤ H.size := hS.1
  refine lv_if_eq (tgt := 42) hx hb dL_law_3 (by decide) (fun c => absurd c (by decide)) (fun _ => ?_)
  refine kk_run (rest := []) S hG hX hz0 hS [] (c_L_runs l hl0 _ ca D pr) pk_L_runs ml_L_153 rfl rfl ⟨Nat.le_of_ble_eq_true rfl, Nat.le_of_ble_eq_true rfl⟩ rfl hl.1 rfl (Nat.le_of_ble_eq_true rfl) dL_law_6 ⟨by show 0 + 1474 + 2080 ≤ 600172; omega, by show 0 + 38844 + 42480 ≤ 7300668; omega⟩ (fun H locs hz hS => ?_)
  have hz0 : s.heap.size ≤ H.size := hS.1
  refine lv_if_eq (tgt := 42) hx hb dL_law_9 (by decide) (fun c => absurd c (by decide)) (fun _ => ?_)
  have FIN : ∀ (x : Int32), (∃ k, k < 1000 ∧ x = nI k) → W p l e room_1 s m #[Value.ref b] below meth c H locs (3554) (81324) (lw_Z below #[Value.ref b] s) (F0 m 32 ls [.int x]) := by
    intro x hk
    obtain ⟨k, hk, rfl⟩ := hk
    refine kk_run (rest := []) S hG hX hz0 hS [.int (nI k)] (c_L_bounds l hl0 _ ca D (nI k) (pb k hk)) pk_L_bounds ml_L_156 rfl rfl ⟨Nat.le_of_ble_eq_true rfl, Nat.le_of_ble_eq_true rfl⟩ rfl hl.1 rfl (Nat.le_of_ble_eq_true rfl) dL_law_32 ⟨by show 3554 + 2393 ≤ 600172; omega, by show 81324 + 44358 ≤ 7300668; omega⟩ (fun H locs hz hS => ?_)
    refine lv_if_eq (tgt := 42) hx hb dL_law_35 (by decide) (fun c => absurd c (by decide)) (fun _ => ?_)
    refine lv_iconst (v := (1 : Int32)) hx hb dL_law_38 (by decide) ?_
    refine lv_goto (tgt := 43) hx hb dL_law_39 (by decide) ?_
    refine va_forget (fun q hq => hS.2.2 q hq) ?_
    refine W.widen (k := 600172) (n := 7300668) (Nat.le_of_ble_eq_true rfl) (Nat.le_of_ble_eq_true rfl) ?_
    exact lw_ret hx hb hr hlocks dL_law_43
  refine W.widen (k := 3554) (n := 81324) (Nat.le_of_ble_eq_true rfl) (Nat.le_of_ble_eq_true rfl) ?_
  refine lv_aload_n hx hb dL_law_12 rfl (lv_at hl 0 rfl) ?_
  refine va_slen hx hb hXs hbl hbA hS dL_law_13 ?_
  refine lv_if_ne (tgt := 21) hx hb dL_law_14 (by decide) (fun c14 => ?_) (fun _ => ?_)
  · have g23 : vp_in (0 : Int32) L := by
      have h0 : L ≠ 0 := fun h => c14 (by rw [h]; rfl)
      refine vp_in_iff.mpr ⟨by decide, ?_⟩
      show (0 : Int) < L
      omega
    refine lv_aload_n hx hb dL_law_21 rfl (lv_at hl 0 rfl) ?_
    refine lv_iconst (v := (0 : Int32)) hx hb dL_law_22 (by decide) ?_
    refine va_sld hx hb hXs hbl hbA hS g23 dL_law_23 ?_
    refine lv_sipush (v := (1023 : Int32)) hx hb dL_law_24 (by decide) ?_
    refine lv_iand hx hb dL_law_27 ?_
    refine lv_sipush (v := (1000 : Int32)) hx hb dL_law_28 (by decide) ?_
    refine lv_irem hx hb dL_law_31 (by decide) ?_
    exact FIN _ (law_rem _)
  · refine lv_iconst (v := (0 : Int32)) hx hb dL_law_17 (by decide) ?_
    refine lv_goto (tgt := 32) hx hb dL_law_18 (by decide) ?_
    exact FIN _ ⟨0, by decide, rfl⟩
