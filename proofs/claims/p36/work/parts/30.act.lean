/-! the law's methods: how much is left of a loop; a body that uses cells -/
def rmn (L i : Int32) : Nat := (L.toInt - i.toInt).toNat
theorem rmn_s {L i : Int32} (h : ¬ L ≤ i) : rmn L (i + (1 : Int32)) + 1 ≤ rmn L i := by
  have h1 : i.toInt < L.toInt := by
    rw [Int32.le_iff_toInt_le] at h
    omega
  have h2 := L.toInt_lt
  have h3 := i.le_toInt
  have e : (i + (1 : Int32)).toInt = i.toInt + 1 := by
    rw [Int32.toInt_add, show (1 : Int32).toInt = 1 from rfl]
    exact Int.bmod_eq_of_le (by omega) (by omega)
  unfold rmn
  rw [e]
  omega
theorem cov9 {pc9 a b : Nat} (h : pc9 < 303) : covers ⟨0, 303, a, b⟩ pc9 = true := by
  simp [covers, h]
theorem gl_of {l : Launch} {Γ : gx_G} {C M C' M' : Mem} {y : MethodName} {bytes : ByteArray} {maxL mc ms : Nat} {ty : FieldType} {rm : Room} {av : List Value} {r : Int32} (hy : plainName y.cls = true) (hsz : (lg_sl av).length ≤ maxL)
    (body : ∀ (p : Program) (e : Env) (s : State) (m : MethodId) (args : Array Value) (below : List Frame) (meth : Method) (c : Code) (Q : State → Prop), CallFix p m c bytes maxL s args TsG y.cls → gx_K Γ s → (∀ (pc : Nat) (ls : Array Slot) (H : Heap) (locs : List Loc) (v : Int32) (cells slots : Nat), gx_W Γ C' M' H → va_S (gA Γ) s.heap H locs → narrow ty (.int v) = .int v → v = r → cells ≤ mc → slots ≤ ms → decode bytes pc = .ok (.ireturn, 1) → W p l e rm s m args below meth c H locs cells slots Q (F0 m pc ls [.int v])) → ∀ (ls : Array Slot) (H : Heap) (locs : List Loc), lv_has ls maxL (lv_args 0 av) → gx_W Γ C M H → va_S (gA Γ) s.heap H locs → W p l e rm s m args below meth c H locs 0 0 Q (F0 m 0 ls [])) :
    Met l y (.code y bytes maxL (some ty) :: TsG) rm (va_Pc av (gx_P Γ C M)) (gx_Qi Γ r C' M') mc ms (gA Γ) :=
  gm_of hy hsz (fun p e s m below meth c S hlk hr hG => body p e s m _ below meth c _ S hG (fun _ _ _ _ _ _ _ hW hS hn hv hc hs hd => W.widen hc hs (gr_i S hlk hr hW hS hn hv hd)))

/-! what act answers to an exception -/
noncomputable def ctch (k : Nat) (C : Mem) : Option (Int32 × Mem) := cnd (k = 3) (some ((-31 : Int32), C)) (cnd (k = 1) (some ((-32 : Int32), C)) (cnd (k = 2) (some ((-33 : Int32), C)) none))
noncomputable def fL_act (C : Mem) (a2 a3 a4 : Int32) : Option (Int32 × Mem) := cnd (a2 = (0 : Int32)) (bnd (fX7_type C ((a3.toUInt32 % 65536).toInt32)) fun q => sw q.1 (fun r => some (r, q.2)) (fun k => ctch k q.2)) (cnd (a2 = (1 : Int32)) (bnd (fX7_addFile C a3) fun q => sw q.1 (fun r => some (r, q.2)) (fun k => ctch k q.2)) (cnd (a2 = (2 : Int32)) (bnd (fX7_edit C a3 a4) fun q => sw q.1 (fun r => some (r, q.2)) (fun k => ctch k q.2)) (cnd (a2 = (3 : Int32)) (bnd (fX7_delete C a3) fun q => sw q.1 (fun r => some (r, q.2)) (fun k => ctch k q.2)) (cnd (a2 = (4 : Int32)) (bnd (fX7_matches C a3) fun q => sw q (fun r => cnd (r = (0 : Int32)) (some ((0 : Int32), C)) (some ((1 : Int32), C))) (fun k => ctch k C)) (cnd (a2 = (5 : Int32)) (bnd (fX7_addTarget C a3) fun q => sw q.1 (fun r => some (r, q.2)) (fun k => ctch k q.2)) (cnd (a2 = (6 : Int32)) (bnd (fX7_addGlob C a3) fun q => sw q.1 (fun r => some (r, q.2)) (fun k => ctch k q.2)) (cnd (a2 = (7 : Int32)) (bnd (fX7_depend C a3 a4) fun q => sw q.1 (fun r => some (r, q.2)) (fun k => ctch k q.2)) (cnd (a2 = (8 : Int32)) (bnd (fX7_inputs C a3) fun q => sw q (fun r => some (r, C)) (fun k => ctch k C)) (cnd (a2 = (9 : Int32)) (bnd (fX7_above C a3) fun q => sw q (fun r => some (r, C)) (fun k => ctch k C)) (cnd (a2 = (10 : Int32)) (bnd (fX7_orderAt C a3) fun q => sw q.1 (fun r => some (r, q.2)) (fun k => ctch k q.2)) (cnd (a2 = (11 : Int32)) (bnd (fX7_affectedBy C a3) fun q => sw q (fun r => some (r, C)) (fun k => ctch k C)) (cnd (a2 = (12 : Int32)) (bnd (fX7_affectedByGoingDown C a3) fun q => sw q (fun r => some (r, C)) (fun k => ctch k C)) (cnd (a2 = (13 : Int32)) (bnd (fX7_keyOf C a3) fun q => sw q.1 (fun r => some (r, q.2)) (fun k => ctch k q.2)) (cnd (a2 = (14 : Int32)) (bnd (fX7_whyRun C a3) fun q => sw q.1 (fun r => some (r, q.2)) (fun k => ctch k q.2)) (cnd (a2 = (15 : Int32)) (bnd (fX7_run C a3) fun q => sw q.1 (fun r => some (r, q.2)) (fun k => ctch k q.2)) (cnd (a2 = (16 : Int32)) (bnd (fX7_runAll C) fun q => sw q.1 (fun r => some (r, q.2)) (fun k => ctch k q.2)) (cnd (a2 = (17 : Int32)) (bnd (fX7_shardOf C a3 a4) fun q => sw q.1 (fun r => some (r, q.2)) (fun k => ctch k q.2)) (cnd (a2 = (18 : Int32)) (bnd (fX7_longestShard C a3) fun q => sw q.1 (fun r => some (r, q.2)) (fun k => ctch k q.2)) (cnd (a2 = (19 : Int32)) (bnd (fX7_shardsFor C a3) fun q => sw q.1 (fun r => some (r, q.2)) (fun k => ctch k q.2)) (cnd (a2 = (20 : Int32)) (bnd (fX7_addRule C a3) fun q => sw q.1 (fun r => some (r, q.2)) (fun k => ctch k q.2)) (bnd (fX7_ownerOf C a3) fun q => sw q (fun r => some (r, C)) (fun k => ctch k C))))))))))))))))))))))
abbrev rm_L_act : Room := { frames := 8, cells := 3, slots := 18, locals := 159 }
set_option maxRecDepth 100000 in
theorem pk_L_act : PkW yL_act cL_act 5 (some .int) [(0, 303, 304, 80), (0, 303, 309, 82), (0, 303, 314, 84)] 4 := ⟨TsG_t (show _ ∈ tables_1 from (List.mem_append_right _ (List.mem_append_left _ (List.mem_of_getElem? (i := 11) rfl)))) rfl, TsG_t (List.mem_of_getElem? (i := 250) (by decide +kernel)) (by decide +kernel), in_L, by decide +kernel, by decide +kernel, by decide +kernel⟩
set_option maxRecDepth 100000 in
set_option maxHeartbeats 40000000 in
theorem c_L_act (l : Launch) (hl0 : l.stackTraces = false) (Γ : gx_G) (C M : Mem) (a2 a3 a4 : Int32) {y0 : Int32 × Mem} (hf : fL_act C a2 a3 a4 = some y0) : Met l yL_act (.codeWith yL_act cL_act 5 (some .int) [(0, 303, 304, 80), (0, 303, 309, 82), (0, 303, 314, 84)] :: TsG) rm_L_act (va_Pc [.ref (Γ.1 0), .int a2, .int a3, .int a4] (gx_P Γ C M)) (gx_Qi Γ y0.1 y0.2 M) 3 18 (gA Γ) := by
  refine gl_ofW (by decide) (Nat.le_of_ble_eq_true rfl) ?_
  intro p e s m args below meth c Q S htab hG hret ls H locs hl hW hS
  obtain ⟨hx, hb, hml, hown, hts⟩ := id S
  have hl : lv_has ls 5 [(0, .ref (Γ.1 0)), (1, .int a2), (2, .int a3), (3, .int a4)] := hl
  have CT : ∀ (pc9 : Nat) (H : Heap) (locs : List Loc) (k9 : Nat) (ce9 : Cell) (z9 : Nat) (C1 : Mem) (cs ss : Nat) (rest : List Value), pc9 < 303 → ctch k9 C1 = some y0 → gx_W Γ C1 M H → va_S (gA Γ) s.heap H locs → H[z9]? = some ce9 → ce9.vm = .none → s.vm.findClass (xnm k9) = some ce9.cls → cs ≤ 3 → ss ≤ 18 → vx_W p l e rm_L_act s m args below meth c H locs cs ss Q (F0 m pc9 ls rest) z9 := by
    intro pc9 H locs k9 ce9 z9 C1 cs ss rest hpc hf hW hS hce hcv hcl hcs hss
    unfold ctch at hf
    by_cases d0 : k9 = 3
    · have hf := cn_t d0 hf
      have e8 := Option.some.inj hf
      subst e8
      subst d0
      refine gl_catch (k := 3) S hG [] ⟨0, 303, 304, 80⟩ [⟨0, 303, 309, 82⟩, ⟨0, 303, 314, 84⟩] htab (fun z hz => by cases hz) (cov9 hpc) (by decide) cl_L_80 (by decide +kernel) hce hcv hcl ?_
      refine lv_astore (lv' := [(4, .ref z9), (0, .ref (Γ.1 0)), (1, .int a2), (2, .int a3), (3, .int a4)]) hx hb dL_act_304 hl (by decide) rfl (fun ls hl => ?_)
      refine lv_bipush (v := (-31 : Int32)) hx hb dL_act_306 (by decide) ?_
      exact hret _ _ _ _ _ _ _ hW hS rfl hcs hss dL_act_308
    · have hf := cn_f d0 hf
      by_cases d1 : k9 = 1
      · have hf := cn_t d1 hf
        have e8 := Option.some.inj hf
        subst e8
        subst d1
        refine gl_catch (k := 1) S hG [⟨0, 303, 304, 80⟩] ⟨0, 303, 309, 82⟩ [⟨0, 303, 314, 84⟩] htab (fun z hz => (List.mem_cons.mp hz).elim (fun e => e ▸ ⟨by decide, _, cl_L_80, by decide +kernel⟩) (fun hz => nomatch hz)) (cov9 hpc) (by decide) cl_L_82 (by decide +kernel) hce hcv hcl ?_
        refine lv_astore (lv' := [(4, .ref z9), (0, .ref (Γ.1 0)), (1, .int a2), (2, .int a3), (3, .int a4)]) hx hb dL_act_309 hl (by decide) rfl (fun ls hl => ?_)
        refine lv_bipush (v := (-32 : Int32)) hx hb dL_act_311 (by decide) ?_
        exact hret _ _ _ _ _ _ _ hW hS rfl hcs hss dL_act_313
      · have hf := cn_f d1 hf
        by_cases d2 : k9 = 2
        · have hf := cn_t d2 hf
          have e8 := Option.some.inj hf
          subst e8
          subst d2
          refine gl_catch (k := 2) S hG [⟨0, 303, 304, 80⟩, ⟨0, 303, 309, 82⟩] ⟨0, 303, 314, 84⟩ [] htab (fun z hz => (List.mem_cons.mp hz).elim (fun e => e ▸ ⟨by decide, _, cl_L_80, by decide +kernel⟩) (fun hz => (List.mem_cons.mp hz).elim (fun e => e ▸ ⟨by decide, _, cl_L_82, by decide +kernel⟩) (fun hz => nomatch hz))) (cov9 hpc) (by decide) cl_L_84 (by decide +kernel) hce hcv hcl ?_
          refine lv_astore (lv' := [(4, .ref z9), (0, .ref (Γ.1 0)), (1, .int a2), (2, .int a3), (3, .int a4)]) hx hb dL_act_314 hl (by decide) rfl (fun ls hl => ?_)
          refine lv_bipush (v := (-33 : Int32)) hx hb dL_act_316 (by decide) ?_
          exact hret _ _ _ _ _ _ _ hW hS rfl hcs hss dL_act_318
        · have hf := cn_f d2 hf
          cases hf
  unfold fL_act at hf
  refine lv_iload_n hx hb dL_act_0 rfl (lv_at hl 1 rfl) ?_
  refine lv_if_ne (tgt := 13) hx hb dL_act_1 (by decide) (fun d0 => ?_) (fun d0 => ?_)
  rotate_left
  · have hf := cn_t d0 hf
    obtain ⟨q, hq, hf⟩ := bnd_e hf
    refine lv_aload_n hx hb dL_act_4 rfl (lv_at hl 0 rfl) ?_
    refine lv_iload_n hx hb dL_act_5 rfl (lv_at hl 2 rfl) ?_
    refine lv_i2c (v := ((a3.toUInt32 % 65536).toInt32)) hx hb dL_act_6 rfl ?_
    refine gxk_i hS (gvx_run (rest := []) S hG hW hS [.int ((a3.toUInt32 % 65536).toInt32)] (c_X7_type l hl0 Γ C M ((a3.toUInt32 % 65536).toInt32) hq) pk_X7_type rfl ml_L_7 rfl rfl ⟨Nat.le_of_ble_eq_true rfl, Nat.le_of_ble_eq_true rfl⟩ rfl hl.1 rfl (Nat.le_of_ble_eq_true rfl) dL_act_7 ⟨Nat.le_of_ble_eq_true rfl, Nat.le_of_ble_eq_true rfl⟩) (fun H locs k9 ce9 z9 hW hS e9 hce hcv hcl => CT _ H locs k9 ce9 z9 _ _ _ _ (by decide) (sw_r e9 hf) hW hS hce hcv hcl (Nat.le_of_ble_eq_true rfl) (Nat.le_of_ble_eq_true rfl)) (fun H locs r9 hW hS e9 => ?_)
    have hf := sw_l e9 hf
    have e8 := Option.some.inj hf
    subst e8
    refine lv_goto (tgt := 303) hx hb dL_act_10 (by decide) ?_
    exact hret _ _ _ _ _ _ _ hW hS rfl (Nat.le_of_ble_eq_true rfl) (Nat.le_of_ble_eq_true rfl) dL_act_303
  · have hf := cn_f d0 hf
    refine lv_iload_n hx hb dL_act_13 rfl (lv_at hl 1 rfl) ?_
    refine lv_iconst (v := (1 : Int32)) hx hb dL_act_14 (by decide) ?_
    refine lv_icmp_ne (tgt := 26) hx hb dL_act_15 (by decide) (fun d1 => ?_) (fun d1 => ?_)
    rotate_left
    · have hf := cn_t d1 hf
      obtain ⟨q, hq, hf⟩ := bnd_e hf
      refine lv_aload_n hx hb dL_act_18 rfl (lv_at hl 0 rfl) ?_
      refine lv_iload_n hx hb dL_act_19 rfl (lv_at hl 2 rfl) ?_
      refine gxk_i hS (gvx_run (rest := []) S hG hW hS [.int a3] (c_X7_addFile l hl0 Γ C M a3 hq) pk_X7_addFile rfl ml_L_13 rfl rfl ⟨Nat.le_of_ble_eq_true rfl, Nat.le_of_ble_eq_true rfl⟩ rfl hl.1 rfl (Nat.le_of_ble_eq_true rfl) dL_act_20 ⟨Nat.le_of_ble_eq_true rfl, Nat.le_of_ble_eq_true rfl⟩) (fun H locs k9 ce9 z9 hW hS e9 hce hcv hcl => CT _ H locs k9 ce9 z9 _ _ _ _ (by decide) (sw_r e9 hf) hW hS hce hcv hcl (Nat.le_of_ble_eq_true rfl) (Nat.le_of_ble_eq_true rfl)) (fun H locs r9 hW hS e9 => ?_)
      have hf := sw_l e9 hf
      have e8 := Option.some.inj hf
      subst e8
      refine lv_goto (tgt := 303) hx hb dL_act_23 (by decide) ?_
      exact hret _ _ _ _ _ _ _ hW hS rfl (Nat.le_of_ble_eq_true rfl) (Nat.le_of_ble_eq_true rfl) dL_act_303
    · have hf := cn_f d1 hf
      refine lv_iload_n hx hb dL_act_26 rfl (lv_at hl 1 rfl) ?_
      refine lv_iconst (v := (2 : Int32)) hx hb dL_act_27 (by decide) ?_
      refine lv_icmp_ne (tgt := 40) hx hb dL_act_28 (by decide) (fun d2 => ?_) (fun d2 => ?_)
      rotate_left
      · have hf := cn_t d2 hf
        obtain ⟨q, hq, hf⟩ := bnd_e hf
        refine lv_aload_n hx hb dL_act_31 rfl (lv_at hl 0 rfl) ?_
        refine lv_iload_n hx hb dL_act_32 rfl (lv_at hl 2 rfl) ?_
        refine lv_iload_n hx hb dL_act_33 rfl (lv_at hl 3 rfl) ?_
        refine gxk_i hS (gvx_run (rest := []) S hG hW hS [.int a3, .int a4] (c_X7_edit l hl0 Γ C M a3 a4 hq) pk_X7_edit rfl ml_L_17 rfl rfl ⟨Nat.le_of_ble_eq_true rfl, Nat.le_of_ble_eq_true rfl⟩ rfl hl.1 rfl (Nat.le_of_ble_eq_true rfl) dL_act_34 ⟨Nat.le_of_ble_eq_true rfl, Nat.le_of_ble_eq_true rfl⟩) (fun H locs k9 ce9 z9 hW hS e9 hce hcv hcl => CT _ H locs k9 ce9 z9 _ _ _ _ (by decide) (sw_r e9 hf) hW hS hce hcv hcl (Nat.le_of_ble_eq_true rfl) (Nat.le_of_ble_eq_true rfl)) (fun H locs r9 hW hS e9 => ?_)
        have hf := sw_l e9 hf
        have e8 := Option.some.inj hf
        subst e8
        refine lv_goto (tgt := 303) hx hb dL_act_37 (by decide) ?_
        exact hret _ _ _ _ _ _ _ hW hS rfl (Nat.le_of_ble_eq_true rfl) (Nat.le_of_ble_eq_true rfl) dL_act_303
      · have hf := cn_f d2 hf
        refine lv_iload_n hx hb dL_act_40 rfl (lv_at hl 1 rfl) ?_
        refine lv_iconst (v := (3 : Int32)) hx hb dL_act_41 (by decide) ?_
        refine lv_icmp_ne (tgt := 53) hx hb dL_act_42 (by decide) (fun d3 => ?_) (fun d3 => ?_)
        rotate_left
        · have hf := cn_t d3 hf
          obtain ⟨q, hq, hf⟩ := bnd_e hf
          refine lv_aload_n hx hb dL_act_45 rfl (lv_at hl 0 rfl) ?_
          refine lv_iload_n hx hb dL_act_46 rfl (lv_at hl 2 rfl) ?_
          refine gxk_i hS (gvx_run (rest := []) S hG hW hS [.int a3] (c_X7_delete l hl0 Γ C M a3 hq) pk_X7_delete rfl ml_L_21 rfl rfl ⟨Nat.le_of_ble_eq_true rfl, Nat.le_of_ble_eq_true rfl⟩ rfl hl.1 rfl (Nat.le_of_ble_eq_true rfl) dL_act_47 ⟨Nat.le_of_ble_eq_true rfl, Nat.le_of_ble_eq_true rfl⟩) (fun H locs k9 ce9 z9 hW hS e9 hce hcv hcl => CT _ H locs k9 ce9 z9 _ _ _ _ (by decide) (sw_r e9 hf) hW hS hce hcv hcl (Nat.le_of_ble_eq_true rfl) (Nat.le_of_ble_eq_true rfl)) (fun H locs r9 hW hS e9 => ?_)
          have hf := sw_l e9 hf
          have e8 := Option.some.inj hf
          subst e8
          refine lv_goto (tgt := 303) hx hb dL_act_50 (by decide) ?_
          exact hret _ _ _ _ _ _ _ hW hS rfl (Nat.le_of_ble_eq_true rfl) (Nat.le_of_ble_eq_true rfl) dL_act_303
        · have hf := cn_f d3 hf
          refine lv_iload_n hx hb dL_act_53 rfl (lv_at hl 1 rfl) ?_
          refine lv_iconst (v := (4 : Int32)) hx hb dL_act_54 (by decide) ?_
          refine lv_icmp_ne (tgt := 74) hx hb dL_act_55 (by decide) (fun d4 => ?_) (fun d4 => ?_)
          rotate_left
          · have hf := cn_t d4 hf
            obtain ⟨q, hq, hf⟩ := bnd_e hf
            refine lv_aload_n hx hb dL_act_58 rfl (lv_at hl 0 rfl) ?_
            refine lv_iload_n hx hb dL_act_59 rfl (lv_at hl 2 rfl) ?_
            refine gxk_i hS (gvx_run (rest := []) S hG hW hS [.int a3] (c_X7_matches l hl0 Γ C M a3 hq) pk_X7_matches rfl ml_L_24 rfl rfl ⟨Nat.le_of_ble_eq_true rfl, Nat.le_of_ble_eq_true rfl⟩ rfl hl.1 rfl (Nat.le_of_ble_eq_true rfl) dL_act_60 ⟨Nat.le_of_ble_eq_true rfl, Nat.le_of_ble_eq_true rfl⟩) (fun H locs k9 ce9 z9 hW hS e9 hce hcv hcl => CT _ H locs k9 ce9 z9 _ _ _ _ (by decide) (sw_r e9 hf) hW hS hce hcv hcl (Nat.le_of_ble_eq_true rfl) (Nat.le_of_ble_eq_true rfl)) (fun H locs r9 hW hS e9 => ?_)
            have hf := sw_l e9 hf
            refine lv_if_eq (tgt := 70) hx hb dL_act_63 (by decide) (fun dz => ?_) (fun dz => ?_)
            · have e8 := Option.some.inj (cn_t dz hf)
              subst e8
              refine lv_iconst (v := (0 : Int32)) hx hb dL_act_70 (by decide) ?_
              refine lv_goto (tgt := 303) hx hb dL_act_71 (by decide) ?_
              exact hret _ _ _ _ _ _ _ hW hS rfl (Nat.le_of_ble_eq_true rfl) (Nat.le_of_ble_eq_true rfl) dL_act_303
            · have e8 := Option.some.inj (cn_f dz hf)
              subst e8
              refine lv_iconst (v := (1 : Int32)) hx hb dL_act_66 (by decide) ?_
              refine lv_goto (tgt := 303) hx hb dL_act_67 (by decide) ?_
              exact hret _ _ _ _ _ _ _ hW hS rfl (Nat.le_of_ble_eq_true rfl) (Nat.le_of_ble_eq_true rfl) dL_act_303
          · have hf := cn_f d4 hf
            refine lv_iload_n hx hb dL_act_74 rfl (lv_at hl 1 rfl) ?_
            refine lv_iconst (v := (5 : Int32)) hx hb dL_act_75 (by decide) ?_
            refine lv_icmp_ne (tgt := 87) hx hb dL_act_76 (by decide) (fun d5 => ?_) (fun d5 => ?_)
            rotate_left
            · have hf := cn_t d5 hf
              obtain ⟨q, hq, hf⟩ := bnd_e hf
              refine lv_aload_n hx hb dL_act_79 rfl (lv_at hl 0 rfl) ?_
              refine lv_iload_n hx hb dL_act_80 rfl (lv_at hl 2 rfl) ?_
              refine gxk_i hS (gvx_run (rest := []) S hG hW hS [.int a3] (c_X7_addTarget l hl0 Γ C M a3 hq) pk_X7_addTarget rfl ml_L_28 rfl rfl ⟨Nat.le_of_ble_eq_true rfl, Nat.le_of_ble_eq_true rfl⟩ rfl hl.1 rfl (Nat.le_of_ble_eq_true rfl) dL_act_81 ⟨Nat.le_of_ble_eq_true rfl, Nat.le_of_ble_eq_true rfl⟩) (fun H locs k9 ce9 z9 hW hS e9 hce hcv hcl => CT _ H locs k9 ce9 z9 _ _ _ _ (by decide) (sw_r e9 hf) hW hS hce hcv hcl (Nat.le_of_ble_eq_true rfl) (Nat.le_of_ble_eq_true rfl)) (fun H locs r9 hW hS e9 => ?_)
              have hf := sw_l e9 hf
              have e8 := Option.some.inj hf
              subst e8
              refine lv_goto (tgt := 303) hx hb dL_act_84 (by decide) ?_
              exact hret _ _ _ _ _ _ _ hW hS rfl (Nat.le_of_ble_eq_true rfl) (Nat.le_of_ble_eq_true rfl) dL_act_303
            · have hf := cn_f d5 hf
              refine lv_iload_n hx hb dL_act_87 rfl (lv_at hl 1 rfl) ?_
              refine lv_bipush (v := (6 : Int32)) hx hb dL_act_88 (by decide) ?_
              refine lv_icmp_ne (tgt := 101) hx hb dL_act_90 (by decide) (fun d6 => ?_) (fun d6 => ?_)
              rotate_left
              · have hf := cn_t d6 hf
                obtain ⟨q, hq, hf⟩ := bnd_e hf
                refine lv_aload_n hx hb dL_act_93 rfl (lv_at hl 0 rfl) ?_
                refine lv_iload_n hx hb dL_act_94 rfl (lv_at hl 2 rfl) ?_
                refine gxk_i hS (gvx_run (rest := []) S hG hW hS [.int a3] (c_X7_addGlob l hl0 Γ C M a3 hq) pk_X7_addGlob rfl ml_L_31 rfl rfl ⟨Nat.le_of_ble_eq_true rfl, Nat.le_of_ble_eq_true rfl⟩ rfl hl.1 rfl (Nat.le_of_ble_eq_true rfl) dL_act_95 ⟨Nat.le_of_ble_eq_true rfl, Nat.le_of_ble_eq_true rfl⟩) (fun H locs k9 ce9 z9 hW hS e9 hce hcv hcl => CT _ H locs k9 ce9 z9 _ _ _ _ (by decide) (sw_r e9 hf) hW hS hce hcv hcl (Nat.le_of_ble_eq_true rfl) (Nat.le_of_ble_eq_true rfl)) (fun H locs r9 hW hS e9 => ?_)
                have hf := sw_l e9 hf
                have e8 := Option.some.inj hf
                subst e8
                refine lv_goto (tgt := 303) hx hb dL_act_98 (by decide) ?_
                exact hret _ _ _ _ _ _ _ hW hS rfl (Nat.le_of_ble_eq_true rfl) (Nat.le_of_ble_eq_true rfl) dL_act_303
              · have hf := cn_f d6 hf
                refine lv_iload_n hx hb dL_act_101 rfl (lv_at hl 1 rfl) ?_
                refine lv_bipush (v := (7 : Int32)) hx hb dL_act_102 (by decide) ?_
                refine lv_icmp_ne (tgt := 116) hx hb dL_act_104 (by decide) (fun d7 => ?_) (fun d7 => ?_)
                rotate_left
                · have hf := cn_t d7 hf
                  obtain ⟨q, hq, hf⟩ := bnd_e hf
                  refine lv_aload_n hx hb dL_act_107 rfl (lv_at hl 0 rfl) ?_
                  refine lv_iload_n hx hb dL_act_108 rfl (lv_at hl 2 rfl) ?_
                  refine lv_iload_n hx hb dL_act_109 rfl (lv_at hl 3 rfl) ?_
                  refine gxk_i hS (gvx_run (rest := []) S hG hW hS [.int a3, .int a4] (c_X7_depend l hl0 Γ C M a3 a4 hq) pk_X7_depend rfl ml_L_34 rfl rfl ⟨Nat.le_of_ble_eq_true rfl, Nat.le_of_ble_eq_true rfl⟩ rfl hl.1 rfl (Nat.le_of_ble_eq_true rfl) dL_act_110 ⟨Nat.le_of_ble_eq_true rfl, Nat.le_of_ble_eq_true rfl⟩) (fun H locs k9 ce9 z9 hW hS e9 hce hcv hcl => CT _ H locs k9 ce9 z9 _ _ _ _ (by decide) (sw_r e9 hf) hW hS hce hcv hcl (Nat.le_of_ble_eq_true rfl) (Nat.le_of_ble_eq_true rfl)) (fun H locs r9 hW hS e9 => ?_)
                  have hf := sw_l e9 hf
                  have e8 := Option.some.inj hf
                  subst e8
                  refine lv_goto (tgt := 303) hx hb dL_act_113 (by decide) ?_
                  exact hret _ _ _ _ _ _ _ hW hS rfl (Nat.le_of_ble_eq_true rfl) (Nat.le_of_ble_eq_true rfl) dL_act_303
                · have hf := cn_f d7 hf
                  refine lv_iload_n hx hb dL_act_116 rfl (lv_at hl 1 rfl) ?_
                  refine lv_bipush (v := (8 : Int32)) hx hb dL_act_117 (by decide) ?_
                  refine lv_icmp_ne (tgt := 130) hx hb dL_act_119 (by decide) (fun d8 => ?_) (fun d8 => ?_)
                  rotate_left
                  · have hf := cn_t d8 hf
                    obtain ⟨q, hq, hf⟩ := bnd_e hf
                    refine lv_aload_n hx hb dL_act_122 rfl (lv_at hl 0 rfl) ?_
                    refine lv_iload_n hx hb dL_act_123 rfl (lv_at hl 2 rfl) ?_
                    refine gxk_i hS (gvx_run (rest := []) S hG hW hS [.int a3] (c_X7_inputs l hl0 Γ C M a3 hq) pk_X7_inputs rfl ml_L_37 rfl rfl ⟨Nat.le_of_ble_eq_true rfl, Nat.le_of_ble_eq_true rfl⟩ rfl hl.1 rfl (Nat.le_of_ble_eq_true rfl) dL_act_124 ⟨Nat.le_of_ble_eq_true rfl, Nat.le_of_ble_eq_true rfl⟩) (fun H locs k9 ce9 z9 hW hS e9 hce hcv hcl => CT _ H locs k9 ce9 z9 _ _ _ _ (by decide) (sw_r e9 hf) hW hS hce hcv hcl (Nat.le_of_ble_eq_true rfl) (Nat.le_of_ble_eq_true rfl)) (fun H locs r9 hW hS e9 => ?_)
                    have hf := sw_l e9 hf
                    have e8 := Option.some.inj hf
                    subst e8
                    refine lv_goto (tgt := 303) hx hb dL_act_127 (by decide) ?_
                    exact hret _ _ _ _ _ _ _ hW hS rfl (Nat.le_of_ble_eq_true rfl) (Nat.le_of_ble_eq_true rfl) dL_act_303
                  · have hf := cn_f d8 hf
                    refine lv_iload_n hx hb dL_act_130 rfl (lv_at hl 1 rfl) ?_
                    refine lv_bipush (v := (9 : Int32)) hx hb dL_act_131 (by decide) ?_
                    refine lv_icmp_ne (tgt := 144) hx hb dL_act_133 (by decide) (fun d9 => ?_) (fun d9 => ?_)
                    rotate_left
                    · have hf := cn_t d9 hf
                      obtain ⟨q, hq, hf⟩ := bnd_e hf
                      refine lv_aload_n hx hb dL_act_136 rfl (lv_at hl 0 rfl) ?_
                      refine lv_iload_n hx hb dL_act_137 rfl (lv_at hl 2 rfl) ?_
                      refine gxk_i hS (gvx_run (rest := []) S hG hW hS [.int a3] (c_X7_above l hl0 Γ C M a3 hq) pk_X7_above rfl ml_L_40 rfl rfl ⟨Nat.le_of_ble_eq_true rfl, Nat.le_of_ble_eq_true rfl⟩ rfl hl.1 rfl (Nat.le_of_ble_eq_true rfl) dL_act_138 ⟨Nat.le_of_ble_eq_true rfl, Nat.le_of_ble_eq_true rfl⟩) (fun H locs k9 ce9 z9 hW hS e9 hce hcv hcl => CT _ H locs k9 ce9 z9 _ _ _ _ (by decide) (sw_r e9 hf) hW hS hce hcv hcl (Nat.le_of_ble_eq_true rfl) (Nat.le_of_ble_eq_true rfl)) (fun H locs r9 hW hS e9 => ?_)
                      have hf := sw_l e9 hf
                      have e8 := Option.some.inj hf
                      subst e8
                      refine lv_goto (tgt := 303) hx hb dL_act_141 (by decide) ?_
                      exact hret _ _ _ _ _ _ _ hW hS rfl (Nat.le_of_ble_eq_true rfl) (Nat.le_of_ble_eq_true rfl) dL_act_303
                    · have hf := cn_f d9 hf
                      refine lv_iload_n hx hb dL_act_144 rfl (lv_at hl 1 rfl) ?_
                      refine lv_bipush (v := (10 : Int32)) hx hb dL_act_145 (by decide) ?_
                      refine lv_icmp_ne (tgt := 158) hx hb dL_act_147 (by decide) (fun d10 => ?_) (fun d10 => ?_)
                      rotate_left
                      · have hf := cn_t d10 hf
                        obtain ⟨q, hq, hf⟩ := bnd_e hf
                        refine lv_aload_n hx hb dL_act_150 rfl (lv_at hl 0 rfl) ?_
                        refine lv_iload_n hx hb dL_act_151 rfl (lv_at hl 2 rfl) ?_
                        refine gxk_i hS (gvx_run (rest := []) S hG hW hS [.int a3] (c_X7_orderAt l hl0 Γ C M a3 hq) pk_X7_orderAt rfl ml_L_43 rfl rfl ⟨Nat.le_of_ble_eq_true rfl, Nat.le_of_ble_eq_true rfl⟩ rfl hl.1 rfl (Nat.le_of_ble_eq_true rfl) dL_act_152 ⟨Nat.le_of_ble_eq_true rfl, Nat.le_of_ble_eq_true rfl⟩) (fun H locs k9 ce9 z9 hW hS e9 hce hcv hcl => CT _ H locs k9 ce9 z9 _ _ _ _ (by decide) (sw_r e9 hf) hW hS hce hcv hcl (Nat.le_of_ble_eq_true rfl) (Nat.le_of_ble_eq_true rfl)) (fun H locs r9 hW hS e9 => ?_)
                        have hf := sw_l e9 hf
                        have e8 := Option.some.inj hf
                        subst e8
                        refine lv_goto (tgt := 303) hx hb dL_act_155 (by decide) ?_
                        exact hret _ _ _ _ _ _ _ hW hS rfl (Nat.le_of_ble_eq_true rfl) (Nat.le_of_ble_eq_true rfl) dL_act_303
                      · have hf := cn_f d10 hf
                        refine lv_iload_n hx hb dL_act_158 rfl (lv_at hl 1 rfl) ?_
                        refine lv_bipush (v := (11 : Int32)) hx hb dL_act_159 (by decide) ?_
                        refine lv_icmp_ne (tgt := 172) hx hb dL_act_161 (by decide) (fun d11 => ?_) (fun d11 => ?_)
                        rotate_left
                        · have hf := cn_t d11 hf
                          obtain ⟨q, hq, hf⟩ := bnd_e hf
                          refine lv_aload_n hx hb dL_act_164 rfl (lv_at hl 0 rfl) ?_
                          refine lv_iload_n hx hb dL_act_165 rfl (lv_at hl 2 rfl) ?_
                          refine gxk_i hS (gvx_run (rest := []) S hG hW hS [.int a3] (c_X7_affectedBy l hl0 Γ C M a3 hq) pk_X7_affectedBy rfl ml_L_46 rfl rfl ⟨Nat.le_of_ble_eq_true rfl, Nat.le_of_ble_eq_true rfl⟩ rfl hl.1 rfl (Nat.le_of_ble_eq_true rfl) dL_act_166 ⟨Nat.le_of_ble_eq_true rfl, Nat.le_of_ble_eq_true rfl⟩) (fun H locs k9 ce9 z9 hW hS e9 hce hcv hcl => CT _ H locs k9 ce9 z9 _ _ _ _ (by decide) (sw_r e9 hf) hW hS hce hcv hcl (Nat.le_of_ble_eq_true rfl) (Nat.le_of_ble_eq_true rfl)) (fun H locs r9 hW hS e9 => ?_)
                          have hf := sw_l e9 hf
                          have e8 := Option.some.inj hf
                          subst e8
                          refine lv_goto (tgt := 303) hx hb dL_act_169 (by decide) ?_
                          exact hret _ _ _ _ _ _ _ hW hS rfl (Nat.le_of_ble_eq_true rfl) (Nat.le_of_ble_eq_true rfl) dL_act_303
                        · have hf := cn_f d11 hf
                          refine lv_iload_n hx hb dL_act_172 rfl (lv_at hl 1 rfl) ?_
                          refine lv_bipush (v := (12 : Int32)) hx hb dL_act_173 (by decide) ?_
                          refine lv_icmp_ne (tgt := 186) hx hb dL_act_175 (by decide) (fun d12 => ?_) (fun d12 => ?_)
                          rotate_left
                          · have hf := cn_t d12 hf
                            obtain ⟨q, hq, hf⟩ := bnd_e hf
                            refine lv_aload_n hx hb dL_act_178 rfl (lv_at hl 0 rfl) ?_
                            refine lv_iload_n hx hb dL_act_179 rfl (lv_at hl 2 rfl) ?_
                            refine gxk_i hS (gvx_run (rest := []) S hG hW hS [.int a3] (c_X7_affectedByGoingDown l hl0 Γ C M a3 hq) pk_X7_affectedByGoingDown rfl ml_L_49 rfl rfl ⟨Nat.le_of_ble_eq_true rfl, Nat.le_of_ble_eq_true rfl⟩ rfl hl.1 rfl (Nat.le_of_ble_eq_true rfl) dL_act_180 ⟨Nat.le_of_ble_eq_true rfl, Nat.le_of_ble_eq_true rfl⟩) (fun H locs k9 ce9 z9 hW hS e9 hce hcv hcl => CT _ H locs k9 ce9 z9 _ _ _ _ (by decide) (sw_r e9 hf) hW hS hce hcv hcl (Nat.le_of_ble_eq_true rfl) (Nat.le_of_ble_eq_true rfl)) (fun H locs r9 hW hS e9 => ?_)
                            have hf := sw_l e9 hf
                            have e8 := Option.some.inj hf
                            subst e8
                            refine lv_goto (tgt := 303) hx hb dL_act_183 (by decide) ?_
                            exact hret _ _ _ _ _ _ _ hW hS rfl (Nat.le_of_ble_eq_true rfl) (Nat.le_of_ble_eq_true rfl) dL_act_303
                          · have hf := cn_f d12 hf
                            refine lv_iload_n hx hb dL_act_186 rfl (lv_at hl 1 rfl) ?_
                            refine lv_bipush (v := (13 : Int32)) hx hb dL_act_187 (by decide) ?_
                            refine lv_icmp_ne (tgt := 200) hx hb dL_act_189 (by decide) (fun d13 => ?_) (fun d13 => ?_)
                            rotate_left
                            · have hf := cn_t d13 hf
                              obtain ⟨q, hq, hf⟩ := bnd_e hf
                              refine lv_aload_n hx hb dL_act_192 rfl (lv_at hl 0 rfl) ?_
                              refine lv_iload_n hx hb dL_act_193 rfl (lv_at hl 2 rfl) ?_
                              refine gxk_i hS (gvx_run (rest := []) S hG hW hS [.int a3] (c_X7_keyOf l hl0 Γ C M a3 hq) pk_X7_keyOf rfl ml_L_52 rfl rfl ⟨Nat.le_of_ble_eq_true rfl, Nat.le_of_ble_eq_true rfl⟩ rfl hl.1 rfl (Nat.le_of_ble_eq_true rfl) dL_act_194 ⟨Nat.le_of_ble_eq_true rfl, Nat.le_of_ble_eq_true rfl⟩) (fun H locs k9 ce9 z9 hW hS e9 hce hcv hcl => CT _ H locs k9 ce9 z9 _ _ _ _ (by decide) (sw_r e9 hf) hW hS hce hcv hcl (Nat.le_of_ble_eq_true rfl) (Nat.le_of_ble_eq_true rfl)) (fun H locs r9 hW hS e9 => ?_)
                              have hf := sw_l e9 hf
                              have e8 := Option.some.inj hf
                              subst e8
                              refine lv_goto (tgt := 303) hx hb dL_act_197 (by decide) ?_
                              exact hret _ _ _ _ _ _ _ hW hS rfl (Nat.le_of_ble_eq_true rfl) (Nat.le_of_ble_eq_true rfl) dL_act_303
                            · have hf := cn_f d13 hf
                              refine lv_iload_n hx hb dL_act_200 rfl (lv_at hl 1 rfl) ?_
                              refine lv_bipush (v := (14 : Int32)) hx hb dL_act_201 (by decide) ?_
                              refine lv_icmp_ne (tgt := 214) hx hb dL_act_203 (by decide) (fun d14 => ?_) (fun d14 => ?_)
                              rotate_left
                              · have hf := cn_t d14 hf
                                obtain ⟨q, hq, hf⟩ := bnd_e hf
                                refine lv_aload_n hx hb dL_act_206 rfl (lv_at hl 0 rfl) ?_
                                refine lv_iload_n hx hb dL_act_207 rfl (lv_at hl 2 rfl) ?_
                                refine gxk_i hS (gvx_run (rest := []) S hG hW hS [.int a3] (c_X7_whyRun l hl0 Γ C M a3 hq) pk_X7_whyRun rfl ml_L_55 rfl rfl ⟨Nat.le_of_ble_eq_true rfl, Nat.le_of_ble_eq_true rfl⟩ rfl hl.1 rfl (Nat.le_of_ble_eq_true rfl) dL_act_208 ⟨Nat.le_of_ble_eq_true rfl, Nat.le_of_ble_eq_true rfl⟩) (fun H locs k9 ce9 z9 hW hS e9 hce hcv hcl => CT _ H locs k9 ce9 z9 _ _ _ _ (by decide) (sw_r e9 hf) hW hS hce hcv hcl (Nat.le_of_ble_eq_true rfl) (Nat.le_of_ble_eq_true rfl)) (fun H locs r9 hW hS e9 => ?_)
                                have hf := sw_l e9 hf
                                have e8 := Option.some.inj hf
                                subst e8
                                refine lv_goto (tgt := 303) hx hb dL_act_211 (by decide) ?_
                                exact hret _ _ _ _ _ _ _ hW hS rfl (Nat.le_of_ble_eq_true rfl) (Nat.le_of_ble_eq_true rfl) dL_act_303
                              · have hf := cn_f d14 hf
                                refine lv_iload_n hx hb dL_act_214 rfl (lv_at hl 1 rfl) ?_
                                refine lv_bipush (v := (15 : Int32)) hx hb dL_act_215 (by decide) ?_
                                refine lv_icmp_ne (tgt := 228) hx hb dL_act_217 (by decide) (fun d15 => ?_) (fun d15 => ?_)
                                rotate_left
                                · have hf := cn_t d15 hf
                                  obtain ⟨q, hq, hf⟩ := bnd_e hf
                                  refine lv_aload_n hx hb dL_act_220 rfl (lv_at hl 0 rfl) ?_
                                  refine lv_iload_n hx hb dL_act_221 rfl (lv_at hl 2 rfl) ?_
                                  refine gxk_i hS (gvx_run (rest := []) S hG hW hS [.int a3] (c_X7_run l hl0 Γ C M a3 hq) pk_X7_run rfl ml_L_58 rfl rfl ⟨Nat.le_of_ble_eq_true rfl, Nat.le_of_ble_eq_true rfl⟩ rfl hl.1 rfl (Nat.le_of_ble_eq_true rfl) dL_act_222 ⟨Nat.le_of_ble_eq_true rfl, Nat.le_of_ble_eq_true rfl⟩) (fun H locs k9 ce9 z9 hW hS e9 hce hcv hcl => CT _ H locs k9 ce9 z9 _ _ _ _ (by decide) (sw_r e9 hf) hW hS hce hcv hcl (Nat.le_of_ble_eq_true rfl) (Nat.le_of_ble_eq_true rfl)) (fun H locs r9 hW hS e9 => ?_)
                                  have hf := sw_l e9 hf
                                  have e8 := Option.some.inj hf
                                  subst e8
                                  refine lv_goto (tgt := 303) hx hb dL_act_225 (by decide) ?_
                                  exact hret _ _ _ _ _ _ _ hW hS rfl (Nat.le_of_ble_eq_true rfl) (Nat.le_of_ble_eq_true rfl) dL_act_303
                                · have hf := cn_f d15 hf
                                  refine lv_iload_n hx hb dL_act_228 rfl (lv_at hl 1 rfl) ?_
                                  refine lv_bipush (v := (16 : Int32)) hx hb dL_act_229 (by decide) ?_
                                  refine lv_icmp_ne (tgt := 241) hx hb dL_act_231 (by decide) (fun d16 => ?_) (fun d16 => ?_)
                                  rotate_left
                                  · have hf := cn_t d16 hf
                                    obtain ⟨q, hq, hf⟩ := bnd_e hf
                                    refine lv_aload_n hx hb dL_act_234 rfl (lv_at hl 0 rfl) ?_
                                    refine gxk_i hS (gvx_run (rest := []) S hG hW hS [] (c_X7_runAll l hl0 Γ C M  hq) pk_X7_runAll rfl ml_L_61 rfl rfl ⟨Nat.le_of_ble_eq_true rfl, Nat.le_of_ble_eq_true rfl⟩ rfl hl.1 rfl (Nat.le_of_ble_eq_true rfl) dL_act_235 ⟨Nat.le_of_ble_eq_true rfl, Nat.le_of_ble_eq_true rfl⟩) (fun H locs k9 ce9 z9 hW hS e9 hce hcv hcl => CT _ H locs k9 ce9 z9 _ _ _ _ (by decide) (sw_r e9 hf) hW hS hce hcv hcl (Nat.le_of_ble_eq_true rfl) (Nat.le_of_ble_eq_true rfl)) (fun H locs r9 hW hS e9 => ?_)
                                    have hf := sw_l e9 hf
                                    have e8 := Option.some.inj hf
                                    subst e8
                                    refine lv_goto (tgt := 303) hx hb dL_act_238 (by decide) ?_
                                    exact hret _ _ _ _ _ _ _ hW hS rfl (Nat.le_of_ble_eq_true rfl) (Nat.le_of_ble_eq_true rfl) dL_act_303
                                  · have hf := cn_f d16 hf
                                    refine lv_iload_n hx hb dL_act_241 rfl (lv_at hl 1 rfl) ?_
                                    refine lv_bipush (v := (17 : Int32)) hx hb dL_act_242 (by decide) ?_
                                    refine lv_icmp_ne (tgt := 256) hx hb dL_act_244 (by decide) (fun d17 => ?_) (fun d17 => ?_)
                                    rotate_left
                                    · have hf := cn_t d17 hf
                                      obtain ⟨q, hq, hf⟩ := bnd_e hf
                                      refine lv_aload_n hx hb dL_act_247 rfl (lv_at hl 0 rfl) ?_
                                      refine lv_iload_n hx hb dL_act_248 rfl (lv_at hl 2 rfl) ?_
                                      refine lv_iload_n hx hb dL_act_249 rfl (lv_at hl 3 rfl) ?_
                                      refine gxk_i hS (gvx_run (rest := []) S hG hW hS [.int a3, .int a4] (c_X7_shardOf l hl0 Γ C M a3 a4 hq) pk_X7_shardOf rfl ml_L_65 rfl rfl ⟨Nat.le_of_ble_eq_true rfl, Nat.le_of_ble_eq_true rfl⟩ rfl hl.1 rfl (Nat.le_of_ble_eq_true rfl) dL_act_250 ⟨Nat.le_of_ble_eq_true rfl, Nat.le_of_ble_eq_true rfl⟩) (fun H locs k9 ce9 z9 hW hS e9 hce hcv hcl => CT _ H locs k9 ce9 z9 _ _ _ _ (by decide) (sw_r e9 hf) hW hS hce hcv hcl (Nat.le_of_ble_eq_true rfl) (Nat.le_of_ble_eq_true rfl)) (fun H locs r9 hW hS e9 => ?_)
                                      have hf := sw_l e9 hf
                                      have e8 := Option.some.inj hf
                                      subst e8
                                      refine lv_goto (tgt := 303) hx hb dL_act_253 (by decide) ?_
                                      exact hret _ _ _ _ _ _ _ hW hS rfl (Nat.le_of_ble_eq_true rfl) (Nat.le_of_ble_eq_true rfl) dL_act_303
                                    · have hf := cn_f d17 hf
                                      refine lv_iload_n hx hb dL_act_256 rfl (lv_at hl 1 rfl) ?_
                                      refine lv_bipush (v := (18 : Int32)) hx hb dL_act_257 (by decide) ?_
                                      refine lv_icmp_ne (tgt := 270) hx hb dL_act_259 (by decide) (fun d18 => ?_) (fun d18 => ?_)
                                      rotate_left
                                      · have hf := cn_t d18 hf
                                        obtain ⟨q, hq, hf⟩ := bnd_e hf
                                        refine lv_aload_n hx hb dL_act_262 rfl (lv_at hl 0 rfl) ?_
                                        refine lv_iload_n hx hb dL_act_263 rfl (lv_at hl 2 rfl) ?_
                                        refine gxk_i hS (gvx_run (rest := []) S hG hW hS [.int a3] (c_X7_longestShard l hl0 Γ C M a3 hq) pk_X7_longestShard rfl ml_L_68 rfl rfl ⟨Nat.le_of_ble_eq_true rfl, Nat.le_of_ble_eq_true rfl⟩ rfl hl.1 rfl (Nat.le_of_ble_eq_true rfl) dL_act_264 ⟨Nat.le_of_ble_eq_true rfl, Nat.le_of_ble_eq_true rfl⟩) (fun H locs k9 ce9 z9 hW hS e9 hce hcv hcl => CT _ H locs k9 ce9 z9 _ _ _ _ (by decide) (sw_r e9 hf) hW hS hce hcv hcl (Nat.le_of_ble_eq_true rfl) (Nat.le_of_ble_eq_true rfl)) (fun H locs r9 hW hS e9 => ?_)
                                        have hf := sw_l e9 hf
                                        have e8 := Option.some.inj hf
                                        subst e8
                                        refine lv_goto (tgt := 303) hx hb dL_act_267 (by decide) ?_
                                        exact hret _ _ _ _ _ _ _ hW hS rfl (Nat.le_of_ble_eq_true rfl) (Nat.le_of_ble_eq_true rfl) dL_act_303
                                      · have hf := cn_f d18 hf
                                        refine lv_iload_n hx hb dL_act_270 rfl (lv_at hl 1 rfl) ?_
                                        refine lv_bipush (v := (19 : Int32)) hx hb dL_act_271 (by decide) ?_
                                        refine lv_icmp_ne (tgt := 284) hx hb dL_act_273 (by decide) (fun d19 => ?_) (fun d19 => ?_)
                                        rotate_left
                                        · have hf := cn_t d19 hf
                                          obtain ⟨q, hq, hf⟩ := bnd_e hf
                                          refine lv_aload_n hx hb dL_act_276 rfl (lv_at hl 0 rfl) ?_
                                          refine lv_iload_n hx hb dL_act_277 rfl (lv_at hl 2 rfl) ?_
                                          refine gxk_i hS (gvx_run (rest := []) S hG hW hS [.int a3] (c_X7_shardsFor l hl0 Γ C M a3 hq) pk_X7_shardsFor rfl ml_L_71 rfl rfl ⟨Nat.le_of_ble_eq_true rfl, Nat.le_of_ble_eq_true rfl⟩ rfl hl.1 rfl (Nat.le_of_ble_eq_true rfl) dL_act_278 ⟨Nat.le_of_ble_eq_true rfl, Nat.le_of_ble_eq_true rfl⟩) (fun H locs k9 ce9 z9 hW hS e9 hce hcv hcl => CT _ H locs k9 ce9 z9 _ _ _ _ (by decide) (sw_r e9 hf) hW hS hce hcv hcl (Nat.le_of_ble_eq_true rfl) (Nat.le_of_ble_eq_true rfl)) (fun H locs r9 hW hS e9 => ?_)
                                          have hf := sw_l e9 hf
                                          have e8 := Option.some.inj hf
                                          subst e8
                                          refine lv_goto (tgt := 303) hx hb dL_act_281 (by decide) ?_
                                          exact hret _ _ _ _ _ _ _ hW hS rfl (Nat.le_of_ble_eq_true rfl) (Nat.le_of_ble_eq_true rfl) dL_act_303
                                        · have hf := cn_f d19 hf
                                          refine lv_iload_n hx hb dL_act_284 rfl (lv_at hl 1 rfl) ?_
                                          refine lv_bipush (v := (20 : Int32)) hx hb dL_act_285 (by decide) ?_
                                          refine lv_icmp_ne (tgt := 298) hx hb dL_act_287 (by decide) (fun d20 => ?_) (fun d20 => ?_)
                                          rotate_left
                                          · have hf := cn_t d20 hf
                                            obtain ⟨q, hq, hf⟩ := bnd_e hf
                                            refine lv_aload_n hx hb dL_act_290 rfl (lv_at hl 0 rfl) ?_
                                            refine lv_iload_n hx hb dL_act_291 rfl (lv_at hl 2 rfl) ?_
                                            refine gxk_i hS (gvx_run (rest := []) S hG hW hS [.int a3] (c_X7_addRule l hl0 Γ C M a3 hq) pk_X7_addRule rfl ml_L_74 rfl rfl ⟨Nat.le_of_ble_eq_true rfl, Nat.le_of_ble_eq_true rfl⟩ rfl hl.1 rfl (Nat.le_of_ble_eq_true rfl) dL_act_292 ⟨Nat.le_of_ble_eq_true rfl, Nat.le_of_ble_eq_true rfl⟩) (fun H locs k9 ce9 z9 hW hS e9 hce hcv hcl => CT _ H locs k9 ce9 z9 _ _ _ _ (by decide) (sw_r e9 hf) hW hS hce hcv hcl (Nat.le_of_ble_eq_true rfl) (Nat.le_of_ble_eq_true rfl)) (fun H locs r9 hW hS e9 => ?_)
                                            have hf := sw_l e9 hf
                                            have e8 := Option.some.inj hf
                                            subst e8
                                            refine lv_goto (tgt := 303) hx hb dL_act_295 (by decide) ?_
                                            exact hret _ _ _ _ _ _ _ hW hS rfl (Nat.le_of_ble_eq_true rfl) (Nat.le_of_ble_eq_true rfl) dL_act_303
                                          · have hf := cn_f d20 hf
                                            obtain ⟨q, hq, hf⟩ := bnd_e hf
                                            refine lv_aload_n hx hb dL_act_298 rfl (lv_at hl 0 rfl) ?_
                                            refine lv_iload_n hx hb dL_act_299 rfl (lv_at hl 2 rfl) ?_
                                            refine gxk_i hS (gvx_run (rest := []) S hG hW hS [.int a3] (c_X7_ownerOf l hl0 Γ C M a3 hq) pk_X7_ownerOf rfl ml_L_77 rfl rfl ⟨Nat.le_of_ble_eq_true rfl, Nat.le_of_ble_eq_true rfl⟩ rfl hl.1 rfl (Nat.le_of_ble_eq_true rfl) dL_act_300 ⟨Nat.le_of_ble_eq_true rfl, Nat.le_of_ble_eq_true rfl⟩) (fun H locs k9 ce9 z9 hW hS e9 hce hcv hcl => CT _ H locs k9 ce9 z9 _ _ _ _ (by decide) (sw_r e9 hf) hW hS hce hcv hcl (Nat.le_of_ble_eq_true rfl) (Nat.le_of_ble_eq_true rfl)) (fun H locs r9 hW hS e9 => ?_)
                                            have hf := sw_l e9 hf
                                            have e8 := Option.some.inj hf
                                            subst e8
                                            exact hret _ _ _ _ _ _ _ hW hS rfl (Nat.le_of_ble_eq_true rfl) (Nat.le_of_ble_eq_true rfl) dL_act_303
