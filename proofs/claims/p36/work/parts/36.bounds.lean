noncomputable def fL_bounds_351 (C_351 : Mem) : Option Int32 := some (0 : Int32)
noncomputable def fL_bounds_320 (C_320 : Mem) : Option Int32 := cnd ((fX7_files C_320) = (16777215 : Int32)) (bnd (fX7_needed C_320) fun q330 => cnd (q330.1 = (65534 : Int32)) (bnd (fL_refuses q330.2 (24 : Int32)) fun q341 => cnd (q341.1 = (0 : Int32)) (fL_bounds_351 q341.2) (some (1 : Int32))) (fL_bounds_351 q330.2)) (fL_bounds_351 C_320)
noncomputable def fL_bounds_314 (t_194 : (Mem × Int32)) (C_314 : Mem) : Option ((Mem × Int32) ⊕ Int32) := some (.inl (C_314, (t_194.2 + (1 : Int32))))
noncomputable def fL_bounds_312 (C_312 : Mem) : Option Int32 := some (0 : Int32)
noncomputable def fL_bounds_309 (t_194 : (Mem × Int32)) (C_309 : Mem) (s0_309 : Int32) (s1_309 : Int32) : Option ((Mem × Int32) ⊕ Int32) := cnd (s1_309 = s0_309) (fL_bounds_314 t_194 C_309) (exR (fL_bounds_312 C_309))
noncomputable def fL_bounds_283 (t_194 : (Mem × Int32)) (C_283 : Mem) (s0_283 : Int32) (s1_283 : Int32) : Option ((Mem × Int32) ⊕ Int32) := cnd (s1_283 = s0_283) (bnd (fL_act C_283 (20 : Int32) (t_194.2 - t_194.2 / (8 : Int32) * (8 : Int32)) (0 : Int32)) fun q294 => cnd ((13 : Int32) ≤ t_194.2) (fL_bounds_309 t_194 q294.2 (-33 : Int32) q294.1) (fL_bounds_309 t_194 q294.2 t_194.2 q294.1)) (exR (fL_bounds_312 C_283))
noncomputable def fL_bounds_261 (t_194 : (Mem × Int32)) (C_261 : Mem) (s0_261 : Int32) (s1_261 : Int32) : Option ((Mem × Int32) ⊕ Int32) := cnd (s1_261 = s0_261) (bnd (fL_act C_261 (5 : Int32) t_194.2 (0 : Int32)) fun q268 => cnd ((16 : Int32) ≤ t_194.2) (fL_bounds_283 t_194 q268.2 (-33 : Int32) q268.1) (fL_bounds_283 t_194 q268.2 t_194.2 q268.1)) (exR (fL_bounds_312 C_261))
noncomputable def fL_bounds_235 (t_194 : (Mem × Int32)) (C_235 : Mem) (s0_235 : Int32) : Option ((Mem × Int32) ⊕ Int32) := bnd (fX7_type C_235 s0_235) fun q235 => sw q235.1 (fun v235 => cnd (v235 = (2 : Int32)) (bnd (fL_act q235.2 (1 : Int32) t_194.2 (0 : Int32)) fun q246 => cnd ((24 : Int32) ≤ t_194.2) (fL_bounds_261 t_194 q246.2 (-33 : Int32) q246.1) (fL_bounds_261 t_194 q246.2 t_194.2 q246.1)) (exR (fL_bounds_312 q235.2))) (fun _ => none)
noncomputable def fL_bounds_194  : (Mem × Int32) → Option ((Mem × Int32) ⊕ Int32) := fun t_194 => cnd ((25 : Int32) ≤ t_194.2) (exR (fL_bounds_320 t_194.1)) (bnd (fX7_clearText t_194.1) fun q201 => bnd (fX7_type q201.2 ((((97 : Int32) + (t_194.2 - t_194.2 / (16 : Int32) * (16 : Int32))).toUInt32 % 65536).toInt32)) fun q214 => sw q214.1 (fun v214 => cnd (v214 = (1 : Int32)) (cnd ((16 : Int32) ≤ t_194.2) (fL_bounds_235 t_194 q214.2 (121 : Int32)) (fL_bounds_235 t_194 q214.2 (120 : Int32))) (exR (fL_bounds_312 q214.2))) (fun _ => none))
noncomputable def fL_bounds_192 (C_192 : Mem) : Option Int32 := lp (fL_bounds_194) (C_192, (1 : Int32))
noncomputable def fL_bounds_190 (C_190 : Mem) : Option Int32 := some (0 : Int32)
noncomputable def fL_bounds_105 (a1 : Int32) (C_105 : Mem) : Option Int32 := bnd (fX7_edit C_105 (0 : Int32) (9999 : Int32)) fun q110 => sw q110.1 (fun v110 => bnd (fL_act q110.2 (15 : Int32) (0 : Int32) (0 : Int32)) fun q119 => cnd (q119.1 = (-33 : Int32)) (bnd (fL_act q119.2 (16 : Int32) (0 : Int32) (0 : Int32)) fun q132 => cnd (q132.1 = (-33 : Int32)) (bnd (fX7_whyRun q132.2 (0 : Int32)) fun q142 => sw q142.1 (fun v142 => cnd (v142 = (2 : Int32)) (cnd ((fX7_keys q142.2) = (200 : Int32)) (bnd (fX7_edit q142.2 (0 : Int32) (a1 + (6 : Int32))) fun q165 => sw q165.1 (fun v165 => cnd (v165 = (9999 : Int32)) (bnd (fX7_run q165.2 (0 : Int32)) fun q176 => sw q176.1 (fun v176 => cnd (v176 = (3 : Int32)) (bnd (fX7_runAll q176.2) fun q184 => sw q184.1 (fun v184 => cnd (v184 = (0 : Int32)) (fL_bounds_192 q184.2) (fL_bounds_190 q184.2)) (fun _ => none)) (fL_bounds_190 q176.2)) (fun _ => none)) (fL_bounds_190 q165.2)) (fun _ => none)) (fL_bounds_190 q142.2)) (fL_bounds_190 q142.2)) (fun _ => none)) (fL_bounds_190 q132.2)) (fL_bounds_190 q119.2)) (fun _ => none)
noncomputable def fL_bounds_99 (a1 : Int32) (t_60 : (Mem × Int32)) (C_99 : Mem) : Option ((Mem × Int32) ⊕ Int32) := some (.inl (C_99, (t_60.2 + (1 : Int32))))
noncomputable def fL_bounds_97 (C_97 : Mem) : Option Int32 := some (0 : Int32)
noncomputable def fL_bounds_60 (a1 : Int32) : (Mem × Int32) → Option ((Mem × Int32) ⊕ Int32) := fun t_60 => cnd ((200 : Int32) ≤ t_60.2) (exR (fL_bounds_105 a1 t_60.1)) (bnd (fX7_edit t_60.1 (0 : Int32) (((3 : Int32) * t_60.2) + a1)) fun q74 => sw q74.1 (fun v74 => bnd (fX7_keyOf q74.2 (0 : Int32)) fun q80 => sw q80.1 (fun v80 => cnd (v80 = (0 : Int32)) (bnd (fX7_run q80.2 (0 : Int32)) fun q88 => sw q88.1 (fun v88 => cnd (v88 = (t_60.2 + (1 : Int32))) (fL_bounds_99 a1 t_60 q88.2) (exR (fL_bounds_97 q88.2))) (fun _ => none)) (exR (fL_bounds_97 q80.2))) (fun _ => none)) (fun _ => none))
noncomputable def fL_bounds_58 (a1 : Int32) (C_58 : Mem) : Option Int32 := lp (fL_bounds_60 a1) (C_58, (0 : Int32))
noncomputable def fL_bounds_56 (C_56 : Mem) : Option Int32 := some (0 : Int32)
noncomputable def fL_bounds (a1 : Int32) : Option Int32 := bnd (fL_text C0m (113 : Int32) (46 : Int32) (46 : Int32) (46 : Int32) (46 : Int32) (46 : Int32) (46 : Int32) (46 : Int32)) fun q25 => cnd (q25.1 = (0 : Int32)) (fL_bounds_56 q25.2) (bnd (fX7_addFile q25.2 (0 : Int32)) fun q33 => sw q33.1 (fun v33 => cnd (v33 = (0 : Int32)) (bnd (fX7_addTarget q33.2 (1 : Int32)) fun q41 => sw q41.1 (fun v41 => cnd (v41 = (0 : Int32)) (bnd (fX7_addGlob q41.2 (0 : Int32)) fun q49 => sw q49.1 (fun v49 => cnd (v49 = (1 : Int32)) (fL_bounds_58 a1 q49.2) (fL_bounds_56 q49.2)) (fun _ => none)) (fL_bounds_56 q41.2)) (fun _ => none)) (fL_bounds_56 q33.2)) (fun _ => none))
abbrev rm_L_bounds : Room := { frames := 11, cells := 2393, slots := 44358, locals := 232 }
set_option maxRecDepth 100000 in
set_option maxHeartbeats 40000000 in
theorem w_L_bounds {p : Program} {l : Launch} {e : Env} {s : State} {m : MethodId} {args : Array Value} {below : List Frame} {meth : Method} {c : Code} {Q : State → Prop} {Γ : gx_G} {M : Mem} (hl0 : l.stackTraces = false) (S : CallFix p m c cL_bounds 3 s args TsG RL) (hG : gx_K Γ s) (a1 : Int32) {y0 : Int32} (hf : fL_bounds a1 = some y0) (hret : ∀ (pc : Nat) (ls : Array Slot) (H : Heap) (locs : List Loc) (v : Int32) (cs ss : Nat), va_S (gA Γ) s.heap H locs → narrow .boolean (.int v) = .int v → v = y0 → cs ≤ 2393 → ss ≤ 44358 → decode cL_bounds pc = .ok (.ireturn, 1) → W p l e rm_L_bounds s m args below meth c H locs cs ss Q (F0 m pc ls [.int v])) : ∀ (cs ss : Nat), cs ≤ 740 → ss ≤ 34440 → ∀ (H : Heap) (locs : List Loc) (ls : Array Slot), gx_W Γ C0m M H → va_S (gA Γ) s.heap H locs → lv_has ls 3 [(0, .int a1), (1, .ref (Γ.1 0))] → W p l e rm_L_bounds s m args below meth c H locs cs ss Q (F0 m 8 ls []) := by
  obtain ⟨hx, hb, hml, hown, hts⟩ := id S
  intro cs ss hcs hss H locs ls hW hS hl
  unfold fL_bounds at hf
  refine lv_aload_n hx hb dL_bounds_8 rfl (lv_at hl 1 rfl) ?_
  refine lv_bipush (v := (113 : Int32)) hx hb dL_bounds_9 (by decide) ?_
  refine lv_bipush (v := (46 : Int32)) hx hb dL_bounds_11 (by decide) ?_
  refine lv_bipush (v := (46 : Int32)) hx hb dL_bounds_13 (by decide) ?_
  refine lv_bipush (v := (46 : Int32)) hx hb dL_bounds_15 (by decide) ?_
  refine lv_bipush (v := (46 : Int32)) hx hb dL_bounds_17 (by decide) ?_
  refine lv_bipush (v := (46 : Int32)) hx hb dL_bounds_19 (by decide) ?_
  refine lv_bipush (v := (46 : Int32)) hx hb dL_bounds_21 (by decide) ?_
  refine lv_bipush (v := (46 : Int32)) hx hb dL_bounds_23 (by decide) ?_
  obtain ⟨q25, hq25, hf⟩ := bnd_e hf
  refine gk_i hS (gs_run (rest := []) S hG hW hS [.ref (Γ.1 0), .int (113 : Int32), .int (46 : Int32), .int (46 : Int32), .int (46 : Int32), .int (46 : Int32), .int (46 : Int32), .int (46 : Int32), .int (46 : Int32)] (c_L_text l hl0 Γ C0m M (113 : Int32) (46 : Int32) (46 : Int32) (46 : Int32) (46 : Int32) (46 : Int32) (46 : Int32) (46 : Int32) hq25) pk_L_text ml_L_121 rfl rfl ⟨Nat.le_of_ble_eq_true rfl, Nat.le_of_ble_eq_true rfl⟩ rfl hl.1 rfl (Nat.le_of_ble_eq_true rfl) dL_bounds_25 ⟨by show cs + 24 ≤ 2393; omega, by show ss + 144 ≤ 44358; omega⟩) (fun H locs hW hS => ?_)
  have J_56 : ∀ (C_56 : Mem) , fL_bounds_56 C_56 = some y0 → ∀ (cs ss : Nat), cs ≤ 770 → ss ≤ 34620 → ∀ (H : Heap) (locs : List Loc) (ls : Array Slot), gx_W Γ C_56 M H → va_S (gA Γ) s.heap H locs → lv_has ls 3 [] → W p l e rm_L_bounds s m args below meth c H locs cs ss Q (F0 m 56 ls []) := by
    intro C_56 hf cs ss hcs hss H locs ls hW hS hl
    unfold fL_bounds_56 at hf
    refine lv_iconst (v := (0 : Int32)) hx hb dL_bounds_56 (by decide) ?_
    have e9 := Option.some.inj hf
    exact hret _ _ _ _ _ _ _ hS rfl e9 (by show cs ≤ 2393; omega) (by show ss ≤ 44358; omega) dL_bounds_57
  refine lv_if_eq (tgt := 56) hx hb dL_bounds_28 (by decide) (fun c28 => ?_) (fun c28 => ?_)
  · have hf := cn_t c28 hf
    exact J_56 q25.2 hf (cs + 24) (ss + 144) (by omega) (by omega) H locs ls hW hS (lv_sub hl [] rfl)
  · have hf := cn_f c28 hf
    refine lv_aload_n hx hb dL_bounds_31 rfl (lv_at hl 1 rfl) ?_
    refine lv_iconst (v := (0 : Int32)) hx hb dL_bounds_32 (by decide) ?_
    obtain ⟨q33, hq33, hf⟩ := bnd_e hf
    refine gxk_i hS (gvx_run (rest := []) S hG hW hS [.int (0 : Int32)] (c_X7_addFile l hl0 Γ q25.2 M (0 : Int32) hq33) pk_X7_addFile rfl ml_L_13 rfl rfl ⟨Nat.le_of_ble_eq_true rfl, Nat.le_of_ble_eq_true rfl⟩ rfl hl.1 rfl (Nat.le_of_ble_eq_true rfl) dL_bounds_33 ⟨by show (cs + 24) + 2 ≤ 2393; omega, by show (ss + 144) + 12 ≤ 44358; omega⟩) (fun H locs k9 ce9 z9 hW hS e9 hce hcv hcl => by have hf := sw_r e9 hf; cases hf) (fun H locs v33 hW hS e9 => ?_)
    have hf := sw_l e9 hf
    refine lv_if_ne (tgt := 56) hx hb dL_bounds_36 (by decide) (fun c36 => ?_) (fun c36 => ?_)
    · have hf := cn_f c36 hf
      exact J_56 q33.2 hf (cs + 26) (ss + 156) (by omega) (by omega) H locs ls hW hS (lv_sub hl [] rfl)
    · have hf := cn_t c36 hf
      refine lv_aload_n hx hb dL_bounds_39 rfl (lv_at hl 1 rfl) ?_
      refine lv_iconst (v := (1 : Int32)) hx hb dL_bounds_40 (by decide) ?_
      obtain ⟨q41, hq41, hf⟩ := bnd_e hf
      refine gxk_i hS (gvx_run (rest := []) S hG hW hS [.int (1 : Int32)] (c_X7_addTarget l hl0 Γ q33.2 M (1 : Int32) hq41) pk_X7_addTarget rfl ml_L_28 rfl rfl ⟨Nat.le_of_ble_eq_true rfl, Nat.le_of_ble_eq_true rfl⟩ rfl hl.1 rfl (Nat.le_of_ble_eq_true rfl) dL_bounds_41 ⟨by show (cs + 26) + 1 ≤ 2393; omega, by show (ss + 156) + 6 ≤ 44358; omega⟩) (fun H locs k9 ce9 z9 hW hS e9 hce hcv hcl => by have hf := sw_r e9 hf; cases hf) (fun H locs v41 hW hS e9 => ?_)
      have hf := sw_l e9 hf
      refine lv_if_ne (tgt := 56) hx hb dL_bounds_44 (by decide) (fun c44 => ?_) (fun c44 => ?_)
      · have hf := cn_f c44 hf
        exact J_56 q41.2 hf (cs + 27) (ss + 162) (by omega) (by omega) H locs ls hW hS (lv_sub hl [] rfl)
      · have hf := cn_t c44 hf
        refine lv_aload_n hx hb dL_bounds_47 rfl (lv_at hl 1 rfl) ?_
        refine lv_iconst (v := (0 : Int32)) hx hb dL_bounds_48 (by decide) ?_
        obtain ⟨q49, hq49, hf⟩ := bnd_e hf
        refine gxk_i hS (gvx_run (rest := []) S hG hW hS [.int (0 : Int32)] (c_X7_addGlob l hl0 Γ q41.2 M (0 : Int32) hq49) pk_X7_addGlob rfl ml_L_31 rfl rfl ⟨Nat.le_of_ble_eq_true rfl, Nat.le_of_ble_eq_true rfl⟩ rfl hl.1 rfl (Nat.le_of_ble_eq_true rfl) dL_bounds_49 ⟨by show (cs + 27) + 3 ≤ 2393; omega, by show (ss + 162) + 18 ≤ 44358; omega⟩) (fun H locs k9 ce9 z9 hW hS e9 hce hcv hcl => by have hf := sw_r e9 hf; cases hf) (fun H locs v49 hW hS e9 => ?_)
        have hf := sw_l e9 hf
        refine lv_iconst (v := (1 : Int32)) hx hb dL_bounds_52 (by decide) ?_
        have J_58 : ∀ (C_58 : Mem) , fL_bounds_58 a1 C_58 = some y0 → ∀ (cs ss : Nat), cs ≤ 770 → ss ≤ 34620 → ∀ (H : Heap) (locs : List Loc) (ls : Array Slot), gx_W Γ C_58 M H → va_S (gA Γ) s.heap H locs → lv_has ls 3 [(0, .int a1), (1, .ref (Γ.1 0))] → W p l e rm_L_bounds s m args below meth c H locs cs ss Q (F0 m 58 ls []) := by
          intro C_58 hf cs ss hcs hss H locs ls hW hS hl
          unfold fL_bounds_58 at hf
          refine lv_iconst (v := (0 : Int32)) hx hb dL_bounds_58 (by decide) ?_
          refine lv_istore_n (lv' := [(2, .int (0 : Int32)), (0, .int a1), (1, .ref (Γ.1 0))]) hx hb dL_bounds_59 rfl hl (by decide) rfl (fun ls hl => ?_)
          have J_60 : ∀  (t_60 : Mem × Int32), lp (fL_bounds_60 a1) t_60 = some y0 → ∀ (cs ss : Nat), cs + 5 * rmn (200 : Int32) t_60.2 ≤ 1770 → ss + 30 * rmn (200 : Int32) t_60.2 ≤ 40620 → ∀ (H : Heap) (locs : List Loc) (ls : Array Slot), gx_W Γ t_60.1 M H → va_S (gA Γ) s.heap H locs → lv_has ls 3 [(0, .int a1), (1, .ref (Γ.1 0)), (2, .int t_60.2)] → W p l e rm_L_bounds s m args below meth c H locs cs ss Q (F0 m 60 ls []) := by
            refine lp_ind (P := fun (t_60 : Mem × Int32) => ∀ (cs ss : Nat), cs + 5 * rmn (200 : Int32) t_60.2 ≤ 1770 → ss + 30 * rmn (200 : Int32) t_60.2 ≤ 40620 → ∀ (H : Heap) (locs : List Loc) (ls : Array Slot), gx_W Γ t_60.1 M H → va_S (gA Γ) s.heap H locs → lv_has ls 3 [(0, .int a1), (1, .ref (Γ.1 0)), (2, .int t_60.2)] → W p l e rm_L_bounds s m args below meth c H locs cs ss Q (F0 m 60 ls [])) ?_
            intro t_60 y1 hf kI1 kX1 cs ss hcs hss H locs ls hW hS hl
            unfold fL_bounds_60 at hf
            refine lv_iload_n hx hb dL_bounds_60 rfl (lv_at hl 2 rfl) ?_
            refine lv_sipush (v := (200 : Int32)) hx hb dL_bounds_61 (by decide) ?_
            have J_105 : ∀ (C_105 : Mem) , fL_bounds_105 a1 C_105 = some y0 → ∀ (cs ss : Nat), cs ≤ 1770 → ss ≤ 40620 → ∀ (H : Heap) (locs : List Loc) (ls : Array Slot), gx_W Γ C_105 M H → va_S (gA Γ) s.heap H locs → lv_has ls 3 [(0, .int a1), (1, .ref (Γ.1 0))] → W p l e rm_L_bounds s m args below meth c H locs cs ss Q (F0 m 105 ls []) := by
              intro C_105 hf cs ss hcs hss H locs ls hW hS hl
              unfold fL_bounds_105 at hf
              refine lv_aload_n hx hb dL_bounds_105 rfl (lv_at hl 1 rfl) ?_
              refine lv_iconst (v := (0 : Int32)) hx hb dL_bounds_106 (by decide) ?_
              refine lv_sipush (v := (9999 : Int32)) hx hb dL_bounds_107 (by decide) ?_
              obtain ⟨q110, hq110, hf⟩ := bnd_e hf
              refine gxk_i hS (gvx_run (rest := []) S hG hW hS [.int (0 : Int32), .int (9999 : Int32)] (c_X7_edit l hl0 Γ C_105 M (0 : Int32) (9999 : Int32) hq110) pk_X7_edit rfl ml_L_17 rfl rfl ⟨Nat.le_of_ble_eq_true rfl, Nat.le_of_ble_eq_true rfl⟩ rfl hl.1 rfl (Nat.le_of_ble_eq_true rfl) dL_bounds_110 ⟨by show cs + 2 ≤ 2393; omega, by show ss + 12 ≤ 44358; omega⟩) (fun H locs k9 ce9 z9 hW hS e9 hce hcv hcl => by have hf := sw_r e9 hf; cases hf) (fun H locs v110 hW hS e9 => ?_)
              have hf := sw_l e9 hf
              refine lv_pop hx hb dL_bounds_113 rfl ?_
              refine lv_aload_n hx hb dL_bounds_114 rfl (lv_at hl 1 rfl) ?_
              refine lv_bipush (v := (15 : Int32)) hx hb dL_bounds_115 (by decide) ?_
              refine lv_iconst (v := (0 : Int32)) hx hb dL_bounds_117 (by decide) ?_
              refine lv_iconst (v := (0 : Int32)) hx hb dL_bounds_118 (by decide) ?_
              obtain ⟨q119, hq119, hf⟩ := bnd_e hf
              refine gk_i hS (gsw_run (rest := []) S hG hW hS [.ref (Γ.1 0), .int (15 : Int32), .int (0 : Int32), .int (0 : Int32)] (c_L_act l hl0 Γ q110.2 M (15 : Int32) (0 : Int32) (0 : Int32) hq119) pk_L_act ml_L_86 rfl rfl ⟨Nat.le_of_ble_eq_true rfl, Nat.le_of_ble_eq_true rfl⟩ rfl hl.1 rfl (Nat.le_of_ble_eq_true rfl) dL_bounds_119 ⟨by show (cs + 2) + 3 ≤ 2393; omega, by show (ss + 12) + 18 ≤ 44358; omega⟩) (fun H locs hW hS => ?_)
              refine lv_bipush (v := (-33 : Int32)) hx hb dL_bounds_122 (by decide) ?_
              have J_190 : ∀ (C_190 : Mem) , fL_bounds_190 C_190 = some y0 → ∀ (cs ss : Nat), cs ≤ 1784 → ss ≤ 40704 → ∀ (H : Heap) (locs : List Loc) (ls : Array Slot), gx_W Γ C_190 M H → va_S (gA Γ) s.heap H locs → lv_has ls 3 [] → W p l e rm_L_bounds s m args below meth c H locs cs ss Q (F0 m 190 ls []) := by
                intro C_190 hf cs ss hcs hss H locs ls hW hS hl
                unfold fL_bounds_190 at hf
                refine lv_iconst (v := (0 : Int32)) hx hb dL_bounds_190 (by decide) ?_
                have e9 := Option.some.inj hf
                exact hret _ _ _ _ _ _ _ hS rfl e9 (by show cs ≤ 2393; omega) (by show ss ≤ 44358; omega) dL_bounds_191
              refine lv_icmp_ne (tgt := 190) hx hb dL_bounds_124 (by decide) (fun c124 => ?_) (fun c124 => ?_)
              · have hf := cn_f c124 hf
                exact J_190 q119.2 hf (cs + 5) (ss + 30) (by omega) (by omega) H locs ls hW hS (lv_sub hl [] rfl)
              · have hf := cn_t c124 hf
                refine lv_aload_n hx hb dL_bounds_127 rfl (lv_at hl 1 rfl) ?_
                refine lv_bipush (v := (16 : Int32)) hx hb dL_bounds_128 (by decide) ?_
                refine lv_iconst (v := (0 : Int32)) hx hb dL_bounds_130 (by decide) ?_
                refine lv_iconst (v := (0 : Int32)) hx hb dL_bounds_131 (by decide) ?_
                obtain ⟨q132, hq132, hf⟩ := bnd_e hf
                refine gk_i hS (gsw_run (rest := []) S hG hW hS [.ref (Γ.1 0), .int (16 : Int32), .int (0 : Int32), .int (0 : Int32)] (c_L_act l hl0 Γ q119.2 M (16 : Int32) (0 : Int32) (0 : Int32) hq132) pk_L_act ml_L_86 rfl rfl ⟨Nat.le_of_ble_eq_true rfl, Nat.le_of_ble_eq_true rfl⟩ rfl hl.1 rfl (Nat.le_of_ble_eq_true rfl) dL_bounds_132 ⟨by show (cs + 5) + 3 ≤ 2393; omega, by show (ss + 30) + 18 ≤ 44358; omega⟩) (fun H locs hW hS => ?_)
                refine lv_bipush (v := (-33 : Int32)) hx hb dL_bounds_135 (by decide) ?_
                refine lv_icmp_ne (tgt := 190) hx hb dL_bounds_137 (by decide) (fun c137 => ?_) (fun c137 => ?_)
                · have hf := cn_f c137 hf
                  exact J_190 q132.2 hf (cs + 8) (ss + 48) (by omega) (by omega) H locs ls hW hS (lv_sub hl [] rfl)
                · have hf := cn_t c137 hf
                  refine lv_aload_n hx hb dL_bounds_140 rfl (lv_at hl 1 rfl) ?_
                  refine lv_iconst (v := (0 : Int32)) hx hb dL_bounds_141 (by decide) ?_
                  obtain ⟨q142, hq142, hf⟩ := bnd_e hf
                  refine gxk_i hS (gvx_run (rest := []) S hG hW hS [.int (0 : Int32)] (c_X7_whyRun l hl0 Γ q132.2 M (0 : Int32) hq142) pk_X7_whyRun rfl ml_L_55 rfl rfl ⟨Nat.le_of_ble_eq_true rfl, Nat.le_of_ble_eq_true rfl⟩ rfl hl.1 rfl (Nat.le_of_ble_eq_true rfl) dL_bounds_142 ⟨by show (cs + 8) + 1 ≤ 2393; omega, by show (ss + 48) + 6 ≤ 44358; omega⟩) (fun H locs k9 ce9 z9 hW hS e9 hce hcv hcl => by have hf := sw_r e9 hf; cases hf) (fun H locs v142 hW hS e9 => ?_)
                  have hf := sw_l e9 hf
                  refine lv_iconst (v := (2 : Int32)) hx hb dL_bounds_145 (by decide) ?_
                  refine lv_icmp_ne (tgt := 190) hx hb dL_bounds_146 (by decide) (fun c146 => ?_) (fun c146 => ?_)
                  · have hf := cn_f c146 hf
                    exact J_190 q142.2 hf (cs + 9) (ss + 54) (by omega) (by omega) H locs ls hW hS (lv_sub hl [] rfl)
                  · have hf := cn_t c146 hf
                    refine lv_aload_n hx hb dL_bounds_149 rfl (lv_at hl 1 rfl) ?_
                    refine gk0_i hS (gv_run (rest := []) S hG hW hS [] (c_X7_keys l Γ q142.2 M) pk_X7_keys ml_L_105 (Nat.le_of_ble_eq_true rfl) rfl rfl rfl rfl ⟨Nat.le_of_ble_eq_true rfl, Nat.le_of_ble_eq_true rfl⟩ rfl hl.1 rfl (Nat.le_of_ble_eq_true rfl) dL_bounds_150 ⟨by show (cs + 9) + 0 ≤ 2393; omega, by show (ss + 54) + 0 ≤ 44358; omega⟩) (fun H locs hW hS => ?_)
                    refine lv_sipush (v := (200 : Int32)) hx hb dL_bounds_153 (by decide) ?_
                    refine lv_icmp_ne (tgt := 190) hx hb dL_bounds_156 (by decide) (fun c156 => ?_) (fun c156 => ?_)
                    · have hf := cn_f c156 hf
                      exact J_190 q142.2 hf (cs + 9) (ss + 54) (by omega) (by omega) H locs ls hW hS (lv_sub hl [] rfl)
                    · have hf := cn_t c156 hf
                      refine lv_aload_n hx hb dL_bounds_159 rfl (lv_at hl 1 rfl) ?_
                      refine lv_iconst (v := (0 : Int32)) hx hb dL_bounds_160 (by decide) ?_
                      refine lv_iload_n hx hb dL_bounds_161 rfl (lv_at hl 0 rfl) ?_
                      refine lv_bipush (v := (6 : Int32)) hx hb dL_bounds_162 (by decide) ?_
                      refine lv_iadd hx hb dL_bounds_164 ?_
                      obtain ⟨q165, hq165, hf⟩ := bnd_e hf
                      refine gxk_i hS (gvx_run (rest := []) S hG hW hS [.int (0 : Int32), .int (a1 + (6 : Int32))] (c_X7_edit l hl0 Γ q142.2 M (0 : Int32) (a1 + (6 : Int32)) hq165) pk_X7_edit rfl ml_L_17 rfl rfl ⟨Nat.le_of_ble_eq_true rfl, Nat.le_of_ble_eq_true rfl⟩ rfl hl.1 rfl (Nat.le_of_ble_eq_true rfl) dL_bounds_165 ⟨by show (cs + 9) + 2 ≤ 2393; omega, by show (ss + 54) + 12 ≤ 44358; omega⟩) (fun H locs k9 ce9 z9 hW hS e9 hce hcv hcl => by have hf := sw_r e9 hf; cases hf) (fun H locs v165 hW hS e9 => ?_)
                      have hf := sw_l e9 hf
                      refine lv_sipush (v := (9999 : Int32)) hx hb dL_bounds_168 (by decide) ?_
                      refine lv_icmp_ne (tgt := 190) hx hb dL_bounds_171 (by decide) (fun c171 => ?_) (fun c171 => ?_)
                      · have hf := cn_f c171 hf
                        exact J_190 q165.2 hf (cs + 11) (ss + 66) (by omega) (by omega) H locs ls hW hS (lv_sub hl [] rfl)
                      · have hf := cn_t c171 hf
                        refine lv_aload_n hx hb dL_bounds_174 rfl (lv_at hl 1 rfl) ?_
                        refine lv_iconst (v := (0 : Int32)) hx hb dL_bounds_175 (by decide) ?_
                        obtain ⟨q176, hq176, hf⟩ := bnd_e hf
                        refine gxk_i hS (gvx_run (rest := []) S hG hW hS [.int (0 : Int32)] (c_X7_run l hl0 Γ q165.2 M (0 : Int32) hq176) pk_X7_run rfl ml_L_58 rfl rfl ⟨Nat.le_of_ble_eq_true rfl, Nat.le_of_ble_eq_true rfl⟩ rfl hl.1 rfl (Nat.le_of_ble_eq_true rfl) dL_bounds_176 ⟨by show (cs + 11) + 2 ≤ 2393; omega, by show (ss + 66) + 12 ≤ 44358; omega⟩) (fun H locs k9 ce9 z9 hW hS e9 hce hcv hcl => by have hf := sw_r e9 hf; cases hf) (fun H locs v176 hW hS e9 => ?_)
                        have hf := sw_l e9 hf
                        refine lv_iconst (v := (3 : Int32)) hx hb dL_bounds_179 (by decide) ?_
                        refine lv_icmp_ne (tgt := 190) hx hb dL_bounds_180 (by decide) (fun c180 => ?_) (fun c180 => ?_)
                        · have hf := cn_f c180 hf
                          exact J_190 q176.2 hf (cs + 13) (ss + 78) (by omega) (by omega) H locs ls hW hS (lv_sub hl [] rfl)
                        · have hf := cn_t c180 hf
                          refine lv_aload_n hx hb dL_bounds_183 rfl (lv_at hl 1 rfl) ?_
                          obtain ⟨q184, hq184, hf⟩ := bnd_e hf
                          refine gxk_i hS (gvx_run (rest := []) S hG hW hS [] (c_X7_runAll l hl0 Γ q176.2 M hq184) pk_X7_runAll rfl ml_L_61 rfl rfl ⟨Nat.le_of_ble_eq_true rfl, Nat.le_of_ble_eq_true rfl⟩ rfl hl.1 rfl (Nat.le_of_ble_eq_true rfl) dL_bounds_184 ⟨by show (cs + 13) + 1 ≤ 2393; omega, by show (ss + 78) + 6 ≤ 44358; omega⟩) (fun H locs k9 ce9 z9 hW hS e9 hce hcv hcl => by have hf := sw_r e9 hf; cases hf) (fun H locs v184 hW hS e9 => ?_)
                          have hf := sw_l e9 hf
                          have J_192 : ∀ (C_192 : Mem) , fL_bounds_192 C_192 = some y0 → ∀ (cs ss : Nat), cs ≤ 1784 → ss ≤ 40704 → ∀ (H : Heap) (locs : List Loc) (ls : Array Slot), gx_W Γ C_192 M H → va_S (gA Γ) s.heap H locs → lv_has ls 3 [(1, .ref (Γ.1 0))] → W p l e rm_L_bounds s m args below meth c H locs cs ss Q (F0 m 192 ls []) := by
                            intro C_192 hf cs ss hcs hss H locs ls hW hS hl
                            unfold fL_bounds_192 at hf
                            refine lv_iconst (v := (1 : Int32)) hx hb dL_bounds_192 (by decide) ?_
                            refine lv_istore_n (lv' := [(2, .int (1 : Int32)), (1, .ref (Γ.1 0))]) hx hb dL_bounds_193 rfl hl (by decide) rfl (fun ls hl => ?_)
                            have J_194 : ∀  (t_194 : Mem × Int32), lp (fL_bounds_194) t_194 = some y0 → ∀ (cs ss : Nat), cs + 11 * rmn (25 : Int32) t_194.2 ≤ 2048 → ss + 66 * rmn (25 : Int32) t_194.2 ≤ 42288 → ∀ (H : Heap) (locs : List Loc) (ls : Array Slot), gx_W Γ t_194.1 M H → va_S (gA Γ) s.heap H locs → lv_has ls 3 [(1, .ref (Γ.1 0)), (2, .int t_194.2)] → W p l e rm_L_bounds s m args below meth c H locs cs ss Q (F0 m 194 ls []) := by
                              refine lp_ind (P := fun (t_194 : Mem × Int32) => ∀ (cs ss : Nat), cs + 11 * rmn (25 : Int32) t_194.2 ≤ 2048 → ss + 66 * rmn (25 : Int32) t_194.2 ≤ 42288 → ∀ (H : Heap) (locs : List Loc) (ls : Array Slot), gx_W Γ t_194.1 M H → va_S (gA Γ) s.heap H locs → lv_has ls 3 [(1, .ref (Γ.1 0)), (2, .int t_194.2)] → W p l e rm_L_bounds s m args below meth c H locs cs ss Q (F0 m 194 ls [])) ?_
                              intro t_194 y1 hf kI1 kX1 cs ss hcs hss H locs ls hW hS hl
                              unfold fL_bounds_194 at hf
                              refine lv_iload_n hx hb dL_bounds_194 rfl (lv_at hl 1 rfl) ?_
                              refine lv_bipush (v := (25 : Int32)) hx hb dL_bounds_195 (by decide) ?_
                              have J_320 : ∀ (C_320 : Mem) , fL_bounds_320 C_320 = some y0 → ∀ (cs ss : Nat), cs ≤ 2048 → ss ≤ 42288 → ∀ (H : Heap) (locs : List Loc) (ls : Array Slot), gx_W Γ C_320 M H → va_S (gA Γ) s.heap H locs → lv_has ls 3 [(1, .ref (Γ.1 0))] → W p l e rm_L_bounds s m args below meth c H locs cs ss Q (F0 m 320 ls []) := by
                                intro C_320 hf cs ss hcs hss H locs ls hW hS hl
                                unfold fL_bounds_320 at hf
                                refine lv_aload_n hx hb dL_bounds_320 rfl (lv_at hl 0 rfl) ?_
                                refine gk0_i hS (gv_run (rest := []) S hG hW hS [] (c_X7_files l Γ C_320 M) pk_X7_files ml_L_99 (Nat.le_of_ble_eq_true rfl) rfl rfl rfl rfl ⟨Nat.le_of_ble_eq_true rfl, Nat.le_of_ble_eq_true rfl⟩ rfl hl.1 rfl (Nat.le_of_ble_eq_true rfl) dL_bounds_321 ⟨by show cs + 0 ≤ 2393; omega, by show ss + 0 ≤ 44358; omega⟩) (fun H locs hW hS => ?_)
                                refine lv_ldc (v := (16777215 : Int32)) hx hb hown (hts _ ct_L_148) dL_bounds_324 ?_
                                have J_351 : ∀ (C_351 : Mem) , fL_bounds_351 C_351 = some y0 → ∀ (cs ss : Nat), cs ≤ 2393 → ss ≤ 44358 → ∀ (H : Heap) (locs : List Loc) (ls : Array Slot), gx_W Γ C_351 M H → va_S (gA Γ) s.heap H locs → lv_has ls 3 [] → W p l e rm_L_bounds s m args below meth c H locs cs ss Q (F0 m 351 ls []) := by
                                  intro C_351 hf cs ss hcs hss H locs ls hW hS hl
                                  unfold fL_bounds_351 at hf
                                  refine lv_iconst (v := (0 : Int32)) hx hb dL_bounds_351 (by decide) ?_
                                  have e9 := Option.some.inj hf
                                  exact hret _ _ _ _ _ _ _ hS rfl e9 (by show cs ≤ 2393; omega) (by show ss ≤ 44358; omega) dL_bounds_352
                                refine lv_icmp_ne (tgt := 351) hx hb dL_bounds_326 (by decide) (fun c326 => ?_) (fun c326 => ?_)
                                · have hf := cn_f c326 hf
                                  exact J_351 C_320 hf cs ss (by omega) (by omega) H locs ls hW hS (lv_sub hl [] rfl)
                                · have hf := cn_t c326 hf
                                  refine lv_aload_n hx hb dL_bounds_329 rfl (lv_at hl 0 rfl) ?_
                                  obtain ⟨q330, hq330, hf⟩ := bnd_e hf
                                  refine gk0_i hS (gv_run (rest := []) S hG hW hS [] (c_X7_needed l Γ C_320 M hq330) pk_X7_needed ml_L_135 (Nat.le_of_ble_eq_true rfl) rfl rfl rfl rfl ⟨Nat.le_of_ble_eq_true rfl, Nat.le_of_ble_eq_true rfl⟩ rfl hl.1 rfl (Nat.le_of_ble_eq_true rfl) dL_bounds_330 ⟨by show cs + 0 ≤ 2393; omega, by show ss + 0 ≤ 44358; omega⟩) (fun H locs hW hS => ?_)
                                  refine lv_ldc (v := (65534 : Int32)) hx hb hown (hts _ ct_L_149) dL_bounds_333 ?_
                                  refine lv_icmp_ne (tgt := 351) hx hb dL_bounds_335 (by decide) (fun c335 => ?_) (fun c335 => ?_)
                                  · have hf := cn_f c335 hf
                                    exact J_351 q330.2 hf cs ss (by omega) (by omega) H locs ls hW hS (lv_sub hl [] rfl)
                                  · have hf := cn_t c335 hf
                                    refine lv_aload_n hx hb dL_bounds_338 rfl (lv_at hl 0 rfl) ?_
                                    refine lv_bipush (v := (24 : Int32)) hx hb dL_bounds_339 (by decide) ?_
                                    obtain ⟨q341, hq341, hf⟩ := bnd_e hf
                                    refine gk_i hS (gs_run (rest := []) S hG hW hS [.ref (Γ.1 0), .int (24 : Int32)] (c_L_refuses l hl0 Γ q330.2 M (24 : Int32) hq341) pk_L_refuses ml_L_138 rfl rfl ⟨Nat.le_of_ble_eq_true rfl, Nat.le_of_ble_eq_true rfl⟩ rfl hl.1 rfl (Nat.le_of_ble_eq_true rfl) dL_bounds_341 ⟨by show cs + 345 ≤ 2393; omega, by show ss + 2070 ≤ 44358; omega⟩) (fun H locs hW hS => ?_)
                                    refine lv_if_eq (tgt := 351) hx hb dL_bounds_344 (by decide) (fun c344 => ?_) (fun c344 => ?_)
                                    · have hf := cn_t c344 hf
                                      exact J_351 q341.2 hf (cs + 345) (ss + 2070) (by omega) (by omega) H locs ls hW hS (lv_sub hl [] rfl)
                                    · have hf := cn_f c344 hf
                                      refine lv_iconst (v := (1 : Int32)) hx hb dL_bounds_347 (by decide) ?_
                                      refine lv_goto (tgt := 352) hx hb dL_bounds_348 (by decide) ?_
                                      have e9 := Option.some.inj hf
                                      exact hret _ _ _ _ _ _ _ hS rfl e9 (by show (cs + 345) ≤ 2393; omega) (by show (ss + 2070) ≤ 44358; omega) dL_bounds_352
                              refine lv_icmp_ge (tgt := 320) hx hb dL_bounds_197 (by decide) (fun c197 => ?_) (fun c197 => ?_)
                              · have hf := cn_t c197 hf
                                obtain ⟨z197, hf, ez⟩ := exR_e hf
                                rw [kX1 _ ez] at hf
                                exact J_320 t_194.1 hf cs ss (by omega) (by omega) H locs ls hW hS (lv_sub hl [0] rfl)
                              · have hf := cn_f c197 hf
                                have r194 := rmn_s c197
                                refine lv_aload_n hx hb dL_bounds_200 rfl (lv_at hl 0 rfl) ?_
                                obtain ⟨q201, hq201, hf⟩ := bnd_e hf
                                refine gk0_i hS (gv_run (rest := []) S hG hW hS [] (c_X7_clearText l Γ t_194.1 M hq201) pk_X7_clearText ml_L_92 (Nat.le_of_ble_eq_true rfl) rfl rfl rfl rfl ⟨Nat.le_of_ble_eq_true rfl, Nat.le_of_ble_eq_true rfl⟩ rfl hl.1 rfl (Nat.le_of_ble_eq_true rfl) dL_bounds_201 ⟨by show cs + 0 ≤ 2393; omega, by show ss + 0 ≤ 44358; omega⟩) (fun H locs hW hS => ?_)
                                refine lv_pop hx hb dL_bounds_204 rfl ?_
                                refine lv_aload_n hx hb dL_bounds_205 rfl (lv_at hl 0 rfl) ?_
                                refine lv_bipush (v := (97 : Int32)) hx hb dL_bounds_206 (by decide) ?_
                                refine lv_iload_n hx hb dL_bounds_208 rfl (lv_at hl 1 rfl) ?_
                                refine lv_bipush (v := (16 : Int32)) hx hb dL_bounds_209 (by decide) ?_
                                refine lv_irem hx hb dL_bounds_211 (by decide) ?_
                                refine lv_iadd hx hb dL_bounds_212 ?_
                                refine lv_i2c (v := (((97 : Int32) + (t_194.2 - t_194.2 / (16 : Int32) * (16 : Int32))).toUInt32 % 65536).toInt32) hx hb dL_bounds_213 rfl ?_
                                obtain ⟨q214, hq214, hf⟩ := bnd_e hf
                                refine gxk_i hS (gvx_run (rest := []) S hG hW hS [.int ((((97 : Int32) + (t_194.2 - t_194.2 / (16 : Int32) * (16 : Int32))).toUInt32 % 65536).toInt32)] (c_X7_type l hl0 Γ q201.2 M ((((97 : Int32) + (t_194.2 - t_194.2 / (16 : Int32) * (16 : Int32))).toUInt32 % 65536).toInt32) hq214) pk_X7_type rfl ml_L_7 rfl rfl ⟨Nat.le_of_ble_eq_true rfl, Nat.le_of_ble_eq_true rfl⟩ rfl hl.1 rfl (Nat.le_of_ble_eq_true rfl) dL_bounds_214 ⟨by show cs + 1 ≤ 2393; omega, by show ss + 6 ≤ 44358; omega⟩) (fun H locs k9 ce9 z9 hW hS e9 hce hcv hcl => by have hf := sw_r e9 hf; cases hf) (fun H locs v214 hW hS e9 => ?_)
                                have hf := sw_l e9 hf
                                refine lv_iconst (v := (1 : Int32)) hx hb dL_bounds_217 (by decide) ?_
                                have J_312 : ∀ (C_312 : Mem) , fL_bounds_312 C_312 = some y0 → ∀ (cs ss : Nat), cs ≤ 2059 → ss ≤ 42354 → ∀ (H : Heap) (locs : List Loc) (ls : Array Slot), gx_W Γ C_312 M H → va_S (gA Γ) s.heap H locs → lv_has ls 3 [] → W p l e rm_L_bounds s m args below meth c H locs cs ss Q (F0 m 312 ls []) := by
                                  intro C_312 hf cs ss hcs hss H locs ls hW hS hl
                                  unfold fL_bounds_312 at hf
                                  refine lv_iconst (v := (0 : Int32)) hx hb dL_bounds_312 (by decide) ?_
                                  have e9 := Option.some.inj hf
                                  exact hret _ _ _ _ _ _ _ hS rfl e9 (by show cs ≤ 2393; omega) (by show ss ≤ 44358; omega) dL_bounds_313
                                refine lv_icmp_ne (tgt := 312) hx hb dL_bounds_218 (by decide) (fun c218 => ?_) (fun c218 => ?_)
                                · have hf := cn_f c218 hf
                                  obtain ⟨z218, hf, ez⟩ := exR_e hf
                                  rw [kX1 _ ez] at hf
                                  exact J_312 q214.2 hf (cs + 1) (ss + 6) (by omega) (by omega) H locs ls hW hS (lv_sub hl [] rfl)
                                · have hf := cn_t c218 hf
                                  refine lv_aload_n hx hb dL_bounds_221 rfl (lv_at hl 0 rfl) ?_
                                  refine lv_iload_n hx hb dL_bounds_222 rfl (lv_at hl 1 rfl) ?_
                                  refine lv_bipush (v := (16 : Int32)) hx hb dL_bounds_223 (by decide) ?_
                                  have J_235 : ∀ (C_235 : Mem) (s0_235 : Int32) , fL_bounds_235 t_194 C_235 s0_235 = some y1 → ∀ (cs ss : Nat), cs + 11 * rmn (25 : Int32) t_194.2 ≤ 2049 → ss + 66 * rmn (25 : Int32) t_194.2 ≤ 42294 → ∀ (H : Heap) (locs : List Loc) (ls : Array Slot), gx_W Γ C_235 M H → va_S (gA Γ) s.heap H locs → lv_has ls 3 [(1, .ref (Γ.1 0)), (2, .int t_194.2)] → W p l e rm_L_bounds s m args below meth c H locs cs ss Q (F0 m 235 ls [.int s0_235, .ref (Γ.1 0)]) := by
                                    intro C_235 s0_235 hf cs ss hcs hss H locs ls hW hS hl
                                    unfold fL_bounds_235 at hf
                                    obtain ⟨q235, hq235, hf⟩ := bnd_e hf
                                    refine gxk_i hS (gvx_run (rest := []) S hG hW hS [.int s0_235] (c_X7_type l hl0 Γ C_235 M s0_235 hq235) pk_X7_type rfl ml_L_7 rfl rfl ⟨Nat.le_of_ble_eq_true rfl, Nat.le_of_ble_eq_true rfl⟩ rfl hl.1 rfl (Nat.le_of_ble_eq_true rfl) dL_bounds_235 ⟨by show cs + 1 ≤ 2393; omega, by show ss + 6 ≤ 44358; omega⟩) (fun H locs k9 ce9 z9 hW hS e9 hce hcv hcl => by have hf := sw_r e9 hf; cases hf) (fun H locs v235 hW hS e9 => ?_)
                                    have hf := sw_l e9 hf
                                    refine lv_iconst (v := (2 : Int32)) hx hb dL_bounds_238 (by decide) ?_
                                    refine lv_icmp_ne (tgt := 312) hx hb dL_bounds_239 (by decide) (fun c239 => ?_) (fun c239 => ?_)
                                    · have hf := cn_f c239 hf
                                      obtain ⟨z239, hf, ez⟩ := exR_e hf
                                      rw [kX1 _ ez] at hf
                                      exact J_312 q235.2 hf (cs + 1) (ss + 6) (by omega) (by omega) H locs ls hW hS (lv_sub hl [] rfl)
                                    · have hf := cn_t c239 hf
                                      refine lv_aload_n hx hb dL_bounds_242 rfl (lv_at hl 0 rfl) ?_
                                      refine lv_iconst (v := (1 : Int32)) hx hb dL_bounds_243 (by decide) ?_
                                      refine lv_iload_n hx hb dL_bounds_244 rfl (lv_at hl 1 rfl) ?_
                                      refine lv_iconst (v := (0 : Int32)) hx hb dL_bounds_245 (by decide) ?_
                                      obtain ⟨q246, hq246, hf⟩ := bnd_e hf
                                      refine gk_i hS (gsw_run (rest := []) S hG hW hS [.ref (Γ.1 0), .int (1 : Int32), .int t_194.2, .int (0 : Int32)] (c_L_act l hl0 Γ q235.2 M (1 : Int32) t_194.2 (0 : Int32) hq246) pk_L_act ml_L_86 rfl rfl ⟨Nat.le_of_ble_eq_true rfl, Nat.le_of_ble_eq_true rfl⟩ rfl hl.1 rfl (Nat.le_of_ble_eq_true rfl) dL_bounds_246 ⟨by show (cs + 1) + 3 ≤ 2393; omega, by show (ss + 6) + 18 ≤ 44358; omega⟩) (fun H locs hW hS => ?_)
                                      refine lv_iload_n hx hb dL_bounds_249 rfl (lv_at hl 1 rfl) ?_
                                      refine lv_bipush (v := (24 : Int32)) hx hb dL_bounds_250 (by decide) ?_
                                      have J_261 : ∀ (C_261 : Mem) (s0_261 : Int32) (s1_261 : Int32) , fL_bounds_261 t_194 C_261 s0_261 s1_261 = some y1 → ∀ (cs ss : Nat), cs + 11 * rmn (25 : Int32) t_194.2 ≤ 2053 → ss + 66 * rmn (25 : Int32) t_194.2 ≤ 42318 → ∀ (H : Heap) (locs : List Loc) (ls : Array Slot), gx_W Γ C_261 M H → va_S (gA Γ) s.heap H locs → lv_has ls 3 [(1, .ref (Γ.1 0)), (2, .int t_194.2)] → W p l e rm_L_bounds s m args below meth c H locs cs ss Q (F0 m 261 ls [.int s0_261, .int s1_261]) := by
                                        intro C_261 s0_261 s1_261 hf cs ss hcs hss H locs ls hW hS hl
                                        unfold fL_bounds_261 at hf
                                        refine lv_icmp_ne (tgt := 312) hx hb dL_bounds_261 (by decide) (fun c261 => ?_) (fun c261 => ?_)
                                        · have hf := cn_f c261 hf
                                          obtain ⟨z261, hf, ez⟩ := exR_e hf
                                          rw [kX1 _ ez] at hf
                                          exact J_312 C_261 hf cs ss (by omega) (by omega) H locs ls hW hS (lv_sub hl [] rfl)
                                        · have hf := cn_t c261 hf
                                          refine lv_aload_n hx hb dL_bounds_264 rfl (lv_at hl 0 rfl) ?_
                                          refine lv_iconst (v := (5 : Int32)) hx hb dL_bounds_265 (by decide) ?_
                                          refine lv_iload_n hx hb dL_bounds_266 rfl (lv_at hl 1 rfl) ?_
                                          refine lv_iconst (v := (0 : Int32)) hx hb dL_bounds_267 (by decide) ?_
                                          obtain ⟨q268, hq268, hf⟩ := bnd_e hf
                                          refine gk_i hS (gsw_run (rest := []) S hG hW hS [.ref (Γ.1 0), .int (5 : Int32), .int t_194.2, .int (0 : Int32)] (c_L_act l hl0 Γ C_261 M (5 : Int32) t_194.2 (0 : Int32) hq268) pk_L_act ml_L_86 rfl rfl ⟨Nat.le_of_ble_eq_true rfl, Nat.le_of_ble_eq_true rfl⟩ rfl hl.1 rfl (Nat.le_of_ble_eq_true rfl) dL_bounds_268 ⟨by show cs + 3 ≤ 2393; omega, by show ss + 18 ≤ 44358; omega⟩) (fun H locs hW hS => ?_)
                                          refine lv_iload_n hx hb dL_bounds_271 rfl (lv_at hl 1 rfl) ?_
                                          refine lv_bipush (v := (16 : Int32)) hx hb dL_bounds_272 (by decide) ?_
                                          have J_283 : ∀ (C_283 : Mem) (s0_283 : Int32) (s1_283 : Int32) , fL_bounds_283 t_194 C_283 s0_283 s1_283 = some y1 → ∀ (cs ss : Nat), cs + 11 * rmn (25 : Int32) t_194.2 ≤ 2056 → ss + 66 * rmn (25 : Int32) t_194.2 ≤ 42336 → ∀ (H : Heap) (locs : List Loc) (ls : Array Slot), gx_W Γ C_283 M H → va_S (gA Γ) s.heap H locs → lv_has ls 3 [(1, .ref (Γ.1 0)), (2, .int t_194.2)] → W p l e rm_L_bounds s m args below meth c H locs cs ss Q (F0 m 283 ls [.int s0_283, .int s1_283]) := by
                                            intro C_283 s0_283 s1_283 hf cs ss hcs hss H locs ls hW hS hl
                                            unfold fL_bounds_283 at hf
                                            refine lv_icmp_ne (tgt := 312) hx hb dL_bounds_283 (by decide) (fun c283 => ?_) (fun c283 => ?_)
                                            · have hf := cn_f c283 hf
                                              obtain ⟨z283, hf, ez⟩ := exR_e hf
                                              rw [kX1 _ ez] at hf
                                              exact J_312 C_283 hf cs ss (by omega) (by omega) H locs ls hW hS (lv_sub hl [] rfl)
                                            · have hf := cn_t c283 hf
                                              refine lv_aload_n hx hb dL_bounds_286 rfl (lv_at hl 0 rfl) ?_
                                              refine lv_bipush (v := (20 : Int32)) hx hb dL_bounds_287 (by decide) ?_
                                              refine lv_iload_n hx hb dL_bounds_289 rfl (lv_at hl 1 rfl) ?_
                                              refine lv_bipush (v := (8 : Int32)) hx hb dL_bounds_290 (by decide) ?_
                                              refine lv_irem hx hb dL_bounds_292 (by decide) ?_
                                              refine lv_iconst (v := (0 : Int32)) hx hb dL_bounds_293 (by decide) ?_
                                              obtain ⟨q294, hq294, hf⟩ := bnd_e hf
                                              refine gk_i hS (gsw_run (rest := []) S hG hW hS [.ref (Γ.1 0), .int (20 : Int32), .int (t_194.2 - t_194.2 / (8 : Int32) * (8 : Int32)), .int (0 : Int32)] (c_L_act l hl0 Γ C_283 M (20 : Int32) (t_194.2 - t_194.2 / (8 : Int32) * (8 : Int32)) (0 : Int32) hq294) pk_L_act ml_L_86 rfl rfl ⟨Nat.le_of_ble_eq_true rfl, Nat.le_of_ble_eq_true rfl⟩ rfl hl.1 rfl (Nat.le_of_ble_eq_true rfl) dL_bounds_294 ⟨by show cs + 3 ≤ 2393; omega, by show ss + 18 ≤ 44358; omega⟩) (fun H locs hW hS => ?_)
                                              refine lv_iload_n hx hb dL_bounds_297 rfl (lv_at hl 1 rfl) ?_
                                              refine lv_bipush (v := (13 : Int32)) hx hb dL_bounds_298 (by decide) ?_
                                              have J_309 : ∀ (C_309 : Mem) (s0_309 : Int32) (s1_309 : Int32) , fL_bounds_309 t_194 C_309 s0_309 s1_309 = some y1 → ∀ (cs ss : Nat), cs + 11 * rmn (25 : Int32) t_194.2 ≤ 2059 → ss + 66 * rmn (25 : Int32) t_194.2 ≤ 42354 → ∀ (H : Heap) (locs : List Loc) (ls : Array Slot), gx_W Γ C_309 M H → va_S (gA Γ) s.heap H locs → lv_has ls 3 [(1, .ref (Γ.1 0)), (2, .int t_194.2)] → W p l e rm_L_bounds s m args below meth c H locs cs ss Q (F0 m 309 ls [.int s0_309, .int s1_309]) := by
                                                intro C_309 s0_309 s1_309 hf cs ss hcs hss H locs ls hW hS hl
                                                unfold fL_bounds_309 at hf
                                                have J_314 : ∀ (C_314 : Mem) , fL_bounds_314 t_194 C_314 = some y1 → ∀ (cs ss : Nat), cs + 11 * rmn (25 : Int32) t_194.2 ≤ 2059 → ss + 66 * rmn (25 : Int32) t_194.2 ≤ 42354 → ∀ (H : Heap) (locs : List Loc) (ls : Array Slot), gx_W Γ C_314 M H → va_S (gA Γ) s.heap H locs → lv_has ls 3 [(1, .ref (Γ.1 0)), (2, .int t_194.2)] → W p l e rm_L_bounds s m args below meth c H locs cs ss Q (F0 m 314 ls []) := by
                                                  intro C_314 hf cs ss hcs hss H locs ls hW hS hl
                                                  unfold fL_bounds_314 at hf
                                                  refine lv_iinc (v := (t_194.2 + (1 : Int32))) (lv' := [(2, .int (t_194.2 + (1 : Int32))), (1, .ref (Γ.1 0))]) hx hb dL_bounds_314 hl (k := 1) rfl rfl (by decide) rfl (fun ls hl => ?_)
                                                  refine lv_goto (tgt := 194) hx hb dL_bounds_317 (by decide) ?_
                                                  exact kI1 _ (Option.some.inj hf).symm cs ss (by show cs + 11 * rmn (25 : Int32) (t_194.2 + (1 : Int32)) ≤ 2048; omega) (by show ss + 66 * rmn (25 : Int32) (t_194.2 + (1 : Int32)) ≤ 42288; omega) H locs ls hW hS (lv_sub hl [1, 0] rfl)
                                                refine lv_icmp_eq (tgt := 314) hx hb dL_bounds_309 (by decide) (fun c309 => ?_) (fun c309 => ?_)
                                                · have hf := cn_t c309 hf
                                                  exact J_314 C_309 hf cs ss (by omega) (by omega) H locs ls hW hS (lv_sub hl [0, 1] rfl)
                                                · have hf := cn_f c309 hf
                                                  obtain ⟨z309, hf, ez⟩ := exR_e hf
                                                  rw [kX1 _ ez] at hf
                                                  exact J_312 C_309 hf cs ss (by omega) (by omega) H locs ls hW hS (lv_sub hl [] rfl)
                                              refine lv_icmp_ge (tgt := 307) hx hb dL_bounds_300 (by decide) (fun c300 => ?_) (fun c300 => ?_)
                                              · have hf := cn_t c300 hf
                                                refine lv_bipush (v := (-33 : Int32)) hx hb dL_bounds_307 (by decide) ?_
                                                exact J_309 q294.2 (-33 : Int32) q294.1 hf (cs + 3) (ss + 18) (by omega) (by omega) H locs ls hW hS (lv_sub hl [0, 1] rfl)
                                              · have hf := cn_f c300 hf
                                                refine lv_iload_n hx hb dL_bounds_303 rfl (lv_at hl 1 rfl) ?_
                                                refine lv_goto (tgt := 309) hx hb dL_bounds_304 (by decide) ?_
                                                exact J_309 q294.2 t_194.2 q294.1 hf (cs + 3) (ss + 18) (by omega) (by omega) H locs ls hW hS (lv_sub hl [0, 1] rfl)
                                          refine lv_icmp_ge (tgt := 281) hx hb dL_bounds_274 (by decide) (fun c274 => ?_) (fun c274 => ?_)
                                          · have hf := cn_t c274 hf
                                            refine lv_bipush (v := (-33 : Int32)) hx hb dL_bounds_281 (by decide) ?_
                                            exact J_283 q268.2 (-33 : Int32) q268.1 hf (cs + 3) (ss + 18) (by omega) (by omega) H locs ls hW hS (lv_sub hl [0, 1] rfl)
                                          · have hf := cn_f c274 hf
                                            refine lv_iload_n hx hb dL_bounds_277 rfl (lv_at hl 1 rfl) ?_
                                            refine lv_goto (tgt := 283) hx hb dL_bounds_278 (by decide) ?_
                                            exact J_283 q268.2 t_194.2 q268.1 hf (cs + 3) (ss + 18) (by omega) (by omega) H locs ls hW hS (lv_sub hl [0, 1] rfl)
                                      refine lv_icmp_ge (tgt := 259) hx hb dL_bounds_252 (by decide) (fun c252 => ?_) (fun c252 => ?_)
                                      · have hf := cn_t c252 hf
                                        refine lv_bipush (v := (-33 : Int32)) hx hb dL_bounds_259 (by decide) ?_
                                        exact J_261 q246.2 (-33 : Int32) q246.1 hf (cs + 4) (ss + 24) (by omega) (by omega) H locs ls hW hS (lv_sub hl [0, 1] rfl)
                                      · have hf := cn_f c252 hf
                                        refine lv_iload_n hx hb dL_bounds_255 rfl (lv_at hl 1 rfl) ?_
                                        refine lv_goto (tgt := 261) hx hb dL_bounds_256 (by decide) ?_
                                        exact J_261 q246.2 t_194.2 q246.1 hf (cs + 4) (ss + 24) (by omega) (by omega) H locs ls hW hS (lv_sub hl [0, 1] rfl)
                                  refine lv_icmp_ge (tgt := 233) hx hb dL_bounds_225 (by decide) (fun c225 => ?_) (fun c225 => ?_)
                                  · have hf := cn_t c225 hf
                                    refine lv_bipush (v := (121 : Int32)) hx hb dL_bounds_233 (by decide) ?_
                                    exact J_235 q214.2 (121 : Int32) hf (cs + 1) (ss + 6) (by omega) (by omega) H locs ls hW hS (lv_sub hl [0, 1] rfl)
                                  · have hf := cn_f c225 hf
                                    refine lv_bipush (v := (120 : Int32)) hx hb dL_bounds_228 (by decide) ?_
                                    refine lv_goto (tgt := 235) hx hb dL_bounds_230 (by decide) ?_
                                    exact J_235 q214.2 (120 : Int32) hf (cs + 1) (ss + 6) (by omega) (by omega) H locs ls hW hS (lv_sub hl [0, 1] rfl)
                            exact J_194  (C_192, (1 : Int32)) hf cs ss (by have e9 : rmn (25 : Int32) (1 : Int32) = 24 := (by decide); show cs + 11 * rmn (25 : Int32) (1 : Int32) ≤ 2048; omega) (by have e9 : rmn (25 : Int32) (1 : Int32) = 24 := (by decide); show ss + 66 * rmn (25 : Int32) (1 : Int32) ≤ 42288; omega) H locs ls hW hS (lv_sub hl [1, 0] rfl)
                          refine lv_if_eq (tgt := 192) hx hb dL_bounds_187 (by decide) (fun c187 => ?_) (fun c187 => ?_)
                          · have hf := cn_t c187 hf
                            exact J_192 q184.2 hf (cs + 14) (ss + 84) (by omega) (by omega) H locs ls hW hS (lv_sub hl [1] rfl)
                          · have hf := cn_f c187 hf
                            exact J_190 q184.2 hf (cs + 14) (ss + 84) (by omega) (by omega) H locs ls hW hS (lv_sub hl [] rfl)
            refine lv_icmp_ge (tgt := 105) hx hb dL_bounds_64 (by decide) (fun c64 => ?_) (fun c64 => ?_)
            · have hf := cn_t c64 hf
              obtain ⟨z64, hf, ez⟩ := exR_e hf
              rw [kX1 _ ez] at hf
              exact J_105 t_60.1 hf cs ss (by omega) (by omega) H locs ls hW hS (lv_sub hl [0, 1] rfl)
            · have hf := cn_f c64 hf
              have r60 := rmn_s c64
              refine lv_aload_n hx hb dL_bounds_67 rfl (lv_at hl 1 rfl) ?_
              refine lv_iconst (v := (0 : Int32)) hx hb dL_bounds_68 (by decide) ?_
              refine lv_iconst (v := (3 : Int32)) hx hb dL_bounds_69 (by decide) ?_
              refine lv_iload_n hx hb dL_bounds_70 rfl (lv_at hl 2 rfl) ?_
              refine lv_imul hx hb dL_bounds_71 ?_
              refine lv_iload_n hx hb dL_bounds_72 rfl (lv_at hl 0 rfl) ?_
              refine lv_iadd hx hb dL_bounds_73 ?_
              obtain ⟨q74, hq74, hf⟩ := bnd_e hf
              refine gxk_i hS (gvx_run (rest := []) S hG hW hS [.int (0 : Int32), .int (((3 : Int32) * t_60.2) + a1)] (c_X7_edit l hl0 Γ t_60.1 M (0 : Int32) (((3 : Int32) * t_60.2) + a1) hq74) pk_X7_edit rfl ml_L_17 rfl rfl ⟨Nat.le_of_ble_eq_true rfl, Nat.le_of_ble_eq_true rfl⟩ rfl hl.1 rfl (Nat.le_of_ble_eq_true rfl) dL_bounds_74 ⟨by show cs + 2 ≤ 2393; omega, by show ss + 12 ≤ 44358; omega⟩) (fun H locs k9 ce9 z9 hW hS e9 hce hcv hcl => by have hf := sw_r e9 hf; cases hf) (fun H locs v74 hW hS e9 => ?_)
              have hf := sw_l e9 hf
              refine lv_pop hx hb dL_bounds_77 rfl ?_
              refine lv_aload_n hx hb dL_bounds_78 rfl (lv_at hl 1 rfl) ?_
              refine lv_iconst (v := (0 : Int32)) hx hb dL_bounds_79 (by decide) ?_
              obtain ⟨q80, hq80, hf⟩ := bnd_e hf
              refine gxk_i hS (gvx_run (rest := []) S hG hW hS [.int (0 : Int32)] (c_X7_keyOf l hl0 Γ q74.2 M (0 : Int32) hq80) pk_X7_keyOf rfl ml_L_52 rfl rfl ⟨Nat.le_of_ble_eq_true rfl, Nat.le_of_ble_eq_true rfl⟩ rfl hl.1 rfl (Nat.le_of_ble_eq_true rfl) dL_bounds_80 ⟨by show (cs + 2) + 1 ≤ 2393; omega, by show (ss + 12) + 6 ≤ 44358; omega⟩) (fun H locs k9 ce9 z9 hW hS e9 hce hcv hcl => by have hf := sw_r e9 hf; cases hf) (fun H locs v80 hW hS e9 => ?_)
              have hf := sw_l e9 hf
              have J_97 : ∀ (C_97 : Mem) , fL_bounds_97 C_97 = some y0 → ∀ (cs ss : Nat), cs ≤ 1775 → ss ≤ 40650 → ∀ (H : Heap) (locs : List Loc) (ls : Array Slot), gx_W Γ C_97 M H → va_S (gA Γ) s.heap H locs → lv_has ls 3 [] → W p l e rm_L_bounds s m args below meth c H locs cs ss Q (F0 m 97 ls []) := by
                intro C_97 hf cs ss hcs hss H locs ls hW hS hl
                unfold fL_bounds_97 at hf
                refine lv_iconst (v := (0 : Int32)) hx hb dL_bounds_97 (by decide) ?_
                have e9 := Option.some.inj hf
                exact hret _ _ _ _ _ _ _ hS rfl e9 (by show cs ≤ 2393; omega) (by show ss ≤ 44358; omega) dL_bounds_98
              refine lv_if_ne (tgt := 97) hx hb dL_bounds_83 (by decide) (fun c83 => ?_) (fun c83 => ?_)
              · have hf := cn_f c83 hf
                obtain ⟨z83, hf, ez⟩ := exR_e hf
                rw [kX1 _ ez] at hf
                exact J_97 q80.2 hf (cs + 3) (ss + 18) (by omega) (by omega) H locs ls hW hS (lv_sub hl [] rfl)
              · have hf := cn_t c83 hf
                refine lv_aload_n hx hb dL_bounds_86 rfl (lv_at hl 1 rfl) ?_
                refine lv_iconst (v := (0 : Int32)) hx hb dL_bounds_87 (by decide) ?_
                obtain ⟨q88, hq88, hf⟩ := bnd_e hf
                refine gxk_i hS (gvx_run (rest := []) S hG hW hS [.int (0 : Int32)] (c_X7_run l hl0 Γ q80.2 M (0 : Int32) hq88) pk_X7_run rfl ml_L_58 rfl rfl ⟨Nat.le_of_ble_eq_true rfl, Nat.le_of_ble_eq_true rfl⟩ rfl hl.1 rfl (Nat.le_of_ble_eq_true rfl) dL_bounds_88 ⟨by show (cs + 3) + 2 ≤ 2393; omega, by show (ss + 18) + 12 ≤ 44358; omega⟩) (fun H locs k9 ce9 z9 hW hS e9 hce hcv hcl => by have hf := sw_r e9 hf; cases hf) (fun H locs v88 hW hS e9 => ?_)
                have hf := sw_l e9 hf
                refine lv_iload_n hx hb dL_bounds_91 rfl (lv_at hl 2 rfl) ?_
                refine lv_iconst (v := (1 : Int32)) hx hb dL_bounds_92 (by decide) ?_
                refine lv_iadd hx hb dL_bounds_93 ?_
                have J_99 : ∀ (C_99 : Mem) , fL_bounds_99 a1 t_60 C_99 = some y1 → ∀ (cs ss : Nat), cs + 5 * rmn (200 : Int32) t_60.2 ≤ 1775 → ss + 30 * rmn (200 : Int32) t_60.2 ≤ 40650 → ∀ (H : Heap) (locs : List Loc) (ls : Array Slot), gx_W Γ C_99 M H → va_S (gA Γ) s.heap H locs → lv_has ls 3 [(0, .int a1), (1, .ref (Γ.1 0)), (2, .int t_60.2)] → W p l e rm_L_bounds s m args below meth c H locs cs ss Q (F0 m 99 ls []) := by
                  intro C_99 hf cs ss hcs hss H locs ls hW hS hl
                  unfold fL_bounds_99 at hf
                  refine lv_iinc (v := (t_60.2 + (1 : Int32))) (lv' := [(2, .int (t_60.2 + (1 : Int32))), (0, .int a1), (1, .ref (Γ.1 0))]) hx hb dL_bounds_99 hl (k := 2) rfl rfl (by decide) rfl (fun ls hl => ?_)
                  refine lv_goto (tgt := 60) hx hb dL_bounds_102 (by decide) ?_
                  exact kI1 _ (Option.some.inj hf).symm cs ss (by show cs + 5 * rmn (200 : Int32) (t_60.2 + (1 : Int32)) ≤ 1770; omega) (by show ss + 30 * rmn (200 : Int32) (t_60.2 + (1 : Int32)) ≤ 40620; omega) H locs ls hW hS (lv_sub hl [1, 2, 0] rfl)
                refine lv_icmp_eq (tgt := 99) hx hb dL_bounds_94 (by decide) (fun c94 => ?_) (fun c94 => ?_)
                · have hf := cn_t c94 hf
                  exact J_99 q88.2 hf (cs + 5) (ss + 30) (by omega) (by omega) H locs ls hW hS (lv_sub hl [0, 1, 2] rfl)
                · have hf := cn_f c94 hf
                  obtain ⟨z94, hf, ez⟩ := exR_e hf
                  rw [kX1 _ ez] at hf
                  exact J_97 q88.2 hf (cs + 5) (ss + 30) (by omega) (by omega) H locs ls hW hS (lv_sub hl [] rfl)
          exact J_60  (C_58, (0 : Int32)) hf cs ss (by have e9 : rmn (200 : Int32) (0 : Int32) = 200 := (by decide); show cs + 5 * rmn (200 : Int32) (0 : Int32) ≤ 1770; omega) (by have e9 : rmn (200 : Int32) (0 : Int32) = 200 := (by decide); show ss + 30 * rmn (200 : Int32) (0 : Int32) ≤ 40620; omega) H locs ls hW hS (lv_sub hl [1, 2, 0] rfl)
        refine lv_icmp_eq (tgt := 58) hx hb dL_bounds_53 (by decide) (fun c53 => ?_) (fun c53 => ?_)
        · have hf := cn_t c53 hf
          exact J_58 q49.2 hf (cs + 30) (ss + 180) (by omega) (by omega) H locs ls hW hS (lv_sub hl [0, 1] rfl)
        · have hf := cn_f c53 hf
          exact J_56 q49.2 hf (cs + 30) (ss + 180) (by omega) (by omega) H locs ls hW hS (lv_sub hl [] rfl)
