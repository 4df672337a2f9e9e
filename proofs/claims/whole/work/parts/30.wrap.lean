noncomputable def fL_above (C M : Mem) (a1 : Int32) : Option (Int32 × Mem × Mem) := bnd (fX7_above C a1) fun q => sw q (fun r => some ((0 : Int32), C, mset M 498 0 r)) (fun k => cnd (k = 3) (some ((1 : Int32), C, M)) (none))
abbrev rm_L_above : Room := { frames := 8, cells := 1, slots := 6, locals := 143 }
theorem pk_L_above : PkW yL_above cL_above 4 (some .int) [(0, 9, 12, 25)] 3 := ⟨TsG_t (List.mem_of_getElem? (i := 707) (by decide +kernel)) (by decide +kernel), TsG_t (List.mem_of_getElem? (i := 706) (by decide +kernel)) (by decide +kernel), in_L, by decide +kernel, by decide +kernel, by decide +kernel⟩
set_option maxRecDepth 100000 in
set_option maxHeartbeats 4000000 in
theorem c_L_above (l : Launch) (hl0 : l.stackTraces = false) (Γ : gx_G) (C M : Mem) (a1 : Int32) {y0 : Int32 × Mem × Mem} (hf : fL_above C M a1 = some y0) : Met l yL_above (.codeWith yL_above cL_above 4 (some .int) [(0, 9, 12, 25)] :: TsG) rm_L_above (va_Pc [.ref (Γ.1 0), .int a1, .ref (Γ.1 498)] (gx_P Γ C M)) (gx_Qi Γ y0.1 y0.2.1 y0.2.2) 1 6 (gA Γ) := by
  refine gl_ofW (by decide) (Nat.le_of_ble_eq_true rfl) ?_
  intro p e s m args below meth c Q S htab hG hret ls H locs hl hW hS
  obtain ⟨hx, hb, hml, hown, hts⟩ := id S
  have hl : lv_has ls 4 [(0, .ref (Γ.1 0)), (1, .int a1), (2, .ref (Γ.1 498))] := hl
  unfold fL_above at hf
  obtain ⟨q, hq, hf⟩ := bnd_e hf
  refine lv_aload_n hx hb dL_above_0 rfl (lv_at hl 2 rfl) ?_
  refine lv_iconst (v := (0 : Int32)) hx hb dL_above_1 (by decide) ?_
  refine lv_aload_n hx hb dL_above_2 rfl (lv_at hl 0 rfl) ?_
  refine lv_iload_n hx hb dL_above_3 rfl (lv_at hl 1 rfl) ?_
  refine gxk_i hS (gvx_run (rest := [.int (0 : Int32), .ref (Γ.1 498)]) S hG hW hS [.int a1] (c_X7_above l hl0 Γ C M a1 hq) pk_X7_above rfl ml_L_46 rfl rfl ⟨Nat.le_of_ble_eq_true rfl, Nat.le_of_ble_eq_true rfl⟩ rfl hl.1 rfl (Nat.le_of_ble_eq_true rfl) dL_above_4 ⟨Nat.le_of_ble_eq_true rfl, Nat.le_of_ble_eq_true rfl⟩) (fun H locs k9 ce9 z9 hW hS e9 hce hcv hcl => ?_) (fun H locs r9 hW hS e9 => ?_)
  · have hf := sw_r e9 hf
    by_cases d0 : k9 = 3
    · have hf := cn_t d0 hf
      have e8 := Option.some.inj hf
      subst e8
      subst d0
      refine gl_catch (k := 3) S hG [] ⟨0, 9, 12, 25⟩ [] htab (fun z hz => by cases hz) (by decide) (by decide) cl_L_25 (by decide +kernel) hce hcv hcl ?_
      refine lv_astore_n (lv' := [(3, .ref z9), (0, .ref (Γ.1 0)), (1, .int a1), (2, .ref (Γ.1 498))]) hx hb dL_above_12 rfl hl (by decide) rfl (fun ls hl => ?_)
      refine lv_iconst (v := (1 : Int32)) hx hb dL_above_13 (by decide) ?_
      exact hret _ _ _ _ _ _ _ hW hS rfl (Nat.le_of_ble_eq_true rfl) (Nat.le_of_ble_eq_true rfl) dL_above_14
    · have hf := cn_f d0 hf
      cases hf
  have hf := sw_l e9 hf
  have e8 := Option.some.inj hf
  subst e8
  refine lv_i2l (v := r9.toInt64) hx hb dL_above_7 rfl ?_
  refine ast_out S hG hW hS rfl in_01 dL_above_8 (fun H locs hW hS => ?_)
  refine lv_goto (tgt := 15) hx hb dL_above_9 (by decide) ?_
  refine lv_iconst (v := (0 : Int32)) hx hb dL_above_15 (by decide) ?_
  exact hret _ _ _ _ _ _ _ hW hS rfl (Nat.le_of_ble_eq_true rfl) (Nat.le_of_ble_eq_true rfl) dL_above_16
noncomputable def fL_addFile (C M : Mem) (a1 : Int32) : Option (Int32 × Mem × Mem) := bnd (fX7_addFile C a1) fun q => sw q.1 (fun r => some ((0 : Int32), q.2, mset M 498 0 r)) (fun k => cnd (k = 1) (some ((1 : Int32), q.2, M)) (cnd (k = 2) (some ((2 : Int32), q.2, M)) (none)))
abbrev rm_L_addFile : Room := { frames := 8, cells := 2, slots := 12, locals := 159 }
theorem pk_L_addFile : PkW yL_addFile cL_addFile 4 (some .int) [(0, 9, 12, 13), (0, 9, 15, 15)] 3 := ⟨TsG_t (List.mem_of_getElem? (i := 495) (by decide +kernel)) (by decide +kernel), TsG_t (List.mem_of_getElem? (i := 494) (by decide +kernel)) (by decide +kernel), in_L, by decide +kernel, by decide +kernel, by decide +kernel⟩
set_option maxRecDepth 100000 in
set_option maxHeartbeats 4000000 in
theorem c_L_addFile (l : Launch) (hl0 : l.stackTraces = false) (Γ : gx_G) (C M : Mem) (a1 : Int32) {y0 : Int32 × Mem × Mem} (hf : fL_addFile C M a1 = some y0) : Met l yL_addFile (.codeWith yL_addFile cL_addFile 4 (some .int) [(0, 9, 12, 13), (0, 9, 15, 15)] :: TsG) rm_L_addFile (va_Pc [.ref (Γ.1 0), .int a1, .ref (Γ.1 498)] (gx_P Γ C M)) (gx_Qi Γ y0.1 y0.2.1 y0.2.2) 2 12 (gA Γ) := by
  refine gl_ofW (by decide) (Nat.le_of_ble_eq_true rfl) ?_
  intro p e s m args below meth c Q S htab hG hret ls H locs hl hW hS
  obtain ⟨hx, hb, hml, hown, hts⟩ := id S
  have hl : lv_has ls 4 [(0, .ref (Γ.1 0)), (1, .int a1), (2, .ref (Γ.1 498))] := hl
  unfold fL_addFile at hf
  obtain ⟨q, hq, hf⟩ := bnd_e hf
  refine lv_aload_n hx hb dL_addFile_0 rfl (lv_at hl 2 rfl) ?_
  refine lv_iconst (v := (0 : Int32)) hx hb dL_addFile_1 (by decide) ?_
  refine lv_aload_n hx hb dL_addFile_2 rfl (lv_at hl 0 rfl) ?_
  refine lv_iload_n hx hb dL_addFile_3 rfl (lv_at hl 1 rfl) ?_
  refine gxk_i hS (gvx_run (rest := [.int (0 : Int32), .ref (Γ.1 498)]) S hG hW hS [.int a1] (c_X7_addFile l hl0 Γ C M a1 hq) pk_X7_addFile rfl ml_L_17 rfl rfl ⟨Nat.le_of_ble_eq_true rfl, Nat.le_of_ble_eq_true rfl⟩ rfl hl.1 rfl (Nat.le_of_ble_eq_true rfl) dL_addFile_4 ⟨Nat.le_of_ble_eq_true rfl, Nat.le_of_ble_eq_true rfl⟩) (fun H locs k9 ce9 z9 hW hS e9 hce hcv hcl => ?_) (fun H locs r9 hW hS e9 => ?_)
  · have hf := sw_r e9 hf
    by_cases d0 : k9 = 1
    · have hf := cn_t d0 hf
      have e8 := Option.some.inj hf
      subst e8
      subst d0
      refine gl_catch (k := 1) S hG [] ⟨0, 9, 12, 13⟩ [⟨0, 9, 15, 15⟩] htab (fun z hz => by cases hz) (by decide) (by decide) cl_L_13 (by decide +kernel) hce hcv hcl ?_
      refine lv_astore_n (lv' := [(3, .ref z9), (0, .ref (Γ.1 0)), (1, .int a1), (2, .ref (Γ.1 498))]) hx hb dL_addFile_12 rfl hl (by decide) rfl (fun ls hl => ?_)
      refine lv_iconst (v := (1 : Int32)) hx hb dL_addFile_13 (by decide) ?_
      exact hret _ _ _ _ _ _ _ hW hS rfl (Nat.le_of_ble_eq_true rfl) (Nat.le_of_ble_eq_true rfl) dL_addFile_14
    · have hf := cn_f d0 hf
      by_cases d1 : k9 = 2
      · have hf := cn_t d1 hf
        have e8 := Option.some.inj hf
        subst e8
        subst d1
        refine gl_catch (k := 2) S hG [⟨0, 9, 12, 13⟩] ⟨0, 9, 15, 15⟩ [] htab (fun z hz => (List.mem_cons.mp hz).elim (fun e => e ▸ ⟨by decide, _, cl_L_13, by decide +kernel⟩) (fun hz => nomatch hz)) (by decide) (by decide) cl_L_15 (by decide +kernel) hce hcv hcl ?_
        refine lv_astore_n (lv' := [(3, .ref z9), (0, .ref (Γ.1 0)), (1, .int a1), (2, .ref (Γ.1 498))]) hx hb dL_addFile_15 rfl hl (by decide) rfl (fun ls hl => ?_)
        refine lv_iconst (v := (2 : Int32)) hx hb dL_addFile_16 (by decide) ?_
        exact hret _ _ _ _ _ _ _ hW hS rfl (Nat.le_of_ble_eq_true rfl) (Nat.le_of_ble_eq_true rfl) dL_addFile_17
      · have hf := cn_f d1 hf
        cases hf
  have hf := sw_l e9 hf
  have e8 := Option.some.inj hf
  subst e8
  refine lv_i2l (v := r9.toInt64) hx hb dL_addFile_7 rfl ?_
  refine ast_out S hG hW hS rfl in_01 dL_addFile_8 (fun H locs hW hS => ?_)
  refine lv_goto (tgt := 18) hx hb dL_addFile_9 (by decide) ?_
  refine lv_iconst (v := (0 : Int32)) hx hb dL_addFile_18 (by decide) ?_
  exact hret _ _ _ _ _ _ _ hW hS rfl (Nat.le_of_ble_eq_true rfl) (Nat.le_of_ble_eq_true rfl) dL_addFile_19
noncomputable def fL_addGlob (C M : Mem) (a1 : Int32) : Option (Int32 × Mem × Mem) := bnd (fX7_addGlob C a1) fun q => sw q.1 (fun r => some ((0 : Int32), q.2, mset M 498 0 r)) (fun k => cnd (k = 3) (some ((1 : Int32), q.2, M)) (cnd (k = 1) (some ((2 : Int32), q.2, M)) (cnd (k = 2) (some ((3 : Int32), q.2, M)) (none))))
abbrev rm_L_addGlob : Room := { frames := 8, cells := 3, slots := 18, locals := 143 }
theorem pk_L_addGlob : PkW yL_addGlob cL_addGlob 4 (some .int) [(0, 9, 12, 25), (0, 9, 15, 13), (0, 9, 18, 15)] 3 := ⟨TsG_t (List.mem_of_getElem? (i := 644) (by decide +kernel)) (by decide +kernel), TsG_t (List.mem_of_getElem? (i := 643) (by decide +kernel)) (by decide +kernel), in_L, by decide +kernel, by decide +kernel, by decide +kernel⟩
set_option maxRecDepth 100000 in
set_option maxHeartbeats 4000000 in
theorem c_L_addGlob (l : Launch) (hl0 : l.stackTraces = false) (Γ : gx_G) (C M : Mem) (a1 : Int32) {y0 : Int32 × Mem × Mem} (hf : fL_addGlob C M a1 = some y0) : Met l yL_addGlob (.codeWith yL_addGlob cL_addGlob 4 (some .int) [(0, 9, 12, 25), (0, 9, 15, 13), (0, 9, 18, 15)] :: TsG) rm_L_addGlob (va_Pc [.ref (Γ.1 0), .int a1, .ref (Γ.1 498)] (gx_P Γ C M)) (gx_Qi Γ y0.1 y0.2.1 y0.2.2) 3 18 (gA Γ) := by
  refine gl_ofW (by decide) (Nat.le_of_ble_eq_true rfl) ?_
  intro p e s m args below meth c Q S htab hG hret ls H locs hl hW hS
  obtain ⟨hx, hb, hml, hown, hts⟩ := id S
  have hl : lv_has ls 4 [(0, .ref (Γ.1 0)), (1, .int a1), (2, .ref (Γ.1 498))] := hl
  unfold fL_addGlob at hf
  obtain ⟨q, hq, hf⟩ := bnd_e hf
  refine lv_aload_n hx hb dL_addGlob_0 rfl (lv_at hl 2 rfl) ?_
  refine lv_iconst (v := (0 : Int32)) hx hb dL_addGlob_1 (by decide) ?_
  refine lv_aload_n hx hb dL_addGlob_2 rfl (lv_at hl 0 rfl) ?_
  refine lv_iload_n hx hb dL_addGlob_3 rfl (lv_at hl 1 rfl) ?_
  refine gxk_i hS (gvx_run (rest := [.int (0 : Int32), .ref (Γ.1 498)]) S hG hW hS [.int a1] (c_X7_addGlob l hl0 Γ C M a1 hq) pk_X7_addGlob rfl ml_L_37 rfl rfl ⟨Nat.le_of_ble_eq_true rfl, Nat.le_of_ble_eq_true rfl⟩ rfl hl.1 rfl (Nat.le_of_ble_eq_true rfl) dL_addGlob_4 ⟨Nat.le_of_ble_eq_true rfl, Nat.le_of_ble_eq_true rfl⟩) (fun H locs k9 ce9 z9 hW hS e9 hce hcv hcl => ?_) (fun H locs r9 hW hS e9 => ?_)
  · have hf := sw_r e9 hf
    by_cases d0 : k9 = 3
    · have hf := cn_t d0 hf
      have e8 := Option.some.inj hf
      subst e8
      subst d0
      refine gl_catch (k := 3) S hG [] ⟨0, 9, 12, 25⟩ [⟨0, 9, 15, 13⟩, ⟨0, 9, 18, 15⟩] htab (fun z hz => by cases hz) (by decide) (by decide) cl_L_25 (by decide +kernel) hce hcv hcl ?_
      refine lv_astore_n (lv' := [(3, .ref z9), (0, .ref (Γ.1 0)), (1, .int a1), (2, .ref (Γ.1 498))]) hx hb dL_addGlob_12 rfl hl (by decide) rfl (fun ls hl => ?_)
      refine lv_iconst (v := (1 : Int32)) hx hb dL_addGlob_13 (by decide) ?_
      exact hret _ _ _ _ _ _ _ hW hS rfl (Nat.le_of_ble_eq_true rfl) (Nat.le_of_ble_eq_true rfl) dL_addGlob_14
    · have hf := cn_f d0 hf
      by_cases d1 : k9 = 1
      · have hf := cn_t d1 hf
        have e8 := Option.some.inj hf
        subst e8
        subst d1
        refine gl_catch (k := 1) S hG [⟨0, 9, 12, 25⟩] ⟨0, 9, 15, 13⟩ [⟨0, 9, 18, 15⟩] htab (fun z hz => (List.mem_cons.mp hz).elim (fun e => e ▸ ⟨by decide, _, cl_L_25, by decide +kernel⟩) (fun hz => nomatch hz)) (by decide) (by decide) cl_L_13 (by decide +kernel) hce hcv hcl ?_
        refine lv_astore_n (lv' := [(3, .ref z9), (0, .ref (Γ.1 0)), (1, .int a1), (2, .ref (Γ.1 498))]) hx hb dL_addGlob_15 rfl hl (by decide) rfl (fun ls hl => ?_)
        refine lv_iconst (v := (2 : Int32)) hx hb dL_addGlob_16 (by decide) ?_
        exact hret _ _ _ _ _ _ _ hW hS rfl (Nat.le_of_ble_eq_true rfl) (Nat.le_of_ble_eq_true rfl) dL_addGlob_17
      · have hf := cn_f d1 hf
        by_cases d2 : k9 = 2
        · have hf := cn_t d2 hf
          have e8 := Option.some.inj hf
          subst e8
          subst d2
          refine gl_catch (k := 2) S hG [⟨0, 9, 12, 25⟩, ⟨0, 9, 15, 13⟩] ⟨0, 9, 18, 15⟩ [] htab (fun z hz => (List.mem_cons.mp hz).elim (fun e => e ▸ ⟨by decide, _, cl_L_25, by decide +kernel⟩) (fun hz => (List.mem_cons.mp hz).elim (fun e => e ▸ ⟨by decide, _, cl_L_13, by decide +kernel⟩) (fun hz => nomatch hz))) (by decide) (by decide) cl_L_15 (by decide +kernel) hce hcv hcl ?_
          refine lv_astore_n (lv' := [(3, .ref z9), (0, .ref (Γ.1 0)), (1, .int a1), (2, .ref (Γ.1 498))]) hx hb dL_addGlob_18 rfl hl (by decide) rfl (fun ls hl => ?_)
          refine lv_iconst (v := (3 : Int32)) hx hb dL_addGlob_19 (by decide) ?_
          exact hret _ _ _ _ _ _ _ hW hS rfl (Nat.le_of_ble_eq_true rfl) (Nat.le_of_ble_eq_true rfl) dL_addGlob_20
        · have hf := cn_f d2 hf
          cases hf
  have hf := sw_l e9 hf
  have e8 := Option.some.inj hf
  subst e8
  refine lv_i2l (v := r9.toInt64) hx hb dL_addGlob_7 rfl ?_
  refine ast_out S hG hW hS rfl in_01 dL_addGlob_8 (fun H locs hW hS => ?_)
  refine lv_goto (tgt := 21) hx hb dL_addGlob_9 (by decide) ?_
  refine lv_iconst (v := (0 : Int32)) hx hb dL_addGlob_21 (by decide) ?_
  exact hret _ _ _ _ _ _ _ hW hS rfl (Nat.le_of_ble_eq_true rfl) (Nat.le_of_ble_eq_true rfl) dL_addGlob_22
noncomputable def fL_addRule (C M : Mem) (a1 : Int32) : Option (Int32 × Mem × Mem) := bnd (fX7_addRule C a1) fun q => sw q.1 (fun r => some ((0 : Int32), q.2, mset M 498 0 r)) (fun k => cnd (k = 3) (some ((1 : Int32), q.2, M)) (cnd (k = 1) (some ((2 : Int32), q.2, M)) (cnd (k = 2) (some ((3 : Int32), q.2, M)) (none))))
abbrev rm_L_addRule : Room := { frames := 8, cells := 2, slots := 12, locals := 141 }
theorem pk_L_addRule : PkW yL_addRule cL_addRule 4 (some .int) [(0, 9, 12, 25), (0, 9, 15, 13), (0, 9, 18, 15)] 3 := ⟨TsG_t (List.mem_of_getElem? (i := 866) (by decide +kernel)) (by decide +kernel), TsG_t (List.mem_of_getElem? (i := 865) (by decide +kernel)) (by decide +kernel), in_L, by decide +kernel, by decide +kernel, by decide +kernel⟩
set_option maxRecDepth 100000 in
set_option maxHeartbeats 4000000 in
theorem c_L_addRule (l : Launch) (hl0 : l.stackTraces = false) (Γ : gx_G) (C M : Mem) (a1 : Int32) {y0 : Int32 × Mem × Mem} (hf : fL_addRule C M a1 = some y0) : Met l yL_addRule (.codeWith yL_addRule cL_addRule 4 (some .int) [(0, 9, 12, 25), (0, 9, 15, 13), (0, 9, 18, 15)] :: TsG) rm_L_addRule (va_Pc [.ref (Γ.1 0), .int a1, .ref (Γ.1 498)] (gx_P Γ C M)) (gx_Qi Γ y0.1 y0.2.1 y0.2.2) 2 12 (gA Γ) := by
  refine gl_ofW (by decide) (Nat.le_of_ble_eq_true rfl) ?_
  intro p e s m args below meth c Q S htab hG hret ls H locs hl hW hS
  obtain ⟨hx, hb, hml, hown, hts⟩ := id S
  have hl : lv_has ls 4 [(0, .ref (Γ.1 0)), (1, .int a1), (2, .ref (Γ.1 498))] := hl
  unfold fL_addRule at hf
  obtain ⟨q, hq, hf⟩ := bnd_e hf
  refine lv_aload_n hx hb dL_addRule_0 rfl (lv_at hl 2 rfl) ?_
  refine lv_iconst (v := (0 : Int32)) hx hb dL_addRule_1 (by decide) ?_
  refine lv_aload_n hx hb dL_addRule_2 rfl (lv_at hl 0 rfl) ?_
  refine lv_iload_n hx hb dL_addRule_3 rfl (lv_at hl 1 rfl) ?_
  refine gxk_i hS (gvx_run (rest := [.int (0 : Int32), .ref (Γ.1 498)]) S hG hW hS [.int a1] (c_X7_addRule l hl0 Γ C M a1 hq) pk_X7_addRule rfl ml_L_80 rfl rfl ⟨Nat.le_of_ble_eq_true rfl, Nat.le_of_ble_eq_true rfl⟩ rfl hl.1 rfl (Nat.le_of_ble_eq_true rfl) dL_addRule_4 ⟨Nat.le_of_ble_eq_true rfl, Nat.le_of_ble_eq_true rfl⟩) (fun H locs k9 ce9 z9 hW hS e9 hce hcv hcl => ?_) (fun H locs r9 hW hS e9 => ?_)
  · have hf := sw_r e9 hf
    by_cases d0 : k9 = 3
    · have hf := cn_t d0 hf
      have e8 := Option.some.inj hf
      subst e8
      subst d0
      refine gl_catch (k := 3) S hG [] ⟨0, 9, 12, 25⟩ [⟨0, 9, 15, 13⟩, ⟨0, 9, 18, 15⟩] htab (fun z hz => by cases hz) (by decide) (by decide) cl_L_25 (by decide +kernel) hce hcv hcl ?_
      refine lv_astore_n (lv' := [(3, .ref z9), (0, .ref (Γ.1 0)), (1, .int a1), (2, .ref (Γ.1 498))]) hx hb dL_addRule_12 rfl hl (by decide) rfl (fun ls hl => ?_)
      refine lv_iconst (v := (1 : Int32)) hx hb dL_addRule_13 (by decide) ?_
      exact hret _ _ _ _ _ _ _ hW hS rfl (Nat.le_of_ble_eq_true rfl) (Nat.le_of_ble_eq_true rfl) dL_addRule_14
    · have hf := cn_f d0 hf
      by_cases d1 : k9 = 1
      · have hf := cn_t d1 hf
        have e8 := Option.some.inj hf
        subst e8
        subst d1
        refine gl_catch (k := 1) S hG [⟨0, 9, 12, 25⟩] ⟨0, 9, 15, 13⟩ [⟨0, 9, 18, 15⟩] htab (fun z hz => (List.mem_cons.mp hz).elim (fun e => e ▸ ⟨by decide, _, cl_L_25, by decide +kernel⟩) (fun hz => nomatch hz)) (by decide) (by decide) cl_L_13 (by decide +kernel) hce hcv hcl ?_
        refine lv_astore_n (lv' := [(3, .ref z9), (0, .ref (Γ.1 0)), (1, .int a1), (2, .ref (Γ.1 498))]) hx hb dL_addRule_15 rfl hl (by decide) rfl (fun ls hl => ?_)
        refine lv_iconst (v := (2 : Int32)) hx hb dL_addRule_16 (by decide) ?_
        exact hret _ _ _ _ _ _ _ hW hS rfl (Nat.le_of_ble_eq_true rfl) (Nat.le_of_ble_eq_true rfl) dL_addRule_17
      · have hf := cn_f d1 hf
        by_cases d2 : k9 = 2
        · have hf := cn_t d2 hf
          have e8 := Option.some.inj hf
          subst e8
          subst d2
          refine gl_catch (k := 2) S hG [⟨0, 9, 12, 25⟩, ⟨0, 9, 15, 13⟩] ⟨0, 9, 18, 15⟩ [] htab (fun z hz => (List.mem_cons.mp hz).elim (fun e => e ▸ ⟨by decide, _, cl_L_25, by decide +kernel⟩) (fun hz => (List.mem_cons.mp hz).elim (fun e => e ▸ ⟨by decide, _, cl_L_13, by decide +kernel⟩) (fun hz => nomatch hz))) (by decide) (by decide) cl_L_15 (by decide +kernel) hce hcv hcl ?_
          refine lv_astore_n (lv' := [(3, .ref z9), (0, .ref (Γ.1 0)), (1, .int a1), (2, .ref (Γ.1 498))]) hx hb dL_addRule_18 rfl hl (by decide) rfl (fun ls hl => ?_)
          refine lv_iconst (v := (3 : Int32)) hx hb dL_addRule_19 (by decide) ?_
          exact hret _ _ _ _ _ _ _ hW hS rfl (Nat.le_of_ble_eq_true rfl) (Nat.le_of_ble_eq_true rfl) dL_addRule_20
        · have hf := cn_f d2 hf
          cases hf
  have hf := sw_l e9 hf
  have e8 := Option.some.inj hf
  subst e8
  refine lv_i2l (v := r9.toInt64) hx hb dL_addRule_7 rfl ?_
  refine ast_out S hG hW hS rfl in_01 dL_addRule_8 (fun H locs hW hS => ?_)
  refine lv_goto (tgt := 21) hx hb dL_addRule_9 (by decide) ?_
  refine lv_iconst (v := (0 : Int32)) hx hb dL_addRule_21 (by decide) ?_
  exact hret _ _ _ _ _ _ _ hW hS rfl (Nat.le_of_ble_eq_true rfl) (Nat.le_of_ble_eq_true rfl) dL_addRule_22
noncomputable def fL_addTarget (C M : Mem) (a1 : Int32) : Option (Int32 × Mem × Mem) := bnd (fX7_addTarget C a1) fun q => sw q.1 (fun r => some ((0 : Int32), q.2, mset M 498 0 r)) (fun k => cnd (k = 1) (some ((1 : Int32), q.2, M)) (cnd (k = 2) (some ((2 : Int32), q.2, M)) (none)))
abbrev rm_L_addTarget : Room := { frames := 7, cells := 1, slots := 6, locals := 121 }
theorem pk_L_addTarget : PkW yL_addTarget cL_addTarget 4 (some .int) [(0, 9, 12, 13), (0, 9, 15, 15)] 3 := ⟨TsG_t (List.mem_of_getElem? (i := 627) (by decide +kernel)) (by decide +kernel), TsG_t (List.mem_of_getElem? (i := 626) (by decide +kernel)) (by decide +kernel), in_L, by decide +kernel, by decide +kernel, by decide +kernel⟩
set_option maxRecDepth 100000 in
set_option maxHeartbeats 4000000 in
theorem c_L_addTarget (l : Launch) (hl0 : l.stackTraces = false) (Γ : gx_G) (C M : Mem) (a1 : Int32) {y0 : Int32 × Mem × Mem} (hf : fL_addTarget C M a1 = some y0) : Met l yL_addTarget (.codeWith yL_addTarget cL_addTarget 4 (some .int) [(0, 9, 12, 13), (0, 9, 15, 15)] :: TsG) rm_L_addTarget (va_Pc [.ref (Γ.1 0), .int a1, .ref (Γ.1 498)] (gx_P Γ C M)) (gx_Qi Γ y0.1 y0.2.1 y0.2.2) 1 6 (gA Γ) := by
  refine gl_ofW (by decide) (Nat.le_of_ble_eq_true rfl) ?_
  intro p e s m args below meth c Q S htab hG hret ls H locs hl hW hS
  obtain ⟨hx, hb, hml, hown, hts⟩ := id S
  have hl : lv_has ls 4 [(0, .ref (Γ.1 0)), (1, .int a1), (2, .ref (Γ.1 498))] := hl
  unfold fL_addTarget at hf
  obtain ⟨q, hq, hf⟩ := bnd_e hf
  refine lv_aload_n hx hb dL_addTarget_0 rfl (lv_at hl 2 rfl) ?_
  refine lv_iconst (v := (0 : Int32)) hx hb dL_addTarget_1 (by decide) ?_
  refine lv_aload_n hx hb dL_addTarget_2 rfl (lv_at hl 0 rfl) ?_
  refine lv_iload_n hx hb dL_addTarget_3 rfl (lv_at hl 1 rfl) ?_
  refine gxk_i hS (gvx_run (rest := [.int (0 : Int32), .ref (Γ.1 498)]) S hG hW hS [.int a1] (c_X7_addTarget l hl0 Γ C M a1 hq) pk_X7_addTarget rfl ml_L_34 rfl rfl ⟨Nat.le_of_ble_eq_true rfl, Nat.le_of_ble_eq_true rfl⟩ rfl hl.1 rfl (Nat.le_of_ble_eq_true rfl) dL_addTarget_4 ⟨Nat.le_of_ble_eq_true rfl, Nat.le_of_ble_eq_true rfl⟩) (fun H locs k9 ce9 z9 hW hS e9 hce hcv hcl => ?_) (fun H locs r9 hW hS e9 => ?_)
  · have hf := sw_r e9 hf
    by_cases d0 : k9 = 1
    · have hf := cn_t d0 hf
      have e8 := Option.some.inj hf
      subst e8
      subst d0
      refine gl_catch (k := 1) S hG [] ⟨0, 9, 12, 13⟩ [⟨0, 9, 15, 15⟩] htab (fun z hz => by cases hz) (by decide) (by decide) cl_L_13 (by decide +kernel) hce hcv hcl ?_
      refine lv_astore_n (lv' := [(3, .ref z9), (0, .ref (Γ.1 0)), (1, .int a1), (2, .ref (Γ.1 498))]) hx hb dL_addTarget_12 rfl hl (by decide) rfl (fun ls hl => ?_)
      refine lv_iconst (v := (1 : Int32)) hx hb dL_addTarget_13 (by decide) ?_
      exact hret _ _ _ _ _ _ _ hW hS rfl (Nat.le_of_ble_eq_true rfl) (Nat.le_of_ble_eq_true rfl) dL_addTarget_14
    · have hf := cn_f d0 hf
      by_cases d1 : k9 = 2
      · have hf := cn_t d1 hf
        have e8 := Option.some.inj hf
        subst e8
        subst d1
        refine gl_catch (k := 2) S hG [⟨0, 9, 12, 13⟩] ⟨0, 9, 15, 15⟩ [] htab (fun z hz => (List.mem_cons.mp hz).elim (fun e => e ▸ ⟨by decide, _, cl_L_13, by decide +kernel⟩) (fun hz => nomatch hz)) (by decide) (by decide) cl_L_15 (by decide +kernel) hce hcv hcl ?_
        refine lv_astore_n (lv' := [(3, .ref z9), (0, .ref (Γ.1 0)), (1, .int a1), (2, .ref (Γ.1 498))]) hx hb dL_addTarget_15 rfl hl (by decide) rfl (fun ls hl => ?_)
        refine lv_iconst (v := (2 : Int32)) hx hb dL_addTarget_16 (by decide) ?_
        exact hret _ _ _ _ _ _ _ hW hS rfl (Nat.le_of_ble_eq_true rfl) (Nat.le_of_ble_eq_true rfl) dL_addTarget_17
      · have hf := cn_f d1 hf
        cases hf
  have hf := sw_l e9 hf
  have e8 := Option.some.inj hf
  subst e8
  refine lv_i2l (v := r9.toInt64) hx hb dL_addTarget_7 rfl ?_
  refine ast_out S hG hW hS rfl in_01 dL_addTarget_8 (fun H locs hW hS => ?_)
  refine lv_goto (tgt := 18) hx hb dL_addTarget_9 (by decide) ?_
  refine lv_iconst (v := (0 : Int32)) hx hb dL_addTarget_18 (by decide) ?_
  exact hret _ _ _ _ _ _ _ hW hS rfl (Nat.le_of_ble_eq_true rfl) (Nat.le_of_ble_eq_true rfl) dL_addTarget_19
noncomputable def fL_affectedBy (C M : Mem) (a1 : Int32) : Option (Int32 × Mem × Mem) := bnd (fX7_affectedBy C a1) fun q => sw q (fun r => some ((0 : Int32), C, mset M 498 0 r)) (fun k => cnd (k = 3) (some ((1 : Int32), C, M)) (none))
abbrev rm_L_affectedBy : Room := { frames := 8, cells := 1, slots := 6, locals := 142 }
theorem pk_L_affectedBy : PkW yL_affectedBy cL_affectedBy 4 (some .int) [(0, 9, 12, 25)] 3 := ⟨TsG_t (List.mem_of_getElem? (i := 724) (by decide +kernel)) (by decide +kernel), TsG_t (List.mem_of_getElem? (i := 723) (by decide +kernel)) (by decide +kernel), in_L, by decide +kernel, by decide +kernel, by decide +kernel⟩
set_option maxRecDepth 100000 in
set_option maxHeartbeats 4000000 in
theorem c_L_affectedBy (l : Launch) (hl0 : l.stackTraces = false) (Γ : gx_G) (C M : Mem) (a1 : Int32) {y0 : Int32 × Mem × Mem} (hf : fL_affectedBy C M a1 = some y0) : Met l yL_affectedBy (.codeWith yL_affectedBy cL_affectedBy 4 (some .int) [(0, 9, 12, 25)] :: TsG) rm_L_affectedBy (va_Pc [.ref (Γ.1 0), .int a1, .ref (Γ.1 498)] (gx_P Γ C M)) (gx_Qi Γ y0.1 y0.2.1 y0.2.2) 1 6 (gA Γ) := by
  refine gl_ofW (by decide) (Nat.le_of_ble_eq_true rfl) ?_
  intro p e s m args below meth c Q S htab hG hret ls H locs hl hW hS
  obtain ⟨hx, hb, hml, hown, hts⟩ := id S
  have hl : lv_has ls 4 [(0, .ref (Γ.1 0)), (1, .int a1), (2, .ref (Γ.1 498))] := hl
  unfold fL_affectedBy at hf
  obtain ⟨q, hq, hf⟩ := bnd_e hf
  refine lv_aload_n hx hb dL_affectedBy_0 rfl (lv_at hl 2 rfl) ?_
  refine lv_iconst (v := (0 : Int32)) hx hb dL_affectedBy_1 (by decide) ?_
  refine lv_aload_n hx hb dL_affectedBy_2 rfl (lv_at hl 0 rfl) ?_
  refine lv_iload_n hx hb dL_affectedBy_3 rfl (lv_at hl 1 rfl) ?_
  refine gxk_i hS (gvx_run (rest := [.int (0 : Int32), .ref (Γ.1 498)]) S hG hW hS [.int a1] (c_X7_affectedBy l hl0 Γ C M a1 hq) pk_X7_affectedBy rfl ml_L_52 rfl rfl ⟨Nat.le_of_ble_eq_true rfl, Nat.le_of_ble_eq_true rfl⟩ rfl hl.1 rfl (Nat.le_of_ble_eq_true rfl) dL_affectedBy_4 ⟨Nat.le_of_ble_eq_true rfl, Nat.le_of_ble_eq_true rfl⟩) (fun H locs k9 ce9 z9 hW hS e9 hce hcv hcl => ?_) (fun H locs r9 hW hS e9 => ?_)
  · have hf := sw_r e9 hf
    by_cases d0 : k9 = 3
    · have hf := cn_t d0 hf
      have e8 := Option.some.inj hf
      subst e8
      subst d0
      refine gl_catch (k := 3) S hG [] ⟨0, 9, 12, 25⟩ [] htab (fun z hz => by cases hz) (by decide) (by decide) cl_L_25 (by decide +kernel) hce hcv hcl ?_
      refine lv_astore_n (lv' := [(3, .ref z9), (0, .ref (Γ.1 0)), (1, .int a1), (2, .ref (Γ.1 498))]) hx hb dL_affectedBy_12 rfl hl (by decide) rfl (fun ls hl => ?_)
      refine lv_iconst (v := (1 : Int32)) hx hb dL_affectedBy_13 (by decide) ?_
      exact hret _ _ _ _ _ _ _ hW hS rfl (Nat.le_of_ble_eq_true rfl) (Nat.le_of_ble_eq_true rfl) dL_affectedBy_14
    · have hf := cn_f d0 hf
      cases hf
  have hf := sw_l e9 hf
  have e8 := Option.some.inj hf
  subst e8
  refine lv_i2l (v := r9.toInt64) hx hb dL_affectedBy_7 rfl ?_
  refine ast_out S hG hW hS rfl in_01 dL_affectedBy_8 (fun H locs hW hS => ?_)
  refine lv_goto (tgt := 15) hx hb dL_affectedBy_9 (by decide) ?_
  refine lv_iconst (v := (0 : Int32)) hx hb dL_affectedBy_15 (by decide) ?_
  exact hret _ _ _ _ _ _ _ hW hS rfl (Nat.le_of_ble_eq_true rfl) (Nat.le_of_ble_eq_true rfl) dL_affectedBy_16
noncomputable def fL_affectedByGoingDown (C M : Mem) (a1 : Int32) : Option (Int32 × Mem × Mem) := bnd (fX7_affectedByGoingDown C a1) fun q => sw q (fun r => some ((0 : Int32), C, mset M 498 0 r)) (fun k => cnd (k = 3) (some ((1 : Int32), C, M)) (none))
abbrev rm_L_affectedByGoingDown : Room := { frames := 8, cells := 1, slots := 6, locals := 142 }
theorem pk_L_affectedByGoingDown : PkW yL_affectedByGoingDown cL_affectedByGoingDown 4 (some .int) [(0, 9, 12, 25)] 3 := ⟨TsG_t (List.mem_of_getElem? (i := 736) (by decide +kernel)) (by decide +kernel), TsG_t (List.mem_of_getElem? (i := 735) (by decide +kernel)) (by decide +kernel), in_L, by decide +kernel, by decide +kernel, by decide +kernel⟩
set_option maxRecDepth 100000 in
set_option maxHeartbeats 4000000 in
theorem c_L_affectedByGoingDown (l : Launch) (hl0 : l.stackTraces = false) (Γ : gx_G) (C M : Mem) (a1 : Int32) {y0 : Int32 × Mem × Mem} (hf : fL_affectedByGoingDown C M a1 = some y0) : Met l yL_affectedByGoingDown (.codeWith yL_affectedByGoingDown cL_affectedByGoingDown 4 (some .int) [(0, 9, 12, 25)] :: TsG) rm_L_affectedByGoingDown (va_Pc [.ref (Γ.1 0), .int a1, .ref (Γ.1 498)] (gx_P Γ C M)) (gx_Qi Γ y0.1 y0.2.1 y0.2.2) 1 6 (gA Γ) := by
  refine gl_ofW (by decide) (Nat.le_of_ble_eq_true rfl) ?_
  intro p e s m args below meth c Q S htab hG hret ls H locs hl hW hS
  obtain ⟨hx, hb, hml, hown, hts⟩ := id S
  have hl : lv_has ls 4 [(0, .ref (Γ.1 0)), (1, .int a1), (2, .ref (Γ.1 498))] := hl
  unfold fL_affectedByGoingDown at hf
  obtain ⟨q, hq, hf⟩ := bnd_e hf
  refine lv_aload_n hx hb dL_affectedByGoingDown_0 rfl (lv_at hl 2 rfl) ?_
  refine lv_iconst (v := (0 : Int32)) hx hb dL_affectedByGoingDown_1 (by decide) ?_
  refine lv_aload_n hx hb dL_affectedByGoingDown_2 rfl (lv_at hl 0 rfl) ?_
  refine lv_iload_n hx hb dL_affectedByGoingDown_3 rfl (lv_at hl 1 rfl) ?_
  refine gxk_i hS (gvx_run (rest := [.int (0 : Int32), .ref (Γ.1 498)]) S hG hW hS [.int a1] (c_X7_affectedByGoingDown l hl0 Γ C M a1 hq) pk_X7_affectedByGoingDown rfl ml_L_55 rfl rfl ⟨Nat.le_of_ble_eq_true rfl, Nat.le_of_ble_eq_true rfl⟩ rfl hl.1 rfl (Nat.le_of_ble_eq_true rfl) dL_affectedByGoingDown_4 ⟨Nat.le_of_ble_eq_true rfl, Nat.le_of_ble_eq_true rfl⟩) (fun H locs k9 ce9 z9 hW hS e9 hce hcv hcl => ?_) (fun H locs r9 hW hS e9 => ?_)
  · have hf := sw_r e9 hf
    by_cases d0 : k9 = 3
    · have hf := cn_t d0 hf
      have e8 := Option.some.inj hf
      subst e8
      subst d0
      refine gl_catch (k := 3) S hG [] ⟨0, 9, 12, 25⟩ [] htab (fun z hz => by cases hz) (by decide) (by decide) cl_L_25 (by decide +kernel) hce hcv hcl ?_
      refine lv_astore_n (lv' := [(3, .ref z9), (0, .ref (Γ.1 0)), (1, .int a1), (2, .ref (Γ.1 498))]) hx hb dL_affectedByGoingDown_12 rfl hl (by decide) rfl (fun ls hl => ?_)
      refine lv_iconst (v := (1 : Int32)) hx hb dL_affectedByGoingDown_13 (by decide) ?_
      exact hret _ _ _ _ _ _ _ hW hS rfl (Nat.le_of_ble_eq_true rfl) (Nat.le_of_ble_eq_true rfl) dL_affectedByGoingDown_14
    · have hf := cn_f d0 hf
      cases hf
  have hf := sw_l e9 hf
  have e8 := Option.some.inj hf
  subst e8
  refine lv_i2l (v := r9.toInt64) hx hb dL_affectedByGoingDown_7 rfl ?_
  refine ast_out S hG hW hS rfl in_01 dL_affectedByGoingDown_8 (fun H locs hW hS => ?_)
  refine lv_goto (tgt := 15) hx hb dL_affectedByGoingDown_9 (by decide) ?_
  refine lv_iconst (v := (0 : Int32)) hx hb dL_affectedByGoingDown_15 (by decide) ?_
  exact hret _ _ _ _ _ _ _ hW hS rfl (Nat.le_of_ble_eq_true rfl) (Nat.le_of_ble_eq_true rfl) dL_affectedByGoingDown_16
noncomputable def fL_delete (C M : Mem) (a1 : Int32) : Option (Int32 × Mem × Mem) := bnd (fX7_delete C a1) fun q => sw q.1 (fun r => some ((0 : Int32), q.2, mset M 498 0 r)) (fun k => cnd (k = 3) (some ((1 : Int32), q.2, M)) (none))
abbrev rm_L_delete : Room := { frames := 8, cells := 1, slots := 6, locals := 142 }
theorem pk_L_delete : PkW yL_delete cL_delete 4 (some .int) [(0, 9, 12, 25)] 3 := ⟨TsG_t (List.mem_of_getElem? (i := 597) (by decide +kernel)) (by decide +kernel), TsG_t (List.mem_of_getElem? (i := 596) (by decide +kernel)) (by decide +kernel), in_L, by decide +kernel, by decide +kernel, by decide +kernel⟩
set_option maxRecDepth 100000 in
set_option maxHeartbeats 4000000 in
theorem c_L_delete (l : Launch) (hl0 : l.stackTraces = false) (Γ : gx_G) (C M : Mem) (a1 : Int32) {y0 : Int32 × Mem × Mem} (hf : fL_delete C M a1 = some y0) : Met l yL_delete (.codeWith yL_delete cL_delete 4 (some .int) [(0, 9, 12, 25)] :: TsG) rm_L_delete (va_Pc [.ref (Γ.1 0), .int a1, .ref (Γ.1 498)] (gx_P Γ C M)) (gx_Qi Γ y0.1 y0.2.1 y0.2.2) 1 6 (gA Γ) := by
  refine gl_ofW (by decide) (Nat.le_of_ble_eq_true rfl) ?_
  intro p e s m args below meth c Q S htab hG hret ls H locs hl hW hS
  obtain ⟨hx, hb, hml, hown, hts⟩ := id S
  have hl : lv_has ls 4 [(0, .ref (Γ.1 0)), (1, .int a1), (2, .ref (Γ.1 498))] := hl
  unfold fL_delete at hf
  obtain ⟨q, hq, hf⟩ := bnd_e hf
  refine lv_aload_n hx hb dL_delete_0 rfl (lv_at hl 2 rfl) ?_
  refine lv_iconst (v := (0 : Int32)) hx hb dL_delete_1 (by decide) ?_
  refine lv_aload_n hx hb dL_delete_2 rfl (lv_at hl 0 rfl) ?_
  refine lv_iload_n hx hb dL_delete_3 rfl (lv_at hl 1 rfl) ?_
  refine gxk_i hS (gvx_run (rest := [.int (0 : Int32), .ref (Γ.1 498)]) S hG hW hS [.int a1] (c_X7_delete l hl0 Γ C M a1 hq) pk_X7_delete rfl ml_L_27 rfl rfl ⟨Nat.le_of_ble_eq_true rfl, Nat.le_of_ble_eq_true rfl⟩ rfl hl.1 rfl (Nat.le_of_ble_eq_true rfl) dL_delete_4 ⟨Nat.le_of_ble_eq_true rfl, Nat.le_of_ble_eq_true rfl⟩) (fun H locs k9 ce9 z9 hW hS e9 hce hcv hcl => ?_) (fun H locs r9 hW hS e9 => ?_)
  · have hf := sw_r e9 hf
    by_cases d0 : k9 = 3
    · have hf := cn_t d0 hf
      have e8 := Option.some.inj hf
      subst e8
      subst d0
      refine gl_catch (k := 3) S hG [] ⟨0, 9, 12, 25⟩ [] htab (fun z hz => by cases hz) (by decide) (by decide) cl_L_25 (by decide +kernel) hce hcv hcl ?_
      refine lv_astore_n (lv' := [(3, .ref z9), (0, .ref (Γ.1 0)), (1, .int a1), (2, .ref (Γ.1 498))]) hx hb dL_delete_12 rfl hl (by decide) rfl (fun ls hl => ?_)
      refine lv_iconst (v := (1 : Int32)) hx hb dL_delete_13 (by decide) ?_
      exact hret _ _ _ _ _ _ _ hW hS rfl (Nat.le_of_ble_eq_true rfl) (Nat.le_of_ble_eq_true rfl) dL_delete_14
    · have hf := cn_f d0 hf
      cases hf
  have hf := sw_l e9 hf
  have e8 := Option.some.inj hf
  subst e8
  refine lv_i2l (v := r9.toInt64) hx hb dL_delete_7 rfl ?_
  refine ast_out S hG hW hS rfl in_01 dL_delete_8 (fun H locs hW hS => ?_)
  refine lv_goto (tgt := 15) hx hb dL_delete_9 (by decide) ?_
  refine lv_iconst (v := (0 : Int32)) hx hb dL_delete_15 (by decide) ?_
  exact hret _ _ _ _ _ _ _ hW hS rfl (Nat.le_of_ble_eq_true rfl) (Nat.le_of_ble_eq_true rfl) dL_delete_16
noncomputable def fL_depend (C M : Mem) (a1 : Int32) (a2 : Int32) : Option (Int32 × Mem × Mem) := bnd (fX7_depend C a1 a2) fun q => sw q.1 (fun r => some ((0 : Int32), q.2, mset M 498 0 r)) (fun k => cnd (k = 3) (some ((1 : Int32), q.2, M)) (cnd (k = 2) (some ((2 : Int32), q.2, M)) (none)))
abbrev rm_L_depend : Room := { frames := 8, cells := 3, slots := 18, locals := 143 }
theorem pk_L_depend : PkW yL_depend cL_depend 5 (some .int) [(0, 10, 13, 25), (0, 10, 17, 15)] 4 := ⟨TsG_t (List.mem_of_getElem? (i := 681) (by decide +kernel)) (by decide +kernel), TsG_t (List.mem_of_getElem? (i := 680) (by decide +kernel)) (by decide +kernel), in_L, by decide +kernel, by decide +kernel, by decide +kernel⟩
set_option maxRecDepth 100000 in
set_option maxHeartbeats 4000000 in
theorem c_L_depend (l : Launch) (hl0 : l.stackTraces = false) (Γ : gx_G) (C M : Mem) (a1 : Int32) (a2 : Int32) {y0 : Int32 × Mem × Mem} (hf : fL_depend C M a1 a2 = some y0) : Met l yL_depend (.codeWith yL_depend cL_depend 5 (some .int) [(0, 10, 13, 25), (0, 10, 17, 15)] :: TsG) rm_L_depend (va_Pc [.ref (Γ.1 0), .int a1, .int a2, .ref (Γ.1 498)] (gx_P Γ C M)) (gx_Qi Γ y0.1 y0.2.1 y0.2.2) 3 18 (gA Γ) := by
  refine gl_ofW (by decide) (Nat.le_of_ble_eq_true rfl) ?_
  intro p e s m args below meth c Q S htab hG hret ls H locs hl hW hS
  obtain ⟨hx, hb, hml, hown, hts⟩ := id S
  have hl : lv_has ls 5 [(0, .ref (Γ.1 0)), (1, .int a1), (2, .int a2), (3, .ref (Γ.1 498))] := hl
  unfold fL_depend at hf
  obtain ⟨q, hq, hf⟩ := bnd_e hf
  refine lv_aload_n hx hb dL_depend_0 rfl (lv_at hl 3 rfl) ?_
  refine lv_iconst (v := (0 : Int32)) hx hb dL_depend_1 (by decide) ?_
  refine lv_aload_n hx hb dL_depend_2 rfl (lv_at hl 0 rfl) ?_
  refine lv_iload_n hx hb dL_depend_3 rfl (lv_at hl 1 rfl) ?_
  refine lv_iload_n hx hb dL_depend_4 rfl (lv_at hl 2 rfl) ?_
  refine gxk_i hS (gvx_run (rest := [.int (0 : Int32), .ref (Γ.1 498)]) S hG hW hS [.int a1, .int a2] (c_X7_depend l hl0 Γ C M a1 a2 hq) pk_X7_depend rfl ml_L_40 rfl rfl ⟨Nat.le_of_ble_eq_true rfl, Nat.le_of_ble_eq_true rfl⟩ rfl hl.1 rfl (Nat.le_of_ble_eq_true rfl) dL_depend_5 ⟨Nat.le_of_ble_eq_true rfl, Nat.le_of_ble_eq_true rfl⟩) (fun H locs k9 ce9 z9 hW hS e9 hce hcv hcl => ?_) (fun H locs r9 hW hS e9 => ?_)
  · have hf := sw_r e9 hf
    by_cases d0 : k9 = 3
    · have hf := cn_t d0 hf
      have e8 := Option.some.inj hf
      subst e8
      subst d0
      refine gl_catch (k := 3) S hG [] ⟨0, 10, 13, 25⟩ [⟨0, 10, 17, 15⟩] htab (fun z hz => by cases hz) (by decide) (by decide) cl_L_25 (by decide +kernel) hce hcv hcl ?_
      refine lv_astore (lv' := [(4, .ref z9), (0, .ref (Γ.1 0)), (1, .int a1), (2, .int a2), (3, .ref (Γ.1 498))]) hx hb dL_depend_13 hl (by decide) rfl (fun ls hl => ?_)
      refine lv_iconst (v := (1 : Int32)) hx hb dL_depend_15 (by decide) ?_
      exact hret _ _ _ _ _ _ _ hW hS rfl (Nat.le_of_ble_eq_true rfl) (Nat.le_of_ble_eq_true rfl) dL_depend_16
    · have hf := cn_f d0 hf
      by_cases d1 : k9 = 2
      · have hf := cn_t d1 hf
        have e8 := Option.some.inj hf
        subst e8
        subst d1
        refine gl_catch (k := 2) S hG [⟨0, 10, 13, 25⟩] ⟨0, 10, 17, 15⟩ [] htab (fun z hz => (List.mem_cons.mp hz).elim (fun e => e ▸ ⟨by decide, _, cl_L_25, by decide +kernel⟩) (fun hz => nomatch hz)) (by decide) (by decide) cl_L_15 (by decide +kernel) hce hcv hcl ?_
        refine lv_astore (lv' := [(4, .ref z9), (0, .ref (Γ.1 0)), (1, .int a1), (2, .int a2), (3, .ref (Γ.1 498))]) hx hb dL_depend_17 hl (by decide) rfl (fun ls hl => ?_)
        refine lv_iconst (v := (2 : Int32)) hx hb dL_depend_19 (by decide) ?_
        exact hret _ _ _ _ _ _ _ hW hS rfl (Nat.le_of_ble_eq_true rfl) (Nat.le_of_ble_eq_true rfl) dL_depend_20
      · have hf := cn_f d1 hf
        cases hf
  have hf := sw_l e9 hf
  have e8 := Option.some.inj hf
  subst e8
  refine lv_i2l (v := r9.toInt64) hx hb dL_depend_8 rfl ?_
  refine ast_out S hG hW hS rfl in_01 dL_depend_9 (fun H locs hW hS => ?_)
  refine lv_goto (tgt := 21) hx hb dL_depend_10 (by decide) ?_
  refine lv_iconst (v := (0 : Int32)) hx hb dL_depend_21 (by decide) ?_
  exact hret _ _ _ _ _ _ _ hW hS rfl (Nat.le_of_ble_eq_true rfl) (Nat.le_of_ble_eq_true rfl) dL_depend_22
noncomputable def fL_edit (C M : Mem) (a1 : Int32) (a2 : Int32) : Option (Int32 × Mem × Mem) := bnd (fX7_edit C a1 a2) fun q => sw q.1 (fun r => some ((0 : Int32), q.2, mset M 498 0 r)) (fun k => cnd (k = 3) (some ((1 : Int32), q.2, M)) (cnd (k = 1) (some ((2 : Int32), q.2, M)) (none)))
abbrev rm_L_edit : Room := { frames := 8, cells := 2, slots := 12, locals := 144 }
theorem pk_L_edit : PkW yL_edit cL_edit 5 (some .int) [(0, 10, 13, 25), (0, 10, 17, 13)] 4 := ⟨TsG_t (List.mem_of_getElem? (i := 568) (by decide +kernel)) (by decide +kernel), TsG_t (List.mem_of_getElem? (i := 567) (by decide +kernel)) (by decide +kernel), in_L, by decide +kernel, by decide +kernel, by decide +kernel⟩
set_option maxRecDepth 100000 in
set_option maxHeartbeats 4000000 in
theorem c_L_edit (l : Launch) (hl0 : l.stackTraces = false) (Γ : gx_G) (C M : Mem) (a1 : Int32) (a2 : Int32) {y0 : Int32 × Mem × Mem} (hf : fL_edit C M a1 a2 = some y0) : Met l yL_edit (.codeWith yL_edit cL_edit 5 (some .int) [(0, 10, 13, 25), (0, 10, 17, 13)] :: TsG) rm_L_edit (va_Pc [.ref (Γ.1 0), .int a1, .int a2, .ref (Γ.1 498)] (gx_P Γ C M)) (gx_Qi Γ y0.1 y0.2.1 y0.2.2) 2 12 (gA Γ) := by
  refine gl_ofW (by decide) (Nat.le_of_ble_eq_true rfl) ?_
  intro p e s m args below meth c Q S htab hG hret ls H locs hl hW hS
  obtain ⟨hx, hb, hml, hown, hts⟩ := id S
  have hl : lv_has ls 5 [(0, .ref (Γ.1 0)), (1, .int a1), (2, .int a2), (3, .ref (Γ.1 498))] := hl
  unfold fL_edit at hf
  obtain ⟨q, hq, hf⟩ := bnd_e hf
  refine lv_aload_n hx hb dL_edit_0 rfl (lv_at hl 3 rfl) ?_
  refine lv_iconst (v := (0 : Int32)) hx hb dL_edit_1 (by decide) ?_
  refine lv_aload_n hx hb dL_edit_2 rfl (lv_at hl 0 rfl) ?_
  refine lv_iload_n hx hb dL_edit_3 rfl (lv_at hl 1 rfl) ?_
  refine lv_iload_n hx hb dL_edit_4 rfl (lv_at hl 2 rfl) ?_
  refine gxk_i hS (gvx_run (rest := [.int (0 : Int32), .ref (Γ.1 498)]) S hG hW hS [.int a1, .int a2] (c_X7_edit l hl0 Γ C M a1 a2 hq) pk_X7_edit rfl ml_L_21 rfl rfl ⟨Nat.le_of_ble_eq_true rfl, Nat.le_of_ble_eq_true rfl⟩ rfl hl.1 rfl (Nat.le_of_ble_eq_true rfl) dL_edit_5 ⟨Nat.le_of_ble_eq_true rfl, Nat.le_of_ble_eq_true rfl⟩) (fun H locs k9 ce9 z9 hW hS e9 hce hcv hcl => ?_) (fun H locs r9 hW hS e9 => ?_)
  · have hf := sw_r e9 hf
    by_cases d0 : k9 = 3
    · have hf := cn_t d0 hf
      have e8 := Option.some.inj hf
      subst e8
      subst d0
      refine gl_catch (k := 3) S hG [] ⟨0, 10, 13, 25⟩ [⟨0, 10, 17, 13⟩] htab (fun z hz => by cases hz) (by decide) (by decide) cl_L_25 (by decide +kernel) hce hcv hcl ?_
      refine lv_astore (lv' := [(4, .ref z9), (0, .ref (Γ.1 0)), (1, .int a1), (2, .int a2), (3, .ref (Γ.1 498))]) hx hb dL_edit_13 hl (by decide) rfl (fun ls hl => ?_)
      refine lv_iconst (v := (1 : Int32)) hx hb dL_edit_15 (by decide) ?_
      exact hret _ _ _ _ _ _ _ hW hS rfl (Nat.le_of_ble_eq_true rfl) (Nat.le_of_ble_eq_true rfl) dL_edit_16
    · have hf := cn_f d0 hf
      by_cases d1 : k9 = 1
      · have hf := cn_t d1 hf
        have e8 := Option.some.inj hf
        subst e8
        subst d1
        refine gl_catch (k := 1) S hG [⟨0, 10, 13, 25⟩] ⟨0, 10, 17, 13⟩ [] htab (fun z hz => (List.mem_cons.mp hz).elim (fun e => e ▸ ⟨by decide, _, cl_L_25, by decide +kernel⟩) (fun hz => nomatch hz)) (by decide) (by decide) cl_L_13 (by decide +kernel) hce hcv hcl ?_
        refine lv_astore (lv' := [(4, .ref z9), (0, .ref (Γ.1 0)), (1, .int a1), (2, .int a2), (3, .ref (Γ.1 498))]) hx hb dL_edit_17 hl (by decide) rfl (fun ls hl => ?_)
        refine lv_iconst (v := (2 : Int32)) hx hb dL_edit_19 (by decide) ?_
        exact hret _ _ _ _ _ _ _ hW hS rfl (Nat.le_of_ble_eq_true rfl) (Nat.le_of_ble_eq_true rfl) dL_edit_20
      · have hf := cn_f d1 hf
        cases hf
  have hf := sw_l e9 hf
  have e8 := Option.some.inj hf
  subst e8
  refine lv_i2l (v := r9.toInt64) hx hb dL_edit_8 rfl ?_
  refine ast_out S hG hW hS rfl in_01 dL_edit_9 (fun H locs hW hS => ?_)
  refine lv_goto (tgt := 21) hx hb dL_edit_10 (by decide) ?_
  refine lv_iconst (v := (0 : Int32)) hx hb dL_edit_21 (by decide) ?_
  exact hret _ _ _ _ _ _ _ hW hS rfl (Nat.le_of_ble_eq_true rfl) (Nat.le_of_ble_eq_true rfl) dL_edit_22
noncomputable def fL_inputs (C M : Mem) (a1 : Int32) : Option (Int32 × Mem × Mem) := bnd (fX7_inputs C a1) fun q => sw q (fun r => some ((0 : Int32), C, mset M 498 0 r)) (fun k => cnd (k = 3) (some ((1 : Int32), C, M)) (none))
abbrev rm_L_inputs : Room := { frames := 8, cells := 1, slots := 6, locals := 142 }
theorem pk_L_inputs : PkW yL_inputs cL_inputs 4 (some .int) [(0, 9, 12, 25)] 3 := ⟨TsG_t (List.mem_of_getElem? (i := 700) (by decide +kernel)) (by decide +kernel), TsG_t (List.mem_of_getElem? (i := 699) (by decide +kernel)) (by decide +kernel), in_L, by decide +kernel, by decide +kernel, by decide +kernel⟩
set_option maxRecDepth 100000 in
set_option maxHeartbeats 4000000 in
theorem c_L_inputs (l : Launch) (hl0 : l.stackTraces = false) (Γ : gx_G) (C M : Mem) (a1 : Int32) {y0 : Int32 × Mem × Mem} (hf : fL_inputs C M a1 = some y0) : Met l yL_inputs (.codeWith yL_inputs cL_inputs 4 (some .int) [(0, 9, 12, 25)] :: TsG) rm_L_inputs (va_Pc [.ref (Γ.1 0), .int a1, .ref (Γ.1 498)] (gx_P Γ C M)) (gx_Qi Γ y0.1 y0.2.1 y0.2.2) 1 6 (gA Γ) := by
  refine gl_ofW (by decide) (Nat.le_of_ble_eq_true rfl) ?_
  intro p e s m args below meth c Q S htab hG hret ls H locs hl hW hS
  obtain ⟨hx, hb, hml, hown, hts⟩ := id S
  have hl : lv_has ls 4 [(0, .ref (Γ.1 0)), (1, .int a1), (2, .ref (Γ.1 498))] := hl
  unfold fL_inputs at hf
  obtain ⟨q, hq, hf⟩ := bnd_e hf
  refine lv_aload_n hx hb dL_inputs_0 rfl (lv_at hl 2 rfl) ?_
  refine lv_iconst (v := (0 : Int32)) hx hb dL_inputs_1 (by decide) ?_
  refine lv_aload_n hx hb dL_inputs_2 rfl (lv_at hl 0 rfl) ?_
  refine lv_iload_n hx hb dL_inputs_3 rfl (lv_at hl 1 rfl) ?_
  refine gxk_i hS (gvx_run (rest := [.int (0 : Int32), .ref (Γ.1 498)]) S hG hW hS [.int a1] (c_X7_inputs l hl0 Γ C M a1 hq) pk_X7_inputs rfl ml_L_43 rfl rfl ⟨Nat.le_of_ble_eq_true rfl, Nat.le_of_ble_eq_true rfl⟩ rfl hl.1 rfl (Nat.le_of_ble_eq_true rfl) dL_inputs_4 ⟨Nat.le_of_ble_eq_true rfl, Nat.le_of_ble_eq_true rfl⟩) (fun H locs k9 ce9 z9 hW hS e9 hce hcv hcl => ?_) (fun H locs r9 hW hS e9 => ?_)
  · have hf := sw_r e9 hf
    by_cases d0 : k9 = 3
    · have hf := cn_t d0 hf
      have e8 := Option.some.inj hf
      subst e8
      subst d0
      refine gl_catch (k := 3) S hG [] ⟨0, 9, 12, 25⟩ [] htab (fun z hz => by cases hz) (by decide) (by decide) cl_L_25 (by decide +kernel) hce hcv hcl ?_
      refine lv_astore_n (lv' := [(3, .ref z9), (0, .ref (Γ.1 0)), (1, .int a1), (2, .ref (Γ.1 498))]) hx hb dL_inputs_12 rfl hl (by decide) rfl (fun ls hl => ?_)
      refine lv_iconst (v := (1 : Int32)) hx hb dL_inputs_13 (by decide) ?_
      exact hret _ _ _ _ _ _ _ hW hS rfl (Nat.le_of_ble_eq_true rfl) (Nat.le_of_ble_eq_true rfl) dL_inputs_14
    · have hf := cn_f d0 hf
      cases hf
  have hf := sw_l e9 hf
  have e8 := Option.some.inj hf
  subst e8
  refine lv_i2l (v := r9.toInt64) hx hb dL_inputs_7 rfl ?_
  refine ast_out S hG hW hS rfl in_01 dL_inputs_8 (fun H locs hW hS => ?_)
  refine lv_goto (tgt := 15) hx hb dL_inputs_9 (by decide) ?_
  refine lv_iconst (v := (0 : Int32)) hx hb dL_inputs_15 (by decide) ?_
  exact hret _ _ _ _ _ _ _ hW hS rfl (Nat.le_of_ble_eq_true rfl) (Nat.le_of_ble_eq_true rfl) dL_inputs_16
noncomputable def fL_keyOf (C M : Mem) (a1 : Int32) : Option (Int32 × Mem × Mem) := bnd (fX7_keyOf C a1) fun q => sw q.1 (fun r => some ((0 : Int32), q.2, mset M 498 0 r)) (fun k => cnd (k = 3) (some ((1 : Int32), q.2, M)) (none))
abbrev rm_L_keyOf : Room := { frames := 8, cells := 1, slots := 6, locals := 142 }
theorem pk_L_keyOf : PkW yL_keyOf cL_keyOf 4 (some .int) [(0, 9, 12, 25)] 3 := ⟨TsG_t (List.mem_of_getElem? (i := 751) (by decide +kernel)) (by decide +kernel), TsG_t (List.mem_of_getElem? (i := 750) (by decide +kernel)) (by decide +kernel), in_L, by decide +kernel, by decide +kernel, by decide +kernel⟩
set_option maxRecDepth 100000 in
set_option maxHeartbeats 4000000 in
theorem c_L_keyOf (l : Launch) (hl0 : l.stackTraces = false) (Γ : gx_G) (C M : Mem) (a1 : Int32) {y0 : Int32 × Mem × Mem} (hf : fL_keyOf C M a1 = some y0) : Met l yL_keyOf (.codeWith yL_keyOf cL_keyOf 4 (some .int) [(0, 9, 12, 25)] :: TsG) rm_L_keyOf (va_Pc [.ref (Γ.1 0), .int a1, .ref (Γ.1 498)] (gx_P Γ C M)) (gx_Qi Γ y0.1 y0.2.1 y0.2.2) 1 6 (gA Γ) := by
  refine gl_ofW (by decide) (Nat.le_of_ble_eq_true rfl) ?_
  intro p e s m args below meth c Q S htab hG hret ls H locs hl hW hS
  obtain ⟨hx, hb, hml, hown, hts⟩ := id S
  have hl : lv_has ls 4 [(0, .ref (Γ.1 0)), (1, .int a1), (2, .ref (Γ.1 498))] := hl
  unfold fL_keyOf at hf
  obtain ⟨q, hq, hf⟩ := bnd_e hf
  refine lv_aload_n hx hb dL_keyOf_0 rfl (lv_at hl 2 rfl) ?_
  refine lv_iconst (v := (0 : Int32)) hx hb dL_keyOf_1 (by decide) ?_
  refine lv_aload_n hx hb dL_keyOf_2 rfl (lv_at hl 0 rfl) ?_
  refine lv_iload_n hx hb dL_keyOf_3 rfl (lv_at hl 1 rfl) ?_
  refine gxk_i hS (gvx_run (rest := [.int (0 : Int32), .ref (Γ.1 498)]) S hG hW hS [.int a1] (c_X7_keyOf l hl0 Γ C M a1 hq) pk_X7_keyOf rfl ml_L_58 rfl rfl ⟨Nat.le_of_ble_eq_true rfl, Nat.le_of_ble_eq_true rfl⟩ rfl hl.1 rfl (Nat.le_of_ble_eq_true rfl) dL_keyOf_4 ⟨Nat.le_of_ble_eq_true rfl, Nat.le_of_ble_eq_true rfl⟩) (fun H locs k9 ce9 z9 hW hS e9 hce hcv hcl => ?_) (fun H locs r9 hW hS e9 => ?_)
  · have hf := sw_r e9 hf
    by_cases d0 : k9 = 3
    · have hf := cn_t d0 hf
      have e8 := Option.some.inj hf
      subst e8
      subst d0
      refine gl_catch (k := 3) S hG [] ⟨0, 9, 12, 25⟩ [] htab (fun z hz => by cases hz) (by decide) (by decide) cl_L_25 (by decide +kernel) hce hcv hcl ?_
      refine lv_astore_n (lv' := [(3, .ref z9), (0, .ref (Γ.1 0)), (1, .int a1), (2, .ref (Γ.1 498))]) hx hb dL_keyOf_12 rfl hl (by decide) rfl (fun ls hl => ?_)
      refine lv_iconst (v := (1 : Int32)) hx hb dL_keyOf_13 (by decide) ?_
      exact hret _ _ _ _ _ _ _ hW hS rfl (Nat.le_of_ble_eq_true rfl) (Nat.le_of_ble_eq_true rfl) dL_keyOf_14
    · have hf := cn_f d0 hf
      cases hf
  have hf := sw_l e9 hf
  have e8 := Option.some.inj hf
  subst e8
  refine lv_i2l (v := r9.toInt64) hx hb dL_keyOf_7 rfl ?_
  refine ast_out S hG hW hS rfl in_01 dL_keyOf_8 (fun H locs hW hS => ?_)
  refine lv_goto (tgt := 15) hx hb dL_keyOf_9 (by decide) ?_
  refine lv_iconst (v := (0 : Int32)) hx hb dL_keyOf_15 (by decide) ?_
  exact hret _ _ _ _ _ _ _ hW hS rfl (Nat.le_of_ble_eq_true rfl) (Nat.le_of_ble_eq_true rfl) dL_keyOf_16
noncomputable def fL_longestShard (C M : Mem) (a1 : Int32) : Option (Int32 × Mem × Mem) := bnd (fX7_longestShard C a1) fun q => sw q.1 (fun r => some ((0 : Int32), q.2, mset M 498 0 r)) (fun k => cnd (k = 1) (some ((1 : Int32), q.2, M)) (none))
abbrev rm_L_longestShard : Room := { frames := 8, cells := 1, slots := 6, locals := 142 }
theorem pk_L_longestShard : PkW yL_longestShard cL_longestShard 4 (some .int) [(0, 9, 12, 13)] 3 := ⟨TsG_t (List.mem_of_getElem? (i := 846) (by decide +kernel)) (by decide +kernel), TsG_t (List.mem_of_getElem? (i := 845) (by decide +kernel)) (by decide +kernel), in_L, by decide +kernel, by decide +kernel, by decide +kernel⟩
set_option maxRecDepth 100000 in
set_option maxHeartbeats 4000000 in
theorem c_L_longestShard (l : Launch) (hl0 : l.stackTraces = false) (Γ : gx_G) (C M : Mem) (a1 : Int32) {y0 : Int32 × Mem × Mem} (hf : fL_longestShard C M a1 = some y0) : Met l yL_longestShard (.codeWith yL_longestShard cL_longestShard 4 (some .int) [(0, 9, 12, 13)] :: TsG) rm_L_longestShard (va_Pc [.ref (Γ.1 0), .int a1, .ref (Γ.1 498)] (gx_P Γ C M)) (gx_Qi Γ y0.1 y0.2.1 y0.2.2) 1 6 (gA Γ) := by
  refine gl_ofW (by decide) (Nat.le_of_ble_eq_true rfl) ?_
  intro p e s m args below meth c Q S htab hG hret ls H locs hl hW hS
  obtain ⟨hx, hb, hml, hown, hts⟩ := id S
  have hl : lv_has ls 4 [(0, .ref (Γ.1 0)), (1, .int a1), (2, .ref (Γ.1 498))] := hl
  unfold fL_longestShard at hf
  obtain ⟨q, hq, hf⟩ := bnd_e hf
  refine lv_aload_n hx hb dL_longestShard_0 rfl (lv_at hl 2 rfl) ?_
  refine lv_iconst (v := (0 : Int32)) hx hb dL_longestShard_1 (by decide) ?_
  refine lv_aload_n hx hb dL_longestShard_2 rfl (lv_at hl 0 rfl) ?_
  refine lv_iload_n hx hb dL_longestShard_3 rfl (lv_at hl 1 rfl) ?_
  refine gxk_i hS (gvx_run (rest := [.int (0 : Int32), .ref (Γ.1 498)]) S hG hW hS [.int a1] (c_X7_longestShard l hl0 Γ C M a1 hq) pk_X7_longestShard rfl ml_L_74 rfl rfl ⟨Nat.le_of_ble_eq_true rfl, Nat.le_of_ble_eq_true rfl⟩ rfl hl.1 rfl (Nat.le_of_ble_eq_true rfl) dL_longestShard_4 ⟨Nat.le_of_ble_eq_true rfl, Nat.le_of_ble_eq_true rfl⟩) (fun H locs k9 ce9 z9 hW hS e9 hce hcv hcl => ?_) (fun H locs r9 hW hS e9 => ?_)
  · have hf := sw_r e9 hf
    by_cases d0 : k9 = 1
    · have hf := cn_t d0 hf
      have e8 := Option.some.inj hf
      subst e8
      subst d0
      refine gl_catch (k := 1) S hG [] ⟨0, 9, 12, 13⟩ [] htab (fun z hz => by cases hz) (by decide) (by decide) cl_L_13 (by decide +kernel) hce hcv hcl ?_
      refine lv_astore_n (lv' := [(3, .ref z9), (0, .ref (Γ.1 0)), (1, .int a1), (2, .ref (Γ.1 498))]) hx hb dL_longestShard_12 rfl hl (by decide) rfl (fun ls hl => ?_)
      refine lv_iconst (v := (1 : Int32)) hx hb dL_longestShard_13 (by decide) ?_
      exact hret _ _ _ _ _ _ _ hW hS rfl (Nat.le_of_ble_eq_true rfl) (Nat.le_of_ble_eq_true rfl) dL_longestShard_14
    · have hf := cn_f d0 hf
      cases hf
  have hf := sw_l e9 hf
  have e8 := Option.some.inj hf
  subst e8
  refine lv_i2l (v := r9.toInt64) hx hb dL_longestShard_7 rfl ?_
  refine ast_out S hG hW hS rfl in_01 dL_longestShard_8 (fun H locs hW hS => ?_)
  refine lv_goto (tgt := 15) hx hb dL_longestShard_9 (by decide) ?_
  refine lv_iconst (v := (0 : Int32)) hx hb dL_longestShard_15 (by decide) ?_
  exact hret _ _ _ _ _ _ _ hW hS rfl (Nat.le_of_ble_eq_true rfl) (Nat.le_of_ble_eq_true rfl) dL_longestShard_16
noncomputable def fL_matches (C M : Mem) (a1 : Int32) : Option (Int32 × Mem × Mem) := bnd (fX7_matches C a1) fun q => sw q (fun r => some ((0 : Int32), C, mset M 498 0 (cnd (r = (0 : Int32)) (0 : Int32) (1 : Int32)))) (fun k => cnd (k = 3) (some ((1 : Int32), C, M)) (cnd (k = 2) (some ((2 : Int32), C, M)) (none)))
abbrev rm_L_matches : Room := { frames := 8, cells := 2, slots := 12, locals := 142 }
theorem pk_L_matches : PkW yL_matches cL_matches 4 (some .int) [(0, 16, 19, 25), (0, 16, 22, 15)] 3 := ⟨TsG_t (List.mem_of_getElem? (i := 608) (by decide +kernel)) (by decide +kernel), TsG_t (List.mem_of_getElem? (i := 607) (by decide +kernel)) (by decide +kernel), in_L, by decide +kernel, by decide +kernel, by decide +kernel⟩
set_option maxRecDepth 100000 in
set_option maxHeartbeats 4000000 in
theorem c_L_matches (l : Launch) (hl0 : l.stackTraces = false) (Γ : gx_G) (C M : Mem) (a1 : Int32) {y0 : Int32 × Mem × Mem} (hf : fL_matches C M a1 = some y0) : Met l yL_matches (.codeWith yL_matches cL_matches 4 (some .int) [(0, 16, 19, 25), (0, 16, 22, 15)] :: TsG) rm_L_matches (va_Pc [.ref (Γ.1 0), .int a1, .ref (Γ.1 498)] (gx_P Γ C M)) (gx_Qi Γ y0.1 y0.2.1 y0.2.2) 2 12 (gA Γ) := by
  refine gl_ofW (by decide) (Nat.le_of_ble_eq_true rfl) ?_
  intro p e s m args below meth c Q S htab hG hret ls H locs hl hW hS
  obtain ⟨hx, hb, hml, hown, hts⟩ := id S
  have hl : lv_has ls 4 [(0, .ref (Γ.1 0)), (1, .int a1), (2, .ref (Γ.1 498))] := hl
  unfold fL_matches at hf
  obtain ⟨q, hq, hf⟩ := bnd_e hf
  refine lv_aload_n hx hb dL_matches_0 rfl (lv_at hl 2 rfl) ?_
  refine lv_iconst (v := (0 : Int32)) hx hb dL_matches_1 (by decide) ?_
  refine lv_aload_n hx hb dL_matches_2 rfl (lv_at hl 0 rfl) ?_
  refine lv_iload_n hx hb dL_matches_3 rfl (lv_at hl 1 rfl) ?_
  refine gxk_i hS (gvx_run (rest := [.int (0 : Int32), .ref (Γ.1 498)]) S hG hW hS [.int a1] (c_X7_matches l hl0 Γ C M a1 hq) pk_X7_matches rfl ml_L_30 rfl rfl ⟨Nat.le_of_ble_eq_true rfl, Nat.le_of_ble_eq_true rfl⟩ rfl hl.1 rfl (Nat.le_of_ble_eq_true rfl) dL_matches_4 ⟨Nat.le_of_ble_eq_true rfl, Nat.le_of_ble_eq_true rfl⟩) (fun H locs k9 ce9 z9 hW hS e9 hce hcv hcl => ?_) (fun H locs r9 hW hS e9 => ?_)
  · have hf := sw_r e9 hf
    by_cases d0 : k9 = 3
    · have hf := cn_t d0 hf
      have e8 := Option.some.inj hf
      subst e8
      subst d0
      refine gl_catch (k := 3) S hG [] ⟨0, 16, 19, 25⟩ [⟨0, 16, 22, 15⟩] htab (fun z hz => by cases hz) (by decide) (by decide) cl_L_25 (by decide +kernel) hce hcv hcl ?_
      refine lv_astore_n (lv' := [(3, .ref z9), (0, .ref (Γ.1 0)), (1, .int a1), (2, .ref (Γ.1 498))]) hx hb dL_matches_19 rfl hl (by decide) rfl (fun ls hl => ?_)
      refine lv_iconst (v := (1 : Int32)) hx hb dL_matches_20 (by decide) ?_
      exact hret _ _ _ _ _ _ _ hW hS rfl (Nat.le_of_ble_eq_true rfl) (Nat.le_of_ble_eq_true rfl) dL_matches_21
    · have hf := cn_f d0 hf
      by_cases d1 : k9 = 2
      · have hf := cn_t d1 hf
        have e8 := Option.some.inj hf
        subst e8
        subst d1
        refine gl_catch (k := 2) S hG [⟨0, 16, 19, 25⟩] ⟨0, 16, 22, 15⟩ [] htab (fun z hz => (List.mem_cons.mp hz).elim (fun e => e ▸ ⟨by decide, _, cl_L_25, by decide +kernel⟩) (fun hz => nomatch hz)) (by decide) (by decide) cl_L_15 (by decide +kernel) hce hcv hcl ?_
        refine lv_astore_n (lv' := [(3, .ref z9), (0, .ref (Γ.1 0)), (1, .int a1), (2, .ref (Γ.1 498))]) hx hb dL_matches_22 rfl hl (by decide) rfl (fun ls hl => ?_)
        refine lv_iconst (v := (2 : Int32)) hx hb dL_matches_23 (by decide) ?_
        exact hret _ _ _ _ _ _ _ hW hS rfl (Nat.le_of_ble_eq_true rfl) (Nat.le_of_ble_eq_true rfl) dL_matches_24
      · have hf := cn_f d1 hf
        cases hf
  have hf := sw_l e9 hf
  have e8 := Option.some.inj hf
  subst e8
  refine lv_if_eq (tgt := 14) hx hb dL_matches_7 (by decide) (fun d => ?_) (fun d => ?_)
  · rw [cnd_t d] at hret
    refine lv_lconst (v := (0 : Int64)) hx hb dL_matches_14 rfl ?_
    refine ast_out (x := (0 : Int32)) S hG hW hS (by decide) in_01 dL_matches_15 (fun H locs hW hS => ?_)
    refine lv_goto (tgt := 25) hx hb dL_matches_16 (by decide) ?_
    refine lv_iconst (v := (0 : Int32)) hx hb dL_matches_25 (by decide) ?_
    exact hret _ _ _ _ _ _ _ hW hS rfl (Nat.le_of_ble_eq_true rfl) (Nat.le_of_ble_eq_true rfl) dL_matches_26
  · rw [cnd_f d] at hret
    refine lv_lconst (v := (1 : Int64)) hx hb dL_matches_10 rfl ?_
    refine lv_goto (tgt := 15) hx hb dL_matches_11 (by decide) ?_
    refine ast_out (x := (1 : Int32)) S hG hW hS (by decide) in_01 dL_matches_15 (fun H locs hW hS => ?_)
    refine lv_goto (tgt := 25) hx hb dL_matches_16 (by decide) ?_
    refine lv_iconst (v := (0 : Int32)) hx hb dL_matches_25 (by decide) ?_
    exact hret _ _ _ _ _ _ _ hW hS rfl (Nat.le_of_ble_eq_true rfl) (Nat.le_of_ble_eq_true rfl) dL_matches_26
noncomputable def fL_orderAt (C M : Mem) (a1 : Int32) : Option (Int32 × Mem × Mem) := bnd (fX7_orderAt C a1) fun q => sw q.1 (fun r => some ((0 : Int32), q.2, mset M 498 0 r)) (fun k => cnd (k = 3) (some ((1 : Int32), q.2, M)) (none))
abbrev rm_L_orderAt : Room := { frames := 7, cells := 1, slots := 6, locals := 121 }
theorem pk_L_orderAt : PkW yL_orderAt cL_orderAt 4 (some .int) [(0, 9, 12, 25)] 3 := ⟨TsG_t (List.mem_of_getElem? (i := 714) (by decide +kernel)) (by decide +kernel), TsG_t (List.mem_of_getElem? (i := 713) (by decide +kernel)) (by decide +kernel), in_L, by decide +kernel, by decide +kernel, by decide +kernel⟩
set_option maxRecDepth 100000 in
set_option maxHeartbeats 4000000 in
theorem c_L_orderAt (l : Launch) (hl0 : l.stackTraces = false) (Γ : gx_G) (C M : Mem) (a1 : Int32) {y0 : Int32 × Mem × Mem} (hf : fL_orderAt C M a1 = some y0) : Met l yL_orderAt (.codeWith yL_orderAt cL_orderAt 4 (some .int) [(0, 9, 12, 25)] :: TsG) rm_L_orderAt (va_Pc [.ref (Γ.1 0), .int a1, .ref (Γ.1 498)] (gx_P Γ C M)) (gx_Qi Γ y0.1 y0.2.1 y0.2.2) 1 6 (gA Γ) := by
  refine gl_ofW (by decide) (Nat.le_of_ble_eq_true rfl) ?_
  intro p e s m args below meth c Q S htab hG hret ls H locs hl hW hS
  obtain ⟨hx, hb, hml, hown, hts⟩ := id S
  have hl : lv_has ls 4 [(0, .ref (Γ.1 0)), (1, .int a1), (2, .ref (Γ.1 498))] := hl
  unfold fL_orderAt at hf
  obtain ⟨q, hq, hf⟩ := bnd_e hf
  refine lv_aload_n hx hb dL_orderAt_0 rfl (lv_at hl 2 rfl) ?_
  refine lv_iconst (v := (0 : Int32)) hx hb dL_orderAt_1 (by decide) ?_
  refine lv_aload_n hx hb dL_orderAt_2 rfl (lv_at hl 0 rfl) ?_
  refine lv_iload_n hx hb dL_orderAt_3 rfl (lv_at hl 1 rfl) ?_
  refine gxk_i hS (gvx_run (rest := [.int (0 : Int32), .ref (Γ.1 498)]) S hG hW hS [.int a1] (c_X7_orderAt l hl0 Γ C M a1 hq) pk_X7_orderAt rfl ml_L_49 rfl rfl ⟨Nat.le_of_ble_eq_true rfl, Nat.le_of_ble_eq_true rfl⟩ rfl hl.1 rfl (Nat.le_of_ble_eq_true rfl) dL_orderAt_4 ⟨Nat.le_of_ble_eq_true rfl, Nat.le_of_ble_eq_true rfl⟩) (fun H locs k9 ce9 z9 hW hS e9 hce hcv hcl => ?_) (fun H locs r9 hW hS e9 => ?_)
  · have hf := sw_r e9 hf
    by_cases d0 : k9 = 3
    · have hf := cn_t d0 hf
      have e8 := Option.some.inj hf
      subst e8
      subst d0
      refine gl_catch (k := 3) S hG [] ⟨0, 9, 12, 25⟩ [] htab (fun z hz => by cases hz) (by decide) (by decide) cl_L_25 (by decide +kernel) hce hcv hcl ?_
      refine lv_astore_n (lv' := [(3, .ref z9), (0, .ref (Γ.1 0)), (1, .int a1), (2, .ref (Γ.1 498))]) hx hb dL_orderAt_12 rfl hl (by decide) rfl (fun ls hl => ?_)
      refine lv_iconst (v := (1 : Int32)) hx hb dL_orderAt_13 (by decide) ?_
      exact hret _ _ _ _ _ _ _ hW hS rfl (Nat.le_of_ble_eq_true rfl) (Nat.le_of_ble_eq_true rfl) dL_orderAt_14
    · have hf := cn_f d0 hf
      cases hf
  have hf := sw_l e9 hf
  have e8 := Option.some.inj hf
  subst e8
  refine lv_i2l (v := r9.toInt64) hx hb dL_orderAt_7 rfl ?_
  refine ast_out S hG hW hS rfl in_01 dL_orderAt_8 (fun H locs hW hS => ?_)
  refine lv_goto (tgt := 15) hx hb dL_orderAt_9 (by decide) ?_
  refine lv_iconst (v := (0 : Int32)) hx hb dL_orderAt_15 (by decide) ?_
  exact hret _ _ _ _ _ _ _ hW hS rfl (Nat.le_of_ble_eq_true rfl) (Nat.le_of_ble_eq_true rfl) dL_orderAt_16
noncomputable def fL_ownerOf (C M : Mem) (a1 : Int32) : Option (Int32 × Mem × Mem) := bnd (fX7_ownerOf C a1) fun q => sw q (fun r => some ((0 : Int32), C, mset M 498 0 r)) (fun k => cnd (k = 3) (some ((1 : Int32), C, M)) (none))
abbrev rm_L_ownerOf : Room := { frames := 8, cells := 1, slots := 6, locals := 142 }
theorem pk_L_ownerOf : PkW yL_ownerOf cL_ownerOf 4 (some .int) [(0, 9, 12, 25)] 3 := ⟨TsG_t (List.mem_of_getElem? (i := 893) (by decide +kernel)) (by decide +kernel), TsG_t (List.mem_of_getElem? (i := 892) (by decide +kernel)) (by decide +kernel), in_L, by decide +kernel, by decide +kernel, by decide +kernel⟩
set_option maxRecDepth 100000 in
set_option maxHeartbeats 4000000 in
theorem c_L_ownerOf (l : Launch) (hl0 : l.stackTraces = false) (Γ : gx_G) (C M : Mem) (a1 : Int32) {y0 : Int32 × Mem × Mem} (hf : fL_ownerOf C M a1 = some y0) : Met l yL_ownerOf (.codeWith yL_ownerOf cL_ownerOf 4 (some .int) [(0, 9, 12, 25)] :: TsG) rm_L_ownerOf (va_Pc [.ref (Γ.1 0), .int a1, .ref (Γ.1 498)] (gx_P Γ C M)) (gx_Qi Γ y0.1 y0.2.1 y0.2.2) 1 6 (gA Γ) := by
  refine gl_ofW (by decide) (Nat.le_of_ble_eq_true rfl) ?_
  intro p e s m args below meth c Q S htab hG hret ls H locs hl hW hS
  obtain ⟨hx, hb, hml, hown, hts⟩ := id S
  have hl : lv_has ls 4 [(0, .ref (Γ.1 0)), (1, .int a1), (2, .ref (Γ.1 498))] := hl
  unfold fL_ownerOf at hf
  obtain ⟨q, hq, hf⟩ := bnd_e hf
  refine lv_aload_n hx hb dL_ownerOf_0 rfl (lv_at hl 2 rfl) ?_
  refine lv_iconst (v := (0 : Int32)) hx hb dL_ownerOf_1 (by decide) ?_
  refine lv_aload_n hx hb dL_ownerOf_2 rfl (lv_at hl 0 rfl) ?_
  refine lv_iload_n hx hb dL_ownerOf_3 rfl (lv_at hl 1 rfl) ?_
  refine gxk_i hS (gvx_run (rest := [.int (0 : Int32), .ref (Γ.1 498)]) S hG hW hS [.int a1] (c_X7_ownerOf l hl0 Γ C M a1 hq) pk_X7_ownerOf rfl ml_L_83 rfl rfl ⟨Nat.le_of_ble_eq_true rfl, Nat.le_of_ble_eq_true rfl⟩ rfl hl.1 rfl (Nat.le_of_ble_eq_true rfl) dL_ownerOf_4 ⟨Nat.le_of_ble_eq_true rfl, Nat.le_of_ble_eq_true rfl⟩) (fun H locs k9 ce9 z9 hW hS e9 hce hcv hcl => ?_) (fun H locs r9 hW hS e9 => ?_)
  · have hf := sw_r e9 hf
    by_cases d0 : k9 = 3
    · have hf := cn_t d0 hf
      have e8 := Option.some.inj hf
      subst e8
      subst d0
      refine gl_catch (k := 3) S hG [] ⟨0, 9, 12, 25⟩ [] htab (fun z hz => by cases hz) (by decide) (by decide) cl_L_25 (by decide +kernel) hce hcv hcl ?_
      refine lv_astore_n (lv' := [(3, .ref z9), (0, .ref (Γ.1 0)), (1, .int a1), (2, .ref (Γ.1 498))]) hx hb dL_ownerOf_12 rfl hl (by decide) rfl (fun ls hl => ?_)
      refine lv_iconst (v := (1 : Int32)) hx hb dL_ownerOf_13 (by decide) ?_
      exact hret _ _ _ _ _ _ _ hW hS rfl (Nat.le_of_ble_eq_true rfl) (Nat.le_of_ble_eq_true rfl) dL_ownerOf_14
    · have hf := cn_f d0 hf
      cases hf
  have hf := sw_l e9 hf
  have e8 := Option.some.inj hf
  subst e8
  refine lv_i2l (v := r9.toInt64) hx hb dL_ownerOf_7 rfl ?_
  refine ast_out S hG hW hS rfl in_01 dL_ownerOf_8 (fun H locs hW hS => ?_)
  refine lv_goto (tgt := 15) hx hb dL_ownerOf_9 (by decide) ?_
  refine lv_iconst (v := (0 : Int32)) hx hb dL_ownerOf_15 (by decide) ?_
  exact hret _ _ _ _ _ _ _ hW hS rfl (Nat.le_of_ble_eq_true rfl) (Nat.le_of_ble_eq_true rfl) dL_ownerOf_16
noncomputable def fL_run (C M : Mem) (a1 : Int32) : Option (Int32 × Mem × Mem) := bnd (fX7_run C a1) fun q => sw q.1 (fun r => some ((0 : Int32), q.2, mset M 498 0 r)) (fun k => cnd (k = 3) (some ((1 : Int32), q.2, M)) (cnd (k = 2) (some ((2 : Int32), q.2, M)) (none)))
abbrev rm_L_run : Room := { frames := 8, cells := 2, slots := 12, locals := 142 }
theorem pk_L_run : PkW yL_run cL_run 4 (some .int) [(0, 9, 12, 25), (0, 9, 15, 15)] 3 := ⟨TsG_t (List.mem_of_getElem? (i := 777) (by decide +kernel)) (by decide +kernel), TsG_t (List.mem_of_getElem? (i := 776) (by decide +kernel)) (by decide +kernel), in_L, by decide +kernel, by decide +kernel, by decide +kernel⟩
set_option maxRecDepth 100000 in
set_option maxHeartbeats 4000000 in
theorem c_L_run (l : Launch) (hl0 : l.stackTraces = false) (Γ : gx_G) (C M : Mem) (a1 : Int32) {y0 : Int32 × Mem × Mem} (hf : fL_run C M a1 = some y0) : Met l yL_run (.codeWith yL_run cL_run 4 (some .int) [(0, 9, 12, 25), (0, 9, 15, 15)] :: TsG) rm_L_run (va_Pc [.ref (Γ.1 0), .int a1, .ref (Γ.1 498)] (gx_P Γ C M)) (gx_Qi Γ y0.1 y0.2.1 y0.2.2) 2 12 (gA Γ) := by
  refine gl_ofW (by decide) (Nat.le_of_ble_eq_true rfl) ?_
  intro p e s m args below meth c Q S htab hG hret ls H locs hl hW hS
  obtain ⟨hx, hb, hml, hown, hts⟩ := id S
  have hl : lv_has ls 4 [(0, .ref (Γ.1 0)), (1, .int a1), (2, .ref (Γ.1 498))] := hl
  unfold fL_run at hf
  obtain ⟨q, hq, hf⟩ := bnd_e hf
  refine lv_aload_n hx hb dL_run_0 rfl (lv_at hl 2 rfl) ?_
  refine lv_iconst (v := (0 : Int32)) hx hb dL_run_1 (by decide) ?_
  refine lv_aload_n hx hb dL_run_2 rfl (lv_at hl 0 rfl) ?_
  refine lv_iload_n hx hb dL_run_3 rfl (lv_at hl 1 rfl) ?_
  refine gxk_i hS (gvx_run (rest := [.int (0 : Int32), .ref (Γ.1 498)]) S hG hW hS [.int a1] (c_X7_run l hl0 Γ C M a1 hq) pk_X7_run rfl ml_L_64 rfl rfl ⟨Nat.le_of_ble_eq_true rfl, Nat.le_of_ble_eq_true rfl⟩ rfl hl.1 rfl (Nat.le_of_ble_eq_true rfl) dL_run_4 ⟨Nat.le_of_ble_eq_true rfl, Nat.le_of_ble_eq_true rfl⟩) (fun H locs k9 ce9 z9 hW hS e9 hce hcv hcl => ?_) (fun H locs r9 hW hS e9 => ?_)
  · have hf := sw_r e9 hf
    by_cases d0 : k9 = 3
    · have hf := cn_t d0 hf
      have e8 := Option.some.inj hf
      subst e8
      subst d0
      refine gl_catch (k := 3) S hG [] ⟨0, 9, 12, 25⟩ [⟨0, 9, 15, 15⟩] htab (fun z hz => by cases hz) (by decide) (by decide) cl_L_25 (by decide +kernel) hce hcv hcl ?_
      refine lv_astore_n (lv' := [(3, .ref z9), (0, .ref (Γ.1 0)), (1, .int a1), (2, .ref (Γ.1 498))]) hx hb dL_run_12 rfl hl (by decide) rfl (fun ls hl => ?_)
      refine lv_iconst (v := (1 : Int32)) hx hb dL_run_13 (by decide) ?_
      exact hret _ _ _ _ _ _ _ hW hS rfl (Nat.le_of_ble_eq_true rfl) (Nat.le_of_ble_eq_true rfl) dL_run_14
    · have hf := cn_f d0 hf
      by_cases d1 : k9 = 2
      · have hf := cn_t d1 hf
        have e8 := Option.some.inj hf
        subst e8
        subst d1
        refine gl_catch (k := 2) S hG [⟨0, 9, 12, 25⟩] ⟨0, 9, 15, 15⟩ [] htab (fun z hz => (List.mem_cons.mp hz).elim (fun e => e ▸ ⟨by decide, _, cl_L_25, by decide +kernel⟩) (fun hz => nomatch hz)) (by decide) (by decide) cl_L_15 (by decide +kernel) hce hcv hcl ?_
        refine lv_astore_n (lv' := [(3, .ref z9), (0, .ref (Γ.1 0)), (1, .int a1), (2, .ref (Γ.1 498))]) hx hb dL_run_15 rfl hl (by decide) rfl (fun ls hl => ?_)
        refine lv_iconst (v := (2 : Int32)) hx hb dL_run_16 (by decide) ?_
        exact hret _ _ _ _ _ _ _ hW hS rfl (Nat.le_of_ble_eq_true rfl) (Nat.le_of_ble_eq_true rfl) dL_run_17
      · have hf := cn_f d1 hf
        cases hf
  have hf := sw_l e9 hf
  have e8 := Option.some.inj hf
  subst e8
  refine lv_i2l (v := r9.toInt64) hx hb dL_run_7 rfl ?_
  refine ast_out S hG hW hS rfl in_01 dL_run_8 (fun H locs hW hS => ?_)
  refine lv_goto (tgt := 18) hx hb dL_run_9 (by decide) ?_
  refine lv_iconst (v := (0 : Int32)) hx hb dL_run_18 (by decide) ?_
  exact hret _ _ _ _ _ _ _ hW hS rfl (Nat.le_of_ble_eq_true rfl) (Nat.le_of_ble_eq_true rfl) dL_run_19
noncomputable def fL_runAll (C M : Mem)  : Option (Int32 × Mem × Mem) := bnd (fX7_runAll C) fun q => sw q.1 (fun r => some ((0 : Int32), q.2, mset M 498 0 r)) (fun k => cnd (k = 2) (some ((1 : Int32), q.2, M)) (none))
abbrev rm_L_runAll : Room := { frames := 7, cells := 1, slots := 6, locals := 147 }
theorem pk_L_runAll : PkW yL_runAll cL_runAll 3 (some .int) [(0, 8, 11, 15)] 2 := ⟨TsG_t (List.mem_of_getElem? (i := 795) (by decide +kernel)) (by decide +kernel), TsG_t (List.mem_of_getElem? (i := 794) (by decide +kernel)) (by decide +kernel), in_L, by decide +kernel, by decide +kernel, by decide +kernel⟩
set_option maxRecDepth 100000 in
set_option maxHeartbeats 4000000 in
theorem c_L_runAll (l : Launch) (hl0 : l.stackTraces = false) (Γ : gx_G) (C M : Mem)  {y0 : Int32 × Mem × Mem} (hf : fL_runAll C M  = some y0) : Met l yL_runAll (.codeWith yL_runAll cL_runAll 3 (some .int) [(0, 8, 11, 15)] :: TsG) rm_L_runAll (va_Pc [.ref (Γ.1 0), .ref (Γ.1 498)] (gx_P Γ C M)) (gx_Qi Γ y0.1 y0.2.1 y0.2.2) 1 6 (gA Γ) := by
  refine gl_ofW (by decide) (Nat.le_of_ble_eq_true rfl) ?_
  intro p e s m args below meth c Q S htab hG hret ls H locs hl hW hS
  obtain ⟨hx, hb, hml, hown, hts⟩ := id S
  have hl : lv_has ls 3 [(0, .ref (Γ.1 0)), (1, .ref (Γ.1 498))] := hl
  unfold fL_runAll at hf
  obtain ⟨q, hq, hf⟩ := bnd_e hf
  refine lv_aload_n hx hb dL_runAll_0 rfl (lv_at hl 1 rfl) ?_
  refine lv_iconst (v := (0 : Int32)) hx hb dL_runAll_1 (by decide) ?_
  refine lv_aload_n hx hb dL_runAll_2 rfl (lv_at hl 0 rfl) ?_
  refine gxk_i hS (gvx_run (rest := [.int (0 : Int32), .ref (Γ.1 498)]) S hG hW hS [] (c_X7_runAll l hl0 Γ C M hq) pk_X7_runAll rfl ml_L_67 rfl rfl ⟨Nat.le_of_ble_eq_true rfl, Nat.le_of_ble_eq_true rfl⟩ rfl hl.1 rfl (Nat.le_of_ble_eq_true rfl) dL_runAll_3 ⟨Nat.le_of_ble_eq_true rfl, Nat.le_of_ble_eq_true rfl⟩) (fun H locs k9 ce9 z9 hW hS e9 hce hcv hcl => ?_) (fun H locs r9 hW hS e9 => ?_)
  · have hf := sw_r e9 hf
    by_cases d0 : k9 = 2
    · have hf := cn_t d0 hf
      have e8 := Option.some.inj hf
      subst e8
      subst d0
      refine gl_catch (k := 2) S hG [] ⟨0, 8, 11, 15⟩ [] htab (fun z hz => by cases hz) (by decide) (by decide) cl_L_15 (by decide +kernel) hce hcv hcl ?_
      refine lv_astore_n (lv' := [(2, .ref z9), (0, .ref (Γ.1 0)), (1, .ref (Γ.1 498))]) hx hb dL_runAll_11 rfl hl (by decide) rfl (fun ls hl => ?_)
      refine lv_iconst (v := (1 : Int32)) hx hb dL_runAll_12 (by decide) ?_
      exact hret _ _ _ _ _ _ _ hW hS rfl (Nat.le_of_ble_eq_true rfl) (Nat.le_of_ble_eq_true rfl) dL_runAll_13
    · have hf := cn_f d0 hf
      cases hf
  have hf := sw_l e9 hf
  have e8 := Option.some.inj hf
  subst e8
  refine lv_i2l (v := r9.toInt64) hx hb dL_runAll_6 rfl ?_
  refine ast_out S hG hW hS rfl in_01 dL_runAll_7 (fun H locs hW hS => ?_)
  refine lv_goto (tgt := 14) hx hb dL_runAll_8 (by decide) ?_
  refine lv_iconst (v := (0 : Int32)) hx hb dL_runAll_14 (by decide) ?_
  exact hret _ _ _ _ _ _ _ hW hS rfl (Nat.le_of_ble_eq_true rfl) (Nat.le_of_ble_eq_true rfl) dL_runAll_15
noncomputable def fL_shardOf (C M : Mem) (a1 : Int32) (a2 : Int32) : Option (Int32 × Mem × Mem) := bnd (fX7_shardOf C a1 a2) fun q => sw q.1 (fun r => some ((0 : Int32), q.2, mset M 498 0 r)) (fun k => cnd (k = 3) (some ((1 : Int32), q.2, M)) (cnd (k = 1) (some ((2 : Int32), q.2, M)) (none)))
abbrev rm_L_shardOf : Room := { frames := 8, cells := 2, slots := 12, locals := 143 }
theorem pk_L_shardOf : PkW yL_shardOf cL_shardOf 5 (some .int) [(0, 10, 13, 25), (0, 10, 17, 13)] 4 := ⟨TsG_t (List.mem_of_getElem? (i := 808) (by decide +kernel)) (by decide +kernel), TsG_t (List.mem_of_getElem? (i := 807) (by decide +kernel)) (by decide +kernel), in_L, by decide +kernel, by decide +kernel, by decide +kernel⟩
set_option maxRecDepth 100000 in
set_option maxHeartbeats 4000000 in
theorem c_L_shardOf (l : Launch) (hl0 : l.stackTraces = false) (Γ : gx_G) (C M : Mem) (a1 : Int32) (a2 : Int32) {y0 : Int32 × Mem × Mem} (hf : fL_shardOf C M a1 a2 = some y0) : Met l yL_shardOf (.codeWith yL_shardOf cL_shardOf 5 (some .int) [(0, 10, 13, 25), (0, 10, 17, 13)] :: TsG) rm_L_shardOf (va_Pc [.ref (Γ.1 0), .int a1, .int a2, .ref (Γ.1 498)] (gx_P Γ C M)) (gx_Qi Γ y0.1 y0.2.1 y0.2.2) 2 12 (gA Γ) := by
  refine gl_ofW (by decide) (Nat.le_of_ble_eq_true rfl) ?_
  intro p e s m args below meth c Q S htab hG hret ls H locs hl hW hS
  obtain ⟨hx, hb, hml, hown, hts⟩ := id S
  have hl : lv_has ls 5 [(0, .ref (Γ.1 0)), (1, .int a1), (2, .int a2), (3, .ref (Γ.1 498))] := hl
  unfold fL_shardOf at hf
  obtain ⟨q, hq, hf⟩ := bnd_e hf
  refine lv_aload_n hx hb dL_shardOf_0 rfl (lv_at hl 3 rfl) ?_
  refine lv_iconst (v := (0 : Int32)) hx hb dL_shardOf_1 (by decide) ?_
  refine lv_aload_n hx hb dL_shardOf_2 rfl (lv_at hl 0 rfl) ?_
  refine lv_iload_n hx hb dL_shardOf_3 rfl (lv_at hl 1 rfl) ?_
  refine lv_iload_n hx hb dL_shardOf_4 rfl (lv_at hl 2 rfl) ?_
  refine gxk_i hS (gvx_run (rest := [.int (0 : Int32), .ref (Γ.1 498)]) S hG hW hS [.int a1, .int a2] (c_X7_shardOf l hl0 Γ C M a1 a2 hq) pk_X7_shardOf rfl ml_L_71 rfl rfl ⟨Nat.le_of_ble_eq_true rfl, Nat.le_of_ble_eq_true rfl⟩ rfl hl.1 rfl (Nat.le_of_ble_eq_true rfl) dL_shardOf_5 ⟨Nat.le_of_ble_eq_true rfl, Nat.le_of_ble_eq_true rfl⟩) (fun H locs k9 ce9 z9 hW hS e9 hce hcv hcl => ?_) (fun H locs r9 hW hS e9 => ?_)
  · have hf := sw_r e9 hf
    by_cases d0 : k9 = 3
    · have hf := cn_t d0 hf
      have e8 := Option.some.inj hf
      subst e8
      subst d0
      refine gl_catch (k := 3) S hG [] ⟨0, 10, 13, 25⟩ [⟨0, 10, 17, 13⟩] htab (fun z hz => by cases hz) (by decide) (by decide) cl_L_25 (by decide +kernel) hce hcv hcl ?_
      refine lv_astore (lv' := [(4, .ref z9), (0, .ref (Γ.1 0)), (1, .int a1), (2, .int a2), (3, .ref (Γ.1 498))]) hx hb dL_shardOf_13 hl (by decide) rfl (fun ls hl => ?_)
      refine lv_iconst (v := (1 : Int32)) hx hb dL_shardOf_15 (by decide) ?_
      exact hret _ _ _ _ _ _ _ hW hS rfl (Nat.le_of_ble_eq_true rfl) (Nat.le_of_ble_eq_true rfl) dL_shardOf_16
    · have hf := cn_f d0 hf
      by_cases d1 : k9 = 1
      · have hf := cn_t d1 hf
        have e8 := Option.some.inj hf
        subst e8
        subst d1
        refine gl_catch (k := 1) S hG [⟨0, 10, 13, 25⟩] ⟨0, 10, 17, 13⟩ [] htab (fun z hz => (List.mem_cons.mp hz).elim (fun e => e ▸ ⟨by decide, _, cl_L_25, by decide +kernel⟩) (fun hz => nomatch hz)) (by decide) (by decide) cl_L_13 (by decide +kernel) hce hcv hcl ?_
        refine lv_astore (lv' := [(4, .ref z9), (0, .ref (Γ.1 0)), (1, .int a1), (2, .int a2), (3, .ref (Γ.1 498))]) hx hb dL_shardOf_17 hl (by decide) rfl (fun ls hl => ?_)
        refine lv_iconst (v := (2 : Int32)) hx hb dL_shardOf_19 (by decide) ?_
        exact hret _ _ _ _ _ _ _ hW hS rfl (Nat.le_of_ble_eq_true rfl) (Nat.le_of_ble_eq_true rfl) dL_shardOf_20
      · have hf := cn_f d1 hf
        cases hf
  have hf := sw_l e9 hf
  have e8 := Option.some.inj hf
  subst e8
  refine lv_i2l (v := r9.toInt64) hx hb dL_shardOf_8 rfl ?_
  refine ast_out S hG hW hS rfl in_01 dL_shardOf_9 (fun H locs hW hS => ?_)
  refine lv_goto (tgt := 21) hx hb dL_shardOf_10 (by decide) ?_
  refine lv_iconst (v := (0 : Int32)) hx hb dL_shardOf_21 (by decide) ?_
  exact hret _ _ _ _ _ _ _ hW hS rfl (Nat.le_of_ble_eq_true rfl) (Nat.le_of_ble_eq_true rfl) dL_shardOf_22
noncomputable def fL_shardsFor (C M : Mem) (a1 : Int32) : Option (Int32 × Mem × Mem) := bnd (fX7_shardsFor C a1) fun q => sw q.1 (fun r => some ((0 : Int32), q.2, mset M 498 0 r)) (fun k => cnd (k = 1) (some ((1 : Int32), q.2, M)) (none))
abbrev rm_L_shardsFor : Room := { frames := 7, cells := 1, slots := 6, locals := 131 }
theorem pk_L_shardsFor : PkW yL_shardsFor cL_shardsFor 4 (some .int) [(0, 9, 12, 13)] 3 := ⟨TsG_t (List.mem_of_getElem? (i := 858) (by decide +kernel)) (by decide +kernel), TsG_t (List.mem_of_getElem? (i := 857) (by decide +kernel)) (by decide +kernel), in_L, by decide +kernel, by decide +kernel, by decide +kernel⟩
set_option maxRecDepth 100000 in
set_option maxHeartbeats 4000000 in
theorem c_L_shardsFor (l : Launch) (hl0 : l.stackTraces = false) (Γ : gx_G) (C M : Mem) (a1 : Int32) {y0 : Int32 × Mem × Mem} (hf : fL_shardsFor C M a1 = some y0) : Met l yL_shardsFor (.codeWith yL_shardsFor cL_shardsFor 4 (some .int) [(0, 9, 12, 13)] :: TsG) rm_L_shardsFor (va_Pc [.ref (Γ.1 0), .int a1, .ref (Γ.1 498)] (gx_P Γ C M)) (gx_Qi Γ y0.1 y0.2.1 y0.2.2) 1 6 (gA Γ) := by
  refine gl_ofW (by decide) (Nat.le_of_ble_eq_true rfl) ?_
  intro p e s m args below meth c Q S htab hG hret ls H locs hl hW hS
  obtain ⟨hx, hb, hml, hown, hts⟩ := id S
  have hl : lv_has ls 4 [(0, .ref (Γ.1 0)), (1, .int a1), (2, .ref (Γ.1 498))] := hl
  unfold fL_shardsFor at hf
  obtain ⟨q, hq, hf⟩ := bnd_e hf
  refine lv_aload_n hx hb dL_shardsFor_0 rfl (lv_at hl 2 rfl) ?_
  refine lv_iconst (v := (0 : Int32)) hx hb dL_shardsFor_1 (by decide) ?_
  refine lv_aload_n hx hb dL_shardsFor_2 rfl (lv_at hl 0 rfl) ?_
  refine lv_iload_n hx hb dL_shardsFor_3 rfl (lv_at hl 1 rfl) ?_
  refine gxk_i hS (gvx_run (rest := [.int (0 : Int32), .ref (Γ.1 498)]) S hG hW hS [.int a1] (c_X7_shardsFor l hl0 Γ C M a1 hq) pk_X7_shardsFor rfl ml_L_77 rfl rfl ⟨Nat.le_of_ble_eq_true rfl, Nat.le_of_ble_eq_true rfl⟩ rfl hl.1 rfl (Nat.le_of_ble_eq_true rfl) dL_shardsFor_4 ⟨Nat.le_of_ble_eq_true rfl, Nat.le_of_ble_eq_true rfl⟩) (fun H locs k9 ce9 z9 hW hS e9 hce hcv hcl => ?_) (fun H locs r9 hW hS e9 => ?_)
  · have hf := sw_r e9 hf
    by_cases d0 : k9 = 1
    · have hf := cn_t d0 hf
      have e8 := Option.some.inj hf
      subst e8
      subst d0
      refine gl_catch (k := 1) S hG [] ⟨0, 9, 12, 13⟩ [] htab (fun z hz => by cases hz) (by decide) (by decide) cl_L_13 (by decide +kernel) hce hcv hcl ?_
      refine lv_astore_n (lv' := [(3, .ref z9), (0, .ref (Γ.1 0)), (1, .int a1), (2, .ref (Γ.1 498))]) hx hb dL_shardsFor_12 rfl hl (by decide) rfl (fun ls hl => ?_)
      refine lv_iconst (v := (1 : Int32)) hx hb dL_shardsFor_13 (by decide) ?_
      exact hret _ _ _ _ _ _ _ hW hS rfl (Nat.le_of_ble_eq_true rfl) (Nat.le_of_ble_eq_true rfl) dL_shardsFor_14
    · have hf := cn_f d0 hf
      cases hf
  have hf := sw_l e9 hf
  have e8 := Option.some.inj hf
  subst e8
  refine lv_i2l (v := r9.toInt64) hx hb dL_shardsFor_7 rfl ?_
  refine ast_out S hG hW hS rfl in_01 dL_shardsFor_8 (fun H locs hW hS => ?_)
  refine lv_goto (tgt := 15) hx hb dL_shardsFor_9 (by decide) ?_
  refine lv_iconst (v := (0 : Int32)) hx hb dL_shardsFor_15 (by decide) ?_
  exact hret _ _ _ _ _ _ _ hW hS rfl (Nat.le_of_ble_eq_true rfl) (Nat.le_of_ble_eq_true rfl) dL_shardsFor_16
noncomputable def fL_type (C M : Mem) (a1 : Int32) : Option (Int32 × Mem × Mem) := bnd (fX7_type C a1) fun q => sw q.1 (fun r => some ((0 : Int32), q.2, mset M 498 0 r)) (fun k => cnd (k = 1) (some ((1 : Int32), q.2, M)) (cnd (k = 2) (some ((2 : Int32), q.2, M)) (none)))
abbrev rm_L_type : Room := { frames := 7, cells := 1, slots := 6, locals := 121 }
theorem pk_L_type : PkW yL_type cL_type 4 (some .int) [(0, 9, 12, 13), (0, 9, 15, 15)] 3 := ⟨TsG_t (List.mem_of_getElem? (i := 391) (by decide +kernel)) (by decide +kernel), TsG_t (List.mem_of_getElem? (i := 390) (by decide +kernel)) (by decide +kernel), in_L, by decide +kernel, by decide +kernel, by decide +kernel⟩
set_option maxRecDepth 100000 in
set_option maxHeartbeats 4000000 in
theorem c_L_type (l : Launch) (hl0 : l.stackTraces = false) (Γ : gx_G) (C M : Mem) (a1 : Int32) {y0 : Int32 × Mem × Mem} (hf : fL_type C M a1 = some y0) : Met l yL_type (.codeWith yL_type cL_type 4 (some .int) [(0, 9, 12, 13), (0, 9, 15, 15)] :: TsG) rm_L_type (va_Pc [.ref (Γ.1 0), .int a1, .ref (Γ.1 498)] (gx_P Γ C M)) (gx_Qi Γ y0.1 y0.2.1 y0.2.2) 1 6 (gA Γ) := by
  refine gl_ofW (by decide) (Nat.le_of_ble_eq_true rfl) ?_
  intro p e s m args below meth c Q S htab hG hret ls H locs hl hW hS
  obtain ⟨hx, hb, hml, hown, hts⟩ := id S
  have hl : lv_has ls 4 [(0, .ref (Γ.1 0)), (1, .int a1), (2, .ref (Γ.1 498))] := hl
  unfold fL_type at hf
  obtain ⟨q, hq, hf⟩ := bnd_e hf
  refine lv_aload_n hx hb dL_type_0 rfl (lv_at hl 2 rfl) ?_
  refine lv_iconst (v := (0 : Int32)) hx hb dL_type_1 (by decide) ?_
  refine lv_aload_n hx hb dL_type_2 rfl (lv_at hl 0 rfl) ?_
  refine lv_iload_n hx hb dL_type_3 rfl (lv_at hl 1 rfl) ?_
  refine gxk_i hS (gvx_run (rest := [.int (0 : Int32), .ref (Γ.1 498)]) S hG hW hS [.int a1] (c_X7_type l hl0 Γ C M a1 hq) pk_X7_type rfl ml_L_7 rfl rfl ⟨Nat.le_of_ble_eq_true rfl, Nat.le_of_ble_eq_true rfl⟩ rfl hl.1 rfl (Nat.le_of_ble_eq_true rfl) dL_type_4 ⟨Nat.le_of_ble_eq_true rfl, Nat.le_of_ble_eq_true rfl⟩) (fun H locs k9 ce9 z9 hW hS e9 hce hcv hcl => ?_) (fun H locs r9 hW hS e9 => ?_)
  · have hf := sw_r e9 hf
    by_cases d0 : k9 = 1
    · have hf := cn_t d0 hf
      have e8 := Option.some.inj hf
      subst e8
      subst d0
      refine gl_catch (k := 1) S hG [] ⟨0, 9, 12, 13⟩ [⟨0, 9, 15, 15⟩] htab (fun z hz => by cases hz) (by decide) (by decide) cl_L_13 (by decide +kernel) hce hcv hcl ?_
      refine lv_astore_n (lv' := [(3, .ref z9), (0, .ref (Γ.1 0)), (1, .int a1), (2, .ref (Γ.1 498))]) hx hb dL_type_12 rfl hl (by decide) rfl (fun ls hl => ?_)
      refine lv_iconst (v := (1 : Int32)) hx hb dL_type_13 (by decide) ?_
      exact hret _ _ _ _ _ _ _ hW hS rfl (Nat.le_of_ble_eq_true rfl) (Nat.le_of_ble_eq_true rfl) dL_type_14
    · have hf := cn_f d0 hf
      by_cases d1 : k9 = 2
      · have hf := cn_t d1 hf
        have e8 := Option.some.inj hf
        subst e8
        subst d1
        refine gl_catch (k := 2) S hG [⟨0, 9, 12, 13⟩] ⟨0, 9, 15, 15⟩ [] htab (fun z hz => (List.mem_cons.mp hz).elim (fun e => e ▸ ⟨by decide, _, cl_L_13, by decide +kernel⟩) (fun hz => nomatch hz)) (by decide) (by decide) cl_L_15 (by decide +kernel) hce hcv hcl ?_
        refine lv_astore_n (lv' := [(3, .ref z9), (0, .ref (Γ.1 0)), (1, .int a1), (2, .ref (Γ.1 498))]) hx hb dL_type_15 rfl hl (by decide) rfl (fun ls hl => ?_)
        refine lv_iconst (v := (2 : Int32)) hx hb dL_type_16 (by decide) ?_
        exact hret _ _ _ _ _ _ _ hW hS rfl (Nat.le_of_ble_eq_true rfl) (Nat.le_of_ble_eq_true rfl) dL_type_17
      · have hf := cn_f d1 hf
        cases hf
  have hf := sw_l e9 hf
  have e8 := Option.some.inj hf
  subst e8
  refine lv_i2l (v := r9.toInt64) hx hb dL_type_7 rfl ?_
  refine ast_out S hG hW hS rfl in_01 dL_type_8 (fun H locs hW hS => ?_)
  refine lv_goto (tgt := 18) hx hb dL_type_9 (by decide) ?_
  refine lv_iconst (v := (0 : Int32)) hx hb dL_type_18 (by decide) ?_
  exact hret _ _ _ _ _ _ _ hW hS rfl (Nat.le_of_ble_eq_true rfl) (Nat.le_of_ble_eq_true rfl) dL_type_19
noncomputable def fL_whyRun (C M : Mem) (a1 : Int32) : Option (Int32 × Mem × Mem) := bnd (fX7_whyRun C a1) fun q => sw q.1 (fun r => some ((0 : Int32), q.2, mset M 498 0 r)) (fun k => cnd (k = 3) (some ((1 : Int32), q.2, M)) (none))
abbrev rm_L_whyRun : Room := { frames := 8, cells := 1, slots := 6, locals := 142 }
theorem pk_L_whyRun : PkW yL_whyRun cL_whyRun 4 (some .int) [(0, 9, 12, 25)] 3 := ⟨TsG_t (List.mem_of_getElem? (i := 762) (by decide +kernel)) (by decide +kernel), TsG_t (List.mem_of_getElem? (i := 761) (by decide +kernel)) (by decide +kernel), in_L, by decide +kernel, by decide +kernel, by decide +kernel⟩
set_option maxRecDepth 100000 in
set_option maxHeartbeats 4000000 in
theorem c_L_whyRun (l : Launch) (hl0 : l.stackTraces = false) (Γ : gx_G) (C M : Mem) (a1 : Int32) {y0 : Int32 × Mem × Mem} (hf : fL_whyRun C M a1 = some y0) : Met l yL_whyRun (.codeWith yL_whyRun cL_whyRun 4 (some .int) [(0, 9, 12, 25)] :: TsG) rm_L_whyRun (va_Pc [.ref (Γ.1 0), .int a1, .ref (Γ.1 498)] (gx_P Γ C M)) (gx_Qi Γ y0.1 y0.2.1 y0.2.2) 1 6 (gA Γ) := by
  refine gl_ofW (by decide) (Nat.le_of_ble_eq_true rfl) ?_
  intro p e s m args below meth c Q S htab hG hret ls H locs hl hW hS
  obtain ⟨hx, hb, hml, hown, hts⟩ := id S
  have hl : lv_has ls 4 [(0, .ref (Γ.1 0)), (1, .int a1), (2, .ref (Γ.1 498))] := hl
  unfold fL_whyRun at hf
  obtain ⟨q, hq, hf⟩ := bnd_e hf
  refine lv_aload_n hx hb dL_whyRun_0 rfl (lv_at hl 2 rfl) ?_
  refine lv_iconst (v := (0 : Int32)) hx hb dL_whyRun_1 (by decide) ?_
  refine lv_aload_n hx hb dL_whyRun_2 rfl (lv_at hl 0 rfl) ?_
  refine lv_iload_n hx hb dL_whyRun_3 rfl (lv_at hl 1 rfl) ?_
  refine gxk_i hS (gvx_run (rest := [.int (0 : Int32), .ref (Γ.1 498)]) S hG hW hS [.int a1] (c_X7_whyRun l hl0 Γ C M a1 hq) pk_X7_whyRun rfl ml_L_61 rfl rfl ⟨Nat.le_of_ble_eq_true rfl, Nat.le_of_ble_eq_true rfl⟩ rfl hl.1 rfl (Nat.le_of_ble_eq_true rfl) dL_whyRun_4 ⟨Nat.le_of_ble_eq_true rfl, Nat.le_of_ble_eq_true rfl⟩) (fun H locs k9 ce9 z9 hW hS e9 hce hcv hcl => ?_) (fun H locs r9 hW hS e9 => ?_)
  · have hf := sw_r e9 hf
    by_cases d0 : k9 = 3
    · have hf := cn_t d0 hf
      have e8 := Option.some.inj hf
      subst e8
      subst d0
      refine gl_catch (k := 3) S hG [] ⟨0, 9, 12, 25⟩ [] htab (fun z hz => by cases hz) (by decide) (by decide) cl_L_25 (by decide +kernel) hce hcv hcl ?_
      refine lv_astore_n (lv' := [(3, .ref z9), (0, .ref (Γ.1 0)), (1, .int a1), (2, .ref (Γ.1 498))]) hx hb dL_whyRun_12 rfl hl (by decide) rfl (fun ls hl => ?_)
      refine lv_iconst (v := (1 : Int32)) hx hb dL_whyRun_13 (by decide) ?_
      exact hret _ _ _ _ _ _ _ hW hS rfl (Nat.le_of_ble_eq_true rfl) (Nat.le_of_ble_eq_true rfl) dL_whyRun_14
    · have hf := cn_f d0 hf
      cases hf
  have hf := sw_l e9 hf
  have e8 := Option.some.inj hf
  subst e8
  refine lv_i2l (v := r9.toInt64) hx hb dL_whyRun_7 rfl ?_
  refine ast_out S hG hW hS rfl in_01 dL_whyRun_8 (fun H locs hW hS => ?_)
  refine lv_goto (tgt := 15) hx hb dL_whyRun_9 (by decide) ?_
  refine lv_iconst (v := (0 : Int32)) hx hb dL_whyRun_15 (by decide) ?_
  exact hret _ _ _ _ _ _ _ hW hS rfl (Nat.le_of_ble_eq_true rfl) (Nat.le_of_ble_eq_true rfl) dL_whyRun_16
