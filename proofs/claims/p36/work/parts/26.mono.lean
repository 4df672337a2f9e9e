noncomputable def fX7_clearText (C : Mem) : Option (Int32 × Mem) := nmv ((fX6_size C 1)) fun v7 => bnd (fX6_empty C 1) fun q12 => some (v7, q12)
abbrev rm_X7_clearText : Room := { frames := 1, cells := 0, slots := 0, locals := 20 }
set_option maxRecDepth 100000 in
set_option maxHeartbeats 4000000 in
theorem c_X7_clearText (l : Launch) (Γ : gx_G) (C M : Mem)  {y0 : (Int32 × Mem)} (hf : fX7_clearText C = some y0) : Met l yX7_clearText (.code yX7_clearText cX7_clearText 2 (some .int) :: TsG) rm_X7_clearText (va_Pc [.ref (Γ.1 0)] (gx_P Γ C M)) (gx_Qi Γ y0.1 y0.2 M) 0 0 (gA Γ) := by
  refine gm_i (by decide) (Nat.le_of_ble_eq_true rfl) ?_
  intro p e s m args below meth c Q S hG hret ls H locs hl hW hS
  obtain ⟨hx, hb, hml, hown, hts⟩ := id S
  have hl : lv_has ls 2 [(0, .ref (Γ.1 0))] := hl
  unfold fX7_clearText at hf
  refine lv_aload_n hx hb dX7_clearText_0 rfl (lv_at hl 0 rfl) ?_
  refine get_X7_0 S hG hW fl_X7_10 dX7_clearText_1 ?_
  refine gk0_i hS (gv_run (rest := []) S hG hW hS [] (c_X6_size l Γ C M shk_1) pk_X6_size ml_X7_77 (sh_lt1 shk_1) (cc_1 shk_1 _ _) rfl rfl rfl ⟨Nat.le_of_ble_eq_true rfl, Nat.le_of_ble_eq_true rfl⟩ rfl hl.1 rfl (Nat.le_of_ble_eq_true rfl) dX7_clearText_4 ⟨Nat.le_of_ble_eq_true rfl, Nat.le_of_ble_eq_true rfl⟩) (fun H locs hW hS => ?_)
  refine lv_topi (fun v7 ev7 => ?_)
  have hf := nm_v ev7 hf
  refine lv_istore_n (lv' := [(1, .int v7), (0, .ref (Γ.1 0))]) hx hb dX7_clearText_7 rfl hl (by decide) rfl (fun ls hl => ?_)
  refine lv_aload_n hx hb dX7_clearText_8 rfl (lv_at hl 1 rfl) ?_
  refine get_X7_0 S hG hW fl_X7_10 dX7_clearText_9 ?_
  obtain ⟨q12, hq12, hf⟩ := bnd_e hf
  refine gk0_v hS (gv_run (rest := []) S hG hW hS [] (c_X6_empty l Γ C M shk_1 hq12) pk_X6_empty ml_X7_81 (sh_lt1 shk_1) (cc_1 shk_1 _ _) rfl rfl rfl ⟨Nat.le_of_ble_eq_true rfl, Nat.le_of_ble_eq_true rfl⟩ rfl hl.1 rfl (Nat.le_of_ble_eq_true rfl) dX7_clearText_12 ⟨Nat.le_of_ble_eq_true rfl, Nat.le_of_ble_eq_true rfl⟩) (fun H locs hW hS => ?_)
  refine lv_iload_n hx hb dX7_clearText_15 rfl (lv_at hl 0 rfl) ?_
  have e9 := Option.some.inj hf
  subst e9
  exact hret _ _ _ _ _ hW hS rfl rfl dX7_clearText_16
noncomputable def fX7_isPath (C : Mem) : Option Int32 := bnd (fX6_hasPathForm C 1) fun q4 => chk (narrow .boolean (.int q4) = .int q4) (some q4)
abbrev rm_X7_isPath : Room := { frames := 3, cells := 0, slots := 0, locals := 63 }
set_option maxRecDepth 100000 in
set_option maxHeartbeats 4000000 in
theorem c_X7_isPath (l : Launch) (Γ : gx_G) (C M : Mem)  {y0 : Int32} (hf : fX7_isPath C = some y0) : Met l yX7_isPath (.code yX7_isPath cX7_isPath 1 (some .boolean) :: TsG) rm_X7_isPath (va_Pc [.ref (Γ.1 0)] (gx_P Γ C M)) (gx_Qi Γ y0 C M) 0 0 (gA Γ) := by
  refine gm_i (by decide) (Nat.le_of_ble_eq_true rfl) ?_
  intro p e s m args below meth c Q S hG hret ls H locs hl hW hS
  obtain ⟨hx, hb, hml, hown, hts⟩ := id S
  have hl : lv_has ls 1 [(0, .ref (Γ.1 0))] := hl
  unfold fX7_isPath at hf
  refine lv_aload_n hx hb dX7_isPath_0 rfl (lv_at hl 0 rfl) ?_
  refine get_X7_0 S hG hW fl_X7_10 dX7_isPath_1 ?_
  obtain ⟨q4, hq4, hf⟩ := bnd_e hf
  refine gk0_i hS (gv_run (rest := []) S hG hW hS [] (c_X6_hasPathForm l Γ C M shk_1 hq4) pk_X6_hasPathForm ml_X7_84 (sh_lt1 shk_1) (cc_1 shk_1 _ _) rfl rfl rfl ⟨Nat.le_of_ble_eq_true rfl, Nat.le_of_ble_eq_true rfl⟩ rfl hl.1 rfl (Nat.le_of_ble_eq_true rfl) dX7_isPath_4 ⟨Nat.le_of_ble_eq_true rfl, Nat.le_of_ble_eq_true rfl⟩) (fun H locs hW hS => ?_)
  have n9 := ck_p hf
  have hf := ck_r hf
  exact hret _ _ _ _ _ hW hS n9 (Option.some.inj hf) dX7_isPath_7
noncomputable def fX7_isGlob (C : Mem) : Option Int32 := bnd (fX6_hasGlobForm C 1) fun q4 => chk (narrow .boolean (.int q4) = .int q4) (some q4)
abbrev rm_X7_isGlob : Room := { frames := 3, cells := 0, slots := 0, locals := 63 }
set_option maxRecDepth 100000 in
set_option maxHeartbeats 4000000 in
theorem c_X7_isGlob (l : Launch) (Γ : gx_G) (C M : Mem)  {y0 : Int32} (hf : fX7_isGlob C = some y0) : Met l yX7_isGlob (.code yX7_isGlob cX7_isGlob 1 (some .boolean) :: TsG) rm_X7_isGlob (va_Pc [.ref (Γ.1 0)] (gx_P Γ C M)) (gx_Qi Γ y0 C M) 0 0 (gA Γ) := by
  refine gm_i (by decide) (Nat.le_of_ble_eq_true rfl) ?_
  intro p e s m args below meth c Q S hG hret ls H locs hl hW hS
  obtain ⟨hx, hb, hml, hown, hts⟩ := id S
  have hl : lv_has ls 1 [(0, .ref (Γ.1 0))] := hl
  unfold fX7_isGlob at hf
  refine lv_aload_n hx hb dX7_isGlob_0 rfl (lv_at hl 0 rfl) ?_
  refine get_X7_0 S hG hW fl_X7_10 dX7_isGlob_1 ?_
  obtain ⟨q4, hq4, hf⟩ := bnd_e hf
  refine gk0_i hS (gv_run (rest := []) S hG hW hS [] (c_X6_hasGlobForm l Γ C M shk_1 hq4) pk_X6_hasGlobForm ml_X7_87 (sh_lt1 shk_1) (cc_1 shk_1 _ _) rfl rfl rfl ⟨Nat.le_of_ble_eq_true rfl, Nat.le_of_ble_eq_true rfl⟩ rfl hl.1 rfl (Nat.le_of_ble_eq_true rfl) dX7_isGlob_4 ⟨Nat.le_of_ble_eq_true rfl, Nat.le_of_ble_eq_true rfl⟩) (fun H locs hW hS => ?_)
  have n9 := ck_p hf
  have hf := ck_r hf
  exact hret _ _ _ _ _ hW hS n9 (Option.some.inj hf) dX7_isGlob_7
noncomputable def fX7_numberNewPath (C : Mem) : Option (Int32 × Mem) := bnd (fX0_addPath C 1) fun q8 => bnd (fX2_meetFile q8.2 q8.1 1) fun q21 => bnd (fX4_meetFile q21 q8.1 1) fun q33 => some (q8.1, q33)
abbrev rm_X7_numberNewPath : Room := { frames := 5, cells := 0, slots := 0, locals := 116 }
set_option maxRecDepth 100000 in
set_option maxHeartbeats 4000000 in
theorem c_X7_numberNewPath (l : Launch) (Γ : gx_G) (C M : Mem)  {y0 : (Int32 × Mem)} (hf : fX7_numberNewPath C = some y0) : Met l yX7_numberNewPath (.code yX7_numberNewPath cX7_numberNewPath 2 (some .int) :: TsG) rm_X7_numberNewPath (va_Pc [.ref (Γ.1 0)] (gx_P Γ C M)) (gx_Qi Γ y0.1 y0.2 M) 0 0 (gA Γ) := by
  refine gm_i (by decide) (Nat.le_of_ble_eq_true rfl) ?_
  intro p e s m args below meth c Q S hG hret ls H locs hl hW hS
  obtain ⟨hx, hb, hml, hown, hts⟩ := id S
  have hl : lv_has ls 2 [(0, .ref (Γ.1 0))] := hl
  unfold fX7_numberNewPath at hf
  refine lv_aload_n hx hb dX7_numberNewPath_0 rfl (lv_at hl 0 rfl) ?_
  refine get_X7_1 S hG hW fl_X7_19 dX7_numberNewPath_1 ?_
  refine lv_aload_n hx hb dX7_numberNewPath_4 rfl (lv_at hl 0 rfl) ?_
  refine get_X7_0 S hG hW fl_X7_10 dX7_numberNewPath_5 ?_
  obtain ⟨q8, hq8, hf⟩ := bnd_e hf
  refine gk0_i hS (gv_run (rest := []) S hG hW hS [.ref (Γ.1 1)] (c_X0_addPath l Γ C M shk_1 hq8) pk_X0_addPath ml_X7_294 (Nat.le_of_ble_eq_true rfl) rfl rfl rfl rfl ⟨Nat.le_of_ble_eq_true rfl, Nat.le_of_ble_eq_true rfl⟩ rfl hl.1 rfl (Nat.le_of_ble_eq_true rfl) dX7_numberNewPath_8 ⟨Nat.le_of_ble_eq_true rfl, Nat.le_of_ble_eq_true rfl⟩) (fun H locs hW hS => ?_)
  refine lv_istore_n (lv' := [(1, .int q8.1), (0, .ref (Γ.1 0))]) hx hb dX7_numberNewPath_11 rfl hl (by decide) rfl (fun ls hl => ?_)
  refine lv_aload_n hx hb dX7_numberNewPath_12 rfl (lv_at hl 1 rfl) ?_
  refine get_X7_2 S hG hW fl_X7_26 dX7_numberNewPath_13 ?_
  refine lv_iload_n hx hb dX7_numberNewPath_16 rfl (lv_at hl 0 rfl) ?_
  refine lv_aload_n hx hb dX7_numberNewPath_17 rfl (lv_at hl 1 rfl) ?_
  refine get_X7_0 S hG hW fl_X7_10 dX7_numberNewPath_18 ?_
  obtain ⟨q21, hq21, hf⟩ := bnd_e hf
  refine gk0_v hS (gv_run (rest := []) S hG hW hS [.int q8.1, .ref (Γ.1 1)] (c_X2_meetFile l Γ q8.2 M q8.1 shk_1 hq21) pk_X2_meetFile ml_X7_297 (Nat.le_of_ble_eq_true rfl) rfl rfl rfl rfl ⟨Nat.le_of_ble_eq_true rfl, Nat.le_of_ble_eq_true rfl⟩ rfl hl.1 rfl (Nat.le_of_ble_eq_true rfl) dX7_numberNewPath_21 ⟨Nat.le_of_ble_eq_true rfl, Nat.le_of_ble_eq_true rfl⟩) (fun H locs hW hS => ?_)
  refine lv_aload_n hx hb dX7_numberNewPath_24 rfl (lv_at hl 1 rfl) ?_
  refine get_X7_5 S hG hW fl_X7_49 dX7_numberNewPath_25 ?_
  refine lv_iload_n hx hb dX7_numberNewPath_28 rfl (lv_at hl 0 rfl) ?_
  refine lv_aload_n hx hb dX7_numberNewPath_29 rfl (lv_at hl 1 rfl) ?_
  refine get_X7_0 S hG hW fl_X7_10 dX7_numberNewPath_30 ?_
  obtain ⟨q33, hq33, hf⟩ := bnd_e hf
  refine gk0_v hS (gv_run (rest := []) S hG hW hS [.int q8.1, .ref (Γ.1 1)] (c_X4_meetFile l Γ q21 M q8.1 shk_1 hq33) pk_X4_meetFile ml_X7_301 (Nat.le_of_ble_eq_true rfl) rfl rfl rfl rfl ⟨Nat.le_of_ble_eq_true rfl, Nat.le_of_ble_eq_true rfl⟩ rfl hl.1 rfl (Nat.le_of_ble_eq_true rfl) dX7_numberNewPath_33 ⟨Nat.le_of_ble_eq_true rfl, Nat.le_of_ble_eq_true rfl⟩) (fun H locs hW hS => ?_)
  refine lv_iload_n hx hb dX7_numberNewPath_36 rfl (lv_at hl 0 rfl) ?_
  have e9 := Option.some.inj hf
  subst e9
  exact hret _ _ _ _ _ hW hS rfl rfl dX7_numberNewPath_37
noncomputable def fX7_findFile (C : Mem) : Option Int32 := bnd (fX0_numberOf C 1) fun q8 => some q8
abbrev rm_X7_findFile : Room := { frames := 2, cells := 0, slots := 0, locals := 44 }
set_option maxRecDepth 100000 in
set_option maxHeartbeats 4000000 in
theorem c_X7_findFile (l : Launch) (Γ : gx_G) (C M : Mem)  {y0 : Int32} (hf : fX7_findFile C = some y0) : Met l yX7_findFile (.code yX7_findFile cX7_findFile 1 (some .int) :: TsG) rm_X7_findFile (va_Pc [.ref (Γ.1 0)] (gx_P Γ C M)) (gx_Qi Γ y0 C M) 0 0 (gA Γ) := by
  refine gm_i (by decide) (Nat.le_of_ble_eq_true rfl) ?_
  intro p e s m args below meth c Q S hG hret ls H locs hl hW hS
  obtain ⟨hx, hb, hml, hown, hts⟩ := id S
  have hl : lv_has ls 1 [(0, .ref (Γ.1 0))] := hl
  unfold fX7_findFile at hf
  refine lv_aload_n hx hb dX7_findFile_0 rfl (lv_at hl 0 rfl) ?_
  refine get_X7_1 S hG hW fl_X7_19 dX7_findFile_1 ?_
  refine lv_aload_n hx hb dX7_findFile_4 rfl (lv_at hl 0 rfl) ?_
  refine get_X7_0 S hG hW fl_X7_10 dX7_findFile_5 ?_
  obtain ⟨q8, hq8, hf⟩ := bnd_e hf
  refine gk0_i hS (gv_run (rest := []) S hG hW hS [.ref (Γ.1 1)] (c_X0_numberOf l Γ C M shk_1 hq8) pk_X0_numberOf ml_X7_96 (Nat.le_of_ble_eq_true rfl) rfl rfl rfl rfl ⟨Nat.le_of_ble_eq_true rfl, Nat.le_of_ble_eq_true rfl⟩ rfl hl.1 rfl (Nat.le_of_ble_eq_true rfl) dX7_findFile_8 ⟨Nat.le_of_ble_eq_true rfl, Nat.le_of_ble_eq_true rfl⟩) (fun H locs hW hS => ?_)
  exact hret _ _ _ _ _ hW hS rfl (Option.some.inj hf) dX7_findFile_11
noncomputable def fX7_files (C : Mem) : Int32 := (fX0_present C)
abbrev rm_X7_files : Room := { frames := 1, cells := 0, slots := 0, locals := 20 }
set_option maxRecDepth 100000 in
set_option maxHeartbeats 4000000 in
theorem c_X7_files (l : Launch) (Γ : gx_G) (C M : Mem)  : Met l yX7_files (.code yX7_files cX7_files 1 (some .int) :: TsG) rm_X7_files (va_Pc [.ref (Γ.1 0)] (gx_P Γ C M)) (gx_Qi Γ (fX7_files C) C M) 0 0 (gA Γ) := by
  refine gm_i (by decide) (Nat.le_of_ble_eq_true rfl) ?_
  intro p e s m args below meth c Q S hG hret ls H locs hl hW hS
  obtain ⟨hx, hb, hml, hown, hts⟩ := id S
  have hl : lv_has ls 1 [(0, .ref (Γ.1 0))] := hl
  generalize hy0 : fX7_files C = y0 at hret
  have hf := hy0
  unfold fX7_files at hf
  refine lv_aload_n hx hb dX7_files_0 rfl (lv_at hl 0 rfl) ?_
  refine get_X7_1 S hG hW fl_X7_19 dX7_files_1 ?_
  refine gk0_i hS (gv_run (rest := []) S hG hW hS [] (c_X0_present l Γ C M) pk_X0_present ml_X7_126 (Nat.le_of_ble_eq_true rfl) rfl rfl rfl rfl ⟨Nat.le_of_ble_eq_true rfl, Nat.le_of_ble_eq_true rfl⟩ rfl hl.1 rfl (Nat.le_of_ble_eq_true rfl) dX7_files_4 ⟨Nat.le_of_ble_eq_true rfl, Nat.le_of_ble_eq_true rfl⟩) (fun H locs hW hS => ?_)
  exact hret _ _ _ _ _ hW hS rfl hf dX7_files_7
noncomputable def fX7_changed (C : Mem) : Option Int32 := bnd (fX0_sinceMark C) fun q4 => some q4
abbrev rm_X7_changed : Room := { frames := 2, cells := 0, slots := 0, locals := 43 }
set_option maxRecDepth 100000 in
set_option maxHeartbeats 4000000 in
theorem c_X7_changed (l : Launch) (Γ : gx_G) (C M : Mem)  {y0 : Int32} (hf : fX7_changed C = some y0) : Met l yX7_changed (.code yX7_changed cX7_changed 1 (some .int) :: TsG) rm_X7_changed (va_Pc [.ref (Γ.1 0)] (gx_P Γ C M)) (gx_Qi Γ y0 C M) 0 0 (gA Γ) := by
  refine gm_i (by decide) (Nat.le_of_ble_eq_true rfl) ?_
  intro p e s m args below meth c Q S hG hret ls H locs hl hW hS
  obtain ⟨hx, hb, hml, hown, hts⟩ := id S
  have hl : lv_has ls 1 [(0, .ref (Γ.1 0))] := hl
  unfold fX7_changed at hf
  refine lv_aload_n hx hb dX7_changed_0 rfl (lv_at hl 0 rfl) ?_
  refine get_X7_1 S hG hW fl_X7_19 dX7_changed_1 ?_
  obtain ⟨q4, hq4, hf⟩ := bnd_e hf
  refine gk0_i hS (gv_run (rest := []) S hG hW hS [] (c_X0_sinceMark l Γ C M hq4) pk_X0_sinceMark ml_X7_274 (Nat.le_of_ble_eq_true rfl) rfl rfl rfl rfl ⟨Nat.le_of_ble_eq_true rfl, Nat.le_of_ble_eq_true rfl⟩ rfl hl.1 rfl (Nat.le_of_ble_eq_true rfl) dX7_changed_4 ⟨Nat.le_of_ble_eq_true rfl, Nat.le_of_ble_eq_true rfl⟩) (fun H locs hW hS => ?_)
  exact hret _ _ _ _ _ hW hS rfl (Option.some.inj hf) dX7_changed_7
noncomputable def fX7_needed (C : Mem) : Option (Int32 × Mem) := bnd (fX3_lookUpAll C) fun q4 => bnd (fX3_withoutKey q4) fun q11 => some (q11, q4)
abbrev rm_X7_needed : Room := { frames := 5, cells := 0, slots := 0, locals := 109 }
set_option maxRecDepth 100000 in
set_option maxHeartbeats 4000000 in
theorem c_X7_needed (l : Launch) (Γ : gx_G) (C M : Mem)  {y0 : (Int32 × Mem)} (hf : fX7_needed C = some y0) : Met l yX7_needed (.code yX7_needed cX7_needed 1 (some .int) :: TsG) rm_X7_needed (va_Pc [.ref (Γ.1 0)] (gx_P Γ C M)) (gx_Qi Γ y0.1 y0.2 M) 0 0 (gA Γ) := by
  refine gm_i (by decide) (Nat.le_of_ble_eq_true rfl) ?_
  intro p e s m args below meth c Q S hG hret ls H locs hl hW hS
  obtain ⟨hx, hb, hml, hown, hts⟩ := id S
  have hl : lv_has ls 1 [(0, .ref (Γ.1 0))] := hl
  unfold fX7_needed at hf
  refine lv_aload_n hx hb dX7_needed_0 rfl (lv_at hl 0 rfl) ?_
  refine get_X7_3 S hG hW fl_X7_35 dX7_needed_1 ?_
  obtain ⟨q4, hq4, hf⟩ := bnd_e hf
  refine gk0_v hS (gv_run (rest := []) S hG hW hS [] (c_X3_lookUpAll l Γ C M hq4) pk_X3_lookUpAll ml_X7_214 (Nat.le_of_ble_eq_true rfl) rfl rfl rfl rfl ⟨Nat.le_of_ble_eq_true rfl, Nat.le_of_ble_eq_true rfl⟩ rfl hl.1 rfl (Nat.le_of_ble_eq_true rfl) dX7_needed_4 ⟨Nat.le_of_ble_eq_true rfl, Nat.le_of_ble_eq_true rfl⟩) (fun H locs hW hS => ?_)
  refine lv_aload_n hx hb dX7_needed_7 rfl (lv_at hl 0 rfl) ?_
  refine get_X7_3 S hG hW fl_X7_35 dX7_needed_8 ?_
  obtain ⟨q11, hq11, hf⟩ := bnd_e hf
  refine gk0_i hS (gv_run (rest := []) S hG hW hS [] (c_X3_withoutKey l Γ q4 M hq11) pk_X3_withoutKey ml_X7_220 (Nat.le_of_ble_eq_true rfl) rfl rfl rfl rfl ⟨Nat.le_of_ble_eq_true rfl, Nat.le_of_ble_eq_true rfl⟩ rfl hl.1 rfl (Nat.le_of_ble_eq_true rfl) dX7_needed_11 ⟨Nat.le_of_ble_eq_true rfl, Nat.le_of_ble_eq_true rfl⟩) (fun H locs hW hS => ?_)
  have e9 := Option.some.inj hf
  subst e9
  exact hret _ _ _ _ _ hW hS rfl rfl dX7_needed_14
noncomputable def fX7_keys (C : Mem) : Int32 := (fX3_given C)
abbrev rm_X7_keys : Room := { frames := 1, cells := 0, slots := 0, locals := 20 }
set_option maxRecDepth 100000 in
set_option maxHeartbeats 4000000 in
theorem c_X7_keys (l : Launch) (Γ : gx_G) (C M : Mem)  : Met l yX7_keys (.code yX7_keys cX7_keys 1 (some .int) :: TsG) rm_X7_keys (va_Pc [.ref (Γ.1 0)] (gx_P Γ C M)) (gx_Qi Γ (fX7_keys C) C M) 0 0 (gA Γ) := by
  refine gm_i (by decide) (Nat.le_of_ble_eq_true rfl) ?_
  intro p e s m args below meth c Q S hG hret ls H locs hl hW hS
  obtain ⟨hx, hb, hml, hown, hts⟩ := id S
  have hl : lv_has ls 1 [(0, .ref (Γ.1 0))] := hl
  generalize hy0 : fX7_keys C = y0 at hret
  have hf := hy0
  unfold fX7_keys at hf
  refine lv_aload_n hx hb dX7_keys_0 rfl (lv_at hl 0 rfl) ?_
  refine get_X7_3 S hG hW fl_X7_35 dX7_keys_1 ?_
  refine gk0_i hS (gv_run (rest := []) S hG hW hS [] (c_X3_given l Γ C M) pk_X3_given ml_X7_231 (Nat.le_of_ble_eq_true rfl) rfl rfl rfl rfl ⟨Nat.le_of_ble_eq_true rfl, Nat.le_of_ble_eq_true rfl⟩ rfl hl.1 rfl (Nat.le_of_ble_eq_true rfl) dX7_keys_4 ⟨Nat.le_of_ble_eq_true rfl, Nat.le_of_ble_eq_true rfl⟩) (fun H locs hW hS => ?_)
  exact hret _ _ _ _ _ hW hS rfl hf dX7_keys_7
noncomputable def fX7_targets (C : Mem) : Int32 := (fX2_size C)
abbrev rm_X7_targets : Room := { frames := 1, cells := 0, slots := 0, locals := 20 }
set_option maxRecDepth 100000 in
set_option maxHeartbeats 4000000 in
theorem c_X7_targets (l : Launch) (Γ : gx_G) (C M : Mem)  : Met l yX7_targets (.code yX7_targets cX7_targets 1 (some .int) :: TsG) rm_X7_targets (va_Pc [.ref (Γ.1 0)] (gx_P Γ C M)) (gx_Qi Γ (fX7_targets C) C M) 0 0 (gA Γ) := by
  refine gm_i (by decide) (Nat.le_of_ble_eq_true rfl) ?_
  intro p e s m args below meth c Q S hG hret ls H locs hl hW hS
  obtain ⟨hx, hb, hml, hown, hts⟩ := id S
  have hl : lv_has ls 1 [(0, .ref (Γ.1 0))] := hl
  generalize hy0 : fX7_targets C = y0 at hret
  have hf := hy0
  unfold fX7_targets at hf
  refine lv_aload_n hx hb dX7_targets_0 rfl (lv_at hl 0 rfl) ?_
  refine get_X7_2 S hG hW fl_X7_26 dX7_targets_1 ?_
  refine gk0_i hS (gv_run (rest := []) S hG hW hS [] (c_X2_size l Γ C M) pk_X2_size ml_X7_196 (Nat.le_of_ble_eq_true rfl) rfl rfl rfl rfl ⟨Nat.le_of_ble_eq_true rfl, Nat.le_of_ble_eq_true rfl⟩ rfl hl.1 rfl (Nat.le_of_ble_eq_true rfl) dX7_targets_4 ⟨Nat.le_of_ble_eq_true rfl, Nat.le_of_ble_eq_true rfl⟩) (fun H locs hW hS => ?_)
  exact hret _ _ _ _ _ hW hS rfl hf dX7_targets_7
noncomputable def fX7_reviewers (C : Mem) : Option Int32 := bnd (fX0_sinceMark C) fun q8 => bnd (fX4_ownersOfAll C q8) fun q11 => some q11
abbrev rm_X7_reviewers : Room := { frames := 4, cells := 0, slots := 0, locals := 89 }
set_option maxRecDepth 100000 in
set_option maxHeartbeats 4000000 in
theorem c_X7_reviewers (l : Launch) (Γ : gx_G) (C M : Mem)  {y0 : Int32} (hf : fX7_reviewers C = some y0) : Met l yX7_reviewers (.code yX7_reviewers cX7_reviewers 1 (some .int) :: TsG) rm_X7_reviewers (va_Pc [.ref (Γ.1 0)] (gx_P Γ C M)) (gx_Qi Γ y0 C M) 0 0 (gA Γ) := by
  refine gm_i (by decide) (Nat.le_of_ble_eq_true rfl) ?_
  intro p e s m args below meth c Q S hG hret ls H locs hl hW hS
  obtain ⟨hx, hb, hml, hown, hts⟩ := id S
  have hl : lv_has ls 1 [(0, .ref (Γ.1 0))] := hl
  unfold fX7_reviewers at hf
  refine lv_aload_n hx hb dX7_reviewers_0 rfl (lv_at hl 0 rfl) ?_
  refine get_X7_5 S hG hW fl_X7_49 dX7_reviewers_1 ?_
  refine lv_aload_n hx hb dX7_reviewers_4 rfl (lv_at hl 0 rfl) ?_
  refine get_X7_1 S hG hW fl_X7_19 dX7_reviewers_5 ?_
  obtain ⟨q8, hq8, hf⟩ := bnd_e hf
  refine gk0_i hS (gv_run (rest := [.ref (Γ.1 446)]) S hG hW hS [] (c_X0_sinceMark l Γ C M hq8) pk_X0_sinceMark ml_X7_274 (Nat.le_of_ble_eq_true rfl) rfl rfl rfl rfl ⟨Nat.le_of_ble_eq_true rfl, Nat.le_of_ble_eq_true rfl⟩ rfl hl.1 rfl (Nat.le_of_ble_eq_true rfl) dX7_reviewers_8 ⟨Nat.le_of_ble_eq_true rfl, Nat.le_of_ble_eq_true rfl⟩) (fun H locs hW hS => ?_)
  obtain ⟨q11, hq11, hf⟩ := bnd_e hf
  refine gk0_i hS (gv_run (rest := []) S hG hW hS [.int q8] (c_X4_ownersOfAll l Γ C M q8 hq11) pk_X4_ownersOfAll ml_X7_277 (Nat.le_of_ble_eq_true rfl) rfl rfl rfl rfl ⟨Nat.le_of_ble_eq_true rfl, Nat.le_of_ble_eq_true rfl⟩ rfl hl.1 rfl (Nat.le_of_ble_eq_true rfl) dX7_reviewers_11 ⟨Nat.le_of_ble_eq_true rfl, Nat.le_of_ble_eq_true rfl⟩) (fun H locs hW hS => ?_)
  exact hret _ _ _ _ _ hW hS rfl (Option.some.inj hf) dX7_reviewers_14
noncomputable def fX7_mark (C : Mem) : Option (Int32 × Mem) := bnd (fX0_keepMark C) fun q4 => some ((fJ6_bitCount_0f7a4 (fX0_present q4)), q4)
abbrev rm_X7_mark : Room := { frames := 2, cells := 0, slots := 0, locals := 68 }
set_option maxRecDepth 100000 in
set_option maxHeartbeats 4000000 in
theorem c_X7_mark (l : Launch) (Γ : gx_G) (C M : Mem)  {y0 : (Int32 × Mem)} (hf : fX7_mark C = some y0) : Met l yX7_mark (.code yX7_mark cX7_mark 1 (some .int) :: TsG) rm_X7_mark (va_Pc [.ref (Γ.1 0)] (gx_P Γ C M)) (gx_Qi Γ y0.1 y0.2 M) 0 0 (gA Γ) := by
  refine gm_i (by decide) (Nat.le_of_ble_eq_true rfl) ?_
  intro p e s m args below meth c Q S hG hret ls H locs hl hW hS
  obtain ⟨hx, hb, hml, hown, hts⟩ := id S
  have hl : lv_has ls 1 [(0, .ref (Γ.1 0))] := hl
  unfold fX7_mark at hf
  refine lv_aload_n hx hb dX7_mark_0 rfl (lv_at hl 0 rfl) ?_
  refine get_X7_1 S hG hW fl_X7_19 dX7_mark_1 ?_
  obtain ⟨q4, hq4, hf⟩ := bnd_e hf
  refine gk0_v hS (gv_run (rest := []) S hG hW hS [] (c_X0_keepMark l Γ C M hq4) pk_X0_keepMark ml_X7_271 (Nat.le_of_ble_eq_true rfl) rfl rfl rfl rfl ⟨Nat.le_of_ble_eq_true rfl, Nat.le_of_ble_eq_true rfl⟩ rfl hl.1 rfl (Nat.le_of_ble_eq_true rfl) dX7_mark_4 ⟨Nat.le_of_ble_eq_true rfl, Nat.le_of_ble_eq_true rfl⟩) (fun H locs hW hS => ?_)
  refine lv_aload_n hx hb dX7_mark_7 rfl (lv_at hl 0 rfl) ?_
  refine get_X7_1 S hG hW fl_X7_19 dX7_mark_8 ?_
  refine gk0_i hS (gv_run (rest := []) S hG hW hS [] (c_X0_present l Γ q4 M) pk_X0_present ml_X7_126 (Nat.le_of_ble_eq_true rfl) rfl rfl rfl rfl ⟨Nat.le_of_ble_eq_true rfl, Nat.le_of_ble_eq_true rfl⟩ rfl hl.1 rfl (Nat.le_of_ble_eq_true rfl) dX7_mark_11 ⟨Nat.le_of_ble_eq_true rfl, Nat.le_of_ble_eq_true rfl⟩) (fun H locs hW hS => ?_)
  refine gk0_i hS (gs_run (rest := []) S hG hW hS [.int (fX0_present q4)] (c_J6_bitCount_0f7a4 l Γ q4 M (fX0_present q4)) pk_J6_bitCount_0f7a4 ml_X7_174 rfl rfl ⟨Nat.le_of_ble_eq_true rfl, Nat.le_of_ble_eq_true rfl⟩ rfl hl.1 rfl (Nat.le_of_ble_eq_true rfl) dX7_mark_14 ⟨Nat.le_of_ble_eq_true rfl, Nat.le_of_ble_eq_true rfl⟩) (fun H locs hW hS => ?_)
  have e9 := Option.some.inj hf
  subst e9
  exact hret _ _ _ _ _ hW hS rfl rfl dX7_mark_17
