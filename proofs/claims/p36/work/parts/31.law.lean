noncomputable def fL_add_16 (C_16 : Mem) : Option (Int32 × Mem) := some ((1 : Int32), C_16)
noncomputable def fL_add (C : Mem) (a2 : Int32) : Option (Int32 × Mem) := cnd (a2 = (46 : Int32)) (fL_add_16 C) (bnd (fL_act C (0 : Int32) a2 (0 : Int32)) fun q10 => cnd (q10.1 ≤ (0 : Int32)) (some ((0 : Int32), q10.2)) (fL_add_16 q10.2))
abbrev rm_L_add : Room := { frames := 9, cells := 3, slots := 18, locals := 183 }
set_option maxRecDepth 100000 in
set_option maxHeartbeats 40000000 in
theorem c_L_add (l : Launch) (hl0 : l.stackTraces = false) (Γ : gx_G) (C M : Mem) (a2 : Int32) {y0 : Int32 × Mem} (hf : fL_add C a2 = some y0) : Met l yL_add (.code yL_add cL_add 2 (some .boolean) :: TsG) rm_L_add (va_Pc [.ref (Γ.1 0), .int a2] (gx_P Γ C M)) (gx_Qi Γ y0.1 y0.2 M) 3 18 (gA Γ) := by
  refine gl_of (by decide) (Nat.le_of_ble_eq_true rfl) ?_
  intro p e s m args below meth c Q S hG hret ls H locs hl hW hS
  obtain ⟨hx, hb, hml, hown, hts⟩ := id S
  have hl : lv_has ls 2 [(0, .ref (Γ.1 0)), (1, .int a2)] := hl
  unfold fL_add at hf
  refine lv_iload_n hx hb dL_add_0 rfl (lv_at hl 1 rfl) ?_
  refine lv_bipush (v := (46 : Int32)) hx hb dL_add_1 (by decide) ?_
  have J_16 : ∀ (C_16 : Mem) , fL_add_16 C_16 = some y0 → ∀ (cs ss : Nat), cs ≤ 3 → ss ≤ 18 → ∀ (H : Heap) (locs : List Loc) (ls : Array Slot), gx_W Γ C_16 M H → va_S (gA Γ) s.heap H locs → lv_has ls 2 [] → W p l e rm_L_add s m args below meth c H locs cs ss Q (F0 m 16 ls []) := by
    intro C_16 hf cs ss hcs hss H locs ls hW hS hl
    unfold fL_add_16 at hf
    refine lv_iconst (v := (1 : Int32)) hx hb dL_add_16 (by decide) ?_
    refine lv_goto (tgt := 21) hx hb dL_add_17 (by decide) ?_
    have e9 := Option.some.inj hf
    subst e9
    exact hret _ _ _ _ _ _ _ hW hS rfl rfl (by show cs ≤ 3; omega) (by show ss ≤ 18; omega) dL_add_21
  refine lv_icmp_eq (tgt := 16) hx hb dL_add_3 (by decide) (fun c3 => ?_) (fun c3 => ?_)
  · have hf := cn_t c3 hf
    exact J_16 C hf 0 0 (by omega) (by omega) H locs ls hW hS (lv_sub hl [] rfl)
  · have hf := cn_f c3 hf
    refine lv_aload_n hx hb dL_add_6 rfl (lv_at hl 0 rfl) ?_
    refine lv_iconst (v := (0 : Int32)) hx hb dL_add_7 (by decide) ?_
    refine lv_iload_n hx hb dL_add_8 rfl (lv_at hl 1 rfl) ?_
    refine lv_iconst (v := (0 : Int32)) hx hb dL_add_9 (by decide) ?_
    obtain ⟨q10, hq10, hf⟩ := bnd_e hf
    refine gk_i hS (gsw_run (rest := []) S hG hW hS [.ref (Γ.1 0), .int (0 : Int32), .int a2, .int (0 : Int32)] (c_L_act l hl0 Γ C M (0 : Int32) a2 (0 : Int32) hq10) pk_L_act ml_L_86 rfl rfl ⟨Nat.le_of_ble_eq_true rfl, Nat.le_of_ble_eq_true rfl⟩ rfl hl.1 rfl (Nat.le_of_ble_eq_true rfl) dL_add_10 ⟨by show 0 + 3 ≤ 3; omega, by show 0 + 18 ≤ 18; omega⟩) (fun H locs hW hS => ?_)
    refine lv_if_le (tgt := 20) hx hb dL_add_13 (by decide) (fun c13 => ?_) (fun c13 => ?_)
    · have hf := cn_t c13 hf
      refine lv_iconst (v := (0 : Int32)) hx hb dL_add_20 (by decide) ?_
      have e9 := Option.some.inj hf
      subst e9
      exact hret _ _ _ _ _ _ _ hW hS rfl rfl (by show (0 + 3) ≤ 3; omega) (by show (0 + 18) ≤ 18; omega) dL_add_21
    · have hf := cn_f c13 hf
      exact J_16 q10.2 hf (0 + 3) (0 + 18) (by omega) (by omega) H locs ls hW hS (lv_sub hl [] rfl)
noncomputable def fL_text_78 (C_78 : Mem) : Option (Int32 × Mem) := some ((0 : Int32), C_78)
noncomputable def fL_text (C : Mem) (a2 : Int32) (a3 : Int32) (a4 : Int32) (a5 : Int32) (a6 : Int32) (a7 : Int32) (a8 : Int32) (a9 : Int32) : Option (Int32 × Mem) := bnd (fX7_clearText C) fun q1 => bnd (fL_add q1.2 a2) fun q7 => cnd (q7.1 = (0 : Int32)) (fL_text_78 q7.2) (bnd (fL_add q7.2 a3) fun q15 => cnd (q15.1 = (0 : Int32)) (fL_text_78 q15.2) (bnd (fL_add q15.2 a4) fun q23 => cnd (q23.1 = (0 : Int32)) (fL_text_78 q23.2) (bnd (fL_add q23.2 a5) fun q32 => cnd (q32.1 = (0 : Int32)) (fL_text_78 q32.2) (bnd (fL_add q32.2 a6) fun q41 => cnd (q41.1 = (0 : Int32)) (fL_text_78 q41.2) (bnd (fL_add q41.2 a7) fun q50 => cnd (q50.1 = (0 : Int32)) (fL_text_78 q50.2) (bnd (fL_add q50.2 a8) fun q59 => cnd (q59.1 = (0 : Int32)) (fL_text_78 q59.2) (bnd (fL_add q59.2 a9) fun q68 => cnd (q68.1 = (0 : Int32)) (fL_text_78 q68.2) (some ((1 : Int32), q68.2)))))))))
abbrev rm_L_text : Room := { frames := 10, cells := 24, slots := 144, locals := 204 }
set_option maxRecDepth 100000 in
set_option maxHeartbeats 40000000 in
theorem c_L_text (l : Launch) (hl0 : l.stackTraces = false) (Γ : gx_G) (C M : Mem) (a2 : Int32) (a3 : Int32) (a4 : Int32) (a5 : Int32) (a6 : Int32) (a7 : Int32) (a8 : Int32) (a9 : Int32) {y0 : Int32 × Mem} (hf : fL_text C a2 a3 a4 a5 a6 a7 a8 a9 = some y0) : Met l yL_text (.code yL_text cL_text 9 (some .boolean) :: TsG) rm_L_text (va_Pc [.ref (Γ.1 0), .int a2, .int a3, .int a4, .int a5, .int a6, .int a7, .int a8, .int a9] (gx_P Γ C M)) (gx_Qi Γ y0.1 y0.2 M) 24 144 (gA Γ) := by
  refine gl_of (by decide) (Nat.le_of_ble_eq_true rfl) ?_
  intro p e s m args below meth c Q S hG hret ls H locs hl hW hS
  obtain ⟨hx, hb, hml, hown, hts⟩ := id S
  have hl : lv_has ls 9 [(0, .ref (Γ.1 0)), (1, .int a2), (2, .int a3), (3, .int a4), (4, .int a5), (5, .int a6), (6, .int a7), (7, .int a8), (8, .int a9)] := hl
  unfold fL_text at hf
  refine lv_aload_n hx hb dL_text_0 rfl (lv_at hl 0 rfl) ?_
  obtain ⟨q1, hq1, hf⟩ := bnd_e hf
  refine gk0_i hS (gv_run (rest := []) S hG hW hS [] (c_X7_clearText l Γ C M hq1) pk_X7_clearText ml_L_92 (Nat.le_of_ble_eq_true rfl) rfl rfl rfl rfl ⟨Nat.le_of_ble_eq_true rfl, Nat.le_of_ble_eq_true rfl⟩ rfl hl.1 rfl (Nat.le_of_ble_eq_true rfl) dL_text_1 ⟨by show 0 + 0 ≤ 24; omega, by show 0 + 0 ≤ 144; omega⟩) (fun H locs hW hS => ?_)
  refine lv_pop hx hb dL_text_4 rfl ?_
  refine lv_aload_n hx hb dL_text_5 rfl (lv_at hl 0 rfl) ?_
  refine lv_iload_n hx hb dL_text_6 rfl (lv_at hl 1 rfl) ?_
  obtain ⟨q7, hq7, hf⟩ := bnd_e hf
  refine gk_i hS (gs_run (rest := []) S hG hW hS [.ref (Γ.1 0), .int a2] (c_L_add l hl0 Γ q1.2 M a2 hq7) pk_L_add ml_L_95 rfl rfl ⟨Nat.le_of_ble_eq_true rfl, Nat.le_of_ble_eq_true rfl⟩ rfl hl.1 rfl (Nat.le_of_ble_eq_true rfl) dL_text_7 ⟨by show 0 + 3 ≤ 24; omega, by show 0 + 18 ≤ 144; omega⟩) (fun H locs hW hS => ?_)
  have J_78 : ∀ (C_78 : Mem) , fL_text_78 C_78 = some y0 → ∀ (cs ss : Nat), cs ≤ 24 → ss ≤ 144 → ∀ (H : Heap) (locs : List Loc) (ls : Array Slot), gx_W Γ C_78 M H → va_S (gA Γ) s.heap H locs → lv_has ls 9 [] → W p l e rm_L_text s m args below meth c H locs cs ss Q (F0 m 78 ls []) := by
    intro C_78 hf cs ss hcs hss H locs ls hW hS hl
    unfold fL_text_78 at hf
    refine lv_iconst (v := (0 : Int32)) hx hb dL_text_78 (by decide) ?_
    have e9 := Option.some.inj hf
    subst e9
    exact hret _ _ _ _ _ _ _ hW hS rfl rfl (by show cs ≤ 24; omega) (by show ss ≤ 144; omega) dL_text_79
  refine lv_if_eq (tgt := 78) hx hb dL_text_10 (by decide) (fun c10 => ?_) (fun c10 => ?_)
  · have hf := cn_t c10 hf
    exact J_78 q7.2 hf (0 + 3) (0 + 18) (by omega) (by omega) H locs ls hW hS (lv_sub hl [] rfl)
  · have hf := cn_f c10 hf
    refine lv_aload_n hx hb dL_text_13 rfl (lv_at hl 0 rfl) ?_
    refine lv_iload_n hx hb dL_text_14 rfl (lv_at hl 2 rfl) ?_
    obtain ⟨q15, hq15, hf⟩ := bnd_e hf
    refine gk_i hS (gs_run (rest := []) S hG hW hS [.ref (Γ.1 0), .int a3] (c_L_add l hl0 Γ q7.2 M a3 hq15) pk_L_add ml_L_95 rfl rfl ⟨Nat.le_of_ble_eq_true rfl, Nat.le_of_ble_eq_true rfl⟩ rfl hl.1 rfl (Nat.le_of_ble_eq_true rfl) dL_text_15 ⟨by show (0 + 3) + 3 ≤ 24; omega, by show (0 + 18) + 18 ≤ 144; omega⟩) (fun H locs hW hS => ?_)
    refine lv_if_eq (tgt := 78) hx hb dL_text_18 (by decide) (fun c18 => ?_) (fun c18 => ?_)
    · have hf := cn_t c18 hf
      exact J_78 q15.2 hf (0 + 6) (0 + 36) (by omega) (by omega) H locs ls hW hS (lv_sub hl [] rfl)
    · have hf := cn_f c18 hf
      refine lv_aload_n hx hb dL_text_21 rfl (lv_at hl 0 rfl) ?_
      refine lv_iload_n hx hb dL_text_22 rfl (lv_at hl 3 rfl) ?_
      obtain ⟨q23, hq23, hf⟩ := bnd_e hf
      refine gk_i hS (gs_run (rest := []) S hG hW hS [.ref (Γ.1 0), .int a4] (c_L_add l hl0 Γ q15.2 M a4 hq23) pk_L_add ml_L_95 rfl rfl ⟨Nat.le_of_ble_eq_true rfl, Nat.le_of_ble_eq_true rfl⟩ rfl hl.1 rfl (Nat.le_of_ble_eq_true rfl) dL_text_23 ⟨by show (0 + 6) + 3 ≤ 24; omega, by show (0 + 36) + 18 ≤ 144; omega⟩) (fun H locs hW hS => ?_)
      refine lv_if_eq (tgt := 78) hx hb dL_text_26 (by decide) (fun c26 => ?_) (fun c26 => ?_)
      · have hf := cn_t c26 hf
        exact J_78 q23.2 hf (0 + 9) (0 + 54) (by omega) (by omega) H locs ls hW hS (lv_sub hl [] rfl)
      · have hf := cn_f c26 hf
        refine lv_aload_n hx hb dL_text_29 rfl (lv_at hl 0 rfl) ?_
        refine lv_iload hx hb dL_text_30 (lv_at hl 4 rfl) ?_
        obtain ⟨q32, hq32, hf⟩ := bnd_e hf
        refine gk_i hS (gs_run (rest := []) S hG hW hS [.ref (Γ.1 0), .int a5] (c_L_add l hl0 Γ q23.2 M a5 hq32) pk_L_add ml_L_95 rfl rfl ⟨Nat.le_of_ble_eq_true rfl, Nat.le_of_ble_eq_true rfl⟩ rfl hl.1 rfl (Nat.le_of_ble_eq_true rfl) dL_text_32 ⟨by show (0 + 9) + 3 ≤ 24; omega, by show (0 + 54) + 18 ≤ 144; omega⟩) (fun H locs hW hS => ?_)
        refine lv_if_eq (tgt := 78) hx hb dL_text_35 (by decide) (fun c35 => ?_) (fun c35 => ?_)
        · have hf := cn_t c35 hf
          exact J_78 q32.2 hf (0 + 12) (0 + 72) (by omega) (by omega) H locs ls hW hS (lv_sub hl [] rfl)
        · have hf := cn_f c35 hf
          refine lv_aload_n hx hb dL_text_38 rfl (lv_at hl 0 rfl) ?_
          refine lv_iload hx hb dL_text_39 (lv_at hl 5 rfl) ?_
          obtain ⟨q41, hq41, hf⟩ := bnd_e hf
          refine gk_i hS (gs_run (rest := []) S hG hW hS [.ref (Γ.1 0), .int a6] (c_L_add l hl0 Γ q32.2 M a6 hq41) pk_L_add ml_L_95 rfl rfl ⟨Nat.le_of_ble_eq_true rfl, Nat.le_of_ble_eq_true rfl⟩ rfl hl.1 rfl (Nat.le_of_ble_eq_true rfl) dL_text_41 ⟨by show (0 + 12) + 3 ≤ 24; omega, by show (0 + 72) + 18 ≤ 144; omega⟩) (fun H locs hW hS => ?_)
          refine lv_if_eq (tgt := 78) hx hb dL_text_44 (by decide) (fun c44 => ?_) (fun c44 => ?_)
          · have hf := cn_t c44 hf
            exact J_78 q41.2 hf (0 + 15) (0 + 90) (by omega) (by omega) H locs ls hW hS (lv_sub hl [] rfl)
          · have hf := cn_f c44 hf
            refine lv_aload_n hx hb dL_text_47 rfl (lv_at hl 0 rfl) ?_
            refine lv_iload hx hb dL_text_48 (lv_at hl 6 rfl) ?_
            obtain ⟨q50, hq50, hf⟩ := bnd_e hf
            refine gk_i hS (gs_run (rest := []) S hG hW hS [.ref (Γ.1 0), .int a7] (c_L_add l hl0 Γ q41.2 M a7 hq50) pk_L_add ml_L_95 rfl rfl ⟨Nat.le_of_ble_eq_true rfl, Nat.le_of_ble_eq_true rfl⟩ rfl hl.1 rfl (Nat.le_of_ble_eq_true rfl) dL_text_50 ⟨by show (0 + 15) + 3 ≤ 24; omega, by show (0 + 90) + 18 ≤ 144; omega⟩) (fun H locs hW hS => ?_)
            refine lv_if_eq (tgt := 78) hx hb dL_text_53 (by decide) (fun c53 => ?_) (fun c53 => ?_)
            · have hf := cn_t c53 hf
              exact J_78 q50.2 hf (0 + 18) (0 + 108) (by omega) (by omega) H locs ls hW hS (lv_sub hl [] rfl)
            · have hf := cn_f c53 hf
              refine lv_aload_n hx hb dL_text_56 rfl (lv_at hl 0 rfl) ?_
              refine lv_iload hx hb dL_text_57 (lv_at hl 7 rfl) ?_
              obtain ⟨q59, hq59, hf⟩ := bnd_e hf
              refine gk_i hS (gs_run (rest := []) S hG hW hS [.ref (Γ.1 0), .int a8] (c_L_add l hl0 Γ q50.2 M a8 hq59) pk_L_add ml_L_95 rfl rfl ⟨Nat.le_of_ble_eq_true rfl, Nat.le_of_ble_eq_true rfl⟩ rfl hl.1 rfl (Nat.le_of_ble_eq_true rfl) dL_text_59 ⟨by show (0 + 18) + 3 ≤ 24; omega, by show (0 + 108) + 18 ≤ 144; omega⟩) (fun H locs hW hS => ?_)
              refine lv_if_eq (tgt := 78) hx hb dL_text_62 (by decide) (fun c62 => ?_) (fun c62 => ?_)
              · have hf := cn_t c62 hf
                exact J_78 q59.2 hf (0 + 21) (0 + 126) (by omega) (by omega) H locs ls hW hS (lv_sub hl [] rfl)
              · have hf := cn_f c62 hf
                refine lv_aload_n hx hb dL_text_65 rfl (lv_at hl 0 rfl) ?_
                refine lv_iload hx hb dL_text_66 (lv_at hl 8 rfl) ?_
                obtain ⟨q68, hq68, hf⟩ := bnd_e hf
                refine gk_i hS (gs_run (rest := []) S hG hW hS [.ref (Γ.1 0), .int a9] (c_L_add l hl0 Γ q59.2 M a9 hq68) pk_L_add ml_L_95 rfl rfl ⟨Nat.le_of_ble_eq_true rfl, Nat.le_of_ble_eq_true rfl⟩ rfl hl.1 rfl (Nat.le_of_ble_eq_true rfl) dL_text_68 ⟨by show (0 + 21) + 3 ≤ 24; omega, by show (0 + 126) + 18 ≤ 144; omega⟩) (fun H locs hW hS => ?_)
                refine lv_if_eq (tgt := 78) hx hb dL_text_71 (by decide) (fun c71 => ?_) (fun c71 => ?_)
                · have hf := cn_t c71 hf
                  exact J_78 q68.2 hf (0 + 24) (0 + 144) (by omega) (by omega) H locs ls hW hS (lv_sub hl [] rfl)
                · have hf := cn_f c71 hf
                  refine lv_iconst (v := (1 : Int32)) hx hb dL_text_74 (by decide) ?_
                  refine lv_goto (tgt := 79) hx hb dL_text_75 (by decide) ?_
                  have e9 := Option.some.inj hf
                  subst e9
                  exact hret _ _ _ _ _ _ _ hW hS rfl rfl (by show (0 + 24) ≤ 24; omega) (by show (0 + 144) ≤ 144; omega) dL_text_79
noncomputable def fL_kind_24 (C : Mem) (s0_24 : Int32) (s1_24 : Int32) : Option Int32 := some (s1_24 + s0_24)
noncomputable def fL_kind_12 (C : Mem) (s0_12 : Int32) : Option Int32 := bnd (fX7_isGlob C) fun q13 => cnd (q13 = (0 : Int32)) (fL_kind_24 C (0 : Int32) s0_12) (fL_kind_24 C (2 : Int32) s0_12)
noncomputable def fL_kind (C : Mem) : Option Int32 := bnd (fX7_isPath C) fun q1 => cnd (q1 = (0 : Int32)) (fL_kind_12 C (0 : Int32)) (fL_kind_12 C (1 : Int32))
abbrev rm_L_kind : Room := { frames := 4, cells := 0, slots := 0, locals := 83 }
set_option maxRecDepth 100000 in
set_option maxHeartbeats 4000000 in
theorem c_L_kind (l : Launch) (Γ : gx_G) (C M : Mem)  {y0 : Int32} (hf : fL_kind C = some y0) : Met l yL_kind (.code yL_kind cL_kind 1 (some .int) :: TsG) rm_L_kind (va_Pc [.ref (Γ.1 0)] (gx_P Γ C M)) (gx_Qi Γ y0 C M) 0 0 (gA Γ) := by
  refine gm_i (by decide) (Nat.le_of_ble_eq_true rfl) ?_
  intro p e s m args below meth c Q S hG hret ls H locs hl hW hS
  obtain ⟨hx, hb, hml, hown, hts⟩ := id S
  have hl : lv_has ls 1 [(0, .ref (Γ.1 0))] := hl
  unfold fL_kind at hf
  refine lv_aload_n hx hb dL_kind_0 rfl (lv_at hl 0 rfl) ?_
  obtain ⟨q1, hq1, hf⟩ := bnd_e hf
  refine gk0_i hS (gv_run (rest := []) S hG hW hS [] (c_X7_isPath l Γ C M hq1) pk_X7_isPath ml_L_109 (Nat.le_of_ble_eq_true rfl) rfl rfl rfl rfl ⟨Nat.le_of_ble_eq_true rfl, Nat.le_of_ble_eq_true rfl⟩ rfl hl.1 rfl (Nat.le_of_ble_eq_true rfl) dL_kind_1 ⟨Nat.le_of_ble_eq_true rfl, Nat.le_of_ble_eq_true rfl⟩) (fun H locs hW hS => ?_)
  have J_12 : ∀ (s0_12 : Int32) , fL_kind_12 C s0_12 = some y0 → ∀ (H : Heap) (locs : List Loc) (ls : Array Slot), gx_W Γ C M H → va_S (gA Γ) s.heap H locs → lv_has ls 1 [(0, .ref (Γ.1 0))] → W p l e rm_L_kind s m args below meth c H locs 0 0 Q (F0 m 12 ls [.int s0_12]) := by
    intro s0_12 hf H locs ls hW hS hl
    unfold fL_kind_12 at hf
    refine lv_aload_n hx hb dL_kind_12 rfl (lv_at hl 0 rfl) ?_
    obtain ⟨q13, hq13, hf⟩ := bnd_e hf
    refine gk0_i hS (gv_run (rest := [.int s0_12]) S hG hW hS [] (c_X7_isGlob l Γ C M hq13) pk_X7_isGlob ml_L_113 (Nat.le_of_ble_eq_true rfl) rfl rfl rfl rfl ⟨Nat.le_of_ble_eq_true rfl, Nat.le_of_ble_eq_true rfl⟩ rfl hl.1 rfl (Nat.le_of_ble_eq_true rfl) dL_kind_13 ⟨Nat.le_of_ble_eq_true rfl, Nat.le_of_ble_eq_true rfl⟩) (fun H locs hW hS => ?_)
    have J_24 : ∀ (s0_24 : Int32) (s1_24 : Int32) , fL_kind_24 C s0_24 s1_24 = some y0 → ∀ (H : Heap) (locs : List Loc) (ls : Array Slot), gx_W Γ C M H → va_S (gA Γ) s.heap H locs → lv_has ls 1 [] → W p l e rm_L_kind s m args below meth c H locs 0 0 Q (F0 m 24 ls [.int s0_24, .int s1_24]) := by
      intro s0_24 s1_24 hf H locs ls hW hS hl
      unfold fL_kind_24 at hf
      refine lv_iadd hx hb dL_kind_24 ?_
      exact hret _ _ _ _ _ hW hS rfl (Option.some.inj hf) dL_kind_25
    refine lv_if_eq (tgt := 23) hx hb dL_kind_16 (by decide) (fun c16 => ?_) (fun c16 => ?_)
    · have hf := cn_t c16 hf
      refine lv_iconst (v := (0 : Int32)) hx hb dL_kind_23 (by decide) ?_
      exact J_24 (0 : Int32) s0_12 hf H locs ls hW hS (lv_sub hl [] rfl)
    · have hf := cn_f c16 hf
      refine lv_iconst (v := (2 : Int32)) hx hb dL_kind_19 (by decide) ?_
      refine lv_goto (tgt := 24) hx hb dL_kind_20 (by decide) ?_
      exact J_24 (2 : Int32) s0_12 hf H locs ls hW hS (lv_sub hl [] rfl)
  refine lv_if_eq (tgt := 11) hx hb dL_kind_4 (by decide) (fun c4 => ?_) (fun c4 => ?_)
  · have hf := cn_t c4 hf
    refine lv_iconst (v := (0 : Int32)) hx hb dL_kind_11 (by decide) ?_
    exact J_12 (0 : Int32) hf H locs ls hW hS (lv_sub hl [0] rfl)
  · have hf := cn_f c4 hf
    refine lv_iconst (v := (1 : Int32)) hx hb dL_kind_7 (by decide) ?_
    refine lv_goto (tgt := 12) hx hb dL_kind_8 (by decide) ?_
    exact J_12 (1 : Int32) hf H locs ls hW hS (lv_sub hl [0] rfl)
noncomputable def fL_matched_28 (a2 : Int32) (t_4 : (Mem × Int32 × Int32)) (C_28 : Mem) (s0_28 : Int32) (s1_28 : Int32) : Option ((Mem × Int32 × Int32) ⊕ (Int32 × Mem)) := nmv ((s1_28 ||| s0_28)) fun v29 => some (.inl (C_28, v29, (t_4.2.2 + (1 : Int32))))
noncomputable def fL_matched_4 (a2 : Int32) : (Mem × Int32 × Int32) → Option ((Mem × Int32 × Int32) ⊕ (Int32 × Mem)) := fun t_4 => cnd (a2 ≤ t_4.2.2) (exR (some (t_4.2.1, t_4.1))) (bnd (fL_act t_4.1 (4 : Int32) t_4.2.2 (0 : Int32)) fun q14 => cnd (q14.1 = (1 : Int32)) (fL_matched_28 a2 t_4 q14.2 ((1 : Int32) <<< (t_4.2.2 &&& 31)) t_4.2.1) (fL_matched_28 a2 t_4 q14.2 (0 : Int32) t_4.2.1))
noncomputable def fL_matched (C : Mem) (a2 : Int32) : Option (Int32 × Mem) := lp (fL_matched_4 a2) (C, (0 : Int32), (0 : Int32))
abbrev rm_L_matched : Room := { frames := 9, cells := 12, slots := 72, locals := 183 }
set_option maxRecDepth 100000 in
set_option maxHeartbeats 40000000 in
theorem c_L_matched (l : Launch) (hl0 : l.stackTraces = false) (Γ : gx_G) (C M : Mem) (a2 : Int32) (hfl : rmn a2 (0 : Int32) ≤ 3) {y0 : Int32 × Mem} (hf : fL_matched C a2 = some y0) : Met l yL_matched (.code yL_matched cL_matched 4 (some .int) :: TsG) rm_L_matched (va_Pc [.ref (Γ.1 0), .int a2] (gx_P Γ C M)) (gx_Qi Γ y0.1 y0.2 M) 12 72 (gA Γ) := by
  refine gl_of (by decide) (Nat.le_of_ble_eq_true rfl) ?_
  intro p e s m args below meth c Q S hG hret ls H locs hl hW hS
  obtain ⟨hx, hb, hml, hown, hts⟩ := id S
  have hl : lv_has ls 4 [(0, .ref (Γ.1 0)), (1, .int a2)] := hl
  unfold fL_matched at hf
  refine lv_iconst (v := (0 : Int32)) hx hb dL_matched_0 (by decide) ?_
  refine lv_istore_n (lv' := [(2, .int (0 : Int32)), (0, .ref (Γ.1 0)), (1, .int a2)]) hx hb dL_matched_1 rfl hl (by decide) rfl (fun ls hl => ?_)
  refine lv_iconst (v := (0 : Int32)) hx hb dL_matched_2 (by decide) ?_
  refine lv_istore_n (lv' := [(3, .int (0 : Int32)), (2, .int (0 : Int32)), (0, .ref (Γ.1 0)), (1, .int a2)]) hx hb dL_matched_3 rfl hl (by decide) rfl (fun ls hl => ?_)
  have J_4 : ∀  (t_4 : Mem × Int32 × Int32), lp (fL_matched_4 a2) t_4 = some y0 → ∀ (cs ss : Nat), cs + 3 * rmn a2 t_4.2.2 ≤ 9 → ss + 18 * rmn a2 t_4.2.2 ≤ 54 → ∀ (H : Heap) (locs : List Loc) (ls : Array Slot), gx_W Γ t_4.1 M H → va_S (gA Γ) s.heap H locs → lv_has ls 4 [(0, .ref (Γ.1 0)), (1, .int a2), (2, .int t_4.2.1), (3, .int t_4.2.2)] → W p l e rm_L_matched s m args below meth c H locs cs ss Q (F0 m 4 ls []) := by
    refine lp_ind (P := fun (t_4 : Mem × Int32 × Int32) => ∀ (cs ss : Nat), cs + 3 * rmn a2 t_4.2.2 ≤ 9 → ss + 18 * rmn a2 t_4.2.2 ≤ 54 → ∀ (H : Heap) (locs : List Loc) (ls : Array Slot), gx_W Γ t_4.1 M H → va_S (gA Γ) s.heap H locs → lv_has ls 4 [(0, .ref (Γ.1 0)), (1, .int a2), (2, .int t_4.2.1), (3, .int t_4.2.2)] → W p l e rm_L_matched s m args below meth c H locs cs ss Q (F0 m 4 ls [])) ?_
    intro t_4 y1 hf kI1 kX1 cs ss hcs hss H locs ls hW hS hl
    unfold fL_matched_4 at hf
    refine lv_iload_n hx hb dL_matched_4 rfl (lv_at hl 3 rfl) ?_
    refine lv_iload_n hx hb dL_matched_5 rfl (lv_at hl 1 rfl) ?_
    refine lv_icmp_ge (tgt := 36) hx hb dL_matched_6 (by decide) (fun c6 => ?_) (fun c6 => ?_)
    · have hf := cn_t c6 hf
      obtain ⟨z6, hf, ez⟩ := exR_e hf
      rw [kX1 _ ez] at hf
      refine lv_iload_n hx hb dL_matched_36 rfl (lv_at hl 2 rfl) ?_
      have e9 := Option.some.inj hf
      subst e9
      exact hret _ _ _ _ _ _ _ hW hS rfl rfl (by show cs ≤ 12; omega) (by show ss ≤ 72; omega) dL_matched_37
    · have hf := cn_f c6 hf
      have r4 := rmn_s c6
      refine lv_iload_n hx hb dL_matched_9 rfl (lv_at hl 2 rfl) ?_
      refine lv_aload_n hx hb dL_matched_10 rfl (lv_at hl 0 rfl) ?_
      refine lv_iconst (v := (4 : Int32)) hx hb dL_matched_11 (by decide) ?_
      refine lv_iload_n hx hb dL_matched_12 rfl (lv_at hl 3 rfl) ?_
      refine lv_iconst (v := (0 : Int32)) hx hb dL_matched_13 (by decide) ?_
      obtain ⟨q14, hq14, hf⟩ := bnd_e hf
      refine gk_i hS (gsw_run (rest := [.int t_4.2.1]) S hG hW hS [.ref (Γ.1 0), .int (4 : Int32), .int t_4.2.2, .int (0 : Int32)] (c_L_act l hl0 Γ t_4.1 M (4 : Int32) t_4.2.2 (0 : Int32) hq14) pk_L_act ml_L_86 rfl rfl ⟨Nat.le_of_ble_eq_true rfl, Nat.le_of_ble_eq_true rfl⟩ rfl hl.1 rfl (Nat.le_of_ble_eq_true rfl) dL_matched_14 ⟨by show cs + 3 ≤ 12; omega, by show ss + 18 ≤ 72; omega⟩) (fun H locs hW hS => ?_)
      refine lv_iconst (v := (1 : Int32)) hx hb dL_matched_17 (by decide) ?_
      have J_28 : ∀ (C_28 : Mem) (s0_28 : Int32) (s1_28 : Int32) , fL_matched_28 a2 t_4 C_28 s0_28 s1_28 = some y1 → ∀ (cs ss : Nat), cs + 3 * rmn a2 t_4.2.2 ≤ 12 → ss + 18 * rmn a2 t_4.2.2 ≤ 72 → ∀ (H : Heap) (locs : List Loc) (ls : Array Slot), gx_W Γ C_28 M H → va_S (gA Γ) s.heap H locs → lv_has ls 4 [(0, .ref (Γ.1 0)), (1, .int a2), (3, .int t_4.2.2)] → W p l e rm_L_matched s m args below meth c H locs cs ss Q (F0 m 28 ls [.int s0_28, .int s1_28]) := by
        intro C_28 s0_28 s1_28 hf cs ss hcs hss H locs ls hW hS hl
        unfold fL_matched_28 at hf
        refine lv_ior hx hb dL_matched_28 ?_
        refine lv_topi (fun v29 ev29 => ?_)
        have hf := nm_v ev29 hf
        refine lv_istore_n (lv' := [(2, .int v29), (0, .ref (Γ.1 0)), (1, .int a2), (3, .int t_4.2.2)]) hx hb dL_matched_29 rfl hl (by decide) rfl (fun ls hl => ?_)
        refine lv_iinc (v := (t_4.2.2 + (1 : Int32))) (lv' := [(3, .int (t_4.2.2 + (1 : Int32))), (2, .int v29), (0, .ref (Γ.1 0)), (1, .int a2)]) hx hb dL_matched_30 hl (k := 3) rfl rfl (by decide) rfl (fun ls hl => ?_)
        refine lv_goto (tgt := 4) hx hb dL_matched_33 (by decide) ?_
        exact kI1 _ (Option.some.inj hf).symm cs ss (by show cs + 3 * rmn a2 (t_4.2.2 + (1 : Int32)) ≤ 9; omega) (by show ss + 18 * rmn a2 (t_4.2.2 + (1 : Int32)) ≤ 54; omega) H locs ls hW hS (lv_sub hl [2, 3, 1, 0] rfl)
      refine lv_icmp_ne (tgt := 27) hx hb dL_matched_18 (by decide) (fun c18 => ?_) (fun c18 => ?_)
      · have hf := cn_f c18 hf
        refine lv_iconst (v := (0 : Int32)) hx hb dL_matched_27 (by decide) ?_
        exact J_28 q14.2 (0 : Int32) t_4.2.1 hf (cs + 3) (ss + 18) (by omega) (by omega) H locs ls hW hS (lv_sub hl [0, 1, 3] rfl)
      · have hf := cn_t c18 hf
        refine lv_iconst (v := (1 : Int32)) hx hb dL_matched_21 (by decide) ?_
        refine lv_iload_n hx hb dL_matched_22 rfl (lv_at hl 3 rfl) ?_
        refine lv_ishl hx hb dL_matched_23 ?_
        refine lv_goto (tgt := 28) hx hb dL_matched_24 (by decide) ?_
        exact J_28 q14.2 ((1 : Int32) <<< (t_4.2.2 &&& 31)) t_4.2.1 hf (cs + 3) (ss + 18) (by omega) (by omega) H locs ls hW hS (lv_sub hl [0, 1, 3] rfl)
  exact J_4  (C, (0 : Int32), (0 : Int32)) hf 0 0 (by have e9 : rmn a2 (0 : Int32) ≤ 3 := hfl; show 0 + 3 * rmn a2 (0 : Int32) ≤ 9; omega) (by have e9 : rmn a2 (0 : Int32) ≤ 3 := hfl; show 0 + 18 * rmn a2 (0 : Int32) ≤ 54; omega) H locs ls hW hS (lv_sub hl [2, 3, 1, 0] rfl)
noncomputable def fL_refuses_601 (C_601 : Mem) : Option (Int32 × Mem) := some ((0 : Int32), C_601)
noncomputable def fL_refuses_559 (v14 : Int32) (v4 : Int32) (v9 : Int32) (C_559 : Mem) : Option (Int32 × Mem) := cnd ((fX7_files C_559) = v4) (cnd ((fX7_targets C_559) = v9) (cnd ((fX7_keys C_559) = v14) (bnd (fX7_affectedBy C_559 (0 : Int32)) fun q586 => sw q586 (fun v586 => bnd (fX7_affectedByGoingDown C_559 (0 : Int32)) fun q591 => sw q591 (fun v591 => cnd (v586 = v591) (some ((1 : Int32), C_559)) (fL_refuses_601 C_559)) (fun _ => none)) (fun _ => none)) (fL_refuses_601 C_559)) (fL_refuses_601 C_559)) (fL_refuses_601 C_559)
noncomputable def fL_refuses_553 (a2 : Int32) (t_23 : (Mem × Int32)) (v14 : Int32) (v4 : Int32) (v9 : Int32) (C_553 : Mem) : Option ((Mem × Int32) ⊕ (Int32 × Mem)) := some (.inl (C_553, (t_23.2 + (1 : Int32))))
noncomputable def fL_refuses_544 (a2 : Int32) (t_23 : (Mem × Int32)) (v14 : Int32) (v4 : Int32) (v9 : Int32) (C_544 : Mem) (s0_544 : Int32) : Option ((Mem × Int32) ⊕ (Int32 × Mem)) := cnd (s0_544 = (0 : Int32)) (exR (some ((0 : Int32), C_544))) (fL_refuses_553 a2 t_23 v14 v4 v9 C_544)
noncomputable def fL_refuses_543 (a2 : Int32) (t_23 : (Mem × Int32)) (v14 : Int32) (v4 : Int32) (v9 : Int32) (C_543 : Mem) : Option ((Mem × Int32) ⊕ (Int32 × Mem)) := fL_refuses_544 a2 t_23 v14 v4 v9 C_543 (0 : Int32)
noncomputable def fL_refuses_530 (a2 : Int32) (t_23 : (Mem × Int32)) (v14 : Int32) (v4 : Int32) (v9 : Int32) (C_530 : Mem) (s0_530 : Int32) (s1_530 : Int32) : Option ((Mem × Int32) ⊕ (Int32 × Mem)) := bnd (fL_act C_530 s1_530 s0_530 (0 : Int32)) fun q531 => cnd (q531.1 = (-32 : Int32)) (fL_refuses_544 a2 t_23 v14 v4 v9 q531.2 (1 : Int32)) (fL_refuses_543 a2 t_23 v14 v4 v9 q531.2)
noncomputable def fL_refuses_475 (a2 : Int32) (s0_82 : Int32) (t_23 : (Mem × Int32)) (t_436 : (Mem × Int32 × Int32)) (v14 : Int32) (v4 : Int32) (v9 : Int32) (C_475 : Mem) : Option ((Mem × Int32) ⊕ (Int32 × Mem)) := cnd (t_436.2.1 = (0 : Int32)) (fL_refuses_543 a2 t_23 v14 v4 v9 C_475) (bnd (fL_act C_475 (6 : Int32) s0_82 (0 : Int32)) fun q486 => cnd (q486.1 = (-31 : Int32)) (cnd (t_23.2 = (0 : Int32)) (fL_refuses_530 a2 t_23 v14 v4 v9 q486.2 (65 : Int32) (0 : Int32)) (cnd (t_23.2 = (1 : Int32)) (fL_refuses_530 a2 t_23 v14 v4 v9 q486.2 (46 : Int32) (0 : Int32)) (cnd (t_23.2 = (2 : Int32)) (fL_refuses_530 a2 t_23 v14 v4 v9 q486.2 (123 : Int32) (0 : Int32)) (fL_refuses_530 a2 t_23 v14 v4 v9 q486.2 (48 : Int32) (0 : Int32))))) (fL_refuses_543 a2 t_23 v14 v4 v9 q486.2))
noncomputable def fL_refuses_467 (a2 : Int32) (s0_82 : Int32) (t_23 : (Mem × Int32)) (t_436 : (Mem × Int32 × Int32)) (v14 : Int32) (v4 : Int32) (v9 : Int32) (C_467 : Mem) (s0_467 : Int32) : Option ((Mem × Int32 × Int32) ⊕ ((Mem × Int32) ⊕ (Int32 × Mem))) := some (.inl (C_467, s0_467, (t_436.2.2 + (1 : Int32))))
noncomputable def fL_refuses_466 (a2 : Int32) (s0_82 : Int32) (t_23 : (Mem × Int32)) (t_436 : (Mem × Int32 × Int32)) (v14 : Int32) (v4 : Int32) (v9 : Int32) (C_466 : Mem) : Option ((Mem × Int32 × Int32) ⊕ ((Mem × Int32) ⊕ (Int32 × Mem))) := fL_refuses_467 a2 s0_82 t_23 t_436 v14 v4 v9 C_466 (0 : Int32)
noncomputable def fL_refuses_436 (a2 : Int32) (s0_82 : Int32) (t_23 : (Mem × Int32)) (v14 : Int32) (v4 : Int32) (v9 : Int32) : (Mem × Int32 × Int32) → Option ((Mem × Int32 × Int32) ⊕ ((Mem × Int32) ⊕ (Int32 × Mem))) := fun t_436 => cnd ((16 : Int32) ≤ t_436.2.2) (exR (fL_refuses_475 a2 s0_82 t_23 t_436 v14 v4 v9 t_436.1)) (cnd (t_436.2.1 = (0 : Int32)) (fL_refuses_466 a2 s0_82 t_23 t_436 v14 v4 v9 t_436.1) (bnd (fL_act t_436.1 t_436.2.2 s0_82 (0 : Int32)) fun q454 => cnd (q454.1 = (-31 : Int32)) (fL_refuses_467 a2 s0_82 t_23 t_436 v14 v4 v9 q454.2 (1 : Int32)) (fL_refuses_466 a2 s0_82 t_23 t_436 v14 v4 v9 q454.2)))
noncomputable def fL_refuses_432 (a2 : Int32) (s0_82 : Int32) (t_23 : (Mem × Int32)) (t_393 : (Mem × Int32 × Int32)) (v14 : Int32) (v4 : Int32) (v9 : Int32) (C_432 : Mem) : Option ((Mem × Int32) ⊕ (Int32 × Mem)) := lp (fL_refuses_436 a2 s0_82 t_23 v14 v4 v9) (C_432, t_393.2.1, (13 : Int32))
noncomputable def fL_refuses_424 (a2 : Int32) (s0_82 : Int32) (t_23 : (Mem × Int32)) (t_393 : (Mem × Int32 × Int32)) (v14 : Int32) (v4 : Int32) (v9 : Int32) (C_424 : Mem) (s0_424 : Int32) : Option ((Mem × Int32 × Int32) ⊕ ((Mem × Int32) ⊕ (Int32 × Mem))) := some (.inl (C_424, s0_424, (t_393.2.2 + (1 : Int32))))
noncomputable def fL_refuses_423 (a2 : Int32) (s0_82 : Int32) (t_23 : (Mem × Int32)) (t_393 : (Mem × Int32 × Int32)) (v14 : Int32) (v4 : Int32) (v9 : Int32) (C_423 : Mem) : Option ((Mem × Int32 × Int32) ⊕ ((Mem × Int32) ⊕ (Int32 × Mem))) := fL_refuses_424 a2 s0_82 t_23 t_393 v14 v4 v9 C_423 (0 : Int32)
noncomputable def fL_refuses_393 (a2 : Int32) (s0_82 : Int32) (t_23 : (Mem × Int32)) (v14 : Int32) (v4 : Int32) (v9 : Int32) : (Mem × Int32 × Int32) → Option ((Mem × Int32 × Int32) ⊕ ((Mem × Int32) ⊕ (Int32 × Mem))) := fun t_393 => cnd ((11 : Int32) ≤ t_393.2.2) (exR (fL_refuses_432 a2 s0_82 t_23 t_393 v14 v4 v9 t_393.1)) (cnd (t_393.2.1 = (0 : Int32)) (fL_refuses_423 a2 s0_82 t_23 t_393 v14 v4 v9 t_393.1) (bnd (fL_act t_393.1 t_393.2.2 s0_82 (0 : Int32)) fun q411 => cnd (q411.1 = (-31 : Int32)) (fL_refuses_424 a2 s0_82 t_23 t_393 v14 v4 v9 q411.2 (1 : Int32)) (fL_refuses_423 a2 s0_82 t_23 t_393 v14 v4 v9 q411.2)))
noncomputable def fL_refuses_387 (a2 : Int32) (s0_82 : Int32) (t_23 : (Mem × Int32)) (v14 : Int32) (v4 : Int32) (v9 : Int32) (C_387 : Mem) (s0_387 : Int32) : Option ((Mem × Int32) ⊕ (Int32 × Mem)) := lp (fL_refuses_393 a2 s0_82 t_23 v14 v4 v9) (C_387, s0_387, (8 : Int32))
noncomputable def fL_refuses_386 (a2 : Int32) (s0_82 : Int32) (t_23 : (Mem × Int32)) (v14 : Int32) (v4 : Int32) (v9 : Int32) (C_386 : Mem) : Option ((Mem × Int32) ⊕ (Int32 × Mem)) := fL_refuses_387 a2 s0_82 t_23 v14 v4 v9 C_386 (0 : Int32)
noncomputable def fL_refuses_373 (a2 : Int32) (s0_82 : Int32) (t_23 : (Mem × Int32)) (v14 : Int32) (v4 : Int32) (v9 : Int32) (C_373 : Mem) (s0_373 : Int32) (s1_373 : Int32) : Option ((Mem × Int32) ⊕ (Int32 × Mem)) := bnd (fL_act C_373 s1_373 s0_373 (0 : Int32)) fun q374 => cnd (q374.1 = (-31 : Int32)) (fL_refuses_387 a2 s0_82 t_23 v14 v4 v9 q374.2 (1 : Int32)) (fL_refuses_386 a2 s0_82 t_23 v14 v4 v9 q374.2)
noncomputable def fL_refuses_348 (a2 : Int32) (s0_54 : Int32) (s0_82 : Int32) (t_23 : (Mem × Int32)) (v14 : Int32) (v4 : Int32) (v9 : Int32) (C_348 : Mem) (s0_348 : Int32) (s1_348 : Int32) : Option ((Mem × Int32) ⊕ (Int32 × Mem)) := bnd (fL_act C_348 s1_348 s0_348 (0 : Int32)) fun q349 => cnd (q349.1 = (-32 : Int32)) (cnd (t_23.2 = (1 : Int32)) (fL_refuses_373 a2 s0_82 t_23 v14 v4 v9 q349.2 (8 : Int32) (20 : Int32)) (fL_refuses_373 a2 s0_82 t_23 v14 v4 v9 q349.2 s0_54 (20 : Int32))) (fL_refuses_386 a2 s0_82 t_23 v14 v4 v9 q349.2)
noncomputable def fL_refuses_201 (a2 : Int32) (s0_122 : Int32) (s0_54 : Int32) (s0_68 : Int32) (s0_82 : Int32) (t_23 : (Mem × Int32)) (v14 : Int32) (v4 : Int32) (v9 : Int32) (C_201 : Mem) (s0_201 : Int32) (s1_201 : Int32) : Option ((Mem × Int32) ⊕ (Int32 × Mem)) := bnd (fL_act C_201 s1_201 s0_201 (0 : Int32)) fun q202 => cnd (q202.1 = (-32 : Int32)) (bnd (fL_act q202.2 (7 : Int32) s0_82 (0 : Int32)) fun q216 => cnd (q216.1 = (-31 : Int32)) (bnd (fL_act q216.2 (7 : Int32) (0 : Int32) s0_82) fun q230 => cnd (q230.1 = (-31 : Int32)) (bnd (fL_act q230.2 (11 : Int32) s0_68 (0 : Int32)) fun q244 => cnd (q244.1 = (-31 : Int32)) (bnd (fL_act q244.2 (12 : Int32) s0_68 (0 : Int32)) fun q258 => cnd (q258.1 = (-31 : Int32)) (bnd (fL_act q258.2 (21 : Int32) s0_68 (0 : Int32)) fun q272 => cnd (q272.1 = (-31 : Int32)) (bnd (fL_act q272.2 (17 : Int32) s0_82 (0 : Int32)) fun q286 => cnd (q286.1 = (-31 : Int32)) (bnd (fL_act q286.2 (17 : Int32) (0 : Int32) s0_122) fun q300 => cnd (q300.1 = (-32 : Int32)) (bnd (fL_act q300.2 (18 : Int32) s0_122 (0 : Int32)) fun q314 => cnd (q314.1 = (-32 : Int32)) (cnd (t_23.2 = (0 : Int32)) (fL_refuses_348 a2 s0_54 s0_82 t_23 v14 v4 v9 q314.2 (0 : Int32) (19 : Int32)) (cnd (t_23.2 = (1 : Int32)) (fL_refuses_348 a2 s0_54 s0_82 t_23 v14 v4 v9 q314.2 (16001 : Int32) (19 : Int32)) (fL_refuses_348 a2 s0_54 s0_82 t_23 v14 v4 v9 q314.2 s0_54 (19 : Int32)))) (fL_refuses_386 a2 s0_82 t_23 v14 v4 v9 q314.2)) (fL_refuses_386 a2 s0_82 t_23 v14 v4 v9 q300.2)) (fL_refuses_386 a2 s0_82 t_23 v14 v4 v9 q286.2)) (fL_refuses_386 a2 s0_82 t_23 v14 v4 v9 q272.2)) (fL_refuses_386 a2 s0_82 t_23 v14 v4 v9 q258.2)) (fL_refuses_386 a2 s0_82 t_23 v14 v4 v9 q244.2)) (fL_refuses_386 a2 s0_82 t_23 v14 v4 v9 q230.2)) (fL_refuses_386 a2 s0_82 t_23 v14 v4 v9 q216.2)) (fL_refuses_386 a2 s0_82 t_23 v14 v4 v9 q202.2)
noncomputable def fL_refuses_122 (a2 : Int32) (s0_54 : Int32) (s0_68 : Int32) (s0_82 : Int32) (s0_98 : Int32) (t_23 : (Mem × Int32)) (v14 : Int32) (v4 : Int32) (v9 : Int32) (C_122 : Mem) (s0_122 : Int32) : Option ((Mem × Int32) ⊕ (Int32 × Mem)) := bnd (fL_act C_122 (1 : Int32) s0_98 (0 : Int32)) fun q129 => cnd (q129.1 = (-32 : Int32)) (bnd (fL_act q129.2 (2 : Int32) s0_68 (-1 : Int32)) fun q142 => cnd (q142.1 = (-31 : Int32)) (bnd (fL_act q142.2 (3 : Int32) s0_68 (0 : Int32)) fun q155 => cnd (q155.1 = (-31 : Int32)) (bnd (fL_act q155.2 (4 : Int32) s0_68 (0 : Int32)) fun q168 => cnd (q168.1 = (-31 : Int32)) (cnd (t_23.2 = (0 : Int32)) (fL_refuses_201 a2 s0_122 s0_54 s0_68 s0_82 t_23 v14 v4 v9 q168.2 (0 : Int32) (5 : Int32)) (cnd (t_23.2 = (1 : Int32)) (fL_refuses_201 a2 s0_122 s0_54 s0_68 s0_82 t_23 v14 v4 v9 q168.2 (1001 : Int32) (5 : Int32)) (fL_refuses_201 a2 s0_122 s0_54 s0_68 s0_82 t_23 v14 v4 v9 q168.2 s0_54 (5 : Int32)))) (fL_refuses_386 a2 s0_82 t_23 v14 v4 v9 q168.2)) (fL_refuses_386 a2 s0_82 t_23 v14 v4 v9 q155.2)) (fL_refuses_386 a2 s0_82 t_23 v14 v4 v9 q142.2)) (fL_refuses_386 a2 s0_82 t_23 v14 v4 v9 q129.2)
noncomputable def fL_refuses_98 (a2 : Int32) (s0_54 : Int32) (s0_68 : Int32) (s0_82 : Int32) (t_23 : (Mem × Int32)) (v14 : Int32) (v4 : Int32) (v9 : Int32) (C_98 : Mem) (s0_98 : Int32) : Option ((Mem × Int32) ⊕ (Int32 × Mem)) := cnd (t_23.2 = (0 : Int32)) (fL_refuses_122 a2 s0_54 s0_68 s0_82 s0_98 t_23 v14 v4 v9 C_98 (0 : Int32)) (cnd (t_23.2 = (1 : Int32)) (fL_refuses_122 a2 s0_54 s0_68 s0_82 s0_98 t_23 v14 v4 v9 C_98 (9 : Int32)) (fL_refuses_122 a2 s0_54 s0_68 s0_82 s0_98 t_23 v14 v4 v9 C_98 s0_54))
noncomputable def fL_refuses_82 (a2 : Int32) (s0_54 : Int32) (s0_68 : Int32) (t_23 : (Mem × Int32)) (v14 : Int32) (v4 : Int32) (v9 : Int32) (C_82 : Mem) (s0_82 : Int32) : Option ((Mem × Int32) ⊕ (Int32 × Mem)) := cnd (t_23.2 = (1 : Int32)) (fL_refuses_98 a2 s0_54 s0_68 s0_82 t_23 v14 v4 v9 C_82 (10000 : Int32)) (fL_refuses_98 a2 s0_54 s0_68 s0_82 t_23 v14 v4 v9 C_82 s0_54)
noncomputable def fL_refuses_68 (a2 : Int32) (s0_54 : Int32) (t_23 : (Mem × Int32)) (v14 : Int32) (v4 : Int32) (v9 : Int32) (C_68 : Mem) (s0_68 : Int32) : Option ((Mem × Int32) ⊕ (Int32 × Mem)) := cnd (t_23.2 = (1 : Int32)) (fL_refuses_82 a2 s0_54 s0_68 t_23 v14 v4 v9 C_68 v9) (fL_refuses_82 a2 s0_54 s0_68 t_23 v14 v4 v9 C_68 s0_54)
noncomputable def fL_refuses_54 (a2 : Int32) (t_23 : (Mem × Int32)) (v14 : Int32) (v4 : Int32) (v9 : Int32) (C_54 : Mem) (s0_54 : Int32) : Option ((Mem × Int32) ⊕ (Int32 × Mem)) := cnd (t_23.2 = (1 : Int32)) (fL_refuses_68 a2 s0_54 t_23 v14 v4 v9 C_54 a2) (fL_refuses_68 a2 s0_54 t_23 v14 v4 v9 C_54 s0_54)
noncomputable def fL_refuses_23 (a2 : Int32) (v14 : Int32) (v4 : Int32) (v9 : Int32) : (Mem × Int32) → Option ((Mem × Int32) ⊕ (Int32 × Mem)) := fun t_23 => cnd ((4 : Int32) ≤ t_23.2) (exR (fL_refuses_559 v14 v4 v9 t_23.1)) (cnd (t_23.2 = (0 : Int32)) (fL_refuses_54 a2 t_23 v14 v4 v9 t_23.1 (-1 : Int32)) (cnd (t_23.2 = (2 : Int32)) (fL_refuses_54 a2 t_23 v14 v4 v9 t_23.1 (2147483647 : Int32)) (fL_refuses_54 a2 t_23 v14 v4 v9 t_23.1 ((-(2147483647 : Int32)) - (1 : Int32)))))
noncomputable def fL_refuses (C : Mem) (a2 : Int32) : Option (Int32 × Mem) := nmv ((fX7_files C)) fun v4 => nmv ((fX7_targets C)) fun v9 => nmv ((fX7_keys C)) fun v14 => lp (fL_refuses_23 a2 v14 v4 v9) (C, (0 : Int32))
abbrev rm_L_refuses : Room := { frames := 9, cells := 345, slots := 2070, locals := 183 }
set_option maxRecDepth 100000 in
set_option maxHeartbeats 40000000 in
theorem c_L_refuses (l : Launch) (hl0 : l.stackTraces = false) (Γ : gx_G) (C M : Mem) (a2 : Int32) {y0 : Int32 × Mem} (hf : fL_refuses C a2 = some y0) : Met l yL_refuses (.code yL_refuses cL_refuses 14 (some .boolean) :: TsG) rm_L_refuses (va_Pc [.ref (Γ.1 0), .int a2] (gx_P Γ C M)) (gx_Qi Γ y0.1 y0.2 M) 345 2070 (gA Γ) := by
  refine gl_of (by decide) (Nat.le_of_ble_eq_true rfl) ?_
  intro p e s m args below meth c Q S hG hret ls H locs hl hW hS
  obtain ⟨hx, hb, hml, hown, hts⟩ := id S
  have hl : lv_has ls 14 [(0, .ref (Γ.1 0)), (1, .int a2)] := hl
  unfold fL_refuses at hf
  refine lv_aload_n hx hb dL_refuses_0 rfl (lv_at hl 0 rfl) ?_
  refine gk0_i hS (gv_run (rest := []) S hG hW hS [] (c_X7_files l Γ C M) pk_X7_files ml_L_99 (Nat.le_of_ble_eq_true rfl) rfl rfl rfl rfl ⟨Nat.le_of_ble_eq_true rfl, Nat.le_of_ble_eq_true rfl⟩ rfl hl.1 rfl (Nat.le_of_ble_eq_true rfl) dL_refuses_1 ⟨by show 0 + 0 ≤ 345; omega, by show 0 + 0 ≤ 2070; omega⟩) (fun H locs hW hS => ?_)
  refine lv_topi (fun v4 ev4 => ?_)
  have hf := nm_v ev4 hf
  refine lv_istore_n (lv' := [(2, .int v4), (0, .ref (Γ.1 0)), (1, .int a2)]) hx hb dL_refuses_4 rfl hl (by decide) rfl (fun ls hl => ?_)
  refine lv_aload_n hx hb dL_refuses_5 rfl (lv_at hl 1 rfl) ?_
  refine gk0_i hS (gv_run (rest := []) S hG hW hS [] (c_X7_targets l Γ C M) pk_X7_targets ml_L_102 (Nat.le_of_ble_eq_true rfl) rfl rfl rfl rfl ⟨Nat.le_of_ble_eq_true rfl, Nat.le_of_ble_eq_true rfl⟩ rfl hl.1 rfl (Nat.le_of_ble_eq_true rfl) dL_refuses_6 ⟨by show 0 + 0 ≤ 345; omega, by show 0 + 0 ≤ 2070; omega⟩) (fun H locs hW hS => ?_)
  refine lv_topi (fun v9 ev9 => ?_)
  have hf := nm_v ev9 hf
  refine lv_istore_n (lv' := [(3, .int v9), (2, .int v4), (0, .ref (Γ.1 0)), (1, .int a2)]) hx hb dL_refuses_9 rfl hl (by decide) rfl (fun ls hl => ?_)
  refine lv_aload_n hx hb dL_refuses_10 rfl (lv_at hl 2 rfl) ?_
  refine gk0_i hS (gv_run (rest := []) S hG hW hS [] (c_X7_keys l Γ C M) pk_X7_keys ml_L_105 (Nat.le_of_ble_eq_true rfl) rfl rfl rfl rfl ⟨Nat.le_of_ble_eq_true rfl, Nat.le_of_ble_eq_true rfl⟩ rfl hl.1 rfl (Nat.le_of_ble_eq_true rfl) dL_refuses_11 ⟨by show 0 + 0 ≤ 345; omega, by show 0 + 0 ≤ 2070; omega⟩) (fun H locs hW hS => ?_)
  refine lv_topi (fun v14 ev14 => ?_)
  have hf := nm_v ev14 hf
  refine lv_istore (lv' := [(4, .int v14), (3, .int v9), (2, .int v4), (0, .ref (Γ.1 0)), (1, .int a2)]) hx hb dL_refuses_14 hl (by decide) rfl (fun ls hl => ?_)
  refine lv_ldc (v := (2147483647 : Int32)) hx hb hown (hts _ ct_L_108) dL_refuses_16 ?_
  refine lv_istore (lv' := [(5, .int (2147483647 : Int32)), (4, .int v14), (3, .int v9), (2, .int v4), (0, .ref (Γ.1 0)), (1, .int a2)]) hx hb dL_refuses_18 hl (by decide) rfl (fun ls hl => ?_)
  refine lv_iconst (v := (0 : Int32)) hx hb dL_refuses_20 (by decide) ?_
  refine lv_istore (lv' := [(6, .int (0 : Int32)), (5, .int (2147483647 : Int32)), (4, .int v14), (3, .int v9), (2, .int v4), (0, .ref (Γ.1 0)), (1, .int a2)]) hx hb dL_refuses_21 hl (by decide) rfl (fun ls hl => ?_)
  have J_23 : ∀  (t_23 : Mem × Int32), lp (fL_refuses_23 a2 v14 v4 v9) t_23 = some y0 → ∀ (cs ss : Nat), cs + 69 * rmn (4 : Int32) t_23.2 ≤ 276 → ss + 414 * rmn (4 : Int32) t_23.2 ≤ 1656 → ∀ (H : Heap) (locs : List Loc) (ls : Array Slot), gx_W Γ t_23.1 M H → va_S (gA Γ) s.heap H locs → lv_has ls 14 [(0, .ref (Γ.1 0)), (1, .int a2), (2, .int v4), (3, .int v9), (4, .int v14), (5, .int (2147483647 : Int32)), (6, .int t_23.2)] → W p l e rm_L_refuses s m args below meth c H locs cs ss Q (F0 m 23 ls []) := by
    refine lp_ind (P := fun (t_23 : Mem × Int32) => ∀ (cs ss : Nat), cs + 69 * rmn (4 : Int32) t_23.2 ≤ 276 → ss + 414 * rmn (4 : Int32) t_23.2 ≤ 1656 → ∀ (H : Heap) (locs : List Loc) (ls : Array Slot), gx_W Γ t_23.1 M H → va_S (gA Γ) s.heap H locs → lv_has ls 14 [(0, .ref (Γ.1 0)), (1, .int a2), (2, .int v4), (3, .int v9), (4, .int v14), (5, .int (2147483647 : Int32)), (6, .int t_23.2)] → W p l e rm_L_refuses s m args below meth c H locs cs ss Q (F0 m 23 ls [])) ?_
    intro t_23 y1 hf kI1 kX1 cs ss hcs hss H locs ls hW hS hl
    unfold fL_refuses_23 at hf
    refine lv_iload hx hb dL_refuses_23 (lv_at hl 6 rfl) ?_
    refine lv_iconst (v := (4 : Int32)) hx hb dL_refuses_25 (by decide) ?_
    have J_559 : ∀ (C_559 : Mem) , fL_refuses_559 v14 v4 v9 C_559 = some y0 → ∀ (cs ss : Nat), cs ≤ 276 → ss ≤ 1656 → ∀ (H : Heap) (locs : List Loc) (ls : Array Slot), gx_W Γ C_559 M H → va_S (gA Γ) s.heap H locs → lv_has ls 14 [(0, .ref (Γ.1 0)), (2, .int v4), (3, .int v9), (4, .int v14)] → W p l e rm_L_refuses s m args below meth c H locs cs ss Q (F0 m 559 ls []) := by
      intro C_559 hf cs ss hcs hss H locs ls hW hS hl
      unfold fL_refuses_559 at hf
      refine lv_aload_n hx hb dL_refuses_559 rfl (lv_at hl 0 rfl) ?_
      refine gk0_i hS (gv_run (rest := []) S hG hW hS [] (c_X7_files l Γ C_559 M) pk_X7_files ml_L_99 (Nat.le_of_ble_eq_true rfl) rfl rfl rfl rfl ⟨Nat.le_of_ble_eq_true rfl, Nat.le_of_ble_eq_true rfl⟩ rfl hl.1 rfl (Nat.le_of_ble_eq_true rfl) dL_refuses_560 ⟨by show cs + 0 ≤ 345; omega, by show ss + 0 ≤ 2070; omega⟩) (fun H locs hW hS => ?_)
      refine lv_iload_n hx hb dL_refuses_563 rfl (lv_at hl 1 rfl) ?_
      have J_601 : ∀ (C_601 : Mem) , fL_refuses_601 C_601 = some y0 → ∀ (cs ss : Nat), cs ≤ 278 → ss ≤ 1668 → ∀ (H : Heap) (locs : List Loc) (ls : Array Slot), gx_W Γ C_601 M H → va_S (gA Γ) s.heap H locs → lv_has ls 14 [] → W p l e rm_L_refuses s m args below meth c H locs cs ss Q (F0 m 601 ls []) := by
        intro C_601 hf cs ss hcs hss H locs ls hW hS hl
        unfold fL_refuses_601 at hf
        refine lv_iconst (v := (0 : Int32)) hx hb dL_refuses_601 (by decide) ?_
        have e9 := Option.some.inj hf
        subst e9
        exact hret _ _ _ _ _ _ _ hW hS rfl rfl (by show cs ≤ 345; omega) (by show ss ≤ 2070; omega) dL_refuses_602
      refine lv_icmp_ne (tgt := 601) hx hb dL_refuses_564 (by decide) (fun c564 => ?_) (fun c564 => ?_)
      · have hf := cn_f c564 hf
        exact J_601 C_559 hf cs ss (by omega) (by omega) H locs ls hW hS (lv_sub hl [] rfl)
      · have hf := cn_t c564 hf
        refine lv_aload_n hx hb dL_refuses_567 rfl (lv_at hl 0 rfl) ?_
        refine gk0_i hS (gv_run (rest := []) S hG hW hS [] (c_X7_targets l Γ C_559 M) pk_X7_targets ml_L_102 (Nat.le_of_ble_eq_true rfl) rfl rfl rfl rfl ⟨Nat.le_of_ble_eq_true rfl, Nat.le_of_ble_eq_true rfl⟩ rfl hl.1 rfl (Nat.le_of_ble_eq_true rfl) dL_refuses_568 ⟨by show cs + 0 ≤ 345; omega, by show ss + 0 ≤ 2070; omega⟩) (fun H locs hW hS => ?_)
        refine lv_iload_n hx hb dL_refuses_571 rfl (lv_at hl 2 rfl) ?_
        refine lv_icmp_ne (tgt := 601) hx hb dL_refuses_572 (by decide) (fun c572 => ?_) (fun c572 => ?_)
        · have hf := cn_f c572 hf
          exact J_601 C_559 hf cs ss (by omega) (by omega) H locs ls hW hS (lv_sub hl [] rfl)
        · have hf := cn_t c572 hf
          refine lv_aload_n hx hb dL_refuses_575 rfl (lv_at hl 0 rfl) ?_
          refine gk0_i hS (gv_run (rest := []) S hG hW hS [] (c_X7_keys l Γ C_559 M) pk_X7_keys ml_L_105 (Nat.le_of_ble_eq_true rfl) rfl rfl rfl rfl ⟨Nat.le_of_ble_eq_true rfl, Nat.le_of_ble_eq_true rfl⟩ rfl hl.1 rfl (Nat.le_of_ble_eq_true rfl) dL_refuses_576 ⟨by show cs + 0 ≤ 345; omega, by show ss + 0 ≤ 2070; omega⟩) (fun H locs hW hS => ?_)
          refine lv_iload hx hb dL_refuses_579 (lv_at hl 3 rfl) ?_
          refine lv_icmp_ne (tgt := 601) hx hb dL_refuses_581 (by decide) (fun c581 => ?_) (fun c581 => ?_)
          · have hf := cn_f c581 hf
            exact J_601 C_559 hf cs ss (by omega) (by omega) H locs ls hW hS (lv_sub hl [] rfl)
          · have hf := cn_t c581 hf
            refine lv_aload_n hx hb dL_refuses_584 rfl (lv_at hl 0 rfl) ?_
            refine lv_iconst (v := (0 : Int32)) hx hb dL_refuses_585 (by decide) ?_
            obtain ⟨q586, hq586, hf⟩ := bnd_e hf
            refine gxk_i hS (gvx_run (rest := []) S hG hW hS [.int (0 : Int32)] (c_X7_affectedBy l hl0 Γ C_559 M (0 : Int32) hq586) pk_X7_affectedBy rfl ml_L_46 rfl rfl ⟨Nat.le_of_ble_eq_true rfl, Nat.le_of_ble_eq_true rfl⟩ rfl hl.1 rfl (Nat.le_of_ble_eq_true rfl) dL_refuses_586 ⟨by show cs + 1 ≤ 345; omega, by show ss + 6 ≤ 2070; omega⟩) (fun H locs k9 ce9 z9 hW hS e9 hce hcv hcl => by have hf := sw_r e9 hf; cases hf) (fun H locs v586 hW hS e9 => ?_)
            have hf := sw_l e9 hf
            refine lv_aload_n hx hb dL_refuses_589 rfl (lv_at hl 0 rfl) ?_
            refine lv_iconst (v := (0 : Int32)) hx hb dL_refuses_590 (by decide) ?_
            obtain ⟨q591, hq591, hf⟩ := bnd_e hf
            refine gxk_i hS (gvx_run (rest := [.int v586]) S hG hW hS [.int (0 : Int32)] (c_X7_affectedByGoingDown l hl0 Γ C_559 M (0 : Int32) hq591) pk_X7_affectedByGoingDown rfl ml_L_49 rfl rfl ⟨Nat.le_of_ble_eq_true rfl, Nat.le_of_ble_eq_true rfl⟩ rfl hl.1 rfl (Nat.le_of_ble_eq_true rfl) dL_refuses_591 ⟨by show (cs + 1) + 1 ≤ 345; omega, by show (ss + 6) + 6 ≤ 2070; omega⟩) (fun H locs k9 ce9 z9 hW hS e9 hce hcv hcl => by have hf := sw_r e9 hf; cases hf) (fun H locs v591 hW hS e9 => ?_)
            have hf := sw_l e9 hf
            refine lv_icmp_ne (tgt := 601) hx hb dL_refuses_594 (by decide) (fun c594 => ?_) (fun c594 => ?_)
            · have hf := cn_f c594 hf
              exact J_601 C_559 hf (cs + 2) (ss + 12) (by omega) (by omega) H locs ls hW hS (lv_sub hl [] rfl)
            · have hf := cn_t c594 hf
              refine lv_iconst (v := (1 : Int32)) hx hb dL_refuses_597 (by decide) ?_
              refine lv_goto (tgt := 602) hx hb dL_refuses_598 (by decide) ?_
              have e9 := Option.some.inj hf
              subst e9
              exact hret _ _ _ _ _ _ _ hW hS rfl rfl (by show (cs + 2) ≤ 345; omega) (by show (ss + 12) ≤ 2070; omega) dL_refuses_602
    refine lv_icmp_ge (tgt := 559) hx hb dL_refuses_26 (by decide) (fun c26 => ?_) (fun c26 => ?_)
    · have hf := cn_t c26 hf
      obtain ⟨z26, hf, ez⟩ := exR_e hf
      rw [kX1 _ ez] at hf
      exact J_559 t_23.1 hf cs ss (by omega) (by omega) H locs ls hW hS (lv_sub hl [0, 2, 3, 4] rfl)
    · have hf := cn_f c26 hf
      have r23 := rmn_s c26
      refine lv_iload hx hb dL_refuses_29 (lv_at hl 6 rfl) ?_
      have J_54 : ∀ (C_54 : Mem) (s0_54 : Int32) , fL_refuses_54 a2 t_23 v14 v4 v9 C_54 s0_54 = some y1 → ∀ (cs ss : Nat), cs + 69 * rmn (4 : Int32) t_23.2 ≤ 276 → ss + 414 * rmn (4 : Int32) t_23.2 ≤ 1656 → ∀ (H : Heap) (locs : List Loc) (ls : Array Slot), gx_W Γ C_54 M H → va_S (gA Γ) s.heap H locs → lv_has ls 14 [(0, .ref (Γ.1 0)), (1, .int a2), (2, .int v4), (3, .int v9), (4, .int v14), (5, .int (2147483647 : Int32)), (6, .int t_23.2)] → W p l e rm_L_refuses s m args below meth c H locs cs ss Q (F0 m 54 ls [.int s0_54]) := by
        intro C_54 s0_54 hf cs ss hcs hss H locs ls hW hS hl
        unfold fL_refuses_54 at hf
        refine lv_istore (lv' := [(7, .int s0_54), (0, .ref (Γ.1 0)), (1, .int a2), (2, .int v4), (3, .int v9), (4, .int v14), (5, .int (2147483647 : Int32)), (6, .int t_23.2)]) hx hb dL_refuses_54 hl (by decide) rfl (fun ls hl => ?_)
        refine lv_iload hx hb dL_refuses_56 (lv_at hl 7 rfl) ?_
        refine lv_iconst (v := (1 : Int32)) hx hb dL_refuses_58 (by decide) ?_
        have J_68 : ∀ (C_68 : Mem) (s0_68 : Int32) , fL_refuses_68 a2 s0_54 t_23 v14 v4 v9 C_68 s0_68 = some y1 → ∀ (cs ss : Nat), cs + 69 * rmn (4 : Int32) t_23.2 ≤ 276 → ss + 414 * rmn (4 : Int32) t_23.2 ≤ 1656 → ∀ (H : Heap) (locs : List Loc) (ls : Array Slot), gx_W Γ C_68 M H → va_S (gA Γ) s.heap H locs → lv_has ls 14 [(0, .ref (Γ.1 0)), (1, .int a2), (2, .int v4), (3, .int v9), (4, .int v14), (5, .int (2147483647 : Int32)), (6, .int t_23.2), (7, .int s0_54)] → W p l e rm_L_refuses s m args below meth c H locs cs ss Q (F0 m 68 ls [.int s0_68]) := by
          intro C_68 s0_68 hf cs ss hcs hss H locs ls hW hS hl
          unfold fL_refuses_68 at hf
          refine lv_istore (lv' := [(8, .int s0_68), (0, .ref (Γ.1 0)), (1, .int a2), (2, .int v4), (3, .int v9), (4, .int v14), (5, .int (2147483647 : Int32)), (6, .int t_23.2), (7, .int s0_54)]) hx hb dL_refuses_68 hl (by decide) rfl (fun ls hl => ?_)
          refine lv_iload hx hb dL_refuses_70 (lv_at hl 7 rfl) ?_
          refine lv_iconst (v := (1 : Int32)) hx hb dL_refuses_72 (by decide) ?_
          have J_82 : ∀ (C_82 : Mem) (s0_82 : Int32) , fL_refuses_82 a2 s0_54 s0_68 t_23 v14 v4 v9 C_82 s0_82 = some y1 → ∀ (cs ss : Nat), cs + 69 * rmn (4 : Int32) t_23.2 ≤ 276 → ss + 414 * rmn (4 : Int32) t_23.2 ≤ 1656 → ∀ (H : Heap) (locs : List Loc) (ls : Array Slot), gx_W Γ C_82 M H → va_S (gA Γ) s.heap H locs → lv_has ls 14 [(0, .ref (Γ.1 0)), (1, .int a2), (2, .int v4), (3, .int v9), (4, .int v14), (5, .int (2147483647 : Int32)), (6, .int t_23.2), (7, .int s0_54), (8, .int s0_68)] → W p l e rm_L_refuses s m args below meth c H locs cs ss Q (F0 m 82 ls [.int s0_82]) := by
            intro C_82 s0_82 hf cs ss hcs hss H locs ls hW hS hl
            unfold fL_refuses_82 at hf
            refine lv_istore (lv' := [(9, .int s0_82), (0, .ref (Γ.1 0)), (1, .int a2), (2, .int v4), (3, .int v9), (4, .int v14), (5, .int (2147483647 : Int32)), (6, .int t_23.2), (7, .int s0_54), (8, .int s0_68)]) hx hb dL_refuses_82 hl (by decide) rfl (fun ls hl => ?_)
            refine lv_iload hx hb dL_refuses_84 (lv_at hl 7 rfl) ?_
            refine lv_iconst (v := (1 : Int32)) hx hb dL_refuses_86 (by decide) ?_
            have J_98 : ∀ (C_98 : Mem) (s0_98 : Int32) , fL_refuses_98 a2 s0_54 s0_68 s0_82 t_23 v14 v4 v9 C_98 s0_98 = some y1 → ∀ (cs ss : Nat), cs + 69 * rmn (4 : Int32) t_23.2 ≤ 276 → ss + 414 * rmn (4 : Int32) t_23.2 ≤ 1656 → ∀ (H : Heap) (locs : List Loc) (ls : Array Slot), gx_W Γ C_98 M H → va_S (gA Γ) s.heap H locs → lv_has ls 14 [(0, .ref (Γ.1 0)), (1, .int a2), (2, .int v4), (3, .int v9), (4, .int v14), (5, .int (2147483647 : Int32)), (6, .int t_23.2), (7, .int s0_54), (8, .int s0_68), (9, .int s0_82)] → W p l e rm_L_refuses s m args below meth c H locs cs ss Q (F0 m 98 ls [.int s0_98]) := by
              intro C_98 s0_98 hf cs ss hcs hss H locs ls hW hS hl
              unfold fL_refuses_98 at hf
              refine lv_istore (lv' := [(10, .int s0_98), (0, .ref (Γ.1 0)), (1, .int a2), (2, .int v4), (3, .int v9), (4, .int v14), (5, .int (2147483647 : Int32)), (6, .int t_23.2), (7, .int s0_54), (8, .int s0_68), (9, .int s0_82)]) hx hb dL_refuses_98 hl (by decide) rfl (fun ls hl => ?_)
              refine lv_iload hx hb dL_refuses_100 (lv_at hl 7 rfl) ?_
              have J_122 : ∀ (C_122 : Mem) (s0_122 : Int32) , fL_refuses_122 a2 s0_54 s0_68 s0_82 s0_98 t_23 v14 v4 v9 C_122 s0_122 = some y1 → ∀ (cs ss : Nat), cs + 69 * rmn (4 : Int32) t_23.2 ≤ 276 → ss + 414 * rmn (4 : Int32) t_23.2 ≤ 1656 → ∀ (H : Heap) (locs : List Loc) (ls : Array Slot), gx_W Γ C_122 M H → va_S (gA Γ) s.heap H locs → lv_has ls 14 [(0, .ref (Γ.1 0)), (1, .int a2), (2, .int v4), (3, .int v9), (4, .int v14), (5, .int (2147483647 : Int32)), (6, .int t_23.2), (7, .int s0_54), (8, .int s0_68), (9, .int s0_82), (10, .int s0_98)] → W p l e rm_L_refuses s m args below meth c H locs cs ss Q (F0 m 122 ls [.int s0_122]) := by
                intro C_122 s0_122 hf cs ss hcs hss H locs ls hW hS hl
                unfold fL_refuses_122 at hf
                refine lv_istore (lv' := [(11, .int s0_122), (0, .ref (Γ.1 0)), (1, .int a2), (2, .int v4), (3, .int v9), (4, .int v14), (5, .int (2147483647 : Int32)), (6, .int t_23.2), (7, .int s0_54), (8, .int s0_68), (9, .int s0_82), (10, .int s0_98)]) hx hb dL_refuses_122 hl (by decide) rfl (fun ls hl => ?_)
                refine lv_aload_n hx hb dL_refuses_124 rfl (lv_at hl 1 rfl) ?_
                refine lv_iconst (v := (1 : Int32)) hx hb dL_refuses_125 (by decide) ?_
                refine lv_iload hx hb dL_refuses_126 (lv_at hl 11 rfl) ?_
                refine lv_iconst (v := (0 : Int32)) hx hb dL_refuses_128 (by decide) ?_
                obtain ⟨q129, hq129, hf⟩ := bnd_e hf
                refine gk_i hS (gsw_run (rest := []) S hG hW hS [.ref (Γ.1 0), .int (1 : Int32), .int s0_98, .int (0 : Int32)] (c_L_act l hl0 Γ C_122 M (1 : Int32) s0_98 (0 : Int32) hq129) pk_L_act ml_L_86 rfl rfl ⟨Nat.le_of_ble_eq_true rfl, Nat.le_of_ble_eq_true rfl⟩ rfl hl.1 rfl (Nat.le_of_ble_eq_true rfl) dL_refuses_129 ⟨by show cs + 3 ≤ 345; omega, by show ss + 18 ≤ 2070; omega⟩) (fun H locs hW hS => ?_)
                refine lv_bipush (v := (-32 : Int32)) hx hb dL_refuses_132 (by decide) ?_
                have J_387 : ∀ (C_387 : Mem) (s0_387 : Int32) , fL_refuses_387 a2 s0_82 t_23 v14 v4 v9 C_387 s0_387 = some y1 → ∀ (cs ss : Nat), cs + 69 * rmn (4 : Int32) t_23.2 ≤ 321 → ss + 414 * rmn (4 : Int32) t_23.2 ≤ 1926 → ∀ (H : Heap) (locs : List Loc) (ls : Array Slot), gx_W Γ C_387 M H → va_S (gA Γ) s.heap H locs → lv_has ls 14 [(0, .ref (Γ.1 0)), (1, .int a2), (2, .int v4), (3, .int v9), (4, .int v14), (5, .int (2147483647 : Int32)), (6, .int t_23.2), (9, .int s0_82)] → W p l e rm_L_refuses s m args below meth c H locs cs ss Q (F0 m 387 ls [.int s0_387]) := by
                  intro C_387 s0_387 hf cs ss hcs hss H locs ls hW hS hl
                  unfold fL_refuses_387 at hf
                  refine lv_istore (lv' := [(12, .int s0_387), (0, .ref (Γ.1 0)), (1, .int a2), (2, .int v4), (3, .int v9), (4, .int v14), (5, .int (2147483647 : Int32)), (6, .int t_23.2), (9, .int s0_82)]) hx hb dL_refuses_387 hl (by decide) rfl (fun ls hl => ?_)
                  refine lv_bipush (v := (8 : Int32)) hx hb dL_refuses_389 (by decide) ?_
                  refine lv_istore (lv' := [(13, .int (8 : Int32)), (12, .int s0_387), (0, .ref (Γ.1 0)), (1, .int a2), (2, .int v4), (3, .int v9), (4, .int v14), (5, .int (2147483647 : Int32)), (6, .int t_23.2), (9, .int s0_82)]) hx hb dL_refuses_391 hl (by decide) rfl (fun ls hl => ?_)
                  have J_393 : ∀  (t_393 : Mem × Int32 × Int32), lp (fL_refuses_393 a2 s0_82 t_23 v14 v4 v9) t_393 = some y1 → ∀ (cs ss : Nat), cs + 69 * rmn (4 : Int32) t_23.2 + 3 * rmn (11 : Int32) t_393.2.2 ≤ 330 → ss + 414 * rmn (4 : Int32) t_23.2 + 18 * rmn (11 : Int32) t_393.2.2 ≤ 1980 → ∀ (H : Heap) (locs : List Loc) (ls : Array Slot), gx_W Γ t_393.1 M H → va_S (gA Γ) s.heap H locs → lv_has ls 14 [(0, .ref (Γ.1 0)), (1, .int a2), (2, .int v4), (3, .int v9), (4, .int v14), (5, .int (2147483647 : Int32)), (6, .int t_23.2), (9, .int s0_82), (12, .int t_393.2.1), (13, .int t_393.2.2)] → W p l e rm_L_refuses s m args below meth c H locs cs ss Q (F0 m 393 ls []) := by
                    refine lp_ind (P := fun (t_393 : Mem × Int32 × Int32) => ∀ (cs ss : Nat), cs + 69 * rmn (4 : Int32) t_23.2 + 3 * rmn (11 : Int32) t_393.2.2 ≤ 330 → ss + 414 * rmn (4 : Int32) t_23.2 + 18 * rmn (11 : Int32) t_393.2.2 ≤ 1980 → ∀ (H : Heap) (locs : List Loc) (ls : Array Slot), gx_W Γ t_393.1 M H → va_S (gA Γ) s.heap H locs → lv_has ls 14 [(0, .ref (Γ.1 0)), (1, .int a2), (2, .int v4), (3, .int v9), (4, .int v14), (5, .int (2147483647 : Int32)), (6, .int t_23.2), (9, .int s0_82), (12, .int t_393.2.1), (13, .int t_393.2.2)] → W p l e rm_L_refuses s m args below meth c H locs cs ss Q (F0 m 393 ls [])) ?_
                    intro t_393 y2 hf kI2 kX2 cs ss hcs hss H locs ls hW hS hl
                    unfold fL_refuses_393 at hf
                    refine lv_iload hx hb dL_refuses_393 (lv_at hl 9 rfl) ?_
                    refine lv_bipush (v := (11 : Int32)) hx hb dL_refuses_395 (by decide) ?_
                    have J_432 : ∀ (C_432 : Mem) , fL_refuses_432 a2 s0_82 t_23 t_393 v14 v4 v9 C_432 = some y1 → ∀ (cs ss : Nat), cs + 69 * rmn (4 : Int32) t_23.2 ≤ 330 → ss + 414 * rmn (4 : Int32) t_23.2 ≤ 1980 → ∀ (H : Heap) (locs : List Loc) (ls : Array Slot), gx_W Γ C_432 M H → va_S (gA Γ) s.heap H locs → lv_has ls 14 [(0, .ref (Γ.1 0)), (1, .int a2), (2, .int v4), (3, .int v9), (4, .int v14), (5, .int (2147483647 : Int32)), (6, .int t_23.2), (9, .int s0_82), (12, .int t_393.2.1)] → W p l e rm_L_refuses s m args below meth c H locs cs ss Q (F0 m 432 ls []) := by
                      intro C_432 hf cs ss hcs hss H locs ls hW hS hl
                      unfold fL_refuses_432 at hf
                      refine lv_bipush (v := (13 : Int32)) hx hb dL_refuses_432 (by decide) ?_
                      refine lv_istore (lv' := [(13, .int (13 : Int32)), (0, .ref (Γ.1 0)), (1, .int a2), (2, .int v4), (3, .int v9), (4, .int v14), (5, .int (2147483647 : Int32)), (6, .int t_23.2), (9, .int s0_82), (12, .int t_393.2.1)]) hx hb dL_refuses_434 hl (by decide) rfl (fun ls hl => ?_)
                      have J_436 : ∀  (t_436 : Mem × Int32 × Int32), lp (fL_refuses_436 a2 s0_82 t_23 v14 v4 v9) t_436 = some y1 → ∀ (cs ss : Nat), cs + 69 * rmn (4 : Int32) t_23.2 + 3 * rmn (16 : Int32) t_436.2.2 ≤ 339 → ss + 414 * rmn (4 : Int32) t_23.2 + 18 * rmn (16 : Int32) t_436.2.2 ≤ 2034 → ∀ (H : Heap) (locs : List Loc) (ls : Array Slot), gx_W Γ t_436.1 M H → va_S (gA Γ) s.heap H locs → lv_has ls 14 [(0, .ref (Γ.1 0)), (1, .int a2), (2, .int v4), (3, .int v9), (4, .int v14), (5, .int (2147483647 : Int32)), (6, .int t_23.2), (9, .int s0_82), (12, .int t_436.2.1), (13, .int t_436.2.2)] → W p l e rm_L_refuses s m args below meth c H locs cs ss Q (F0 m 436 ls []) := by
                        refine lp_ind (P := fun (t_436 : Mem × Int32 × Int32) => ∀ (cs ss : Nat), cs + 69 * rmn (4 : Int32) t_23.2 + 3 * rmn (16 : Int32) t_436.2.2 ≤ 339 → ss + 414 * rmn (4 : Int32) t_23.2 + 18 * rmn (16 : Int32) t_436.2.2 ≤ 2034 → ∀ (H : Heap) (locs : List Loc) (ls : Array Slot), gx_W Γ t_436.1 M H → va_S (gA Γ) s.heap H locs → lv_has ls 14 [(0, .ref (Γ.1 0)), (1, .int a2), (2, .int v4), (3, .int v9), (4, .int v14), (5, .int (2147483647 : Int32)), (6, .int t_23.2), (9, .int s0_82), (12, .int t_436.2.1), (13, .int t_436.2.2)] → W p l e rm_L_refuses s m args below meth c H locs cs ss Q (F0 m 436 ls [])) ?_
                        intro t_436 y2 hf kI2 kX2 cs ss hcs hss H locs ls hW hS hl
                        unfold fL_refuses_436 at hf
                        refine lv_iload hx hb dL_refuses_436 (lv_at hl 9 rfl) ?_
                        refine lv_bipush (v := (16 : Int32)) hx hb dL_refuses_438 (by decide) ?_
                        have J_475 : ∀ (C_475 : Mem) , fL_refuses_475 a2 s0_82 t_23 t_436 v14 v4 v9 C_475 = some y1 → ∀ (cs ss : Nat), cs + 69 * rmn (4 : Int32) t_23.2 ≤ 339 → ss + 414 * rmn (4 : Int32) t_23.2 ≤ 2034 → ∀ (H : Heap) (locs : List Loc) (ls : Array Slot), gx_W Γ C_475 M H → va_S (gA Γ) s.heap H locs → lv_has ls 14 [(0, .ref (Γ.1 0)), (1, .int a2), (2, .int v4), (3, .int v9), (4, .int v14), (5, .int (2147483647 : Int32)), (6, .int t_23.2), (9, .int s0_82), (12, .int t_436.2.1)] → W p l e rm_L_refuses s m args below meth c H locs cs ss Q (F0 m 475 ls []) := by
                          intro C_475 hf cs ss hcs hss H locs ls hW hS hl
                          unfold fL_refuses_475 at hf
                          refine lv_iload hx hb dL_refuses_475 (lv_at hl 8 rfl) ?_
                          have J_544 : ∀ (C_544 : Mem) (s0_544 : Int32) , fL_refuses_544 a2 t_23 v14 v4 v9 C_544 s0_544 = some y1 → ∀ (cs ss : Nat), cs + 69 * rmn (4 : Int32) t_23.2 ≤ 345 → ss + 414 * rmn (4 : Int32) t_23.2 ≤ 2070 → ∀ (H : Heap) (locs : List Loc) (ls : Array Slot), gx_W Γ C_544 M H → va_S (gA Γ) s.heap H locs → lv_has ls 14 [(0, .ref (Γ.1 0)), (1, .int a2), (2, .int v4), (3, .int v9), (4, .int v14), (5, .int (2147483647 : Int32)), (6, .int t_23.2)] → W p l e rm_L_refuses s m args below meth c H locs cs ss Q (F0 m 544 ls [.int s0_544]) := by
                            intro C_544 s0_544 hf cs ss hcs hss H locs ls hW hS hl
                            unfold fL_refuses_544 at hf
                            refine lv_istore (lv' := [(12, .int s0_544), (0, .ref (Γ.1 0)), (1, .int a2), (2, .int v4), (3, .int v9), (4, .int v14), (5, .int (2147483647 : Int32)), (6, .int t_23.2)]) hx hb dL_refuses_544 hl (by decide) rfl (fun ls hl => ?_)
                            refine lv_iload hx hb dL_refuses_546 (lv_at hl 0 rfl) ?_
                            have J_553 : ∀ (C_553 : Mem) , fL_refuses_553 a2 t_23 v14 v4 v9 C_553 = some y1 → ∀ (cs ss : Nat), cs + 69 * rmn (4 : Int32) t_23.2 ≤ 345 → ss + 414 * rmn (4 : Int32) t_23.2 ≤ 2070 → ∀ (H : Heap) (locs : List Loc) (ls : Array Slot), gx_W Γ C_553 M H → va_S (gA Γ) s.heap H locs → lv_has ls 14 [(0, .ref (Γ.1 0)), (1, .int a2), (2, .int v4), (3, .int v9), (4, .int v14), (5, .int (2147483647 : Int32)), (6, .int t_23.2)] → W p l e rm_L_refuses s m args below meth c H locs cs ss Q (F0 m 553 ls []) := by
                              intro C_553 hf cs ss hcs hss H locs ls hW hS hl
                              unfold fL_refuses_553 at hf
                              refine lv_iinc (v := (t_23.2 + (1 : Int32))) (lv' := [(6, .int (t_23.2 + (1 : Int32))), (0, .ref (Γ.1 0)), (1, .int a2), (2, .int v4), (3, .int v9), (4, .int v14), (5, .int (2147483647 : Int32))]) hx hb dL_refuses_553 hl (k := 6) rfl rfl (by decide) rfl (fun ls hl => ?_)
                              refine lv_goto (tgt := 23) hx hb dL_refuses_556 (by decide) ?_
                              exact kI1 _ (Option.some.inj hf).symm cs ss (by show cs + 69 * rmn (4 : Int32) (t_23.2 + (1 : Int32)) ≤ 276; omega) (by show ss + 414 * rmn (4 : Int32) (t_23.2 + (1 : Int32)) ≤ 1656; omega) H locs ls hW hS (lv_sub hl [1, 2, 3, 4, 5, 6, 0] rfl)
                            refine lv_if_ne (tgt := 553) hx hb dL_refuses_548 (by decide) (fun c548 => ?_) (fun c548 => ?_)
                            · have hf := cn_f c548 hf
                              exact J_553 C_544 hf cs ss (by omega) (by omega) H locs ls hW hS (lv_sub hl [1, 2, 3, 4, 5, 6, 7] rfl)
                            · have hf := cn_t c548 hf
                              obtain ⟨z548, hf, ez⟩ := exR_e hf
                              rw [kX1 _ ez] at hf
                              refine lv_iconst (v := (0 : Int32)) hx hb dL_refuses_551 (by decide) ?_
                              have e9 := Option.some.inj hf
                              subst e9
                              exact hret _ _ _ _ _ _ _ hW hS rfl rfl (by show cs ≤ 345; omega) (by show ss ≤ 2070; omega) dL_refuses_552
                          have J_543 : ∀ (C_543 : Mem) , fL_refuses_543 a2 t_23 v14 v4 v9 C_543 = some y1 → ∀ (cs ss : Nat), cs + 69 * rmn (4 : Int32) t_23.2 ≤ 345 → ss + 414 * rmn (4 : Int32) t_23.2 ≤ 2070 → ∀ (H : Heap) (locs : List Loc) (ls : Array Slot), gx_W Γ C_543 M H → va_S (gA Γ) s.heap H locs → lv_has ls 14 [(0, .ref (Γ.1 0)), (1, .int a2), (2, .int v4), (3, .int v9), (4, .int v14), (5, .int (2147483647 : Int32)), (6, .int t_23.2)] → W p l e rm_L_refuses s m args below meth c H locs cs ss Q (F0 m 543 ls []) := by
                            intro C_543 hf cs ss hcs hss H locs ls hW hS hl
                            unfold fL_refuses_543 at hf
                            refine lv_iconst (v := (0 : Int32)) hx hb dL_refuses_543 (by decide) ?_
                            exact J_544 C_543 (0 : Int32) hf cs ss (by omega) (by omega) H locs ls hW hS (lv_sub hl [0, 1, 2, 3, 4, 5, 6] rfl)
                          refine lv_if_eq (tgt := 543) hx hb dL_refuses_477 (by decide) (fun c477 => ?_) (fun c477 => ?_)
                          · have hf := cn_t c477 hf
                            exact J_543 C_475 hf cs ss (by omega) (by omega) H locs ls hW hS (lv_sub hl [0, 1, 2, 3, 4, 5, 6] rfl)
                          · have hf := cn_f c477 hf
                            refine lv_aload_n hx hb dL_refuses_480 rfl (lv_at hl 0 rfl) ?_
                            refine lv_bipush (v := (6 : Int32)) hx hb dL_refuses_481 (by decide) ?_
                            refine lv_iload hx hb dL_refuses_483 (lv_at hl 7 rfl) ?_
                            refine lv_iconst (v := (0 : Int32)) hx hb dL_refuses_485 (by decide) ?_
                            obtain ⟨q486, hq486, hf⟩ := bnd_e hf
                            refine gk_i hS (gsw_run (rest := []) S hG hW hS [.ref (Γ.1 0), .int (6 : Int32), .int s0_82, .int (0 : Int32)] (c_L_act l hl0 Γ C_475 M (6 : Int32) s0_82 (0 : Int32) hq486) pk_L_act ml_L_86 rfl rfl ⟨Nat.le_of_ble_eq_true rfl, Nat.le_of_ble_eq_true rfl⟩ rfl hl.1 rfl (Nat.le_of_ble_eq_true rfl) dL_refuses_486 ⟨by show cs + 3 ≤ 345; omega, by show ss + 18 ≤ 2070; omega⟩) (fun H locs hW hS => ?_)
                            refine lv_bipush (v := (-31 : Int32)) hx hb dL_refuses_489 (by decide) ?_
                            refine lv_icmp_ne (tgt := 543) hx hb dL_refuses_491 (by decide) (fun c491 => ?_) (fun c491 => ?_)
                            · have hf := cn_f c491 hf
                              exact J_543 q486.2 hf (cs + 3) (ss + 18) (by omega) (by omega) H locs ls hW hS (lv_sub hl [0, 1, 2, 3, 4, 5, 6] rfl)
                            · have hf := cn_t c491 hf
                              refine lv_aload_n hx hb dL_refuses_494 rfl (lv_at hl 0 rfl) ?_
                              refine lv_iconst (v := (0 : Int32)) hx hb dL_refuses_495 (by decide) ?_
                              refine lv_iload hx hb dL_refuses_496 (lv_at hl 6 rfl) ?_
                              have J_530 : ∀ (C_530 : Mem) (s0_530 : Int32) (s1_530 : Int32) , fL_refuses_530 a2 t_23 v14 v4 v9 C_530 s0_530 s1_530 = some y1 → ∀ (cs ss : Nat), cs + 69 * rmn (4 : Int32) t_23.2 ≤ 342 → ss + 414 * rmn (4 : Int32) t_23.2 ≤ 2052 → ∀ (H : Heap) (locs : List Loc) (ls : Array Slot), gx_W Γ C_530 M H → va_S (gA Γ) s.heap H locs → lv_has ls 14 [(0, .ref (Γ.1 0)), (1, .int a2), (2, .int v4), (3, .int v9), (4, .int v14), (5, .int (2147483647 : Int32)), (6, .int t_23.2)] → W p l e rm_L_refuses s m args below meth c H locs cs ss Q (F0 m 530 ls [.int s0_530, .int s1_530, .ref (Γ.1 0)]) := by
                                intro C_530 s0_530 s1_530 hf cs ss hcs hss H locs ls hW hS hl
                                unfold fL_refuses_530 at hf
                                refine lv_iconst (v := (0 : Int32)) hx hb dL_refuses_530 (by decide) ?_
                                obtain ⟨q531, hq531, hf⟩ := bnd_e hf
                                refine gk_i hS (gsw_run (rest := []) S hG hW hS [.ref (Γ.1 0), .int s1_530, .int s0_530, .int (0 : Int32)] (c_L_act l hl0 Γ C_530 M s1_530 s0_530 (0 : Int32) hq531) pk_L_act ml_L_86 rfl rfl ⟨Nat.le_of_ble_eq_true rfl, Nat.le_of_ble_eq_true rfl⟩ rfl hl.1 rfl (Nat.le_of_ble_eq_true rfl) dL_refuses_531 ⟨by show cs + 3 ≤ 345; omega, by show ss + 18 ≤ 2070; omega⟩) (fun H locs hW hS => ?_)
                                refine lv_bipush (v := (-32 : Int32)) hx hb dL_refuses_534 (by decide) ?_
                                refine lv_icmp_ne (tgt := 543) hx hb dL_refuses_536 (by decide) (fun c536 => ?_) (fun c536 => ?_)
                                · have hf := cn_f c536 hf
                                  exact J_543 q531.2 hf (cs + 3) (ss + 18) (by omega) (by omega) H locs ls hW hS (lv_sub hl [0, 1, 2, 3, 4, 5, 6] rfl)
                                · have hf := cn_t c536 hf
                                  refine lv_iconst (v := (1 : Int32)) hx hb dL_refuses_539 (by decide) ?_
                                  refine lv_goto (tgt := 544) hx hb dL_refuses_540 (by decide) ?_
                                  exact J_544 q531.2 (1 : Int32) hf (cs + 3) (ss + 18) (by omega) (by omega) H locs ls hW hS (lv_sub hl [0, 1, 2, 3, 4, 5, 6] rfl)
                              refine lv_if_ne (tgt := 506) hx hb dL_refuses_498 (by decide) (fun c498 => ?_) (fun c498 => ?_)
                              · have hf := cn_f c498 hf
                                refine lv_iload hx hb dL_refuses_506 (lv_at hl 6 rfl) ?_
                                refine lv_iconst (v := (1 : Int32)) hx hb dL_refuses_508 (by decide) ?_
                                refine lv_icmp_ne (tgt := 517) hx hb dL_refuses_509 (by decide) (fun c509 => ?_) (fun c509 => ?_)
                                · have hf := cn_f c509 hf
                                  refine lv_iload hx hb dL_refuses_517 (lv_at hl 6 rfl) ?_
                                  refine lv_iconst (v := (2 : Int32)) hx hb dL_refuses_519 (by decide) ?_
                                  refine lv_icmp_ne (tgt := 528) hx hb dL_refuses_520 (by decide) (fun c520 => ?_) (fun c520 => ?_)
                                  · have hf := cn_f c520 hf
                                    refine lv_bipush (v := (48 : Int32)) hx hb dL_refuses_528 (by decide) ?_
                                    exact J_530 q486.2 (48 : Int32) (0 : Int32) hf (cs + 3) (ss + 18) (by omega) (by omega) H locs ls hW hS (lv_sub hl [0, 1, 2, 3, 4, 5, 6] rfl)
                                  · have hf := cn_t c520 hf
                                    refine lv_bipush (v := (123 : Int32)) hx hb dL_refuses_523 (by decide) ?_
                                    refine lv_goto (tgt := 530) hx hb dL_refuses_525 (by decide) ?_
                                    exact J_530 q486.2 (123 : Int32) (0 : Int32) hf (cs + 3) (ss + 18) (by omega) (by omega) H locs ls hW hS (lv_sub hl [0, 1, 2, 3, 4, 5, 6] rfl)
                                · have hf := cn_t c509 hf
                                  refine lv_bipush (v := (46 : Int32)) hx hb dL_refuses_512 (by decide) ?_
                                  refine lv_goto (tgt := 530) hx hb dL_refuses_514 (by decide) ?_
                                  exact J_530 q486.2 (46 : Int32) (0 : Int32) hf (cs + 3) (ss + 18) (by omega) (by omega) H locs ls hW hS (lv_sub hl [0, 1, 2, 3, 4, 5, 6] rfl)
                              · have hf := cn_t c498 hf
                                refine lv_bipush (v := (65 : Int32)) hx hb dL_refuses_501 (by decide) ?_
                                refine lv_goto (tgt := 530) hx hb dL_refuses_503 (by decide) ?_
                                exact J_530 q486.2 (65 : Int32) (0 : Int32) hf (cs + 3) (ss + 18) (by omega) (by omega) H locs ls hW hS (lv_sub hl [0, 1, 2, 3, 4, 5, 6] rfl)
                        refine lv_icmp_ge (tgt := 475) hx hb dL_refuses_440 (by decide) (fun c440 => ?_) (fun c440 => ?_)
                        · have hf := cn_t c440 hf
                          obtain ⟨z440, hf, ez⟩ := exR_e hf
                          rw [kX2 _ ez] at hf
                          exact J_475 t_436.1 hf cs ss (by omega) (by omega) H locs ls hW hS (lv_sub hl [0, 1, 2, 3, 4, 5, 6, 7, 8] rfl)
                        · have hf := cn_f c440 hf
                          have r436 := rmn_s c440
                          refine lv_iload hx hb dL_refuses_443 (lv_at hl 8 rfl) ?_
                          have J_467 : ∀ (C_467 : Mem) (s0_467 : Int32) , fL_refuses_467 a2 s0_82 t_23 t_436 v14 v4 v9 C_467 s0_467 = some y2 → ∀ (cs ss : Nat), cs + 69 * rmn (4 : Int32) t_23.2 + 3 * rmn (16 : Int32) t_436.2.2 ≤ 342 → ss + 414 * rmn (4 : Int32) t_23.2 + 18 * rmn (16 : Int32) t_436.2.2 ≤ 2052 → ∀ (H : Heap) (locs : List Loc) (ls : Array Slot), gx_W Γ C_467 M H → va_S (gA Γ) s.heap H locs → lv_has ls 14 [(0, .ref (Γ.1 0)), (1, .int a2), (2, .int v4), (3, .int v9), (4, .int v14), (5, .int (2147483647 : Int32)), (6, .int t_23.2), (9, .int s0_82), (13, .int t_436.2.2)] → W p l e rm_L_refuses s m args below meth c H locs cs ss Q (F0 m 467 ls [.int s0_467]) := by
                            intro C_467 s0_467 hf cs ss hcs hss H locs ls hW hS hl
                            unfold fL_refuses_467 at hf
                            refine lv_istore (lv' := [(12, .int s0_467), (0, .ref (Γ.1 0)), (1, .int a2), (2, .int v4), (3, .int v9), (4, .int v14), (5, .int (2147483647 : Int32)), (6, .int t_23.2), (9, .int s0_82), (13, .int t_436.2.2)]) hx hb dL_refuses_467 hl (by decide) rfl (fun ls hl => ?_)
                            refine lv_iinc (v := (t_436.2.2 + (1 : Int32))) (lv' := [(13, .int (t_436.2.2 + (1 : Int32))), (12, .int s0_467), (0, .ref (Γ.1 0)), (1, .int a2), (2, .int v4), (3, .int v9), (4, .int v14), (5, .int (2147483647 : Int32)), (6, .int t_23.2), (9, .int s0_82)]) hx hb dL_refuses_469 hl (k := 9) rfl rfl (by decide) rfl (fun ls hl => ?_)
                            refine lv_goto (tgt := 436) hx hb dL_refuses_472 (by decide) ?_
                            exact kI2 _ (Option.some.inj hf).symm cs ss (by show cs + 69 * rmn (4 : Int32) t_23.2 + 3 * rmn (16 : Int32) (t_436.2.2 + (1 : Int32)) ≤ 339; omega) (by show ss + 414 * rmn (4 : Int32) t_23.2 + 18 * rmn (16 : Int32) (t_436.2.2 + (1 : Int32)) ≤ 2034; omega) H locs ls hW hS (lv_sub hl [2, 3, 4, 5, 6, 7, 8, 9, 1, 0] rfl)
                          have J_466 : ∀ (C_466 : Mem) , fL_refuses_466 a2 s0_82 t_23 t_436 v14 v4 v9 C_466 = some y2 → ∀ (cs ss : Nat), cs + 69 * rmn (4 : Int32) t_23.2 + 3 * rmn (16 : Int32) t_436.2.2 ≤ 342 → ss + 414 * rmn (4 : Int32) t_23.2 + 18 * rmn (16 : Int32) t_436.2.2 ≤ 2052 → ∀ (H : Heap) (locs : List Loc) (ls : Array Slot), gx_W Γ C_466 M H → va_S (gA Γ) s.heap H locs → lv_has ls 14 [(0, .ref (Γ.1 0)), (1, .int a2), (2, .int v4), (3, .int v9), (4, .int v14), (5, .int (2147483647 : Int32)), (6, .int t_23.2), (9, .int s0_82), (13, .int t_436.2.2)] → W p l e rm_L_refuses s m args below meth c H locs cs ss Q (F0 m 466 ls []) := by
                            intro C_466 hf cs ss hcs hss H locs ls hW hS hl
                            unfold fL_refuses_466 at hf
                            refine lv_iconst (v := (0 : Int32)) hx hb dL_refuses_466 (by decide) ?_
                            exact J_467 C_466 (0 : Int32) hf cs ss (by omega) (by omega) H locs ls hW hS (lv_sub hl [0, 1, 2, 3, 4, 5, 6, 7, 8] rfl)
                          refine lv_if_eq (tgt := 466) hx hb dL_refuses_445 (by decide) (fun c445 => ?_) (fun c445 => ?_)
                          · have hf := cn_t c445 hf
                            exact J_466 t_436.1 hf cs ss (by omega) (by omega) H locs ls hW hS (lv_sub hl [0, 1, 2, 3, 4, 5, 6, 7, 9] rfl)
                          · have hf := cn_f c445 hf
                            refine lv_aload_n hx hb dL_refuses_448 rfl (lv_at hl 0 rfl) ?_
                            refine lv_iload hx hb dL_refuses_449 (lv_at hl 9 rfl) ?_
                            refine lv_iload hx hb dL_refuses_451 (lv_at hl 7 rfl) ?_
                            refine lv_iconst (v := (0 : Int32)) hx hb dL_refuses_453 (by decide) ?_
                            obtain ⟨q454, hq454, hf⟩ := bnd_e hf
                            refine gk_i hS (gsw_run (rest := []) S hG hW hS [.ref (Γ.1 0), .int t_436.2.2, .int s0_82, .int (0 : Int32)] (c_L_act l hl0 Γ t_436.1 M t_436.2.2 s0_82 (0 : Int32) hq454) pk_L_act ml_L_86 rfl rfl ⟨Nat.le_of_ble_eq_true rfl, Nat.le_of_ble_eq_true rfl⟩ rfl hl.1 rfl (Nat.le_of_ble_eq_true rfl) dL_refuses_454 ⟨by show cs + 3 ≤ 345; omega, by show ss + 18 ≤ 2070; omega⟩) (fun H locs hW hS => ?_)
                            refine lv_bipush (v := (-31 : Int32)) hx hb dL_refuses_457 (by decide) ?_
                            refine lv_icmp_ne (tgt := 466) hx hb dL_refuses_459 (by decide) (fun c459 => ?_) (fun c459 => ?_)
                            · have hf := cn_f c459 hf
                              exact J_466 q454.2 hf (cs + 3) (ss + 18) (by omega) (by omega) H locs ls hW hS (lv_sub hl [0, 1, 2, 3, 4, 5, 6, 7, 9] rfl)
                            · have hf := cn_t c459 hf
                              refine lv_iconst (v := (1 : Int32)) hx hb dL_refuses_462 (by decide) ?_
                              refine lv_goto (tgt := 467) hx hb dL_refuses_463 (by decide) ?_
                              exact J_467 q454.2 (1 : Int32) hf (cs + 3) (ss + 18) (by omega) (by omega) H locs ls hW hS (lv_sub hl [0, 1, 2, 3, 4, 5, 6, 7, 9] rfl)
                      exact J_436  (C_432, t_393.2.1, (13 : Int32)) hf cs ss (by have e9 : rmn (16 : Int32) (13 : Int32) = 3 := (by decide); show cs + 69 * rmn (4 : Int32) t_23.2 + 3 * rmn (16 : Int32) (13 : Int32) ≤ 339; omega) (by have e9 : rmn (16 : Int32) (13 : Int32) = 3 := (by decide); show ss + 414 * rmn (4 : Int32) t_23.2 + 18 * rmn (16 : Int32) (13 : Int32) ≤ 2034; omega) H locs ls hW hS (lv_sub hl [1, 2, 3, 4, 5, 6, 7, 8, 9, 0] rfl)
                    refine lv_icmp_ge (tgt := 432) hx hb dL_refuses_397 (by decide) (fun c397 => ?_) (fun c397 => ?_)
                    · have hf := cn_t c397 hf
                      obtain ⟨z397, hf, ez⟩ := exR_e hf
                      rw [kX2 _ ez] at hf
                      exact J_432 t_393.1 hf cs ss (by omega) (by omega) H locs ls hW hS (lv_sub hl [0, 1, 2, 3, 4, 5, 6, 7, 8] rfl)
                    · have hf := cn_f c397 hf
                      have r393 := rmn_s c397
                      refine lv_iload hx hb dL_refuses_400 (lv_at hl 8 rfl) ?_
                      have J_424 : ∀ (C_424 : Mem) (s0_424 : Int32) , fL_refuses_424 a2 s0_82 t_23 t_393 v14 v4 v9 C_424 s0_424 = some y2 → ∀ (cs ss : Nat), cs + 69 * rmn (4 : Int32) t_23.2 + 3 * rmn (11 : Int32) t_393.2.2 ≤ 333 → ss + 414 * rmn (4 : Int32) t_23.2 + 18 * rmn (11 : Int32) t_393.2.2 ≤ 1998 → ∀ (H : Heap) (locs : List Loc) (ls : Array Slot), gx_W Γ C_424 M H → va_S (gA Γ) s.heap H locs → lv_has ls 14 [(0, .ref (Γ.1 0)), (1, .int a2), (2, .int v4), (3, .int v9), (4, .int v14), (5, .int (2147483647 : Int32)), (6, .int t_23.2), (9, .int s0_82), (13, .int t_393.2.2)] → W p l e rm_L_refuses s m args below meth c H locs cs ss Q (F0 m 424 ls [.int s0_424]) := by
                        intro C_424 s0_424 hf cs ss hcs hss H locs ls hW hS hl
                        unfold fL_refuses_424 at hf
                        refine lv_istore (lv' := [(12, .int s0_424), (0, .ref (Γ.1 0)), (1, .int a2), (2, .int v4), (3, .int v9), (4, .int v14), (5, .int (2147483647 : Int32)), (6, .int t_23.2), (9, .int s0_82), (13, .int t_393.2.2)]) hx hb dL_refuses_424 hl (by decide) rfl (fun ls hl => ?_)
                        refine lv_iinc (v := (t_393.2.2 + (1 : Int32))) (lv' := [(13, .int (t_393.2.2 + (1 : Int32))), (12, .int s0_424), (0, .ref (Γ.1 0)), (1, .int a2), (2, .int v4), (3, .int v9), (4, .int v14), (5, .int (2147483647 : Int32)), (6, .int t_23.2), (9, .int s0_82)]) hx hb dL_refuses_426 hl (k := 9) rfl rfl (by decide) rfl (fun ls hl => ?_)
                        refine lv_goto (tgt := 393) hx hb dL_refuses_429 (by decide) ?_
                        exact kI2 _ (Option.some.inj hf).symm cs ss (by show cs + 69 * rmn (4 : Int32) t_23.2 + 3 * rmn (11 : Int32) (t_393.2.2 + (1 : Int32)) ≤ 330; omega) (by show ss + 414 * rmn (4 : Int32) t_23.2 + 18 * rmn (11 : Int32) (t_393.2.2 + (1 : Int32)) ≤ 1980; omega) H locs ls hW hS (lv_sub hl [2, 3, 4, 5, 6, 7, 8, 9, 1, 0] rfl)
                      have J_423 : ∀ (C_423 : Mem) , fL_refuses_423 a2 s0_82 t_23 t_393 v14 v4 v9 C_423 = some y2 → ∀ (cs ss : Nat), cs + 69 * rmn (4 : Int32) t_23.2 + 3 * rmn (11 : Int32) t_393.2.2 ≤ 333 → ss + 414 * rmn (4 : Int32) t_23.2 + 18 * rmn (11 : Int32) t_393.2.2 ≤ 1998 → ∀ (H : Heap) (locs : List Loc) (ls : Array Slot), gx_W Γ C_423 M H → va_S (gA Γ) s.heap H locs → lv_has ls 14 [(0, .ref (Γ.1 0)), (1, .int a2), (2, .int v4), (3, .int v9), (4, .int v14), (5, .int (2147483647 : Int32)), (6, .int t_23.2), (9, .int s0_82), (13, .int t_393.2.2)] → W p l e rm_L_refuses s m args below meth c H locs cs ss Q (F0 m 423 ls []) := by
                        intro C_423 hf cs ss hcs hss H locs ls hW hS hl
                        unfold fL_refuses_423 at hf
                        refine lv_iconst (v := (0 : Int32)) hx hb dL_refuses_423 (by decide) ?_
                        exact J_424 C_423 (0 : Int32) hf cs ss (by omega) (by omega) H locs ls hW hS (lv_sub hl [0, 1, 2, 3, 4, 5, 6, 7, 8] rfl)
                      refine lv_if_eq (tgt := 423) hx hb dL_refuses_402 (by decide) (fun c402 => ?_) (fun c402 => ?_)
                      · have hf := cn_t c402 hf
                        exact J_423 t_393.1 hf cs ss (by omega) (by omega) H locs ls hW hS (lv_sub hl [0, 1, 2, 3, 4, 5, 6, 7, 9] rfl)
                      · have hf := cn_f c402 hf
                        refine lv_aload_n hx hb dL_refuses_405 rfl (lv_at hl 0 rfl) ?_
                        refine lv_iload hx hb dL_refuses_406 (lv_at hl 9 rfl) ?_
                        refine lv_iload hx hb dL_refuses_408 (lv_at hl 7 rfl) ?_
                        refine lv_iconst (v := (0 : Int32)) hx hb dL_refuses_410 (by decide) ?_
                        obtain ⟨q411, hq411, hf⟩ := bnd_e hf
                        refine gk_i hS (gsw_run (rest := []) S hG hW hS [.ref (Γ.1 0), .int t_393.2.2, .int s0_82, .int (0 : Int32)] (c_L_act l hl0 Γ t_393.1 M t_393.2.2 s0_82 (0 : Int32) hq411) pk_L_act ml_L_86 rfl rfl ⟨Nat.le_of_ble_eq_true rfl, Nat.le_of_ble_eq_true rfl⟩ rfl hl.1 rfl (Nat.le_of_ble_eq_true rfl) dL_refuses_411 ⟨by show cs + 3 ≤ 345; omega, by show ss + 18 ≤ 2070; omega⟩) (fun H locs hW hS => ?_)
                        refine lv_bipush (v := (-31 : Int32)) hx hb dL_refuses_414 (by decide) ?_
                        refine lv_icmp_ne (tgt := 423) hx hb dL_refuses_416 (by decide) (fun c416 => ?_) (fun c416 => ?_)
                        · have hf := cn_f c416 hf
                          exact J_423 q411.2 hf (cs + 3) (ss + 18) (by omega) (by omega) H locs ls hW hS (lv_sub hl [0, 1, 2, 3, 4, 5, 6, 7, 9] rfl)
                        · have hf := cn_t c416 hf
                          refine lv_iconst (v := (1 : Int32)) hx hb dL_refuses_419 (by decide) ?_
                          refine lv_goto (tgt := 424) hx hb dL_refuses_420 (by decide) ?_
                          exact J_424 q411.2 (1 : Int32) hf (cs + 3) (ss + 18) (by omega) (by omega) H locs ls hW hS (lv_sub hl [0, 1, 2, 3, 4, 5, 6, 7, 9] rfl)
                  exact J_393  (C_387, s0_387, (8 : Int32)) hf cs ss (by have e9 : rmn (11 : Int32) (8 : Int32) = 3 := (by decide); show cs + 69 * rmn (4 : Int32) t_23.2 + 3 * rmn (11 : Int32) (8 : Int32) ≤ 330; omega) (by have e9 : rmn (11 : Int32) (8 : Int32) = 3 := (by decide); show ss + 414 * rmn (4 : Int32) t_23.2 + 18 * rmn (11 : Int32) (8 : Int32) ≤ 1980; omega) H locs ls hW hS (lv_sub hl [2, 3, 4, 5, 6, 7, 8, 9, 1, 0] rfl)
                have J_386 : ∀ (C_386 : Mem) , fL_refuses_386 a2 s0_82 t_23 v14 v4 v9 C_386 = some y1 → ∀ (cs ss : Nat), cs + 69 * rmn (4 : Int32) t_23.2 ≤ 321 → ss + 414 * rmn (4 : Int32) t_23.2 ≤ 1926 → ∀ (H : Heap) (locs : List Loc) (ls : Array Slot), gx_W Γ C_386 M H → va_S (gA Γ) s.heap H locs → lv_has ls 14 [(0, .ref (Γ.1 0)), (1, .int a2), (2, .int v4), (3, .int v9), (4, .int v14), (5, .int (2147483647 : Int32)), (6, .int t_23.2), (9, .int s0_82)] → W p l e rm_L_refuses s m args below meth c H locs cs ss Q (F0 m 386 ls []) := by
                  intro C_386 hf cs ss hcs hss H locs ls hW hS hl
                  unfold fL_refuses_386 at hf
                  refine lv_iconst (v := (0 : Int32)) hx hb dL_refuses_386 (by decide) ?_
                  exact J_387 C_386 (0 : Int32) hf cs ss (by omega) (by omega) H locs ls hW hS (lv_sub hl [0, 1, 2, 3, 4, 5, 6, 7] rfl)
                refine lv_icmp_ne (tgt := 386) hx hb dL_refuses_134 (by decide) (fun c134 => ?_) (fun c134 => ?_)
                · have hf := cn_f c134 hf
                  exact J_386 q129.2 hf (cs + 3) (ss + 18) (by omega) (by omega) H locs ls hW hS (lv_sub hl [1, 2, 3, 4, 5, 6, 7, 10] rfl)
                · have hf := cn_t c134 hf
                  refine lv_aload_n hx hb dL_refuses_137 rfl (lv_at hl 1 rfl) ?_
                  refine lv_iconst (v := (2 : Int32)) hx hb dL_refuses_138 (by decide) ?_
                  refine lv_iload hx hb dL_refuses_139 (lv_at hl 9 rfl) ?_
                  refine lv_iconst (v := (-1 : Int32)) hx hb dL_refuses_141 (by decide) ?_
                  obtain ⟨q142, hq142, hf⟩ := bnd_e hf
                  refine gk_i hS (gsw_run (rest := []) S hG hW hS [.ref (Γ.1 0), .int (2 : Int32), .int s0_68, .int (-1 : Int32)] (c_L_act l hl0 Γ q129.2 M (2 : Int32) s0_68 (-1 : Int32) hq142) pk_L_act ml_L_86 rfl rfl ⟨Nat.le_of_ble_eq_true rfl, Nat.le_of_ble_eq_true rfl⟩ rfl hl.1 rfl (Nat.le_of_ble_eq_true rfl) dL_refuses_142 ⟨by show (cs + 3) + 3 ≤ 345; omega, by show (ss + 18) + 18 ≤ 2070; omega⟩) (fun H locs hW hS => ?_)
                  refine lv_bipush (v := (-31 : Int32)) hx hb dL_refuses_145 (by decide) ?_
                  refine lv_icmp_ne (tgt := 386) hx hb dL_refuses_147 (by decide) (fun c147 => ?_) (fun c147 => ?_)
                  · have hf := cn_f c147 hf
                    exact J_386 q142.2 hf (cs + 6) (ss + 36) (by omega) (by omega) H locs ls hW hS (lv_sub hl [1, 2, 3, 4, 5, 6, 7, 10] rfl)
                  · have hf := cn_t c147 hf
                    refine lv_aload_n hx hb dL_refuses_150 rfl (lv_at hl 1 rfl) ?_
                    refine lv_iconst (v := (3 : Int32)) hx hb dL_refuses_151 (by decide) ?_
                    refine lv_iload hx hb dL_refuses_152 (lv_at hl 9 rfl) ?_
                    refine lv_iconst (v := (0 : Int32)) hx hb dL_refuses_154 (by decide) ?_
                    obtain ⟨q155, hq155, hf⟩ := bnd_e hf
                    refine gk_i hS (gsw_run (rest := []) S hG hW hS [.ref (Γ.1 0), .int (3 : Int32), .int s0_68, .int (0 : Int32)] (c_L_act l hl0 Γ q142.2 M (3 : Int32) s0_68 (0 : Int32) hq155) pk_L_act ml_L_86 rfl rfl ⟨Nat.le_of_ble_eq_true rfl, Nat.le_of_ble_eq_true rfl⟩ rfl hl.1 rfl (Nat.le_of_ble_eq_true rfl) dL_refuses_155 ⟨by show (cs + 6) + 3 ≤ 345; omega, by show (ss + 36) + 18 ≤ 2070; omega⟩) (fun H locs hW hS => ?_)
                    refine lv_bipush (v := (-31 : Int32)) hx hb dL_refuses_158 (by decide) ?_
                    refine lv_icmp_ne (tgt := 386) hx hb dL_refuses_160 (by decide) (fun c160 => ?_) (fun c160 => ?_)
                    · have hf := cn_f c160 hf
                      exact J_386 q155.2 hf (cs + 9) (ss + 54) (by omega) (by omega) H locs ls hW hS (lv_sub hl [1, 2, 3, 4, 5, 6, 7, 10] rfl)
                    · have hf := cn_t c160 hf
                      refine lv_aload_n hx hb dL_refuses_163 rfl (lv_at hl 1 rfl) ?_
                      refine lv_iconst (v := (4 : Int32)) hx hb dL_refuses_164 (by decide) ?_
                      refine lv_iload hx hb dL_refuses_165 (lv_at hl 9 rfl) ?_
                      refine lv_iconst (v := (0 : Int32)) hx hb dL_refuses_167 (by decide) ?_
                      obtain ⟨q168, hq168, hf⟩ := bnd_e hf
                      refine gk_i hS (gsw_run (rest := []) S hG hW hS [.ref (Γ.1 0), .int (4 : Int32), .int s0_68, .int (0 : Int32)] (c_L_act l hl0 Γ q155.2 M (4 : Int32) s0_68 (0 : Int32) hq168) pk_L_act ml_L_86 rfl rfl ⟨Nat.le_of_ble_eq_true rfl, Nat.le_of_ble_eq_true rfl⟩ rfl hl.1 rfl (Nat.le_of_ble_eq_true rfl) dL_refuses_168 ⟨by show (cs + 9) + 3 ≤ 345; omega, by show (ss + 54) + 18 ≤ 2070; omega⟩) (fun H locs hW hS => ?_)
                      refine lv_bipush (v := (-31 : Int32)) hx hb dL_refuses_171 (by decide) ?_
                      refine lv_icmp_ne (tgt := 386) hx hb dL_refuses_173 (by decide) (fun c173 => ?_) (fun c173 => ?_)
                      · have hf := cn_f c173 hf
                        exact J_386 q168.2 hf (cs + 12) (ss + 72) (by omega) (by omega) H locs ls hW hS (lv_sub hl [1, 2, 3, 4, 5, 6, 7, 10] rfl)
                      · have hf := cn_t c173 hf
                        refine lv_aload_n hx hb dL_refuses_176 rfl (lv_at hl 1 rfl) ?_
                        refine lv_iconst (v := (5 : Int32)) hx hb dL_refuses_177 (by decide) ?_
                        refine lv_iload hx hb dL_refuses_178 (lv_at hl 7 rfl) ?_
                        have J_201 : ∀ (C_201 : Mem) (s0_201 : Int32) (s1_201 : Int32) , fL_refuses_201 a2 s0_122 s0_54 s0_68 s0_82 t_23 v14 v4 v9 C_201 s0_201 s1_201 = some y1 → ∀ (cs ss : Nat), cs + 69 * rmn (4 : Int32) t_23.2 ≤ 288 → ss + 414 * rmn (4 : Int32) t_23.2 ≤ 1728 → ∀ (H : Heap) (locs : List Loc) (ls : Array Slot), gx_W Γ C_201 M H → va_S (gA Γ) s.heap H locs → lv_has ls 14 [(0, .ref (Γ.1 0)), (1, .int a2), (2, .int v4), (3, .int v9), (4, .int v14), (5, .int (2147483647 : Int32)), (6, .int t_23.2), (7, .int s0_54), (8, .int s0_68), (9, .int s0_82), (11, .int s0_122)] → W p l e rm_L_refuses s m args below meth c H locs cs ss Q (F0 m 201 ls [.int s0_201, .int s1_201, .ref (Γ.1 0)]) := by
                          intro C_201 s0_201 s1_201 hf cs ss hcs hss H locs ls hW hS hl
                          unfold fL_refuses_201 at hf
                          refine lv_iconst (v := (0 : Int32)) hx hb dL_refuses_201 (by decide) ?_
                          obtain ⟨q202, hq202, hf⟩ := bnd_e hf
                          refine gk_i hS (gsw_run (rest := []) S hG hW hS [.ref (Γ.1 0), .int s1_201, .int s0_201, .int (0 : Int32)] (c_L_act l hl0 Γ C_201 M s1_201 s0_201 (0 : Int32) hq202) pk_L_act ml_L_86 rfl rfl ⟨Nat.le_of_ble_eq_true rfl, Nat.le_of_ble_eq_true rfl⟩ rfl hl.1 rfl (Nat.le_of_ble_eq_true rfl) dL_refuses_202 ⟨by show cs + 3 ≤ 345; omega, by show ss + 18 ≤ 2070; omega⟩) (fun H locs hW hS => ?_)
                          refine lv_bipush (v := (-32 : Int32)) hx hb dL_refuses_205 (by decide) ?_
                          refine lv_icmp_ne (tgt := 386) hx hb dL_refuses_207 (by decide) (fun c207 => ?_) (fun c207 => ?_)
                          · have hf := cn_f c207 hf
                            exact J_386 q202.2 hf (cs + 3) (ss + 18) (by omega) (by omega) H locs ls hW hS (lv_sub hl [0, 1, 2, 3, 4, 5, 6, 9] rfl)
                          · have hf := cn_t c207 hf
                            refine lv_aload_n hx hb dL_refuses_210 rfl (lv_at hl 0 rfl) ?_
                            refine lv_bipush (v := (7 : Int32)) hx hb dL_refuses_211 (by decide) ?_
                            refine lv_iload hx hb dL_refuses_213 (lv_at hl 9 rfl) ?_
                            refine lv_iconst (v := (0 : Int32)) hx hb dL_refuses_215 (by decide) ?_
                            obtain ⟨q216, hq216, hf⟩ := bnd_e hf
                            refine gk_i hS (gsw_run (rest := []) S hG hW hS [.ref (Γ.1 0), .int (7 : Int32), .int s0_82, .int (0 : Int32)] (c_L_act l hl0 Γ q202.2 M (7 : Int32) s0_82 (0 : Int32) hq216) pk_L_act ml_L_86 rfl rfl ⟨Nat.le_of_ble_eq_true rfl, Nat.le_of_ble_eq_true rfl⟩ rfl hl.1 rfl (Nat.le_of_ble_eq_true rfl) dL_refuses_216 ⟨by show (cs + 3) + 3 ≤ 345; omega, by show (ss + 18) + 18 ≤ 2070; omega⟩) (fun H locs hW hS => ?_)
                            refine lv_bipush (v := (-31 : Int32)) hx hb dL_refuses_219 (by decide) ?_
                            refine lv_icmp_ne (tgt := 386) hx hb dL_refuses_221 (by decide) (fun c221 => ?_) (fun c221 => ?_)
                            · have hf := cn_f c221 hf
                              exact J_386 q216.2 hf (cs + 6) (ss + 36) (by omega) (by omega) H locs ls hW hS (lv_sub hl [0, 1, 2, 3, 4, 5, 6, 9] rfl)
                            · have hf := cn_t c221 hf
                              refine lv_aload_n hx hb dL_refuses_224 rfl (lv_at hl 0 rfl) ?_
                              refine lv_bipush (v := (7 : Int32)) hx hb dL_refuses_225 (by decide) ?_
                              refine lv_iconst (v := (0 : Int32)) hx hb dL_refuses_227 (by decide) ?_
                              refine lv_iload hx hb dL_refuses_228 (lv_at hl 9 rfl) ?_
                              obtain ⟨q230, hq230, hf⟩ := bnd_e hf
                              refine gk_i hS (gsw_run (rest := []) S hG hW hS [.ref (Γ.1 0), .int (7 : Int32), .int (0 : Int32), .int s0_82] (c_L_act l hl0 Γ q216.2 M (7 : Int32) (0 : Int32) s0_82 hq230) pk_L_act ml_L_86 rfl rfl ⟨Nat.le_of_ble_eq_true rfl, Nat.le_of_ble_eq_true rfl⟩ rfl hl.1 rfl (Nat.le_of_ble_eq_true rfl) dL_refuses_230 ⟨by show (cs + 6) + 3 ≤ 345; omega, by show (ss + 36) + 18 ≤ 2070; omega⟩) (fun H locs hW hS => ?_)
                              refine lv_bipush (v := (-31 : Int32)) hx hb dL_refuses_233 (by decide) ?_
                              refine lv_icmp_ne (tgt := 386) hx hb dL_refuses_235 (by decide) (fun c235 => ?_) (fun c235 => ?_)
                              · have hf := cn_f c235 hf
                                exact J_386 q230.2 hf (cs + 9) (ss + 54) (by omega) (by omega) H locs ls hW hS (lv_sub hl [0, 1, 2, 3, 4, 5, 6, 9] rfl)
                              · have hf := cn_t c235 hf
                                refine lv_aload_n hx hb dL_refuses_238 rfl (lv_at hl 0 rfl) ?_
                                refine lv_bipush (v := (11 : Int32)) hx hb dL_refuses_239 (by decide) ?_
                                refine lv_iload hx hb dL_refuses_241 (lv_at hl 8 rfl) ?_
                                refine lv_iconst (v := (0 : Int32)) hx hb dL_refuses_243 (by decide) ?_
                                obtain ⟨q244, hq244, hf⟩ := bnd_e hf
                                refine gk_i hS (gsw_run (rest := []) S hG hW hS [.ref (Γ.1 0), .int (11 : Int32), .int s0_68, .int (0 : Int32)] (c_L_act l hl0 Γ q230.2 M (11 : Int32) s0_68 (0 : Int32) hq244) pk_L_act ml_L_86 rfl rfl ⟨Nat.le_of_ble_eq_true rfl, Nat.le_of_ble_eq_true rfl⟩ rfl hl.1 rfl (Nat.le_of_ble_eq_true rfl) dL_refuses_244 ⟨by show (cs + 9) + 3 ≤ 345; omega, by show (ss + 54) + 18 ≤ 2070; omega⟩) (fun H locs hW hS => ?_)
                                refine lv_bipush (v := (-31 : Int32)) hx hb dL_refuses_247 (by decide) ?_
                                refine lv_icmp_ne (tgt := 386) hx hb dL_refuses_249 (by decide) (fun c249 => ?_) (fun c249 => ?_)
                                · have hf := cn_f c249 hf
                                  exact J_386 q244.2 hf (cs + 12) (ss + 72) (by omega) (by omega) H locs ls hW hS (lv_sub hl [0, 1, 2, 3, 4, 5, 6, 9] rfl)
                                · have hf := cn_t c249 hf
                                  refine lv_aload_n hx hb dL_refuses_252 rfl (lv_at hl 0 rfl) ?_
                                  refine lv_bipush (v := (12 : Int32)) hx hb dL_refuses_253 (by decide) ?_
                                  refine lv_iload hx hb dL_refuses_255 (lv_at hl 8 rfl) ?_
                                  refine lv_iconst (v := (0 : Int32)) hx hb dL_refuses_257 (by decide) ?_
                                  obtain ⟨q258, hq258, hf⟩ := bnd_e hf
                                  refine gk_i hS (gsw_run (rest := []) S hG hW hS [.ref (Γ.1 0), .int (12 : Int32), .int s0_68, .int (0 : Int32)] (c_L_act l hl0 Γ q244.2 M (12 : Int32) s0_68 (0 : Int32) hq258) pk_L_act ml_L_86 rfl rfl ⟨Nat.le_of_ble_eq_true rfl, Nat.le_of_ble_eq_true rfl⟩ rfl hl.1 rfl (Nat.le_of_ble_eq_true rfl) dL_refuses_258 ⟨by show (cs + 12) + 3 ≤ 345; omega, by show (ss + 72) + 18 ≤ 2070; omega⟩) (fun H locs hW hS => ?_)
                                  refine lv_bipush (v := (-31 : Int32)) hx hb dL_refuses_261 (by decide) ?_
                                  refine lv_icmp_ne (tgt := 386) hx hb dL_refuses_263 (by decide) (fun c263 => ?_) (fun c263 => ?_)
                                  · have hf := cn_f c263 hf
                                    exact J_386 q258.2 hf (cs + 15) (ss + 90) (by omega) (by omega) H locs ls hW hS (lv_sub hl [0, 1, 2, 3, 4, 5, 6, 9] rfl)
                                  · have hf := cn_t c263 hf
                                    refine lv_aload_n hx hb dL_refuses_266 rfl (lv_at hl 0 rfl) ?_
                                    refine lv_bipush (v := (21 : Int32)) hx hb dL_refuses_267 (by decide) ?_
                                    refine lv_iload hx hb dL_refuses_269 (lv_at hl 8 rfl) ?_
                                    refine lv_iconst (v := (0 : Int32)) hx hb dL_refuses_271 (by decide) ?_
                                    obtain ⟨q272, hq272, hf⟩ := bnd_e hf
                                    refine gk_i hS (gsw_run (rest := []) S hG hW hS [.ref (Γ.1 0), .int (21 : Int32), .int s0_68, .int (0 : Int32)] (c_L_act l hl0 Γ q258.2 M (21 : Int32) s0_68 (0 : Int32) hq272) pk_L_act ml_L_86 rfl rfl ⟨Nat.le_of_ble_eq_true rfl, Nat.le_of_ble_eq_true rfl⟩ rfl hl.1 rfl (Nat.le_of_ble_eq_true rfl) dL_refuses_272 ⟨by show (cs + 15) + 3 ≤ 345; omega, by show (ss + 90) + 18 ≤ 2070; omega⟩) (fun H locs hW hS => ?_)
                                    refine lv_bipush (v := (-31 : Int32)) hx hb dL_refuses_275 (by decide) ?_
                                    refine lv_icmp_ne (tgt := 386) hx hb dL_refuses_277 (by decide) (fun c277 => ?_) (fun c277 => ?_)
                                    · have hf := cn_f c277 hf
                                      exact J_386 q272.2 hf (cs + 18) (ss + 108) (by omega) (by omega) H locs ls hW hS (lv_sub hl [0, 1, 2, 3, 4, 5, 6, 9] rfl)
                                    · have hf := cn_t c277 hf
                                      refine lv_aload_n hx hb dL_refuses_280 rfl (lv_at hl 0 rfl) ?_
                                      refine lv_bipush (v := (17 : Int32)) hx hb dL_refuses_281 (by decide) ?_
                                      refine lv_iload hx hb dL_refuses_283 (lv_at hl 9 rfl) ?_
                                      refine lv_iconst (v := (0 : Int32)) hx hb dL_refuses_285 (by decide) ?_
                                      obtain ⟨q286, hq286, hf⟩ := bnd_e hf
                                      refine gk_i hS (gsw_run (rest := []) S hG hW hS [.ref (Γ.1 0), .int (17 : Int32), .int s0_82, .int (0 : Int32)] (c_L_act l hl0 Γ q272.2 M (17 : Int32) s0_82 (0 : Int32) hq286) pk_L_act ml_L_86 rfl rfl ⟨Nat.le_of_ble_eq_true rfl, Nat.le_of_ble_eq_true rfl⟩ rfl hl.1 rfl (Nat.le_of_ble_eq_true rfl) dL_refuses_286 ⟨by show (cs + 18) + 3 ≤ 345; omega, by show (ss + 108) + 18 ≤ 2070; omega⟩) (fun H locs hW hS => ?_)
                                      refine lv_bipush (v := (-31 : Int32)) hx hb dL_refuses_289 (by decide) ?_
                                      refine lv_icmp_ne (tgt := 386) hx hb dL_refuses_291 (by decide) (fun c291 => ?_) (fun c291 => ?_)
                                      · have hf := cn_f c291 hf
                                        exact J_386 q286.2 hf (cs + 21) (ss + 126) (by omega) (by omega) H locs ls hW hS (lv_sub hl [0, 1, 2, 3, 4, 5, 6, 9] rfl)
                                      · have hf := cn_t c291 hf
                                        refine lv_aload_n hx hb dL_refuses_294 rfl (lv_at hl 0 rfl) ?_
                                        refine lv_bipush (v := (17 : Int32)) hx hb dL_refuses_295 (by decide) ?_
                                        refine lv_iconst (v := (0 : Int32)) hx hb dL_refuses_297 (by decide) ?_
                                        refine lv_iload hx hb dL_refuses_298 (lv_at hl 10 rfl) ?_
                                        obtain ⟨q300, hq300, hf⟩ := bnd_e hf
                                        refine gk_i hS (gsw_run (rest := []) S hG hW hS [.ref (Γ.1 0), .int (17 : Int32), .int (0 : Int32), .int s0_122] (c_L_act l hl0 Γ q286.2 M (17 : Int32) (0 : Int32) s0_122 hq300) pk_L_act ml_L_86 rfl rfl ⟨Nat.le_of_ble_eq_true rfl, Nat.le_of_ble_eq_true rfl⟩ rfl hl.1 rfl (Nat.le_of_ble_eq_true rfl) dL_refuses_300 ⟨by show (cs + 21) + 3 ≤ 345; omega, by show (ss + 126) + 18 ≤ 2070; omega⟩) (fun H locs hW hS => ?_)
                                        refine lv_bipush (v := (-32 : Int32)) hx hb dL_refuses_303 (by decide) ?_
                                        refine lv_icmp_ne (tgt := 386) hx hb dL_refuses_305 (by decide) (fun c305 => ?_) (fun c305 => ?_)
                                        · have hf := cn_f c305 hf
                                          exact J_386 q300.2 hf (cs + 24) (ss + 144) (by omega) (by omega) H locs ls hW hS (lv_sub hl [0, 1, 2, 3, 4, 5, 6, 9] rfl)
                                        · have hf := cn_t c305 hf
                                          refine lv_aload_n hx hb dL_refuses_308 rfl (lv_at hl 0 rfl) ?_
                                          refine lv_bipush (v := (18 : Int32)) hx hb dL_refuses_309 (by decide) ?_
                                          refine lv_iload hx hb dL_refuses_311 (lv_at hl 10 rfl) ?_
                                          refine lv_iconst (v := (0 : Int32)) hx hb dL_refuses_313 (by decide) ?_
                                          obtain ⟨q314, hq314, hf⟩ := bnd_e hf
                                          refine gk_i hS (gsw_run (rest := []) S hG hW hS [.ref (Γ.1 0), .int (18 : Int32), .int s0_122, .int (0 : Int32)] (c_L_act l hl0 Γ q300.2 M (18 : Int32) s0_122 (0 : Int32) hq314) pk_L_act ml_L_86 rfl rfl ⟨Nat.le_of_ble_eq_true rfl, Nat.le_of_ble_eq_true rfl⟩ rfl hl.1 rfl (Nat.le_of_ble_eq_true rfl) dL_refuses_314 ⟨by show (cs + 24) + 3 ≤ 345; omega, by show (ss + 144) + 18 ≤ 2070; omega⟩) (fun H locs hW hS => ?_)
                                          refine lv_bipush (v := (-32 : Int32)) hx hb dL_refuses_317 (by decide) ?_
                                          refine lv_icmp_ne (tgt := 386) hx hb dL_refuses_319 (by decide) (fun c319 => ?_) (fun c319 => ?_)
                                          · have hf := cn_f c319 hf
                                            exact J_386 q314.2 hf (cs + 27) (ss + 162) (by omega) (by omega) H locs ls hW hS (lv_sub hl [0, 1, 2, 3, 4, 5, 6, 9] rfl)
                                          · have hf := cn_t c319 hf
                                            refine lv_aload_n hx hb dL_refuses_322 rfl (lv_at hl 0 rfl) ?_
                                            refine lv_bipush (v := (19 : Int32)) hx hb dL_refuses_323 (by decide) ?_
                                            refine lv_iload hx hb dL_refuses_325 (lv_at hl 6 rfl) ?_
                                            have J_348 : ∀ (C_348 : Mem) (s0_348 : Int32) (s1_348 : Int32) , fL_refuses_348 a2 s0_54 s0_82 t_23 v14 v4 v9 C_348 s0_348 s1_348 = some y1 → ∀ (cs ss : Nat), cs + 69 * rmn (4 : Int32) t_23.2 ≤ 315 → ss + 414 * rmn (4 : Int32) t_23.2 ≤ 1890 → ∀ (H : Heap) (locs : List Loc) (ls : Array Slot), gx_W Γ C_348 M H → va_S (gA Γ) s.heap H locs → lv_has ls 14 [(0, .ref (Γ.1 0)), (1, .int a2), (2, .int v4), (3, .int v9), (4, .int v14), (5, .int (2147483647 : Int32)), (6, .int t_23.2), (7, .int s0_54), (9, .int s0_82)] → W p l e rm_L_refuses s m args below meth c H locs cs ss Q (F0 m 348 ls [.int s0_348, .int s1_348, .ref (Γ.1 0)]) := by
                                              intro C_348 s0_348 s1_348 hf cs ss hcs hss H locs ls hW hS hl
                                              unfold fL_refuses_348 at hf
                                              refine lv_iconst (v := (0 : Int32)) hx hb dL_refuses_348 (by decide) ?_
                                              obtain ⟨q349, hq349, hf⟩ := bnd_e hf
                                              refine gk_i hS (gsw_run (rest := []) S hG hW hS [.ref (Γ.1 0), .int s1_348, .int s0_348, .int (0 : Int32)] (c_L_act l hl0 Γ C_348 M s1_348 s0_348 (0 : Int32) hq349) pk_L_act ml_L_86 rfl rfl ⟨Nat.le_of_ble_eq_true rfl, Nat.le_of_ble_eq_true rfl⟩ rfl hl.1 rfl (Nat.le_of_ble_eq_true rfl) dL_refuses_349 ⟨by show cs + 3 ≤ 345; omega, by show ss + 18 ≤ 2070; omega⟩) (fun H locs hW hS => ?_)
                                              refine lv_bipush (v := (-32 : Int32)) hx hb dL_refuses_352 (by decide) ?_
                                              refine lv_icmp_ne (tgt := 386) hx hb dL_refuses_354 (by decide) (fun c354 => ?_) (fun c354 => ?_)
                                              · have hf := cn_f c354 hf
                                                exact J_386 q349.2 hf (cs + 3) (ss + 18) (by omega) (by omega) H locs ls hW hS (lv_sub hl [0, 1, 2, 3, 4, 5, 6, 8] rfl)
                                              · have hf := cn_t c354 hf
                                                refine lv_aload_n hx hb dL_refuses_357 rfl (lv_at hl 0 rfl) ?_
                                                refine lv_bipush (v := (20 : Int32)) hx hb dL_refuses_358 (by decide) ?_
                                                refine lv_iload hx hb dL_refuses_360 (lv_at hl 6 rfl) ?_
                                                refine lv_iconst (v := (1 : Int32)) hx hb dL_refuses_362 (by decide) ?_
                                                have J_373 : ∀ (C_373 : Mem) (s0_373 : Int32) (s1_373 : Int32) , fL_refuses_373 a2 s0_82 t_23 v14 v4 v9 C_373 s0_373 s1_373 = some y1 → ∀ (cs ss : Nat), cs + 69 * rmn (4 : Int32) t_23.2 ≤ 318 → ss + 414 * rmn (4 : Int32) t_23.2 ≤ 1908 → ∀ (H : Heap) (locs : List Loc) (ls : Array Slot), gx_W Γ C_373 M H → va_S (gA Γ) s.heap H locs → lv_has ls 14 [(0, .ref (Γ.1 0)), (1, .int a2), (2, .int v4), (3, .int v9), (4, .int v14), (5, .int (2147483647 : Int32)), (6, .int t_23.2), (9, .int s0_82)] → W p l e rm_L_refuses s m args below meth c H locs cs ss Q (F0 m 373 ls [.int s0_373, .int s1_373, .ref (Γ.1 0)]) := by
                                                  intro C_373 s0_373 s1_373 hf cs ss hcs hss H locs ls hW hS hl
                                                  unfold fL_refuses_373 at hf
                                                  refine lv_iconst (v := (0 : Int32)) hx hb dL_refuses_373 (by decide) ?_
                                                  obtain ⟨q374, hq374, hf⟩ := bnd_e hf
                                                  refine gk_i hS (gsw_run (rest := []) S hG hW hS [.ref (Γ.1 0), .int s1_373, .int s0_373, .int (0 : Int32)] (c_L_act l hl0 Γ C_373 M s1_373 s0_373 (0 : Int32) hq374) pk_L_act ml_L_86 rfl rfl ⟨Nat.le_of_ble_eq_true rfl, Nat.le_of_ble_eq_true rfl⟩ rfl hl.1 rfl (Nat.le_of_ble_eq_true rfl) dL_refuses_374 ⟨by show cs + 3 ≤ 345; omega, by show ss + 18 ≤ 2070; omega⟩) (fun H locs hW hS => ?_)
                                                  refine lv_bipush (v := (-31 : Int32)) hx hb dL_refuses_377 (by decide) ?_
                                                  refine lv_icmp_ne (tgt := 386) hx hb dL_refuses_379 (by decide) (fun c379 => ?_) (fun c379 => ?_)
                                                  · have hf := cn_f c379 hf
                                                    exact J_386 q374.2 hf (cs + 3) (ss + 18) (by omega) (by omega) H locs ls hW hS (lv_sub hl [0, 1, 2, 3, 4, 5, 6, 7] rfl)
                                                  · have hf := cn_t c379 hf
                                                    refine lv_iconst (v := (1 : Int32)) hx hb dL_refuses_382 (by decide) ?_
                                                    refine lv_goto (tgt := 387) hx hb dL_refuses_383 (by decide) ?_
                                                    exact J_387 q374.2 (1 : Int32) hf (cs + 3) (ss + 18) (by omega) (by omega) H locs ls hW hS (lv_sub hl [0, 1, 2, 3, 4, 5, 6, 7] rfl)
                                                refine lv_icmp_ne (tgt := 371) hx hb dL_refuses_363 (by decide) (fun c363 => ?_) (fun c363 => ?_)
                                                · have hf := cn_f c363 hf
                                                  refine lv_iload hx hb dL_refuses_371 (lv_at hl 7 rfl) ?_
                                                  exact J_373 q349.2 s0_54 (20 : Int32) hf (cs + 3) (ss + 18) (by omega) (by omega) H locs ls hW hS (lv_sub hl [0, 1, 2, 3, 4, 5, 6, 8] rfl)
                                                · have hf := cn_t c363 hf
                                                  refine lv_bipush (v := (8 : Int32)) hx hb dL_refuses_366 (by decide) ?_
                                                  refine lv_goto (tgt := 373) hx hb dL_refuses_368 (by decide) ?_
                                                  exact J_373 q349.2 (8 : Int32) (20 : Int32) hf (cs + 3) (ss + 18) (by omega) (by omega) H locs ls hW hS (lv_sub hl [0, 1, 2, 3, 4, 5, 6, 8] rfl)
                                            refine lv_if_ne (tgt := 334) hx hb dL_refuses_327 (by decide) (fun c327 => ?_) (fun c327 => ?_)
                                            · have hf := cn_f c327 hf
                                              refine lv_iload hx hb dL_refuses_334 (lv_at hl 6 rfl) ?_
                                              refine lv_iconst (v := (1 : Int32)) hx hb dL_refuses_336 (by decide) ?_
                                              refine lv_icmp_ne (tgt := 346) hx hb dL_refuses_337 (by decide) (fun c337 => ?_) (fun c337 => ?_)
                                              · have hf := cn_f c337 hf
                                                refine lv_iload hx hb dL_refuses_346 (lv_at hl 7 rfl) ?_
                                                exact J_348 q314.2 s0_54 (19 : Int32) hf (cs + 27) (ss + 162) (by omega) (by omega) H locs ls hW hS (lv_sub hl [0, 1, 2, 3, 4, 5, 6, 7, 9] rfl)
                                              · have hf := cn_t c337 hf
                                                refine lv_sipush (v := (16001 : Int32)) hx hb dL_refuses_340 (by decide) ?_
                                                refine lv_goto (tgt := 348) hx hb dL_refuses_343 (by decide) ?_
                                                exact J_348 q314.2 (16001 : Int32) (19 : Int32) hf (cs + 27) (ss + 162) (by omega) (by omega) H locs ls hW hS (lv_sub hl [0, 1, 2, 3, 4, 5, 6, 7, 9] rfl)
                                            · have hf := cn_t c327 hf
                                              refine lv_iconst (v := (0 : Int32)) hx hb dL_refuses_330 (by decide) ?_
                                              refine lv_goto (tgt := 348) hx hb dL_refuses_331 (by decide) ?_
                                              exact J_348 q314.2 (0 : Int32) (19 : Int32) hf (cs + 27) (ss + 162) (by omega) (by omega) H locs ls hW hS (lv_sub hl [0, 1, 2, 3, 4, 5, 6, 7, 9] rfl)
                        refine lv_if_ne (tgt := 187) hx hb dL_refuses_180 (by decide) (fun c180 => ?_) (fun c180 => ?_)
                        · have hf := cn_f c180 hf
                          refine lv_iload hx hb dL_refuses_187 (lv_at hl 7 rfl) ?_
                          refine lv_iconst (v := (1 : Int32)) hx hb dL_refuses_189 (by decide) ?_
                          refine lv_icmp_ne (tgt := 199) hx hb dL_refuses_190 (by decide) (fun c190 => ?_) (fun c190 => ?_)
                          · have hf := cn_f c190 hf
                            refine lv_iload hx hb dL_refuses_199 (lv_at hl 8 rfl) ?_
                            exact J_201 q168.2 s0_54 (5 : Int32) hf (cs + 12) (ss + 72) (by omega) (by omega) H locs ls hW hS (lv_sub hl [1, 2, 3, 4, 5, 6, 7, 8, 9, 10, 0] rfl)
                          · have hf := cn_t c190 hf
                            refine lv_sipush (v := (1001 : Int32)) hx hb dL_refuses_193 (by decide) ?_
                            refine lv_goto (tgt := 201) hx hb dL_refuses_196 (by decide) ?_
                            exact J_201 q168.2 (1001 : Int32) (5 : Int32) hf (cs + 12) (ss + 72) (by omega) (by omega) H locs ls hW hS (lv_sub hl [1, 2, 3, 4, 5, 6, 7, 8, 9, 10, 0] rfl)
                        · have hf := cn_t c180 hf
                          refine lv_iconst (v := (0 : Int32)) hx hb dL_refuses_183 (by decide) ?_
                          refine lv_goto (tgt := 201) hx hb dL_refuses_184 (by decide) ?_
                          exact J_201 q168.2 (0 : Int32) (5 : Int32) hf (cs + 12) (ss + 72) (by omega) (by omega) H locs ls hW hS (lv_sub hl [1, 2, 3, 4, 5, 6, 7, 8, 9, 10, 0] rfl)
              refine lv_if_ne (tgt := 109) hx hb dL_refuses_102 (by decide) (fun c102 => ?_) (fun c102 => ?_)
              · have hf := cn_f c102 hf
                refine lv_iload hx hb dL_refuses_109 (lv_at hl 7 rfl) ?_
                refine lv_iconst (v := (1 : Int32)) hx hb dL_refuses_111 (by decide) ?_
                refine lv_icmp_ne (tgt := 120) hx hb dL_refuses_112 (by decide) (fun c112 => ?_) (fun c112 => ?_)
                · have hf := cn_f c112 hf
                  refine lv_iload hx hb dL_refuses_120 (lv_at hl 8 rfl) ?_
                  exact J_122 C_98 s0_54 hf cs ss (by omega) (by omega) H locs ls hW hS (lv_sub hl [1, 2, 3, 4, 5, 6, 7, 8, 9, 10, 0] rfl)
                · have hf := cn_t c112 hf
                  refine lv_bipush (v := (9 : Int32)) hx hb dL_refuses_115 (by decide) ?_
                  refine lv_goto (tgt := 122) hx hb dL_refuses_117 (by decide) ?_
                  exact J_122 C_98 (9 : Int32) hf cs ss (by omega) (by omega) H locs ls hW hS (lv_sub hl [1, 2, 3, 4, 5, 6, 7, 8, 9, 10, 0] rfl)
              · have hf := cn_t c102 hf
                refine lv_iconst (v := (0 : Int32)) hx hb dL_refuses_105 (by decide) ?_
                refine lv_goto (tgt := 122) hx hb dL_refuses_106 (by decide) ?_
                exact J_122 C_98 (0 : Int32) hf cs ss (by omega) (by omega) H locs ls hW hS (lv_sub hl [1, 2, 3, 4, 5, 6, 7, 8, 9, 10, 0] rfl)
            refine lv_icmp_ne (tgt := 96) hx hb dL_refuses_87 (by decide) (fun c87 => ?_) (fun c87 => ?_)
            · have hf := cn_f c87 hf
              refine lv_iload hx hb dL_refuses_96 (lv_at hl 8 rfl) ?_
              exact J_98 C_82 s0_54 hf cs ss (by omega) (by omega) H locs ls hW hS (lv_sub hl [1, 2, 3, 4, 5, 6, 7, 8, 9, 0] rfl)
            · have hf := cn_t c87 hf
              refine lv_sipush (v := (10000 : Int32)) hx hb dL_refuses_90 (by decide) ?_
              refine lv_goto (tgt := 98) hx hb dL_refuses_93 (by decide) ?_
              exact J_98 C_82 (10000 : Int32) hf cs ss (by omega) (by omega) H locs ls hW hS (lv_sub hl [1, 2, 3, 4, 5, 6, 7, 8, 9, 0] rfl)
          refine lv_icmp_ne (tgt := 80) hx hb dL_refuses_73 (by decide) (fun c73 => ?_) (fun c73 => ?_)
          · have hf := cn_f c73 hf
            refine lv_iload hx hb dL_refuses_80 (lv_at hl 8 rfl) ?_
            exact J_82 C_68 s0_54 hf cs ss (by omega) (by omega) H locs ls hW hS (lv_sub hl [1, 2, 3, 4, 5, 6, 7, 8, 0] rfl)
          · have hf := cn_t c73 hf
            refine lv_iload_n hx hb dL_refuses_76 rfl (lv_at hl 4 rfl) ?_
            refine lv_goto (tgt := 82) hx hb dL_refuses_77 (by decide) ?_
            exact J_82 C_68 v9 hf cs ss (by omega) (by omega) H locs ls hW hS (lv_sub hl [1, 2, 3, 4, 5, 6, 7, 8, 0] rfl)
        refine lv_icmp_ne (tgt := 66) hx hb dL_refuses_59 (by decide) (fun c59 => ?_) (fun c59 => ?_)
        · have hf := cn_f c59 hf
          refine lv_iload hx hb dL_refuses_66 (lv_at hl 0 rfl) ?_
          exact J_68 C_54 s0_54 hf cs ss (by omega) (by omega) H locs ls hW hS (lv_sub hl [1, 2, 3, 4, 5, 6, 7, 0] rfl)
        · have hf := cn_t c59 hf
          refine lv_iload_n hx hb dL_refuses_62 rfl (lv_at hl 2 rfl) ?_
          refine lv_goto (tgt := 68) hx hb dL_refuses_63 (by decide) ?_
          exact J_68 C_54 a2 hf cs ss (by omega) (by omega) H locs ls hW hS (lv_sub hl [1, 2, 3, 4, 5, 6, 7, 0] rfl)
      refine lv_if_ne (tgt := 38) hx hb dL_refuses_31 (by decide) (fun c31 => ?_) (fun c31 => ?_)
      · have hf := cn_f c31 hf
        refine lv_iload hx hb dL_refuses_38 (lv_at hl 6 rfl) ?_
        refine lv_iconst (v := (2 : Int32)) hx hb dL_refuses_40 (by decide) ?_
        refine lv_icmp_ne (tgt := 49) hx hb dL_refuses_41 (by decide) (fun c41 => ?_) (fun c41 => ?_)
        · have hf := cn_f c41 hf
          refine lv_iload hx hb dL_refuses_49 (lv_at hl 5 rfl) ?_
          refine lv_ineg hx hb dL_refuses_51 ?_
          refine lv_iconst (v := (1 : Int32)) hx hb dL_refuses_52 (by decide) ?_
          refine lv_isub hx hb dL_refuses_53 ?_
          exact J_54 t_23.1 ((-(2147483647 : Int32)) - (1 : Int32)) hf cs ss (by omega) (by omega) H locs ls hW hS (lv_sub hl [0, 1, 2, 3, 4, 5, 6] rfl)
        · have hf := cn_t c41 hf
          refine lv_iload hx hb dL_refuses_44 (lv_at hl 5 rfl) ?_
          refine lv_goto (tgt := 54) hx hb dL_refuses_46 (by decide) ?_
          exact J_54 t_23.1 (2147483647 : Int32) hf cs ss (by omega) (by omega) H locs ls hW hS (lv_sub hl [0, 1, 2, 3, 4, 5, 6] rfl)
      · have hf := cn_t c31 hf
        refine lv_iconst (v := (-1 : Int32)) hx hb dL_refuses_34 (by decide) ?_
        refine lv_goto (tgt := 54) hx hb dL_refuses_35 (by decide) ?_
        exact J_54 t_23.1 (-1 : Int32) hf cs ss (by omega) (by omega) H locs ls hW hS (lv_sub hl [0, 1, 2, 3, 4, 5, 6] rfl)
  exact J_23  (C, (0 : Int32)) hf 0 0 (by have e9 : rmn (4 : Int32) (0 : Int32) = 4 := (by decide); show 0 + 69 * rmn (4 : Int32) (0 : Int32) ≤ 276; omega) (by have e9 : rmn (4 : Int32) (0 : Int32) = 4 := (by decide); show 0 + 414 * rmn (4 : Int32) (0 : Int32) ≤ 1656; omega) H locs ls hW hS (lv_sub hl [5, 6, 4, 3, 2, 1, 0] rfl)
