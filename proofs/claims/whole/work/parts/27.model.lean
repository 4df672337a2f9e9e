noncomputable def fX8_thrown (M : Mem) : Int32 := (M 475 26)
abbrev rm_X8_thrown : Room := { frames := 0, cells := 0, slots := 0, locals := 0 }
set_option maxRecDepth 100000 in
set_option maxHeartbeats 4000000 in
theorem c_X8_thrown (l : Launch) (Γ : gx_G) (C M : Mem)  : Met l yX8_thrown (.code yX8_thrown cX8_thrown 1 (some .int) :: TsG) rm_X8_thrown (va_Pc [.ref (Γ.1 475)] (gx_P Γ C M)) (gx_Qi Γ (fX8_thrown M) C M) 0 0 (gA Γ) := by
  refine gm_i (by decide) (Nat.le_of_ble_eq_true rfl) ?_
  intro p e s m args below meth c Q S hG hret ls H locs hl hW hS
  obtain ⟨hx, hb, hml, hown, hts⟩ := id S
  have hl : lv_has ls 1 [(0, .ref (Γ.1 475))] := hl
  generalize hy0 : fX8_thrown M = y0 at hret
  have hf := hy0
  unfold fX8_thrown at hf
  refine lv_aload_n hx hb dX8_thrown_0 rfl (lv_at hl 0 rfl) ?_
  refine get_X8_26 S hG hW fl_X8_77 dX8_thrown_1 ?_
  exact hret _ _ _ _ _ hW hS rfl hf dX8_thrown_4
noncomputable def fX8_type_62 (M : Mem) (a1 : Int32) (s0_62 : Int32) : Option (Int32 × Mem) := cnd (((mset M 475 26 s0_62) 475 26) ≤ (0 : Int32)) (chk (vp_in (76 : Int32) 77) (chk (vp_in ((1824 : Int32) + ((mset M 475 26 s0_62) 477 (76 : Int32).toNatClampNeg)) 1848) (chk (vp_in (76 : Int32) 77) (chk (vp_in (76 : Int32) 77) (chk (vp_in (76 : Int32) 77) (some (((mset (mset (mset M 475 26 s0_62) 476 ((1824 : Int32) + ((mset M 475 26 s0_62) 477 (76 : Int32).toNatClampNeg)).toNatClampNeg a1) 477 (76 : Int32).toNatClampNeg (((mset (mset M 475 26 s0_62) 476 ((1824 : Int32) + ((mset M 475 26 s0_62) 477 (76 : Int32).toNatClampNeg)).toNatClampNeg a1) 477 (76 : Int32).toNatClampNeg) + (1 : Int32))) 477 (76 : Int32).toNatClampNeg), (mset (mset (mset M 475 26 s0_62) 476 ((1824 : Int32) + ((mset M 475 26 s0_62) 477 (76 : Int32).toNatClampNeg)).toNatClampNeg a1) 477 (76 : Int32).toNatClampNeg (((mset (mset M 475 26 s0_62) 476 ((1824 : Int32) + ((mset M 475 26 s0_62) 477 (76 : Int32).toNatClampNeg)).toNatClampNeg a1) 477 (76 : Int32).toNatClampNeg) + (1 : Int32)))))))))) (some ((0 : Int32), (mset M 475 26 s0_62)))
noncomputable def fX8_type_35 (M : Mem) (a1 : Int32) (s0_35 : Int32) : Option (Int32 × Mem) := cnd (s0_35 = (0 : Int32)) (fX8_type_62 M a1 (1 : Int32)) (chk (vp_in (76 : Int32) 77) (cnd ((M 477 (76 : Int32).toNatClampNeg) = (24 : Int32)) (fX8_type_62 M a1 (2 : Int32)) (fX8_type_62 M a1 (0 : Int32))))
noncomputable def fX8_type_30 (M : Mem) (a1 : Int32) : Option (Int32 × Mem) := fX8_type_35 M a1 (1 : Int32)
noncomputable def fX8_type_12 (M : Mem) (a1 : Int32) : Option (Int32 × Mem) := cnd (a1 = (47 : Int32)) (fX8_type_30 M a1) (cnd (a1 = (42 : Int32)) (fX8_type_30 M a1) (cnd (a1 = (63 : Int32)) (fX8_type_30 M a1) (fX8_type_35 M a1 (0 : Int32))))
noncomputable def fX8_type (M : Mem) (a1 : Int32) : Option (Int32 × Mem) := cnd (a1 < (97 : Int32)) (fX8_type_12 M a1) (cnd (a1 ≤ (122 : Int32)) (fX8_type_30 M a1) (fX8_type_12 M a1))
abbrev rm_X8_type : Room := { frames := 0, cells := 0, slots := 0, locals := 0 }
set_option maxRecDepth 100000 in
set_option maxHeartbeats 4000000 in
theorem c_X8_type (l : Launch) (Γ : gx_G) (C M : Mem) (a1 : Int32) {y0 : (Int32 × Mem)} (hf : fX8_type M a1 = some y0) : Met l yX8_type (.code yX8_type cX8_type 3 (some .int) :: TsG) rm_X8_type (va_Pc [.ref (Γ.1 475), .int a1] (gx_P Γ C M)) (gx_Qi Γ y0.1 C y0.2) 0 0 (gA Γ) := by
  refine gm_i (by decide) (Nat.le_of_ble_eq_true rfl) ?_
  intro p e s m args below meth c Q S hG hret ls H locs hl hW hS
  obtain ⟨hx, hb, hml, hown, hts⟩ := id S
  have hl : lv_has ls 3 [(0, .ref (Γ.1 475)), (1, .int a1)] := hl
  unfold fX8_type at hf
  refine lv_iload_n hx hb dX8_type_0 rfl (lv_at hl 1 rfl) ?_
  refine lv_bipush (v := (97 : Int32)) hx hb dX8_type_1 (by decide) ?_
  have J_35 : ∀ (s0_35 : Int32) , fX8_type_35 M a1 s0_35 = some y0 → ∀ (H : Heap) (locs : List Loc) (ls : Array Slot), gx_W Γ C M H → va_S (gA Γ) s.heap H locs → lv_has ls 3 [(0, .ref (Γ.1 475)), (1, .int a1)] → W p l e rm_X8_type s m args below meth c H locs 0 0 Q (F0 m 35 ls [.int s0_35]) := by
    intro s0_35 hf H locs ls hW hS hl
    unfold fX8_type_35 at hf
    refine lv_istore_n (lv' := [(2, .int s0_35), (0, .ref (Γ.1 475)), (1, .int a1)]) hx hb dX8_type_35 rfl hl (by decide) rfl (fun ls hl => ?_)
    refine lv_aload_n hx hb dX8_type_36 rfl (lv_at hl 1 rfl) ?_
    refine lv_iload_n hx hb dX8_type_37 rfl (lv_at hl 0 rfl) ?_
    have J_62 : ∀ (s0_62 : Int32) , fX8_type_62 M a1 s0_62 = some y0 → ∀ (H : Heap) (locs : List Loc) (ls : Array Slot), gx_W Γ C M H → va_S (gA Γ) s.heap H locs → lv_has ls 3 [(0, .ref (Γ.1 475)), (1, .int a1)] → W p l e rm_X8_type s m args below meth c H locs 0 0 Q (F0 m 62 ls [.int s0_62, .ref (Γ.1 475)]) := by
      intro s0_62 hf H locs ls hW hS hl
      unfold fX8_type_62 at hf
      refine put_X8_26 S hG hW hS fl_X8_77 dX8_type_62 (fun H locs hW hS => ?_)
      refine lv_aload_n hx hb dX8_type_65 rfl (lv_at hl 0 rfl) ?_
      refine get_X8_26 S hG hW fl_X8_77 dX8_type_66 ?_
      refine lv_if_le (tgt := 74) hx hb dX8_type_69 (by decide) (fun c69 => ?_) (fun c69 => ?_)
      · have hf := cn_t c69 hf
        refine lv_aload_n hx hb dX8_type_74 rfl (lv_at hl 0 rfl) ?_
        refine get_X8_0 S hG hW fl_X8_7 dX8_type_75 ?_
        refine lv_sipush (v := (1824 : Int32)) hx hb dX8_type_78 (by decide) ?_
        refine lv_aload_n hx hb dX8_type_81 rfl (lv_at hl 0 rfl) ?_
        refine get_X8_1 S hG hW fl_X8_13 dX8_type_82 ?_
        refine lv_bipush (v := (76 : Int32)) hx hb dX8_type_85 (by decide) ?_
        have g87 := ck_p hf
        have hf := ck_r hf
        refine ald_m S hG hW shk_477 lnk_477 g87 dX8_type_87 ?_
        refine lv_iadd hx hb dX8_type_88 ?_
        refine lv_iload_n hx hb dX8_type_89 rfl (lv_at hl 1 rfl) ?_
        have g90 := ck_p hf
        have hf := ck_r hf
        refine ast_m S hG hW hS shk_476 lnk_476 g90 dX8_type_90 (fun H locs hW hS => ?_)
        refine lv_aload_n hx hb dX8_type_91 rfl (lv_at hl 0 rfl) ?_
        refine get_X8_1 S hG hW fl_X8_13 dX8_type_92 ?_
        refine lv_bipush (v := (76 : Int32)) hx hb dX8_type_95 (by decide) ?_
        refine lv_dup2_11 hx hb dX8_type_97 rfl rfl ?_
        have g98 := ck_p hf
        have hf := ck_r hf
        refine ald_m S hG hW shk_477 lnk_477 g98 dX8_type_98 ?_
        refine lv_iconst (v := (1 : Int32)) hx hb dX8_type_99 (by decide) ?_
        refine lv_iadd hx hb dX8_type_100 ?_
        have g101 := ck_p hf
        have hf := ck_r hf
        refine ast_m S hG hW hS shk_477 lnk_477 g101 dX8_type_101 (fun H locs hW hS => ?_)
        refine lv_aload_n hx hb dX8_type_102 rfl (lv_at hl 0 rfl) ?_
        refine get_X8_1 S hG hW fl_X8_13 dX8_type_103 ?_
        refine lv_bipush (v := (76 : Int32)) hx hb dX8_type_106 (by decide) ?_
        have g108 := ck_p hf
        have hf := ck_r hf
        refine ald_m S hG hW shk_477 lnk_477 g108 dX8_type_108 ?_
        have e9 := Option.some.inj hf
        subst e9
        exact hret _ _ _ _ _ hW hS rfl rfl dX8_type_109
      · have hf := cn_f c69 hf
        refine lv_iconst (v := (0 : Int32)) hx hb dX8_type_72 (by decide) ?_
        have e9 := Option.some.inj hf
        subst e9
        exact hret _ _ _ _ _ hW hS rfl rfl dX8_type_73
    refine lv_if_ne (tgt := 45) hx hb dX8_type_38 (by decide) (fun c38 => ?_) (fun c38 => ?_)
    · have hf := cn_f c38 hf
      refine lv_aload_n hx hb dX8_type_45 rfl (lv_at hl 1 rfl) ?_
      refine get_X8_1 S hG hW fl_X8_13 dX8_type_46 ?_
      refine lv_bipush (v := (76 : Int32)) hx hb dX8_type_49 (by decide) ?_
      have g51 := ck_p hf
      have hf := ck_r hf
      refine ald_m S hG hW shk_477 lnk_477 g51 dX8_type_51 ?_
      refine lv_bipush (v := (24 : Int32)) hx hb dX8_type_52 (by decide) ?_
      refine lv_icmp_ne (tgt := 61) hx hb dX8_type_54 (by decide) (fun c54 => ?_) (fun c54 => ?_)
      · have hf := cn_f c54 hf
        refine lv_iconst (v := (0 : Int32)) hx hb dX8_type_61 (by decide) ?_
        exact J_62 (0 : Int32) hf H locs ls hW hS (lv_sub hl [1, 2] rfl)
      · have hf := cn_t c54 hf
        refine lv_iconst (v := (2 : Int32)) hx hb dX8_type_57 (by decide) ?_
        refine lv_goto (tgt := 62) hx hb dX8_type_58 (by decide) ?_
        exact J_62 (2 : Int32) hf H locs ls hW hS (lv_sub hl [1, 2] rfl)
    · have hf := cn_t c38 hf
      refine lv_iconst (v := (1 : Int32)) hx hb dX8_type_41 (by decide) ?_
      refine lv_goto (tgt := 62) hx hb dX8_type_42 (by decide) ?_
      exact J_62 (1 : Int32) hf H locs ls hW hS (lv_sub hl [1, 2] rfl)
  have J_30 : fX8_type_30 M a1 = some y0 → ∀ (H : Heap) (locs : List Loc) (ls : Array Slot), gx_W Γ C M H → va_S (gA Γ) s.heap H locs → lv_has ls 3 [(0, .ref (Γ.1 475)), (1, .int a1)] → W p l e rm_X8_type s m args below meth c H locs 0 0 Q (F0 m 30 ls []) := by
    intro  hf H locs ls hW hS hl
    unfold fX8_type_30 at hf
    refine lv_iconst (v := (1 : Int32)) hx hb dX8_type_30 (by decide) ?_
    refine lv_goto (tgt := 35) hx hb dX8_type_31 (by decide) ?_
    exact J_35 (1 : Int32) hf H locs ls hW hS (lv_sub hl [0, 1] rfl)
  have J_12 : fX8_type_12 M a1 = some y0 → ∀ (H : Heap) (locs : List Loc) (ls : Array Slot), gx_W Γ C M H → va_S (gA Γ) s.heap H locs → lv_has ls 3 [(0, .ref (Γ.1 475)), (1, .int a1)] → W p l e rm_X8_type s m args below meth c H locs 0 0 Q (F0 m 12 ls []) := by
    intro  hf H locs ls hW hS hl
    unfold fX8_type_12 at hf
    refine lv_iload_n hx hb dX8_type_12 rfl (lv_at hl 1 rfl) ?_
    refine lv_bipush (v := (47 : Int32)) hx hb dX8_type_13 (by decide) ?_
    refine lv_icmp_eq (tgt := 30) hx hb dX8_type_15 (by decide) (fun c15 => ?_) (fun c15 => ?_)
    · have hf := cn_t c15 hf
      exact J_30  hf H locs ls hW hS (lv_sub hl [0, 1] rfl)
    · have hf := cn_f c15 hf
      refine lv_iload_n hx hb dX8_type_18 rfl (lv_at hl 1 rfl) ?_
      refine lv_bipush (v := (42 : Int32)) hx hb dX8_type_19 (by decide) ?_
      refine lv_icmp_eq (tgt := 30) hx hb dX8_type_21 (by decide) (fun c21 => ?_) (fun c21 => ?_)
      · have hf := cn_t c21 hf
        exact J_30  hf H locs ls hW hS (lv_sub hl [0, 1] rfl)
      · have hf := cn_f c21 hf
        refine lv_iload_n hx hb dX8_type_24 rfl (lv_at hl 1 rfl) ?_
        refine lv_bipush (v := (63 : Int32)) hx hb dX8_type_25 (by decide) ?_
        refine lv_icmp_ne (tgt := 34) hx hb dX8_type_27 (by decide) (fun c27 => ?_) (fun c27 => ?_)
        · have hf := cn_f c27 hf
          refine lv_iconst (v := (0 : Int32)) hx hb dX8_type_34 (by decide) ?_
          exact J_35 (0 : Int32) hf H locs ls hW hS (lv_sub hl [0, 1] rfl)
        · have hf := cn_t c27 hf
          exact J_30  hf H locs ls hW hS (lv_sub hl [0, 1] rfl)
  refine lv_icmp_lt (tgt := 12) hx hb dX8_type_3 (by decide) (fun c3 => ?_) (fun c3 => ?_)
  · have hf := cn_t c3 hf
    exact J_12  hf H locs ls hW hS (lv_sub hl [0, 1] rfl)
  · have hf := cn_f c3 hf
    refine lv_iload_n hx hb dX8_type_6 rfl (lv_at hl 1 rfl) ?_
    refine lv_bipush (v := (122 : Int32)) hx hb dX8_type_7 (by decide) ?_
    refine lv_icmp_le (tgt := 30) hx hb dX8_type_9 (by decide) (fun c9 => ?_) (fun c9 => ?_)
    · have hf := cn_t c9 hf
      exact J_30  hf H locs ls hW hS (lv_sub hl [0, 1] rfl)
    · have hf := cn_f c9 hf
      exact J_12  hf H locs ls hW hS (lv_sub hl [0, 1] rfl)
noncomputable def fX8_clearText (M : Mem) : Option (Int32 × Mem) := chk (vp_in (76 : Int32) 77) (nmv (((mset M 475 26 (0 : Int32)) 477 (76 : Int32).toNatClampNeg)) fun v12 => chk (vp_in (76 : Int32) 77) (some (v12, (mset (mset M 475 26 (0 : Int32)) 477 (76 : Int32).toNatClampNeg (0 : Int32)))))
abbrev rm_X8_clearText : Room := { frames := 0, cells := 0, slots := 0, locals := 0 }
set_option maxRecDepth 100000 in
set_option maxHeartbeats 4000000 in
theorem c_X8_clearText (l : Launch) (Γ : gx_G) (C M : Mem)  {y0 : (Int32 × Mem)} (hf : fX8_clearText M = some y0) : Met l yX8_clearText (.code yX8_clearText cX8_clearText 2 (some .int) :: TsG) rm_X8_clearText (va_Pc [.ref (Γ.1 475)] (gx_P Γ C M)) (gx_Qi Γ y0.1 C y0.2) 0 0 (gA Γ) := by
  refine gm_i (by decide) (Nat.le_of_ble_eq_true rfl) ?_
  intro p e s m args below meth c Q S hG hret ls H locs hl hW hS
  obtain ⟨hx, hb, hml, hown, hts⟩ := id S
  have hl : lv_has ls 2 [(0, .ref (Γ.1 475))] := hl
  unfold fX8_clearText at hf
  refine lv_aload_n hx hb dX8_clearText_0 rfl (lv_at hl 0 rfl) ?_
  refine lv_iconst (v := (0 : Int32)) hx hb dX8_clearText_1 (by decide) ?_
  refine put_X8_26 S hG hW hS fl_X8_77 dX8_clearText_2 (fun H locs hW hS => ?_)
  refine lv_aload_n hx hb dX8_clearText_5 rfl (lv_at hl 0 rfl) ?_
  refine get_X8_1 S hG hW fl_X8_13 dX8_clearText_6 ?_
  refine lv_bipush (v := (76 : Int32)) hx hb dX8_clearText_9 (by decide) ?_
  have g11 := ck_p hf
  have hf := ck_r hf
  refine ald_m S hG hW shk_477 lnk_477 g11 dX8_clearText_11 ?_
  refine lv_topi (fun v12 ev12 => ?_)
  have hf := nm_v ev12 hf
  refine lv_istore_n (lv' := [(1, .int v12), (0, .ref (Γ.1 475))]) hx hb dX8_clearText_12 rfl hl (by decide) rfl (fun ls hl => ?_)
  refine lv_aload_n hx hb dX8_clearText_13 rfl (lv_at hl 1 rfl) ?_
  refine get_X8_1 S hG hW fl_X8_13 dX8_clearText_14 ?_
  refine lv_bipush (v := (76 : Int32)) hx hb dX8_clearText_17 (by decide) ?_
  refine lv_iconst (v := (0 : Int32)) hx hb dX8_clearText_19 (by decide) ?_
  have g20 := ck_p hf
  have hf := ck_r hf
  refine ast_m S hG hW hS shk_477 lnk_477 g20 dX8_clearText_20 (fun H locs hW hS => ?_)
  refine lv_iload_n hx hb dX8_clearText_21 rfl (lv_at hl 0 rfl) ?_
  have e9 := Option.some.inj hf
  subst e9
  exact hret _ _ _ _ _ hW hS rfl rfl dX8_clearText_22
noncomputable def fX8_at_14 (M : Mem) : Option Int32 := some (47 : Int32)
noncomputable def fX8_at (M : Mem) (a1 : Int32) (a2 : Int32) : Option Int32 := cnd (a2 < (0 : Int32)) (fX8_at_14 M) (chk (vp_in a1 77) (cnd (a2 < (M 477 a1.toNatClampNeg)) (chk (vp_in (((24 : Int32) * a1) + a2) 1848) (some (M 476 (((24 : Int32) * a1) + a2).toNatClampNeg))) (fX8_at_14 M)))
abbrev rm_X8_at : Room := { frames := 0, cells := 0, slots := 0, locals := 0 }
set_option maxRecDepth 100000 in
set_option maxHeartbeats 4000000 in
theorem c_X8_at (l : Launch) (Γ : gx_G) (C M : Mem) (a1 : Int32) (a2 : Int32) {y0 : Int32} (hf : fX8_at M a1 a2 = some y0) : Met l yX8_at (.code yX8_at cX8_at 3 (some .int) :: TsG) rm_X8_at (va_Pc [.ref (Γ.1 475), .int a1, .int a2] (gx_P Γ C M)) (gx_Qi Γ y0 C M) 0 0 (gA Γ) := by
  refine gm_i (by decide) (Nat.le_of_ble_eq_true rfl) ?_
  intro p e s m args below meth c Q S hG hret ls H locs hl hW hS
  obtain ⟨hx, hb, hml, hown, hts⟩ := id S
  have hl : lv_has ls 3 [(0, .ref (Γ.1 475)), (1, .int a1), (2, .int a2)] := hl
  unfold fX8_at at hf
  refine lv_iload_n hx hb dX8_at_0 rfl (lv_at hl 2 rfl) ?_
  have J_14 : fX8_at_14 M = some y0 → ∀ (H : Heap) (locs : List Loc) (ls : Array Slot), gx_W Γ C M H → va_S (gA Γ) s.heap H locs → lv_has ls 3 [] → W p l e rm_X8_at s m args below meth c H locs 0 0 Q (F0 m 14 ls []) := by
    intro  hf H locs ls hW hS hl
    unfold fX8_at_14 at hf
    refine lv_bipush (v := (47 : Int32)) hx hb dX8_at_14 (by decide) ?_
    refine lv_goto (tgt := 30) hx hb dX8_at_16 (by decide) ?_
    exact hret _ _ _ _ _ hW hS rfl (Option.some.inj hf) dX8_at_30
  refine lv_if_lt (tgt := 14) hx hb dX8_at_1 (by decide) (fun c1 => ?_) (fun c1 => ?_)
  · have hf := cn_t c1 hf
    exact J_14  hf H locs ls hW hS (lv_sub hl [] rfl)
  · have hf := cn_f c1 hf
    refine lv_iload_n hx hb dX8_at_4 rfl (lv_at hl 2 rfl) ?_
    refine lv_aload_n hx hb dX8_at_5 rfl (lv_at hl 0 rfl) ?_
    refine get_X8_1 S hG hW fl_X8_13 dX8_at_6 ?_
    refine lv_iload_n hx hb dX8_at_9 rfl (lv_at hl 1 rfl) ?_
    have g10 := ck_p hf
    have hf := ck_r hf
    refine ald_m S hG hW shk_477 lnk_477 g10 dX8_at_10 ?_
    refine lv_icmp_lt (tgt := 19) hx hb dX8_at_11 (by decide) (fun c11 => ?_) (fun c11 => ?_)
    · have hf := cn_t c11 hf
      refine lv_aload_n hx hb dX8_at_19 rfl (lv_at hl 0 rfl) ?_
      refine get_X8_0 S hG hW fl_X8_7 dX8_at_20 ?_
      refine lv_bipush (v := (24 : Int32)) hx hb dX8_at_23 (by decide) ?_
      refine lv_iload_n hx hb dX8_at_25 rfl (lv_at hl 1 rfl) ?_
      refine lv_imul hx hb dX8_at_26 ?_
      refine lv_iload_n hx hb dX8_at_27 rfl (lv_at hl 2 rfl) ?_
      refine lv_iadd hx hb dX8_at_28 ?_
      have g29 := ck_p hf
      have hf := ck_r hf
      refine ald_m S hG hW shk_476 lnk_476 g29 dX8_at_29 ?_
      exact hret _ _ _ _ _ hW hS rfl (Option.some.inj hf) dX8_at_30
    · have hf := cn_f c11 hf
      exact J_14  hf H locs ls hW hS (lv_sub hl [] rfl)
noncomputable def fX8_hasEmpty_47 (M : Mem) (t_4 : (Int32 × Int32)) (s0_47 : Int32) (s1_47 : Int32) : Option ((Int32 × Int32) ⊕ Int32) := nmv ((s1_47 ||| s0_47)) fun v48 => some (.inl (v48, (t_4.2 + (1 : Int32))))
noncomputable def fX8_hasEmpty_46 (M : Mem) (t_4 : (Int32 × Int32)) (s0_46 : Int32) : Option ((Int32 × Int32) ⊕ Int32) := fX8_hasEmpty_47 M t_4 (0 : Int32) s0_46
noncomputable def fX8_hasEmpty_4 (M : Mem) : (Int32 × Int32) → Option ((Int32 × Int32) ⊕ Int32) := fun t_4 => chk (vp_in (76 : Int32) 77) (cnd ((M 477 (76 : Int32).toNatClampNeg) < t_4.2) (exR (chk (narrow .boolean (.int t_4.1) = .int t_4.1) (some t_4.1))) (bnd (fX8_at M (76 : Int32) t_4.2) fun q20 => cnd (q20 = (47 : Int32)) (bnd (fX8_at M (76 : Int32) (t_4.2 - (1 : Int32))) fun q34 => cnd (q34 = (47 : Int32)) (fX8_hasEmpty_47 M t_4 (1 : Int32) t_4.1) (fX8_hasEmpty_46 M t_4 t_4.1)) (fX8_hasEmpty_46 M t_4 t_4.1)))
noncomputable def fX8_hasEmpty (M : Mem) : Option Int32 := lp (fX8_hasEmpty_4 M) ((0 : Int32), (0 : Int32))
abbrev rm_X8_hasEmpty : Room := { frames := 1, cells := 0, slots := 0, locals := 22 }
set_option maxRecDepth 100000 in
set_option maxHeartbeats 4000000 in
theorem c_X8_hasEmpty (l : Launch) (Γ : gx_G) (C M : Mem)  {y0 : Int32} (hf : fX8_hasEmpty M = some y0) : Met l yX8_hasEmpty (.code yX8_hasEmpty cX8_hasEmpty 3 (some .boolean) :: TsG) rm_X8_hasEmpty (va_Pc [.ref (Γ.1 475)] (gx_P Γ C M)) (gx_Qi Γ y0 C M) 0 0 (gA Γ) := by
  refine gm_i (by decide) (Nat.le_of_ble_eq_true rfl) ?_
  intro p e s m args below meth c Q S hG hret ls H locs hl hW hS
  obtain ⟨hx, hb, hml, hown, hts⟩ := id S
  have hl : lv_has ls 3 [(0, .ref (Γ.1 475))] := hl
  unfold fX8_hasEmpty at hf
  refine lv_iconst (v := (0 : Int32)) hx hb dX8_hasEmpty_0 (by decide) ?_
  refine lv_istore_n (lv' := [(1, .int (0 : Int32)), (0, .ref (Γ.1 475))]) hx hb dX8_hasEmpty_1 rfl hl (by decide) rfl (fun ls hl => ?_)
  refine lv_iconst (v := (0 : Int32)) hx hb dX8_hasEmpty_2 (by decide) ?_
  refine lv_istore_n (lv' := [(2, .int (0 : Int32)), (1, .int (0 : Int32)), (0, .ref (Γ.1 475))]) hx hb dX8_hasEmpty_3 rfl hl (by decide) rfl (fun ls hl => ?_)
  have J_4 : ∀  (t_4 : Int32 × Int32), lp (fX8_hasEmpty_4 M) t_4 = some y0 → ∀ (H : Heap) (locs : List Loc) (ls : Array Slot), gx_W Γ C M H → va_S (gA Γ) s.heap H locs → lv_has ls 3 [(0, .ref (Γ.1 475)), (1, .int t_4.1), (2, .int t_4.2)] → W p l e rm_X8_hasEmpty s m args below meth c H locs 0 0 Q (F0 m 4 ls []) := by
    refine lp_ind (P := fun (t_4 : Int32 × Int32) => ∀ (H : Heap) (locs : List Loc) (ls : Array Slot), gx_W Γ C M H → va_S (gA Γ) s.heap H locs → lv_has ls 3 [(0, .ref (Γ.1 475)), (1, .int t_4.1), (2, .int t_4.2)] → W p l e rm_X8_hasEmpty s m args below meth c H locs 0 0 Q (F0 m 4 ls [])) ?_
    intro t_4 y1 hf kI1 kX1 H locs ls hW hS hl
    unfold fX8_hasEmpty_4 at hf
    refine lv_iload_n hx hb dX8_hasEmpty_4 rfl (lv_at hl 2 rfl) ?_
    refine lv_aload_n hx hb dX8_hasEmpty_5 rfl (lv_at hl 0 rfl) ?_
    refine get_X8_1 S hG hW fl_X8_13 dX8_hasEmpty_6 ?_
    refine lv_bipush (v := (76 : Int32)) hx hb dX8_hasEmpty_9 (by decide) ?_
    have g11 := ck_p hf
    have hf := ck_r hf
    refine ald_m S hG hW shk_477 lnk_477 g11 dX8_hasEmpty_11 ?_
    refine lv_icmp_gt (tgt := 55) hx hb dX8_hasEmpty_12 (by decide) (fun c12 => ?_) (fun c12 => ?_)
    · have hf := cn_t c12 hf
      obtain ⟨z12, hf, ez⟩ := exR_e hf
      rw [kX1 _ ez] at hf
      refine lv_iload_n hx hb dX8_hasEmpty_55 rfl (lv_at hl 1 rfl) ?_
      have n9 := ck_p hf
      have hf := ck_r hf
      exact hret _ _ _ _ _ hW hS n9 (Option.some.inj hf) dX8_hasEmpty_56
    · have hf := cn_f c12 hf
      refine lv_iload_n hx hb dX8_hasEmpty_15 rfl (lv_at hl 1 rfl) ?_
      refine lv_aload_n hx hb dX8_hasEmpty_16 rfl (lv_at hl 0 rfl) ?_
      refine lv_bipush (v := (76 : Int32)) hx hb dX8_hasEmpty_17 (by decide) ?_
      refine lv_iload_n hx hb dX8_hasEmpty_19 rfl (lv_at hl 2 rfl) ?_
      obtain ⟨q20, hq20, hf⟩ := bnd_e hf
      refine gk0_i hS (gv_run (rest := [.int t_4.1]) S hG hW hS [.int (76 : Int32), .int t_4.2] (c_X8_at l Γ C M (76 : Int32) t_4.2 hq20) pk_X8_at ml_X8_81 (Nat.le_of_ble_eq_true rfl) rfl rfl rfl rfl ⟨Nat.le_of_ble_eq_true rfl, Nat.le_of_ble_eq_true rfl⟩ rfl hl.1 rfl (Nat.le_of_ble_eq_true rfl) dX8_hasEmpty_20 ⟨Nat.le_of_ble_eq_true rfl, Nat.le_of_ble_eq_true rfl⟩) (fun H locs hW hS => ?_)
      refine lv_bipush (v := (47 : Int32)) hx hb dX8_hasEmpty_23 (by decide) ?_
      have J_47 : ∀ (s0_47 : Int32) (s1_47 : Int32) , fX8_hasEmpty_47 M t_4 s0_47 s1_47 = some y1 → ∀ (H : Heap) (locs : List Loc) (ls : Array Slot), gx_W Γ C M H → va_S (gA Γ) s.heap H locs → lv_has ls 3 [(0, .ref (Γ.1 475)), (2, .int t_4.2)] → W p l e rm_X8_hasEmpty s m args below meth c H locs 0 0 Q (F0 m 47 ls [.int s0_47, .int s1_47]) := by
        intro s0_47 s1_47 hf H locs ls hW hS hl
        unfold fX8_hasEmpty_47 at hf
        refine lv_ior hx hb dX8_hasEmpty_47 ?_
        refine lv_topi (fun v48 ev48 => ?_)
        have hf := nm_v ev48 hf
        refine lv_istore_n (lv' := [(1, .int v48), (0, .ref (Γ.1 475)), (2, .int t_4.2)]) hx hb dX8_hasEmpty_48 rfl hl (by decide) rfl (fun ls hl => ?_)
        refine lv_iinc (v := (t_4.2 + (1 : Int32))) (lv' := [(2, .int (t_4.2 + (1 : Int32))), (1, .int v48), (0, .ref (Γ.1 475))]) hx hb dX8_hasEmpty_49 hl (k := 2) rfl rfl (by decide) rfl (fun ls hl => ?_)
        refine lv_goto (tgt := 4) hx hb dX8_hasEmpty_52 (by decide) ?_
        exact kI1 _ (Option.some.inj hf).symm H locs ls hW hS (lv_sub hl [2, 1, 0] rfl)
      have J_46 : ∀ (s0_46 : Int32) , fX8_hasEmpty_46 M t_4 s0_46 = some y1 → ∀ (H : Heap) (locs : List Loc) (ls : Array Slot), gx_W Γ C M H → va_S (gA Γ) s.heap H locs → lv_has ls 3 [(0, .ref (Γ.1 475)), (2, .int t_4.2)] → W p l e rm_X8_hasEmpty s m args below meth c H locs 0 0 Q (F0 m 46 ls [.int s0_46]) := by
        intro s0_46 hf H locs ls hW hS hl
        unfold fX8_hasEmpty_46 at hf
        refine lv_iconst (v := (0 : Int32)) hx hb dX8_hasEmpty_46 (by decide) ?_
        exact J_47 (0 : Int32) s0_46 hf H locs ls hW hS (lv_sub hl [0, 1] rfl)
      refine lv_icmp_ne (tgt := 46) hx hb dX8_hasEmpty_25 (by decide) (fun c25 => ?_) (fun c25 => ?_)
      · have hf := cn_f c25 hf
        exact J_46 t_4.1 hf H locs ls hW hS (lv_sub hl [0, 2] rfl)
      · have hf := cn_t c25 hf
        refine lv_aload_n hx hb dX8_hasEmpty_28 rfl (lv_at hl 0 rfl) ?_
        refine lv_bipush (v := (76 : Int32)) hx hb dX8_hasEmpty_29 (by decide) ?_
        refine lv_iload_n hx hb dX8_hasEmpty_31 rfl (lv_at hl 2 rfl) ?_
        refine lv_iconst (v := (1 : Int32)) hx hb dX8_hasEmpty_32 (by decide) ?_
        refine lv_isub hx hb dX8_hasEmpty_33 ?_
        obtain ⟨q34, hq34, hf⟩ := bnd_e hf
        refine gk0_i hS (gv_run (rest := [.int t_4.1]) S hG hW hS [.int (76 : Int32), .int (t_4.2 - (1 : Int32))] (c_X8_at l Γ C M (76 : Int32) (t_4.2 - (1 : Int32)) hq34) pk_X8_at ml_X8_81 (Nat.le_of_ble_eq_true rfl) rfl rfl rfl rfl ⟨Nat.le_of_ble_eq_true rfl, Nat.le_of_ble_eq_true rfl⟩ rfl hl.1 rfl (Nat.le_of_ble_eq_true rfl) dX8_hasEmpty_34 ⟨Nat.le_of_ble_eq_true rfl, Nat.le_of_ble_eq_true rfl⟩) (fun H locs hW hS => ?_)
        refine lv_bipush (v := (47 : Int32)) hx hb dX8_hasEmpty_37 (by decide) ?_
        refine lv_icmp_ne (tgt := 46) hx hb dX8_hasEmpty_39 (by decide) (fun c39 => ?_) (fun c39 => ?_)
        · have hf := cn_f c39 hf
          exact J_46 t_4.1 hf H locs ls hW hS (lv_sub hl [0, 2] rfl)
        · have hf := cn_t c39 hf
          refine lv_iconst (v := (1 : Int32)) hx hb dX8_hasEmpty_42 (by decide) ?_
          refine lv_goto (tgt := 47) hx hb dX8_hasEmpty_43 (by decide) ?_
          exact J_47 (1 : Int32) t_4.1 hf H locs ls hW hS (lv_sub hl [0, 2] rfl)
  exact J_4 ((0 : Int32), (0 : Int32)) hf H locs ls hW hS (lv_sub hl [2, 1, 0] rfl)
noncomputable def fX8_isPathNow_56 (M : Mem) (t_15 : (Int32 × Int32)) (s0_56 : Int32) (s1_56 : Int32) : Option ((Int32 × Int32) ⊕ Int32) := nmv ((s1_56 &&& s0_56)) fun v57 => some (.inl (v57, (t_15.2 + (1 : Int32))))
noncomputable def fX8_isPathNow_55 (M : Mem) (t_15 : (Int32 × Int32)) (s0_55 : Int32) : Option ((Int32 × Int32) ⊕ Int32) := fX8_isPathNow_56 M t_15 (0 : Int32) s0_55
noncomputable def fX8_isPathNow_15 (M : Mem) : (Int32 × Int32) → Option ((Int32 × Int32) ⊕ Int32) := fun t_15 => chk (vp_in (76 : Int32) 77) (cnd ((M 477 (76 : Int32).toNatClampNeg) ≤ t_15.2) (exR (chk (narrow .boolean (.int t_15.1) = .int t_15.1) (some t_15.1))) (bnd (fX8_at M (76 : Int32) t_15.2) fun q31 => cnd (q31 = (42 : Int32)) (fX8_isPathNow_55 M t_15 t_15.1) (bnd (fX8_at M (76 : Int32) t_15.2) fun q43 => cnd (q43 = (63 : Int32)) (fX8_isPathNow_55 M t_15 t_15.1) (fX8_isPathNow_56 M t_15 (1 : Int32) t_15.1))))
noncomputable def fX8_isPathNow_12 (M : Mem) (s0_12 : Int32) : Option Int32 := lp (fX8_isPathNow_15 M) (s0_12, (0 : Int32))
noncomputable def fX8_isPathNow (M : Mem) : Option Int32 := bnd (fX8_hasEmpty M) fun q1 => cnd (q1 = (0 : Int32)) (fX8_isPathNow_12 M (1 : Int32)) (fX8_isPathNow_12 M (0 : Int32))
abbrev rm_X8_isPathNow : Room := { frames := 2, cells := 0, slots := 0, locals := 44 }
set_option maxRecDepth 100000 in
set_option maxHeartbeats 4000000 in
theorem c_X8_isPathNow (l : Launch) (Γ : gx_G) (C M : Mem)  {y0 : Int32} (hf : fX8_isPathNow M = some y0) : Met l yX8_isPathNow (.code yX8_isPathNow cX8_isPathNow 3 (some .boolean) :: TsG) rm_X8_isPathNow (va_Pc [.ref (Γ.1 475)] (gx_P Γ C M)) (gx_Qi Γ y0 C M) 0 0 (gA Γ) := by
  refine gm_i (by decide) (Nat.le_of_ble_eq_true rfl) ?_
  intro p e s m args below meth c Q S hG hret ls H locs hl hW hS
  obtain ⟨hx, hb, hml, hown, hts⟩ := id S
  have hl : lv_has ls 3 [(0, .ref (Γ.1 475))] := hl
  unfold fX8_isPathNow at hf
  refine lv_aload_n hx hb dX8_isPathNow_0 rfl (lv_at hl 0 rfl) ?_
  obtain ⟨q1, hq1, hf⟩ := bnd_e hf
  refine gk0_i hS (gv_run (rest := []) S hG hW hS [] (c_X8_hasEmpty l Γ C M hq1) pk_X8_hasEmpty ml_X8_85 (Nat.le_of_ble_eq_true rfl) rfl rfl rfl rfl ⟨Nat.le_of_ble_eq_true rfl, Nat.le_of_ble_eq_true rfl⟩ rfl hl.1 rfl (Nat.le_of_ble_eq_true rfl) dX8_isPathNow_1 ⟨Nat.le_of_ble_eq_true rfl, Nat.le_of_ble_eq_true rfl⟩) (fun H locs hW hS => ?_)
  have J_12 : ∀ (s0_12 : Int32) , fX8_isPathNow_12 M s0_12 = some y0 → ∀ (H : Heap) (locs : List Loc) (ls : Array Slot), gx_W Γ C M H → va_S (gA Γ) s.heap H locs → lv_has ls 3 [(0, .ref (Γ.1 475))] → W p l e rm_X8_isPathNow s m args below meth c H locs 0 0 Q (F0 m 12 ls [.int s0_12]) := by
    intro s0_12 hf H locs ls hW hS hl
    unfold fX8_isPathNow_12 at hf
    refine lv_istore_n (lv' := [(1, .int s0_12), (0, .ref (Γ.1 475))]) hx hb dX8_isPathNow_12 rfl hl (by decide) rfl (fun ls hl => ?_)
    refine lv_iconst (v := (0 : Int32)) hx hb dX8_isPathNow_13 (by decide) ?_
    refine lv_istore_n (lv' := [(2, .int (0 : Int32)), (1, .int s0_12), (0, .ref (Γ.1 475))]) hx hb dX8_isPathNow_14 rfl hl (by decide) rfl (fun ls hl => ?_)
    have J_15 : ∀  (t_15 : Int32 × Int32), lp (fX8_isPathNow_15 M) t_15 = some y0 → ∀ (H : Heap) (locs : List Loc) (ls : Array Slot), gx_W Γ C M H → va_S (gA Γ) s.heap H locs → lv_has ls 3 [(0, .ref (Γ.1 475)), (1, .int t_15.1), (2, .int t_15.2)] → W p l e rm_X8_isPathNow s m args below meth c H locs 0 0 Q (F0 m 15 ls []) := by
      refine lp_ind (P := fun (t_15 : Int32 × Int32) => ∀ (H : Heap) (locs : List Loc) (ls : Array Slot), gx_W Γ C M H → va_S (gA Γ) s.heap H locs → lv_has ls 3 [(0, .ref (Γ.1 475)), (1, .int t_15.1), (2, .int t_15.2)] → W p l e rm_X8_isPathNow s m args below meth c H locs 0 0 Q (F0 m 15 ls [])) ?_
      intro t_15 y1 hf kI1 kX1 H locs ls hW hS hl
      unfold fX8_isPathNow_15 at hf
      refine lv_iload_n hx hb dX8_isPathNow_15 rfl (lv_at hl 2 rfl) ?_
      refine lv_aload_n hx hb dX8_isPathNow_16 rfl (lv_at hl 0 rfl) ?_
      refine get_X8_1 S hG hW fl_X8_13 dX8_isPathNow_17 ?_
      refine lv_bipush (v := (76 : Int32)) hx hb dX8_isPathNow_20 (by decide) ?_
      have g22 := ck_p hf
      have hf := ck_r hf
      refine ald_m S hG hW shk_477 lnk_477 g22 dX8_isPathNow_22 ?_
      refine lv_icmp_ge (tgt := 64) hx hb dX8_isPathNow_23 (by decide) (fun c23 => ?_) (fun c23 => ?_)
      · have hf := cn_t c23 hf
        obtain ⟨z23, hf, ez⟩ := exR_e hf
        rw [kX1 _ ez] at hf
        refine lv_iload_n hx hb dX8_isPathNow_64 rfl (lv_at hl 1 rfl) ?_
        have n9 := ck_p hf
        have hf := ck_r hf
        exact hret _ _ _ _ _ hW hS n9 (Option.some.inj hf) dX8_isPathNow_65
      · have hf := cn_f c23 hf
        refine lv_iload_n hx hb dX8_isPathNow_26 rfl (lv_at hl 1 rfl) ?_
        refine lv_aload_n hx hb dX8_isPathNow_27 rfl (lv_at hl 0 rfl) ?_
        refine lv_bipush (v := (76 : Int32)) hx hb dX8_isPathNow_28 (by decide) ?_
        refine lv_iload_n hx hb dX8_isPathNow_30 rfl (lv_at hl 2 rfl) ?_
        obtain ⟨q31, hq31, hf⟩ := bnd_e hf
        refine gk0_i hS (gv_run (rest := [.int t_15.1]) S hG hW hS [.int (76 : Int32), .int t_15.2] (c_X8_at l Γ C M (76 : Int32) t_15.2 hq31) pk_X8_at ml_X8_81 (Nat.le_of_ble_eq_true rfl) rfl rfl rfl rfl ⟨Nat.le_of_ble_eq_true rfl, Nat.le_of_ble_eq_true rfl⟩ rfl hl.1 rfl (Nat.le_of_ble_eq_true rfl) dX8_isPathNow_31 ⟨Nat.le_of_ble_eq_true rfl, Nat.le_of_ble_eq_true rfl⟩) (fun H locs hW hS => ?_)
        refine lv_bipush (v := (42 : Int32)) hx hb dX8_isPathNow_34 (by decide) ?_
        have J_56 : ∀ (s0_56 : Int32) (s1_56 : Int32) , fX8_isPathNow_56 M t_15 s0_56 s1_56 = some y1 → ∀ (H : Heap) (locs : List Loc) (ls : Array Slot), gx_W Γ C M H → va_S (gA Γ) s.heap H locs → lv_has ls 3 [(0, .ref (Γ.1 475)), (2, .int t_15.2)] → W p l e rm_X8_isPathNow s m args below meth c H locs 0 0 Q (F0 m 56 ls [.int s0_56, .int s1_56]) := by
          intro s0_56 s1_56 hf H locs ls hW hS hl
          unfold fX8_isPathNow_56 at hf
          refine lv_iand hx hb dX8_isPathNow_56 ?_
          refine lv_topi (fun v57 ev57 => ?_)
          have hf := nm_v ev57 hf
          refine lv_istore_n (lv' := [(1, .int v57), (0, .ref (Γ.1 475)), (2, .int t_15.2)]) hx hb dX8_isPathNow_57 rfl hl (by decide) rfl (fun ls hl => ?_)
          refine lv_iinc (v := (t_15.2 + (1 : Int32))) (lv' := [(2, .int (t_15.2 + (1 : Int32))), (1, .int v57), (0, .ref (Γ.1 475))]) hx hb dX8_isPathNow_58 hl (k := 2) rfl rfl (by decide) rfl (fun ls hl => ?_)
          refine lv_goto (tgt := 15) hx hb dX8_isPathNow_61 (by decide) ?_
          exact kI1 _ (Option.some.inj hf).symm H locs ls hW hS (lv_sub hl [2, 1, 0] rfl)
        have J_55 : ∀ (s0_55 : Int32) , fX8_isPathNow_55 M t_15 s0_55 = some y1 → ∀ (H : Heap) (locs : List Loc) (ls : Array Slot), gx_W Γ C M H → va_S (gA Γ) s.heap H locs → lv_has ls 3 [(0, .ref (Γ.1 475)), (2, .int t_15.2)] → W p l e rm_X8_isPathNow s m args below meth c H locs 0 0 Q (F0 m 55 ls [.int s0_55]) := by
          intro s0_55 hf H locs ls hW hS hl
          unfold fX8_isPathNow_55 at hf
          refine lv_iconst (v := (0 : Int32)) hx hb dX8_isPathNow_55 (by decide) ?_
          exact J_56 (0 : Int32) s0_55 hf H locs ls hW hS (lv_sub hl [0, 1] rfl)
        refine lv_icmp_eq (tgt := 55) hx hb dX8_isPathNow_36 (by decide) (fun c36 => ?_) (fun c36 => ?_)
        · have hf := cn_t c36 hf
          exact J_55 t_15.1 hf H locs ls hW hS (lv_sub hl [0, 2] rfl)
        · have hf := cn_f c36 hf
          refine lv_aload_n hx hb dX8_isPathNow_39 rfl (lv_at hl 0 rfl) ?_
          refine lv_bipush (v := (76 : Int32)) hx hb dX8_isPathNow_40 (by decide) ?_
          refine lv_iload_n hx hb dX8_isPathNow_42 rfl (lv_at hl 2 rfl) ?_
          obtain ⟨q43, hq43, hf⟩ := bnd_e hf
          refine gk0_i hS (gv_run (rest := [.int t_15.1]) S hG hW hS [.int (76 : Int32), .int t_15.2] (c_X8_at l Γ C M (76 : Int32) t_15.2 hq43) pk_X8_at ml_X8_81 (Nat.le_of_ble_eq_true rfl) rfl rfl rfl rfl ⟨Nat.le_of_ble_eq_true rfl, Nat.le_of_ble_eq_true rfl⟩ rfl hl.1 rfl (Nat.le_of_ble_eq_true rfl) dX8_isPathNow_43 ⟨Nat.le_of_ble_eq_true rfl, Nat.le_of_ble_eq_true rfl⟩) (fun H locs hW hS => ?_)
          refine lv_bipush (v := (63 : Int32)) hx hb dX8_isPathNow_46 (by decide) ?_
          refine lv_icmp_eq (tgt := 55) hx hb dX8_isPathNow_48 (by decide) (fun c48 => ?_) (fun c48 => ?_)
          · have hf := cn_t c48 hf
            exact J_55 t_15.1 hf H locs ls hW hS (lv_sub hl [0, 2] rfl)
          · have hf := cn_f c48 hf
            refine lv_iconst (v := (1 : Int32)) hx hb dX8_isPathNow_51 (by decide) ?_
            refine lv_goto (tgt := 56) hx hb dX8_isPathNow_52 (by decide) ?_
            exact J_56 (1 : Int32) t_15.1 hf H locs ls hW hS (lv_sub hl [0, 2] rfl)
    exact J_15 (s0_12, (0 : Int32)) hf H locs ls hW hS (lv_sub hl [2, 1, 0] rfl)
  refine lv_if_ne (tgt := 11) hx hb dX8_isPathNow_4 (by decide) (fun c4 => ?_) (fun c4 => ?_)
  · have hf := cn_f c4 hf
    refine lv_iconst (v := (0 : Int32)) hx hb dX8_isPathNow_11 (by decide) ?_
    exact J_12 (0 : Int32) hf H locs ls hW hS (lv_sub hl [0] rfl)
  · have hf := cn_t c4 hf
    refine lv_iconst (v := (1 : Int32)) hx hb dX8_isPathNow_7 (by decide) ?_
    refine lv_goto (tgt := 12) hx hb dX8_isPathNow_8 (by decide) ?_
    exact J_12 (1 : Int32) hf H locs ls hW hS (lv_sub hl [0] rfl)
noncomputable def fX8_isPath (M : Mem) : Option (Int32 × Mem) := bnd (fX8_isPathNow (mset M 475 26 (0 : Int32))) fun q6 => chk (narrow .boolean (.int q6) = .int q6) (some (q6, (mset M 475 26 (0 : Int32))))
abbrev rm_X8_isPath : Room := { frames := 3, cells := 0, slots := 0, locals := 66 }
set_option maxRecDepth 100000 in
set_option maxHeartbeats 4000000 in
theorem c_X8_isPath (l : Launch) (Γ : gx_G) (C M : Mem)  {y0 : (Int32 × Mem)} (hf : fX8_isPath M = some y0) : Met l yX8_isPath (.code yX8_isPath cX8_isPath 1 (some .boolean) :: TsG) rm_X8_isPath (va_Pc [.ref (Γ.1 475)] (gx_P Γ C M)) (gx_Qi Γ y0.1 C y0.2) 0 0 (gA Γ) := by
  refine gm_i (by decide) (Nat.le_of_ble_eq_true rfl) ?_
  intro p e s m args below meth c Q S hG hret ls H locs hl hW hS
  obtain ⟨hx, hb, hml, hown, hts⟩ := id S
  have hl : lv_has ls 1 [(0, .ref (Γ.1 475))] := hl
  unfold fX8_isPath at hf
  refine lv_aload_n hx hb dX8_isPath_0 rfl (lv_at hl 0 rfl) ?_
  refine lv_iconst (v := (0 : Int32)) hx hb dX8_isPath_1 (by decide) ?_
  refine put_X8_26 S hG hW hS fl_X8_77 dX8_isPath_2 (fun H locs hW hS => ?_)
  refine lv_aload_n hx hb dX8_isPath_5 rfl (lv_at hl 0 rfl) ?_
  obtain ⟨q6, hq6, hf⟩ := bnd_e hf
  refine gk0_i hS (gv_run (rest := []) S hG hW hS [] (c_X8_isPathNow l Γ C (mset M 475 26 (0 : Int32)) hq6) pk_X8_isPathNow ml_X8_89 (Nat.le_of_ble_eq_true rfl) rfl rfl rfl rfl ⟨Nat.le_of_ble_eq_true rfl, Nat.le_of_ble_eq_true rfl⟩ rfl hl.1 rfl (Nat.le_of_ble_eq_true rfl) dX8_isPath_6 ⟨Nat.le_of_ble_eq_true rfl, Nat.le_of_ble_eq_true rfl⟩) (fun H locs hW hS => ?_)
  have n9 := ck_p hf
  have hf := ck_r hf
  have e9 := Option.some.inj hf
  subst e9
  exact hret _ _ _ _ _ hW hS n9 rfl dX8_isPath_9
noncomputable def fX8_isGlobNow_96 (M : Mem) (t_15 : (Int32 × Int32)) (s0_96 : Int32) (s1_96 : Int32) : Option ((Int32 × Int32) ⊕ Int32) := nmv ((s1_96 &&& s0_96)) fun v97 => some (.inl (v97, (t_15.2 + (1 : Int32))))
noncomputable def fX8_isGlobNow_95 (M : Mem) (t_15 : (Int32 × Int32)) (s0_95 : Int32) : Option ((Int32 × Int32) ⊕ Int32) := fX8_isGlobNow_96 M t_15 (0 : Int32) s0_95
noncomputable def fX8_isGlobNow_91 (M : Mem) (t_15 : (Int32 × Int32)) (s0_91 : Int32) : Option ((Int32 × Int32) ⊕ Int32) := fX8_isGlobNow_96 M t_15 (1 : Int32) s0_91
noncomputable def fX8_isGlobNow_57 (M : Mem) (t_15 : (Int32 × Int32)) (s0_57 : Int32) : Option ((Int32 × Int32) ⊕ Int32) := cnd (s0_57 = (0 : Int32)) (fX8_isGlobNow_91 M t_15 t_15.1) (bnd (fX8_at M (76 : Int32) (t_15.2 - (2 : Int32))) fun q69 => cnd (q69 = (47 : Int32)) (bnd (fX8_at M (76 : Int32) (t_15.2 + (1 : Int32))) fun q83 => cnd (q83 = (47 : Int32)) (fX8_isGlobNow_91 M t_15 t_15.1) (fX8_isGlobNow_95 M t_15 t_15.1)) (fX8_isGlobNow_95 M t_15 t_15.1))
noncomputable def fX8_isGlobNow_56 (M : Mem) (t_15 : (Int32 × Int32)) : Option ((Int32 × Int32) ⊕ Int32) := fX8_isGlobNow_57 M t_15 (0 : Int32)
noncomputable def fX8_isGlobNow_15 (M : Mem) : (Int32 × Int32) → Option ((Int32 × Int32) ⊕ Int32) := fun t_15 => chk (vp_in (76 : Int32) 77) (cnd ((M 477 (76 : Int32).toNatClampNeg) ≤ t_15.2) (exR (chk (narrow .boolean (.int t_15.1) = .int t_15.1) (some t_15.1))) (bnd (fX8_at M (76 : Int32) t_15.2) fun q30 => cnd (q30 = (42 : Int32)) (bnd (fX8_at M (76 : Int32) (t_15.2 - (1 : Int32))) fun q44 => cnd (q44 = (42 : Int32)) (fX8_isGlobNow_57 M t_15 (1 : Int32)) (fX8_isGlobNow_56 M t_15)) (fX8_isGlobNow_56 M t_15)))
noncomputable def fX8_isGlobNow_12 (M : Mem) (s0_12 : Int32) : Option Int32 := lp (fX8_isGlobNow_15 M) (s0_12, (1 : Int32))
noncomputable def fX8_isGlobNow (M : Mem) : Option Int32 := bnd (fX8_hasEmpty M) fun q1 => cnd (q1 = (0 : Int32)) (fX8_isGlobNow_12 M (1 : Int32)) (fX8_isGlobNow_12 M (0 : Int32))
abbrev rm_X8_isGlobNow : Room := { frames := 2, cells := 0, slots := 0, locals := 44 }
set_option maxRecDepth 100000 in
set_option maxHeartbeats 4000000 in
theorem c_X8_isGlobNow (l : Launch) (Γ : gx_G) (C M : Mem)  {y0 : Int32} (hf : fX8_isGlobNow M = some y0) : Met l yX8_isGlobNow (.code yX8_isGlobNow cX8_isGlobNow 4 (some .boolean) :: TsG) rm_X8_isGlobNow (va_Pc [.ref (Γ.1 475)] (gx_P Γ C M)) (gx_Qi Γ y0 C M) 0 0 (gA Γ) := by
  refine gm_i (by decide) (Nat.le_of_ble_eq_true rfl) ?_
  intro p e s m args below meth c Q S hG hret ls H locs hl hW hS
  obtain ⟨hx, hb, hml, hown, hts⟩ := id S
  have hl : lv_has ls 4 [(0, .ref (Γ.1 475))] := hl
  unfold fX8_isGlobNow at hf
  refine lv_aload_n hx hb dX8_isGlobNow_0 rfl (lv_at hl 0 rfl) ?_
  obtain ⟨q1, hq1, hf⟩ := bnd_e hf
  refine gk0_i hS (gv_run (rest := []) S hG hW hS [] (c_X8_hasEmpty l Γ C M hq1) pk_X8_hasEmpty ml_X8_85 (Nat.le_of_ble_eq_true rfl) rfl rfl rfl rfl ⟨Nat.le_of_ble_eq_true rfl, Nat.le_of_ble_eq_true rfl⟩ rfl hl.1 rfl (Nat.le_of_ble_eq_true rfl) dX8_isGlobNow_1 ⟨Nat.le_of_ble_eq_true rfl, Nat.le_of_ble_eq_true rfl⟩) (fun H locs hW hS => ?_)
  have J_12 : ∀ (s0_12 : Int32) , fX8_isGlobNow_12 M s0_12 = some y0 → ∀ (H : Heap) (locs : List Loc) (ls : Array Slot), gx_W Γ C M H → va_S (gA Γ) s.heap H locs → lv_has ls 4 [(0, .ref (Γ.1 475))] → W p l e rm_X8_isGlobNow s m args below meth c H locs 0 0 Q (F0 m 12 ls [.int s0_12]) := by
    intro s0_12 hf H locs ls hW hS hl
    unfold fX8_isGlobNow_12 at hf
    refine lv_istore_n (lv' := [(1, .int s0_12), (0, .ref (Γ.1 475))]) hx hb dX8_isGlobNow_12 rfl hl (by decide) rfl (fun ls hl => ?_)
    refine lv_iconst (v := (1 : Int32)) hx hb dX8_isGlobNow_13 (by decide) ?_
    refine lv_istore_n (lv' := [(2, .int (1 : Int32)), (1, .int s0_12), (0, .ref (Γ.1 475))]) hx hb dX8_isGlobNow_14 rfl hl (by decide) rfl (fun ls hl => ?_)
    have J_15 : ∀  (t_15 : Int32 × Int32), lp (fX8_isGlobNow_15 M) t_15 = some y0 → ∀ (H : Heap) (locs : List Loc) (ls : Array Slot), gx_W Γ C M H → va_S (gA Γ) s.heap H locs → lv_has ls 4 [(0, .ref (Γ.1 475)), (1, .int t_15.1), (2, .int t_15.2)] → W p l e rm_X8_isGlobNow s m args below meth c H locs 0 0 Q (F0 m 15 ls []) := by
      refine lp_ind (P := fun (t_15 : Int32 × Int32) => ∀ (H : Heap) (locs : List Loc) (ls : Array Slot), gx_W Γ C M H → va_S (gA Γ) s.heap H locs → lv_has ls 4 [(0, .ref (Γ.1 475)), (1, .int t_15.1), (2, .int t_15.2)] → W p l e rm_X8_isGlobNow s m args below meth c H locs 0 0 Q (F0 m 15 ls [])) ?_
      intro t_15 y1 hf kI1 kX1 H locs ls hW hS hl
      unfold fX8_isGlobNow_15 at hf
      refine lv_iload_n hx hb dX8_isGlobNow_15 rfl (lv_at hl 2 rfl) ?_
      refine lv_aload_n hx hb dX8_isGlobNow_16 rfl (lv_at hl 0 rfl) ?_
      refine get_X8_1 S hG hW fl_X8_13 dX8_isGlobNow_17 ?_
      refine lv_bipush (v := (76 : Int32)) hx hb dX8_isGlobNow_20 (by decide) ?_
      have g22 := ck_p hf
      have hf := ck_r hf
      refine ald_m S hG hW shk_477 lnk_477 g22 dX8_isGlobNow_22 ?_
      refine lv_icmp_ge (tgt := 104) hx hb dX8_isGlobNow_23 (by decide) (fun c23 => ?_) (fun c23 => ?_)
      · have hf := cn_t c23 hf
        obtain ⟨z23, hf, ez⟩ := exR_e hf
        rw [kX1 _ ez] at hf
        refine lv_iload_n hx hb dX8_isGlobNow_104 rfl (lv_at hl 1 rfl) ?_
        have n9 := ck_p hf
        have hf := ck_r hf
        exact hret _ _ _ _ _ hW hS n9 (Option.some.inj hf) dX8_isGlobNow_105
      · have hf := cn_f c23 hf
        refine lv_aload_n hx hb dX8_isGlobNow_26 rfl (lv_at hl 0 rfl) ?_
        refine lv_bipush (v := (76 : Int32)) hx hb dX8_isGlobNow_27 (by decide) ?_
        refine lv_iload_n hx hb dX8_isGlobNow_29 rfl (lv_at hl 2 rfl) ?_
        obtain ⟨q30, hq30, hf⟩ := bnd_e hf
        refine gk0_i hS (gv_run (rest := []) S hG hW hS [.int (76 : Int32), .int t_15.2] (c_X8_at l Γ C M (76 : Int32) t_15.2 hq30) pk_X8_at ml_X8_81 (Nat.le_of_ble_eq_true rfl) rfl rfl rfl rfl ⟨Nat.le_of_ble_eq_true rfl, Nat.le_of_ble_eq_true rfl⟩ rfl hl.1 rfl (Nat.le_of_ble_eq_true rfl) dX8_isGlobNow_30 ⟨Nat.le_of_ble_eq_true rfl, Nat.le_of_ble_eq_true rfl⟩) (fun H locs hW hS => ?_)
        refine lv_bipush (v := (42 : Int32)) hx hb dX8_isGlobNow_33 (by decide) ?_
        have J_57 : ∀ (s0_57 : Int32) , fX8_isGlobNow_57 M t_15 s0_57 = some y1 → ∀ (H : Heap) (locs : List Loc) (ls : Array Slot), gx_W Γ C M H → va_S (gA Γ) s.heap H locs → lv_has ls 4 [(0, .ref (Γ.1 475)), (1, .int t_15.1), (2, .int t_15.2)] → W p l e rm_X8_isGlobNow s m args below meth c H locs 0 0 Q (F0 m 57 ls [.int s0_57]) := by
          intro s0_57 hf H locs ls hW hS hl
          unfold fX8_isGlobNow_57 at hf
          refine lv_istore_n (lv' := [(3, .int s0_57), (0, .ref (Γ.1 475)), (1, .int t_15.1), (2, .int t_15.2)]) hx hb dX8_isGlobNow_57 rfl hl (by decide) rfl (fun ls hl => ?_)
          refine lv_iload_n hx hb dX8_isGlobNow_58 rfl (lv_at hl 2 rfl) ?_
          refine lv_iload_n hx hb dX8_isGlobNow_59 rfl (lv_at hl 0 rfl) ?_
          have J_96 : ∀ (s0_96 : Int32) (s1_96 : Int32) , fX8_isGlobNow_96 M t_15 s0_96 s1_96 = some y1 → ∀ (H : Heap) (locs : List Loc) (ls : Array Slot), gx_W Γ C M H → va_S (gA Γ) s.heap H locs → lv_has ls 4 [(0, .ref (Γ.1 475)), (2, .int t_15.2)] → W p l e rm_X8_isGlobNow s m args below meth c H locs 0 0 Q (F0 m 96 ls [.int s0_96, .int s1_96]) := by
            intro s0_96 s1_96 hf H locs ls hW hS hl
            unfold fX8_isGlobNow_96 at hf
            refine lv_iand hx hb dX8_isGlobNow_96 ?_
            refine lv_topi (fun v97 ev97 => ?_)
            have hf := nm_v ev97 hf
            refine lv_istore_n (lv' := [(1, .int v97), (0, .ref (Γ.1 475)), (2, .int t_15.2)]) hx hb dX8_isGlobNow_97 rfl hl (by decide) rfl (fun ls hl => ?_)
            refine lv_iinc (v := (t_15.2 + (1 : Int32))) (lv' := [(2, .int (t_15.2 + (1 : Int32))), (1, .int v97), (0, .ref (Γ.1 475))]) hx hb dX8_isGlobNow_98 hl (k := 2) rfl rfl (by decide) rfl (fun ls hl => ?_)
            refine lv_goto (tgt := 15) hx hb dX8_isGlobNow_101 (by decide) ?_
            exact kI1 _ (Option.some.inj hf).symm H locs ls hW hS (lv_sub hl [2, 1, 0] rfl)
          have J_91 : ∀ (s0_91 : Int32) , fX8_isGlobNow_91 M t_15 s0_91 = some y1 → ∀ (H : Heap) (locs : List Loc) (ls : Array Slot), gx_W Γ C M H → va_S (gA Γ) s.heap H locs → lv_has ls 4 [(0, .ref (Γ.1 475)), (2, .int t_15.2)] → W p l e rm_X8_isGlobNow s m args below meth c H locs 0 0 Q (F0 m 91 ls [.int s0_91]) := by
            intro s0_91 hf H locs ls hW hS hl
            unfold fX8_isGlobNow_91 at hf
            refine lv_iconst (v := (1 : Int32)) hx hb dX8_isGlobNow_91 (by decide) ?_
            refine lv_goto (tgt := 96) hx hb dX8_isGlobNow_92 (by decide) ?_
            exact J_96 (1 : Int32) s0_91 hf H locs ls hW hS (lv_sub hl [0, 1] rfl)
          refine lv_if_eq (tgt := 91) hx hb dX8_isGlobNow_60 (by decide) (fun c60 => ?_) (fun c60 => ?_)
          · have hf := cn_t c60 hf
            exact J_91 t_15.1 hf H locs ls hW hS (lv_sub hl [1, 3] rfl)
          · have hf := cn_f c60 hf
            refine lv_aload_n hx hb dX8_isGlobNow_63 rfl (lv_at hl 1 rfl) ?_
            refine lv_bipush (v := (76 : Int32)) hx hb dX8_isGlobNow_64 (by decide) ?_
            refine lv_iload_n hx hb dX8_isGlobNow_66 rfl (lv_at hl 3 rfl) ?_
            refine lv_iconst (v := (2 : Int32)) hx hb dX8_isGlobNow_67 (by decide) ?_
            refine lv_isub hx hb dX8_isGlobNow_68 ?_
            obtain ⟨q69, hq69, hf⟩ := bnd_e hf
            refine gk0_i hS (gv_run (rest := [.int t_15.1]) S hG hW hS [.int (76 : Int32), .int (t_15.2 - (2 : Int32))] (c_X8_at l Γ C M (76 : Int32) (t_15.2 - (2 : Int32)) hq69) pk_X8_at ml_X8_81 (Nat.le_of_ble_eq_true rfl) rfl rfl rfl rfl ⟨Nat.le_of_ble_eq_true rfl, Nat.le_of_ble_eq_true rfl⟩ rfl hl.1 rfl (Nat.le_of_ble_eq_true rfl) dX8_isGlobNow_69 ⟨Nat.le_of_ble_eq_true rfl, Nat.le_of_ble_eq_true rfl⟩) (fun H locs hW hS => ?_)
            refine lv_bipush (v := (47 : Int32)) hx hb dX8_isGlobNow_72 (by decide) ?_
            have J_95 : ∀ (s0_95 : Int32) , fX8_isGlobNow_95 M t_15 s0_95 = some y1 → ∀ (H : Heap) (locs : List Loc) (ls : Array Slot), gx_W Γ C M H → va_S (gA Γ) s.heap H locs → lv_has ls 4 [(0, .ref (Γ.1 475)), (2, .int t_15.2)] → W p l e rm_X8_isGlobNow s m args below meth c H locs 0 0 Q (F0 m 95 ls [.int s0_95]) := by
              intro s0_95 hf H locs ls hW hS hl
              unfold fX8_isGlobNow_95 at hf
              refine lv_iconst (v := (0 : Int32)) hx hb dX8_isGlobNow_95 (by decide) ?_
              exact J_96 (0 : Int32) s0_95 hf H locs ls hW hS (lv_sub hl [0, 1] rfl)
            refine lv_icmp_ne (tgt := 95) hx hb dX8_isGlobNow_74 (by decide) (fun c74 => ?_) (fun c74 => ?_)
            · have hf := cn_f c74 hf
              exact J_95 t_15.1 hf H locs ls hW hS (lv_sub hl [1, 3] rfl)
            · have hf := cn_t c74 hf
              refine lv_aload_n hx hb dX8_isGlobNow_77 rfl (lv_at hl 1 rfl) ?_
              refine lv_bipush (v := (76 : Int32)) hx hb dX8_isGlobNow_78 (by decide) ?_
              refine lv_iload_n hx hb dX8_isGlobNow_80 rfl (lv_at hl 3 rfl) ?_
              refine lv_iconst (v := (1 : Int32)) hx hb dX8_isGlobNow_81 (by decide) ?_
              refine lv_iadd hx hb dX8_isGlobNow_82 ?_
              obtain ⟨q83, hq83, hf⟩ := bnd_e hf
              refine gk0_i hS (gv_run (rest := [.int t_15.1]) S hG hW hS [.int (76 : Int32), .int (t_15.2 + (1 : Int32))] (c_X8_at l Γ C M (76 : Int32) (t_15.2 + (1 : Int32)) hq83) pk_X8_at ml_X8_81 (Nat.le_of_ble_eq_true rfl) rfl rfl rfl rfl ⟨Nat.le_of_ble_eq_true rfl, Nat.le_of_ble_eq_true rfl⟩ rfl hl.1 rfl (Nat.le_of_ble_eq_true rfl) dX8_isGlobNow_83 ⟨Nat.le_of_ble_eq_true rfl, Nat.le_of_ble_eq_true rfl⟩) (fun H locs hW hS => ?_)
              refine lv_bipush (v := (47 : Int32)) hx hb dX8_isGlobNow_86 (by decide) ?_
              refine lv_icmp_ne (tgt := 95) hx hb dX8_isGlobNow_88 (by decide) (fun c88 => ?_) (fun c88 => ?_)
              · have hf := cn_f c88 hf
                exact J_95 t_15.1 hf H locs ls hW hS (lv_sub hl [1, 3] rfl)
              · have hf := cn_t c88 hf
                exact J_91 t_15.1 hf H locs ls hW hS (lv_sub hl [1, 3] rfl)
        have J_56 : fX8_isGlobNow_56 M t_15 = some y1 → ∀ (H : Heap) (locs : List Loc) (ls : Array Slot), gx_W Γ C M H → va_S (gA Γ) s.heap H locs → lv_has ls 4 [(0, .ref (Γ.1 475)), (1, .int t_15.1), (2, .int t_15.2)] → W p l e rm_X8_isGlobNow s m args below meth c H locs 0 0 Q (F0 m 56 ls []) := by
          intro  hf H locs ls hW hS hl
          unfold fX8_isGlobNow_56 at hf
          refine lv_iconst (v := (0 : Int32)) hx hb dX8_isGlobNow_56 (by decide) ?_
          exact J_57 (0 : Int32) hf H locs ls hW hS (lv_sub hl [0, 1, 2] rfl)
        refine lv_icmp_ne (tgt := 56) hx hb dX8_isGlobNow_35 (by decide) (fun c35 => ?_) (fun c35 => ?_)
        · have hf := cn_f c35 hf
          exact J_56  hf H locs ls hW hS (lv_sub hl [0, 1, 2] rfl)
        · have hf := cn_t c35 hf
          refine lv_aload_n hx hb dX8_isGlobNow_38 rfl (lv_at hl 0 rfl) ?_
          refine lv_bipush (v := (76 : Int32)) hx hb dX8_isGlobNow_39 (by decide) ?_
          refine lv_iload_n hx hb dX8_isGlobNow_41 rfl (lv_at hl 2 rfl) ?_
          refine lv_iconst (v := (1 : Int32)) hx hb dX8_isGlobNow_42 (by decide) ?_
          refine lv_isub hx hb dX8_isGlobNow_43 ?_
          obtain ⟨q44, hq44, hf⟩ := bnd_e hf
          refine gk0_i hS (gv_run (rest := []) S hG hW hS [.int (76 : Int32), .int (t_15.2 - (1 : Int32))] (c_X8_at l Γ C M (76 : Int32) (t_15.2 - (1 : Int32)) hq44) pk_X8_at ml_X8_81 (Nat.le_of_ble_eq_true rfl) rfl rfl rfl rfl ⟨Nat.le_of_ble_eq_true rfl, Nat.le_of_ble_eq_true rfl⟩ rfl hl.1 rfl (Nat.le_of_ble_eq_true rfl) dX8_isGlobNow_44 ⟨Nat.le_of_ble_eq_true rfl, Nat.le_of_ble_eq_true rfl⟩) (fun H locs hW hS => ?_)
          refine lv_bipush (v := (42 : Int32)) hx hb dX8_isGlobNow_47 (by decide) ?_
          refine lv_icmp_ne (tgt := 56) hx hb dX8_isGlobNow_49 (by decide) (fun c49 => ?_) (fun c49 => ?_)
          · have hf := cn_f c49 hf
            exact J_56  hf H locs ls hW hS (lv_sub hl [0, 1, 2] rfl)
          · have hf := cn_t c49 hf
            refine lv_iconst (v := (1 : Int32)) hx hb dX8_isGlobNow_52 (by decide) ?_
            refine lv_goto (tgt := 57) hx hb dX8_isGlobNow_53 (by decide) ?_
            exact J_57 (1 : Int32) hf H locs ls hW hS (lv_sub hl [0, 1, 2] rfl)
    exact J_15 (s0_12, (1 : Int32)) hf H locs ls hW hS (lv_sub hl [2, 1, 0] rfl)
  refine lv_if_ne (tgt := 11) hx hb dX8_isGlobNow_4 (by decide) (fun c4 => ?_) (fun c4 => ?_)
  · have hf := cn_f c4 hf
    refine lv_iconst (v := (0 : Int32)) hx hb dX8_isGlobNow_11 (by decide) ?_
    exact J_12 (0 : Int32) hf H locs ls hW hS (lv_sub hl [0] rfl)
  · have hf := cn_t c4 hf
    refine lv_iconst (v := (1 : Int32)) hx hb dX8_isGlobNow_7 (by decide) ?_
    refine lv_goto (tgt := 12) hx hb dX8_isGlobNow_8 (by decide) ?_
    exact J_12 (1 : Int32) hf H locs ls hW hS (lv_sub hl [0] rfl)
noncomputable def fX8_isGlob (M : Mem) : Option (Int32 × Mem) := bnd (fX8_isGlobNow (mset M 475 26 (0 : Int32))) fun q6 => chk (narrow .boolean (.int q6) = .int q6) (some (q6, (mset M 475 26 (0 : Int32))))
abbrev rm_X8_isGlob : Room := { frames := 3, cells := 0, slots := 0, locals := 67 }
set_option maxRecDepth 100000 in
set_option maxHeartbeats 4000000 in
theorem c_X8_isGlob (l : Launch) (Γ : gx_G) (C M : Mem)  {y0 : (Int32 × Mem)} (hf : fX8_isGlob M = some y0) : Met l yX8_isGlob (.code yX8_isGlob cX8_isGlob 1 (some .boolean) :: TsG) rm_X8_isGlob (va_Pc [.ref (Γ.1 475)] (gx_P Γ C M)) (gx_Qi Γ y0.1 C y0.2) 0 0 (gA Γ) := by
  refine gm_i (by decide) (Nat.le_of_ble_eq_true rfl) ?_
  intro p e s m args below meth c Q S hG hret ls H locs hl hW hS
  obtain ⟨hx, hb, hml, hown, hts⟩ := id S
  have hl : lv_has ls 1 [(0, .ref (Γ.1 475))] := hl
  unfold fX8_isGlob at hf
  refine lv_aload_n hx hb dX8_isGlob_0 rfl (lv_at hl 0 rfl) ?_
  refine lv_iconst (v := (0 : Int32)) hx hb dX8_isGlob_1 (by decide) ?_
  refine put_X8_26 S hG hW hS fl_X8_77 dX8_isGlob_2 (fun H locs hW hS => ?_)
  refine lv_aload_n hx hb dX8_isGlob_5 rfl (lv_at hl 0 rfl) ?_
  obtain ⟨q6, hq6, hf⟩ := bnd_e hf
  refine gk0_i hS (gv_run (rest := []) S hG hW hS [] (c_X8_isGlobNow l Γ C (mset M 475 26 (0 : Int32)) hq6) pk_X8_isGlobNow ml_X8_92 (Nat.le_of_ble_eq_true rfl) rfl rfl rfl rfl ⟨Nat.le_of_ble_eq_true rfl, Nat.le_of_ble_eq_true rfl⟩ rfl hl.1 rfl (Nat.le_of_ble_eq_true rfl) dX8_isGlob_6 ⟨Nat.le_of_ble_eq_true rfl, Nat.le_of_ble_eq_true rfl⟩) (fun H locs hW hS => ?_)
  have n9 := ck_p hf
  have hf := ck_r hf
  have e9 := Option.some.inj hf
  subst e9
  exact hret _ _ _ _ _ hW hS n9 rfl dX8_isGlob_9
noncomputable def fX8_isIn_14  : Int32 := (0 : Int32)
noncomputable def fX8_isIn (a1 : Int32) (a2 : Int32) (a3 : Int32) : Int32 := cnd (a1 < a2) (fX8_isIn_14) (cnd (a3 < a1) (fX8_isIn_14) ((1 : Int32)))
abbrev rm_X8_isIn : Room := { frames := 0, cells := 0, slots := 0, locals := 0 }
set_option maxRecDepth 100000 in
set_option maxHeartbeats 4000000 in
theorem c_X8_isIn (l : Launch) (Γ : gx_G) (C M : Mem) (a1 : Int32) (a2 : Int32) (a3 : Int32) : Met l yX8_isIn (.code yX8_isIn cX8_isIn 3 (some .boolean) :: TsG) rm_X8_isIn (va_Pc [.int a1, .int a2, .int a3] (gx_P Γ C M)) (gx_Qi Γ (fX8_isIn a1 a2 a3) C M) 0 0 (gA Γ) := by
  refine gm_i (by decide) (Nat.le_of_ble_eq_true rfl) ?_
  intro p e s m args below meth c Q S hG hret ls H locs hl hW hS
  obtain ⟨hx, hb, hml, hown, hts⟩ := id S
  have hl : lv_has ls 3 [(0, .int a1), (1, .int a2), (2, .int a3)] := hl
  generalize hy0 : fX8_isIn a1 a2 a3 = y0 at hret
  have hf := hy0
  unfold fX8_isIn at hf
  refine lv_iload_n hx hb dX8_isIn_0 rfl (lv_at hl 0 rfl) ?_
  refine lv_iload_n hx hb dX8_isIn_1 rfl (lv_at hl 1 rfl) ?_
  have J_14 : fX8_isIn_14 = y0 → ∀ (H : Heap) (locs : List Loc) (ls : Array Slot), gx_W Γ C M H → va_S (gA Γ) s.heap H locs → lv_has ls 3 [] → W p l e rm_X8_isIn s m args below meth c H locs 0 0 Q (F0 m 14 ls []) := by
    intro  hf H locs ls hW hS hl
    unfold fX8_isIn_14 at hf
    refine lv_iconst (v := (0 : Int32)) hx hb dX8_isIn_14 (by decide) ?_
    exact hret _ _ _ _ _ hW hS rfl hf dX8_isIn_15
  refine lv_icmp_lt (tgt := 14) hx hb dX8_isIn_2 (by decide) (fun c2 => ?_) (fun c2 => ?_)
  · have hf := cn_t c2 hf
    exact J_14  hf H locs ls hW hS (lv_sub hl [] rfl)
  · have hf := cn_f c2 hf
    refine lv_iload_n hx hb dX8_isIn_5 rfl (lv_at hl 0 rfl) ?_
    refine lv_iload_n hx hb dX8_isIn_6 rfl (lv_at hl 2 rfl) ?_
    refine lv_icmp_gt (tgt := 14) hx hb dX8_isIn_7 (by decide) (fun c7 => ?_) (fun c7 => ?_)
    · have hf := cn_t c7 hf
      exact J_14  hf H locs ls hW hS (lv_sub hl [] rfl)
    · have hf := cn_f c7 hf
      refine lv_iconst (v := (1 : Int32)) hx hb dX8_isIn_10 (by decide) ?_
      refine lv_goto (tgt := 15) hx hb dX8_isIn_11 (by decide) ?_
      exact hret _ _ _ _ _ hW hS rfl hf dX8_isIn_15
noncomputable def fX8_fileOf_99 (M : Mem) (t_4 : (Int32 × Int32)) (s0_99 : Int32) : Option ((Int32 × Int32) ⊕ Int32) := some (.inl (s0_99, (t_4.2 + (1 : Int32))))
noncomputable def fX8_fileOf_90 (M : Mem) (t_37 : (Int32 × Int32)) (t_4 : (Int32 × Int32)) : Option ((Int32 × Int32) ⊕ Int32) := cnd (t_37.1 = (0 : Int32)) (fX8_fileOf_99 M t_4 t_4.1) (fX8_fileOf_99 M t_4 t_4.2)
noncomputable def fX8_fileOf_83 (M : Mem) (t_37 : (Int32 × Int32)) (t_4 : (Int32 × Int32)) (s0_83 : Int32) : Option ((Int32 × Int32) ⊕ ((Int32 × Int32) ⊕ Int32)) := some (.inl (s0_83, (t_37.2 + (1 : Int32))))
noncomputable def fX8_fileOf_37 (M : Mem) (t_4 : (Int32 × Int32)) : (Int32 × Int32) → Option ((Int32 × Int32) ⊕ ((Int32 × Int32) ⊕ Int32)) := fun t_37 => cnd (t_37.1 = (0 : Int32)) (exR (fX8_fileOf_90 M t_37 t_4)) (chk (vp_in t_4.2 24) (cnd ((M 479 t_4.2.toNatClampNeg) ≤ t_37.2) (exR (fX8_fileOf_90 M t_37 t_4)) (chk (vp_in (((24 : Int32) * t_4.2) + t_37.2) 576) (chk (vp_in ((1824 : Int32) + t_37.2) 1848) (cnd ((M 478 (((24 : Int32) * t_4.2) + t_37.2).toNatClampNeg) = (M 476 ((1824 : Int32) + t_37.2).toNatClampNeg)) (fX8_fileOf_83 M t_37 t_4 (1 : Int32)) (fX8_fileOf_83 M t_37 t_4 (0 : Int32)))))))
noncomputable def fX8_fileOf_33 (M : Mem) (t_4 : (Int32 × Int32)) (s0_33 : Int32) : Option ((Int32 × Int32) ⊕ Int32) := lp (fX8_fileOf_37 M t_4) (s0_33, (0 : Int32))
noncomputable def fX8_fileOf_4 (M : Mem) : (Int32 × Int32) → Option ((Int32 × Int32) ⊕ Int32) := fun t_4 => cnd ((M 475 2) ≤ t_4.2) (exR (some t_4.1)) (chk (vp_in t_4.2 24) (chk (vp_in (76 : Int32) 77) (cnd ((M 479 t_4.2.toNatClampNeg) = (M 477 (76 : Int32).toNatClampNeg)) (fX8_fileOf_33 M t_4 (1 : Int32)) (fX8_fileOf_33 M t_4 (0 : Int32)))))
noncomputable def fX8_fileOf (M : Mem) : Option Int32 := lp (fX8_fileOf_4 M) ((-1 : Int32), (0 : Int32))
abbrev rm_X8_fileOf : Room := { frames := 0, cells := 0, slots := 0, locals := 0 }
set_option maxRecDepth 100000 in
set_option maxHeartbeats 4000000 in
theorem c_X8_fileOf (l : Launch) (Γ : gx_G) (C M : Mem)  {y0 : Int32} (hf : fX8_fileOf M = some y0) : Met l yX8_fileOf (.code yX8_fileOf cX8_fileOf 5 (some .int) :: TsG) rm_X8_fileOf (va_Pc [.ref (Γ.1 475)] (gx_P Γ C M)) (gx_Qi Γ y0 C M) 0 0 (gA Γ) := by
  refine gm_i (by decide) (Nat.le_of_ble_eq_true rfl) ?_
  intro p e s m args below meth c Q S hG hret ls H locs hl hW hS
  obtain ⟨hx, hb, hml, hown, hts⟩ := id S
  have hl : lv_has ls 5 [(0, .ref (Γ.1 475))] := hl
  unfold fX8_fileOf at hf
  refine lv_iconst (v := (-1 : Int32)) hx hb dX8_fileOf_0 (by decide) ?_
  refine lv_istore_n (lv' := [(1, .int (-1 : Int32)), (0, .ref (Γ.1 475))]) hx hb dX8_fileOf_1 rfl hl (by decide) rfl (fun ls hl => ?_)
  refine lv_iconst (v := (0 : Int32)) hx hb dX8_fileOf_2 (by decide) ?_
  refine lv_istore_n (lv' := [(2, .int (0 : Int32)), (1, .int (-1 : Int32)), (0, .ref (Γ.1 475))]) hx hb dX8_fileOf_3 rfl hl (by decide) rfl (fun ls hl => ?_)
  have J_4 : ∀  (t_4 : Int32 × Int32), lp (fX8_fileOf_4 M) t_4 = some y0 → ∀ (H : Heap) (locs : List Loc) (ls : Array Slot), gx_W Γ C M H → va_S (gA Γ) s.heap H locs → lv_has ls 5 [(0, .ref (Γ.1 475)), (1, .int t_4.1), (2, .int t_4.2)] → W p l e rm_X8_fileOf s m args below meth c H locs 0 0 Q (F0 m 4 ls []) := by
    refine lp_ind (P := fun (t_4 : Int32 × Int32) => ∀ (H : Heap) (locs : List Loc) (ls : Array Slot), gx_W Γ C M H → va_S (gA Γ) s.heap H locs → lv_has ls 5 [(0, .ref (Γ.1 475)), (1, .int t_4.1), (2, .int t_4.2)] → W p l e rm_X8_fileOf s m args below meth c H locs 0 0 Q (F0 m 4 ls [])) ?_
    intro t_4 y1 hf kI1 kX1 H locs ls hW hS hl
    unfold fX8_fileOf_4 at hf
    refine lv_iload_n hx hb dX8_fileOf_4 rfl (lv_at hl 2 rfl) ?_
    refine lv_aload_n hx hb dX8_fileOf_5 rfl (lv_at hl 0 rfl) ?_
    refine get_X8_2 S hG hW fl_X8_108 dX8_fileOf_6 ?_
    refine lv_icmp_ge (tgt := 106) hx hb dX8_fileOf_9 (by decide) (fun c9 => ?_) (fun c9 => ?_)
    · have hf := cn_t c9 hf
      obtain ⟨z9, hf, ez⟩ := exR_e hf
      rw [kX1 _ ez] at hf
      refine lv_iload_n hx hb dX8_fileOf_106 rfl (lv_at hl 1 rfl) ?_
      exact hret _ _ _ _ _ hW hS rfl (Option.some.inj hf) dX8_fileOf_107
    · have hf := cn_f c9 hf
      refine lv_aload_n hx hb dX8_fileOf_12 rfl (lv_at hl 0 rfl) ?_
      refine get_X8_4 S hG hW fl_X8_19 dX8_fileOf_13 ?_
      refine lv_iload_n hx hb dX8_fileOf_16 rfl (lv_at hl 2 rfl) ?_
      have g17 := ck_p hf
      have hf := ck_r hf
      refine ald_m S hG hW shk_479 lnk_479 g17 dX8_fileOf_17 ?_
      refine lv_aload_n hx hb dX8_fileOf_18 rfl (lv_at hl 0 rfl) ?_
      refine get_X8_1 S hG hW fl_X8_13 dX8_fileOf_19 ?_
      refine lv_bipush (v := (76 : Int32)) hx hb dX8_fileOf_22 (by decide) ?_
      have g24 := ck_p hf
      have hf := ck_r hf
      refine ald_m S hG hW shk_477 lnk_477 g24 dX8_fileOf_24 ?_
      have J_33 : ∀ (s0_33 : Int32) , fX8_fileOf_33 M t_4 s0_33 = some y1 → ∀ (H : Heap) (locs : List Loc) (ls : Array Slot), gx_W Γ C M H → va_S (gA Γ) s.heap H locs → lv_has ls 5 [(0, .ref (Γ.1 475)), (1, .int t_4.1), (2, .int t_4.2)] → W p l e rm_X8_fileOf s m args below meth c H locs 0 0 Q (F0 m 33 ls [.int s0_33]) := by
        intro s0_33 hf H locs ls hW hS hl
        unfold fX8_fileOf_33 at hf
        refine lv_istore_n (lv' := [(3, .int s0_33), (0, .ref (Γ.1 475)), (1, .int t_4.1), (2, .int t_4.2)]) hx hb dX8_fileOf_33 rfl hl (by decide) rfl (fun ls hl => ?_)
        refine lv_iconst (v := (0 : Int32)) hx hb dX8_fileOf_34 (by decide) ?_
        refine lv_istore (lv' := [(4, .int (0 : Int32)), (3, .int s0_33), (0, .ref (Γ.1 475)), (1, .int t_4.1), (2, .int t_4.2)]) hx hb dX8_fileOf_35 hl (by decide) rfl (fun ls hl => ?_)
        have J_37 : ∀  (t_37 : Int32 × Int32), lp (fX8_fileOf_37 M t_4) t_37 = some y1 → ∀ (H : Heap) (locs : List Loc) (ls : Array Slot), gx_W Γ C M H → va_S (gA Γ) s.heap H locs → lv_has ls 5 [(0, .ref (Γ.1 475)), (1, .int t_4.1), (2, .int t_4.2), (3, .int t_37.1), (4, .int t_37.2)] → W p l e rm_X8_fileOf s m args below meth c H locs 0 0 Q (F0 m 37 ls []) := by
          refine lp_ind (P := fun (t_37 : Int32 × Int32) => ∀ (H : Heap) (locs : List Loc) (ls : Array Slot), gx_W Γ C M H → va_S (gA Γ) s.heap H locs → lv_has ls 5 [(0, .ref (Γ.1 475)), (1, .int t_4.1), (2, .int t_4.2), (3, .int t_37.1), (4, .int t_37.2)] → W p l e rm_X8_fileOf s m args below meth c H locs 0 0 Q (F0 m 37 ls [])) ?_
          intro t_37 y2 hf kI2 kX2 H locs ls hW hS hl
          unfold fX8_fileOf_37 at hf
          refine lv_iload_n hx hb dX8_fileOf_37 rfl (lv_at hl 3 rfl) ?_
          have J_90 : fX8_fileOf_90 M t_37 t_4 = some y1 → ∀ (H : Heap) (locs : List Loc) (ls : Array Slot), gx_W Γ C M H → va_S (gA Γ) s.heap H locs → lv_has ls 5 [(0, .ref (Γ.1 475)), (1, .int t_4.1), (2, .int t_4.2), (3, .int t_37.1)] → W p l e rm_X8_fileOf s m args below meth c H locs 0 0 Q (F0 m 90 ls []) := by
            intro  hf H locs ls hW hS hl
            unfold fX8_fileOf_90 at hf
            refine lv_iload_n hx hb dX8_fileOf_90 rfl (lv_at hl 3 rfl) ?_
            have J_99 : ∀ (s0_99 : Int32) , fX8_fileOf_99 M t_4 s0_99 = some y1 → ∀ (H : Heap) (locs : List Loc) (ls : Array Slot), gx_W Γ C M H → va_S (gA Γ) s.heap H locs → lv_has ls 5 [(0, .ref (Γ.1 475)), (2, .int t_4.2)] → W p l e rm_X8_fileOf s m args below meth c H locs 0 0 Q (F0 m 99 ls [.int s0_99]) := by
              intro s0_99 hf H locs ls hW hS hl
              unfold fX8_fileOf_99 at hf
              refine lv_istore_n (lv' := [(1, .int s0_99), (0, .ref (Γ.1 475)), (2, .int t_4.2)]) hx hb dX8_fileOf_99 rfl hl (by decide) rfl (fun ls hl => ?_)
              refine lv_iinc (v := (t_4.2 + (1 : Int32))) (lv' := [(2, .int (t_4.2 + (1 : Int32))), (1, .int s0_99), (0, .ref (Γ.1 475))]) hx hb dX8_fileOf_100 hl (k := 2) rfl rfl (by decide) rfl (fun ls hl => ?_)
              refine lv_goto (tgt := 4) hx hb dX8_fileOf_103 (by decide) ?_
              exact kI1 _ (Option.some.inj hf).symm H locs ls hW hS (lv_sub hl [2, 1, 0] rfl)
            refine lv_if_eq (tgt := 98) hx hb dX8_fileOf_91 (by decide) (fun c91 => ?_) (fun c91 => ?_)
            · have hf := cn_t c91 hf
              refine lv_iload_n hx hb dX8_fileOf_98 rfl (lv_at hl 1 rfl) ?_
              exact J_99 t_4.1 hf H locs ls hW hS (lv_sub hl [0, 2] rfl)
            · have hf := cn_f c91 hf
              refine lv_iload_n hx hb dX8_fileOf_94 rfl (lv_at hl 2 rfl) ?_
              refine lv_goto (tgt := 99) hx hb dX8_fileOf_95 (by decide) ?_
              exact J_99 t_4.2 hf H locs ls hW hS (lv_sub hl [0, 2] rfl)
          refine lv_if_eq (tgt := 90) hx hb dX8_fileOf_38 (by decide) (fun c38 => ?_) (fun c38 => ?_)
          · have hf := cn_t c38 hf
            obtain ⟨z38, hf, ez⟩ := exR_e hf
            rw [kX2 _ ez] at hf
            exact J_90  hf H locs ls hW hS (lv_sub hl [0, 1, 2, 3] rfl)
          · have hf := cn_f c38 hf
            refine lv_iload hx hb dX8_fileOf_41 (lv_at hl 4 rfl) ?_
            refine lv_aload_n hx hb dX8_fileOf_43 rfl (lv_at hl 0 rfl) ?_
            refine get_X8_4 S hG hW fl_X8_19 dX8_fileOf_44 ?_
            refine lv_iload_n hx hb dX8_fileOf_47 rfl (lv_at hl 2 rfl) ?_
            have g48 := ck_p hf
            have hf := ck_r hf
            refine ald_m S hG hW shk_479 lnk_479 g48 dX8_fileOf_48 ?_
            refine lv_icmp_ge (tgt := 90) hx hb dX8_fileOf_49 (by decide) (fun c49 => ?_) (fun c49 => ?_)
            · have hf := cn_t c49 hf
              obtain ⟨z49, hf, ez⟩ := exR_e hf
              rw [kX2 _ ez] at hf
              exact J_90  hf H locs ls hW hS (lv_sub hl [0, 1, 2, 3] rfl)
            · have hf := cn_f c49 hf
              refine lv_aload_n hx hb dX8_fileOf_52 rfl (lv_at hl 0 rfl) ?_
              refine get_X8_3 S hG hW fl_X8_16 dX8_fileOf_53 ?_
              refine lv_bipush (v := (24 : Int32)) hx hb dX8_fileOf_56 (by decide) ?_
              refine lv_iload_n hx hb dX8_fileOf_58 rfl (lv_at hl 2 rfl) ?_
              refine lv_imul hx hb dX8_fileOf_59 ?_
              refine lv_iload hx hb dX8_fileOf_60 (lv_at hl 4 rfl) ?_
              refine lv_iadd hx hb dX8_fileOf_62 ?_
              have g63 := ck_p hf
              have hf := ck_r hf
              refine ald_m S hG hW shk_478 lnk_478 g63 dX8_fileOf_63 ?_
              refine lv_aload_n hx hb dX8_fileOf_64 rfl (lv_at hl 0 rfl) ?_
              refine get_X8_0 S hG hW fl_X8_7 dX8_fileOf_65 ?_
              refine lv_sipush (v := (1824 : Int32)) hx hb dX8_fileOf_68 (by decide) ?_
              refine lv_iload hx hb dX8_fileOf_71 (lv_at hl 4 rfl) ?_
              refine lv_iadd hx hb dX8_fileOf_73 ?_
              have g74 := ck_p hf
              have hf := ck_r hf
              refine ald_m S hG hW shk_476 lnk_476 g74 dX8_fileOf_74 ?_
              have J_83 : ∀ (s0_83 : Int32) , fX8_fileOf_83 M t_37 t_4 s0_83 = some y2 → ∀ (H : Heap) (locs : List Loc) (ls : Array Slot), gx_W Γ C M H → va_S (gA Γ) s.heap H locs → lv_has ls 5 [(0, .ref (Γ.1 475)), (1, .int t_4.1), (2, .int t_4.2), (4, .int t_37.2)] → W p l e rm_X8_fileOf s m args below meth c H locs 0 0 Q (F0 m 83 ls [.int s0_83]) := by
                intro s0_83 hf H locs ls hW hS hl
                unfold fX8_fileOf_83 at hf
                refine lv_istore_n (lv' := [(3, .int s0_83), (0, .ref (Γ.1 475)), (1, .int t_4.1), (2, .int t_4.2), (4, .int t_37.2)]) hx hb dX8_fileOf_83 rfl hl (by decide) rfl (fun ls hl => ?_)
                refine lv_iinc (v := (t_37.2 + (1 : Int32))) (lv' := [(4, .int (t_37.2 + (1 : Int32))), (3, .int s0_83), (0, .ref (Γ.1 475)), (1, .int t_4.1), (2, .int t_4.2)]) hx hb dX8_fileOf_84 hl (k := 4) rfl rfl (by decide) rfl (fun ls hl => ?_)
                refine lv_goto (tgt := 37) hx hb dX8_fileOf_87 (by decide) ?_
                exact kI2 _ (Option.some.inj hf).symm H locs ls hW hS (lv_sub hl [2, 3, 4, 1, 0] rfl)
              refine lv_icmp_ne (tgt := 82) hx hb dX8_fileOf_75 (by decide) (fun c75 => ?_) (fun c75 => ?_)
              · have hf := cn_f c75 hf
                refine lv_iconst (v := (0 : Int32)) hx hb dX8_fileOf_82 (by decide) ?_
                exact J_83 (0 : Int32) hf H locs ls hW hS (lv_sub hl [0, 1, 2, 4] rfl)
              · have hf := cn_t c75 hf
                refine lv_iconst (v := (1 : Int32)) hx hb dX8_fileOf_78 (by decide) ?_
                refine lv_goto (tgt := 83) hx hb dX8_fileOf_79 (by decide) ?_
                exact J_83 (1 : Int32) hf H locs ls hW hS (lv_sub hl [0, 1, 2, 4] rfl)
        exact J_37 (s0_33, (0 : Int32)) hf H locs ls hW hS (lv_sub hl [2, 3, 4, 1, 0] rfl)
      refine lv_icmp_ne (tgt := 32) hx hb dX8_fileOf_25 (by decide) (fun c25 => ?_) (fun c25 => ?_)
      · have hf := cn_f c25 hf
        refine lv_iconst (v := (0 : Int32)) hx hb dX8_fileOf_32 (by decide) ?_
        exact J_33 (0 : Int32) hf H locs ls hW hS (lv_sub hl [0, 1, 2] rfl)
      · have hf := cn_t c25 hf
        refine lv_iconst (v := (1 : Int32)) hx hb dX8_fileOf_28 (by decide) ?_
        refine lv_goto (tgt := 33) hx hb dX8_fileOf_29 (by decide) ?_
        exact J_33 (1 : Int32) hf H locs ls hW hS (lv_sub hl [0, 1, 2] rfl)
  exact J_4 ((-1 : Int32), (0 : Int32)) hf H locs ls hW hS (lv_sub hl [2, 1, 0] rfl)
noncomputable def fX8_addFile_161 (a1 : Int32) (C_161 : Mem) (x2_161 : Int32) : Option (Int32 × Mem) := chk (vp_in x2_161 24) (chk (vp_in x2_161 24) (some (x2_161, (mset (mset C_161 480 x2_161.toNatClampNeg (vp_nar .boolean (1 : Int32))) 481 x2_161.toNatClampNeg a1))))
noncomputable def fX8_addFile_138 (a1 : Int32) (t_100 : (Mem × Int32)) (v97 : Int32) : Option (Int32 × Mem) := chk (vp_in (76 : Int32) 77) (chk (vp_in v97 24) (fX8_addFile_161 a1 (mset (mset t_100.1 479 v97.toNatClampNeg (t_100.1 477 (76 : Int32).toNatClampNeg)) 475 2 (((mset t_100.1 479 v97.toNatClampNeg (t_100.1 477 (76 : Int32).toNatClampNeg)) 475 2) + (1 : Int32))) v97))
noncomputable def fX8_addFile_100 (a1 : Int32) (v97 : Int32) : (Mem × Int32) → Option ((Mem × Int32) ⊕ (Int32 × Mem)) := fun t_100 => chk (vp_in (76 : Int32) 77) (cnd ((t_100.1 477 (76 : Int32).toNatClampNeg) ≤ t_100.2) (exR (fX8_addFile_138 a1 t_100 v97)) (chk (vp_in ((1824 : Int32) + t_100.2) 1848) (chk (vp_in (((24 : Int32) * v97) + t_100.2) 576) (some (.inl ((mset t_100.1 478 (((24 : Int32) * v97) + t_100.2).toNatClampNeg (t_100.1 476 ((1824 : Int32) + t_100.2).toNatClampNeg)), (t_100.2 + (1 : Int32))))))))
noncomputable def fX8_addFile_77 (a1 : Int32) (q37 : Int32) (C_77 : Mem) (s0_77 : Int32) : Option (Int32 × Mem) := cnd (((mset C_77 475 26 s0_77) 475 26) ≤ (0 : Int32)) (cnd ((0 : Int32) ≤ q37) (fX8_addFile_161 a1 (mset C_77 475 26 s0_77) q37) (nmv (((mset C_77 475 26 s0_77) 475 2)) fun v97 => lp (fX8_addFile_100 a1 v97) ((mset C_77 475 26 s0_77), (0 : Int32)))) (some ((0 : Int32), (mset C_77 475 26 s0_77)))
noncomputable def fX8_addFile_24 (M : Mem) (a1 : Int32) (s0_24 : Int32) : Option (Int32 × Mem) := cnd (((mset M 475 26 s0_24) 475 26) ≤ (0 : Int32)) (bnd (fX8_fileOf (mset M 475 26 s0_24)) fun q37 => cnd ((0 : Int32) ≤ q37) (chk (vp_in q37 24) (cnd (((mset M 475 26 s0_24) 480 q37.toNatClampNeg) = (0 : Int32)) (fX8_addFile_77 a1 q37 (mset M 475 26 s0_24) (0 : Int32)) (fX8_addFile_77 a1 q37 (mset M 475 26 s0_24) (2 : Int32)))) (cnd (((mset M 475 26 s0_24) 475 2) = (24 : Int32)) (fX8_addFile_77 a1 q37 (mset M 475 26 s0_24) (2 : Int32)) (fX8_addFile_77 a1 q37 (mset M 475 26 s0_24) (0 : Int32)))) (some ((0 : Int32), (mset M 475 26 s0_24)))
noncomputable def fX8_addFile_19 (M : Mem) (a1 : Int32) : Option (Int32 × Mem) := fX8_addFile_24 M a1 (1 : Int32)
noncomputable def fX8_addFile (M : Mem) (a1 : Int32) : Option (Int32 × Mem) := cnd ((fX8_isIn a1 (0 : Int32) (9999 : Int32)) = (0 : Int32)) (fX8_addFile_19 M a1) (bnd (fX8_isPathNow M) fun q13 => cnd (q13 = (0 : Int32)) (fX8_addFile_19 M a1) (fX8_addFile_24 M a1 (0 : Int32)))
abbrev rm_X8_addFile : Room := { frames := 3, cells := 0, slots := 0, locals := 66 }
set_option maxRecDepth 100000 in
set_option maxHeartbeats 4000000 in
theorem c_X8_addFile (l : Launch) (Γ : gx_G) (C M : Mem) (a1 : Int32) {y0 : (Int32 × Mem)} (hf : fX8_addFile M a1 = some y0) : Met l yX8_addFile (.code yX8_addFile cX8_addFile 4 (some .int) :: TsG) rm_X8_addFile (va_Pc [.ref (Γ.1 475), .int a1] (gx_P Γ C M)) (gx_Qi Γ y0.1 C y0.2) 0 0 (gA Γ) := by
  refine gm_i (by decide) (Nat.le_of_ble_eq_true rfl) ?_
  intro p e s m args below meth c Q S hG hret ls H locs hl hW hS
  obtain ⟨hx, hb, hml, hown, hts⟩ := id S
  have hl : lv_has ls 4 [(0, .ref (Γ.1 475)), (1, .int a1)] := hl
  unfold fX8_addFile at hf
  refine lv_aload_n hx hb dX8_addFile_0 rfl (lv_at hl 0 rfl) ?_
  refine lv_iload_n hx hb dX8_addFile_1 rfl (lv_at hl 1 rfl) ?_
  refine lv_iconst (v := (0 : Int32)) hx hb dX8_addFile_2 (by decide) ?_
  refine lv_sipush (v := (9999 : Int32)) hx hb dX8_addFile_3 (by decide) ?_
  refine gk0_i hS (gs_run (rest := [.ref (Γ.1 475)]) S hG hW hS [.int a1, .int (0 : Int32), .int (9999 : Int32)] (c_X8_isIn l Γ C M a1 (0 : Int32) (9999 : Int32)) pk_X8_isIn ml_X8_111 rfl rfl ⟨Nat.le_of_ble_eq_true rfl, Nat.le_of_ble_eq_true rfl⟩ rfl hl.1 rfl (Nat.le_of_ble_eq_true rfl) dX8_addFile_6 ⟨Nat.le_of_ble_eq_true rfl, Nat.le_of_ble_eq_true rfl⟩) (fun H locs hW hS => ?_)
  have J_24 : ∀ (s0_24 : Int32) , fX8_addFile_24 M a1 s0_24 = some y0 → ∀ (H : Heap) (locs : List Loc) (ls : Array Slot), gx_W Γ C M H → va_S (gA Γ) s.heap H locs → lv_has ls 4 [(0, .ref (Γ.1 475)), (1, .int a1)] → W p l e rm_X8_addFile s m args below meth c H locs 0 0 Q (F0 m 24 ls [.int s0_24, .ref (Γ.1 475)]) := by
    intro s0_24 hf H locs ls hW hS hl
    unfold fX8_addFile_24 at hf
    refine put_X8_26 S hG hW hS fl_X8_77 dX8_addFile_24 (fun H locs hW hS => ?_)
    refine lv_aload_n hx hb dX8_addFile_27 rfl (lv_at hl 0 rfl) ?_
    refine get_X8_26 S hG hW fl_X8_77 dX8_addFile_28 ?_
    refine lv_if_le (tgt := 36) hx hb dX8_addFile_31 (by decide) (fun c31 => ?_) (fun c31 => ?_)
    · have hf := cn_t c31 hf
      refine lv_aload_n hx hb dX8_addFile_36 rfl (lv_at hl 0 rfl) ?_
      obtain ⟨q37, hq37, hf⟩ := bnd_e hf
      refine gk0_i hS (gv_run (rest := []) S hG hW hS [] (c_X8_fileOf l Γ C (mset M 475 26 s0_24) hq37) pk_X8_fileOf ml_X8_115 (Nat.le_of_ble_eq_true rfl) rfl rfl rfl rfl ⟨Nat.le_of_ble_eq_true rfl, Nat.le_of_ble_eq_true rfl⟩ rfl hl.1 rfl (Nat.le_of_ble_eq_true rfl) dX8_addFile_37 ⟨Nat.le_of_ble_eq_true rfl, Nat.le_of_ble_eq_true rfl⟩) (fun H locs hW hS => ?_)
      refine lv_istore_n (lv' := [(2, .int q37), (0, .ref (Γ.1 475)), (1, .int a1)]) hx hb dX8_addFile_40 rfl hl (by decide) rfl (fun ls hl => ?_)
      refine lv_aload_n hx hb dX8_addFile_41 rfl (lv_at hl 1 rfl) ?_
      refine lv_iload_n hx hb dX8_addFile_42 rfl (lv_at hl 0 rfl) ?_
      have J_77 : ∀ (C_77 : Mem) (s0_77 : Int32) , fX8_addFile_77 a1 q37 C_77 s0_77 = some y0 → ∀ (H : Heap) (locs : List Loc) (ls : Array Slot), gx_W Γ C C_77 H → va_S (gA Γ) s.heap H locs → lv_has ls 4 [(0, .ref (Γ.1 475)), (1, .int a1), (2, .int q37)] → W p l e rm_X8_addFile s m args below meth c H locs 0 0 Q (F0 m 77 ls [.int s0_77, .ref (Γ.1 475)]) := by
        intro C_77 s0_77 hf H locs ls hW hS hl
        unfold fX8_addFile_77 at hf
        refine put_X8_26 S hG hW hS fl_X8_77 dX8_addFile_77 (fun H locs hW hS => ?_)
        refine lv_aload_n hx hb dX8_addFile_80 rfl (lv_at hl 0 rfl) ?_
        refine get_X8_26 S hG hW fl_X8_77 dX8_addFile_81 ?_
        refine lv_if_le (tgt := 89) hx hb dX8_addFile_84 (by decide) (fun c84 => ?_) (fun c84 => ?_)
        · have hf := cn_t c84 hf
          refine lv_iload_n hx hb dX8_addFile_89 rfl (lv_at hl 2 rfl) ?_
          have J_161 : ∀ (C_161 : Mem) (x2_161 : Int32) , fX8_addFile_161 a1 C_161 x2_161 = some y0 → ∀ (H : Heap) (locs : List Loc) (ls : Array Slot), gx_W Γ C C_161 H → va_S (gA Γ) s.heap H locs → lv_has ls 4 [(0, .ref (Γ.1 475)), (1, .int a1), (2, .int x2_161)] → W p l e rm_X8_addFile s m args below meth c H locs 0 0 Q (F0 m 161 ls []) := by
            intro C_161 x2_161 hf H locs ls hW hS hl
            unfold fX8_addFile_161 at hf
            refine lv_aload_n hx hb dX8_addFile_161 rfl (lv_at hl 0 rfl) ?_
            refine get_X8_5 S hG hW fl_X8_22 dX8_addFile_162 ?_
            refine lv_iload_n hx hb dX8_addFile_165 rfl (lv_at hl 2 rfl) ?_
            refine lv_iconst (v := (1 : Int32)) hx hb dX8_addFile_166 (by decide) ?_
            have g167 := ck_p hf
            have hf := ck_r hf
            refine ast_z S hG hW hS shk_480 lnk_480 g167 dX8_addFile_167 (fun H locs hW hS => ?_)
            refine lv_aload_n hx hb dX8_addFile_168 rfl (lv_at hl 0 rfl) ?_
            refine get_X8_6 S hG hW fl_X8_26 dX8_addFile_169 ?_
            refine lv_iload_n hx hb dX8_addFile_172 rfl (lv_at hl 2 rfl) ?_
            refine lv_iload_n hx hb dX8_addFile_173 rfl (lv_at hl 1 rfl) ?_
            have g174 := ck_p hf
            have hf := ck_r hf
            refine ast_m S hG hW hS shk_481 lnk_481 g174 dX8_addFile_174 (fun H locs hW hS => ?_)
            refine lv_iload_n hx hb dX8_addFile_175 rfl (lv_at hl 2 rfl) ?_
            have e9 := Option.some.inj hf
            subst e9
            exact hret _ _ _ _ _ hW hS rfl rfl dX8_addFile_176
          refine lv_if_ge (tgt := 161) hx hb dX8_addFile_90 (by decide) (fun c90 => ?_) (fun c90 => ?_)
          · have hf := cn_t c90 hf
            exact J_161 (mset C_77 475 26 s0_77) q37 hf H locs ls hW hS (lv_sub hl [0, 1, 2] rfl)
          · have hf := cn_f c90 hf
            refine lv_aload_n hx hb dX8_addFile_93 rfl (lv_at hl 0 rfl) ?_
            refine get_X8_2 S hG hW fl_X8_108 dX8_addFile_94 ?_
            refine lv_topi (fun v97 ev97 => ?_)
            have hf := nm_v ev97 hf
            refine lv_istore_n (lv' := [(2, .int v97), (0, .ref (Γ.1 475)), (1, .int a1)]) hx hb dX8_addFile_97 rfl hl (by decide) rfl (fun ls hl => ?_)
            refine lv_iconst (v := (0 : Int32)) hx hb dX8_addFile_98 (by decide) ?_
            refine lv_istore_n (lv' := [(3, .int (0 : Int32)), (2, .int v97), (0, .ref (Γ.1 475)), (1, .int a1)]) hx hb dX8_addFile_99 rfl hl (by decide) rfl (fun ls hl => ?_)
            have J_100 : ∀  (t_100 : Mem × Int32), lp (fX8_addFile_100 a1 v97) t_100 = some y0 → ∀ (H : Heap) (locs : List Loc) (ls : Array Slot), gx_W Γ C t_100.1 H → va_S (gA Γ) s.heap H locs → lv_has ls 4 [(0, .ref (Γ.1 475)), (1, .int a1), (2, .int v97), (3, .int t_100.2)] → W p l e rm_X8_addFile s m args below meth c H locs 0 0 Q (F0 m 100 ls []) := by
              refine lp_ind (P := fun (t_100 : Mem × Int32) => ∀ (H : Heap) (locs : List Loc) (ls : Array Slot), gx_W Γ C t_100.1 H → va_S (gA Γ) s.heap H locs → lv_has ls 4 [(0, .ref (Γ.1 475)), (1, .int a1), (2, .int v97), (3, .int t_100.2)] → W p l e rm_X8_addFile s m args below meth c H locs 0 0 Q (F0 m 100 ls [])) ?_
              intro t_100 y1 hf kI1 kX1 H locs ls hW hS hl
              unfold fX8_addFile_100 at hf
              refine lv_iload_n hx hb dX8_addFile_100 rfl (lv_at hl 3 rfl) ?_
              refine lv_aload_n hx hb dX8_addFile_101 rfl (lv_at hl 0 rfl) ?_
              refine get_X8_1 S hG hW fl_X8_13 dX8_addFile_102 ?_
              refine lv_bipush (v := (76 : Int32)) hx hb dX8_addFile_105 (by decide) ?_
              have g107 := ck_p hf
              have hf := ck_r hf
              refine ald_m S hG hW shk_477 lnk_477 g107 dX8_addFile_107 ?_
              have J_138 : fX8_addFile_138 a1 t_100 v97 = some y0 → ∀ (H : Heap) (locs : List Loc) (ls : Array Slot), gx_W Γ C t_100.1 H → va_S (gA Γ) s.heap H locs → lv_has ls 4 [(0, .ref (Γ.1 475)), (1, .int a1), (2, .int v97)] → W p l e rm_X8_addFile s m args below meth c H locs 0 0 Q (F0 m 138 ls []) := by
                intro  hf H locs ls hW hS hl
                unfold fX8_addFile_138 at hf
                refine lv_aload_n hx hb dX8_addFile_138 rfl (lv_at hl 0 rfl) ?_
                refine get_X8_4 S hG hW fl_X8_19 dX8_addFile_139 ?_
                refine lv_iload_n hx hb dX8_addFile_142 rfl (lv_at hl 2 rfl) ?_
                refine lv_aload_n hx hb dX8_addFile_143 rfl (lv_at hl 0 rfl) ?_
                refine get_X8_1 S hG hW fl_X8_13 dX8_addFile_144 ?_
                refine lv_bipush (v := (76 : Int32)) hx hb dX8_addFile_147 (by decide) ?_
                have g149 := ck_p hf
                have hf := ck_r hf
                refine ald_m S hG hW shk_477 lnk_477 g149 dX8_addFile_149 ?_
                have g150 := ck_p hf
                have hf := ck_r hf
                refine ast_m S hG hW hS shk_479 lnk_479 g150 dX8_addFile_150 (fun H locs hW hS => ?_)
                refine lv_aload_n hx hb dX8_addFile_151 rfl (lv_at hl 0 rfl) ?_
                refine lv_dup hx hb dX8_addFile_152 rfl ?_
                refine get_X8_2 S hG hW fl_X8_108 dX8_addFile_153 ?_
                refine lv_iconst (v := (1 : Int32)) hx hb dX8_addFile_156 (by decide) ?_
                refine lv_iadd hx hb dX8_addFile_157 ?_
                refine put_X8_2 S hG hW hS fl_X8_108 dX8_addFile_158 (fun H locs hW hS => ?_)
                exact J_161 (mset (mset t_100.1 479 v97.toNatClampNeg (t_100.1 477 (76 : Int32).toNatClampNeg)) 475 2 (((mset t_100.1 479 v97.toNatClampNeg (t_100.1 477 (76 : Int32).toNatClampNeg)) 475 2) + (1 : Int32))) v97 hf H locs ls hW hS (lv_sub hl [0, 1, 2] rfl)
              refine lv_icmp_ge (tgt := 138) hx hb dX8_addFile_108 (by decide) (fun c108 => ?_) (fun c108 => ?_)
              · have hf := cn_t c108 hf
                obtain ⟨z108, hf, ez⟩ := exR_e hf
                rw [kX1 _ ez] at hf
                exact J_138  hf H locs ls hW hS (lv_sub hl [0, 1, 2] rfl)
              · have hf := cn_f c108 hf
                refine lv_aload_n hx hb dX8_addFile_111 rfl (lv_at hl 0 rfl) ?_
                refine get_X8_3 S hG hW fl_X8_16 dX8_addFile_112 ?_
                refine lv_bipush (v := (24 : Int32)) hx hb dX8_addFile_115 (by decide) ?_
                refine lv_iload_n hx hb dX8_addFile_117 rfl (lv_at hl 2 rfl) ?_
                refine lv_imul hx hb dX8_addFile_118 ?_
                refine lv_iload_n hx hb dX8_addFile_119 rfl (lv_at hl 3 rfl) ?_
                refine lv_iadd hx hb dX8_addFile_120 ?_
                refine lv_aload_n hx hb dX8_addFile_121 rfl (lv_at hl 0 rfl) ?_
                refine get_X8_0 S hG hW fl_X8_7 dX8_addFile_122 ?_
                refine lv_sipush (v := (1824 : Int32)) hx hb dX8_addFile_125 (by decide) ?_
                refine lv_iload_n hx hb dX8_addFile_128 rfl (lv_at hl 3 rfl) ?_
                refine lv_iadd hx hb dX8_addFile_129 ?_
                have g130 := ck_p hf
                have hf := ck_r hf
                refine ald_m S hG hW shk_476 lnk_476 g130 dX8_addFile_130 ?_
                have g131 := ck_p hf
                have hf := ck_r hf
                refine ast_m S hG hW hS shk_478 lnk_478 g131 dX8_addFile_131 (fun H locs hW hS => ?_)
                refine lv_iinc (v := (t_100.2 + (1 : Int32))) (lv' := [(3, .int (t_100.2 + (1 : Int32))), (0, .ref (Γ.1 475)), (1, .int a1), (2, .int v97)]) hx hb dX8_addFile_132 hl (k := 3) rfl rfl (by decide) rfl (fun ls hl => ?_)
                refine lv_goto (tgt := 100) hx hb dX8_addFile_135 (by decide) ?_
                exact kI1 _ (Option.some.inj hf).symm H locs ls hW hS (lv_sub hl [1, 2, 3, 0] rfl)
            exact J_100 ((mset C_77 475 26 s0_77), (0 : Int32)) hf H locs ls hW hS (lv_sub hl [2, 3, 1, 0] rfl)
        · have hf := cn_f c84 hf
          refine lv_iconst (v := (0 : Int32)) hx hb dX8_addFile_87 (by decide) ?_
          have e9 := Option.some.inj hf
          subst e9
          exact hret _ _ _ _ _ hW hS rfl rfl dX8_addFile_88
      refine lv_if_ge (tgt := 63) hx hb dX8_addFile_43 (by decide) (fun c43 => ?_) (fun c43 => ?_)
      · have hf := cn_t c43 hf
        refine lv_aload_n hx hb dX8_addFile_63 rfl (lv_at hl 1 rfl) ?_
        refine get_X8_5 S hG hW fl_X8_22 dX8_addFile_64 ?_
        refine lv_iload_n hx hb dX8_addFile_67 rfl (lv_at hl 0 rfl) ?_
        have g68 := ck_p hf
        have hf := ck_r hf
        refine ald_z S hG hW shk_480 lnk_480 g68 dX8_addFile_68 ?_
        refine lv_if_eq (tgt := 76) hx hb dX8_addFile_69 (by decide) (fun c69 => ?_) (fun c69 => ?_)
        · have hf := cn_t c69 hf
          refine lv_iconst (v := (0 : Int32)) hx hb dX8_addFile_76 (by decide) ?_
          exact J_77 (mset M 475 26 s0_24) (0 : Int32) hf H locs ls hW hS (lv_sub hl [1, 2, 0] rfl)
        · have hf := cn_f c69 hf
          refine lv_iconst (v := (2 : Int32)) hx hb dX8_addFile_72 (by decide) ?_
          refine lv_goto (tgt := 77) hx hb dX8_addFile_73 (by decide) ?_
          exact J_77 (mset M 475 26 s0_24) (2 : Int32) hf H locs ls hW hS (lv_sub hl [1, 2, 0] rfl)
      · have hf := cn_f c43 hf
        refine lv_aload_n hx hb dX8_addFile_46 rfl (lv_at hl 1 rfl) ?_
        refine get_X8_2 S hG hW fl_X8_108 dX8_addFile_47 ?_
        refine lv_bipush (v := (24 : Int32)) hx hb dX8_addFile_50 (by decide) ?_
        refine lv_icmp_ne (tgt := 59) hx hb dX8_addFile_52 (by decide) (fun c52 => ?_) (fun c52 => ?_)
        · have hf := cn_f c52 hf
          refine lv_iconst (v := (0 : Int32)) hx hb dX8_addFile_59 (by decide) ?_
          refine lv_goto (tgt := 77) hx hb dX8_addFile_60 (by decide) ?_
          exact J_77 (mset M 475 26 s0_24) (0 : Int32) hf H locs ls hW hS (lv_sub hl [1, 2, 0] rfl)
        · have hf := cn_t c52 hf
          refine lv_iconst (v := (2 : Int32)) hx hb dX8_addFile_55 (by decide) ?_
          refine lv_goto (tgt := 77) hx hb dX8_addFile_56 (by decide) ?_
          exact J_77 (mset M 475 26 s0_24) (2 : Int32) hf H locs ls hW hS (lv_sub hl [1, 2, 0] rfl)
    · have hf := cn_f c31 hf
      refine lv_iconst (v := (0 : Int32)) hx hb dX8_addFile_34 (by decide) ?_
      have e9 := Option.some.inj hf
      subst e9
      exact hret _ _ _ _ _ hW hS rfl rfl dX8_addFile_35
  have J_19 : fX8_addFile_19 M a1 = some y0 → ∀ (H : Heap) (locs : List Loc) (ls : Array Slot), gx_W Γ C M H → va_S (gA Γ) s.heap H locs → lv_has ls 4 [(0, .ref (Γ.1 475)), (1, .int a1)] → W p l e rm_X8_addFile s m args below meth c H locs 0 0 Q (F0 m 19 ls [.ref (Γ.1 475)]) := by
    intro  hf H locs ls hW hS hl
    unfold fX8_addFile_19 at hf
    refine lv_iconst (v := (1 : Int32)) hx hb dX8_addFile_19 (by decide) ?_
    refine lv_goto (tgt := 24) hx hb dX8_addFile_20 (by decide) ?_
    exact J_24 (1 : Int32) hf H locs ls hW hS (lv_sub hl [0, 1] rfl)
  refine lv_if_eq (tgt := 19) hx hb dX8_addFile_9 (by decide) (fun c9 => ?_) (fun c9 => ?_)
  · have hf := cn_t c9 hf
    exact J_19  hf H locs ls hW hS (lv_sub hl [0, 1] rfl)
  · have hf := cn_f c9 hf
    refine lv_aload_n hx hb dX8_addFile_12 rfl (lv_at hl 0 rfl) ?_
    obtain ⟨q13, hq13, hf⟩ := bnd_e hf
    refine gk0_i hS (gv_run (rest := [.ref (Γ.1 475)]) S hG hW hS [] (c_X8_isPathNow l Γ C M hq13) pk_X8_isPathNow ml_X8_89 (Nat.le_of_ble_eq_true rfl) rfl rfl rfl rfl ⟨Nat.le_of_ble_eq_true rfl, Nat.le_of_ble_eq_true rfl⟩ rfl hl.1 rfl (Nat.le_of_ble_eq_true rfl) dX8_addFile_13 ⟨Nat.le_of_ble_eq_true rfl, Nat.le_of_ble_eq_true rfl⟩) (fun H locs hW hS => ?_)
    refine lv_if_ne (tgt := 23) hx hb dX8_addFile_16 (by decide) (fun c16 => ?_) (fun c16 => ?_)
    · have hf := cn_f c16 hf
      refine lv_iconst (v := (0 : Int32)) hx hb dX8_addFile_23 (by decide) ?_
      exact J_24 (0 : Int32) hf H locs ls hW hS (lv_sub hl [0, 1] rfl)
    · have hf := cn_t c16 hf
      exact J_19  hf H locs ls hW hS (lv_sub hl [0, 1] rfl)
noncomputable def fX8_findFile (M : Mem) : Option (Int32 × Mem) := bnd (fX8_fileOf (mset M 475 26 (0 : Int32))) fun q6 => some (q6, (mset M 475 26 (0 : Int32)))
abbrev rm_X8_findFile : Room := { frames := 1, cells := 0, slots := 0, locals := 24 }
set_option maxRecDepth 100000 in
set_option maxHeartbeats 4000000 in
theorem c_X8_findFile (l : Launch) (Γ : gx_G) (C M : Mem)  {y0 : (Int32 × Mem)} (hf : fX8_findFile M = some y0) : Met l yX8_findFile (.code yX8_findFile cX8_findFile 1 (some .int) :: TsG) rm_X8_findFile (va_Pc [.ref (Γ.1 475)] (gx_P Γ C M)) (gx_Qi Γ y0.1 C y0.2) 0 0 (gA Γ) := by
  refine gm_i (by decide) (Nat.le_of_ble_eq_true rfl) ?_
  intro p e s m args below meth c Q S hG hret ls H locs hl hW hS
  obtain ⟨hx, hb, hml, hown, hts⟩ := id S
  have hl : lv_has ls 1 [(0, .ref (Γ.1 475))] := hl
  unfold fX8_findFile at hf
  refine lv_aload_n hx hb dX8_findFile_0 rfl (lv_at hl 0 rfl) ?_
  refine lv_iconst (v := (0 : Int32)) hx hb dX8_findFile_1 (by decide) ?_
  refine put_X8_26 S hG hW hS fl_X8_77 dX8_findFile_2 (fun H locs hW hS => ?_)
  refine lv_aload_n hx hb dX8_findFile_5 rfl (lv_at hl 0 rfl) ?_
  obtain ⟨q6, hq6, hf⟩ := bnd_e hf
  refine gk0_i hS (gv_run (rest := []) S hG hW hS [] (c_X8_fileOf l Γ C (mset M 475 26 (0 : Int32)) hq6) pk_X8_fileOf ml_X8_115 (Nat.le_of_ble_eq_true rfl) rfl rfl rfl rfl ⟨Nat.le_of_ble_eq_true rfl, Nat.le_of_ble_eq_true rfl⟩ rfl hl.1 rfl (Nat.le_of_ble_eq_true rfl) dX8_findFile_6 ⟨Nat.le_of_ble_eq_true rfl, Nat.le_of_ble_eq_true rfl⟩) (fun H locs hW hS => ?_)
  have e9 := Option.some.inj hf
  subst e9
  exact hret _ _ _ _ _ hW hS rfl rfl dX8_findFile_9
noncomputable def fX8_isThere_27 (M : Mem) : Option Int32 := some (0 : Int32)
noncomputable def fX8_isThere (M : Mem) (a1 : Int32) : Option Int32 := cnd ((fX8_isIn a1 (0 : Int32) ((M 475 2) - (1 : Int32))) = (0 : Int32)) (fX8_isThere_27 M) (chk (vp_in a1 24) (cnd ((M 480 a1.toNatClampNeg) = (0 : Int32)) (fX8_isThere_27 M) (some (1 : Int32))))
abbrev rm_X8_isThere : Room := { frames := 1, cells := 0, slots := 0, locals := 22 }
set_option maxRecDepth 100000 in
set_option maxHeartbeats 4000000 in
theorem c_X8_isThere (l : Launch) (Γ : gx_G) (C M : Mem) (a1 : Int32) {y0 : Int32} (hf : fX8_isThere M a1 = some y0) : Met l yX8_isThere (.code yX8_isThere cX8_isThere 2 (some .boolean) :: TsG) rm_X8_isThere (va_Pc [.ref (Γ.1 475), .int a1] (gx_P Γ C M)) (gx_Qi Γ y0 C M) 0 0 (gA Γ) := by
  refine gm_i (by decide) (Nat.le_of_ble_eq_true rfl) ?_
  intro p e s m args below meth c Q S hG hret ls H locs hl hW hS
  obtain ⟨hx, hb, hml, hown, hts⟩ := id S
  have hl : lv_has ls 2 [(0, .ref (Γ.1 475)), (1, .int a1)] := hl
  unfold fX8_isThere at hf
  refine lv_iload_n hx hb dX8_isThere_0 rfl (lv_at hl 1 rfl) ?_
  refine lv_iconst (v := (0 : Int32)) hx hb dX8_isThere_1 (by decide) ?_
  refine lv_aload_n hx hb dX8_isThere_2 rfl (lv_at hl 0 rfl) ?_
  refine get_X8_2 S hG hW fl_X8_108 dX8_isThere_3 ?_
  refine lv_iconst (v := (1 : Int32)) hx hb dX8_isThere_6 (by decide) ?_
  refine lv_isub hx hb dX8_isThere_7 ?_
  refine gk0_i hS (gs_run (rest := []) S hG hW hS [.int a1, .int (0 : Int32), .int ((M 475 2) - (1 : Int32))] (c_X8_isIn l Γ C M a1 (0 : Int32) ((M 475 2) - (1 : Int32))) pk_X8_isIn ml_X8_111 rfl rfl ⟨Nat.le_of_ble_eq_true rfl, Nat.le_of_ble_eq_true rfl⟩ rfl hl.1 rfl (Nat.le_of_ble_eq_true rfl) dX8_isThere_8 ⟨Nat.le_of_ble_eq_true rfl, Nat.le_of_ble_eq_true rfl⟩) (fun H locs hW hS => ?_)
  have J_27 : fX8_isThere_27 M = some y0 → ∀ (H : Heap) (locs : List Loc) (ls : Array Slot), gx_W Γ C M H → va_S (gA Γ) s.heap H locs → lv_has ls 2 [] → W p l e rm_X8_isThere s m args below meth c H locs 0 0 Q (F0 m 27 ls []) := by
    intro  hf H locs ls hW hS hl
    unfold fX8_isThere_27 at hf
    refine lv_iconst (v := (0 : Int32)) hx hb dX8_isThere_27 (by decide) ?_
    exact hret _ _ _ _ _ hW hS rfl (Option.some.inj hf) dX8_isThere_28
  refine lv_if_eq (tgt := 27) hx hb dX8_isThere_11 (by decide) (fun c11 => ?_) (fun c11 => ?_)
  · have hf := cn_t c11 hf
    exact J_27  hf H locs ls hW hS (lv_sub hl [] rfl)
  · have hf := cn_f c11 hf
    refine lv_aload_n hx hb dX8_isThere_14 rfl (lv_at hl 0 rfl) ?_
    refine get_X8_5 S hG hW fl_X8_22 dX8_isThere_15 ?_
    refine lv_iload_n hx hb dX8_isThere_18 rfl (lv_at hl 1 rfl) ?_
    have g19 := ck_p hf
    have hf := ck_r hf
    refine ald_z S hG hW shk_480 lnk_480 g19 dX8_isThere_19 ?_
    refine lv_if_eq (tgt := 27) hx hb dX8_isThere_20 (by decide) (fun c20 => ?_) (fun c20 => ?_)
    · have hf := cn_t c20 hf
      exact J_27  hf H locs ls hW hS (lv_sub hl [] rfl)
    · have hf := cn_f c20 hf
      refine lv_iconst (v := (1 : Int32)) hx hb dX8_isThere_23 (by decide) ?_
      refine lv_goto (tgt := 28) hx hb dX8_isThere_24 (by decide) ?_
      exact hret _ _ _ _ _ hW hS rfl (Option.some.inj hf) dX8_isThere_28
noncomputable def fX8_edit_29 (M : Mem) (a1 : Int32) (a2 : Int32) (s0_29 : Int32) : Option (Int32 × Mem) := cnd (((mset M 475 26 s0_29) 475 26) ≤ (0 : Int32)) (chk (vp_in a1 24) (nmv (((mset M 475 26 s0_29) 481 a1.toNatClampNeg)) fun v47 => chk (vp_in a1 24) (some (v47, (mset (mset M 475 26 s0_29) 481 a1.toNatClampNeg a2))))) (some ((0 : Int32), (mset M 475 26 s0_29)))
noncomputable def fX8_edit (M : Mem) (a1 : Int32) (a2 : Int32) : Option (Int32 × Mem) := bnd (fX8_isThere M a1) fun q3 => cnd (q3 = (0 : Int32)) (fX8_edit_29 M a1 a2 (1 : Int32)) (cnd ((fX8_isIn a2 (0 : Int32) (9999 : Int32)) = (0 : Int32)) (fX8_edit_29 M a1 a2 (2 : Int32)) (fX8_edit_29 M a1 a2 (0 : Int32)))
abbrev rm_X8_edit : Room := { frames := 2, cells := 0, slots := 0, locals := 43 }
set_option maxRecDepth 100000 in
set_option maxHeartbeats 4000000 in
theorem c_X8_edit (l : Launch) (Γ : gx_G) (C M : Mem) (a1 : Int32) (a2 : Int32) {y0 : (Int32 × Mem)} (hf : fX8_edit M a1 a2 = some y0) : Met l yX8_edit (.code yX8_edit cX8_edit 4 (some .int) :: TsG) rm_X8_edit (va_Pc [.ref (Γ.1 475), .int a1, .int a2] (gx_P Γ C M)) (gx_Qi Γ y0.1 C y0.2) 0 0 (gA Γ) := by
  refine gm_i (by decide) (Nat.le_of_ble_eq_true rfl) ?_
  intro p e s m args below meth c Q S hG hret ls H locs hl hW hS
  obtain ⟨hx, hb, hml, hown, hts⟩ := id S
  have hl : lv_has ls 4 [(0, .ref (Γ.1 475)), (1, .int a1), (2, .int a2)] := hl
  unfold fX8_edit at hf
  refine lv_aload_n hx hb dX8_edit_0 rfl (lv_at hl 0 rfl) ?_
  refine lv_aload_n hx hb dX8_edit_1 rfl (lv_at hl 0 rfl) ?_
  refine lv_iload_n hx hb dX8_edit_2 rfl (lv_at hl 1 rfl) ?_
  obtain ⟨q3, hq3, hf⟩ := bnd_e hf
  refine gk0_i hS (gv_run (rest := [.ref (Γ.1 475)]) S hG hW hS [.int a1] (c_X8_isThere l Γ C M a1 hq3) pk_X8_isThere ml_X8_119 (Nat.le_of_ble_eq_true rfl) rfl rfl rfl rfl ⟨Nat.le_of_ble_eq_true rfl, Nat.le_of_ble_eq_true rfl⟩ rfl hl.1 rfl (Nat.le_of_ble_eq_true rfl) dX8_edit_3 ⟨Nat.le_of_ble_eq_true rfl, Nat.le_of_ble_eq_true rfl⟩) (fun H locs hW hS => ?_)
  have J_29 : ∀ (s0_29 : Int32) , fX8_edit_29 M a1 a2 s0_29 = some y0 → ∀ (H : Heap) (locs : List Loc) (ls : Array Slot), gx_W Γ C M H → va_S (gA Γ) s.heap H locs → lv_has ls 4 [(0, .ref (Γ.1 475)), (1, .int a1), (2, .int a2)] → W p l e rm_X8_edit s m args below meth c H locs 0 0 Q (F0 m 29 ls [.int s0_29, .ref (Γ.1 475)]) := by
    intro s0_29 hf H locs ls hW hS hl
    unfold fX8_edit_29 at hf
    refine put_X8_26 S hG hW hS fl_X8_77 dX8_edit_29 (fun H locs hW hS => ?_)
    refine lv_aload_n hx hb dX8_edit_32 rfl (lv_at hl 0 rfl) ?_
    refine get_X8_26 S hG hW fl_X8_77 dX8_edit_33 ?_
    refine lv_if_le (tgt := 41) hx hb dX8_edit_36 (by decide) (fun c36 => ?_) (fun c36 => ?_)
    · have hf := cn_t c36 hf
      refine lv_aload_n hx hb dX8_edit_41 rfl (lv_at hl 0 rfl) ?_
      refine get_X8_6 S hG hW fl_X8_26 dX8_edit_42 ?_
      refine lv_iload_n hx hb dX8_edit_45 rfl (lv_at hl 1 rfl) ?_
      have g46 := ck_p hf
      have hf := ck_r hf
      refine ald_m S hG hW shk_481 lnk_481 g46 dX8_edit_46 ?_
      refine lv_topi (fun v47 ev47 => ?_)
      have hf := nm_v ev47 hf
      refine lv_istore_n (lv' := [(3, .int v47), (0, .ref (Γ.1 475)), (1, .int a1), (2, .int a2)]) hx hb dX8_edit_47 rfl hl (by decide) rfl (fun ls hl => ?_)
      refine lv_aload_n hx hb dX8_edit_48 rfl (lv_at hl 1 rfl) ?_
      refine get_X8_6 S hG hW fl_X8_26 dX8_edit_49 ?_
      refine lv_iload_n hx hb dX8_edit_52 rfl (lv_at hl 2 rfl) ?_
      refine lv_iload_n hx hb dX8_edit_53 rfl (lv_at hl 3 rfl) ?_
      have g54 := ck_p hf
      have hf := ck_r hf
      refine ast_m S hG hW hS shk_481 lnk_481 g54 dX8_edit_54 (fun H locs hW hS => ?_)
      refine lv_iload_n hx hb dX8_edit_55 rfl (lv_at hl 0 rfl) ?_
      have e9 := Option.some.inj hf
      subst e9
      exact hret _ _ _ _ _ hW hS rfl rfl dX8_edit_56
    · have hf := cn_f c36 hf
      refine lv_iconst (v := (0 : Int32)) hx hb dX8_edit_39 (by decide) ?_
      have e9 := Option.some.inj hf
      subst e9
      exact hret _ _ _ _ _ hW hS rfl rfl dX8_edit_40
  refine lv_if_ne (tgt := 13) hx hb dX8_edit_6 (by decide) (fun c6 => ?_) (fun c6 => ?_)
  · have hf := cn_f c6 hf
    refine lv_iload_n hx hb dX8_edit_13 rfl (lv_at hl 2 rfl) ?_
    refine lv_iconst (v := (0 : Int32)) hx hb dX8_edit_14 (by decide) ?_
    refine lv_sipush (v := (9999 : Int32)) hx hb dX8_edit_15 (by decide) ?_
    refine gk0_i hS (gs_run (rest := [.ref (Γ.1 475)]) S hG hW hS [.int a2, .int (0 : Int32), .int (9999 : Int32)] (c_X8_isIn l Γ C M a2 (0 : Int32) (9999 : Int32)) pk_X8_isIn ml_X8_111 rfl rfl ⟨Nat.le_of_ble_eq_true rfl, Nat.le_of_ble_eq_true rfl⟩ rfl hl.1 rfl (Nat.le_of_ble_eq_true rfl) dX8_edit_18 ⟨Nat.le_of_ble_eq_true rfl, Nat.le_of_ble_eq_true rfl⟩) (fun H locs hW hS => ?_)
    refine lv_if_eq (tgt := 28) hx hb dX8_edit_21 (by decide) (fun c21 => ?_) (fun c21 => ?_)
    · have hf := cn_t c21 hf
      refine lv_iconst (v := (2 : Int32)) hx hb dX8_edit_28 (by decide) ?_
      exact J_29 (2 : Int32) hf H locs ls hW hS (lv_sub hl [0, 1, 2] rfl)
    · have hf := cn_f c21 hf
      refine lv_iconst (v := (0 : Int32)) hx hb dX8_edit_24 (by decide) ?_
      refine lv_goto (tgt := 29) hx hb dX8_edit_25 (by decide) ?_
      exact J_29 (0 : Int32) hf H locs ls hW hS (lv_sub hl [0, 1, 2] rfl)
  · have hf := cn_t c6 hf
    refine lv_iconst (v := (1 : Int32)) hx hb dX8_edit_9 (by decide) ?_
    refine lv_goto (tgt := 29) hx hb dX8_edit_10 (by decide) ?_
    exact J_29 (1 : Int32) hf H locs ls hW hS (lv_sub hl [0, 1, 2] rfl)
noncomputable def fX8_delete_14 (M : Mem) (a1 : Int32) (s0_14 : Int32) : Option (Int32 × Mem) := cnd (((mset M 475 26 s0_14) 475 26) ≤ (0 : Int32)) (chk (vp_in a1 24) (chk (vp_in a1 24) (some (((mset (mset M 475 26 s0_14) 480 a1.toNatClampNeg (vp_nar .boolean (0 : Int32))) 481 a1.toNatClampNeg), (mset (mset M 475 26 s0_14) 480 a1.toNatClampNeg (vp_nar .boolean (0 : Int32))))))) (some ((0 : Int32), (mset M 475 26 s0_14)))
noncomputable def fX8_delete (M : Mem) (a1 : Int32) : Option (Int32 × Mem) := bnd (fX8_isThere M a1) fun q3 => cnd (q3 = (0 : Int32)) (fX8_delete_14 M a1 (1 : Int32)) (fX8_delete_14 M a1 (0 : Int32))
abbrev rm_X8_delete : Room := { frames := 2, cells := 0, slots := 0, locals := 43 }
set_option maxRecDepth 100000 in
set_option maxHeartbeats 4000000 in
theorem c_X8_delete (l : Launch) (Γ : gx_G) (C M : Mem) (a1 : Int32) {y0 : (Int32 × Mem)} (hf : fX8_delete M a1 = some y0) : Met l yX8_delete (.code yX8_delete cX8_delete 2 (some .int) :: TsG) rm_X8_delete (va_Pc [.ref (Γ.1 475), .int a1] (gx_P Γ C M)) (gx_Qi Γ y0.1 C y0.2) 0 0 (gA Γ) := by
  refine gm_i (by decide) (Nat.le_of_ble_eq_true rfl) ?_
  intro p e s m args below meth c Q S hG hret ls H locs hl hW hS
  obtain ⟨hx, hb, hml, hown, hts⟩ := id S
  have hl : lv_has ls 2 [(0, .ref (Γ.1 475)), (1, .int a1)] := hl
  unfold fX8_delete at hf
  refine lv_aload_n hx hb dX8_delete_0 rfl (lv_at hl 0 rfl) ?_
  refine lv_aload_n hx hb dX8_delete_1 rfl (lv_at hl 0 rfl) ?_
  refine lv_iload_n hx hb dX8_delete_2 rfl (lv_at hl 1 rfl) ?_
  obtain ⟨q3, hq3, hf⟩ := bnd_e hf
  refine gk0_i hS (gv_run (rest := [.ref (Γ.1 475)]) S hG hW hS [.int a1] (c_X8_isThere l Γ C M a1 hq3) pk_X8_isThere ml_X8_119 (Nat.le_of_ble_eq_true rfl) rfl rfl rfl rfl ⟨Nat.le_of_ble_eq_true rfl, Nat.le_of_ble_eq_true rfl⟩ rfl hl.1 rfl (Nat.le_of_ble_eq_true rfl) dX8_delete_3 ⟨Nat.le_of_ble_eq_true rfl, Nat.le_of_ble_eq_true rfl⟩) (fun H locs hW hS => ?_)
  have J_14 : ∀ (s0_14 : Int32) , fX8_delete_14 M a1 s0_14 = some y0 → ∀ (H : Heap) (locs : List Loc) (ls : Array Slot), gx_W Γ C M H → va_S (gA Γ) s.heap H locs → lv_has ls 2 [(0, .ref (Γ.1 475)), (1, .int a1)] → W p l e rm_X8_delete s m args below meth c H locs 0 0 Q (F0 m 14 ls [.int s0_14, .ref (Γ.1 475)]) := by
    intro s0_14 hf H locs ls hW hS hl
    unfold fX8_delete_14 at hf
    refine put_X8_26 S hG hW hS fl_X8_77 dX8_delete_14 (fun H locs hW hS => ?_)
    refine lv_aload_n hx hb dX8_delete_17 rfl (lv_at hl 0 rfl) ?_
    refine get_X8_26 S hG hW fl_X8_77 dX8_delete_18 ?_
    refine lv_if_le (tgt := 26) hx hb dX8_delete_21 (by decide) (fun c21 => ?_) (fun c21 => ?_)
    · have hf := cn_t c21 hf
      refine lv_aload_n hx hb dX8_delete_26 rfl (lv_at hl 0 rfl) ?_
      refine get_X8_5 S hG hW fl_X8_22 dX8_delete_27 ?_
      refine lv_iload_n hx hb dX8_delete_30 rfl (lv_at hl 1 rfl) ?_
      refine lv_iconst (v := (0 : Int32)) hx hb dX8_delete_31 (by decide) ?_
      have g32 := ck_p hf
      have hf := ck_r hf
      refine ast_z S hG hW hS shk_480 lnk_480 g32 dX8_delete_32 (fun H locs hW hS => ?_)
      refine lv_aload_n hx hb dX8_delete_33 rfl (lv_at hl 0 rfl) ?_
      refine get_X8_6 S hG hW fl_X8_26 dX8_delete_34 ?_
      refine lv_iload_n hx hb dX8_delete_37 rfl (lv_at hl 1 rfl) ?_
      have g38 := ck_p hf
      have hf := ck_r hf
      refine ald_m S hG hW shk_481 lnk_481 g38 dX8_delete_38 ?_
      have e9 := Option.some.inj hf
      subst e9
      exact hret _ _ _ _ _ hW hS rfl rfl dX8_delete_39
    · have hf := cn_f c21 hf
      refine lv_iconst (v := (0 : Int32)) hx hb dX8_delete_24 (by decide) ?_
      have e9 := Option.some.inj hf
      subst e9
      exact hret _ _ _ _ _ hW hS rfl rfl dX8_delete_25
  refine lv_if_eq (tgt := 13) hx hb dX8_delete_6 (by decide) (fun c6 => ?_) (fun c6 => ?_)
  · have hf := cn_t c6 hf
    refine lv_iconst (v := (1 : Int32)) hx hb dX8_delete_13 (by decide) ?_
    exact J_14 (1 : Int32) hf H locs ls hW hS (lv_sub hl [0, 1] rfl)
  · have hf := cn_f c6 hf
    refine lv_iconst (v := (0 : Int32)) hx hb dX8_delete_9 (by decide) ?_
    refine lv_goto (tgt := 14) hx hb dX8_delete_10 (by decide) ?_
    exact J_14 (0 : Int32) hf H locs ls hW hS (lv_sub hl [0, 1] rfl)
noncomputable def fX8_files_34 (C_9 : Mem) (t_9 : (Int32 × Int32)) (s0_34 : Int32) (s1_34 : Int32) : Option ((Int32 × Int32) ⊕ (Int32 × Mem)) := nmv ((s1_34 ||| s0_34)) fun v35 => some (.inl (v35, (t_9.2 + (1 : Int32))))
noncomputable def fX8_files_9 (C_9 : Mem) : (Int32 × Int32) → Option ((Int32 × Int32) ⊕ (Int32 × Mem)) := fun t_9 => cnd ((C_9 475 2) ≤ t_9.2) (exR (some (t_9.1, C_9))) (chk (vp_in t_9.2 24) (cnd ((C_9 480 t_9.2.toNatClampNeg) = (0 : Int32)) (fX8_files_34 C_9 t_9 (0 : Int32) t_9.1) (fX8_files_34 C_9 t_9 ((1 : Int32) <<< (t_9.2 &&& 31)) t_9.1)))
noncomputable def fX8_files (M : Mem) : Option (Int32 × Mem) := lp (fX8_files_9 (mset M 475 26 (0 : Int32))) ((0 : Int32), (0 : Int32))
abbrev rm_X8_files : Room := { frames := 0, cells := 0, slots := 0, locals := 0 }
set_option maxRecDepth 100000 in
set_option maxHeartbeats 4000000 in
theorem c_X8_files (l : Launch) (Γ : gx_G) (C M : Mem)  {y0 : (Int32 × Mem)} (hf : fX8_files M = some y0) : Met l yX8_files (.code yX8_files cX8_files 3 (some .int) :: TsG) rm_X8_files (va_Pc [.ref (Γ.1 475)] (gx_P Γ C M)) (gx_Qi Γ y0.1 C y0.2) 0 0 (gA Γ) := by
  refine gm_i (by decide) (Nat.le_of_ble_eq_true rfl) ?_
  intro p e s m args below meth c Q S hG hret ls H locs hl hW hS
  obtain ⟨hx, hb, hml, hown, hts⟩ := id S
  have hl : lv_has ls 3 [(0, .ref (Γ.1 475))] := hl
  unfold fX8_files at hf
  refine lv_aload_n hx hb dX8_files_0 rfl (lv_at hl 0 rfl) ?_
  refine lv_iconst (v := (0 : Int32)) hx hb dX8_files_1 (by decide) ?_
  refine put_X8_26 S hG hW hS fl_X8_77 dX8_files_2 (fun H locs hW hS => ?_)
  refine lv_iconst (v := (0 : Int32)) hx hb dX8_files_5 (by decide) ?_
  refine lv_istore_n (lv' := [(1, .int (0 : Int32)), (0, .ref (Γ.1 475))]) hx hb dX8_files_6 rfl hl (by decide) rfl (fun ls hl => ?_)
  refine lv_iconst (v := (0 : Int32)) hx hb dX8_files_7 (by decide) ?_
  refine lv_istore_n (lv' := [(2, .int (0 : Int32)), (1, .int (0 : Int32)), (0, .ref (Γ.1 475))]) hx hb dX8_files_8 rfl hl (by decide) rfl (fun ls hl => ?_)
  have J_9 : ∀ (C_9 : Mem) (t_9 : Int32 × Int32), lp (fX8_files_9 C_9) t_9 = some y0 → ∀ (H : Heap) (locs : List Loc) (ls : Array Slot), gx_W Γ C C_9 H → va_S (gA Γ) s.heap H locs → lv_has ls 3 [(0, .ref (Γ.1 475)), (1, .int t_9.1), (2, .int t_9.2)] → W p l e rm_X8_files s m args below meth c H locs 0 0 Q (F0 m 9 ls []) := by
    intro C_9
    refine lp_ind (P := fun (t_9 : Int32 × Int32) => ∀ (H : Heap) (locs : List Loc) (ls : Array Slot), gx_W Γ C C_9 H → va_S (gA Γ) s.heap H locs → lv_has ls 3 [(0, .ref (Γ.1 475)), (1, .int t_9.1), (2, .int t_9.2)] → W p l e rm_X8_files s m args below meth c H locs 0 0 Q (F0 m 9 ls [])) ?_
    intro t_9 y1 hf kI1 kX1 H locs ls hW hS hl
    unfold fX8_files_9 at hf
    refine lv_iload_n hx hb dX8_files_9 rfl (lv_at hl 2 rfl) ?_
    refine lv_aload_n hx hb dX8_files_10 rfl (lv_at hl 0 rfl) ?_
    refine get_X8_2 S hG hW fl_X8_108 dX8_files_11 ?_
    refine lv_icmp_ge (tgt := 42) hx hb dX8_files_14 (by decide) (fun c14 => ?_) (fun c14 => ?_)
    · have hf := cn_t c14 hf
      obtain ⟨z14, hf, ez⟩ := exR_e hf
      rw [kX1 _ ez] at hf
      refine lv_iload_n hx hb dX8_files_42 rfl (lv_at hl 1 rfl) ?_
      have e9 := Option.some.inj hf
      subst e9
      exact hret _ _ _ _ _ hW hS rfl rfl dX8_files_43
    · have hf := cn_f c14 hf
      refine lv_iload_n hx hb dX8_files_17 rfl (lv_at hl 1 rfl) ?_
      refine lv_aload_n hx hb dX8_files_18 rfl (lv_at hl 0 rfl) ?_
      refine get_X8_5 S hG hW fl_X8_22 dX8_files_19 ?_
      refine lv_iload_n hx hb dX8_files_22 rfl (lv_at hl 2 rfl) ?_
      have g23 := ck_p hf
      have hf := ck_r hf
      refine ald_z S hG hW shk_480 lnk_480 g23 dX8_files_23 ?_
      have J_34 : ∀ (s0_34 : Int32) (s1_34 : Int32) , fX8_files_34 C_9 t_9 s0_34 s1_34 = some y1 → ∀ (H : Heap) (locs : List Loc) (ls : Array Slot), gx_W Γ C C_9 H → va_S (gA Γ) s.heap H locs → lv_has ls 3 [(0, .ref (Γ.1 475)), (2, .int t_9.2)] → W p l e rm_X8_files s m args below meth c H locs 0 0 Q (F0 m 34 ls [.int s0_34, .int s1_34]) := by
        intro s0_34 s1_34 hf H locs ls hW hS hl
        unfold fX8_files_34 at hf
        refine lv_ior hx hb dX8_files_34 ?_
        refine lv_topi (fun v35 ev35 => ?_)
        have hf := nm_v ev35 hf
        refine lv_istore_n (lv' := [(1, .int v35), (0, .ref (Γ.1 475)), (2, .int t_9.2)]) hx hb dX8_files_35 rfl hl (by decide) rfl (fun ls hl => ?_)
        refine lv_iinc (v := (t_9.2 + (1 : Int32))) (lv' := [(2, .int (t_9.2 + (1 : Int32))), (1, .int v35), (0, .ref (Γ.1 475))]) hx hb dX8_files_36 hl (k := 2) rfl rfl (by decide) rfl (fun ls hl => ?_)
        refine lv_goto (tgt := 9) hx hb dX8_files_39 (by decide) ?_
        exact kI1 _ (Option.some.inj hf).symm H locs ls hW hS (lv_sub hl [2, 1, 0] rfl)
      refine lv_if_eq (tgt := 33) hx hb dX8_files_24 (by decide) (fun c24 => ?_) (fun c24 => ?_)
      · have hf := cn_t c24 hf
        refine lv_iconst (v := (0 : Int32)) hx hb dX8_files_33 (by decide) ?_
        exact J_34 (0 : Int32) t_9.1 hf H locs ls hW hS (lv_sub hl [0, 2] rfl)
      · have hf := cn_f c24 hf
        refine lv_iconst (v := (1 : Int32)) hx hb dX8_files_27 (by decide) ?_
        refine lv_iload_n hx hb dX8_files_28 rfl (lv_at hl 2 rfl) ?_
        refine lv_ishl hx hb dX8_files_29 ?_
        refine lv_goto (tgt := 34) hx hb dX8_files_30 (by decide) ?_
        exact J_34 ((1 : Int32) <<< (t_9.2 &&& 31)) t_9.1 hf H locs ls hW hS (lv_sub hl [0, 2] rfl)
  exact J_9 (mset M 475 26 (0 : Int32)) ((0 : Int32), (0 : Int32)) hf H locs ls hW hS (lv_sub hl [2, 1, 0] rfl)
noncomputable def fX8_pathAt_14 (M : Mem) : Option Int32 := some (47 : Int32)
noncomputable def fX8_pathAt (M : Mem) (a1 : Int32) (a2 : Int32) : Option Int32 := cnd (a2 < (0 : Int32)) (fX8_pathAt_14 M) (chk (vp_in a1 24) (cnd (a2 < (M 479 a1.toNatClampNeg)) (chk (vp_in (((24 : Int32) * a1) + a2) 576) (some (M 478 (((24 : Int32) * a1) + a2).toNatClampNeg))) (fX8_pathAt_14 M)))
abbrev rm_X8_pathAt : Room := { frames := 0, cells := 0, slots := 0, locals := 0 }
set_option maxRecDepth 100000 in
set_option maxHeartbeats 4000000 in
theorem c_X8_pathAt (l : Launch) (Γ : gx_G) (C M : Mem) (a1 : Int32) (a2 : Int32) {y0 : Int32} (hf : fX8_pathAt M a1 a2 = some y0) : Met l yX8_pathAt (.code yX8_pathAt cX8_pathAt 3 (some .int) :: TsG) rm_X8_pathAt (va_Pc [.ref (Γ.1 475), .int a1, .int a2] (gx_P Γ C M)) (gx_Qi Γ y0 C M) 0 0 (gA Γ) := by
  refine gm_i (by decide) (Nat.le_of_ble_eq_true rfl) ?_
  intro p e s m args below meth c Q S hG hret ls H locs hl hW hS
  obtain ⟨hx, hb, hml, hown, hts⟩ := id S
  have hl : lv_has ls 3 [(0, .ref (Γ.1 475)), (1, .int a1), (2, .int a2)] := hl
  unfold fX8_pathAt at hf
  refine lv_iload_n hx hb dX8_pathAt_0 rfl (lv_at hl 2 rfl) ?_
  have J_14 : fX8_pathAt_14 M = some y0 → ∀ (H : Heap) (locs : List Loc) (ls : Array Slot), gx_W Γ C M H → va_S (gA Γ) s.heap H locs → lv_has ls 3 [] → W p l e rm_X8_pathAt s m args below meth c H locs 0 0 Q (F0 m 14 ls []) := by
    intro  hf H locs ls hW hS hl
    unfold fX8_pathAt_14 at hf
    refine lv_bipush (v := (47 : Int32)) hx hb dX8_pathAt_14 (by decide) ?_
    refine lv_goto (tgt := 30) hx hb dX8_pathAt_16 (by decide) ?_
    exact hret _ _ _ _ _ hW hS rfl (Option.some.inj hf) dX8_pathAt_30
  refine lv_if_lt (tgt := 14) hx hb dX8_pathAt_1 (by decide) (fun c1 => ?_) (fun c1 => ?_)
  · have hf := cn_t c1 hf
    exact J_14  hf H locs ls hW hS (lv_sub hl [] rfl)
  · have hf := cn_f c1 hf
    refine lv_iload_n hx hb dX8_pathAt_4 rfl (lv_at hl 2 rfl) ?_
    refine lv_aload_n hx hb dX8_pathAt_5 rfl (lv_at hl 0 rfl) ?_
    refine get_X8_4 S hG hW fl_X8_19 dX8_pathAt_6 ?_
    refine lv_iload_n hx hb dX8_pathAt_9 rfl (lv_at hl 1 rfl) ?_
    have g10 := ck_p hf
    have hf := ck_r hf
    refine ald_m S hG hW shk_479 lnk_479 g10 dX8_pathAt_10 ?_
    refine lv_icmp_lt (tgt := 19) hx hb dX8_pathAt_11 (by decide) (fun c11 => ?_) (fun c11 => ?_)
    · have hf := cn_t c11 hf
      refine lv_aload_n hx hb dX8_pathAt_19 rfl (lv_at hl 0 rfl) ?_
      refine get_X8_3 S hG hW fl_X8_16 dX8_pathAt_20 ?_
      refine lv_bipush (v := (24 : Int32)) hx hb dX8_pathAt_23 (by decide) ?_
      refine lv_iload_n hx hb dX8_pathAt_25 rfl (lv_at hl 1 rfl) ?_
      refine lv_imul hx hb dX8_pathAt_26 ?_
      refine lv_iload_n hx hb dX8_pathAt_27 rfl (lv_at hl 2 rfl) ?_
      refine lv_iadd hx hb dX8_pathAt_28 ?_
      have g29 := ck_p hf
      have hf := ck_r hf
      refine ald_m S hG hW shk_478 lnk_478 g29 dX8_pathAt_29 ?_
      exact hret _ _ _ _ _ hW hS rfl (Option.some.inj hf) dX8_pathAt_30
    · have hf := cn_f c11 hf
      exact J_14  hf H locs ls hW hS (lv_sub hl [] rfl)
noncomputable def fX8_endOf_2 (M : Mem) (a1 : Int32) : (Int32) → Option ((Int32) ⊕ Int32) := fun t_2 => bnd (fX8_pathAt M a1 t_2) fun q5 => cnd (q5 = (47 : Int32)) (exR (some t_2)) (some (.inl (t_2 + (1 : Int32))))
noncomputable def fX8_endOf (M : Mem) (a1 : Int32) (a2 : Int32) : Option Int32 := lp (fX8_endOf_2 M a1) a2
abbrev rm_X8_endOf : Room := { frames := 1, cells := 0, slots := 0, locals := 22 }
set_option maxRecDepth 100000 in
set_option maxHeartbeats 4000000 in
theorem c_X8_endOf (l : Launch) (Γ : gx_G) (C M : Mem) (a1 : Int32) (a2 : Int32) {y0 : Int32} (hf : fX8_endOf M a1 a2 = some y0) : Met l yX8_endOf (.code yX8_endOf cX8_endOf 4 (some .int) :: TsG) rm_X8_endOf (va_Pc [.ref (Γ.1 475), .int a1, .int a2] (gx_P Γ C M)) (gx_Qi Γ y0 C M) 0 0 (gA Γ) := by
  refine gm_i (by decide) (Nat.le_of_ble_eq_true rfl) ?_
  intro p e s m args below meth c Q S hG hret ls H locs hl hW hS
  obtain ⟨hx, hb, hml, hown, hts⟩ := id S
  have hl : lv_has ls 4 [(0, .ref (Γ.1 475)), (1, .int a1), (2, .int a2)] := hl
  unfold fX8_endOf at hf
  refine lv_iload_n hx hb dX8_endOf_0 rfl (lv_at hl 2 rfl) ?_
  refine lv_istore_n (lv' := [(3, .int a2), (0, .ref (Γ.1 475)), (1, .int a1), (2, .int a2)]) hx hb dX8_endOf_1 rfl hl (by decide) rfl (fun ls hl => ?_)
  have J_2 : ∀  (t_2 : Int32), lp (fX8_endOf_2 M a1) t_2 = some y0 → ∀ (H : Heap) (locs : List Loc) (ls : Array Slot), gx_W Γ C M H → va_S (gA Γ) s.heap H locs → lv_has ls 4 [(0, .ref (Γ.1 475)), (1, .int a1), (3, .int t_2)] → W p l e rm_X8_endOf s m args below meth c H locs 0 0 Q (F0 m 2 ls []) := by
    refine lp_ind (P := fun (t_2 : Int32) => ∀ (H : Heap) (locs : List Loc) (ls : Array Slot), gx_W Γ C M H → va_S (gA Γ) s.heap H locs → lv_has ls 4 [(0, .ref (Γ.1 475)), (1, .int a1), (3, .int t_2)] → W p l e rm_X8_endOf s m args below meth c H locs 0 0 Q (F0 m 2 ls [])) ?_
    intro t_2 y1 hf kI1 kX1 H locs ls hW hS hl
    unfold fX8_endOf_2 at hf
    refine lv_aload_n hx hb dX8_endOf_2 rfl (lv_at hl 0 rfl) ?_
    refine lv_iload_n hx hb dX8_endOf_3 rfl (lv_at hl 1 rfl) ?_
    refine lv_iload_n hx hb dX8_endOf_4 rfl (lv_at hl 2 rfl) ?_
    obtain ⟨q5, hq5, hf⟩ := bnd_e hf
    refine gk0_i hS (gv_run (rest := []) S hG hW hS [.int a1, .int t_2] (c_X8_pathAt l Γ C M a1 t_2 hq5) pk_X8_pathAt ml_X8_95 (Nat.le_of_ble_eq_true rfl) rfl rfl rfl rfl ⟨Nat.le_of_ble_eq_true rfl, Nat.le_of_ble_eq_true rfl⟩ rfl hl.1 rfl (Nat.le_of_ble_eq_true rfl) dX8_endOf_5 ⟨Nat.le_of_ble_eq_true rfl, Nat.le_of_ble_eq_true rfl⟩) (fun H locs hW hS => ?_)
    refine lv_bipush (v := (47 : Int32)) hx hb dX8_endOf_8 (by decide) ?_
    refine lv_icmp_eq (tgt := 19) hx hb dX8_endOf_10 (by decide) (fun c10 => ?_) (fun c10 => ?_)
    · have hf := cn_t c10 hf
      obtain ⟨z10, hf, ez⟩ := exR_e hf
      rw [kX1 _ ez] at hf
      refine lv_iload_n hx hb dX8_endOf_19 rfl (lv_at hl 2 rfl) ?_
      exact hret _ _ _ _ _ hW hS rfl (Option.some.inj hf) dX8_endOf_20
    · have hf := cn_f c10 hf
      refine lv_iinc (v := (t_2 + (1 : Int32))) (lv' := [(3, .int (t_2 + (1 : Int32))), (0, .ref (Γ.1 475)), (1, .int a1)]) hx hb dX8_endOf_13 hl (k := 2) rfl rfl (by decide) rfl (fun ls hl => ?_)
      refine lv_goto (tgt := 2) hx hb dX8_endOf_16 (by decide) ?_
      exact kI1 _ (Option.some.inj hf).symm H locs ls hW hS (lv_sub hl [1, 2, 0] rfl)
  exact J_2 a2 hf H locs ls hW hS (lv_sub hl [1, 2, 0] rfl)
noncomputable def fX8_isLaid_156 (M : Mem) (a5 : Int32) (a6 : Int32) (t_19 : (Int32 × Int32)) : Option Int32 := cnd (((t_19.1 >>> ((a6 - a5) &&& 31)) &&& (1 : Int32)) = (1 : Int32)) (some (1 : Int32)) (some (0 : Int32))
noncomputable def fX8_isLaid_146 (M : Mem) (a1 : Int32) (a3 : Int32) (a4 : Int32) (a5 : Int32) (a6 : Int32) (t_19 : (Int32 × Int32)) (t_40 : (Int32 × Int32)) (v14 : Int32) : Option ((Int32 × Int32) ⊕ Int32) := some (.inl (t_40.1, (t_19.2 + (1 : Int32))))
noncomputable def fX8_isLaid_140 (M : Mem) (a1 : Int32) (a3 : Int32) (a4 : Int32) (a5 : Int32) (a6 : Int32) (q29 : Int32) (t_19 : (Int32 × Int32)) (t_40 : (Int32 × Int32)) (v14 : Int32) (x11_140 : Int32) : Option ((Int32 × Int32) ⊕ ((Int32 × Int32) ⊕ Int32)) := some (.inl (x11_140, (t_40.2 + (1 : Int32))))
noncomputable def fX8_isLaid_137 (M : Mem) (a1 : Int32) (a3 : Int32) (a4 : Int32) (a5 : Int32) (a6 : Int32) (q29 : Int32) (t_19 : (Int32 × Int32)) (t_40 : (Int32 × Int32)) (v14 : Int32) (s0_137 : Int32) (s1_137 : Int32) : Option ((Int32 × Int32) ⊕ ((Int32 × Int32) ⊕ Int32)) := nmv ((s1_137 ||| s0_137)) fun v138 => fX8_isLaid_140 M a1 a3 a4 a5 a6 q29 t_19 t_40 v14 v138
noncomputable def fX8_isLaid_99 (M : Mem) (a1 : Int32) (a3 : Int32) (a4 : Int32) (a5 : Int32) (a6 : Int32) (q29 : Int32) (t_19 : (Int32 × Int32)) (t_40 : (Int32 × Int32)) (v14 : Int32) (s0_99 : Int32) : Option ((Int32 × Int32) ⊕ ((Int32 × Int32) ⊕ Int32)) := cnd (q29 = (42 : Int32)) (fX8_isLaid_137 M a1 a3 a4 a5 a6 q29 t_19 t_40 v14 (v14 &&& ((((1 : Int32) <<< (t_40.2 &&& 31)) - (1 : Int32)) ^^^ (-1 : Int32))) t_40.1) (cnd (s0_99 = (0 : Int32)) (fX8_isLaid_137 M a1 a3 a4 a5 a6 q29 t_19 t_40 v14 (0 : Int32) t_40.1) (fX8_isLaid_137 M a1 a3 a4 a5 a6 q29 t_19 t_40 v14 ((2 : Int32) <<< (t_40.2 &&& 31)) t_40.1))
noncomputable def fX8_isLaid_98 (M : Mem) (a1 : Int32) (a3 : Int32) (a4 : Int32) (a5 : Int32) (a6 : Int32) (q29 : Int32) (t_19 : (Int32 × Int32)) (t_40 : (Int32 × Int32)) (v14 : Int32) : Option ((Int32 × Int32) ⊕ ((Int32 × Int32) ⊕ Int32)) := fX8_isLaid_99 M a1 a3 a4 a5 a6 q29 t_19 t_40 v14 (0 : Int32)
noncomputable def fX8_isLaid_94 (M : Mem) (a1 : Int32) (a3 : Int32) (a4 : Int32) (a5 : Int32) (a6 : Int32) (q29 : Int32) (t_19 : (Int32 × Int32)) (t_40 : (Int32 × Int32)) (v14 : Int32) : Option ((Int32 × Int32) ⊕ ((Int32 × Int32) ⊕ Int32)) := fX8_isLaid_99 M a1 a3 a4 a5 a6 q29 t_19 t_40 v14 (1 : Int32)
noncomputable def fX8_isLaid_40 (M : Mem) (a1 : Int32) (a3 : Int32) (a4 : Int32) (a5 : Int32) (a6 : Int32) (q29 : Int32) (t_19 : (Int32 × Int32)) (v14 : Int32) : (Int32 × Int32) → Option ((Int32 × Int32) ⊕ ((Int32 × Int32) ⊕ Int32)) := fun t_40 => cnd ((a6 - a5) < t_40.2) (exR (fX8_isLaid_146 M a1 a3 a4 a5 a6 t_19 t_40 v14)) (cnd (((t_19.1 >>> (t_40.2 &&& 31)) &&& (1 : Int32)) = (1 : Int32)) (cnd ((a6 - a5) ≤ t_40.2) (fX8_isLaid_98 M a1 a3 a4 a5 a6 q29 t_19 t_40 v14) (cnd (q29 = (63 : Int32)) (fX8_isLaid_94 M a1 a3 a4 a5 a6 q29 t_19 t_40 v14) (bnd (fX8_pathAt M a4 (a5 + t_40.2)) fun q88 => cnd (q29 = q88) (fX8_isLaid_94 M a1 a3 a4 a5 a6 q29 t_19 t_40 v14) (fX8_isLaid_98 M a1 a3 a4 a5 a6 q29 t_19 t_40 v14)))) (fX8_isLaid_140 M a1 a3 a4 a5 a6 q29 t_19 t_40 v14 t_40.1))
noncomputable def fX8_isLaid_19 (M : Mem) (a1 : Int32) (a3 : Int32) (a4 : Int32) (a5 : Int32) (a6 : Int32) (v14 : Int32) : (Int32 × Int32) → Option ((Int32 × Int32) ⊕ Int32) := fun t_19 => cnd (a3 ≤ t_19.2) (exR (fX8_isLaid_156 M a5 a6 t_19)) (bnd (fX8_at M a1 t_19.2) fun q29 => lp (fX8_isLaid_40 M a1 a3 a4 a5 a6 q29 t_19 v14) ((0 : Int32), (0 : Int32)))
noncomputable def fX8_isLaid (M : Mem) (a1 : Int32) (a2 : Int32) (a3 : Int32) (a4 : Int32) (a5 : Int32) (a6 : Int32) : Option Int32 := nmv ((((1 : Int32) <<< (((a6 - a5) + (1 : Int32)) &&& 31)) - (1 : Int32))) fun v14 => lp (fX8_isLaid_19 M a1 a3 a4 a5 a6 v14) ((1 : Int32), a2)
abbrev rm_X8_isLaid : Room := { frames := 1, cells := 0, slots := 0, locals := 22 }
set_option maxRecDepth 100000 in
set_option maxHeartbeats 4000000 in
theorem c_X8_isLaid (l : Launch) (Γ : gx_G) (C M : Mem) (a1 : Int32) (a2 : Int32) (a3 : Int32) (a4 : Int32) (a5 : Int32) (a6 : Int32) {y0 : Int32} (hf : fX8_isLaid M a1 a2 a3 a4 a5 a6 = some y0) : Met l yX8_isLaid (.code yX8_isLaid cX8_isLaid 14 (some .boolean) :: TsG) rm_X8_isLaid (va_Pc [.ref (Γ.1 475), .int a1, .int a2, .int a3, .int a4, .int a5, .int a6] (gx_P Γ C M)) (gx_Qi Γ y0 C M) 0 0 (gA Γ) := by
  refine gm_i (by decide) (Nat.le_of_ble_eq_true rfl) ?_
  intro p e s m args below meth c Q S hG hret ls H locs hl hW hS
  obtain ⟨hx, hb, hml, hown, hts⟩ := id S
  have hl : lv_has ls 14 [(0, .ref (Γ.1 475)), (1, .int a1), (2, .int a2), (3, .int a3), (4, .int a4), (5, .int a5), (6, .int a6)] := hl
  unfold fX8_isLaid at hf
  refine lv_iconst (v := (1 : Int32)) hx hb dX8_isLaid_0 (by decide) ?_
  refine lv_istore (lv' := [(7, .int (1 : Int32)), (0, .ref (Γ.1 475)), (1, .int a1), (2, .int a2), (3, .int a3), (4, .int a4), (5, .int a5), (6, .int a6)]) hx hb dX8_isLaid_1 hl (by decide) rfl (fun ls hl => ?_)
  refine lv_iconst (v := (1 : Int32)) hx hb dX8_isLaid_3 (by decide) ?_
  refine lv_iload hx hb dX8_isLaid_4 (lv_at hl 7 rfl) ?_
  refine lv_iload hx hb dX8_isLaid_6 (lv_at hl 6 rfl) ?_
  refine lv_isub hx hb dX8_isLaid_8 ?_
  refine lv_iconst (v := (1 : Int32)) hx hb dX8_isLaid_9 (by decide) ?_
  refine lv_iadd hx hb dX8_isLaid_10 ?_
  refine lv_ishl hx hb dX8_isLaid_11 ?_
  refine lv_iconst (v := (1 : Int32)) hx hb dX8_isLaid_12 (by decide) ?_
  refine lv_isub hx hb dX8_isLaid_13 ?_
  refine lv_topi (fun v14 ev14 => ?_)
  have hf := nm_v ev14 hf
  refine lv_istore (lv' := [(8, .int v14), (7, .int (1 : Int32)), (0, .ref (Γ.1 475)), (1, .int a1), (2, .int a2), (3, .int a3), (4, .int a4), (5, .int a5), (6, .int a6)]) hx hb dX8_isLaid_14 hl (by decide) rfl (fun ls hl => ?_)
  refine lv_iload_n hx hb dX8_isLaid_16 rfl (lv_at hl 4 rfl) ?_
  refine lv_istore (lv' := [(9, .int a2), (8, .int v14), (7, .int (1 : Int32)), (0, .ref (Γ.1 475)), (1, .int a1), (2, .int a2), (3, .int a3), (4, .int a4), (5, .int a5), (6, .int a6)]) hx hb dX8_isLaid_17 hl (by decide) rfl (fun ls hl => ?_)
  have J_19 : ∀  (t_19 : Int32 × Int32), lp (fX8_isLaid_19 M a1 a3 a4 a5 a6 v14) t_19 = some y0 → ∀ (H : Heap) (locs : List Loc) (ls : Array Slot), gx_W Γ C M H → va_S (gA Γ) s.heap H locs → lv_has ls 14 [(0, .ref (Γ.1 475)), (1, .int a1), (3, .int a3), (4, .int a4), (5, .int a5), (6, .int a6), (7, .int t_19.1), (8, .int v14), (9, .int t_19.2)] → W p l e rm_X8_isLaid s m args below meth c H locs 0 0 Q (F0 m 19 ls []) := by
    refine lp_ind (P := fun (t_19 : Int32 × Int32) => ∀ (H : Heap) (locs : List Loc) (ls : Array Slot), gx_W Γ C M H → va_S (gA Γ) s.heap H locs → lv_has ls 14 [(0, .ref (Γ.1 475)), (1, .int a1), (3, .int a3), (4, .int a4), (5, .int a5), (6, .int a6), (7, .int t_19.1), (8, .int v14), (9, .int t_19.2)] → W p l e rm_X8_isLaid s m args below meth c H locs 0 0 Q (F0 m 19 ls [])) ?_
    intro t_19 y1 hf kI1 kX1 H locs ls hW hS hl
    unfold fX8_isLaid_19 at hf
    refine lv_iload hx hb dX8_isLaid_19 (lv_at hl 8 rfl) ?_
    refine lv_iload_n hx hb dX8_isLaid_21 rfl (lv_at hl 2 rfl) ?_
    have J_156 : fX8_isLaid_156 M a5 a6 t_19 = some y0 → ∀ (H : Heap) (locs : List Loc) (ls : Array Slot), gx_W Γ C M H → va_S (gA Γ) s.heap H locs → lv_has ls 14 [(5, .int a5), (6, .int a6), (7, .int t_19.1)] → W p l e rm_X8_isLaid s m args below meth c H locs 0 0 Q (F0 m 156 ls []) := by
      intro  hf H locs ls hW hS hl
      unfold fX8_isLaid_156 at hf
      refine lv_iload hx hb dX8_isLaid_156 (lv_at hl 2 rfl) ?_
      refine lv_iload hx hb dX8_isLaid_158 (lv_at hl 1 rfl) ?_
      refine lv_iload hx hb dX8_isLaid_160 (lv_at hl 0 rfl) ?_
      refine lv_isub hx hb dX8_isLaid_162 ?_
      refine lv_ishr hx hb dX8_isLaid_163 ?_
      refine lv_iconst (v := (1 : Int32)) hx hb dX8_isLaid_164 (by decide) ?_
      refine lv_iand hx hb dX8_isLaid_165 ?_
      refine lv_iconst (v := (1 : Int32)) hx hb dX8_isLaid_166 (by decide) ?_
      refine lv_icmp_ne (tgt := 174) hx hb dX8_isLaid_167 (by decide) (fun c167 => ?_) (fun c167 => ?_)
      · have hf := cn_f c167 hf
        refine lv_iconst (v := (0 : Int32)) hx hb dX8_isLaid_174 (by decide) ?_
        exact hret _ _ _ _ _ hW hS rfl (Option.some.inj hf) dX8_isLaid_175
      · have hf := cn_t c167 hf
        refine lv_iconst (v := (1 : Int32)) hx hb dX8_isLaid_170 (by decide) ?_
        refine lv_goto (tgt := 175) hx hb dX8_isLaid_171 (by decide) ?_
        exact hret _ _ _ _ _ hW hS rfl (Option.some.inj hf) dX8_isLaid_175
    refine lv_icmp_ge (tgt := 156) hx hb dX8_isLaid_22 (by decide) (fun c22 => ?_) (fun c22 => ?_)
    · have hf := cn_t c22 hf
      obtain ⟨z22, hf, ez⟩ := exR_e hf
      rw [kX1 _ ez] at hf
      exact J_156  hf H locs ls hW hS (lv_sub hl [4, 5, 6] rfl)
    · have hf := cn_f c22 hf
      refine lv_aload_n hx hb dX8_isLaid_25 rfl (lv_at hl 0 rfl) ?_
      refine lv_iload_n hx hb dX8_isLaid_26 rfl (lv_at hl 1 rfl) ?_
      refine lv_iload hx hb dX8_isLaid_27 (lv_at hl 8 rfl) ?_
      obtain ⟨q29, hq29, hf⟩ := bnd_e hf
      refine gk0_i hS (gv_run (rest := []) S hG hW hS [.int a1, .int t_19.2] (c_X8_at l Γ C M a1 t_19.2 hq29) pk_X8_at ml_X8_81 (Nat.le_of_ble_eq_true rfl) rfl rfl rfl rfl ⟨Nat.le_of_ble_eq_true rfl, Nat.le_of_ble_eq_true rfl⟩ rfl hl.1 rfl (Nat.le_of_ble_eq_true rfl) dX8_isLaid_29 ⟨Nat.le_of_ble_eq_true rfl, Nat.le_of_ble_eq_true rfl⟩) (fun H locs hW hS => ?_)
      refine lv_istore (lv' := [(10, .int q29), (0, .ref (Γ.1 475)), (1, .int a1), (3, .int a3), (4, .int a4), (5, .int a5), (6, .int a6), (7, .int t_19.1), (8, .int v14), (9, .int t_19.2)]) hx hb dX8_isLaid_32 hl (by decide) rfl (fun ls hl => ?_)
      refine lv_iconst (v := (0 : Int32)) hx hb dX8_isLaid_34 (by decide) ?_
      refine lv_istore (lv' := [(11, .int (0 : Int32)), (10, .int q29), (0, .ref (Γ.1 475)), (1, .int a1), (3, .int a3), (4, .int a4), (5, .int a5), (6, .int a6), (7, .int t_19.1), (8, .int v14), (9, .int t_19.2)]) hx hb dX8_isLaid_35 hl (by decide) rfl (fun ls hl => ?_)
      refine lv_iconst (v := (0 : Int32)) hx hb dX8_isLaid_37 (by decide) ?_
      refine lv_istore (lv' := [(12, .int (0 : Int32)), (11, .int (0 : Int32)), (10, .int q29), (0, .ref (Γ.1 475)), (1, .int a1), (3, .int a3), (4, .int a4), (5, .int a5), (6, .int a6), (7, .int t_19.1), (8, .int v14), (9, .int t_19.2)]) hx hb dX8_isLaid_38 hl (by decide) rfl (fun ls hl => ?_)
      have J_40 : ∀  (t_40 : Int32 × Int32), lp (fX8_isLaid_40 M a1 a3 a4 a5 a6 q29 t_19 v14) t_40 = some y1 → ∀ (H : Heap) (locs : List Loc) (ls : Array Slot), gx_W Γ C M H → va_S (gA Γ) s.heap H locs → lv_has ls 14 [(0, .ref (Γ.1 475)), (1, .int a1), (3, .int a3), (4, .int a4), (5, .int a5), (6, .int a6), (7, .int t_19.1), (8, .int v14), (9, .int t_19.2), (10, .int q29), (11, .int t_40.1), (12, .int t_40.2)] → W p l e rm_X8_isLaid s m args below meth c H locs 0 0 Q (F0 m 40 ls []) := by
        refine lp_ind (P := fun (t_40 : Int32 × Int32) => ∀ (H : Heap) (locs : List Loc) (ls : Array Slot), gx_W Γ C M H → va_S (gA Γ) s.heap H locs → lv_has ls 14 [(0, .ref (Γ.1 475)), (1, .int a1), (3, .int a3), (4, .int a4), (5, .int a5), (6, .int a6), (7, .int t_19.1), (8, .int v14), (9, .int t_19.2), (10, .int q29), (11, .int t_40.1), (12, .int t_40.2)] → W p l e rm_X8_isLaid s m args below meth c H locs 0 0 Q (F0 m 40 ls [])) ?_
        intro t_40 y2 hf kI2 kX2 H locs ls hW hS hl
        unfold fX8_isLaid_40 at hf
        refine lv_iload hx hb dX8_isLaid_40 (lv_at hl 11 rfl) ?_
        refine lv_iload hx hb dX8_isLaid_42 (lv_at hl 5 rfl) ?_
        refine lv_iload hx hb dX8_isLaid_44 (lv_at hl 4 rfl) ?_
        refine lv_isub hx hb dX8_isLaid_46 ?_
        have J_146 : fX8_isLaid_146 M a1 a3 a4 a5 a6 t_19 t_40 v14 = some y1 → ∀ (H : Heap) (locs : List Loc) (ls : Array Slot), gx_W Γ C M H → va_S (gA Γ) s.heap H locs → lv_has ls 14 [(0, .ref (Γ.1 475)), (1, .int a1), (3, .int a3), (4, .int a4), (5, .int a5), (6, .int a6), (8, .int v14), (9, .int t_19.2), (11, .int t_40.1)] → W p l e rm_X8_isLaid s m args below meth c H locs 0 0 Q (F0 m 146 ls []) := by
          intro  hf H locs ls hW hS hl
          unfold fX8_isLaid_146 at hf
          refine lv_iload hx hb dX8_isLaid_146 (lv_at hl 8 rfl) ?_
          refine lv_istore (lv' := [(7, .int t_40.1), (0, .ref (Γ.1 475)), (1, .int a1), (3, .int a3), (4, .int a4), (5, .int a5), (6, .int a6), (8, .int v14), (9, .int t_19.2), (11, .int t_40.1)]) hx hb dX8_isLaid_148 hl (by decide) rfl (fun ls hl => ?_)
          refine lv_iinc (v := (t_19.2 + (1 : Int32))) (lv' := [(9, .int (t_19.2 + (1 : Int32))), (7, .int t_40.1), (0, .ref (Γ.1 475)), (1, .int a1), (3, .int a3), (4, .int a4), (5, .int a5), (6, .int a6), (8, .int v14), (11, .int t_40.1)]) hx hb dX8_isLaid_150 hl (k := 8) rfl rfl (by decide) rfl (fun ls hl => ?_)
          refine lv_goto (tgt := 19) hx hb dX8_isLaid_153 (by decide) ?_
          exact kI1 _ (Option.some.inj hf).symm H locs ls hW hS (lv_sub hl [2, 3, 4, 5, 6, 7, 1, 8, 0] rfl)
        refine lv_icmp_gt (tgt := 146) hx hb dX8_isLaid_47 (by decide) (fun c47 => ?_) (fun c47 => ?_)
        · have hf := cn_t c47 hf
          obtain ⟨z47, hf, ez⟩ := exR_e hf
          rw [kX2 _ ez] at hf
          exact J_146  hf H locs ls hW hS (lv_sub hl [0, 1, 2, 3, 4, 5, 7, 8, 10] rfl)
        · have hf := cn_f c47 hf
          refine lv_iload hx hb dX8_isLaid_50 (lv_at hl 6 rfl) ?_
          refine lv_iload hx hb dX8_isLaid_52 (lv_at hl 11 rfl) ?_
          refine lv_ishr hx hb dX8_isLaid_54 ?_
          refine lv_iconst (v := (1 : Int32)) hx hb dX8_isLaid_55 (by decide) ?_
          refine lv_iand hx hb dX8_isLaid_56 ?_
          refine lv_iconst (v := (1 : Int32)) hx hb dX8_isLaid_57 (by decide) ?_
          have J_140 : ∀ (x11_140 : Int32) , fX8_isLaid_140 M a1 a3 a4 a5 a6 q29 t_19 t_40 v14 x11_140 = some y2 → ∀ (H : Heap) (locs : List Loc) (ls : Array Slot), gx_W Γ C M H → va_S (gA Γ) s.heap H locs → lv_has ls 14 [(0, .ref (Γ.1 475)), (1, .int a1), (3, .int a3), (4, .int a4), (5, .int a5), (6, .int a6), (7, .int t_19.1), (8, .int v14), (9, .int t_19.2), (10, .int q29), (11, .int x11_140), (12, .int t_40.2)] → W p l e rm_X8_isLaid s m args below meth c H locs 0 0 Q (F0 m 140 ls []) := by
            intro x11_140 hf H locs ls hW hS hl
            unfold fX8_isLaid_140 at hf
            refine lv_iinc (v := (t_40.2 + (1 : Int32))) (lv' := [(12, .int (t_40.2 + (1 : Int32))), (0, .ref (Γ.1 475)), (1, .int a1), (3, .int a3), (4, .int a4), (5, .int a5), (6, .int a6), (7, .int t_19.1), (8, .int v14), (9, .int t_19.2), (10, .int q29), (11, .int x11_140)]) hx hb dX8_isLaid_140 hl (k := 11) rfl rfl (by decide) rfl (fun ls hl => ?_)
            refine lv_goto (tgt := 40) hx hb dX8_isLaid_143 (by decide) ?_
            exact kI2 _ (Option.some.inj hf).symm H locs ls hW hS (lv_sub hl [1, 2, 3, 4, 5, 6, 7, 8, 9, 10, 11, 0] rfl)
          refine lv_icmp_ne (tgt := 140) hx hb dX8_isLaid_58 (by decide) (fun c58 => ?_) (fun c58 => ?_)
          · have hf := cn_f c58 hf
            exact J_140 t_40.1 hf H locs ls hW hS (lv_sub hl [0, 1, 2, 3, 4, 5, 6, 7, 8, 9, 10, 11] rfl)
          · have hf := cn_t c58 hf
            refine lv_iload hx hb dX8_isLaid_61 (lv_at hl 11 rfl) ?_
            refine lv_iload hx hb dX8_isLaid_63 (lv_at hl 5 rfl) ?_
            refine lv_iload hx hb dX8_isLaid_65 (lv_at hl 4 rfl) ?_
            refine lv_isub hx hb dX8_isLaid_67 ?_
            have J_99 : ∀ (s0_99 : Int32) , fX8_isLaid_99 M a1 a3 a4 a5 a6 q29 t_19 t_40 v14 s0_99 = some y2 → ∀ (H : Heap) (locs : List Loc) (ls : Array Slot), gx_W Γ C M H → va_S (gA Γ) s.heap H locs → lv_has ls 14 [(0, .ref (Γ.1 475)), (1, .int a1), (3, .int a3), (4, .int a4), (5, .int a5), (6, .int a6), (7, .int t_19.1), (8, .int v14), (9, .int t_19.2), (10, .int q29), (11, .int t_40.1), (12, .int t_40.2)] → W p l e rm_X8_isLaid s m args below meth c H locs 0 0 Q (F0 m 99 ls [.int s0_99]) := by
              intro s0_99 hf H locs ls hW hS hl
              unfold fX8_isLaid_99 at hf
              refine lv_istore (lv' := [(13, .int s0_99), (0, .ref (Γ.1 475)), (1, .int a1), (3, .int a3), (4, .int a4), (5, .int a5), (6, .int a6), (7, .int t_19.1), (8, .int v14), (9, .int t_19.2), (10, .int q29), (11, .int t_40.1), (12, .int t_40.2)]) hx hb dX8_isLaid_99 hl (by decide) rfl (fun ls hl => ?_)
              refine lv_iload hx hb dX8_isLaid_101 (lv_at hl 11 rfl) ?_
              refine lv_iload hx hb dX8_isLaid_103 (lv_at hl 10 rfl) ?_
              refine lv_bipush (v := (42 : Int32)) hx hb dX8_isLaid_105 (by decide) ?_
              have J_137 : ∀ (s0_137 : Int32) (s1_137 : Int32) , fX8_isLaid_137 M a1 a3 a4 a5 a6 q29 t_19 t_40 v14 s0_137 s1_137 = some y2 → ∀ (H : Heap) (locs : List Loc) (ls : Array Slot), gx_W Γ C M H → va_S (gA Γ) s.heap H locs → lv_has ls 14 [(0, .ref (Γ.1 475)), (1, .int a1), (3, .int a3), (4, .int a4), (5, .int a5), (6, .int a6), (7, .int t_19.1), (8, .int v14), (9, .int t_19.2), (10, .int q29), (12, .int t_40.2)] → W p l e rm_X8_isLaid s m args below meth c H locs 0 0 Q (F0 m 137 ls [.int s0_137, .int s1_137]) := by
                intro s0_137 s1_137 hf H locs ls hW hS hl
                unfold fX8_isLaid_137 at hf
                refine lv_ior hx hb dX8_isLaid_137 ?_
                refine lv_topi (fun v138 ev138 => ?_)
                have hf := nm_v ev138 hf
                refine lv_istore (lv' := [(11, .int v138), (0, .ref (Γ.1 475)), (1, .int a1), (3, .int a3), (4, .int a4), (5, .int a5), (6, .int a6), (7, .int t_19.1), (8, .int v14), (9, .int t_19.2), (10, .int q29), (12, .int t_40.2)]) hx hb dX8_isLaid_138 hl (by decide) rfl (fun ls hl => ?_)
                exact J_140 v138 hf H locs ls hW hS (lv_sub hl [1, 2, 3, 4, 5, 6, 7, 8, 9, 10, 0, 11] rfl)
              refine lv_icmp_ne (tgt := 124) hx hb dX8_isLaid_107 (by decide) (fun c107 => ?_) (fun c107 => ?_)
              · have hf := cn_f c107 hf
                refine lv_iload hx hb dX8_isLaid_124 (lv_at hl 0 rfl) ?_
                refine lv_if_eq (tgt := 136) hx hb dX8_isLaid_126 (by decide) (fun c126 => ?_) (fun c126 => ?_)
                · have hf := cn_t c126 hf
                  refine lv_iconst (v := (0 : Int32)) hx hb dX8_isLaid_136 (by decide) ?_
                  exact J_137 (0 : Int32) t_40.1 hf H locs ls hW hS (lv_sub hl [1, 2, 3, 4, 5, 6, 7, 8, 9, 10, 12] rfl)
                · have hf := cn_f c126 hf
                  refine lv_iconst (v := (2 : Int32)) hx hb dX8_isLaid_129 (by decide) ?_
                  refine lv_iload hx hb dX8_isLaid_130 (lv_at hl 12 rfl) ?_
                  refine lv_ishl hx hb dX8_isLaid_132 ?_
                  refine lv_goto (tgt := 137) hx hb dX8_isLaid_133 (by decide) ?_
                  exact J_137 ((2 : Int32) <<< (t_40.2 &&& 31)) t_40.1 hf H locs ls hW hS (lv_sub hl [1, 2, 3, 4, 5, 6, 7, 8, 9, 10, 12] rfl)
              · have hf := cn_t c107 hf
                refine lv_iload hx hb dX8_isLaid_110 (lv_at hl 8 rfl) ?_
                refine lv_iconst (v := (1 : Int32)) hx hb dX8_isLaid_112 (by decide) ?_
                refine lv_iload hx hb dX8_isLaid_113 (lv_at hl 12 rfl) ?_
                refine lv_ishl hx hb dX8_isLaid_115 ?_
                refine lv_iconst (v := (1 : Int32)) hx hb dX8_isLaid_116 (by decide) ?_
                refine lv_isub hx hb dX8_isLaid_117 ?_
                refine lv_iconst (v := (-1 : Int32)) hx hb dX8_isLaid_118 (by decide) ?_
                refine lv_ixor hx hb dX8_isLaid_119 ?_
                refine lv_iand hx hb dX8_isLaid_120 ?_
                refine lv_goto (tgt := 137) hx hb dX8_isLaid_121 (by decide) ?_
                exact J_137 (v14 &&& ((((1 : Int32) <<< (t_40.2 &&& 31)) - (1 : Int32)) ^^^ (-1 : Int32))) t_40.1 hf H locs ls hW hS (lv_sub hl [1, 2, 3, 4, 5, 6, 7, 8, 9, 10, 12] rfl)
            have J_98 : fX8_isLaid_98 M a1 a3 a4 a5 a6 q29 t_19 t_40 v14 = some y2 → ∀ (H : Heap) (locs : List Loc) (ls : Array Slot), gx_W Γ C M H → va_S (gA Γ) s.heap H locs → lv_has ls 14 [(0, .ref (Γ.1 475)), (1, .int a1), (3, .int a3), (4, .int a4), (5, .int a5), (6, .int a6), (7, .int t_19.1), (8, .int v14), (9, .int t_19.2), (10, .int q29), (11, .int t_40.1), (12, .int t_40.2)] → W p l e rm_X8_isLaid s m args below meth c H locs 0 0 Q (F0 m 98 ls []) := by
              intro  hf H locs ls hW hS hl
              unfold fX8_isLaid_98 at hf
              refine lv_iconst (v := (0 : Int32)) hx hb dX8_isLaid_98 (by decide) ?_
              exact J_99 (0 : Int32) hf H locs ls hW hS (lv_sub hl [0, 1, 2, 3, 4, 5, 6, 7, 8, 9, 10, 11] rfl)
            refine lv_icmp_ge (tgt := 98) hx hb dX8_isLaid_68 (by decide) (fun c68 => ?_) (fun c68 => ?_)
            · have hf := cn_t c68 hf
              exact J_98  hf H locs ls hW hS (lv_sub hl [0, 1, 2, 3, 4, 5, 6, 7, 8, 9, 10, 11] rfl)
            · have hf := cn_f c68 hf
              refine lv_iload hx hb dX8_isLaid_71 (lv_at hl 9 rfl) ?_
              refine lv_bipush (v := (63 : Int32)) hx hb dX8_isLaid_73 (by decide) ?_
              have J_94 : fX8_isLaid_94 M a1 a3 a4 a5 a6 q29 t_19 t_40 v14 = some y2 → ∀ (H : Heap) (locs : List Loc) (ls : Array Slot), gx_W Γ C M H → va_S (gA Γ) s.heap H locs → lv_has ls 14 [(0, .ref (Γ.1 475)), (1, .int a1), (3, .int a3), (4, .int a4), (5, .int a5), (6, .int a6), (7, .int t_19.1), (8, .int v14), (9, .int t_19.2), (10, .int q29), (11, .int t_40.1), (12, .int t_40.2)] → W p l e rm_X8_isLaid s m args below meth c H locs 0 0 Q (F0 m 94 ls []) := by
                intro  hf H locs ls hW hS hl
                unfold fX8_isLaid_94 at hf
                refine lv_iconst (v := (1 : Int32)) hx hb dX8_isLaid_94 (by decide) ?_
                refine lv_goto (tgt := 99) hx hb dX8_isLaid_95 (by decide) ?_
                exact J_99 (1 : Int32) hf H locs ls hW hS (lv_sub hl [0, 1, 2, 3, 4, 5, 6, 7, 8, 9, 10, 11] rfl)
              refine lv_icmp_eq (tgt := 94) hx hb dX8_isLaid_75 (by decide) (fun c75 => ?_) (fun c75 => ?_)
              · have hf := cn_t c75 hf
                exact J_94  hf H locs ls hW hS (lv_sub hl [0, 1, 2, 3, 4, 5, 6, 7, 8, 9, 10, 11] rfl)
              · have hf := cn_f c75 hf
                refine lv_iload hx hb dX8_isLaid_78 (lv_at hl 9 rfl) ?_
                refine lv_aload_n hx hb dX8_isLaid_80 rfl (lv_at hl 0 rfl) ?_
                refine lv_iload hx hb dX8_isLaid_81 (lv_at hl 3 rfl) ?_
                refine lv_iload hx hb dX8_isLaid_83 (lv_at hl 4 rfl) ?_
                refine lv_iload hx hb dX8_isLaid_85 (lv_at hl 11 rfl) ?_
                refine lv_iadd hx hb dX8_isLaid_87 ?_
                obtain ⟨q88, hq88, hf⟩ := bnd_e hf
                refine gk0_i hS (gv_run (rest := [.int q29]) S hG hW hS [.int a4, .int (a5 + t_40.2)] (c_X8_pathAt l Γ C M a4 (a5 + t_40.2) hq88) pk_X8_pathAt ml_X8_95 (Nat.le_of_ble_eq_true rfl) rfl rfl rfl rfl ⟨Nat.le_of_ble_eq_true rfl, Nat.le_of_ble_eq_true rfl⟩ rfl hl.1 rfl (Nat.le_of_ble_eq_true rfl) dX8_isLaid_88 ⟨Nat.le_of_ble_eq_true rfl, Nat.le_of_ble_eq_true rfl⟩) (fun H locs hW hS => ?_)
                refine lv_icmp_ne (tgt := 98) hx hb dX8_isLaid_91 (by decide) (fun c91 => ?_) (fun c91 => ?_)
                · have hf := cn_f c91 hf
                  exact J_98  hf H locs ls hW hS (lv_sub hl [0, 1, 2, 3, 4, 5, 6, 7, 8, 9, 10, 11] rfl)
                · have hf := cn_t c91 hf
                  exact J_94  hf H locs ls hW hS (lv_sub hl [0, 1, 2, 3, 4, 5, 6, 7, 8, 9, 10, 11] rfl)
      exact J_40 ((0 : Int32), (0 : Int32)) hf H locs ls hW hS (lv_sub hl [3, 4, 5, 6, 7, 8, 9, 10, 11, 2, 1, 0] rfl)
  exact J_19 ((1 : Int32), a2) hf H locs ls hW hS (lv_sub hl [3, 4, 6, 7, 8, 9, 2, 1, 0] rfl)
noncomputable def fX8_begins_65 (M : Mem) (a1 : Int32) (t_5 : (Int32 × Int32)) (s0_65 : Int32) (s1_65 : Int32) : Option ((Int32 × Int32) ⊕ Int32) := nmv ((s1_65 ||| s0_65)) fun v66 => some (.inl (v66, (t_5.2 + (1 : Int32))))
noncomputable def fX8_begins_64 (M : Mem) (a1 : Int32) (t_5 : (Int32 × Int32)) (s0_64 : Int32) : Option ((Int32 × Int32) ⊕ Int32) := fX8_begins_65 M a1 t_5 (0 : Int32) s0_64
noncomputable def fX8_begins_57 (M : Mem) (a1 : Int32) (t_5 : (Int32 × Int32)) (s0_57 : Int32) : Option ((Int32 × Int32) ⊕ Int32) := fX8_begins_65 M a1 t_5 ((1 : Int32) <<< (t_5.2 &&& 31)) s0_57
noncomputable def fX8_begins_5 (M : Mem) (a1 : Int32) : (Int32 × Int32) → Option ((Int32 × Int32) ⊕ Int32) := fun t_5 => chk (vp_in a1 24) (cnd (((M 479 a1.toNatClampNeg) + (1 : Int32)) < t_5.2) (exR (some t_5.1)) (chk (vp_in a1 24) (cnd (t_5.2 = ((M 479 a1.toNatClampNeg) + (1 : Int32))) (fX8_begins_57 M a1 t_5 t_5.1) (bnd (fX8_pathAt M a1 (t_5.2 - (1 : Int32))) fun q38 => cnd (q38 = (47 : Int32)) (chk (vp_in a1 24) (cnd ((M 479 a1.toNatClampNeg) ≤ t_5.2) (fX8_begins_64 M a1 t_5 t_5.1) (fX8_begins_57 M a1 t_5 t_5.1))) (fX8_begins_64 M a1 t_5 t_5.1)))))
noncomputable def fX8_begins (M : Mem) (a1 : Int32) (a2 : Int32) : Option Int32 := lp (fX8_begins_5 M a1) ((0 : Int32), a2)
abbrev rm_X8_begins : Room := { frames := 1, cells := 0, slots := 0, locals := 22 }
set_option maxRecDepth 100000 in
set_option maxHeartbeats 4000000 in
theorem c_X8_begins (l : Launch) (Γ : gx_G) (C M : Mem) (a1 : Int32) (a2 : Int32) {y0 : Int32} (hf : fX8_begins M a1 a2 = some y0) : Met l yX8_begins (.code yX8_begins cX8_begins 5 (some .int) :: TsG) rm_X8_begins (va_Pc [.ref (Γ.1 475), .int a1, .int a2] (gx_P Γ C M)) (gx_Qi Γ y0 C M) 0 0 (gA Γ) := by
  refine gm_i (by decide) (Nat.le_of_ble_eq_true rfl) ?_
  intro p e s m args below meth c Q S hG hret ls H locs hl hW hS
  obtain ⟨hx, hb, hml, hown, hts⟩ := id S
  have hl : lv_has ls 5 [(0, .ref (Γ.1 475)), (1, .int a1), (2, .int a2)] := hl
  unfold fX8_begins at hf
  refine lv_iconst (v := (0 : Int32)) hx hb dX8_begins_0 (by decide) ?_
  refine lv_istore_n (lv' := [(3, .int (0 : Int32)), (0, .ref (Γ.1 475)), (1, .int a1), (2, .int a2)]) hx hb dX8_begins_1 rfl hl (by decide) rfl (fun ls hl => ?_)
  refine lv_iload_n hx hb dX8_begins_2 rfl (lv_at hl 3 rfl) ?_
  refine lv_istore (lv' := [(4, .int a2), (3, .int (0 : Int32)), (0, .ref (Γ.1 475)), (1, .int a1), (2, .int a2)]) hx hb dX8_begins_3 hl (by decide) rfl (fun ls hl => ?_)
  have J_5 : ∀  (t_5 : Int32 × Int32), lp (fX8_begins_5 M a1) t_5 = some y0 → ∀ (H : Heap) (locs : List Loc) (ls : Array Slot), gx_W Γ C M H → va_S (gA Γ) s.heap H locs → lv_has ls 5 [(0, .ref (Γ.1 475)), (1, .int a1), (3, .int t_5.1), (4, .int t_5.2)] → W p l e rm_X8_begins s m args below meth c H locs 0 0 Q (F0 m 5 ls []) := by
    refine lp_ind (P := fun (t_5 : Int32 × Int32) => ∀ (H : Heap) (locs : List Loc) (ls : Array Slot), gx_W Γ C M H → va_S (gA Γ) s.heap H locs → lv_has ls 5 [(0, .ref (Γ.1 475)), (1, .int a1), (3, .int t_5.1), (4, .int t_5.2)] → W p l e rm_X8_begins s m args below meth c H locs 0 0 Q (F0 m 5 ls [])) ?_
    intro t_5 y1 hf kI1 kX1 H locs ls hW hS hl
    unfold fX8_begins_5 at hf
    refine lv_iload hx hb dX8_begins_5 (lv_at hl 3 rfl) ?_
    refine lv_aload_n hx hb dX8_begins_7 rfl (lv_at hl 0 rfl) ?_
    refine get_X8_4 S hG hW fl_X8_19 dX8_begins_8 ?_
    refine lv_iload_n hx hb dX8_begins_11 rfl (lv_at hl 1 rfl) ?_
    have g12 := ck_p hf
    have hf := ck_r hf
    refine ald_m S hG hW shk_479 lnk_479 g12 dX8_begins_12 ?_
    refine lv_iconst (v := (1 : Int32)) hx hb dX8_begins_13 (by decide) ?_
    refine lv_iadd hx hb dX8_begins_14 ?_
    refine lv_icmp_gt (tgt := 73) hx hb dX8_begins_15 (by decide) (fun c15 => ?_) (fun c15 => ?_)
    · have hf := cn_t c15 hf
      obtain ⟨z15, hf, ez⟩ := exR_e hf
      rw [kX1 _ ez] at hf
      refine lv_iload_n hx hb dX8_begins_73 rfl (lv_at hl 2 rfl) ?_
      exact hret _ _ _ _ _ hW hS rfl (Option.some.inj hf) dX8_begins_74
    · have hf := cn_f c15 hf
      refine lv_iload_n hx hb dX8_begins_18 rfl (lv_at hl 2 rfl) ?_
      refine lv_iload hx hb dX8_begins_19 (lv_at hl 3 rfl) ?_
      refine lv_aload_n hx hb dX8_begins_21 rfl (lv_at hl 0 rfl) ?_
      refine get_X8_4 S hG hW fl_X8_19 dX8_begins_22 ?_
      refine lv_iload_n hx hb dX8_begins_25 rfl (lv_at hl 1 rfl) ?_
      have g26 := ck_p hf
      have hf := ck_r hf
      refine ald_m S hG hW shk_479 lnk_479 g26 dX8_begins_26 ?_
      refine lv_iconst (v := (1 : Int32)) hx hb dX8_begins_27 (by decide) ?_
      refine lv_iadd hx hb dX8_begins_28 ?_
      have J_65 : ∀ (s0_65 : Int32) (s1_65 : Int32) , fX8_begins_65 M a1 t_5 s0_65 s1_65 = some y1 → ∀ (H : Heap) (locs : List Loc) (ls : Array Slot), gx_W Γ C M H → va_S (gA Γ) s.heap H locs → lv_has ls 5 [(0, .ref (Γ.1 475)), (1, .int a1), (4, .int t_5.2)] → W p l e rm_X8_begins s m args below meth c H locs 0 0 Q (F0 m 65 ls [.int s0_65, .int s1_65]) := by
        intro s0_65 s1_65 hf H locs ls hW hS hl
        unfold fX8_begins_65 at hf
        refine lv_ior hx hb dX8_begins_65 ?_
        refine lv_topi (fun v66 ev66 => ?_)
        have hf := nm_v ev66 hf
        refine lv_istore_n (lv' := [(3, .int v66), (0, .ref (Γ.1 475)), (1, .int a1), (4, .int t_5.2)]) hx hb dX8_begins_66 rfl hl (by decide) rfl (fun ls hl => ?_)
        refine lv_iinc (v := (t_5.2 + (1 : Int32))) (lv' := [(4, .int (t_5.2 + (1 : Int32))), (3, .int v66), (0, .ref (Γ.1 475)), (1, .int a1)]) hx hb dX8_begins_67 hl (k := 3) rfl rfl (by decide) rfl (fun ls hl => ?_)
        refine lv_goto (tgt := 5) hx hb dX8_begins_70 (by decide) ?_
        exact kI1 _ (Option.some.inj hf).symm H locs ls hW hS (lv_sub hl [2, 3, 1, 0] rfl)
      have J_57 : ∀ (s0_57 : Int32) , fX8_begins_57 M a1 t_5 s0_57 = some y1 → ∀ (H : Heap) (locs : List Loc) (ls : Array Slot), gx_W Γ C M H → va_S (gA Γ) s.heap H locs → lv_has ls 5 [(0, .ref (Γ.1 475)), (1, .int a1), (4, .int t_5.2)] → W p l e rm_X8_begins s m args below meth c H locs 0 0 Q (F0 m 57 ls [.int s0_57]) := by
        intro s0_57 hf H locs ls hW hS hl
        unfold fX8_begins_57 at hf
        refine lv_iconst (v := (1 : Int32)) hx hb dX8_begins_57 (by decide) ?_
        refine lv_iload hx hb dX8_begins_58 (lv_at hl 2 rfl) ?_
        refine lv_ishl hx hb dX8_begins_60 ?_
        refine lv_goto (tgt := 65) hx hb dX8_begins_61 (by decide) ?_
        exact J_65 ((1 : Int32) <<< (t_5.2 &&& 31)) s0_57 hf H locs ls hW hS (lv_sub hl [0, 1, 2] rfl)
      refine lv_icmp_eq (tgt := 57) hx hb dX8_begins_29 (by decide) (fun c29 => ?_) (fun c29 => ?_)
      · have hf := cn_t c29 hf
        exact J_57 t_5.1 hf H locs ls hW hS (lv_sub hl [0, 1, 3] rfl)
      · have hf := cn_f c29 hf
        refine lv_aload_n hx hb dX8_begins_32 rfl (lv_at hl 0 rfl) ?_
        refine lv_iload_n hx hb dX8_begins_33 rfl (lv_at hl 1 rfl) ?_
        refine lv_iload hx hb dX8_begins_34 (lv_at hl 3 rfl) ?_
        refine lv_iconst (v := (1 : Int32)) hx hb dX8_begins_36 (by decide) ?_
        refine lv_isub hx hb dX8_begins_37 ?_
        obtain ⟨q38, hq38, hf⟩ := bnd_e hf
        refine gk0_i hS (gv_run (rest := [.int t_5.1]) S hG hW hS [.int a1, .int (t_5.2 - (1 : Int32))] (c_X8_pathAt l Γ C M a1 (t_5.2 - (1 : Int32)) hq38) pk_X8_pathAt ml_X8_95 (Nat.le_of_ble_eq_true rfl) rfl rfl rfl rfl ⟨Nat.le_of_ble_eq_true rfl, Nat.le_of_ble_eq_true rfl⟩ rfl hl.1 rfl (Nat.le_of_ble_eq_true rfl) dX8_begins_38 ⟨Nat.le_of_ble_eq_true rfl, Nat.le_of_ble_eq_true rfl⟩) (fun H locs hW hS => ?_)
        refine lv_bipush (v := (47 : Int32)) hx hb dX8_begins_41 (by decide) ?_
        have J_64 : ∀ (s0_64 : Int32) , fX8_begins_64 M a1 t_5 s0_64 = some y1 → ∀ (H : Heap) (locs : List Loc) (ls : Array Slot), gx_W Γ C M H → va_S (gA Γ) s.heap H locs → lv_has ls 5 [(0, .ref (Γ.1 475)), (1, .int a1), (4, .int t_5.2)] → W p l e rm_X8_begins s m args below meth c H locs 0 0 Q (F0 m 64 ls [.int s0_64]) := by
          intro s0_64 hf H locs ls hW hS hl
          unfold fX8_begins_64 at hf
          refine lv_iconst (v := (0 : Int32)) hx hb dX8_begins_64 (by decide) ?_
          exact J_65 (0 : Int32) s0_64 hf H locs ls hW hS (lv_sub hl [0, 1, 2] rfl)
        refine lv_icmp_ne (tgt := 64) hx hb dX8_begins_43 (by decide) (fun c43 => ?_) (fun c43 => ?_)
        · have hf := cn_f c43 hf
          exact J_64 t_5.1 hf H locs ls hW hS (lv_sub hl [0, 1, 3] rfl)
        · have hf := cn_t c43 hf
          refine lv_iload hx hb dX8_begins_46 (lv_at hl 3 rfl) ?_
          refine lv_aload_n hx hb dX8_begins_48 rfl (lv_at hl 0 rfl) ?_
          refine get_X8_4 S hG hW fl_X8_19 dX8_begins_49 ?_
          refine lv_iload_n hx hb dX8_begins_52 rfl (lv_at hl 1 rfl) ?_
          have g53 := ck_p hf
          have hf := ck_r hf
          refine ald_m S hG hW shk_479 lnk_479 g53 dX8_begins_53 ?_
          refine lv_icmp_ge (tgt := 64) hx hb dX8_begins_54 (by decide) (fun c54 => ?_) (fun c54 => ?_)
          · have hf := cn_t c54 hf
            exact J_64 t_5.1 hf H locs ls hW hS (lv_sub hl [0, 1, 3] rfl)
          · have hf := cn_f c54 hf
            exact J_57 t_5.1 hf H locs ls hW hS (lv_sub hl [0, 1, 3] rfl)
  exact J_5 ((0 : Int32), a2) hf H locs ls hW hS (lv_sub hl [2, 3, 1, 0] rfl)
noncomputable def fX8_isMatched_220 (M : Mem) (a2 : Int32) (t_5 : (Int32 × Int32)) : Option Int32 := chk (vp_in a2 24) (cnd (((t_5.1 >>> (((M 479 a2.toNatClampNeg) + (1 : Int32)) &&& 31)) &&& (1 : Int32)) = (1 : Int32)) (some (1 : Int32)) (some (0 : Int32)))
noncomputable def fX8_isMatched_208 (M : Mem) (a1 : Int32) (a2 : Int32) (t_20 : (Int32)) (t_86 : (Int32 × Int32)) : Option ((Int32 × Int32) ⊕ Int32) := nmv ((t_20 + (1 : Int32))) fun v215 => some (.inl (t_86.1, v215))
noncomputable def fX8_isMatched_202 (M : Mem) (a1 : Int32) (a2 : Int32) (s0_78 : Int32) (t_20 : (Int32)) (t_5 : (Int32 × Int32)) (t_86 : (Int32 × Int32)) (x7_202 : Int32) : Option ((Int32 × Int32) ⊕ ((Int32 × Int32) ⊕ Int32)) := some (.inl (x7_202, (t_86.2 + (1 : Int32))))
noncomputable def fX8_isMatched_199 (M : Mem) (a1 : Int32) (a2 : Int32) (s0_78 : Int32) (t_20 : (Int32)) (t_5 : (Int32 × Int32)) (t_86 : (Int32 × Int32)) (s0_199 : Int32) (s1_199 : Int32) : Option ((Int32 × Int32) ⊕ ((Int32 × Int32) ⊕ Int32)) := nmv ((s1_199 ||| s0_199)) fun v200 => fX8_isMatched_202 M a1 a2 s0_78 t_20 t_5 t_86 v200
noncomputable def fX8_isMatched_167 (M : Mem) (a1 : Int32) (a2 : Int32) (s0_132 : Int32) (s0_78 : Int32) (t_20 : (Int32)) (t_5 : (Int32 × Int32)) (t_86 : (Int32 × Int32)) (s0_167 : Int32) : Option ((Int32 × Int32) ⊕ ((Int32 × Int32) ⊕ Int32)) := cnd (s0_78 = (0 : Int32)) (cnd (s0_167 = (0 : Int32)) (fX8_isMatched_199 M a1 a2 s0_78 t_20 t_5 t_86 (0 : Int32) t_86.1) (fX8_isMatched_199 M a1 a2 s0_78 t_20 t_5 t_86 ((2 : Int32) <<< (s0_132 &&& 31)) t_86.1)) (bnd (fX8_begins M a2 t_86.2) fun q180 => fX8_isMatched_199 M a1 a2 s0_78 t_20 t_5 t_86 q180 t_86.1)
noncomputable def fX8_isMatched_166 (M : Mem) (a1 : Int32) (a2 : Int32) (s0_132 : Int32) (s0_78 : Int32) (t_20 : (Int32)) (t_5 : (Int32 × Int32)) (t_86 : (Int32 × Int32)) : Option ((Int32 × Int32) ⊕ ((Int32 × Int32) ⊕ Int32)) := fX8_isMatched_167 M a1 a2 s0_132 s0_78 t_20 t_5 t_86 (0 : Int32)
noncomputable def fX8_isMatched_132 (M : Mem) (a1 : Int32) (a2 : Int32) (s0_78 : Int32) (t_20 : (Int32)) (t_5 : (Int32 × Int32)) (t_86 : (Int32 × Int32)) (s0_132 : Int32) : Option ((Int32 × Int32) ⊕ ((Int32 × Int32) ⊕ Int32)) := chk (vp_in a2 24) (cnd ((M 479 a2.toNatClampNeg) < t_86.2) (fX8_isMatched_166 M a1 a2 s0_132 s0_78 t_20 t_5 t_86) (bnd (fX8_isLaid M a1 t_5.2 t_20 a2 t_86.2 s0_132) fun q156 => cnd (q156 = (0 : Int32)) (fX8_isMatched_166 M a1 a2 s0_132 s0_78 t_20 t_5 t_86) (fX8_isMatched_167 M a1 a2 s0_132 s0_78 t_20 t_5 t_86 (1 : Int32))))
noncomputable def fX8_isMatched_86 (M : Mem) (a1 : Int32) (a2 : Int32) (s0_78 : Int32) (t_20 : (Int32)) (t_5 : (Int32 × Int32)) : (Int32 × Int32) → Option ((Int32 × Int32) ⊕ ((Int32 × Int32) ⊕ Int32)) := fun t_86 => chk (vp_in a2 24) (cnd (((M 479 a2.toNatClampNeg) + (1 : Int32)) < t_86.2) (exR (fX8_isMatched_208 M a1 a2 t_20 t_86)) (cnd (((t_5.1 >>> (t_86.2 &&& 31)) &&& (1 : Int32)) = (1 : Int32)) (chk (vp_in a2 24) (cnd (t_86.2 ≤ (M 479 a2.toNatClampNeg)) (bnd (fX8_endOf M a2 t_86.2) fun q129 => fX8_isMatched_132 M a1 a2 s0_78 t_20 t_5 t_86 q129) (fX8_isMatched_132 M a1 a2 s0_78 t_20 t_5 t_86 t_86.2))) (fX8_isMatched_202 M a1 a2 s0_78 t_20 t_5 t_86 t_86.1)))
noncomputable def fX8_isMatched_78 (M : Mem) (a1 : Int32) (a2 : Int32) (t_20 : (Int32)) (t_5 : (Int32 × Int32)) (s0_78 : Int32) : Option ((Int32 × Int32) ⊕ Int32) := lp (fX8_isMatched_86 M a1 a2 s0_78 t_20 t_5) ((0 : Int32), (0 : Int32))
noncomputable def fX8_isMatched_77 (M : Mem) (a1 : Int32) (a2 : Int32) (t_20 : (Int32)) (t_5 : (Int32 × Int32)) : Option ((Int32 × Int32) ⊕ Int32) := fX8_isMatched_78 M a1 a2 t_20 t_5 (0 : Int32)
noncomputable def fX8_isMatched_38 (M : Mem) (a1 : Int32) (a2 : Int32) (t_20 : (Int32)) (t_5 : (Int32 × Int32)) : Option ((Int32 × Int32) ⊕ Int32) := cnd ((t_20 - t_5.2) = (2 : Int32)) (bnd (fX8_at M a1 t_5.2) fun q51 => cnd (q51 = (42 : Int32)) (bnd (fX8_at M a1 (t_5.2 + (1 : Int32))) fun q65 => cnd (q65 = (42 : Int32)) (fX8_isMatched_78 M a1 a2 t_20 t_5 (1 : Int32)) (fX8_isMatched_77 M a1 a2 t_20 t_5)) (fX8_isMatched_77 M a1 a2 t_20 t_5)) (fX8_isMatched_77 M a1 a2 t_20 t_5)
noncomputable def fX8_isMatched_20 (M : Mem) (a1 : Int32) (a2 : Int32) (t_5 : (Int32 × Int32)) : (Int32) → Option ((Int32) ⊕ ((Int32 × Int32) ⊕ Int32)) := fun t_20 => bnd (fX8_at M a1 t_20) fun q24 => cnd (q24 = (47 : Int32)) (exR (fX8_isMatched_38 M a1 a2 t_20 t_5)) (some (.inl (t_20 + (1 : Int32))))
noncomputable def fX8_isMatched_5 (M : Mem) (a1 : Int32) (a2 : Int32) : (Int32 × Int32) → Option ((Int32 × Int32) ⊕ Int32) := fun t_5 => chk (vp_in a1 77) (cnd ((M 477 a1.toNatClampNeg) < t_5.2) (exR (fX8_isMatched_220 M a2 t_5)) (lp (fX8_isMatched_20 M a1 a2 t_5) t_5.2))
noncomputable def fX8_isMatched (M : Mem) (a1 : Int32) (a2 : Int32) : Option Int32 := lp (fX8_isMatched_5 M a1 a2) ((1 : Int32), (0 : Int32))
abbrev rm_X8_isMatched : Room := { frames := 2, cells := 0, slots := 0, locals := 55 }
set_option maxRecDepth 100000 in
set_option maxHeartbeats 4000000 in
theorem c_X8_isMatched (l : Launch) (Γ : gx_G) (C M : Mem) (a1 : Int32) (a2 : Int32) {y0 : Int32} (hf : fX8_isMatched M a1 a2 = some y0) : Met l yX8_isMatched (.code yX8_isMatched cX8_isMatched 11 (some .boolean) :: TsG) rm_X8_isMatched (va_Pc [.ref (Γ.1 475), .int a1, .int a2] (gx_P Γ C M)) (gx_Qi Γ y0 C M) 0 0 (gA Γ) := by
  refine gm_i (by decide) (Nat.le_of_ble_eq_true rfl) ?_
  intro p e s m args below meth c Q S hG hret ls H locs hl hW hS
  obtain ⟨hx, hb, hml, hown, hts⟩ := id S
  have hl : lv_has ls 11 [(0, .ref (Γ.1 475)), (1, .int a1), (2, .int a2)] := hl
  unfold fX8_isMatched at hf
  refine lv_iconst (v := (1 : Int32)) hx hb dX8_isMatched_0 (by decide) ?_
  refine lv_istore_n (lv' := [(3, .int (1 : Int32)), (0, .ref (Γ.1 475)), (1, .int a1), (2, .int a2)]) hx hb dX8_isMatched_1 rfl hl (by decide) rfl (fun ls hl => ?_)
  refine lv_iconst (v := (0 : Int32)) hx hb dX8_isMatched_2 (by decide) ?_
  refine lv_istore (lv' := [(4, .int (0 : Int32)), (3, .int (1 : Int32)), (0, .ref (Γ.1 475)), (1, .int a1), (2, .int a2)]) hx hb dX8_isMatched_3 hl (by decide) rfl (fun ls hl => ?_)
  have J_5 : ∀  (t_5 : Int32 × Int32), lp (fX8_isMatched_5 M a1 a2) t_5 = some y0 → ∀ (H : Heap) (locs : List Loc) (ls : Array Slot), gx_W Γ C M H → va_S (gA Γ) s.heap H locs → lv_has ls 11 [(0, .ref (Γ.1 475)), (1, .int a1), (2, .int a2), (3, .int t_5.1), (4, .int t_5.2)] → W p l e rm_X8_isMatched s m args below meth c H locs 0 0 Q (F0 m 5 ls []) := by
    refine lp_ind (P := fun (t_5 : Int32 × Int32) => ∀ (H : Heap) (locs : List Loc) (ls : Array Slot), gx_W Γ C M H → va_S (gA Γ) s.heap H locs → lv_has ls 11 [(0, .ref (Γ.1 475)), (1, .int a1), (2, .int a2), (3, .int t_5.1), (4, .int t_5.2)] → W p l e rm_X8_isMatched s m args below meth c H locs 0 0 Q (F0 m 5 ls [])) ?_
    intro t_5 y1 hf kI1 kX1 H locs ls hW hS hl
    unfold fX8_isMatched_5 at hf
    refine lv_iload hx hb dX8_isMatched_5 (lv_at hl 4 rfl) ?_
    refine lv_aload_n hx hb dX8_isMatched_7 rfl (lv_at hl 0 rfl) ?_
    refine get_X8_1 S hG hW fl_X8_13 dX8_isMatched_8 ?_
    refine lv_iload_n hx hb dX8_isMatched_11 rfl (lv_at hl 1 rfl) ?_
    have g12 := ck_p hf
    have hf := ck_r hf
    refine ald_m S hG hW shk_477 lnk_477 g12 dX8_isMatched_12 ?_
    have J_220 : fX8_isMatched_220 M a2 t_5 = some y0 → ∀ (H : Heap) (locs : List Loc) (ls : Array Slot), gx_W Γ C M H → va_S (gA Γ) s.heap H locs → lv_has ls 11 [(0, .ref (Γ.1 475)), (2, .int a2), (3, .int t_5.1)] → W p l e rm_X8_isMatched s m args below meth c H locs 0 0 Q (F0 m 220 ls []) := by
      intro  hf H locs ls hW hS hl
      unfold fX8_isMatched_220 at hf
      refine lv_iload_n hx hb dX8_isMatched_220 rfl (lv_at hl 2 rfl) ?_
      refine lv_aload_n hx hb dX8_isMatched_221 rfl (lv_at hl 0 rfl) ?_
      refine get_X8_4 S hG hW fl_X8_19 dX8_isMatched_222 ?_
      refine lv_iload_n hx hb dX8_isMatched_225 rfl (lv_at hl 1 rfl) ?_
      have g226 := ck_p hf
      have hf := ck_r hf
      refine ald_m S hG hW shk_479 lnk_479 g226 dX8_isMatched_226 ?_
      refine lv_iconst (v := (1 : Int32)) hx hb dX8_isMatched_227 (by decide) ?_
      refine lv_iadd hx hb dX8_isMatched_228 ?_
      refine lv_ishr hx hb dX8_isMatched_229 ?_
      refine lv_iconst (v := (1 : Int32)) hx hb dX8_isMatched_230 (by decide) ?_
      refine lv_iand hx hb dX8_isMatched_231 ?_
      refine lv_iconst (v := (1 : Int32)) hx hb dX8_isMatched_232 (by decide) ?_
      refine lv_icmp_ne (tgt := 240) hx hb dX8_isMatched_233 (by decide) (fun c233 => ?_) (fun c233 => ?_)
      · have hf := cn_f c233 hf
        refine lv_iconst (v := (0 : Int32)) hx hb dX8_isMatched_240 (by decide) ?_
        exact hret _ _ _ _ _ hW hS rfl (Option.some.inj hf) dX8_isMatched_241
      · have hf := cn_t c233 hf
        refine lv_iconst (v := (1 : Int32)) hx hb dX8_isMatched_236 (by decide) ?_
        refine lv_goto (tgt := 241) hx hb dX8_isMatched_237 (by decide) ?_
        exact hret _ _ _ _ _ hW hS rfl (Option.some.inj hf) dX8_isMatched_241
    refine lv_icmp_gt (tgt := 220) hx hb dX8_isMatched_13 (by decide) (fun c13 => ?_) (fun c13 => ?_)
    · have hf := cn_t c13 hf
      obtain ⟨z13, hf, ez⟩ := exR_e hf
      rw [kX1 _ ez] at hf
      exact J_220  hf H locs ls hW hS (lv_sub hl [0, 2, 3] rfl)
    · have hf := cn_f c13 hf
      refine lv_iload hx hb dX8_isMatched_16 (lv_at hl 4 rfl) ?_
      refine lv_istore (lv' := [(5, .int t_5.2), (0, .ref (Γ.1 475)), (1, .int a1), (2, .int a2), (3, .int t_5.1), (4, .int t_5.2)]) hx hb dX8_isMatched_18 hl (by decide) rfl (fun ls hl => ?_)
      have J_20 : ∀  (t_20 : Int32), lp (fX8_isMatched_20 M a1 a2 t_5) t_20 = some y1 → ∀ (H : Heap) (locs : List Loc) (ls : Array Slot), gx_W Γ C M H → va_S (gA Γ) s.heap H locs → lv_has ls 11 [(0, .ref (Γ.1 475)), (1, .int a1), (2, .int a2), (3, .int t_5.1), (4, .int t_5.2), (5, .int t_20)] → W p l e rm_X8_isMatched s m args below meth c H locs 0 0 Q (F0 m 20 ls []) := by
        refine lp_ind (P := fun (t_20 : Int32) => ∀ (H : Heap) (locs : List Loc) (ls : Array Slot), gx_W Γ C M H → va_S (gA Γ) s.heap H locs → lv_has ls 11 [(0, .ref (Γ.1 475)), (1, .int a1), (2, .int a2), (3, .int t_5.1), (4, .int t_5.2), (5, .int t_20)] → W p l e rm_X8_isMatched s m args below meth c H locs 0 0 Q (F0 m 20 ls [])) ?_
        intro t_20 y2 hf kI2 kX2 H locs ls hW hS hl
        unfold fX8_isMatched_20 at hf
        refine lv_aload_n hx hb dX8_isMatched_20 rfl (lv_at hl 0 rfl) ?_
        refine lv_iload_n hx hb dX8_isMatched_21 rfl (lv_at hl 1 rfl) ?_
        refine lv_iload hx hb dX8_isMatched_22 (lv_at hl 5 rfl) ?_
        obtain ⟨q24, hq24, hf⟩ := bnd_e hf
        refine gk0_i hS (gv_run (rest := []) S hG hW hS [.int a1, .int t_20] (c_X8_at l Γ C M a1 t_20 hq24) pk_X8_at ml_X8_81 (Nat.le_of_ble_eq_true rfl) rfl rfl rfl rfl ⟨Nat.le_of_ble_eq_true rfl, Nat.le_of_ble_eq_true rfl⟩ rfl hl.1 rfl (Nat.le_of_ble_eq_true rfl) dX8_isMatched_24 ⟨Nat.le_of_ble_eq_true rfl, Nat.le_of_ble_eq_true rfl⟩) (fun H locs hW hS => ?_)
        refine lv_bipush (v := (47 : Int32)) hx hb dX8_isMatched_27 (by decide) ?_
        have J_38 : fX8_isMatched_38 M a1 a2 t_20 t_5 = some y1 → ∀ (H : Heap) (locs : List Loc) (ls : Array Slot), gx_W Γ C M H → va_S (gA Γ) s.heap H locs → lv_has ls 11 [(0, .ref (Γ.1 475)), (1, .int a1), (2, .int a2), (3, .int t_5.1), (4, .int t_5.2), (5, .int t_20)] → W p l e rm_X8_isMatched s m args below meth c H locs 0 0 Q (F0 m 38 ls []) := by
          intro  hf H locs ls hW hS hl
          unfold fX8_isMatched_38 at hf
          refine lv_iload hx hb dX8_isMatched_38 (lv_at hl 5 rfl) ?_
          refine lv_iload hx hb dX8_isMatched_40 (lv_at hl 4 rfl) ?_
          refine lv_isub hx hb dX8_isMatched_42 ?_
          refine lv_iconst (v := (2 : Int32)) hx hb dX8_isMatched_43 (by decide) ?_
          have J_78 : ∀ (s0_78 : Int32) , fX8_isMatched_78 M a1 a2 t_20 t_5 s0_78 = some y1 → ∀ (H : Heap) (locs : List Loc) (ls : Array Slot), gx_W Γ C M H → va_S (gA Γ) s.heap H locs → lv_has ls 11 [(0, .ref (Γ.1 475)), (1, .int a1), (2, .int a2), (3, .int t_5.1), (4, .int t_5.2), (5, .int t_20)] → W p l e rm_X8_isMatched s m args below meth c H locs 0 0 Q (F0 m 78 ls [.int s0_78]) := by
            intro s0_78 hf H locs ls hW hS hl
            unfold fX8_isMatched_78 at hf
            refine lv_istore (lv' := [(6, .int s0_78), (0, .ref (Γ.1 475)), (1, .int a1), (2, .int a2), (3, .int t_5.1), (4, .int t_5.2), (5, .int t_20)]) hx hb dX8_isMatched_78 hl (by decide) rfl (fun ls hl => ?_)
            refine lv_iconst (v := (0 : Int32)) hx hb dX8_isMatched_80 (by decide) ?_
            refine lv_istore (lv' := [(7, .int (0 : Int32)), (6, .int s0_78), (0, .ref (Γ.1 475)), (1, .int a1), (2, .int a2), (3, .int t_5.1), (4, .int t_5.2), (5, .int t_20)]) hx hb dX8_isMatched_81 hl (by decide) rfl (fun ls hl => ?_)
            refine lv_iconst (v := (0 : Int32)) hx hb dX8_isMatched_83 (by decide) ?_
            refine lv_istore (lv' := [(8, .int (0 : Int32)), (7, .int (0 : Int32)), (6, .int s0_78), (0, .ref (Γ.1 475)), (1, .int a1), (2, .int a2), (3, .int t_5.1), (4, .int t_5.2), (5, .int t_20)]) hx hb dX8_isMatched_84 hl (by decide) rfl (fun ls hl => ?_)
            have J_86 : ∀  (t_86 : Int32 × Int32), lp (fX8_isMatched_86 M a1 a2 s0_78 t_20 t_5) t_86 = some y1 → ∀ (H : Heap) (locs : List Loc) (ls : Array Slot), gx_W Γ C M H → va_S (gA Γ) s.heap H locs → lv_has ls 11 [(0, .ref (Γ.1 475)), (1, .int a1), (2, .int a2), (3, .int t_5.1), (4, .int t_5.2), (5, .int t_20), (6, .int s0_78), (7, .int t_86.1), (8, .int t_86.2)] → W p l e rm_X8_isMatched s m args below meth c H locs 0 0 Q (F0 m 86 ls []) := by
              refine lp_ind (P := fun (t_86 : Int32 × Int32) => ∀ (H : Heap) (locs : List Loc) (ls : Array Slot), gx_W Γ C M H → va_S (gA Γ) s.heap H locs → lv_has ls 11 [(0, .ref (Γ.1 475)), (1, .int a1), (2, .int a2), (3, .int t_5.1), (4, .int t_5.2), (5, .int t_20), (6, .int s0_78), (7, .int t_86.1), (8, .int t_86.2)] → W p l e rm_X8_isMatched s m args below meth c H locs 0 0 Q (F0 m 86 ls [])) ?_
              intro t_86 y2 hf kI2 kX2 H locs ls hW hS hl
              unfold fX8_isMatched_86 at hf
              refine lv_iload hx hb dX8_isMatched_86 (lv_at hl 8 rfl) ?_
              refine lv_aload_n hx hb dX8_isMatched_88 rfl (lv_at hl 0 rfl) ?_
              refine get_X8_4 S hG hW fl_X8_19 dX8_isMatched_89 ?_
              refine lv_iload_n hx hb dX8_isMatched_92 rfl (lv_at hl 2 rfl) ?_
              have g93 := ck_p hf
              have hf := ck_r hf
              refine ald_m S hG hW shk_479 lnk_479 g93 dX8_isMatched_93 ?_
              refine lv_iconst (v := (1 : Int32)) hx hb dX8_isMatched_94 (by decide) ?_
              refine lv_iadd hx hb dX8_isMatched_95 ?_
              have J_208 : fX8_isMatched_208 M a1 a2 t_20 t_86 = some y1 → ∀ (H : Heap) (locs : List Loc) (ls : Array Slot), gx_W Γ C M H → va_S (gA Γ) s.heap H locs → lv_has ls 11 [(0, .ref (Γ.1 475)), (1, .int a1), (2, .int a2), (5, .int t_20), (7, .int t_86.1)] → W p l e rm_X8_isMatched s m args below meth c H locs 0 0 Q (F0 m 208 ls []) := by
                intro  hf H locs ls hW hS hl
                unfold fX8_isMatched_208 at hf
                refine lv_iload hx hb dX8_isMatched_208 (lv_at hl 4 rfl) ?_
                refine lv_istore_n (lv' := [(3, .int t_86.1), (0, .ref (Γ.1 475)), (1, .int a1), (2, .int a2), (5, .int t_20), (7, .int t_86.1)]) hx hb dX8_isMatched_210 rfl hl (by decide) rfl (fun ls hl => ?_)
                refine lv_iload hx hb dX8_isMatched_211 (lv_at hl 4 rfl) ?_
                refine lv_iconst (v := (1 : Int32)) hx hb dX8_isMatched_213 (by decide) ?_
                refine lv_iadd hx hb dX8_isMatched_214 ?_
                refine lv_topi (fun v215 ev215 => ?_)
                have hf := nm_v ev215 hf
                refine lv_istore (lv' := [(4, .int v215), (3, .int t_86.1), (0, .ref (Γ.1 475)), (1, .int a1), (2, .int a2), (5, .int t_20), (7, .int t_86.1)]) hx hb dX8_isMatched_215 hl (by decide) rfl (fun ls hl => ?_)
                refine lv_goto (tgt := 5) hx hb dX8_isMatched_217 (by decide) ?_
                exact kI1 _ (Option.some.inj hf).symm H locs ls hW hS (lv_sub hl [2, 3, 4, 1, 0] rfl)
              refine lv_icmp_gt (tgt := 208) hx hb dX8_isMatched_96 (by decide) (fun c96 => ?_) (fun c96 => ?_)
              · have hf := cn_t c96 hf
                obtain ⟨z96, hf, ez⟩ := exR_e hf
                rw [kX2 _ ez] at hf
                exact J_208  hf H locs ls hW hS (lv_sub hl [0, 1, 2, 5, 7] rfl)
              · have hf := cn_f c96 hf
                refine lv_iload_n hx hb dX8_isMatched_99 rfl (lv_at hl 3 rfl) ?_
                refine lv_iload hx hb dX8_isMatched_100 (lv_at hl 8 rfl) ?_
                refine lv_ishr hx hb dX8_isMatched_102 ?_
                refine lv_iconst (v := (1 : Int32)) hx hb dX8_isMatched_103 (by decide) ?_
                refine lv_iand hx hb dX8_isMatched_104 ?_
                refine lv_iconst (v := (1 : Int32)) hx hb dX8_isMatched_105 (by decide) ?_
                have J_202 : ∀ (x7_202 : Int32) , fX8_isMatched_202 M a1 a2 s0_78 t_20 t_5 t_86 x7_202 = some y2 → ∀ (H : Heap) (locs : List Loc) (ls : Array Slot), gx_W Γ C M H → va_S (gA Γ) s.heap H locs → lv_has ls 11 [(0, .ref (Γ.1 475)), (1, .int a1), (2, .int a2), (3, .int t_5.1), (4, .int t_5.2), (5, .int t_20), (6, .int s0_78), (7, .int x7_202), (8, .int t_86.2)] → W p l e rm_X8_isMatched s m args below meth c H locs 0 0 Q (F0 m 202 ls []) := by
                  intro x7_202 hf H locs ls hW hS hl
                  unfold fX8_isMatched_202 at hf
                  refine lv_iinc (v := (t_86.2 + (1 : Int32))) (lv' := [(8, .int (t_86.2 + (1 : Int32))), (0, .ref (Γ.1 475)), (1, .int a1), (2, .int a2), (3, .int t_5.1), (4, .int t_5.2), (5, .int t_20), (6, .int s0_78), (7, .int x7_202)]) hx hb dX8_isMatched_202 hl (k := 8) rfl rfl (by decide) rfl (fun ls hl => ?_)
                  refine lv_goto (tgt := 86) hx hb dX8_isMatched_205 (by decide) ?_
                  exact kI2 _ (Option.some.inj hf).symm H locs ls hW hS (lv_sub hl [1, 2, 3, 4, 5, 6, 7, 8, 0] rfl)
                refine lv_icmp_ne (tgt := 202) hx hb dX8_isMatched_106 (by decide) (fun c106 => ?_) (fun c106 => ?_)
                · have hf := cn_f c106 hf
                  exact J_202 t_86.1 hf H locs ls hW hS (lv_sub hl [0, 1, 2, 3, 4, 5, 6, 7, 8] rfl)
                · have hf := cn_t c106 hf
                  refine lv_iload hx hb dX8_isMatched_109 (lv_at hl 8 rfl) ?_
                  refine lv_aload_n hx hb dX8_isMatched_111 rfl (lv_at hl 0 rfl) ?_
                  refine get_X8_4 S hG hW fl_X8_19 dX8_isMatched_112 ?_
                  refine lv_iload_n hx hb dX8_isMatched_115 rfl (lv_at hl 2 rfl) ?_
                  have g116 := ck_p hf
                  have hf := ck_r hf
                  refine ald_m S hG hW shk_479 lnk_479 g116 dX8_isMatched_116 ?_
                  have J_132 : ∀ (s0_132 : Int32) , fX8_isMatched_132 M a1 a2 s0_78 t_20 t_5 t_86 s0_132 = some y2 → ∀ (H : Heap) (locs : List Loc) (ls : Array Slot), gx_W Γ C M H → va_S (gA Γ) s.heap H locs → lv_has ls 11 [(0, .ref (Γ.1 475)), (1, .int a1), (2, .int a2), (3, .int t_5.1), (4, .int t_5.2), (5, .int t_20), (6, .int s0_78), (7, .int t_86.1), (8, .int t_86.2)] → W p l e rm_X8_isMatched s m args below meth c H locs 0 0 Q (F0 m 132 ls [.int s0_132]) := by
                    intro s0_132 hf H locs ls hW hS hl
                    unfold fX8_isMatched_132 at hf
                    refine lv_istore (lv' := [(9, .int s0_132), (0, .ref (Γ.1 475)), (1, .int a1), (2, .int a2), (3, .int t_5.1), (4, .int t_5.2), (5, .int t_20), (6, .int s0_78), (7, .int t_86.1), (8, .int t_86.2)]) hx hb dX8_isMatched_132 hl (by decide) rfl (fun ls hl => ?_)
                    refine lv_iload hx hb dX8_isMatched_134 (lv_at hl 9 rfl) ?_
                    refine lv_aload_n hx hb dX8_isMatched_136 rfl (lv_at hl 1 rfl) ?_
                    refine get_X8_4 S hG hW fl_X8_19 dX8_isMatched_137 ?_
                    refine lv_iload_n hx hb dX8_isMatched_140 rfl (lv_at hl 3 rfl) ?_
                    have g141 := ck_p hf
                    have hf := ck_r hf
                    refine ald_m S hG hW shk_479 lnk_479 g141 dX8_isMatched_141 ?_
                    have J_167 : ∀ (s0_167 : Int32) , fX8_isMatched_167 M a1 a2 s0_132 s0_78 t_20 t_5 t_86 s0_167 = some y2 → ∀ (H : Heap) (locs : List Loc) (ls : Array Slot), gx_W Γ C M H → va_S (gA Γ) s.heap H locs → lv_has ls 11 [(0, .ref (Γ.1 475)), (1, .int a1), (2, .int a2), (3, .int t_5.1), (4, .int t_5.2), (5, .int t_20), (6, .int s0_78), (7, .int t_86.1), (8, .int t_86.2), (9, .int s0_132)] → W p l e rm_X8_isMatched s m args below meth c H locs 0 0 Q (F0 m 167 ls [.int s0_167]) := by
                      intro s0_167 hf H locs ls hW hS hl
                      unfold fX8_isMatched_167 at hf
                      refine lv_istore (lv' := [(10, .int s0_167), (0, .ref (Γ.1 475)), (1, .int a1), (2, .int a2), (3, .int t_5.1), (4, .int t_5.2), (5, .int t_20), (6, .int s0_78), (7, .int t_86.1), (8, .int t_86.2), (9, .int s0_132)]) hx hb dX8_isMatched_167 hl (by decide) rfl (fun ls hl => ?_)
                      refine lv_iload hx hb dX8_isMatched_169 (lv_at hl 8 rfl) ?_
                      refine lv_iload hx hb dX8_isMatched_171 (lv_at hl 7 rfl) ?_
                      have J_199 : ∀ (s0_199 : Int32) (s1_199 : Int32) , fX8_isMatched_199 M a1 a2 s0_78 t_20 t_5 t_86 s0_199 s1_199 = some y2 → ∀ (H : Heap) (locs : List Loc) (ls : Array Slot), gx_W Γ C M H → va_S (gA Γ) s.heap H locs → lv_has ls 11 [(0, .ref (Γ.1 475)), (1, .int a1), (2, .int a2), (3, .int t_5.1), (4, .int t_5.2), (5, .int t_20), (6, .int s0_78), (8, .int t_86.2)] → W p l e rm_X8_isMatched s m args below meth c H locs 0 0 Q (F0 m 199 ls [.int s0_199, .int s1_199]) := by
                        intro s0_199 s1_199 hf H locs ls hW hS hl
                        unfold fX8_isMatched_199 at hf
                        refine lv_ior hx hb dX8_isMatched_199 ?_
                        refine lv_topi (fun v200 ev200 => ?_)
                        have hf := nm_v ev200 hf
                        refine lv_istore (lv' := [(7, .int v200), (0, .ref (Γ.1 475)), (1, .int a1), (2, .int a2), (3, .int t_5.1), (4, .int t_5.2), (5, .int t_20), (6, .int s0_78), (8, .int t_86.2)]) hx hb dX8_isMatched_200 hl (by decide) rfl (fun ls hl => ?_)
                        exact J_202 v200 hf H locs ls hW hS (lv_sub hl [1, 2, 3, 4, 5, 6, 7, 0, 8] rfl)
                      refine lv_if_eq (tgt := 186) hx hb dX8_isMatched_173 (by decide) (fun c173 => ?_) (fun c173 => ?_)
                      · have hf := cn_t c173 hf
                        refine lv_iload hx hb dX8_isMatched_186 (lv_at hl 0 rfl) ?_
                        refine lv_if_eq (tgt := 198) hx hb dX8_isMatched_188 (by decide) (fun c188 => ?_) (fun c188 => ?_)
                        · have hf := cn_t c188 hf
                          refine lv_iconst (v := (0 : Int32)) hx hb dX8_isMatched_198 (by decide) ?_
                          exact J_199 (0 : Int32) t_86.1 hf H locs ls hW hS (lv_sub hl [1, 2, 3, 4, 5, 6, 7, 9] rfl)
                        · have hf := cn_f c188 hf
                          refine lv_iconst (v := (2 : Int32)) hx hb dX8_isMatched_191 (by decide) ?_
                          refine lv_iload hx hb dX8_isMatched_192 (lv_at hl 10 rfl) ?_
                          refine lv_ishl hx hb dX8_isMatched_194 ?_
                          refine lv_goto (tgt := 199) hx hb dX8_isMatched_195 (by decide) ?_
                          exact J_199 ((2 : Int32) <<< (s0_132 &&& 31)) t_86.1 hf H locs ls hW hS (lv_sub hl [1, 2, 3, 4, 5, 6, 7, 9] rfl)
                      · have hf := cn_f c173 hf
                        refine lv_aload_n hx hb dX8_isMatched_176 rfl (lv_at hl 1 rfl) ?_
                        refine lv_iload_n hx hb dX8_isMatched_177 rfl (lv_at hl 3 rfl) ?_
                        refine lv_iload hx hb dX8_isMatched_178 (lv_at hl 9 rfl) ?_
                        obtain ⟨q180, hq180, hf⟩ := bnd_e hf
                        refine gk0_i hS (gv_run (rest := [.int t_86.1]) S hG hW hS [.int a2, .int t_86.2] (c_X8_begins l Γ C M a2 t_86.2 hq180) pk_X8_begins ml_X8_105 (Nat.le_of_ble_eq_true rfl) rfl rfl rfl rfl ⟨Nat.le_of_ble_eq_true rfl, Nat.le_of_ble_eq_true rfl⟩ rfl hl.1 rfl (Nat.le_of_ble_eq_true rfl) dX8_isMatched_180 ⟨Nat.le_of_ble_eq_true rfl, Nat.le_of_ble_eq_true rfl⟩) (fun H locs hW hS => ?_)
                        refine lv_goto (tgt := 199) hx hb dX8_isMatched_183 (by decide) ?_
                        exact J_199 q180 t_86.1 hf H locs ls hW hS (lv_sub hl [1, 2, 3, 4, 5, 6, 7, 9] rfl)
                    have J_166 : fX8_isMatched_166 M a1 a2 s0_132 s0_78 t_20 t_5 t_86 = some y2 → ∀ (H : Heap) (locs : List Loc) (ls : Array Slot), gx_W Γ C M H → va_S (gA Γ) s.heap H locs → lv_has ls 11 [(0, .ref (Γ.1 475)), (1, .int a1), (2, .int a2), (3, .int t_5.1), (4, .int t_5.2), (5, .int t_20), (6, .int s0_78), (7, .int t_86.1), (8, .int t_86.2), (9, .int s0_132)] → W p l e rm_X8_isMatched s m args below meth c H locs 0 0 Q (F0 m 166 ls []) := by
                      intro  hf H locs ls hW hS hl
                      unfold fX8_isMatched_166 at hf
                      refine lv_iconst (v := (0 : Int32)) hx hb dX8_isMatched_166 (by decide) ?_
                      exact J_167 (0 : Int32) hf H locs ls hW hS (lv_sub hl [0, 1, 2, 3, 4, 5, 6, 7, 8, 9] rfl)
                    refine lv_icmp_gt (tgt := 166) hx hb dX8_isMatched_142 (by decide) (fun c142 => ?_) (fun c142 => ?_)
                    · have hf := cn_t c142 hf
                      exact J_166  hf H locs ls hW hS (lv_sub hl [1, 2, 3, 4, 5, 6, 7, 8, 9, 0] rfl)
                    · have hf := cn_f c142 hf
                      refine lv_aload_n hx hb dX8_isMatched_145 rfl (lv_at hl 1 rfl) ?_
                      refine lv_iload_n hx hb dX8_isMatched_146 rfl (lv_at hl 2 rfl) ?_
                      refine lv_iload hx hb dX8_isMatched_147 (lv_at hl 5 rfl) ?_
                      refine lv_iload hx hb dX8_isMatched_149 (lv_at hl 6 rfl) ?_
                      refine lv_iload_n hx hb dX8_isMatched_151 rfl (lv_at hl 3 rfl) ?_
                      refine lv_iload hx hb dX8_isMatched_152 (lv_at hl 9 rfl) ?_
                      refine lv_iload hx hb dX8_isMatched_154 (lv_at hl 0 rfl) ?_
                      obtain ⟨q156, hq156, hf⟩ := bnd_e hf
                      refine gk0_i hS (gv_run (rest := []) S hG hW hS [.int a1, .int t_5.2, .int t_20, .int a2, .int t_86.2, .int s0_132] (c_X8_isLaid l Γ C M a1 t_5.2 t_20 a2 t_86.2 s0_132 hq156) pk_X8_isLaid ml_X8_101 (Nat.le_of_ble_eq_true rfl) rfl rfl rfl rfl ⟨Nat.le_of_ble_eq_true rfl, Nat.le_of_ble_eq_true rfl⟩ rfl hl.1 rfl (Nat.le_of_ble_eq_true rfl) dX8_isMatched_156 ⟨Nat.le_of_ble_eq_true rfl, Nat.le_of_ble_eq_true rfl⟩) (fun H locs hW hS => ?_)
                      refine lv_if_eq (tgt := 166) hx hb dX8_isMatched_159 (by decide) (fun c159 => ?_) (fun c159 => ?_)
                      · have hf := cn_t c159 hf
                        exact J_166  hf H locs ls hW hS (lv_sub hl [1, 2, 3, 4, 5, 6, 7, 8, 9, 0] rfl)
                      · have hf := cn_f c159 hf
                        refine lv_iconst (v := (1 : Int32)) hx hb dX8_isMatched_162 (by decide) ?_
                        refine lv_goto (tgt := 167) hx hb dX8_isMatched_163 (by decide) ?_
                        exact J_167 (1 : Int32) hf H locs ls hW hS (lv_sub hl [1, 2, 3, 4, 5, 6, 7, 8, 9, 0] rfl)
                  refine lv_icmp_le (tgt := 125) hx hb dX8_isMatched_117 (by decide) (fun c117 => ?_) (fun c117 => ?_)
                  · have hf := cn_t c117 hf
                    refine lv_aload_n hx hb dX8_isMatched_125 rfl (lv_at hl 0 rfl) ?_
                    refine lv_iload_n hx hb dX8_isMatched_126 rfl (lv_at hl 2 rfl) ?_
                    refine lv_iload hx hb dX8_isMatched_127 (lv_at hl 8 rfl) ?_
                    obtain ⟨q129, hq129, hf⟩ := bnd_e hf
                    refine gk0_i hS (gv_run (rest := []) S hG hW hS [.int a2, .int t_86.2] (c_X8_endOf l Γ C M a2 t_86.2 hq129) pk_X8_endOf ml_X8_98 (Nat.le_of_ble_eq_true rfl) rfl rfl rfl rfl ⟨Nat.le_of_ble_eq_true rfl, Nat.le_of_ble_eq_true rfl⟩ rfl hl.1 rfl (Nat.le_of_ble_eq_true rfl) dX8_isMatched_129 ⟨Nat.le_of_ble_eq_true rfl, Nat.le_of_ble_eq_true rfl⟩) (fun H locs hW hS => ?_)
                    exact J_132 q129 hf H locs ls hW hS (lv_sub hl [0, 1, 2, 3, 4, 5, 6, 7, 8] rfl)
                  · have hf := cn_f c117 hf
                    refine lv_iload hx hb dX8_isMatched_120 (lv_at hl 8 rfl) ?_
                    refine lv_goto (tgt := 132) hx hb dX8_isMatched_122 (by decide) ?_
                    exact J_132 t_86.2 hf H locs ls hW hS (lv_sub hl [0, 1, 2, 3, 4, 5, 6, 7, 8] rfl)
            exact J_86 ((0 : Int32), (0 : Int32)) hf H locs ls hW hS (lv_sub hl [3, 4, 5, 6, 7, 8, 2, 1, 0] rfl)
          have J_77 : fX8_isMatched_77 M a1 a2 t_20 t_5 = some y1 → ∀ (H : Heap) (locs : List Loc) (ls : Array Slot), gx_W Γ C M H → va_S (gA Γ) s.heap H locs → lv_has ls 11 [(0, .ref (Γ.1 475)), (1, .int a1), (2, .int a2), (3, .int t_5.1), (4, .int t_5.2), (5, .int t_20)] → W p l e rm_X8_isMatched s m args below meth c H locs 0 0 Q (F0 m 77 ls []) := by
            intro  hf H locs ls hW hS hl
            unfold fX8_isMatched_77 at hf
            refine lv_iconst (v := (0 : Int32)) hx hb dX8_isMatched_77 (by decide) ?_
            exact J_78 (0 : Int32) hf H locs ls hW hS (lv_sub hl [0, 1, 2, 3, 4, 5] rfl)
          refine lv_icmp_ne (tgt := 77) hx hb dX8_isMatched_44 (by decide) (fun c44 => ?_) (fun c44 => ?_)
          · have hf := cn_f c44 hf
            exact J_77  hf H locs ls hW hS (lv_sub hl [0, 1, 2, 3, 4, 5] rfl)
          · have hf := cn_t c44 hf
            refine lv_aload_n hx hb dX8_isMatched_47 rfl (lv_at hl 0 rfl) ?_
            refine lv_iload_n hx hb dX8_isMatched_48 rfl (lv_at hl 1 rfl) ?_
            refine lv_iload hx hb dX8_isMatched_49 (lv_at hl 4 rfl) ?_
            obtain ⟨q51, hq51, hf⟩ := bnd_e hf
            refine gk0_i hS (gv_run (rest := []) S hG hW hS [.int a1, .int t_5.2] (c_X8_at l Γ C M a1 t_5.2 hq51) pk_X8_at ml_X8_81 (Nat.le_of_ble_eq_true rfl) rfl rfl rfl rfl ⟨Nat.le_of_ble_eq_true rfl, Nat.le_of_ble_eq_true rfl⟩ rfl hl.1 rfl (Nat.le_of_ble_eq_true rfl) dX8_isMatched_51 ⟨Nat.le_of_ble_eq_true rfl, Nat.le_of_ble_eq_true rfl⟩) (fun H locs hW hS => ?_)
            refine lv_bipush (v := (42 : Int32)) hx hb dX8_isMatched_54 (by decide) ?_
            refine lv_icmp_ne (tgt := 77) hx hb dX8_isMatched_56 (by decide) (fun c56 => ?_) (fun c56 => ?_)
            · have hf := cn_f c56 hf
              exact J_77  hf H locs ls hW hS (lv_sub hl [0, 1, 2, 3, 4, 5] rfl)
            · have hf := cn_t c56 hf
              refine lv_aload_n hx hb dX8_isMatched_59 rfl (lv_at hl 0 rfl) ?_
              refine lv_iload_n hx hb dX8_isMatched_60 rfl (lv_at hl 1 rfl) ?_
              refine lv_iload hx hb dX8_isMatched_61 (lv_at hl 4 rfl) ?_
              refine lv_iconst (v := (1 : Int32)) hx hb dX8_isMatched_63 (by decide) ?_
              refine lv_iadd hx hb dX8_isMatched_64 ?_
              obtain ⟨q65, hq65, hf⟩ := bnd_e hf
              refine gk0_i hS (gv_run (rest := []) S hG hW hS [.int a1, .int (t_5.2 + (1 : Int32))] (c_X8_at l Γ C M a1 (t_5.2 + (1 : Int32)) hq65) pk_X8_at ml_X8_81 (Nat.le_of_ble_eq_true rfl) rfl rfl rfl rfl ⟨Nat.le_of_ble_eq_true rfl, Nat.le_of_ble_eq_true rfl⟩ rfl hl.1 rfl (Nat.le_of_ble_eq_true rfl) dX8_isMatched_65 ⟨Nat.le_of_ble_eq_true rfl, Nat.le_of_ble_eq_true rfl⟩) (fun H locs hW hS => ?_)
              refine lv_bipush (v := (42 : Int32)) hx hb dX8_isMatched_68 (by decide) ?_
              refine lv_icmp_ne (tgt := 77) hx hb dX8_isMatched_70 (by decide) (fun c70 => ?_) (fun c70 => ?_)
              · have hf := cn_f c70 hf
                exact J_77  hf H locs ls hW hS (lv_sub hl [0, 1, 2, 3, 4, 5] rfl)
              · have hf := cn_t c70 hf
                refine lv_iconst (v := (1 : Int32)) hx hb dX8_isMatched_73 (by decide) ?_
                refine lv_goto (tgt := 78) hx hb dX8_isMatched_74 (by decide) ?_
                exact J_78 (1 : Int32) hf H locs ls hW hS (lv_sub hl [0, 1, 2, 3, 4, 5] rfl)
        refine lv_icmp_eq (tgt := 38) hx hb dX8_isMatched_29 (by decide) (fun c29 => ?_) (fun c29 => ?_)
        · have hf := cn_t c29 hf
          obtain ⟨z29, hf, ez⟩ := exR_e hf
          rw [kX2 _ ez] at hf
          exact J_38  hf H locs ls hW hS (lv_sub hl [0, 1, 2, 3, 4, 5] rfl)
        · have hf := cn_f c29 hf
          refine lv_iinc (v := (t_20 + (1 : Int32))) (lv' := [(5, .int (t_20 + (1 : Int32))), (0, .ref (Γ.1 475)), (1, .int a1), (2, .int a2), (3, .int t_5.1), (4, .int t_5.2)]) hx hb dX8_isMatched_32 hl (k := 5) rfl rfl (by decide) rfl (fun ls hl => ?_)
          refine lv_goto (tgt := 20) hx hb dX8_isMatched_35 (by decide) ?_
          exact kI2 _ (Option.some.inj hf).symm H locs ls hW hS (lv_sub hl [1, 2, 3, 4, 5, 0] rfl)
      exact J_20 t_5.2 hf H locs ls hW hS (lv_sub hl [1, 2, 3, 4, 5, 0] rfl)
  exact J_5 ((1 : Int32), (0 : Int32)) hf H locs ls hW hS (lv_sub hl [2, 3, 4, 1, 0] rfl)
noncomputable def fX8_matches_55 (C_55 : Mem) : Option (Int32 × Mem) := some ((0 : Int32), C_55)
noncomputable def fX8_matches_31 (M : Mem) (a1 : Int32) (s0_31 : Int32) : Option (Int32 × Mem) := cnd (((mset M 475 26 s0_31) 475 26) = (0 : Int32)) (bnd (fX8_isMatched (mset M 475 26 s0_31) (76 : Int32) a1) fun q45 => cnd (q45 = (0 : Int32)) (fX8_matches_55 (mset M 475 26 s0_31)) (some ((1 : Int32), (mset M 475 26 s0_31)))) (fX8_matches_55 (mset M 475 26 s0_31))
noncomputable def fX8_matches (M : Mem) (a1 : Int32) : Option (Int32 × Mem) := cnd ((fX8_isIn a1 (0 : Int32) ((M 475 2) - (1 : Int32))) = (0 : Int32)) (fX8_matches_31 M a1 (1 : Int32)) (bnd (fX8_isGlobNow M) fun q20 => cnd (q20 = (0 : Int32)) (fX8_matches_31 M a1 (2 : Int32)) (fX8_matches_31 M a1 (0 : Int32)))
abbrev rm_X8_matches : Room := { frames := 3, cells := 0, slots := 0, locals := 85 }
set_option maxRecDepth 100000 in
set_option maxHeartbeats 4000000 in
theorem c_X8_matches (l : Launch) (Γ : gx_G) (C M : Mem) (a1 : Int32) {y0 : (Int32 × Mem)} (hf : fX8_matches M a1 = some y0) : Met l yX8_matches (.code yX8_matches cX8_matches 2 (some .boolean) :: TsG) rm_X8_matches (va_Pc [.ref (Γ.1 475), .int a1] (gx_P Γ C M)) (gx_Qi Γ y0.1 C y0.2) 0 0 (gA Γ) := by
  refine gm_i (by decide) (Nat.le_of_ble_eq_true rfl) ?_
  intro p e s m args below meth c Q S hG hret ls H locs hl hW hS
  obtain ⟨hx, hb, hml, hown, hts⟩ := id S
  have hl : lv_has ls 2 [(0, .ref (Γ.1 475)), (1, .int a1)] := hl
  unfold fX8_matches at hf
  refine lv_aload_n hx hb dX8_matches_0 rfl (lv_at hl 0 rfl) ?_
  refine lv_iload_n hx hb dX8_matches_1 rfl (lv_at hl 1 rfl) ?_
  refine lv_iconst (v := (0 : Int32)) hx hb dX8_matches_2 (by decide) ?_
  refine lv_aload_n hx hb dX8_matches_3 rfl (lv_at hl 0 rfl) ?_
  refine get_X8_2 S hG hW fl_X8_108 dX8_matches_4 ?_
  refine lv_iconst (v := (1 : Int32)) hx hb dX8_matches_7 (by decide) ?_
  refine lv_isub hx hb dX8_matches_8 ?_
  refine gk0_i hS (gs_run (rest := [.ref (Γ.1 475)]) S hG hW hS [.int a1, .int (0 : Int32), .int ((M 475 2) - (1 : Int32))] (c_X8_isIn l Γ C M a1 (0 : Int32) ((M 475 2) - (1 : Int32))) pk_X8_isIn ml_X8_111 rfl rfl ⟨Nat.le_of_ble_eq_true rfl, Nat.le_of_ble_eq_true rfl⟩ rfl hl.1 rfl (Nat.le_of_ble_eq_true rfl) dX8_matches_9 ⟨Nat.le_of_ble_eq_true rfl, Nat.le_of_ble_eq_true rfl⟩) (fun H locs hW hS => ?_)
  have J_31 : ∀ (s0_31 : Int32) , fX8_matches_31 M a1 s0_31 = some y0 → ∀ (H : Heap) (locs : List Loc) (ls : Array Slot), gx_W Γ C M H → va_S (gA Γ) s.heap H locs → lv_has ls 2 [(0, .ref (Γ.1 475)), (1, .int a1)] → W p l e rm_X8_matches s m args below meth c H locs 0 0 Q (F0 m 31 ls [.int s0_31, .ref (Γ.1 475)]) := by
    intro s0_31 hf H locs ls hW hS hl
    unfold fX8_matches_31 at hf
    refine put_X8_26 S hG hW hS fl_X8_77 dX8_matches_31 (fun H locs hW hS => ?_)
    refine lv_aload_n hx hb dX8_matches_34 rfl (lv_at hl 0 rfl) ?_
    refine get_X8_26 S hG hW fl_X8_77 dX8_matches_35 ?_
    have J_55 : ∀ (C_55 : Mem) , fX8_matches_55 C_55 = some y0 → ∀ (H : Heap) (locs : List Loc) (ls : Array Slot), gx_W Γ C C_55 H → va_S (gA Γ) s.heap H locs → lv_has ls 2 [] → W p l e rm_X8_matches s m args below meth c H locs 0 0 Q (F0 m 55 ls []) := by
      intro C_55 hf H locs ls hW hS hl
      unfold fX8_matches_55 at hf
      refine lv_iconst (v := (0 : Int32)) hx hb dX8_matches_55 (by decide) ?_
      have e9 := Option.some.inj hf
      subst e9
      exact hret _ _ _ _ _ hW hS rfl rfl dX8_matches_56
    refine lv_if_ne (tgt := 55) hx hb dX8_matches_38 (by decide) (fun c38 => ?_) (fun c38 => ?_)
    · have hf := cn_f c38 hf
      exact J_55 (mset M 475 26 s0_31) hf H locs ls hW hS (lv_sub hl [] rfl)
    · have hf := cn_t c38 hf
      refine lv_aload_n hx hb dX8_matches_41 rfl (lv_at hl 0 rfl) ?_
      refine lv_bipush (v := (76 : Int32)) hx hb dX8_matches_42 (by decide) ?_
      refine lv_iload_n hx hb dX8_matches_44 rfl (lv_at hl 1 rfl) ?_
      obtain ⟨q45, hq45, hf⟩ := bnd_e hf
      refine gk0_i hS (gv_run (rest := []) S hG hW hS [.int (76 : Int32), .int a1] (c_X8_isMatched l Γ C (mset M 475 26 s0_31) (76 : Int32) a1 hq45) pk_X8_isMatched ml_X8_123 (Nat.le_of_ble_eq_true rfl) rfl rfl rfl rfl ⟨Nat.le_of_ble_eq_true rfl, Nat.le_of_ble_eq_true rfl⟩ rfl hl.1 rfl (Nat.le_of_ble_eq_true rfl) dX8_matches_45 ⟨Nat.le_of_ble_eq_true rfl, Nat.le_of_ble_eq_true rfl⟩) (fun H locs hW hS => ?_)
      refine lv_if_eq (tgt := 55) hx hb dX8_matches_48 (by decide) (fun c48 => ?_) (fun c48 => ?_)
      · have hf := cn_t c48 hf
        exact J_55 (mset M 475 26 s0_31) hf H locs ls hW hS (lv_sub hl [] rfl)
      · have hf := cn_f c48 hf
        refine lv_iconst (v := (1 : Int32)) hx hb dX8_matches_51 (by decide) ?_
        refine lv_goto (tgt := 56) hx hb dX8_matches_52 (by decide) ?_
        have e9 := Option.some.inj hf
        subst e9
        exact hret _ _ _ _ _ hW hS rfl rfl dX8_matches_56
  refine lv_if_ne (tgt := 19) hx hb dX8_matches_12 (by decide) (fun c12 => ?_) (fun c12 => ?_)
  · have hf := cn_f c12 hf
    refine lv_aload_n hx hb dX8_matches_19 rfl (lv_at hl 0 rfl) ?_
    obtain ⟨q20, hq20, hf⟩ := bnd_e hf
    refine gk0_i hS (gv_run (rest := [.ref (Γ.1 475)]) S hG hW hS [] (c_X8_isGlobNow l Γ C M hq20) pk_X8_isGlobNow ml_X8_92 (Nat.le_of_ble_eq_true rfl) rfl rfl rfl rfl ⟨Nat.le_of_ble_eq_true rfl, Nat.le_of_ble_eq_true rfl⟩ rfl hl.1 rfl (Nat.le_of_ble_eq_true rfl) dX8_matches_20 ⟨Nat.le_of_ble_eq_true rfl, Nat.le_of_ble_eq_true rfl⟩) (fun H locs hW hS => ?_)
    refine lv_if_eq (tgt := 30) hx hb dX8_matches_23 (by decide) (fun c23 => ?_) (fun c23 => ?_)
    · have hf := cn_t c23 hf
      refine lv_iconst (v := (2 : Int32)) hx hb dX8_matches_30 (by decide) ?_
      exact J_31 (2 : Int32) hf H locs ls hW hS (lv_sub hl [0, 1] rfl)
    · have hf := cn_f c23 hf
      refine lv_iconst (v := (0 : Int32)) hx hb dX8_matches_26 (by decide) ?_
      refine lv_goto (tgt := 31) hx hb dX8_matches_27 (by decide) ?_
      exact J_31 (0 : Int32) hf H locs ls hW hS (lv_sub hl [0, 1] rfl)
  · have hf := cn_t c12 hf
    refine lv_iconst (v := (1 : Int32)) hx hb dX8_matches_15 (by decide) ?_
    refine lv_goto (tgt := 31) hx hb dX8_matches_16 (by decide) ?_
    exact J_31 (1 : Int32) hf H locs ls hW hS (lv_sub hl [0, 1] rfl)
noncomputable def fX8_addTarget_30 (M : Mem) (a1 : Int32) (s0_30 : Int32) : Option (Int32 × Mem) := cnd (((mset M 475 26 s0_30) 475 26) ≤ (0 : Int32)) (chk (vp_in ((mset M 475 26 s0_30) 475 9) 16) (some ((((mset (mset (mset M 475 26 s0_30) 484 ((mset M 475 26 s0_30) 475 9).toNatClampNeg a1) 475 9 (((mset (mset M 475 26 s0_30) 484 ((mset M 475 26 s0_30) 475 9).toNatClampNeg a1) 475 9) + (1 : Int32))) 475 9) - (1 : Int32)), (mset (mset (mset M 475 26 s0_30) 484 ((mset M 475 26 s0_30) 475 9).toNatClampNeg a1) 475 9 (((mset (mset M 475 26 s0_30) 484 ((mset M 475 26 s0_30) 475 9).toNatClampNeg a1) 475 9) + (1 : Int32)))))) (some ((0 : Int32), (mset M 475 26 s0_30)))
noncomputable def fX8_addTarget (M : Mem) (a1 : Int32) : Option (Int32 × Mem) := cnd ((fX8_isIn a1 (1 : Int32) (1000 : Int32)) = (0 : Int32)) (fX8_addTarget_30 M a1 (1 : Int32)) (cnd ((M 475 9) = (16 : Int32)) (fX8_addTarget_30 M a1 (2 : Int32)) (fX8_addTarget_30 M a1 (0 : Int32)))
abbrev rm_X8_addTarget : Room := { frames := 1, cells := 0, slots := 0, locals := 22 }
set_option maxRecDepth 100000 in
set_option maxHeartbeats 4000000 in
theorem c_X8_addTarget (l : Launch) (Γ : gx_G) (C M : Mem) (a1 : Int32) {y0 : (Int32 × Mem)} (hf : fX8_addTarget M a1 = some y0) : Met l yX8_addTarget (.code yX8_addTarget cX8_addTarget 2 (some .int) :: TsG) rm_X8_addTarget (va_Pc [.ref (Γ.1 475), .int a1] (gx_P Γ C M)) (gx_Qi Γ y0.1 C y0.2) 0 0 (gA Γ) := by
  refine gm_i (by decide) (Nat.le_of_ble_eq_true rfl) ?_
  intro p e s m args below meth c Q S hG hret ls H locs hl hW hS
  obtain ⟨hx, hb, hml, hown, hts⟩ := id S
  have hl : lv_has ls 2 [(0, .ref (Γ.1 475)), (1, .int a1)] := hl
  unfold fX8_addTarget at hf
  refine lv_aload_n hx hb dX8_addTarget_0 rfl (lv_at hl 0 rfl) ?_
  refine lv_iload_n hx hb dX8_addTarget_1 rfl (lv_at hl 1 rfl) ?_
  refine lv_iconst (v := (1 : Int32)) hx hb dX8_addTarget_2 (by decide) ?_
  refine lv_sipush (v := (1000 : Int32)) hx hb dX8_addTarget_3 (by decide) ?_
  refine gk0_i hS (gs_run (rest := [.ref (Γ.1 475)]) S hG hW hS [.int a1, .int (1 : Int32), .int (1000 : Int32)] (c_X8_isIn l Γ C M a1 (1 : Int32) (1000 : Int32)) pk_X8_isIn ml_X8_111 rfl rfl ⟨Nat.le_of_ble_eq_true rfl, Nat.le_of_ble_eq_true rfl⟩ rfl hl.1 rfl (Nat.le_of_ble_eq_true rfl) dX8_addTarget_6 ⟨Nat.le_of_ble_eq_true rfl, Nat.le_of_ble_eq_true rfl⟩) (fun H locs hW hS => ?_)
  have J_30 : ∀ (s0_30 : Int32) , fX8_addTarget_30 M a1 s0_30 = some y0 → ∀ (H : Heap) (locs : List Loc) (ls : Array Slot), gx_W Γ C M H → va_S (gA Γ) s.heap H locs → lv_has ls 2 [(0, .ref (Γ.1 475)), (1, .int a1)] → W p l e rm_X8_addTarget s m args below meth c H locs 0 0 Q (F0 m 30 ls [.int s0_30, .ref (Γ.1 475)]) := by
    intro s0_30 hf H locs ls hW hS hl
    unfold fX8_addTarget_30 at hf
    refine put_X8_26 S hG hW hS fl_X8_77 dX8_addTarget_30 (fun H locs hW hS => ?_)
    refine lv_aload_n hx hb dX8_addTarget_33 rfl (lv_at hl 0 rfl) ?_
    refine get_X8_26 S hG hW fl_X8_77 dX8_addTarget_34 ?_
    refine lv_if_le (tgt := 42) hx hb dX8_addTarget_37 (by decide) (fun c37 => ?_) (fun c37 => ?_)
    · have hf := cn_t c37 hf
      refine lv_aload_n hx hb dX8_addTarget_42 rfl (lv_at hl 0 rfl) ?_
      refine get_X8_10 S hG hW fl_X8_35 dX8_addTarget_43 ?_
      refine lv_aload_n hx hb dX8_addTarget_46 rfl (lv_at hl 0 rfl) ?_
      refine get_X8_9 S hG hW fl_X8_127 dX8_addTarget_47 ?_
      refine lv_iload_n hx hb dX8_addTarget_50 rfl (lv_at hl 1 rfl) ?_
      have g51 := ck_p hf
      have hf := ck_r hf
      refine ast_m S hG hW hS shk_484 lnk_484 g51 dX8_addTarget_51 (fun H locs hW hS => ?_)
      refine lv_aload_n hx hb dX8_addTarget_52 rfl (lv_at hl 0 rfl) ?_
      refine lv_dup hx hb dX8_addTarget_53 rfl ?_
      refine get_X8_9 S hG hW fl_X8_127 dX8_addTarget_54 ?_
      refine lv_iconst (v := (1 : Int32)) hx hb dX8_addTarget_57 (by decide) ?_
      refine lv_iadd hx hb dX8_addTarget_58 ?_
      refine put_X8_9 S hG hW hS fl_X8_127 dX8_addTarget_59 (fun H locs hW hS => ?_)
      refine lv_aload_n hx hb dX8_addTarget_62 rfl (lv_at hl 0 rfl) ?_
      refine get_X8_9 S hG hW fl_X8_127 dX8_addTarget_63 ?_
      refine lv_iconst (v := (1 : Int32)) hx hb dX8_addTarget_66 (by decide) ?_
      refine lv_isub hx hb dX8_addTarget_67 ?_
      have e9 := Option.some.inj hf
      subst e9
      exact hret _ _ _ _ _ hW hS rfl rfl dX8_addTarget_68
    · have hf := cn_f c37 hf
      refine lv_iconst (v := (0 : Int32)) hx hb dX8_addTarget_40 (by decide) ?_
      have e9 := Option.some.inj hf
      subst e9
      exact hret _ _ _ _ _ hW hS rfl rfl dX8_addTarget_41
  refine lv_if_ne (tgt := 16) hx hb dX8_addTarget_9 (by decide) (fun c9 => ?_) (fun c9 => ?_)
  · have hf := cn_f c9 hf
    refine lv_aload_n hx hb dX8_addTarget_16 rfl (lv_at hl 0 rfl) ?_
    refine get_X8_9 S hG hW fl_X8_127 dX8_addTarget_17 ?_
    refine lv_bipush (v := (16 : Int32)) hx hb dX8_addTarget_20 (by decide) ?_
    refine lv_icmp_ne (tgt := 29) hx hb dX8_addTarget_22 (by decide) (fun c22 => ?_) (fun c22 => ?_)
    · have hf := cn_f c22 hf
      refine lv_iconst (v := (0 : Int32)) hx hb dX8_addTarget_29 (by decide) ?_
      exact J_30 (0 : Int32) hf H locs ls hW hS (lv_sub hl [0, 1] rfl)
    · have hf := cn_t c22 hf
      refine lv_iconst (v := (2 : Int32)) hx hb dX8_addTarget_25 (by decide) ?_
      refine lv_goto (tgt := 30) hx hb dX8_addTarget_26 (by decide) ?_
      exact J_30 (2 : Int32) hf H locs ls hW hS (lv_sub hl [0, 1] rfl)
  · have hf := cn_t c9 hf
    refine lv_iconst (v := (1 : Int32)) hx hb dX8_addTarget_12 (by decide) ?_
    refine lv_goto (tgt := 30) hx hb dX8_addTarget_13 (by decide) ?_
    exact J_30 (1 : Int32) hf H locs ls hW hS (lv_sub hl [0, 1] rfl)
noncomputable def fX8_isTarget (M : Mem) (a1 : Int32) : Option Int32 := chk (narrow .boolean (.int (fX8_isIn a1 (0 : Int32) ((M 475 9) - (1 : Int32)))) = .int (fX8_isIn a1 (0 : Int32) ((M 475 9) - (1 : Int32)))) (some (fX8_isIn a1 (0 : Int32) ((M 475 9) - (1 : Int32))))
abbrev rm_X8_isTarget : Room := { frames := 1, cells := 0, slots := 0, locals := 22 }
set_option maxRecDepth 100000 in
set_option maxHeartbeats 4000000 in
theorem c_X8_isTarget (l : Launch) (Γ : gx_G) (C M : Mem) (a1 : Int32) {y0 : Int32} (hf : fX8_isTarget M a1 = some y0) : Met l yX8_isTarget (.code yX8_isTarget cX8_isTarget 2 (some .boolean) :: TsG) rm_X8_isTarget (va_Pc [.ref (Γ.1 475), .int a1] (gx_P Γ C M)) (gx_Qi Γ y0 C M) 0 0 (gA Γ) := by
  refine gm_i (by decide) (Nat.le_of_ble_eq_true rfl) ?_
  intro p e s m args below meth c Q S hG hret ls H locs hl hW hS
  obtain ⟨hx, hb, hml, hown, hts⟩ := id S
  have hl : lv_has ls 2 [(0, .ref (Γ.1 475)), (1, .int a1)] := hl
  unfold fX8_isTarget at hf
  refine lv_iload_n hx hb dX8_isTarget_0 rfl (lv_at hl 1 rfl) ?_
  refine lv_iconst (v := (0 : Int32)) hx hb dX8_isTarget_1 (by decide) ?_
  refine lv_aload_n hx hb dX8_isTarget_2 rfl (lv_at hl 0 rfl) ?_
  refine get_X8_9 S hG hW fl_X8_127 dX8_isTarget_3 ?_
  refine lv_iconst (v := (1 : Int32)) hx hb dX8_isTarget_6 (by decide) ?_
  refine lv_isub hx hb dX8_isTarget_7 ?_
  refine gk0_i hS (gs_run (rest := []) S hG hW hS [.int a1, .int (0 : Int32), .int ((M 475 9) - (1 : Int32))] (c_X8_isIn l Γ C M a1 (0 : Int32) ((M 475 9) - (1 : Int32))) pk_X8_isIn ml_X8_111 rfl rfl ⟨Nat.le_of_ble_eq_true rfl, Nat.le_of_ble_eq_true rfl⟩ rfl hl.1 rfl (Nat.le_of_ble_eq_true rfl) dX8_isTarget_8 ⟨Nat.le_of_ble_eq_true rfl, Nat.le_of_ble_eq_true rfl⟩) (fun H locs hW hS => ?_)
  have n9 := ck_p hf
  have hf := ck_r hf
  exact hret _ _ _ _ _ hW hS n9 (Option.some.inj hf) dX8_isTarget_11
noncomputable def fX8_copies_2 (a1 : Int32) : (Mem × Int32) → Option ((Mem × Int32) ⊕ Mem) := fun t_2 => chk (vp_in (76 : Int32) 77) (cnd ((t_2.1 477 (76 : Int32).toNatClampNeg) ≤ t_2.2) (exR (chk (vp_in (76 : Int32) 77) (chk (vp_in a1 77) (some (mset t_2.1 477 a1.toNatClampNeg (t_2.1 477 (76 : Int32).toNatClampNeg)))))) (chk (vp_in ((1824 : Int32) + t_2.2) 1848) (chk (vp_in (((24 : Int32) * a1) + t_2.2) 1848) (some (.inl ((mset t_2.1 476 (((24 : Int32) * a1) + t_2.2).toNatClampNeg (t_2.1 476 ((1824 : Int32) + t_2.2).toNatClampNeg)), (t_2.2 + (1 : Int32))))))))
noncomputable def fX8_copies (M : Mem) (a1 : Int32) : Option Mem := lp (fX8_copies_2 a1) (M, (0 : Int32))
abbrev rm_X8_copies : Room := { frames := 0, cells := 0, slots := 0, locals := 0 }
set_option maxRecDepth 100000 in
set_option maxHeartbeats 4000000 in
theorem c_X8_copies (l : Launch) (Γ : gx_G) (C M : Mem) (a1 : Int32) {y0 : Mem} (hf : fX8_copies M a1 = some y0) : Met l yX8_copies (.code yX8_copies cX8_copies 3 none :: TsG) rm_X8_copies (va_Pc [.ref (Γ.1 475), .int a1] (gx_P Γ C M)) (gx_Qv Γ C y0) 0 0 (gA Γ) := by
  refine gm_v (by decide) (Nat.le_of_ble_eq_true rfl) ?_
  intro p e s m args below meth c Q S hG hret ls H locs hl hW hS
  obtain ⟨hx, hb, hml, hown, hts⟩ := id S
  have hl : lv_has ls 3 [(0, .ref (Γ.1 475)), (1, .int a1)] := hl
  unfold fX8_copies at hf
  refine lv_iconst (v := (0 : Int32)) hx hb dX8_copies_0 (by decide) ?_
  refine lv_istore_n (lv' := [(2, .int (0 : Int32)), (0, .ref (Γ.1 475)), (1, .int a1)]) hx hb dX8_copies_1 rfl hl (by decide) rfl (fun ls hl => ?_)
  have J_2 : ∀  (t_2 : Mem × Int32), lp (fX8_copies_2 a1) t_2 = some y0 → ∀ (H : Heap) (locs : List Loc) (ls : Array Slot), gx_W Γ C t_2.1 H → va_S (gA Γ) s.heap H locs → lv_has ls 3 [(0, .ref (Γ.1 475)), (1, .int a1), (2, .int t_2.2)] → W p l e rm_X8_copies s m args below meth c H locs 0 0 Q (F0 m 2 ls []) := by
    refine lp_ind (P := fun (t_2 : Mem × Int32) => ∀ (H : Heap) (locs : List Loc) (ls : Array Slot), gx_W Γ C t_2.1 H → va_S (gA Γ) s.heap H locs → lv_has ls 3 [(0, .ref (Γ.1 475)), (1, .int a1), (2, .int t_2.2)] → W p l e rm_X8_copies s m args below meth c H locs 0 0 Q (F0 m 2 ls [])) ?_
    intro t_2 y1 hf kI1 kX1 H locs ls hW hS hl
    unfold fX8_copies_2 at hf
    refine lv_iload_n hx hb dX8_copies_2 rfl (lv_at hl 2 rfl) ?_
    refine lv_aload_n hx hb dX8_copies_3 rfl (lv_at hl 0 rfl) ?_
    refine get_X8_1 S hG hW fl_X8_13 dX8_copies_4 ?_
    refine lv_bipush (v := (76 : Int32)) hx hb dX8_copies_7 (by decide) ?_
    have g9 := ck_p hf
    have hf := ck_r hf
    refine ald_m S hG hW shk_477 lnk_477 g9 dX8_copies_9 ?_
    refine lv_icmp_ge (tgt := 40) hx hb dX8_copies_10 (by decide) (fun c10 => ?_) (fun c10 => ?_)
    · have hf := cn_t c10 hf
      obtain ⟨z10, hf, ez⟩ := exR_e hf
      rw [kX1 _ ez] at hf
      refine lv_aload_n hx hb dX8_copies_40 rfl (lv_at hl 0 rfl) ?_
      refine get_X8_1 S hG hW fl_X8_13 dX8_copies_41 ?_
      refine lv_iload_n hx hb dX8_copies_44 rfl (lv_at hl 1 rfl) ?_
      refine lv_aload_n hx hb dX8_copies_45 rfl (lv_at hl 0 rfl) ?_
      refine get_X8_1 S hG hW fl_X8_13 dX8_copies_46 ?_
      refine lv_bipush (v := (76 : Int32)) hx hb dX8_copies_49 (by decide) ?_
      have g51 := ck_p hf
      have hf := ck_r hf
      refine ald_m S hG hW shk_477 lnk_477 g51 dX8_copies_51 ?_
      have g52 := ck_p hf
      have hf := ck_r hf
      refine ast_m S hG hW hS shk_477 lnk_477 g52 dX8_copies_52 (fun H locs hW hS => ?_)
      have e9 := Option.some.inj hf
      subst e9
      exact hret _ _ _ _ hW hS dX8_copies_53
    · have hf := cn_f c10 hf
      refine lv_aload_n hx hb dX8_copies_13 rfl (lv_at hl 0 rfl) ?_
      refine get_X8_0 S hG hW fl_X8_7 dX8_copies_14 ?_
      refine lv_bipush (v := (24 : Int32)) hx hb dX8_copies_17 (by decide) ?_
      refine lv_iload_n hx hb dX8_copies_19 rfl (lv_at hl 1 rfl) ?_
      refine lv_imul hx hb dX8_copies_20 ?_
      refine lv_iload_n hx hb dX8_copies_21 rfl (lv_at hl 2 rfl) ?_
      refine lv_iadd hx hb dX8_copies_22 ?_
      refine lv_aload_n hx hb dX8_copies_23 rfl (lv_at hl 0 rfl) ?_
      refine get_X8_0 S hG hW fl_X8_7 dX8_copies_24 ?_
      refine lv_sipush (v := (1824 : Int32)) hx hb dX8_copies_27 (by decide) ?_
      refine lv_iload_n hx hb dX8_copies_30 rfl (lv_at hl 2 rfl) ?_
      refine lv_iadd hx hb dX8_copies_31 ?_
      have g32 := ck_p hf
      have hf := ck_r hf
      refine ald_m S hG hW shk_476 lnk_476 g32 dX8_copies_32 ?_
      have g33 := ck_p hf
      have hf := ck_r hf
      refine ast_m S hG hW hS shk_476 lnk_476 g33 dX8_copies_33 (fun H locs hW hS => ?_)
      refine lv_iinc (v := (t_2.2 + (1 : Int32))) (lv' := [(2, .int (t_2.2 + (1 : Int32))), (0, .ref (Γ.1 475)), (1, .int a1)]) hx hb dX8_copies_34 hl (k := 2) rfl rfl (by decide) rfl (fun ls hl => ?_)
      refine lv_goto (tgt := 2) hx hb dX8_copies_37 (by decide) ?_
      exact kI1 _ (Option.some.inj hf).symm H locs ls hW hS (lv_sub hl [1, 2, 0] rfl)
  exact J_2 (M, (0 : Int32)) hf H locs ls hW hS (lv_sub hl [1, 2, 0] rfl)
noncomputable def fX8_takes_5 (M : Mem) (a1 : Int32) (a2 : Int32) : (Int32 × Int32) → Option ((Int32 × Int32) ⊕ Int32) := fun t_5 => chk (vp_in a1 16) (cnd ((M 485 a1.toNatClampNeg) ≤ t_5.2) (exR (chk (narrow .boolean (.int t_5.1) = .int t_5.1) (some t_5.1))) (bnd (fX8_isMatched M (((4 : Int32) * a1) + t_5.2) a2) fun q25 => nmv ((t_5.1 ||| q25)) fun v29 => some (.inl (v29, (t_5.2 + (1 : Int32))))))
noncomputable def fX8_takes (M : Mem) (a1 : Int32) (a2 : Int32) : Option Int32 := lp (fX8_takes_5 M a1 a2) ((0 : Int32), (0 : Int32))
abbrev rm_X8_takes : Room := { frames := 3, cells := 0, slots := 0, locals := 85 }
set_option maxRecDepth 100000 in
set_option maxHeartbeats 4000000 in
theorem c_X8_takes (l : Launch) (Γ : gx_G) (C M : Mem) (a1 : Int32) (a2 : Int32) {y0 : Int32} (hf : fX8_takes M a1 a2 = some y0) : Met l yX8_takes (.code yX8_takes cX8_takes 5 (some .boolean) :: TsG) rm_X8_takes (va_Pc [.ref (Γ.1 475), .int a1, .int a2] (gx_P Γ C M)) (gx_Qi Γ y0 C M) 0 0 (gA Γ) := by
  refine gm_i (by decide) (Nat.le_of_ble_eq_true rfl) ?_
  intro p e s m args below meth c Q S hG hret ls H locs hl hW hS
  obtain ⟨hx, hb, hml, hown, hts⟩ := id S
  have hl : lv_has ls 5 [(0, .ref (Γ.1 475)), (1, .int a1), (2, .int a2)] := hl
  unfold fX8_takes at hf
  refine lv_iconst (v := (0 : Int32)) hx hb dX8_takes_0 (by decide) ?_
  refine lv_istore_n (lv' := [(3, .int (0 : Int32)), (0, .ref (Γ.1 475)), (1, .int a1), (2, .int a2)]) hx hb dX8_takes_1 rfl hl (by decide) rfl (fun ls hl => ?_)
  refine lv_iconst (v := (0 : Int32)) hx hb dX8_takes_2 (by decide) ?_
  refine lv_istore (lv' := [(4, .int (0 : Int32)), (3, .int (0 : Int32)), (0, .ref (Γ.1 475)), (1, .int a1), (2, .int a2)]) hx hb dX8_takes_3 hl (by decide) rfl (fun ls hl => ?_)
  have J_5 : ∀  (t_5 : Int32 × Int32), lp (fX8_takes_5 M a1 a2) t_5 = some y0 → ∀ (H : Heap) (locs : List Loc) (ls : Array Slot), gx_W Γ C M H → va_S (gA Γ) s.heap H locs → lv_has ls 5 [(0, .ref (Γ.1 475)), (1, .int a1), (2, .int a2), (3, .int t_5.1), (4, .int t_5.2)] → W p l e rm_X8_takes s m args below meth c H locs 0 0 Q (F0 m 5 ls []) := by
    refine lp_ind (P := fun (t_5 : Int32 × Int32) => ∀ (H : Heap) (locs : List Loc) (ls : Array Slot), gx_W Γ C M H → va_S (gA Γ) s.heap H locs → lv_has ls 5 [(0, .ref (Γ.1 475)), (1, .int a1), (2, .int a2), (3, .int t_5.1), (4, .int t_5.2)] → W p l e rm_X8_takes s m args below meth c H locs 0 0 Q (F0 m 5 ls [])) ?_
    intro t_5 y1 hf kI1 kX1 H locs ls hW hS hl
    unfold fX8_takes_5 at hf
    refine lv_iload hx hb dX8_takes_5 (lv_at hl 4 rfl) ?_
    refine lv_aload_n hx hb dX8_takes_7 rfl (lv_at hl 0 rfl) ?_
    refine get_X8_11 S hG hW fl_X8_38 dX8_takes_8 ?_
    refine lv_iload_n hx hb dX8_takes_11 rfl (lv_at hl 1 rfl) ?_
    have g12 := ck_p hf
    have hf := ck_r hf
    refine ald_m S hG hW shk_485 lnk_485 g12 dX8_takes_12 ?_
    refine lv_icmp_ge (tgt := 36) hx hb dX8_takes_13 (by decide) (fun c13 => ?_) (fun c13 => ?_)
    · have hf := cn_t c13 hf
      obtain ⟨z13, hf, ez⟩ := exR_e hf
      rw [kX1 _ ez] at hf
      refine lv_iload_n hx hb dX8_takes_36 rfl (lv_at hl 3 rfl) ?_
      have n9 := ck_p hf
      have hf := ck_r hf
      exact hret _ _ _ _ _ hW hS n9 (Option.some.inj hf) dX8_takes_37
    · have hf := cn_f c13 hf
      refine lv_iload_n hx hb dX8_takes_16 rfl (lv_at hl 3 rfl) ?_
      refine lv_aload_n hx hb dX8_takes_17 rfl (lv_at hl 0 rfl) ?_
      refine lv_iconst (v := (4 : Int32)) hx hb dX8_takes_18 (by decide) ?_
      refine lv_iload_n hx hb dX8_takes_19 rfl (lv_at hl 1 rfl) ?_
      refine lv_imul hx hb dX8_takes_20 ?_
      refine lv_iload hx hb dX8_takes_21 (lv_at hl 4 rfl) ?_
      refine lv_iadd hx hb dX8_takes_23 ?_
      refine lv_iload_n hx hb dX8_takes_24 rfl (lv_at hl 2 rfl) ?_
      obtain ⟨q25, hq25, hf⟩ := bnd_e hf
      refine gk0_i hS (gv_run (rest := [.int t_5.1]) S hG hW hS [.int (((4 : Int32) * a1) + t_5.2), .int a2] (c_X8_isMatched l Γ C M (((4 : Int32) * a1) + t_5.2) a2 hq25) pk_X8_isMatched ml_X8_123 (Nat.le_of_ble_eq_true rfl) rfl rfl rfl rfl ⟨Nat.le_of_ble_eq_true rfl, Nat.le_of_ble_eq_true rfl⟩ rfl hl.1 rfl (Nat.le_of_ble_eq_true rfl) dX8_takes_25 ⟨Nat.le_of_ble_eq_true rfl, Nat.le_of_ble_eq_true rfl⟩) (fun H locs hW hS => ?_)
      refine lv_ior hx hb dX8_takes_28 ?_
      refine lv_topi (fun v29 ev29 => ?_)
      have hf := nm_v ev29 hf
      refine lv_istore_n (lv' := [(3, .int v29), (0, .ref (Γ.1 475)), (1, .int a1), (2, .int a2), (4, .int t_5.2)]) hx hb dX8_takes_29 rfl hl (by decide) rfl (fun ls hl => ?_)
      refine lv_iinc (v := (t_5.2 + (1 : Int32))) (lv' := [(4, .int (t_5.2 + (1 : Int32))), (3, .int v29), (0, .ref (Γ.1 475)), (1, .int a1), (2, .int a2)]) hx hb dX8_takes_30 hl (k := 4) rfl rfl (by decide) rfl (fun ls hl => ?_)
      refine lv_goto (tgt := 5) hx hb dX8_takes_33 (by decide) ?_
      exact kI1 _ (Option.some.inj hf).symm H locs ls hW hS (lv_sub hl [2, 3, 4, 1, 0] rfl)
  exact J_5 ((0 : Int32), (0 : Int32)) hf H locs ls hW hS (lv_sub hl [2, 3, 4, 1, 0] rfl)
noncomputable def fX8_inputsOf_38 (M : Mem) (a1 : Int32) (t_4 : (Int32 × Int32)) (s0_38 : Int32) (s1_38 : Int32) : Option ((Int32 × Int32) ⊕ Int32) := nmv ((s1_38 ||| s0_38)) fun v39 => some (.inl (v39, (t_4.2 + (1 : Int32))))
noncomputable def fX8_inputsOf_37 (M : Mem) (a1 : Int32) (t_4 : (Int32 × Int32)) (s0_37 : Int32) : Option ((Int32 × Int32) ⊕ Int32) := fX8_inputsOf_38 M a1 t_4 (0 : Int32) s0_37
noncomputable def fX8_inputsOf_4 (M : Mem) (a1 : Int32) : (Int32 × Int32) → Option ((Int32 × Int32) ⊕ Int32) := fun t_4 => cnd ((M 475 2) ≤ t_4.2) (exR (some t_4.1)) (chk (vp_in t_4.2 24) (cnd ((M 480 t_4.2.toNatClampNeg) = (0 : Int32)) (fX8_inputsOf_37 M a1 t_4 t_4.1) (bnd (fX8_takes M a1 t_4.2) fun q25 => cnd (q25 = (0 : Int32)) (fX8_inputsOf_37 M a1 t_4 t_4.1) (fX8_inputsOf_38 M a1 t_4 ((1 : Int32) <<< (t_4.2 &&& 31)) t_4.1))))
noncomputable def fX8_inputsOf (M : Mem) (a1 : Int32) : Option Int32 := lp (fX8_inputsOf_4 M a1) ((0 : Int32), (0 : Int32))
abbrev rm_X8_inputsOf : Room := { frames := 4, cells := 0, slots := 0, locals := 109 }
set_option maxRecDepth 100000 in
set_option maxHeartbeats 4000000 in
theorem c_X8_inputsOf (l : Launch) (Γ : gx_G) (C M : Mem) (a1 : Int32) {y0 : Int32} (hf : fX8_inputsOf M a1 = some y0) : Met l yX8_inputsOf (.code yX8_inputsOf cX8_inputsOf 4 (some .int) :: TsG) rm_X8_inputsOf (va_Pc [.ref (Γ.1 475), .int a1] (gx_P Γ C M)) (gx_Qi Γ y0 C M) 0 0 (gA Γ) := by
  refine gm_i (by decide) (Nat.le_of_ble_eq_true rfl) ?_
  intro p e s m args below meth c Q S hG hret ls H locs hl hW hS
  obtain ⟨hx, hb, hml, hown, hts⟩ := id S
  have hl : lv_has ls 4 [(0, .ref (Γ.1 475)), (1, .int a1)] := hl
  unfold fX8_inputsOf at hf
  refine lv_iconst (v := (0 : Int32)) hx hb dX8_inputsOf_0 (by decide) ?_
  refine lv_istore_n (lv' := [(2, .int (0 : Int32)), (0, .ref (Γ.1 475)), (1, .int a1)]) hx hb dX8_inputsOf_1 rfl hl (by decide) rfl (fun ls hl => ?_)
  refine lv_iconst (v := (0 : Int32)) hx hb dX8_inputsOf_2 (by decide) ?_
  refine lv_istore_n (lv' := [(3, .int (0 : Int32)), (2, .int (0 : Int32)), (0, .ref (Γ.1 475)), (1, .int a1)]) hx hb dX8_inputsOf_3 rfl hl (by decide) rfl (fun ls hl => ?_)
  have J_4 : ∀  (t_4 : Int32 × Int32), lp (fX8_inputsOf_4 M a1) t_4 = some y0 → ∀ (H : Heap) (locs : List Loc) (ls : Array Slot), gx_W Γ C M H → va_S (gA Γ) s.heap H locs → lv_has ls 4 [(0, .ref (Γ.1 475)), (1, .int a1), (2, .int t_4.1), (3, .int t_4.2)] → W p l e rm_X8_inputsOf s m args below meth c H locs 0 0 Q (F0 m 4 ls []) := by
    refine lp_ind (P := fun (t_4 : Int32 × Int32) => ∀ (H : Heap) (locs : List Loc) (ls : Array Slot), gx_W Γ C M H → va_S (gA Γ) s.heap H locs → lv_has ls 4 [(0, .ref (Γ.1 475)), (1, .int a1), (2, .int t_4.1), (3, .int t_4.2)] → W p l e rm_X8_inputsOf s m args below meth c H locs 0 0 Q (F0 m 4 ls [])) ?_
    intro t_4 y1 hf kI1 kX1 H locs ls hW hS hl
    unfold fX8_inputsOf_4 at hf
    refine lv_iload_n hx hb dX8_inputsOf_4 rfl (lv_at hl 3 rfl) ?_
    refine lv_aload_n hx hb dX8_inputsOf_5 rfl (lv_at hl 0 rfl) ?_
    refine get_X8_2 S hG hW fl_X8_108 dX8_inputsOf_6 ?_
    refine lv_icmp_ge (tgt := 46) hx hb dX8_inputsOf_9 (by decide) (fun c9 => ?_) (fun c9 => ?_)
    · have hf := cn_t c9 hf
      obtain ⟨z9, hf, ez⟩ := exR_e hf
      rw [kX1 _ ez] at hf
      refine lv_iload_n hx hb dX8_inputsOf_46 rfl (lv_at hl 2 rfl) ?_
      exact hret _ _ _ _ _ hW hS rfl (Option.some.inj hf) dX8_inputsOf_47
    · have hf := cn_f c9 hf
      refine lv_iload_n hx hb dX8_inputsOf_12 rfl (lv_at hl 2 rfl) ?_
      refine lv_aload_n hx hb dX8_inputsOf_13 rfl (lv_at hl 0 rfl) ?_
      refine get_X8_5 S hG hW fl_X8_22 dX8_inputsOf_14 ?_
      refine lv_iload_n hx hb dX8_inputsOf_17 rfl (lv_at hl 3 rfl) ?_
      have g18 := ck_p hf
      have hf := ck_r hf
      refine ald_z S hG hW shk_480 lnk_480 g18 dX8_inputsOf_18 ?_
      have J_38 : ∀ (s0_38 : Int32) (s1_38 : Int32) , fX8_inputsOf_38 M a1 t_4 s0_38 s1_38 = some y1 → ∀ (H : Heap) (locs : List Loc) (ls : Array Slot), gx_W Γ C M H → va_S (gA Γ) s.heap H locs → lv_has ls 4 [(0, .ref (Γ.1 475)), (1, .int a1), (3, .int t_4.2)] → W p l e rm_X8_inputsOf s m args below meth c H locs 0 0 Q (F0 m 38 ls [.int s0_38, .int s1_38]) := by
        intro s0_38 s1_38 hf H locs ls hW hS hl
        unfold fX8_inputsOf_38 at hf
        refine lv_ior hx hb dX8_inputsOf_38 ?_
        refine lv_topi (fun v39 ev39 => ?_)
        have hf := nm_v ev39 hf
        refine lv_istore_n (lv' := [(2, .int v39), (0, .ref (Γ.1 475)), (1, .int a1), (3, .int t_4.2)]) hx hb dX8_inputsOf_39 rfl hl (by decide) rfl (fun ls hl => ?_)
        refine lv_iinc (v := (t_4.2 + (1 : Int32))) (lv' := [(3, .int (t_4.2 + (1 : Int32))), (2, .int v39), (0, .ref (Γ.1 475)), (1, .int a1)]) hx hb dX8_inputsOf_40 hl (k := 3) rfl rfl (by decide) rfl (fun ls hl => ?_)
        refine lv_goto (tgt := 4) hx hb dX8_inputsOf_43 (by decide) ?_
        exact kI1 _ (Option.some.inj hf).symm H locs ls hW hS (lv_sub hl [2, 3, 1, 0] rfl)
      have J_37 : ∀ (s0_37 : Int32) , fX8_inputsOf_37 M a1 t_4 s0_37 = some y1 → ∀ (H : Heap) (locs : List Loc) (ls : Array Slot), gx_W Γ C M H → va_S (gA Γ) s.heap H locs → lv_has ls 4 [(0, .ref (Γ.1 475)), (1, .int a1), (3, .int t_4.2)] → W p l e rm_X8_inputsOf s m args below meth c H locs 0 0 Q (F0 m 37 ls [.int s0_37]) := by
        intro s0_37 hf H locs ls hW hS hl
        unfold fX8_inputsOf_37 at hf
        refine lv_iconst (v := (0 : Int32)) hx hb dX8_inputsOf_37 (by decide) ?_
        exact J_38 (0 : Int32) s0_37 hf H locs ls hW hS (lv_sub hl [0, 1, 2] rfl)
      refine lv_if_eq (tgt := 37) hx hb dX8_inputsOf_19 (by decide) (fun c19 => ?_) (fun c19 => ?_)
      · have hf := cn_t c19 hf
        exact J_37 t_4.1 hf H locs ls hW hS (lv_sub hl [0, 1, 3] rfl)
      · have hf := cn_f c19 hf
        refine lv_aload_n hx hb dX8_inputsOf_22 rfl (lv_at hl 0 rfl) ?_
        refine lv_iload_n hx hb dX8_inputsOf_23 rfl (lv_at hl 1 rfl) ?_
        refine lv_iload_n hx hb dX8_inputsOf_24 rfl (lv_at hl 3 rfl) ?_
        obtain ⟨q25, hq25, hf⟩ := bnd_e hf
        refine gk0_i hS (gv_run (rest := [.int t_4.1]) S hG hW hS [.int a1, .int t_4.2] (c_X8_takes l Γ C M a1 t_4.2 hq25) pk_X8_takes ml_X8_130 (Nat.le_of_ble_eq_true rfl) rfl rfl rfl rfl ⟨Nat.le_of_ble_eq_true rfl, Nat.le_of_ble_eq_true rfl⟩ rfl hl.1 rfl (Nat.le_of_ble_eq_true rfl) dX8_inputsOf_25 ⟨Nat.le_of_ble_eq_true rfl, Nat.le_of_ble_eq_true rfl⟩) (fun H locs hW hS => ?_)
        refine lv_if_eq (tgt := 37) hx hb dX8_inputsOf_28 (by decide) (fun c28 => ?_) (fun c28 => ?_)
        · have hf := cn_t c28 hf
          exact J_37 t_4.1 hf H locs ls hW hS (lv_sub hl [0, 1, 3] rfl)
        · have hf := cn_f c28 hf
          refine lv_iconst (v := (1 : Int32)) hx hb dX8_inputsOf_31 (by decide) ?_
          refine lv_iload_n hx hb dX8_inputsOf_32 rfl (lv_at hl 3 rfl) ?_
          refine lv_ishl hx hb dX8_inputsOf_33 ?_
          refine lv_goto (tgt := 38) hx hb dX8_inputsOf_34 (by decide) ?_
          exact J_38 ((1 : Int32) <<< (t_4.2 &&& 31)) t_4.1 hf H locs ls hW hS (lv_sub hl [0, 1, 3] rfl)
  exact J_4 ((0 : Int32), (0 : Int32)) hf H locs ls hW hS (lv_sub hl [2, 3, 1, 0] rfl)
noncomputable def fX8_count_4 (a1 : Int32) : (Int32 × Int32) → Option ((Int32 × Int32) ⊕ Int32) := fun t_4 => cnd ((24 : Int32) ≤ t_4.2) (exR (some t_4.1)) (nmv ((t_4.1 + ((a1 >>> (t_4.2 &&& 31)) &&& (1 : Int32)))) fun v17 => some (.inl (v17, (t_4.2 + (1 : Int32)))))
noncomputable def fX8_count (a1 : Int32) : Option Int32 := lp (fX8_count_4 a1) ((0 : Int32), (0 : Int32))
abbrev rm_X8_count : Room := { frames := 0, cells := 0, slots := 0, locals := 0 }
set_option maxRecDepth 100000 in
set_option maxHeartbeats 4000000 in
theorem c_X8_count (l : Launch) (Γ : gx_G) (C M : Mem) (a1 : Int32) {y0 : Int32} (hf : fX8_count a1 = some y0) : Met l yX8_count (.code yX8_count cX8_count 3 (some .int) :: TsG) rm_X8_count (va_Pc [.int a1] (gx_P Γ C M)) (gx_Qi Γ y0 C M) 0 0 (gA Γ) := by
  refine gm_i (by decide) (Nat.le_of_ble_eq_true rfl) ?_
  intro p e s m args below meth c Q S hG hret ls H locs hl hW hS
  obtain ⟨hx, hb, hml, hown, hts⟩ := id S
  have hl : lv_has ls 3 [(0, .int a1)] := hl
  unfold fX8_count at hf
  refine lv_iconst (v := (0 : Int32)) hx hb dX8_count_0 (by decide) ?_
  refine lv_istore_n (lv' := [(1, .int (0 : Int32)), (0, .int a1)]) hx hb dX8_count_1 rfl hl (by decide) rfl (fun ls hl => ?_)
  refine lv_iconst (v := (0 : Int32)) hx hb dX8_count_2 (by decide) ?_
  refine lv_istore_n (lv' := [(2, .int (0 : Int32)), (1, .int (0 : Int32)), (0, .int a1)]) hx hb dX8_count_3 rfl hl (by decide) rfl (fun ls hl => ?_)
  have J_4 : ∀  (t_4 : Int32 × Int32), lp (fX8_count_4 a1) t_4 = some y0 → ∀ (H : Heap) (locs : List Loc) (ls : Array Slot), gx_W Γ C M H → va_S (gA Γ) s.heap H locs → lv_has ls 3 [(0, .int a1), (1, .int t_4.1), (2, .int t_4.2)] → W p l e rm_X8_count s m args below meth c H locs 0 0 Q (F0 m 4 ls []) := by
    refine lp_ind (P := fun (t_4 : Int32 × Int32) => ∀ (H : Heap) (locs : List Loc) (ls : Array Slot), gx_W Γ C M H → va_S (gA Γ) s.heap H locs → lv_has ls 3 [(0, .int a1), (1, .int t_4.1), (2, .int t_4.2)] → W p l e rm_X8_count s m args below meth c H locs 0 0 Q (F0 m 4 ls [])) ?_
    intro t_4 y1 hf kI1 kX1 H locs ls hW hS hl
    unfold fX8_count_4 at hf
    refine lv_iload_n hx hb dX8_count_4 rfl (lv_at hl 2 rfl) ?_
    refine lv_bipush (v := (24 : Int32)) hx hb dX8_count_5 (by decide) ?_
    refine lv_icmp_ge (tgt := 24) hx hb dX8_count_7 (by decide) (fun c7 => ?_) (fun c7 => ?_)
    · have hf := cn_t c7 hf
      obtain ⟨z7, hf, ez⟩ := exR_e hf
      rw [kX1 _ ez] at hf
      refine lv_iload_n hx hb dX8_count_24 rfl (lv_at hl 1 rfl) ?_
      exact hret _ _ _ _ _ hW hS rfl (Option.some.inj hf) dX8_count_25
    · have hf := cn_f c7 hf
      refine lv_iload_n hx hb dX8_count_10 rfl (lv_at hl 1 rfl) ?_
      refine lv_iload_n hx hb dX8_count_11 rfl (lv_at hl 0 rfl) ?_
      refine lv_iload_n hx hb dX8_count_12 rfl (lv_at hl 2 rfl) ?_
      refine lv_ishr hx hb dX8_count_13 ?_
      refine lv_iconst (v := (1 : Int32)) hx hb dX8_count_14 (by decide) ?_
      refine lv_iand hx hb dX8_count_15 ?_
      refine lv_iadd hx hb dX8_count_16 ?_
      refine lv_topi (fun v17 ev17 => ?_)
      have hf := nm_v ev17 hf
      refine lv_istore_n (lv' := [(1, .int v17), (0, .int a1), (2, .int t_4.2)]) hx hb dX8_count_17 rfl hl (by decide) rfl (fun ls hl => ?_)
      refine lv_iinc (v := (t_4.2 + (1 : Int32))) (lv' := [(2, .int (t_4.2 + (1 : Int32))), (1, .int v17), (0, .int a1)]) hx hb dX8_count_18 hl (k := 2) rfl rfl (by decide) rfl (fun ls hl => ?_)
      refine lv_goto (tgt := 4) hx hb dX8_count_21 (by decide) ?_
      exact kI1 _ (Option.some.inj hf).symm H locs ls hW hS (lv_sub hl [2, 1, 0] rfl)
  exact J_4 ((0 : Int32), (0 : Int32)) hf H locs ls hW hS (lv_sub hl [2, 1, 0] rfl)
noncomputable def fX8_addGlob_39 (M : Mem) (a1 : Int32) (s0_39 : Int32) : Option (Int32 × Mem) := cnd (((mset M 475 26 s0_39) 475 26) ≤ (0 : Int32)) (chk (vp_in a1 16) (bnd (fX8_copies (mset M 475 26 s0_39) (((4 : Int32) * a1) + ((mset M 475 26 s0_39) 485 a1.toNatClampNeg))) fun q62 => chk (vp_in a1 16) (chk (vp_in a1 16) (bnd (fX8_inputsOf (mset q62 485 a1.toNatClampNeg ((q62 485 a1.toNatClampNeg) + (1 : Int32))) a1) fun q77 => bnd (fX8_count q77) fun q80 => some (q80, (mset q62 485 a1.toNatClampNeg ((q62 485 a1.toNatClampNeg) + (1 : Int32)))))))) (some ((0 : Int32), (mset M 475 26 s0_39)))
noncomputable def fX8_addGlob (M : Mem) (a1 : Int32) : Option (Int32 × Mem) := bnd (fX8_isTarget M a1) fun q3 => cnd (q3 = (0 : Int32)) (fX8_addGlob_39 M a1 (1 : Int32)) (bnd (fX8_isGlobNow M) fun q14 => cnd (q14 = (0 : Int32)) (fX8_addGlob_39 M a1 (2 : Int32)) (chk (vp_in a1 16) (cnd ((M 485 a1.toNatClampNeg) = (4 : Int32)) (fX8_addGlob_39 M a1 (3 : Int32)) (fX8_addGlob_39 M a1 (0 : Int32)))))
abbrev rm_X8_addGlob : Room := { frames := 5, cells := 0, slots := 0, locals := 132 }
set_option maxRecDepth 100000 in
set_option maxHeartbeats 4000000 in
theorem c_X8_addGlob (l : Launch) (Γ : gx_G) (C M : Mem) (a1 : Int32) {y0 : (Int32 × Mem)} (hf : fX8_addGlob M a1 = some y0) : Met l yX8_addGlob (.code yX8_addGlob cX8_addGlob 2 (some .int) :: TsG) rm_X8_addGlob (va_Pc [.ref (Γ.1 475), .int a1] (gx_P Γ C M)) (gx_Qi Γ y0.1 C y0.2) 0 0 (gA Γ) := by
  refine gm_i (by decide) (Nat.le_of_ble_eq_true rfl) ?_
  intro p e s m args below meth c Q S hG hret ls H locs hl hW hS
  obtain ⟨hx, hb, hml, hown, hts⟩ := id S
  have hl : lv_has ls 2 [(0, .ref (Γ.1 475)), (1, .int a1)] := hl
  unfold fX8_addGlob at hf
  refine lv_aload_n hx hb dX8_addGlob_0 rfl (lv_at hl 0 rfl) ?_
  refine lv_aload_n hx hb dX8_addGlob_1 rfl (lv_at hl 0 rfl) ?_
  refine lv_iload_n hx hb dX8_addGlob_2 rfl (lv_at hl 1 rfl) ?_
  obtain ⟨q3, hq3, hf⟩ := bnd_e hf
  refine gk0_i hS (gv_run (rest := [.ref (Γ.1 475)]) S hG hW hS [.int a1] (c_X8_isTarget l Γ C M a1 hq3) pk_X8_isTarget ml_X8_133 (Nat.le_of_ble_eq_true rfl) rfl rfl rfl rfl ⟨Nat.le_of_ble_eq_true rfl, Nat.le_of_ble_eq_true rfl⟩ rfl hl.1 rfl (Nat.le_of_ble_eq_true rfl) dX8_addGlob_3 ⟨Nat.le_of_ble_eq_true rfl, Nat.le_of_ble_eq_true rfl⟩) (fun H locs hW hS => ?_)
  have J_39 : ∀ (s0_39 : Int32) , fX8_addGlob_39 M a1 s0_39 = some y0 → ∀ (H : Heap) (locs : List Loc) (ls : Array Slot), gx_W Γ C M H → va_S (gA Γ) s.heap H locs → lv_has ls 2 [(0, .ref (Γ.1 475)), (1, .int a1)] → W p l e rm_X8_addGlob s m args below meth c H locs 0 0 Q (F0 m 39 ls [.int s0_39, .ref (Γ.1 475)]) := by
    intro s0_39 hf H locs ls hW hS hl
    unfold fX8_addGlob_39 at hf
    refine put_X8_26 S hG hW hS fl_X8_77 dX8_addGlob_39 (fun H locs hW hS => ?_)
    refine lv_aload_n hx hb dX8_addGlob_42 rfl (lv_at hl 0 rfl) ?_
    refine get_X8_26 S hG hW fl_X8_77 dX8_addGlob_43 ?_
    refine lv_if_le (tgt := 51) hx hb dX8_addGlob_46 (by decide) (fun c46 => ?_) (fun c46 => ?_)
    · have hf := cn_t c46 hf
      refine lv_aload_n hx hb dX8_addGlob_51 rfl (lv_at hl 0 rfl) ?_
      refine lv_iconst (v := (4 : Int32)) hx hb dX8_addGlob_52 (by decide) ?_
      refine lv_iload_n hx hb dX8_addGlob_53 rfl (lv_at hl 1 rfl) ?_
      refine lv_imul hx hb dX8_addGlob_54 ?_
      refine lv_aload_n hx hb dX8_addGlob_55 rfl (lv_at hl 0 rfl) ?_
      refine get_X8_11 S hG hW fl_X8_38 dX8_addGlob_56 ?_
      refine lv_iload_n hx hb dX8_addGlob_59 rfl (lv_at hl 1 rfl) ?_
      have g60 := ck_p hf
      have hf := ck_r hf
      refine ald_m S hG hW shk_485 lnk_485 g60 dX8_addGlob_60 ?_
      refine lv_iadd hx hb dX8_addGlob_61 ?_
      obtain ⟨q62, hq62, hf⟩ := bnd_e hf
      refine gk0_v hS (gv_run (rest := []) S hG hW hS [.int (((4 : Int32) * a1) + ((mset M 475 26 s0_39) 485 a1.toNatClampNeg))] (c_X8_copies l Γ C (mset M 475 26 s0_39) (((4 : Int32) * a1) + ((mset M 475 26 s0_39) 485 a1.toNatClampNeg)) hq62) pk_X8_copies ml_X8_136 (Nat.le_of_ble_eq_true rfl) rfl rfl rfl rfl ⟨Nat.le_of_ble_eq_true rfl, Nat.le_of_ble_eq_true rfl⟩ rfl hl.1 rfl (Nat.le_of_ble_eq_true rfl) dX8_addGlob_62 ⟨Nat.le_of_ble_eq_true rfl, Nat.le_of_ble_eq_true rfl⟩) (fun H locs hW hS => ?_)
      refine lv_aload_n hx hb dX8_addGlob_65 rfl (lv_at hl 0 rfl) ?_
      refine get_X8_11 S hG hW fl_X8_38 dX8_addGlob_66 ?_
      refine lv_iload_n hx hb dX8_addGlob_69 rfl (lv_at hl 1 rfl) ?_
      refine lv_dup2_11 hx hb dX8_addGlob_70 rfl rfl ?_
      have g71 := ck_p hf
      have hf := ck_r hf
      refine ald_m S hG hW shk_485 lnk_485 g71 dX8_addGlob_71 ?_
      refine lv_iconst (v := (1 : Int32)) hx hb dX8_addGlob_72 (by decide) ?_
      refine lv_iadd hx hb dX8_addGlob_73 ?_
      have g74 := ck_p hf
      have hf := ck_r hf
      refine ast_m S hG hW hS shk_485 lnk_485 g74 dX8_addGlob_74 (fun H locs hW hS => ?_)
      refine lv_aload_n hx hb dX8_addGlob_75 rfl (lv_at hl 0 rfl) ?_
      refine lv_iload_n hx hb dX8_addGlob_76 rfl (lv_at hl 1 rfl) ?_
      obtain ⟨q77, hq77, hf⟩ := bnd_e hf
      refine gk0_i hS (gv_run (rest := []) S hG hW hS [.int a1] (c_X8_inputsOf l Γ C (mset q62 485 a1.toNatClampNeg ((q62 485 a1.toNatClampNeg) + (1 : Int32))) a1 hq77) pk_X8_inputsOf ml_X8_140 (Nat.le_of_ble_eq_true rfl) rfl rfl rfl rfl ⟨Nat.le_of_ble_eq_true rfl, Nat.le_of_ble_eq_true rfl⟩ rfl hl.1 rfl (Nat.le_of_ble_eq_true rfl) dX8_addGlob_77 ⟨Nat.le_of_ble_eq_true rfl, Nat.le_of_ble_eq_true rfl⟩) (fun H locs hW hS => ?_)
      obtain ⟨q80, hq80, hf⟩ := bnd_e hf
      refine gk0_i hS (gs_run (rest := []) S hG hW hS [.int q77] (c_X8_count l Γ C (mset q62 485 a1.toNatClampNeg ((q62 485 a1.toNatClampNeg) + (1 : Int32))) q77 hq80) pk_X8_count ml_X8_144 rfl rfl ⟨Nat.le_of_ble_eq_true rfl, Nat.le_of_ble_eq_true rfl⟩ rfl hl.1 rfl (Nat.le_of_ble_eq_true rfl) dX8_addGlob_80 ⟨Nat.le_of_ble_eq_true rfl, Nat.le_of_ble_eq_true rfl⟩) (fun H locs hW hS => ?_)
      have e9 := Option.some.inj hf
      subst e9
      exact hret _ _ _ _ _ hW hS rfl rfl dX8_addGlob_83
    · have hf := cn_f c46 hf
      refine lv_iconst (v := (0 : Int32)) hx hb dX8_addGlob_49 (by decide) ?_
      have e9 := Option.some.inj hf
      subst e9
      exact hret _ _ _ _ _ hW hS rfl rfl dX8_addGlob_50
  refine lv_if_ne (tgt := 13) hx hb dX8_addGlob_6 (by decide) (fun c6 => ?_) (fun c6 => ?_)
  · have hf := cn_f c6 hf
    refine lv_aload_n hx hb dX8_addGlob_13 rfl (lv_at hl 0 rfl) ?_
    obtain ⟨q14, hq14, hf⟩ := bnd_e hf
    refine gk0_i hS (gv_run (rest := [.ref (Γ.1 475)]) S hG hW hS [] (c_X8_isGlobNow l Γ C M hq14) pk_X8_isGlobNow ml_X8_92 (Nat.le_of_ble_eq_true rfl) rfl rfl rfl rfl ⟨Nat.le_of_ble_eq_true rfl, Nat.le_of_ble_eq_true rfl⟩ rfl hl.1 rfl (Nat.le_of_ble_eq_true rfl) dX8_addGlob_14 ⟨Nat.le_of_ble_eq_true rfl, Nat.le_of_ble_eq_true rfl⟩) (fun H locs hW hS => ?_)
    refine lv_if_ne (tgt := 24) hx hb dX8_addGlob_17 (by decide) (fun c17 => ?_) (fun c17 => ?_)
    · have hf := cn_f c17 hf
      refine lv_aload_n hx hb dX8_addGlob_24 rfl (lv_at hl 0 rfl) ?_
      refine get_X8_11 S hG hW fl_X8_38 dX8_addGlob_25 ?_
      refine lv_iload_n hx hb dX8_addGlob_28 rfl (lv_at hl 1 rfl) ?_
      have g29 := ck_p hf
      have hf := ck_r hf
      refine ald_m S hG hW shk_485 lnk_485 g29 dX8_addGlob_29 ?_
      refine lv_iconst (v := (4 : Int32)) hx hb dX8_addGlob_30 (by decide) ?_
      refine lv_icmp_ne (tgt := 38) hx hb dX8_addGlob_31 (by decide) (fun c31 => ?_) (fun c31 => ?_)
      · have hf := cn_f c31 hf
        refine lv_iconst (v := (0 : Int32)) hx hb dX8_addGlob_38 (by decide) ?_
        exact J_39 (0 : Int32) hf H locs ls hW hS (lv_sub hl [0, 1] rfl)
      · have hf := cn_t c31 hf
        refine lv_iconst (v := (3 : Int32)) hx hb dX8_addGlob_34 (by decide) ?_
        refine lv_goto (tgt := 39) hx hb dX8_addGlob_35 (by decide) ?_
        exact J_39 (3 : Int32) hf H locs ls hW hS (lv_sub hl [0, 1] rfl)
    · have hf := cn_t c17 hf
      refine lv_iconst (v := (2 : Int32)) hx hb dX8_addGlob_20 (by decide) ?_
      refine lv_goto (tgt := 39) hx hb dX8_addGlob_21 (by decide) ?_
      exact J_39 (2 : Int32) hf H locs ls hW hS (lv_sub hl [0, 1] rfl)
  · have hf := cn_t c6 hf
    refine lv_iconst (v := (1 : Int32)) hx hb dX8_addGlob_9 (by decide) ?_
    refine lv_goto (tgt := 39) hx hb dX8_addGlob_10 (by decide) ?_
    exact J_39 (1 : Int32) hf H locs ls hW hS (lv_sub hl [0, 1] rfl)
noncomputable def fX8_upwards_53 (M : Mem) (t_15 : (Int32 × Int32)) (t_4 : (Int32 × Int32)) : Option ((Int32 × Int32) ⊕ Int32) := some (.inl (t_15.1, (t_4.2 + (1 : Int32))))
noncomputable def fX8_upwards_45 (M : Mem) (t_15 : (Int32 × Int32)) (t_4 : (Int32 × Int32)) (s0_45 : Int32) (s1_45 : Int32) : Option ((Int32 × Int32) ⊕ ((Int32 × Int32) ⊕ Int32)) := nmv ((s1_45 ||| s0_45)) fun v46 => some (.inl (v46, (t_15.2 + (1 : Int32))))
noncomputable def fX8_upwards_15 (M : Mem) (t_4 : (Int32 × Int32)) : (Int32 × Int32) → Option ((Int32 × Int32) ⊕ ((Int32 × Int32) ⊕ Int32)) := fun t_15 => cnd ((M 475 9) ≤ t_15.2) (exR (fX8_upwards_53 M t_15 t_4)) (chk (vp_in t_15.2 16) (cnd (((M 486 t_15.2.toNatClampNeg) &&& t_15.1) = (0 : Int32)) (fX8_upwards_45 M t_15 t_4 (0 : Int32) t_15.1) (fX8_upwards_45 M t_15 t_4 ((1 : Int32) <<< (t_15.2 &&& 31)) t_15.1)))
noncomputable def fX8_upwards_4 (M : Mem) : (Int32 × Int32) → Option ((Int32 × Int32) ⊕ Int32) := fun t_4 => cnd ((M 475 9) ≤ t_4.2) (exR (some t_4.1)) (lp (fX8_upwards_15 M t_4) (t_4.1, (0 : Int32)))
noncomputable def fX8_upwards (M : Mem) (a1 : Int32) : Option Int32 := lp (fX8_upwards_4 M) (a1, (0 : Int32))
abbrev rm_X8_upwards : Room := { frames := 0, cells := 0, slots := 0, locals := 0 }
set_option maxRecDepth 100000 in
set_option maxHeartbeats 4000000 in
theorem c_X8_upwards (l : Launch) (Γ : gx_G) (C M : Mem) (a1 : Int32) {y0 : Int32} (hf : fX8_upwards M a1 = some y0) : Met l yX8_upwards (.code yX8_upwards cX8_upwards 5 (some .int) :: TsG) rm_X8_upwards (va_Pc [.ref (Γ.1 475), .int a1] (gx_P Γ C M)) (gx_Qi Γ y0 C M) 0 0 (gA Γ) := by
  refine gm_i (by decide) (Nat.le_of_ble_eq_true rfl) ?_
  intro p e s m args below meth c Q S hG hret ls H locs hl hW hS
  obtain ⟨hx, hb, hml, hown, hts⟩ := id S
  have hl : lv_has ls 5 [(0, .ref (Γ.1 475)), (1, .int a1)] := hl
  unfold fX8_upwards at hf
  refine lv_iload_n hx hb dX8_upwards_0 rfl (lv_at hl 1 rfl) ?_
  refine lv_istore_n (lv' := [(2, .int a1), (0, .ref (Γ.1 475)), (1, .int a1)]) hx hb dX8_upwards_1 rfl hl (by decide) rfl (fun ls hl => ?_)
  refine lv_iconst (v := (0 : Int32)) hx hb dX8_upwards_2 (by decide) ?_
  refine lv_istore_n (lv' := [(3, .int (0 : Int32)), (2, .int a1), (0, .ref (Γ.1 475)), (1, .int a1)]) hx hb dX8_upwards_3 rfl hl (by decide) rfl (fun ls hl => ?_)
  have J_4 : ∀  (t_4 : Int32 × Int32), lp (fX8_upwards_4 M) t_4 = some y0 → ∀ (H : Heap) (locs : List Loc) (ls : Array Slot), gx_W Γ C M H → va_S (gA Γ) s.heap H locs → lv_has ls 5 [(0, .ref (Γ.1 475)), (2, .int t_4.1), (3, .int t_4.2)] → W p l e rm_X8_upwards s m args below meth c H locs 0 0 Q (F0 m 4 ls []) := by
    refine lp_ind (P := fun (t_4 : Int32 × Int32) => ∀ (H : Heap) (locs : List Loc) (ls : Array Slot), gx_W Γ C M H → va_S (gA Γ) s.heap H locs → lv_has ls 5 [(0, .ref (Γ.1 475)), (2, .int t_4.1), (3, .int t_4.2)] → W p l e rm_X8_upwards s m args below meth c H locs 0 0 Q (F0 m 4 ls [])) ?_
    intro t_4 y1 hf kI1 kX1 H locs ls hW hS hl
    unfold fX8_upwards_4 at hf
    refine lv_iload_n hx hb dX8_upwards_4 rfl (lv_at hl 2 rfl) ?_
    refine lv_aload_n hx hb dX8_upwards_5 rfl (lv_at hl 0 rfl) ?_
    refine get_X8_9 S hG hW fl_X8_127 dX8_upwards_6 ?_
    refine lv_icmp_ge (tgt := 59) hx hb dX8_upwards_9 (by decide) (fun c9 => ?_) (fun c9 => ?_)
    · have hf := cn_t c9 hf
      obtain ⟨z9, hf, ez⟩ := exR_e hf
      rw [kX1 _ ez] at hf
      refine lv_iload_n hx hb dX8_upwards_59 rfl (lv_at hl 1 rfl) ?_
      exact hret _ _ _ _ _ hW hS rfl (Option.some.inj hf) dX8_upwards_60
    · have hf := cn_f c9 hf
      refine lv_iconst (v := (0 : Int32)) hx hb dX8_upwards_12 (by decide) ?_
      refine lv_istore (lv' := [(4, .int (0 : Int32)), (0, .ref (Γ.1 475)), (2, .int t_4.1), (3, .int t_4.2)]) hx hb dX8_upwards_13 hl (by decide) rfl (fun ls hl => ?_)
      have J_15 : ∀  (t_15 : Int32 × Int32), lp (fX8_upwards_15 M t_4) t_15 = some y1 → ∀ (H : Heap) (locs : List Loc) (ls : Array Slot), gx_W Γ C M H → va_S (gA Γ) s.heap H locs → lv_has ls 5 [(0, .ref (Γ.1 475)), (2, .int t_15.1), (3, .int t_4.2), (4, .int t_15.2)] → W p l e rm_X8_upwards s m args below meth c H locs 0 0 Q (F0 m 15 ls []) := by
        refine lp_ind (P := fun (t_15 : Int32 × Int32) => ∀ (H : Heap) (locs : List Loc) (ls : Array Slot), gx_W Γ C M H → va_S (gA Γ) s.heap H locs → lv_has ls 5 [(0, .ref (Γ.1 475)), (2, .int t_15.1), (3, .int t_4.2), (4, .int t_15.2)] → W p l e rm_X8_upwards s m args below meth c H locs 0 0 Q (F0 m 15 ls [])) ?_
        intro t_15 y2 hf kI2 kX2 H locs ls hW hS hl
        unfold fX8_upwards_15 at hf
        refine lv_iload hx hb dX8_upwards_15 (lv_at hl 3 rfl) ?_
        refine lv_aload_n hx hb dX8_upwards_17 rfl (lv_at hl 0 rfl) ?_
        refine get_X8_9 S hG hW fl_X8_127 dX8_upwards_18 ?_
        have J_53 : fX8_upwards_53 M t_15 t_4 = some y1 → ∀ (H : Heap) (locs : List Loc) (ls : Array Slot), gx_W Γ C M H → va_S (gA Γ) s.heap H locs → lv_has ls 5 [(0, .ref (Γ.1 475)), (2, .int t_15.1), (3, .int t_4.2)] → W p l e rm_X8_upwards s m args below meth c H locs 0 0 Q (F0 m 53 ls []) := by
          intro  hf H locs ls hW hS hl
          unfold fX8_upwards_53 at hf
          refine lv_iinc (v := (t_4.2 + (1 : Int32))) (lv' := [(3, .int (t_4.2 + (1 : Int32))), (0, .ref (Γ.1 475)), (2, .int t_15.1)]) hx hb dX8_upwards_53 hl (k := 2) rfl rfl (by decide) rfl (fun ls hl => ?_)
          refine lv_goto (tgt := 4) hx hb dX8_upwards_56 (by decide) ?_
          exact kI1 _ (Option.some.inj hf).symm H locs ls hW hS (lv_sub hl [1, 2, 0] rfl)
        refine lv_icmp_ge (tgt := 53) hx hb dX8_upwards_21 (by decide) (fun c21 => ?_) (fun c21 => ?_)
        · have hf := cn_t c21 hf
          obtain ⟨z21, hf, ez⟩ := exR_e hf
          rw [kX2 _ ez] at hf
          exact J_53  hf H locs ls hW hS (lv_sub hl [0, 1, 2] rfl)
        · have hf := cn_f c21 hf
          refine lv_iload_n hx hb dX8_upwards_24 rfl (lv_at hl 1 rfl) ?_
          refine lv_aload_n hx hb dX8_upwards_25 rfl (lv_at hl 0 rfl) ?_
          refine get_X8_12 S hG hW fl_X8_41 dX8_upwards_26 ?_
          refine lv_iload hx hb dX8_upwards_29 (lv_at hl 3 rfl) ?_
          have g31 := ck_p hf
          have hf := ck_r hf
          refine ald_m S hG hW shk_486 lnk_486 g31 dX8_upwards_31 ?_
          refine lv_iload_n hx hb dX8_upwards_32 rfl (lv_at hl 1 rfl) ?_
          refine lv_iand hx hb dX8_upwards_33 ?_
          have J_45 : ∀ (s0_45 : Int32) (s1_45 : Int32) , fX8_upwards_45 M t_15 t_4 s0_45 s1_45 = some y2 → ∀ (H : Heap) (locs : List Loc) (ls : Array Slot), gx_W Γ C M H → va_S (gA Γ) s.heap H locs → lv_has ls 5 [(0, .ref (Γ.1 475)), (3, .int t_4.2), (4, .int t_15.2)] → W p l e rm_X8_upwards s m args below meth c H locs 0 0 Q (F0 m 45 ls [.int s0_45, .int s1_45]) := by
            intro s0_45 s1_45 hf H locs ls hW hS hl
            unfold fX8_upwards_45 at hf
            refine lv_ior hx hb dX8_upwards_45 ?_
            refine lv_topi (fun v46 ev46 => ?_)
            have hf := nm_v ev46 hf
            refine lv_istore_n (lv' := [(2, .int v46), (0, .ref (Γ.1 475)), (3, .int t_4.2), (4, .int t_15.2)]) hx hb dX8_upwards_46 rfl hl (by decide) rfl (fun ls hl => ?_)
            refine lv_iinc (v := (t_15.2 + (1 : Int32))) (lv' := [(4, .int (t_15.2 + (1 : Int32))), (2, .int v46), (0, .ref (Γ.1 475)), (3, .int t_4.2)]) hx hb dX8_upwards_47 hl (k := 3) rfl rfl (by decide) rfl (fun ls hl => ?_)
            refine lv_goto (tgt := 15) hx hb dX8_upwards_50 (by decide) ?_
            exact kI2 _ (Option.some.inj hf).symm H locs ls hW hS (lv_sub hl [2, 1, 3, 0] rfl)
          refine lv_if_eq (tgt := 44) hx hb dX8_upwards_34 (by decide) (fun c34 => ?_) (fun c34 => ?_)
          · have hf := cn_t c34 hf
            refine lv_iconst (v := (0 : Int32)) hx hb dX8_upwards_44 (by decide) ?_
            exact J_45 (0 : Int32) t_15.1 hf H locs ls hW hS (lv_sub hl [0, 2, 3] rfl)
          · have hf := cn_f c34 hf
            refine lv_iconst (v := (1 : Int32)) hx hb dX8_upwards_37 (by decide) ?_
            refine lv_iload hx hb dX8_upwards_38 (lv_at hl 3 rfl) ?_
            refine lv_ishl hx hb dX8_upwards_40 ?_
            refine lv_goto (tgt := 45) hx hb dX8_upwards_41 (by decide) ?_
            exact J_45 ((1 : Int32) <<< (t_15.2 &&& 31)) t_15.1 hf H locs ls hW hS (lv_sub hl [0, 2, 3] rfl)
      exact J_15 (t_4.1, (0 : Int32)) hf H locs ls hW hS (lv_sub hl [1, 2, 3, 0] rfl)
  exact J_4 (a1, (0 : Int32)) hf H locs ls hW hS (lv_sub hl [2, 1, 0] rfl)
noncomputable def fX8_aboveOf (M : Mem) (a1 : Int32) : Option Int32 := bnd (fX8_upwards M ((1 : Int32) <<< (a1 &&& 31))) fun q4 => some (q4 &&& (((1 : Int32) <<< (a1 &&& 31)) ^^^ (-1 : Int32)))
abbrev rm_X8_aboveOf : Room := { frames := 1, cells := 0, slots := 0, locals := 24 }
set_option maxRecDepth 100000 in
set_option maxHeartbeats 4000000 in
theorem c_X8_aboveOf (l : Launch) (Γ : gx_G) (C M : Mem) (a1 : Int32) {y0 : Int32} (hf : fX8_aboveOf M a1 = some y0) : Met l yX8_aboveOf (.code yX8_aboveOf cX8_aboveOf 2 (some .int) :: TsG) rm_X8_aboveOf (va_Pc [.ref (Γ.1 475), .int a1] (gx_P Γ C M)) (gx_Qi Γ y0 C M) 0 0 (gA Γ) := by
  refine gm_i (by decide) (Nat.le_of_ble_eq_true rfl) ?_
  intro p e s m args below meth c Q S hG hret ls H locs hl hW hS
  obtain ⟨hx, hb, hml, hown, hts⟩ := id S
  have hl : lv_has ls 2 [(0, .ref (Γ.1 475)), (1, .int a1)] := hl
  unfold fX8_aboveOf at hf
  refine lv_aload_n hx hb dX8_aboveOf_0 rfl (lv_at hl 0 rfl) ?_
  refine lv_iconst (v := (1 : Int32)) hx hb dX8_aboveOf_1 (by decide) ?_
  refine lv_iload_n hx hb dX8_aboveOf_2 rfl (lv_at hl 1 rfl) ?_
  refine lv_ishl hx hb dX8_aboveOf_3 ?_
  obtain ⟨q4, hq4, hf⟩ := bnd_e hf
  refine gk0_i hS (gv_run (rest := []) S hG hW hS [.int ((1 : Int32) <<< (a1 &&& 31))] (c_X8_upwards l Γ C M ((1 : Int32) <<< (a1 &&& 31)) hq4) pk_X8_upwards ml_X8_147 (Nat.le_of_ble_eq_true rfl) rfl rfl rfl rfl ⟨Nat.le_of_ble_eq_true rfl, Nat.le_of_ble_eq_true rfl⟩ rfl hl.1 rfl (Nat.le_of_ble_eq_true rfl) dX8_aboveOf_4 ⟨Nat.le_of_ble_eq_true rfl, Nat.le_of_ble_eq_true rfl⟩) (fun H locs hW hS => ?_)
  refine lv_iconst (v := (1 : Int32)) hx hb dX8_aboveOf_7 (by decide) ?_
  refine lv_iload_n hx hb dX8_aboveOf_8 rfl (lv_at hl 1 rfl) ?_
  refine lv_ishl hx hb dX8_aboveOf_9 ?_
  refine lv_iconst (v := (-1 : Int32)) hx hb dX8_aboveOf_10 (by decide) ?_
  refine lv_ixor hx hb dX8_aboveOf_11 ?_
  refine lv_iand hx hb dX8_aboveOf_12 ?_
  exact hret _ _ _ _ _ hW hS rfl (Option.some.inj hf) dX8_aboveOf_13
noncomputable def fX8_depend_72 (a1 : Int32) (a2 : Int32) (C_72 : Mem) (s0_72 : Int32) : Option (Int32 × Mem) := cnd (((mset C_72 475 26 s0_72) 475 26) ≤ (0 : Int32)) (chk (vp_in a1 16) (chk (vp_in a1 16) (chk (vp_in a1 16) (bnd (fX8_count ((mset (mset C_72 475 26 s0_72) 486 a1.toNatClampNeg (((mset C_72 475 26 s0_72) 486 a1.toNatClampNeg) ||| ((1 : Int32) <<< (a2 &&& 31)))) 486 a1.toNatClampNeg)) fun q102 => some (q102, (mset (mset C_72 475 26 s0_72) 486 a1.toNatClampNeg (((mset C_72 475 26 s0_72) 486 a1.toNatClampNeg) ||| ((1 : Int32) <<< (a2 &&& 31))))))))) (some ((0 : Int32), (mset C_72 475 26 s0_72)))
noncomputable def fX8_depend_67 (a1 : Int32) (a2 : Int32) (C_67 : Mem) : Option (Int32 × Mem) := fX8_depend_72 a1 a2 C_67 (2 : Int32)
noncomputable def fX8_depend_22 (M : Mem) (a1 : Int32) (a2 : Int32) (s0_22 : Int32) : Option (Int32 × Mem) := cnd (((mset M 475 26 s0_22) 475 26) ≤ (0 : Int32)) (chk (vp_in a1 16) (cnd (((((mset M 475 26 s0_22) 486 a1.toNatClampNeg) >>> (a2 &&& 31)) &&& (1 : Int32)) = (1 : Int32)) (fX8_depend_67 a1 a2 (mset M 475 26 s0_22)) (cnd (a1 = a2) (fX8_depend_67 a1 a2 (mset M 475 26 s0_22)) (bnd (fX8_aboveOf (mset M 475 26 s0_22) a1) fun q56 => cnd (((q56 >>> (a2 &&& 31)) &&& (1 : Int32)) = (1 : Int32)) (fX8_depend_67 a1 a2 (mset M 475 26 s0_22)) (fX8_depend_72 a1 a2 (mset M 475 26 s0_22) (0 : Int32)))))) (some ((0 : Int32), (mset M 475 26 s0_22)))
noncomputable def fX8_depend_21 (M : Mem) (a1 : Int32) (a2 : Int32) : Option (Int32 × Mem) := fX8_depend_22 M a1 a2 (1 : Int32)
noncomputable def fX8_depend (M : Mem) (a1 : Int32) (a2 : Int32) : Option (Int32 × Mem) := bnd (fX8_isTarget M a1) fun q3 => cnd (q3 = (0 : Int32)) (fX8_depend_21 M a1 a2) (bnd (fX8_isTarget M a2) fun q11 => cnd (q11 = (0 : Int32)) (fX8_depend_21 M a1 a2) (fX8_depend_22 M a1 a2 (0 : Int32)))
abbrev rm_X8_depend : Room := { frames := 2, cells := 0, slots := 0, locals := 45 }
set_option maxRecDepth 100000 in
set_option maxHeartbeats 4000000 in
theorem c_X8_depend (l : Launch) (Γ : gx_G) (C M : Mem) (a1 : Int32) (a2 : Int32) {y0 : (Int32 × Mem)} (hf : fX8_depend M a1 a2 = some y0) : Met l yX8_depend (.code yX8_depend cX8_depend 3 (some .int) :: TsG) rm_X8_depend (va_Pc [.ref (Γ.1 475), .int a1, .int a2] (gx_P Γ C M)) (gx_Qi Γ y0.1 C y0.2) 0 0 (gA Γ) := by
  refine gm_i (by decide) (Nat.le_of_ble_eq_true rfl) ?_
  intro p e s m args below meth c Q S hG hret ls H locs hl hW hS
  obtain ⟨hx, hb, hml, hown, hts⟩ := id S
  have hl : lv_has ls 3 [(0, .ref (Γ.1 475)), (1, .int a1), (2, .int a2)] := hl
  unfold fX8_depend at hf
  refine lv_aload_n hx hb dX8_depend_0 rfl (lv_at hl 0 rfl) ?_
  refine lv_aload_n hx hb dX8_depend_1 rfl (lv_at hl 0 rfl) ?_
  refine lv_iload_n hx hb dX8_depend_2 rfl (lv_at hl 1 rfl) ?_
  obtain ⟨q3, hq3, hf⟩ := bnd_e hf
  refine gk0_i hS (gv_run (rest := [.ref (Γ.1 475)]) S hG hW hS [.int a1] (c_X8_isTarget l Γ C M a1 hq3) pk_X8_isTarget ml_X8_133 (Nat.le_of_ble_eq_true rfl) rfl rfl rfl rfl ⟨Nat.le_of_ble_eq_true rfl, Nat.le_of_ble_eq_true rfl⟩ rfl hl.1 rfl (Nat.le_of_ble_eq_true rfl) dX8_depend_3 ⟨Nat.le_of_ble_eq_true rfl, Nat.le_of_ble_eq_true rfl⟩) (fun H locs hW hS => ?_)
  have J_22 : ∀ (s0_22 : Int32) , fX8_depend_22 M a1 a2 s0_22 = some y0 → ∀ (H : Heap) (locs : List Loc) (ls : Array Slot), gx_W Γ C M H → va_S (gA Γ) s.heap H locs → lv_has ls 3 [(0, .ref (Γ.1 475)), (1, .int a1), (2, .int a2)] → W p l e rm_X8_depend s m args below meth c H locs 0 0 Q (F0 m 22 ls [.int s0_22, .ref (Γ.1 475)]) := by
    intro s0_22 hf H locs ls hW hS hl
    unfold fX8_depend_22 at hf
    refine put_X8_26 S hG hW hS fl_X8_77 dX8_depend_22 (fun H locs hW hS => ?_)
    refine lv_aload_n hx hb dX8_depend_25 rfl (lv_at hl 0 rfl) ?_
    refine get_X8_26 S hG hW fl_X8_77 dX8_depend_26 ?_
    refine lv_if_le (tgt := 34) hx hb dX8_depend_29 (by decide) (fun c29 => ?_) (fun c29 => ?_)
    · have hf := cn_t c29 hf
      refine lv_aload_n hx hb dX8_depend_34 rfl (lv_at hl 0 rfl) ?_
      refine lv_aload_n hx hb dX8_depend_35 rfl (lv_at hl 0 rfl) ?_
      refine get_X8_12 S hG hW fl_X8_41 dX8_depend_36 ?_
      refine lv_iload_n hx hb dX8_depend_39 rfl (lv_at hl 1 rfl) ?_
      have g40 := ck_p hf
      have hf := ck_r hf
      refine ald_m S hG hW shk_486 lnk_486 g40 dX8_depend_40 ?_
      refine lv_iload_n hx hb dX8_depend_41 rfl (lv_at hl 2 rfl) ?_
      refine lv_ishr hx hb dX8_depend_42 ?_
      refine lv_iconst (v := (1 : Int32)) hx hb dX8_depend_43 (by decide) ?_
      refine lv_iand hx hb dX8_depend_44 ?_
      refine lv_iconst (v := (1 : Int32)) hx hb dX8_depend_45 (by decide) ?_
      have J_72 : ∀ (C_72 : Mem) (s0_72 : Int32) , fX8_depend_72 a1 a2 C_72 s0_72 = some y0 → ∀ (H : Heap) (locs : List Loc) (ls : Array Slot), gx_W Γ C C_72 H → va_S (gA Γ) s.heap H locs → lv_has ls 3 [(0, .ref (Γ.1 475)), (1, .int a1), (2, .int a2)] → W p l e rm_X8_depend s m args below meth c H locs 0 0 Q (F0 m 72 ls [.int s0_72, .ref (Γ.1 475)]) := by
        intro C_72 s0_72 hf H locs ls hW hS hl
        unfold fX8_depend_72 at hf
        refine put_X8_26 S hG hW hS fl_X8_77 dX8_depend_72 (fun H locs hW hS => ?_)
        refine lv_aload_n hx hb dX8_depend_75 rfl (lv_at hl 0 rfl) ?_
        refine get_X8_26 S hG hW fl_X8_77 dX8_depend_76 ?_
        refine lv_if_le (tgt := 84) hx hb dX8_depend_79 (by decide) (fun c79 => ?_) (fun c79 => ?_)
        · have hf := cn_t c79 hf
          refine lv_aload_n hx hb dX8_depend_84 rfl (lv_at hl 0 rfl) ?_
          refine get_X8_12 S hG hW fl_X8_41 dX8_depend_85 ?_
          refine lv_iload_n hx hb dX8_depend_88 rfl (lv_at hl 1 rfl) ?_
          refine lv_dup2_11 hx hb dX8_depend_89 rfl rfl ?_
          have g90 := ck_p hf
          have hf := ck_r hf
          refine ald_m S hG hW shk_486 lnk_486 g90 dX8_depend_90 ?_
          refine lv_iconst (v := (1 : Int32)) hx hb dX8_depend_91 (by decide) ?_
          refine lv_iload_n hx hb dX8_depend_92 rfl (lv_at hl 2 rfl) ?_
          refine lv_ishl hx hb dX8_depend_93 ?_
          refine lv_ior hx hb dX8_depend_94 ?_
          have g95 := ck_p hf
          have hf := ck_r hf
          refine ast_m S hG hW hS shk_486 lnk_486 g95 dX8_depend_95 (fun H locs hW hS => ?_)
          refine lv_aload_n hx hb dX8_depend_96 rfl (lv_at hl 0 rfl) ?_
          refine get_X8_12 S hG hW fl_X8_41 dX8_depend_97 ?_
          refine lv_iload_n hx hb dX8_depend_100 rfl (lv_at hl 1 rfl) ?_
          have g101 := ck_p hf
          have hf := ck_r hf
          refine ald_m S hG hW shk_486 lnk_486 g101 dX8_depend_101 ?_
          obtain ⟨q102, hq102, hf⟩ := bnd_e hf
          refine gk0_i hS (gs_run (rest := []) S hG hW hS [.int ((mset (mset C_72 475 26 s0_72) 486 a1.toNatClampNeg (((mset C_72 475 26 s0_72) 486 a1.toNatClampNeg) ||| ((1 : Int32) <<< (a2 &&& 31)))) 486 a1.toNatClampNeg)] (c_X8_count l Γ C (mset (mset C_72 475 26 s0_72) 486 a1.toNatClampNeg (((mset C_72 475 26 s0_72) 486 a1.toNatClampNeg) ||| ((1 : Int32) <<< (a2 &&& 31)))) ((mset (mset C_72 475 26 s0_72) 486 a1.toNatClampNeg (((mset C_72 475 26 s0_72) 486 a1.toNatClampNeg) ||| ((1 : Int32) <<< (a2 &&& 31)))) 486 a1.toNatClampNeg) hq102) pk_X8_count ml_X8_144 rfl rfl ⟨Nat.le_of_ble_eq_true rfl, Nat.le_of_ble_eq_true rfl⟩ rfl hl.1 rfl (Nat.le_of_ble_eq_true rfl) dX8_depend_102 ⟨Nat.le_of_ble_eq_true rfl, Nat.le_of_ble_eq_true rfl⟩) (fun H locs hW hS => ?_)
          have e9 := Option.some.inj hf
          subst e9
          exact hret _ _ _ _ _ hW hS rfl rfl dX8_depend_105
        · have hf := cn_f c79 hf
          refine lv_iconst (v := (0 : Int32)) hx hb dX8_depend_82 (by decide) ?_
          have e9 := Option.some.inj hf
          subst e9
          exact hret _ _ _ _ _ hW hS rfl rfl dX8_depend_83
      have J_67 : ∀ (C_67 : Mem) , fX8_depend_67 a1 a2 C_67 = some y0 → ∀ (H : Heap) (locs : List Loc) (ls : Array Slot), gx_W Γ C C_67 H → va_S (gA Γ) s.heap H locs → lv_has ls 3 [(0, .ref (Γ.1 475)), (1, .int a1), (2, .int a2)] → W p l e rm_X8_depend s m args below meth c H locs 0 0 Q (F0 m 67 ls [.ref (Γ.1 475)]) := by
        intro C_67 hf H locs ls hW hS hl
        unfold fX8_depend_67 at hf
        refine lv_iconst (v := (2 : Int32)) hx hb dX8_depend_67 (by decide) ?_
        refine lv_goto (tgt := 72) hx hb dX8_depend_68 (by decide) ?_
        exact J_72 C_67 (2 : Int32) hf H locs ls hW hS (lv_sub hl [0, 1, 2] rfl)
      refine lv_icmp_eq (tgt := 67) hx hb dX8_depend_46 (by decide) (fun c46 => ?_) (fun c46 => ?_)
      · have hf := cn_t c46 hf
        exact J_67 (mset M 475 26 s0_22) hf H locs ls hW hS (lv_sub hl [0, 1, 2] rfl)
      · have hf := cn_f c46 hf
        refine lv_iload_n hx hb dX8_depend_49 rfl (lv_at hl 1 rfl) ?_
        refine lv_iload_n hx hb dX8_depend_50 rfl (lv_at hl 2 rfl) ?_
        refine lv_icmp_eq (tgt := 67) hx hb dX8_depend_51 (by decide) (fun c51 => ?_) (fun c51 => ?_)
        · have hf := cn_t c51 hf
          exact J_67 (mset M 475 26 s0_22) hf H locs ls hW hS (lv_sub hl [0, 1, 2] rfl)
        · have hf := cn_f c51 hf
          refine lv_aload_n hx hb dX8_depend_54 rfl (lv_at hl 0 rfl) ?_
          refine lv_iload_n hx hb dX8_depend_55 rfl (lv_at hl 1 rfl) ?_
          obtain ⟨q56, hq56, hf⟩ := bnd_e hf
          refine gk0_i hS (gv_run (rest := [.ref (Γ.1 475)]) S hG hW hS [.int a1] (c_X8_aboveOf l Γ C (mset M 475 26 s0_22) a1 hq56) pk_X8_aboveOf ml_X8_150 (Nat.le_of_ble_eq_true rfl) rfl rfl rfl rfl ⟨Nat.le_of_ble_eq_true rfl, Nat.le_of_ble_eq_true rfl⟩ rfl hl.1 rfl (Nat.le_of_ble_eq_true rfl) dX8_depend_56 ⟨Nat.le_of_ble_eq_true rfl, Nat.le_of_ble_eq_true rfl⟩) (fun H locs hW hS => ?_)
          refine lv_iload_n hx hb dX8_depend_59 rfl (lv_at hl 2 rfl) ?_
          refine lv_ishr hx hb dX8_depend_60 ?_
          refine lv_iconst (v := (1 : Int32)) hx hb dX8_depend_61 (by decide) ?_
          refine lv_iand hx hb dX8_depend_62 ?_
          refine lv_iconst (v := (1 : Int32)) hx hb dX8_depend_63 (by decide) ?_
          refine lv_icmp_ne (tgt := 71) hx hb dX8_depend_64 (by decide) (fun c64 => ?_) (fun c64 => ?_)
          · have hf := cn_f c64 hf
            refine lv_iconst (v := (0 : Int32)) hx hb dX8_depend_71 (by decide) ?_
            exact J_72 (mset M 475 26 s0_22) (0 : Int32) hf H locs ls hW hS (lv_sub hl [0, 1, 2] rfl)
          · have hf := cn_t c64 hf
            exact J_67 (mset M 475 26 s0_22) hf H locs ls hW hS (lv_sub hl [0, 1, 2] rfl)
    · have hf := cn_f c29 hf
      refine lv_iconst (v := (0 : Int32)) hx hb dX8_depend_32 (by decide) ?_
      have e9 := Option.some.inj hf
      subst e9
      exact hret _ _ _ _ _ hW hS rfl rfl dX8_depend_33
  have J_21 : fX8_depend_21 M a1 a2 = some y0 → ∀ (H : Heap) (locs : List Loc) (ls : Array Slot), gx_W Γ C M H → va_S (gA Γ) s.heap H locs → lv_has ls 3 [(0, .ref (Γ.1 475)), (1, .int a1), (2, .int a2)] → W p l e rm_X8_depend s m args below meth c H locs 0 0 Q (F0 m 21 ls [.ref (Γ.1 475)]) := by
    intro  hf H locs ls hW hS hl
    unfold fX8_depend_21 at hf
    refine lv_iconst (v := (1 : Int32)) hx hb dX8_depend_21 (by decide) ?_
    exact J_22 (1 : Int32) hf H locs ls hW hS (lv_sub hl [0, 1, 2] rfl)
  refine lv_if_eq (tgt := 21) hx hb dX8_depend_6 (by decide) (fun c6 => ?_) (fun c6 => ?_)
  · have hf := cn_t c6 hf
    exact J_21  hf H locs ls hW hS (lv_sub hl [0, 1, 2] rfl)
  · have hf := cn_f c6 hf
    refine lv_aload_n hx hb dX8_depend_9 rfl (lv_at hl 0 rfl) ?_
    refine lv_iload_n hx hb dX8_depend_10 rfl (lv_at hl 2 rfl) ?_
    obtain ⟨q11, hq11, hf⟩ := bnd_e hf
    refine gk0_i hS (gv_run (rest := [.ref (Γ.1 475)]) S hG hW hS [.int a2] (c_X8_isTarget l Γ C M a2 hq11) pk_X8_isTarget ml_X8_133 (Nat.le_of_ble_eq_true rfl) rfl rfl rfl rfl ⟨Nat.le_of_ble_eq_true rfl, Nat.le_of_ble_eq_true rfl⟩ rfl hl.1 rfl (Nat.le_of_ble_eq_true rfl) dX8_depend_11 ⟨Nat.le_of_ble_eq_true rfl, Nat.le_of_ble_eq_true rfl⟩) (fun H locs hW hS => ?_)
    refine lv_if_eq (tgt := 21) hx hb dX8_depend_14 (by decide) (fun c14 => ?_) (fun c14 => ?_)
    · have hf := cn_t c14 hf
      exact J_21  hf H locs ls hW hS (lv_sub hl [0, 1, 2] rfl)
    · have hf := cn_f c14 hf
      refine lv_iconst (v := (0 : Int32)) hx hb dX8_depend_17 (by decide) ?_
      refine lv_goto (tgt := 22) hx hb dX8_depend_18 (by decide) ?_
      exact J_22 (0 : Int32) hf H locs ls hW hS (lv_sub hl [0, 1, 2] rfl)
noncomputable def fX8_targets (M : Mem) : Option (Int32 × Mem) := some (((mset M 475 26 (0 : Int32)) 475 9), (mset M 475 26 (0 : Int32)))
abbrev rm_X8_targets : Room := { frames := 0, cells := 0, slots := 0, locals := 0 }
set_option maxRecDepth 100000 in
set_option maxHeartbeats 4000000 in
theorem c_X8_targets (l : Launch) (Γ : gx_G) (C M : Mem)  {y0 : (Int32 × Mem)} (hf : fX8_targets M = some y0) : Met l yX8_targets (.code yX8_targets cX8_targets 1 (some .int) :: TsG) rm_X8_targets (va_Pc [.ref (Γ.1 475)] (gx_P Γ C M)) (gx_Qi Γ y0.1 C y0.2) 0 0 (gA Γ) := by
  refine gm_i (by decide) (Nat.le_of_ble_eq_true rfl) ?_
  intro p e s m args below meth c Q S hG hret ls H locs hl hW hS
  obtain ⟨hx, hb, hml, hown, hts⟩ := id S
  have hl : lv_has ls 1 [(0, .ref (Γ.1 475))] := hl
  unfold fX8_targets at hf
  refine lv_aload_n hx hb dX8_targets_0 rfl (lv_at hl 0 rfl) ?_
  refine lv_iconst (v := (0 : Int32)) hx hb dX8_targets_1 (by decide) ?_
  refine put_X8_26 S hG hW hS fl_X8_77 dX8_targets_2 (fun H locs hW hS => ?_)
  refine lv_aload_n hx hb dX8_targets_5 rfl (lv_at hl 0 rfl) ?_
  refine get_X8_9 S hG hW fl_X8_127 dX8_targets_6 ?_
  have e9 := Option.some.inj hf
  subst e9
  exact hret _ _ _ _ _ hW hS rfl rfl dX8_targets_9
noncomputable def fX8_inputs_14 (M : Mem) (a1 : Int32) (s0_14 : Int32) : Option (Int32 × Mem) := cnd (((mset M 475 26 s0_14) 475 26) ≤ (0 : Int32)) (bnd (fX8_inputsOf (mset M 475 26 s0_14) a1) fun q30 => some (q30, (mset M 475 26 s0_14))) (some ((0 : Int32), (mset M 475 26 s0_14)))
noncomputable def fX8_inputs (M : Mem) (a1 : Int32) : Option (Int32 × Mem) := bnd (fX8_isTarget M a1) fun q3 => cnd (q3 = (0 : Int32)) (fX8_inputs_14 M a1 (1 : Int32)) (fX8_inputs_14 M a1 (0 : Int32))
abbrev rm_X8_inputs : Room := { frames := 5, cells := 0, slots := 0, locals := 132 }
set_option maxRecDepth 100000 in
set_option maxHeartbeats 4000000 in
theorem c_X8_inputs (l : Launch) (Γ : gx_G) (C M : Mem) (a1 : Int32) {y0 : (Int32 × Mem)} (hf : fX8_inputs M a1 = some y0) : Met l yX8_inputs (.code yX8_inputs cX8_inputs 2 (some .int) :: TsG) rm_X8_inputs (va_Pc [.ref (Γ.1 475), .int a1] (gx_P Γ C M)) (gx_Qi Γ y0.1 C y0.2) 0 0 (gA Γ) := by
  refine gm_i (by decide) (Nat.le_of_ble_eq_true rfl) ?_
  intro p e s m args below meth c Q S hG hret ls H locs hl hW hS
  obtain ⟨hx, hb, hml, hown, hts⟩ := id S
  have hl : lv_has ls 2 [(0, .ref (Γ.1 475)), (1, .int a1)] := hl
  unfold fX8_inputs at hf
  refine lv_aload_n hx hb dX8_inputs_0 rfl (lv_at hl 0 rfl) ?_
  refine lv_aload_n hx hb dX8_inputs_1 rfl (lv_at hl 0 rfl) ?_
  refine lv_iload_n hx hb dX8_inputs_2 rfl (lv_at hl 1 rfl) ?_
  obtain ⟨q3, hq3, hf⟩ := bnd_e hf
  refine gk0_i hS (gv_run (rest := [.ref (Γ.1 475)]) S hG hW hS [.int a1] (c_X8_isTarget l Γ C M a1 hq3) pk_X8_isTarget ml_X8_133 (Nat.le_of_ble_eq_true rfl) rfl rfl rfl rfl ⟨Nat.le_of_ble_eq_true rfl, Nat.le_of_ble_eq_true rfl⟩ rfl hl.1 rfl (Nat.le_of_ble_eq_true rfl) dX8_inputs_3 ⟨Nat.le_of_ble_eq_true rfl, Nat.le_of_ble_eq_true rfl⟩) (fun H locs hW hS => ?_)
  have J_14 : ∀ (s0_14 : Int32) , fX8_inputs_14 M a1 s0_14 = some y0 → ∀ (H : Heap) (locs : List Loc) (ls : Array Slot), gx_W Γ C M H → va_S (gA Γ) s.heap H locs → lv_has ls 2 [(0, .ref (Γ.1 475)), (1, .int a1)] → W p l e rm_X8_inputs s m args below meth c H locs 0 0 Q (F0 m 14 ls [.int s0_14, .ref (Γ.1 475)]) := by
    intro s0_14 hf H locs ls hW hS hl
    unfold fX8_inputs_14 at hf
    refine put_X8_26 S hG hW hS fl_X8_77 dX8_inputs_14 (fun H locs hW hS => ?_)
    refine lv_aload_n hx hb dX8_inputs_17 rfl (lv_at hl 0 rfl) ?_
    refine get_X8_26 S hG hW fl_X8_77 dX8_inputs_18 ?_
    refine lv_if_le (tgt := 28) hx hb dX8_inputs_21 (by decide) (fun c21 => ?_) (fun c21 => ?_)
    · have hf := cn_t c21 hf
      refine lv_aload_n hx hb dX8_inputs_28 rfl (lv_at hl 0 rfl) ?_
      refine lv_iload_n hx hb dX8_inputs_29 rfl (lv_at hl 1 rfl) ?_
      obtain ⟨q30, hq30, hf⟩ := bnd_e hf
      refine gk0_i hS (gv_run (rest := []) S hG hW hS [.int a1] (c_X8_inputsOf l Γ C (mset M 475 26 s0_14) a1 hq30) pk_X8_inputsOf ml_X8_140 (Nat.le_of_ble_eq_true rfl) rfl rfl rfl rfl ⟨Nat.le_of_ble_eq_true rfl, Nat.le_of_ble_eq_true rfl⟩ rfl hl.1 rfl (Nat.le_of_ble_eq_true rfl) dX8_inputs_30 ⟨Nat.le_of_ble_eq_true rfl, Nat.le_of_ble_eq_true rfl⟩) (fun H locs hW hS => ?_)
      have e9 := Option.some.inj hf
      subst e9
      exact hret _ _ _ _ _ hW hS rfl rfl dX8_inputs_33
    · have hf := cn_f c21 hf
      refine lv_iconst (v := (0 : Int32)) hx hb dX8_inputs_24 (by decide) ?_
      refine lv_goto (tgt := 33) hx hb dX8_inputs_25 (by decide) ?_
      have e9 := Option.some.inj hf
      subst e9
      exact hret _ _ _ _ _ hW hS rfl rfl dX8_inputs_33
  refine lv_if_eq (tgt := 13) hx hb dX8_inputs_6 (by decide) (fun c6 => ?_) (fun c6 => ?_)
  · have hf := cn_t c6 hf
    refine lv_iconst (v := (1 : Int32)) hx hb dX8_inputs_13 (by decide) ?_
    exact J_14 (1 : Int32) hf H locs ls hW hS (lv_sub hl [0, 1] rfl)
  · have hf := cn_f c6 hf
    refine lv_iconst (v := (0 : Int32)) hx hb dX8_inputs_9 (by decide) ?_
    refine lv_goto (tgt := 14) hx hb dX8_inputs_10 (by decide) ?_
    exact J_14 (0 : Int32) hf H locs ls hW hS (lv_sub hl [0, 1] rfl)
noncomputable def fX8_above_14 (M : Mem) (a1 : Int32) (s0_14 : Int32) : Option (Int32 × Mem) := cnd (((mset M 475 26 s0_14) 475 26) ≤ (0 : Int32)) (bnd (fX8_aboveOf (mset M 475 26 s0_14) a1) fun q30 => some (q30, (mset M 475 26 s0_14))) (some ((0 : Int32), (mset M 475 26 s0_14)))
noncomputable def fX8_above (M : Mem) (a1 : Int32) : Option (Int32 × Mem) := bnd (fX8_isTarget M a1) fun q3 => cnd (q3 = (0 : Int32)) (fX8_above_14 M a1 (1 : Int32)) (fX8_above_14 M a1 (0 : Int32))
abbrev rm_X8_above : Room := { frames := 2, cells := 0, slots := 0, locals := 45 }
set_option maxRecDepth 100000 in
set_option maxHeartbeats 4000000 in
theorem c_X8_above (l : Launch) (Γ : gx_G) (C M : Mem) (a1 : Int32) {y0 : (Int32 × Mem)} (hf : fX8_above M a1 = some y0) : Met l yX8_above (.code yX8_above cX8_above 2 (some .int) :: TsG) rm_X8_above (va_Pc [.ref (Γ.1 475), .int a1] (gx_P Γ C M)) (gx_Qi Γ y0.1 C y0.2) 0 0 (gA Γ) := by
  refine gm_i (by decide) (Nat.le_of_ble_eq_true rfl) ?_
  intro p e s m args below meth c Q S hG hret ls H locs hl hW hS
  obtain ⟨hx, hb, hml, hown, hts⟩ := id S
  have hl : lv_has ls 2 [(0, .ref (Γ.1 475)), (1, .int a1)] := hl
  unfold fX8_above at hf
  refine lv_aload_n hx hb dX8_above_0 rfl (lv_at hl 0 rfl) ?_
  refine lv_aload_n hx hb dX8_above_1 rfl (lv_at hl 0 rfl) ?_
  refine lv_iload_n hx hb dX8_above_2 rfl (lv_at hl 1 rfl) ?_
  obtain ⟨q3, hq3, hf⟩ := bnd_e hf
  refine gk0_i hS (gv_run (rest := [.ref (Γ.1 475)]) S hG hW hS [.int a1] (c_X8_isTarget l Γ C M a1 hq3) pk_X8_isTarget ml_X8_133 (Nat.le_of_ble_eq_true rfl) rfl rfl rfl rfl ⟨Nat.le_of_ble_eq_true rfl, Nat.le_of_ble_eq_true rfl⟩ rfl hl.1 rfl (Nat.le_of_ble_eq_true rfl) dX8_above_3 ⟨Nat.le_of_ble_eq_true rfl, Nat.le_of_ble_eq_true rfl⟩) (fun H locs hW hS => ?_)
  have J_14 : ∀ (s0_14 : Int32) , fX8_above_14 M a1 s0_14 = some y0 → ∀ (H : Heap) (locs : List Loc) (ls : Array Slot), gx_W Γ C M H → va_S (gA Γ) s.heap H locs → lv_has ls 2 [(0, .ref (Γ.1 475)), (1, .int a1)] → W p l e rm_X8_above s m args below meth c H locs 0 0 Q (F0 m 14 ls [.int s0_14, .ref (Γ.1 475)]) := by
    intro s0_14 hf H locs ls hW hS hl
    unfold fX8_above_14 at hf
    refine put_X8_26 S hG hW hS fl_X8_77 dX8_above_14 (fun H locs hW hS => ?_)
    refine lv_aload_n hx hb dX8_above_17 rfl (lv_at hl 0 rfl) ?_
    refine get_X8_26 S hG hW fl_X8_77 dX8_above_18 ?_
    refine lv_if_le (tgt := 28) hx hb dX8_above_21 (by decide) (fun c21 => ?_) (fun c21 => ?_)
    · have hf := cn_t c21 hf
      refine lv_aload_n hx hb dX8_above_28 rfl (lv_at hl 0 rfl) ?_
      refine lv_iload_n hx hb dX8_above_29 rfl (lv_at hl 1 rfl) ?_
      obtain ⟨q30, hq30, hf⟩ := bnd_e hf
      refine gk0_i hS (gv_run (rest := []) S hG hW hS [.int a1] (c_X8_aboveOf l Γ C (mset M 475 26 s0_14) a1 hq30) pk_X8_aboveOf ml_X8_150 (Nat.le_of_ble_eq_true rfl) rfl rfl rfl rfl ⟨Nat.le_of_ble_eq_true rfl, Nat.le_of_ble_eq_true rfl⟩ rfl hl.1 rfl (Nat.le_of_ble_eq_true rfl) dX8_above_30 ⟨Nat.le_of_ble_eq_true rfl, Nat.le_of_ble_eq_true rfl⟩) (fun H locs hW hS => ?_)
      have e9 := Option.some.inj hf
      subst e9
      exact hret _ _ _ _ _ hW hS rfl rfl dX8_above_33
    · have hf := cn_f c21 hf
      refine lv_iconst (v := (0 : Int32)) hx hb dX8_above_24 (by decide) ?_
      refine lv_goto (tgt := 33) hx hb dX8_above_25 (by decide) ?_
      have e9 := Option.some.inj hf
      subst e9
      exact hret _ _ _ _ _ hW hS rfl rfl dX8_above_33
  refine lv_if_eq (tgt := 13) hx hb dX8_above_6 (by decide) (fun c6 => ?_) (fun c6 => ?_)
  · have hf := cn_t c6 hf
    refine lv_iconst (v := (1 : Int32)) hx hb dX8_above_13 (by decide) ?_
    exact J_14 (1 : Int32) hf H locs ls hW hS (lv_sub hl [0, 1] rfl)
  · have hf := cn_f c6 hf
    refine lv_iconst (v := (0 : Int32)) hx hb dX8_above_9 (by decide) ?_
    refine lv_goto (tgt := 14) hx hb dX8_above_10 (by decide) ?_
    exact J_14 (0 : Int32) hf H locs ls hW hS (lv_sub hl [0, 1] rfl)
noncomputable def fX8_orders_63 (t_22 : (Int32 × Int32)) (t_4 : (Mem × Int32 × Int32)) : Option ((Mem × Int32 × Int32) ⊕ Mem) := chk (vp_in t_4.2.2 16) (nmv ((t_4.2.1 ||| ((1 : Int32) <<< (t_22.1 &&& 31)))) fun v75 => some (.inl ((mset t_4.1 494 t_4.2.2.toNatClampNeg t_22.1), v75, (t_4.2.2 + (1 : Int32)))))
noncomputable def fX8_orders_56 (t_22 : (Int32 × Int32)) (t_4 : (Mem × Int32 × Int32)) (s0_56 : Int32) : Option ((Int32 × Int32) ⊕ ((Mem × Int32 × Int32) ⊕ Mem)) := some (.inl (s0_56, (t_22.2 + (-1 : Int32))))
noncomputable def fX8_orders_55 (t_22 : (Int32 × Int32)) (t_4 : (Mem × Int32 × Int32)) : Option ((Int32 × Int32) ⊕ ((Mem × Int32 × Int32) ⊕ Mem)) := fX8_orders_56 t_22 t_4 t_22.1
noncomputable def fX8_orders_22 (t_4 : (Mem × Int32 × Int32)) : (Int32 × Int32) → Option ((Int32 × Int32) ⊕ ((Mem × Int32 × Int32) ⊕ Mem)) := fun t_22 => cnd (t_22.2 < (0 : Int32)) (exR (fX8_orders_63 t_22 t_4)) (cnd (((t_4.2.1 >>> (t_22.2 &&& 31)) &&& (1 : Int32)) = (0 : Int32)) (chk (vp_in t_22.2 16) (cnd (((t_4.1 486 t_22.2.toNatClampNeg) &&& (t_4.2.1 ^^^ (-1 : Int32))) = (0 : Int32)) (fX8_orders_56 t_22 t_4 t_22.2) (fX8_orders_55 t_22 t_4))) (fX8_orders_55 t_22 t_4))
noncomputable def fX8_orders_4  : (Mem × Int32 × Int32) → Option ((Mem × Int32 × Int32) ⊕ Mem) := fun t_4 => cnd ((t_4.1 475 9) ≤ t_4.2.2) (exR (some t_4.1)) (nmv (((t_4.1 475 9) - (1 : Int32))) fun v20 => lp (fX8_orders_22 t_4) ((-1 : Int32), v20))
noncomputable def fX8_orders (M : Mem) : Option Mem := lp (fX8_orders_4) (M, (0 : Int32), (0 : Int32))
abbrev rm_X8_orders : Room := { frames := 0, cells := 0, slots := 0, locals := 0 }
set_option maxRecDepth 100000 in
set_option maxHeartbeats 4000000 in
theorem c_X8_orders (l : Launch) (Γ : gx_G) (C M : Mem)  {y0 : Mem} (hf : fX8_orders M = some y0) : Met l yX8_orders (.code yX8_orders cX8_orders 5 none :: TsG) rm_X8_orders (va_Pc [.ref (Γ.1 475)] (gx_P Γ C M)) (gx_Qv Γ C y0) 0 0 (gA Γ) := by
  refine gm_v (by decide) (Nat.le_of_ble_eq_true rfl) ?_
  intro p e s m args below meth c Q S hG hret ls H locs hl hW hS
  obtain ⟨hx, hb, hml, hown, hts⟩ := id S
  have hl : lv_has ls 5 [(0, .ref (Γ.1 475))] := hl
  unfold fX8_orders at hf
  refine lv_iconst (v := (0 : Int32)) hx hb dX8_orders_0 (by decide) ?_
  refine lv_istore_n (lv' := [(1, .int (0 : Int32)), (0, .ref (Γ.1 475))]) hx hb dX8_orders_1 rfl hl (by decide) rfl (fun ls hl => ?_)
  refine lv_iconst (v := (0 : Int32)) hx hb dX8_orders_2 (by decide) ?_
  refine lv_istore_n (lv' := [(2, .int (0 : Int32)), (1, .int (0 : Int32)), (0, .ref (Γ.1 475))]) hx hb dX8_orders_3 rfl hl (by decide) rfl (fun ls hl => ?_)
  have J_4 : ∀  (t_4 : Mem × Int32 × Int32), lp (fX8_orders_4) t_4 = some y0 → ∀ (H : Heap) (locs : List Loc) (ls : Array Slot), gx_W Γ C t_4.1 H → va_S (gA Γ) s.heap H locs → lv_has ls 5 [(0, .ref (Γ.1 475)), (1, .int t_4.2.1), (2, .int t_4.2.2)] → W p l e rm_X8_orders s m args below meth c H locs 0 0 Q (F0 m 4 ls []) := by
    refine lp_ind (P := fun (t_4 : Mem × Int32 × Int32) => ∀ (H : Heap) (locs : List Loc) (ls : Array Slot), gx_W Γ C t_4.1 H → va_S (gA Γ) s.heap H locs → lv_has ls 5 [(0, .ref (Γ.1 475)), (1, .int t_4.2.1), (2, .int t_4.2.2)] → W p l e rm_X8_orders s m args below meth c H locs 0 0 Q (F0 m 4 ls [])) ?_
    intro t_4 y1 hf kI1 kX1 H locs ls hW hS hl
    unfold fX8_orders_4 at hf
    refine lv_iload_n hx hb dX8_orders_4 rfl (lv_at hl 2 rfl) ?_
    refine lv_aload_n hx hb dX8_orders_5 rfl (lv_at hl 0 rfl) ?_
    refine get_X8_9 S hG hW fl_X8_127 dX8_orders_6 ?_
    refine lv_icmp_ge (tgt := 82) hx hb dX8_orders_9 (by decide) (fun c9 => ?_) (fun c9 => ?_)
    · have hf := cn_t c9 hf
      obtain ⟨z9, hf, ez⟩ := exR_e hf
      rw [kX1 _ ez] at hf
      have e9 := Option.some.inj hf
      subst e9
      exact hret _ _ _ _ hW hS dX8_orders_82
    · have hf := cn_f c9 hf
      refine lv_iconst (v := (-1 : Int32)) hx hb dX8_orders_12 (by decide) ?_
      refine lv_istore_n (lv' := [(3, .int (-1 : Int32)), (0, .ref (Γ.1 475)), (1, .int t_4.2.1), (2, .int t_4.2.2)]) hx hb dX8_orders_13 rfl hl (by decide) rfl (fun ls hl => ?_)
      refine lv_aload_n hx hb dX8_orders_14 rfl (lv_at hl 1 rfl) ?_
      refine get_X8_9 S hG hW fl_X8_127 dX8_orders_15 ?_
      refine lv_iconst (v := (1 : Int32)) hx hb dX8_orders_18 (by decide) ?_
      refine lv_isub hx hb dX8_orders_19 ?_
      refine lv_topi (fun v20 ev20 => ?_)
      have hf := nm_v ev20 hf
      refine lv_istore (lv' := [(4, .int v20), (3, .int (-1 : Int32)), (0, .ref (Γ.1 475)), (1, .int t_4.2.1), (2, .int t_4.2.2)]) hx hb dX8_orders_20 hl (by decide) rfl (fun ls hl => ?_)
      have J_22 : ∀  (t_22 : Int32 × Int32), lp (fX8_orders_22 t_4) t_22 = some y1 → ∀ (H : Heap) (locs : List Loc) (ls : Array Slot), gx_W Γ C t_4.1 H → va_S (gA Γ) s.heap H locs → lv_has ls 5 [(0, .ref (Γ.1 475)), (1, .int t_4.2.1), (2, .int t_4.2.2), (3, .int t_22.1), (4, .int t_22.2)] → W p l e rm_X8_orders s m args below meth c H locs 0 0 Q (F0 m 22 ls []) := by
        refine lp_ind (P := fun (t_22 : Int32 × Int32) => ∀ (H : Heap) (locs : List Loc) (ls : Array Slot), gx_W Γ C t_4.1 H → va_S (gA Γ) s.heap H locs → lv_has ls 5 [(0, .ref (Γ.1 475)), (1, .int t_4.2.1), (2, .int t_4.2.2), (3, .int t_22.1), (4, .int t_22.2)] → W p l e rm_X8_orders s m args below meth c H locs 0 0 Q (F0 m 22 ls [])) ?_
        intro t_22 y2 hf kI2 kX2 H locs ls hW hS hl
        unfold fX8_orders_22 at hf
        refine lv_iload hx hb dX8_orders_22 (lv_at hl 4 rfl) ?_
        have J_63 : fX8_orders_63 t_22 t_4 = some y1 → ∀ (H : Heap) (locs : List Loc) (ls : Array Slot), gx_W Γ C t_4.1 H → va_S (gA Γ) s.heap H locs → lv_has ls 5 [(0, .ref (Γ.1 475)), (1, .int t_4.2.1), (2, .int t_4.2.2), (3, .int t_22.1)] → W p l e rm_X8_orders s m args below meth c H locs 0 0 Q (F0 m 63 ls []) := by
          intro  hf H locs ls hW hS hl
          unfold fX8_orders_63 at hf
          refine lv_aload_n hx hb dX8_orders_63 rfl (lv_at hl 0 rfl) ?_
          refine get_X8_22 S hG hW fl_X8_65 dX8_orders_64 ?_
          refine lv_iload_n hx hb dX8_orders_67 rfl (lv_at hl 2 rfl) ?_
          refine lv_iload_n hx hb dX8_orders_68 rfl (lv_at hl 3 rfl) ?_
          have g69 := ck_p hf
          have hf := ck_r hf
          refine ast_m S hG hW hS shk_494 lnk_494 g69 dX8_orders_69 (fun H locs hW hS => ?_)
          refine lv_iload_n hx hb dX8_orders_70 rfl (lv_at hl 1 rfl) ?_
          refine lv_iconst (v := (1 : Int32)) hx hb dX8_orders_71 (by decide) ?_
          refine lv_iload_n hx hb dX8_orders_72 rfl (lv_at hl 3 rfl) ?_
          refine lv_ishl hx hb dX8_orders_73 ?_
          refine lv_ior hx hb dX8_orders_74 ?_
          refine lv_topi (fun v75 ev75 => ?_)
          have hf := nm_v ev75 hf
          refine lv_istore_n (lv' := [(1, .int v75), (0, .ref (Γ.1 475)), (2, .int t_4.2.2), (3, .int t_22.1)]) hx hb dX8_orders_75 rfl hl (by decide) rfl (fun ls hl => ?_)
          refine lv_iinc (v := (t_4.2.2 + (1 : Int32))) (lv' := [(2, .int (t_4.2.2 + (1 : Int32))), (1, .int v75), (0, .ref (Γ.1 475)), (3, .int t_22.1)]) hx hb dX8_orders_76 hl (k := 2) rfl rfl (by decide) rfl (fun ls hl => ?_)
          refine lv_goto (tgt := 4) hx hb dX8_orders_79 (by decide) ?_
          exact kI1 _ (Option.some.inj hf).symm H locs ls hW hS (lv_sub hl [2, 1, 0] rfl)
        refine lv_if_lt (tgt := 63) hx hb dX8_orders_24 (by decide) (fun c24 => ?_) (fun c24 => ?_)
        · have hf := cn_t c24 hf
          obtain ⟨z24, hf, ez⟩ := exR_e hf
          rw [kX2 _ ez] at hf
          exact J_63  hf H locs ls hW hS (lv_sub hl [0, 1, 2, 3] rfl)
        · have hf := cn_f c24 hf
          refine lv_iload_n hx hb dX8_orders_27 rfl (lv_at hl 1 rfl) ?_
          refine lv_iload hx hb dX8_orders_28 (lv_at hl 4 rfl) ?_
          refine lv_ishr hx hb dX8_orders_30 ?_
          refine lv_iconst (v := (1 : Int32)) hx hb dX8_orders_31 (by decide) ?_
          refine lv_iand hx hb dX8_orders_32 ?_
          have J_56 : ∀ (s0_56 : Int32) , fX8_orders_56 t_22 t_4 s0_56 = some y2 → ∀ (H : Heap) (locs : List Loc) (ls : Array Slot), gx_W Γ C t_4.1 H → va_S (gA Γ) s.heap H locs → lv_has ls 5 [(0, .ref (Γ.1 475)), (1, .int t_4.2.1), (2, .int t_4.2.2), (4, .int t_22.2)] → W p l e rm_X8_orders s m args below meth c H locs 0 0 Q (F0 m 56 ls [.int s0_56]) := by
            intro s0_56 hf H locs ls hW hS hl
            unfold fX8_orders_56 at hf
            refine lv_istore_n (lv' := [(3, .int s0_56), (0, .ref (Γ.1 475)), (1, .int t_4.2.1), (2, .int t_4.2.2), (4, .int t_22.2)]) hx hb dX8_orders_56 rfl hl (by decide) rfl (fun ls hl => ?_)
            refine lv_iinc (v := (t_22.2 + (-1 : Int32))) (lv' := [(4, .int (t_22.2 + (-1 : Int32))), (3, .int s0_56), (0, .ref (Γ.1 475)), (1, .int t_4.2.1), (2, .int t_4.2.2)]) hx hb dX8_orders_57 hl (k := 4) rfl rfl (by decide) rfl (fun ls hl => ?_)
            refine lv_goto (tgt := 22) hx hb dX8_orders_60 (by decide) ?_
            exact kI2 _ (Option.some.inj hf).symm H locs ls hW hS (lv_sub hl [2, 3, 4, 1, 0] rfl)
          have J_55 : fX8_orders_55 t_22 t_4 = some y2 → ∀ (H : Heap) (locs : List Loc) (ls : Array Slot), gx_W Γ C t_4.1 H → va_S (gA Γ) s.heap H locs → lv_has ls 5 [(0, .ref (Γ.1 475)), (1, .int t_4.2.1), (2, .int t_4.2.2), (3, .int t_22.1), (4, .int t_22.2)] → W p l e rm_X8_orders s m args below meth c H locs 0 0 Q (F0 m 55 ls []) := by
            intro  hf H locs ls hW hS hl
            unfold fX8_orders_55 at hf
            refine lv_iload_n hx hb dX8_orders_55 rfl (lv_at hl 3 rfl) ?_
            exact J_56 t_22.1 hf H locs ls hW hS (lv_sub hl [0, 1, 2, 4] rfl)
          refine lv_if_ne (tgt := 55) hx hb dX8_orders_33 (by decide) (fun c33 => ?_) (fun c33 => ?_)
          · have hf := cn_f c33 hf
            exact J_55  hf H locs ls hW hS (lv_sub hl [0, 1, 2, 3, 4] rfl)
          · have hf := cn_t c33 hf
            refine lv_aload_n hx hb dX8_orders_36 rfl (lv_at hl 0 rfl) ?_
            refine get_X8_12 S hG hW fl_X8_41 dX8_orders_37 ?_
            refine lv_iload hx hb dX8_orders_40 (lv_at hl 4 rfl) ?_
            have g42 := ck_p hf
            have hf := ck_r hf
            refine ald_m S hG hW shk_486 lnk_486 g42 dX8_orders_42 ?_
            refine lv_iload_n hx hb dX8_orders_43 rfl (lv_at hl 1 rfl) ?_
            refine lv_iconst (v := (-1 : Int32)) hx hb dX8_orders_44 (by decide) ?_
            refine lv_ixor hx hb dX8_orders_45 ?_
            refine lv_iand hx hb dX8_orders_46 ?_
            refine lv_if_ne (tgt := 55) hx hb dX8_orders_47 (by decide) (fun c47 => ?_) (fun c47 => ?_)
            · have hf := cn_f c47 hf
              exact J_55  hf H locs ls hW hS (lv_sub hl [0, 1, 2, 3, 4] rfl)
            · have hf := cn_t c47 hf
              refine lv_iload hx hb dX8_orders_50 (lv_at hl 4 rfl) ?_
              refine lv_goto (tgt := 56) hx hb dX8_orders_52 (by decide) ?_
              exact J_56 t_22.2 hf H locs ls hW hS (lv_sub hl [0, 1, 2, 4] rfl)
      exact J_22 ((-1 : Int32), v20) hf H locs ls hW hS (lv_sub hl [2, 3, 4, 1, 0] rfl)
  exact J_4 (M, (0 : Int32), (0 : Int32)) hf H locs ls hW hS (lv_sub hl [2, 1, 0] rfl)
noncomputable def fX8_orderAt_14 (M : Mem) (a1 : Int32) (s0_14 : Int32) : Option (Int32 × Mem) := cnd (((mset M 475 26 s0_14) 475 26) ≤ (0 : Int32)) (bnd (fX8_orders (mset M 475 26 s0_14)) fun q27 => chk (vp_in a1 16) (some ((q27 494 a1.toNatClampNeg), q27))) (some ((0 : Int32), (mset M 475 26 s0_14)))
noncomputable def fX8_orderAt (M : Mem) (a1 : Int32) : Option (Int32 × Mem) := bnd (fX8_isTarget M a1) fun q3 => cnd (q3 = (0 : Int32)) (fX8_orderAt_14 M a1 (1 : Int32)) (fX8_orderAt_14 M a1 (0 : Int32))
abbrev rm_X8_orderAt : Room := { frames := 2, cells := 0, slots := 0, locals := 43 }
set_option maxRecDepth 100000 in
set_option maxHeartbeats 4000000 in
theorem c_X8_orderAt (l : Launch) (Γ : gx_G) (C M : Mem) (a1 : Int32) {y0 : (Int32 × Mem)} (hf : fX8_orderAt M a1 = some y0) : Met l yX8_orderAt (.code yX8_orderAt cX8_orderAt 2 (some .int) :: TsG) rm_X8_orderAt (va_Pc [.ref (Γ.1 475), .int a1] (gx_P Γ C M)) (gx_Qi Γ y0.1 C y0.2) 0 0 (gA Γ) := by
  refine gm_i (by decide) (Nat.le_of_ble_eq_true rfl) ?_
  intro p e s m args below meth c Q S hG hret ls H locs hl hW hS
  obtain ⟨hx, hb, hml, hown, hts⟩ := id S
  have hl : lv_has ls 2 [(0, .ref (Γ.1 475)), (1, .int a1)] := hl
  unfold fX8_orderAt at hf
  refine lv_aload_n hx hb dX8_orderAt_0 rfl (lv_at hl 0 rfl) ?_
  refine lv_aload_n hx hb dX8_orderAt_1 rfl (lv_at hl 0 rfl) ?_
  refine lv_iload_n hx hb dX8_orderAt_2 rfl (lv_at hl 1 rfl) ?_
  obtain ⟨q3, hq3, hf⟩ := bnd_e hf
  refine gk0_i hS (gv_run (rest := [.ref (Γ.1 475)]) S hG hW hS [.int a1] (c_X8_isTarget l Γ C M a1 hq3) pk_X8_isTarget ml_X8_133 (Nat.le_of_ble_eq_true rfl) rfl rfl rfl rfl ⟨Nat.le_of_ble_eq_true rfl, Nat.le_of_ble_eq_true rfl⟩ rfl hl.1 rfl (Nat.le_of_ble_eq_true rfl) dX8_orderAt_3 ⟨Nat.le_of_ble_eq_true rfl, Nat.le_of_ble_eq_true rfl⟩) (fun H locs hW hS => ?_)
  have J_14 : ∀ (s0_14 : Int32) , fX8_orderAt_14 M a1 s0_14 = some y0 → ∀ (H : Heap) (locs : List Loc) (ls : Array Slot), gx_W Γ C M H → va_S (gA Γ) s.heap H locs → lv_has ls 2 [(0, .ref (Γ.1 475)), (1, .int a1)] → W p l e rm_X8_orderAt s m args below meth c H locs 0 0 Q (F0 m 14 ls [.int s0_14, .ref (Γ.1 475)]) := by
    intro s0_14 hf H locs ls hW hS hl
    unfold fX8_orderAt_14 at hf
    refine put_X8_26 S hG hW hS fl_X8_77 dX8_orderAt_14 (fun H locs hW hS => ?_)
    refine lv_aload_n hx hb dX8_orderAt_17 rfl (lv_at hl 0 rfl) ?_
    refine get_X8_26 S hG hW fl_X8_77 dX8_orderAt_18 ?_
    refine lv_if_le (tgt := 26) hx hb dX8_orderAt_21 (by decide) (fun c21 => ?_) (fun c21 => ?_)
    · have hf := cn_t c21 hf
      refine lv_aload_n hx hb dX8_orderAt_26 rfl (lv_at hl 0 rfl) ?_
      obtain ⟨q27, hq27, hf⟩ := bnd_e hf
      refine gk0_v hS (gv_run (rest := []) S hG hW hS [] (c_X8_orders l Γ C (mset M 475 26 s0_14) hq27) pk_X8_orders ml_X8_153 (Nat.le_of_ble_eq_true rfl) rfl rfl rfl rfl ⟨Nat.le_of_ble_eq_true rfl, Nat.le_of_ble_eq_true rfl⟩ rfl hl.1 rfl (Nat.le_of_ble_eq_true rfl) dX8_orderAt_27 ⟨Nat.le_of_ble_eq_true rfl, Nat.le_of_ble_eq_true rfl⟩) (fun H locs hW hS => ?_)
      refine lv_aload_n hx hb dX8_orderAt_30 rfl (lv_at hl 0 rfl) ?_
      refine get_X8_22 S hG hW fl_X8_65 dX8_orderAt_31 ?_
      refine lv_iload_n hx hb dX8_orderAt_34 rfl (lv_at hl 1 rfl) ?_
      have g35 := ck_p hf
      have hf := ck_r hf
      refine ald_m S hG hW shk_494 lnk_494 g35 dX8_orderAt_35 ?_
      have e9 := Option.some.inj hf
      subst e9
      exact hret _ _ _ _ _ hW hS rfl rfl dX8_orderAt_36
    · have hf := cn_f c21 hf
      refine lv_iconst (v := (0 : Int32)) hx hb dX8_orderAt_24 (by decide) ?_
      have e9 := Option.some.inj hf
      subst e9
      exact hret _ _ _ _ _ hW hS rfl rfl dX8_orderAt_25
  refine lv_if_eq (tgt := 13) hx hb dX8_orderAt_6 (by decide) (fun c6 => ?_) (fun c6 => ?_)
  · have hf := cn_t c6 hf
    refine lv_iconst (v := (1 : Int32)) hx hb dX8_orderAt_13 (by decide) ?_
    exact J_14 (1 : Int32) hf H locs ls hW hS (lv_sub hl [0, 1] rfl)
  · have hf := cn_f c6 hf
    refine lv_iconst (v := (0 : Int32)) hx hb dX8_orderAt_9 (by decide) ?_
    refine lv_goto (tgt := 14) hx hb dX8_orderAt_10 (by decide) ?_
    exact J_14 (0 : Int32) hf H locs ls hW hS (lv_sub hl [0, 1] rfl)
noncomputable def fX8_affected_29 (M : Mem) (a1 : Int32) (t_4 : (Int32 × Int32)) (s0_29 : Int32) (s1_29 : Int32) : Option ((Int32 × Int32) ⊕ Int32) := nmv ((s1_29 ||| s0_29)) fun v30 => some (.inl (v30, (t_4.2 + (1 : Int32))))
noncomputable def fX8_affected_4 (M : Mem) (a1 : Int32) : (Int32 × Int32) → Option ((Int32 × Int32) ⊕ Int32) := fun t_4 => cnd ((M 475 9) ≤ t_4.2) (exR (bnd (fX8_upwards M t_4.1) fun q39 => some q39)) (bnd (fX8_takes M t_4.2 a1) fun q16 => cnd (q16 = (0 : Int32)) (fX8_affected_29 M a1 t_4 (0 : Int32) t_4.1) (fX8_affected_29 M a1 t_4 ((1 : Int32) <<< (t_4.2 &&& 31)) t_4.1))
noncomputable def fX8_affected (M : Mem) (a1 : Int32) : Option Int32 := lp (fX8_affected_4 M a1) ((0 : Int32), (0 : Int32))
abbrev rm_X8_affected : Room := { frames := 4, cells := 0, slots := 0, locals := 109 }
set_option maxRecDepth 100000 in
set_option maxHeartbeats 4000000 in
theorem c_X8_affected (l : Launch) (Γ : gx_G) (C M : Mem) (a1 : Int32) {y0 : Int32} (hf : fX8_affected M a1 = some y0) : Met l yX8_affected (.code yX8_affected cX8_affected 4 (some .int) :: TsG) rm_X8_affected (va_Pc [.ref (Γ.1 475), .int a1] (gx_P Γ C M)) (gx_Qi Γ y0 C M) 0 0 (gA Γ) := by
  refine gm_i (by decide) (Nat.le_of_ble_eq_true rfl) ?_
  intro p e s m args below meth c Q S hG hret ls H locs hl hW hS
  obtain ⟨hx, hb, hml, hown, hts⟩ := id S
  have hl : lv_has ls 4 [(0, .ref (Γ.1 475)), (1, .int a1)] := hl
  unfold fX8_affected at hf
  refine lv_iconst (v := (0 : Int32)) hx hb dX8_affected_0 (by decide) ?_
  refine lv_istore_n (lv' := [(2, .int (0 : Int32)), (0, .ref (Γ.1 475)), (1, .int a1)]) hx hb dX8_affected_1 rfl hl (by decide) rfl (fun ls hl => ?_)
  refine lv_iconst (v := (0 : Int32)) hx hb dX8_affected_2 (by decide) ?_
  refine lv_istore_n (lv' := [(3, .int (0 : Int32)), (2, .int (0 : Int32)), (0, .ref (Γ.1 475)), (1, .int a1)]) hx hb dX8_affected_3 rfl hl (by decide) rfl (fun ls hl => ?_)
  have J_4 : ∀  (t_4 : Int32 × Int32), lp (fX8_affected_4 M a1) t_4 = some y0 → ∀ (H : Heap) (locs : List Loc) (ls : Array Slot), gx_W Γ C M H → va_S (gA Γ) s.heap H locs → lv_has ls 4 [(0, .ref (Γ.1 475)), (1, .int a1), (2, .int t_4.1), (3, .int t_4.2)] → W p l e rm_X8_affected s m args below meth c H locs 0 0 Q (F0 m 4 ls []) := by
    refine lp_ind (P := fun (t_4 : Int32 × Int32) => ∀ (H : Heap) (locs : List Loc) (ls : Array Slot), gx_W Γ C M H → va_S (gA Γ) s.heap H locs → lv_has ls 4 [(0, .ref (Γ.1 475)), (1, .int a1), (2, .int t_4.1), (3, .int t_4.2)] → W p l e rm_X8_affected s m args below meth c H locs 0 0 Q (F0 m 4 ls [])) ?_
    intro t_4 y1 hf kI1 kX1 H locs ls hW hS hl
    unfold fX8_affected_4 at hf
    refine lv_iload_n hx hb dX8_affected_4 rfl (lv_at hl 3 rfl) ?_
    refine lv_aload_n hx hb dX8_affected_5 rfl (lv_at hl 0 rfl) ?_
    refine get_X8_9 S hG hW fl_X8_127 dX8_affected_6 ?_
    refine lv_icmp_ge (tgt := 37) hx hb dX8_affected_9 (by decide) (fun c9 => ?_) (fun c9 => ?_)
    · have hf := cn_t c9 hf
      obtain ⟨z9, hf, ez⟩ := exR_e hf
      rw [kX1 _ ez] at hf
      refine lv_aload_n hx hb dX8_affected_37 rfl (lv_at hl 0 rfl) ?_
      refine lv_iload_n hx hb dX8_affected_38 rfl (lv_at hl 2 rfl) ?_
      obtain ⟨q39, hq39, hf⟩ := bnd_e hf
      refine gk0_i hS (gv_run (rest := []) S hG hW hS [.int t_4.1] (c_X8_upwards l Γ C M t_4.1 hq39) pk_X8_upwards ml_X8_147 (Nat.le_of_ble_eq_true rfl) rfl rfl rfl rfl ⟨Nat.le_of_ble_eq_true rfl, Nat.le_of_ble_eq_true rfl⟩ rfl hl.1 rfl (Nat.le_of_ble_eq_true rfl) dX8_affected_39 ⟨Nat.le_of_ble_eq_true rfl, Nat.le_of_ble_eq_true rfl⟩) (fun H locs hW hS => ?_)
      exact hret _ _ _ _ _ hW hS rfl (Option.some.inj hf) dX8_affected_42
    · have hf := cn_f c9 hf
      refine lv_iload_n hx hb dX8_affected_12 rfl (lv_at hl 2 rfl) ?_
      refine lv_aload_n hx hb dX8_affected_13 rfl (lv_at hl 0 rfl) ?_
      refine lv_iload_n hx hb dX8_affected_14 rfl (lv_at hl 3 rfl) ?_
      refine lv_iload_n hx hb dX8_affected_15 rfl (lv_at hl 1 rfl) ?_
      obtain ⟨q16, hq16, hf⟩ := bnd_e hf
      refine gk0_i hS (gv_run (rest := [.int t_4.1]) S hG hW hS [.int t_4.2, .int a1] (c_X8_takes l Γ C M t_4.2 a1 hq16) pk_X8_takes ml_X8_130 (Nat.le_of_ble_eq_true rfl) rfl rfl rfl rfl ⟨Nat.le_of_ble_eq_true rfl, Nat.le_of_ble_eq_true rfl⟩ rfl hl.1 rfl (Nat.le_of_ble_eq_true rfl) dX8_affected_16 ⟨Nat.le_of_ble_eq_true rfl, Nat.le_of_ble_eq_true rfl⟩) (fun H locs hW hS => ?_)
      have J_29 : ∀ (s0_29 : Int32) (s1_29 : Int32) , fX8_affected_29 M a1 t_4 s0_29 s1_29 = some y1 → ∀ (H : Heap) (locs : List Loc) (ls : Array Slot), gx_W Γ C M H → va_S (gA Γ) s.heap H locs → lv_has ls 4 [(0, .ref (Γ.1 475)), (1, .int a1), (3, .int t_4.2)] → W p l e rm_X8_affected s m args below meth c H locs 0 0 Q (F0 m 29 ls [.int s0_29, .int s1_29]) := by
        intro s0_29 s1_29 hf H locs ls hW hS hl
        unfold fX8_affected_29 at hf
        refine lv_ior hx hb dX8_affected_29 ?_
        refine lv_topi (fun v30 ev30 => ?_)
        have hf := nm_v ev30 hf
        refine lv_istore_n (lv' := [(2, .int v30), (0, .ref (Γ.1 475)), (1, .int a1), (3, .int t_4.2)]) hx hb dX8_affected_30 rfl hl (by decide) rfl (fun ls hl => ?_)
        refine lv_iinc (v := (t_4.2 + (1 : Int32))) (lv' := [(3, .int (t_4.2 + (1 : Int32))), (2, .int v30), (0, .ref (Γ.1 475)), (1, .int a1)]) hx hb dX8_affected_31 hl (k := 3) rfl rfl (by decide) rfl (fun ls hl => ?_)
        refine lv_goto (tgt := 4) hx hb dX8_affected_34 (by decide) ?_
        exact kI1 _ (Option.some.inj hf).symm H locs ls hW hS (lv_sub hl [2, 3, 1, 0] rfl)
      refine lv_if_eq (tgt := 28) hx hb dX8_affected_19 (by decide) (fun c19 => ?_) (fun c19 => ?_)
      · have hf := cn_t c19 hf
        refine lv_iconst (v := (0 : Int32)) hx hb dX8_affected_28 (by decide) ?_
        exact J_29 (0 : Int32) t_4.1 hf H locs ls hW hS (lv_sub hl [0, 1, 3] rfl)
      · have hf := cn_f c19 hf
        refine lv_iconst (v := (1 : Int32)) hx hb dX8_affected_22 (by decide) ?_
        refine lv_iload_n hx hb dX8_affected_23 rfl (lv_at hl 3 rfl) ?_
        refine lv_ishl hx hb dX8_affected_24 ?_
        refine lv_goto (tgt := 29) hx hb dX8_affected_25 (by decide) ?_
        exact J_29 ((1 : Int32) <<< (t_4.2 &&& 31)) t_4.1 hf H locs ls hW hS (lv_sub hl [0, 1, 3] rfl)
  exact J_4 ((0 : Int32), (0 : Int32)) hf H locs ls hW hS (lv_sub hl [2, 3, 1, 0] rfl)
noncomputable def fX8_affectedBy_20 (M : Mem) (a1 : Int32) (s0_20 : Int32) : Option (Int32 × Mem) := cnd (((mset M 475 26 s0_20) 475 26) ≤ (0 : Int32)) (bnd (fX8_affected (mset M 475 26 s0_20) a1) fun q36 => some (q36, (mset M 475 26 s0_20))) (some ((0 : Int32), (mset M 475 26 s0_20)))
noncomputable def fX8_affectedBy (M : Mem) (a1 : Int32) : Option (Int32 × Mem) := cnd ((fX8_isIn a1 (0 : Int32) ((M 475 2) - (1 : Int32))) = (0 : Int32)) (fX8_affectedBy_20 M a1 (1 : Int32)) (fX8_affectedBy_20 M a1 (0 : Int32))
abbrev rm_X8_affectedBy : Room := { frames := 5, cells := 0, slots := 0, locals := 132 }
set_option maxRecDepth 100000 in
set_option maxHeartbeats 4000000 in
theorem c_X8_affectedBy (l : Launch) (Γ : gx_G) (C M : Mem) (a1 : Int32) {y0 : (Int32 × Mem)} (hf : fX8_affectedBy M a1 = some y0) : Met l yX8_affectedBy (.code yX8_affectedBy cX8_affectedBy 2 (some .int) :: TsG) rm_X8_affectedBy (va_Pc [.ref (Γ.1 475), .int a1] (gx_P Γ C M)) (gx_Qi Γ y0.1 C y0.2) 0 0 (gA Γ) := by
  refine gm_i (by decide) (Nat.le_of_ble_eq_true rfl) ?_
  intro p e s m args below meth c Q S hG hret ls H locs hl hW hS
  obtain ⟨hx, hb, hml, hown, hts⟩ := id S
  have hl : lv_has ls 2 [(0, .ref (Γ.1 475)), (1, .int a1)] := hl
  unfold fX8_affectedBy at hf
  refine lv_aload_n hx hb dX8_affectedBy_0 rfl (lv_at hl 0 rfl) ?_
  refine lv_iload_n hx hb dX8_affectedBy_1 rfl (lv_at hl 1 rfl) ?_
  refine lv_iconst (v := (0 : Int32)) hx hb dX8_affectedBy_2 (by decide) ?_
  refine lv_aload_n hx hb dX8_affectedBy_3 rfl (lv_at hl 0 rfl) ?_
  refine get_X8_2 S hG hW fl_X8_108 dX8_affectedBy_4 ?_
  refine lv_iconst (v := (1 : Int32)) hx hb dX8_affectedBy_7 (by decide) ?_
  refine lv_isub hx hb dX8_affectedBy_8 ?_
  refine gk0_i hS (gs_run (rest := [.ref (Γ.1 475)]) S hG hW hS [.int a1, .int (0 : Int32), .int ((M 475 2) - (1 : Int32))] (c_X8_isIn l Γ C M a1 (0 : Int32) ((M 475 2) - (1 : Int32))) pk_X8_isIn ml_X8_111 rfl rfl ⟨Nat.le_of_ble_eq_true rfl, Nat.le_of_ble_eq_true rfl⟩ rfl hl.1 rfl (Nat.le_of_ble_eq_true rfl) dX8_affectedBy_9 ⟨Nat.le_of_ble_eq_true rfl, Nat.le_of_ble_eq_true rfl⟩) (fun H locs hW hS => ?_)
  have J_20 : ∀ (s0_20 : Int32) , fX8_affectedBy_20 M a1 s0_20 = some y0 → ∀ (H : Heap) (locs : List Loc) (ls : Array Slot), gx_W Γ C M H → va_S (gA Γ) s.heap H locs → lv_has ls 2 [(0, .ref (Γ.1 475)), (1, .int a1)] → W p l e rm_X8_affectedBy s m args below meth c H locs 0 0 Q (F0 m 20 ls [.int s0_20, .ref (Γ.1 475)]) := by
    intro s0_20 hf H locs ls hW hS hl
    unfold fX8_affectedBy_20 at hf
    refine put_X8_26 S hG hW hS fl_X8_77 dX8_affectedBy_20 (fun H locs hW hS => ?_)
    refine lv_aload_n hx hb dX8_affectedBy_23 rfl (lv_at hl 0 rfl) ?_
    refine get_X8_26 S hG hW fl_X8_77 dX8_affectedBy_24 ?_
    refine lv_if_le (tgt := 34) hx hb dX8_affectedBy_27 (by decide) (fun c27 => ?_) (fun c27 => ?_)
    · have hf := cn_t c27 hf
      refine lv_aload_n hx hb dX8_affectedBy_34 rfl (lv_at hl 0 rfl) ?_
      refine lv_iload_n hx hb dX8_affectedBy_35 rfl (lv_at hl 1 rfl) ?_
      obtain ⟨q36, hq36, hf⟩ := bnd_e hf
      refine gk0_i hS (gv_run (rest := []) S hG hW hS [.int a1] (c_X8_affected l Γ C (mset M 475 26 s0_20) a1 hq36) pk_X8_affected ml_X8_156 (Nat.le_of_ble_eq_true rfl) rfl rfl rfl rfl ⟨Nat.le_of_ble_eq_true rfl, Nat.le_of_ble_eq_true rfl⟩ rfl hl.1 rfl (Nat.le_of_ble_eq_true rfl) dX8_affectedBy_36 ⟨Nat.le_of_ble_eq_true rfl, Nat.le_of_ble_eq_true rfl⟩) (fun H locs hW hS => ?_)
      have e9 := Option.some.inj hf
      subst e9
      exact hret _ _ _ _ _ hW hS rfl rfl dX8_affectedBy_39
    · have hf := cn_f c27 hf
      refine lv_iconst (v := (0 : Int32)) hx hb dX8_affectedBy_30 (by decide) ?_
      refine lv_goto (tgt := 39) hx hb dX8_affectedBy_31 (by decide) ?_
      have e9 := Option.some.inj hf
      subst e9
      exact hret _ _ _ _ _ hW hS rfl rfl dX8_affectedBy_39
  refine lv_if_eq (tgt := 19) hx hb dX8_affectedBy_12 (by decide) (fun c12 => ?_) (fun c12 => ?_)
  · have hf := cn_t c12 hf
    refine lv_iconst (v := (1 : Int32)) hx hb dX8_affectedBy_19 (by decide) ?_
    exact J_20 (1 : Int32) hf H locs ls hW hS (lv_sub hl [0, 1] rfl)
  · have hf := cn_f c12 hf
    refine lv_iconst (v := (0 : Int32)) hx hb dX8_affectedBy_15 (by decide) ?_
    refine lv_goto (tgt := 20) hx hb dX8_affectedBy_16 (by decide) ?_
    exact J_20 (0 : Int32) hf H locs ls hW hS (lv_sub hl [0, 1] rfl)
noncomputable def fX8_affectedByGoingDown_20 (M : Mem) (a1 : Int32) (s0_20 : Int32) : Option (Int32 × Mem) := cnd (((mset M 475 26 s0_20) 475 26) ≤ (0 : Int32)) (bnd (fX8_affected (mset M 475 26 s0_20) a1) fun q36 => some (q36, (mset M 475 26 s0_20))) (some ((0 : Int32), (mset M 475 26 s0_20)))
noncomputable def fX8_affectedByGoingDown (M : Mem) (a1 : Int32) : Option (Int32 × Mem) := cnd ((fX8_isIn a1 (0 : Int32) ((M 475 2) - (1 : Int32))) = (0 : Int32)) (fX8_affectedByGoingDown_20 M a1 (1 : Int32)) (fX8_affectedByGoingDown_20 M a1 (0 : Int32))
abbrev rm_X8_affectedByGoingDown : Room := { frames := 5, cells := 0, slots := 0, locals := 132 }
set_option maxRecDepth 100000 in
set_option maxHeartbeats 4000000 in
theorem c_X8_affectedByGoingDown (l : Launch) (Γ : gx_G) (C M : Mem) (a1 : Int32) {y0 : (Int32 × Mem)} (hf : fX8_affectedByGoingDown M a1 = some y0) : Met l yX8_affectedByGoingDown (.code yX8_affectedByGoingDown cX8_affectedByGoingDown 2 (some .int) :: TsG) rm_X8_affectedByGoingDown (va_Pc [.ref (Γ.1 475), .int a1] (gx_P Γ C M)) (gx_Qi Γ y0.1 C y0.2) 0 0 (gA Γ) := by
  refine gm_i (by decide) (Nat.le_of_ble_eq_true rfl) ?_
  intro p e s m args below meth c Q S hG hret ls H locs hl hW hS
  obtain ⟨hx, hb, hml, hown, hts⟩ := id S
  have hl : lv_has ls 2 [(0, .ref (Γ.1 475)), (1, .int a1)] := hl
  unfold fX8_affectedByGoingDown at hf
  refine lv_aload_n hx hb dX8_affectedByGoingDown_0 rfl (lv_at hl 0 rfl) ?_
  refine lv_iload_n hx hb dX8_affectedByGoingDown_1 rfl (lv_at hl 1 rfl) ?_
  refine lv_iconst (v := (0 : Int32)) hx hb dX8_affectedByGoingDown_2 (by decide) ?_
  refine lv_aload_n hx hb dX8_affectedByGoingDown_3 rfl (lv_at hl 0 rfl) ?_
  refine get_X8_2 S hG hW fl_X8_108 dX8_affectedByGoingDown_4 ?_
  refine lv_iconst (v := (1 : Int32)) hx hb dX8_affectedByGoingDown_7 (by decide) ?_
  refine lv_isub hx hb dX8_affectedByGoingDown_8 ?_
  refine gk0_i hS (gs_run (rest := [.ref (Γ.1 475)]) S hG hW hS [.int a1, .int (0 : Int32), .int ((M 475 2) - (1 : Int32))] (c_X8_isIn l Γ C M a1 (0 : Int32) ((M 475 2) - (1 : Int32))) pk_X8_isIn ml_X8_111 rfl rfl ⟨Nat.le_of_ble_eq_true rfl, Nat.le_of_ble_eq_true rfl⟩ rfl hl.1 rfl (Nat.le_of_ble_eq_true rfl) dX8_affectedByGoingDown_9 ⟨Nat.le_of_ble_eq_true rfl, Nat.le_of_ble_eq_true rfl⟩) (fun H locs hW hS => ?_)
  have J_20 : ∀ (s0_20 : Int32) , fX8_affectedByGoingDown_20 M a1 s0_20 = some y0 → ∀ (H : Heap) (locs : List Loc) (ls : Array Slot), gx_W Γ C M H → va_S (gA Γ) s.heap H locs → lv_has ls 2 [(0, .ref (Γ.1 475)), (1, .int a1)] → W p l e rm_X8_affectedByGoingDown s m args below meth c H locs 0 0 Q (F0 m 20 ls [.int s0_20, .ref (Γ.1 475)]) := by
    intro s0_20 hf H locs ls hW hS hl
    unfold fX8_affectedByGoingDown_20 at hf
    refine put_X8_26 S hG hW hS fl_X8_77 dX8_affectedByGoingDown_20 (fun H locs hW hS => ?_)
    refine lv_aload_n hx hb dX8_affectedByGoingDown_23 rfl (lv_at hl 0 rfl) ?_
    refine get_X8_26 S hG hW fl_X8_77 dX8_affectedByGoingDown_24 ?_
    refine lv_if_le (tgt := 34) hx hb dX8_affectedByGoingDown_27 (by decide) (fun c27 => ?_) (fun c27 => ?_)
    · have hf := cn_t c27 hf
      refine lv_aload_n hx hb dX8_affectedByGoingDown_34 rfl (lv_at hl 0 rfl) ?_
      refine lv_iload_n hx hb dX8_affectedByGoingDown_35 rfl (lv_at hl 1 rfl) ?_
      obtain ⟨q36, hq36, hf⟩ := bnd_e hf
      refine gk0_i hS (gv_run (rest := []) S hG hW hS [.int a1] (c_X8_affected l Γ C (mset M 475 26 s0_20) a1 hq36) pk_X8_affected ml_X8_156 (Nat.le_of_ble_eq_true rfl) rfl rfl rfl rfl ⟨Nat.le_of_ble_eq_true rfl, Nat.le_of_ble_eq_true rfl⟩ rfl hl.1 rfl (Nat.le_of_ble_eq_true rfl) dX8_affectedByGoingDown_36 ⟨Nat.le_of_ble_eq_true rfl, Nat.le_of_ble_eq_true rfl⟩) (fun H locs hW hS => ?_)
      have e9 := Option.some.inj hf
      subst e9
      exact hret _ _ _ _ _ hW hS rfl rfl dX8_affectedByGoingDown_39
    · have hf := cn_f c27 hf
      refine lv_iconst (v := (0 : Int32)) hx hb dX8_affectedByGoingDown_30 (by decide) ?_
      refine lv_goto (tgt := 39) hx hb dX8_affectedByGoingDown_31 (by decide) ?_
      have e9 := Option.some.inj hf
      subst e9
      exact hret _ _ _ _ _ hW hS rfl rfl dX8_affectedByGoingDown_39
  refine lv_if_eq (tgt := 19) hx hb dX8_affectedByGoingDown_12 (by decide) (fun c12 => ?_) (fun c12 => ?_)
  · have hf := cn_t c12 hf
    refine lv_iconst (v := (1 : Int32)) hx hb dX8_affectedByGoingDown_19 (by decide) ?_
    exact J_20 (1 : Int32) hf H locs ls hW hS (lv_sub hl [0, 1] rfl)
  · have hf := cn_f c12 hf
    refine lv_iconst (v := (0 : Int32)) hx hb dX8_affectedByGoingDown_15 (by decide) ?_
    refine lv_goto (tgt := 20) hx hb dX8_affectedByGoingDown_16 (by decide) ?_
    exact J_20 (0 : Int32) hf H locs ls hW hS (lv_sub hl [0, 1] rfl)
noncomputable def fX8_hasInputs_65 (M : Mem) (a1 : Int32) (a2 : Int32) (t_19 : (Int32 × Int32)) (s0_65 : Int32) (s1_65 : Int32) : Option ((Int32 × Int32) ⊕ Int32) := nmv ((s1_65 &&& s0_65)) fun v66 => some (.inl (v66, (t_19.2 + (1 : Int32))))
noncomputable def fX8_hasInputs_60 (M : Mem) (a1 : Int32) (a2 : Int32) (t_19 : (Int32 × Int32)) (s0_60 : Int32) : Option ((Int32 × Int32) ⊕ Int32) := fX8_hasInputs_65 M a1 a2 t_19 (1 : Int32) s0_60
noncomputable def fX8_hasInputs_19 (M : Mem) (a1 : Int32) (a2 : Int32) : (Int32 × Int32) → Option ((Int32 × Int32) ⊕ Int32) := fun t_19 => cnd ((M 475 2) ≤ t_19.2) (exR (chk (narrow .boolean (.int t_19.1) = .int t_19.1) (some t_19.1))) (cnd (((a2 >>> (t_19.2 &&& 31)) &&& (1 : Int32)) = (0 : Int32)) (fX8_hasInputs_60 M a1 a2 t_19 t_19.1) (chk (vp_in (((24 : Int32) * a1) + t_19.2) 4800) (chk (vp_in t_19.2 24) (cnd ((M 492 (((24 : Int32) * a1) + t_19.2).toNatClampNeg) = (M 481 t_19.2.toNatClampNeg)) (fX8_hasInputs_60 M a1 a2 t_19 t_19.1) (fX8_hasInputs_65 M a1 a2 t_19 (0 : Int32) t_19.1)))))
noncomputable def fX8_hasInputs_15 (M : Mem) (a1 : Int32) (a2 : Int32) (s0_15 : Int32) : Option Int32 := lp (fX8_hasInputs_19 M a1 a2) (s0_15, (0 : Int32))
noncomputable def fX8_hasInputs (M : Mem) (a1 : Int32) (a2 : Int32) : Option Int32 := chk (vp_in a1 200) (cnd ((M 490 a1.toNatClampNeg) = a2) (fX8_hasInputs_15 M a1 a2 (1 : Int32)) (fX8_hasInputs_15 M a1 a2 (0 : Int32)))
abbrev rm_X8_hasInputs : Room := { frames := 0, cells := 0, slots := 0, locals := 0 }
set_option maxRecDepth 100000 in
set_option maxHeartbeats 4000000 in
theorem c_X8_hasInputs (l : Launch) (Γ : gx_G) (C M : Mem) (a1 : Int32) (a2 : Int32) {y0 : Int32} (hf : fX8_hasInputs M a1 a2 = some y0) : Met l yX8_hasInputs (.code yX8_hasInputs cX8_hasInputs 5 (some .boolean) :: TsG) rm_X8_hasInputs (va_Pc [.ref (Γ.1 475), .int a1, .int a2] (gx_P Γ C M)) (gx_Qi Γ y0 C M) 0 0 (gA Γ) := by
  refine gm_i (by decide) (Nat.le_of_ble_eq_true rfl) ?_
  intro p e s m args below meth c Q S hG hret ls H locs hl hW hS
  obtain ⟨hx, hb, hml, hown, hts⟩ := id S
  have hl : lv_has ls 5 [(0, .ref (Γ.1 475)), (1, .int a1), (2, .int a2)] := hl
  unfold fX8_hasInputs at hf
  refine lv_aload_n hx hb dX8_hasInputs_0 rfl (lv_at hl 0 rfl) ?_
  refine get_X8_18 S hG hW fl_X8_53 dX8_hasInputs_1 ?_
  refine lv_iload_n hx hb dX8_hasInputs_4 rfl (lv_at hl 1 rfl) ?_
  have g5 := ck_p hf
  have hf := ck_r hf
  refine ald_m S hG hW shk_490 lnk_490 g5 dX8_hasInputs_5 ?_
  refine lv_iload_n hx hb dX8_hasInputs_6 rfl (lv_at hl 2 rfl) ?_
  have J_15 : ∀ (s0_15 : Int32) , fX8_hasInputs_15 M a1 a2 s0_15 = some y0 → ∀ (H : Heap) (locs : List Loc) (ls : Array Slot), gx_W Γ C M H → va_S (gA Γ) s.heap H locs → lv_has ls 5 [(0, .ref (Γ.1 475)), (1, .int a1), (2, .int a2)] → W p l e rm_X8_hasInputs s m args below meth c H locs 0 0 Q (F0 m 15 ls [.int s0_15]) := by
    intro s0_15 hf H locs ls hW hS hl
    unfold fX8_hasInputs_15 at hf
    refine lv_istore_n (lv' := [(3, .int s0_15), (0, .ref (Γ.1 475)), (1, .int a1), (2, .int a2)]) hx hb dX8_hasInputs_15 rfl hl (by decide) rfl (fun ls hl => ?_)
    refine lv_iconst (v := (0 : Int32)) hx hb dX8_hasInputs_16 (by decide) ?_
    refine lv_istore (lv' := [(4, .int (0 : Int32)), (3, .int s0_15), (0, .ref (Γ.1 475)), (1, .int a1), (2, .int a2)]) hx hb dX8_hasInputs_17 hl (by decide) rfl (fun ls hl => ?_)
    have J_19 : ∀  (t_19 : Int32 × Int32), lp (fX8_hasInputs_19 M a1 a2) t_19 = some y0 → ∀ (H : Heap) (locs : List Loc) (ls : Array Slot), gx_W Γ C M H → va_S (gA Γ) s.heap H locs → lv_has ls 5 [(0, .ref (Γ.1 475)), (1, .int a1), (2, .int a2), (3, .int t_19.1), (4, .int t_19.2)] → W p l e rm_X8_hasInputs s m args below meth c H locs 0 0 Q (F0 m 19 ls []) := by
      refine lp_ind (P := fun (t_19 : Int32 × Int32) => ∀ (H : Heap) (locs : List Loc) (ls : Array Slot), gx_W Γ C M H → va_S (gA Γ) s.heap H locs → lv_has ls 5 [(0, .ref (Γ.1 475)), (1, .int a1), (2, .int a2), (3, .int t_19.1), (4, .int t_19.2)] → W p l e rm_X8_hasInputs s m args below meth c H locs 0 0 Q (F0 m 19 ls [])) ?_
      intro t_19 y1 hf kI1 kX1 H locs ls hW hS hl
      unfold fX8_hasInputs_19 at hf
      refine lv_iload hx hb dX8_hasInputs_19 (lv_at hl 4 rfl) ?_
      refine lv_aload_n hx hb dX8_hasInputs_21 rfl (lv_at hl 0 rfl) ?_
      refine get_X8_2 S hG hW fl_X8_108 dX8_hasInputs_22 ?_
      refine lv_icmp_ge (tgt := 73) hx hb dX8_hasInputs_25 (by decide) (fun c25 => ?_) (fun c25 => ?_)
      · have hf := cn_t c25 hf
        obtain ⟨z25, hf, ez⟩ := exR_e hf
        rw [kX1 _ ez] at hf
        refine lv_iload_n hx hb dX8_hasInputs_73 rfl (lv_at hl 3 rfl) ?_
        have n9 := ck_p hf
        have hf := ck_r hf
        exact hret _ _ _ _ _ hW hS n9 (Option.some.inj hf) dX8_hasInputs_74
      · have hf := cn_f c25 hf
        refine lv_iload_n hx hb dX8_hasInputs_28 rfl (lv_at hl 3 rfl) ?_
        refine lv_iload_n hx hb dX8_hasInputs_29 rfl (lv_at hl 2 rfl) ?_
        refine lv_iload hx hb dX8_hasInputs_30 (lv_at hl 4 rfl) ?_
        refine lv_ishr hx hb dX8_hasInputs_32 ?_
        refine lv_iconst (v := (1 : Int32)) hx hb dX8_hasInputs_33 (by decide) ?_
        refine lv_iand hx hb dX8_hasInputs_34 ?_
        have J_65 : ∀ (s0_65 : Int32) (s1_65 : Int32) , fX8_hasInputs_65 M a1 a2 t_19 s0_65 s1_65 = some y1 → ∀ (H : Heap) (locs : List Loc) (ls : Array Slot), gx_W Γ C M H → va_S (gA Γ) s.heap H locs → lv_has ls 5 [(0, .ref (Γ.1 475)), (1, .int a1), (2, .int a2), (4, .int t_19.2)] → W p l e rm_X8_hasInputs s m args below meth c H locs 0 0 Q (F0 m 65 ls [.int s0_65, .int s1_65]) := by
          intro s0_65 s1_65 hf H locs ls hW hS hl
          unfold fX8_hasInputs_65 at hf
          refine lv_iand hx hb dX8_hasInputs_65 ?_
          refine lv_topi (fun v66 ev66 => ?_)
          have hf := nm_v ev66 hf
          refine lv_istore_n (lv' := [(3, .int v66), (0, .ref (Γ.1 475)), (1, .int a1), (2, .int a2), (4, .int t_19.2)]) hx hb dX8_hasInputs_66 rfl hl (by decide) rfl (fun ls hl => ?_)
          refine lv_iinc (v := (t_19.2 + (1 : Int32))) (lv' := [(4, .int (t_19.2 + (1 : Int32))), (3, .int v66), (0, .ref (Γ.1 475)), (1, .int a1), (2, .int a2)]) hx hb dX8_hasInputs_67 hl (k := 4) rfl rfl (by decide) rfl (fun ls hl => ?_)
          refine lv_goto (tgt := 19) hx hb dX8_hasInputs_70 (by decide) ?_
          exact kI1 _ (Option.some.inj hf).symm H locs ls hW hS (lv_sub hl [2, 3, 4, 1, 0] rfl)
        have J_60 : ∀ (s0_60 : Int32) , fX8_hasInputs_60 M a1 a2 t_19 s0_60 = some y1 → ∀ (H : Heap) (locs : List Loc) (ls : Array Slot), gx_W Γ C M H → va_S (gA Γ) s.heap H locs → lv_has ls 5 [(0, .ref (Γ.1 475)), (1, .int a1), (2, .int a2), (4, .int t_19.2)] → W p l e rm_X8_hasInputs s m args below meth c H locs 0 0 Q (F0 m 60 ls [.int s0_60]) := by
          intro s0_60 hf H locs ls hW hS hl
          unfold fX8_hasInputs_60 at hf
          refine lv_iconst (v := (1 : Int32)) hx hb dX8_hasInputs_60 (by decide) ?_
          refine lv_goto (tgt := 65) hx hb dX8_hasInputs_61 (by decide) ?_
          exact J_65 (1 : Int32) s0_60 hf H locs ls hW hS (lv_sub hl [0, 1, 2, 3] rfl)
        refine lv_if_eq (tgt := 60) hx hb dX8_hasInputs_35 (by decide) (fun c35 => ?_) (fun c35 => ?_)
        · have hf := cn_t c35 hf
          exact J_60 t_19.1 hf H locs ls hW hS (lv_sub hl [0, 1, 2, 4] rfl)
        · have hf := cn_f c35 hf
          refine lv_aload_n hx hb dX8_hasInputs_38 rfl (lv_at hl 0 rfl) ?_
          refine get_X8_20 S hG hW fl_X8_59 dX8_hasInputs_39 ?_
          refine lv_bipush (v := (24 : Int32)) hx hb dX8_hasInputs_42 (by decide) ?_
          refine lv_iload_n hx hb dX8_hasInputs_44 rfl (lv_at hl 1 rfl) ?_
          refine lv_imul hx hb dX8_hasInputs_45 ?_
          refine lv_iload hx hb dX8_hasInputs_46 (lv_at hl 4 rfl) ?_
          refine lv_iadd hx hb dX8_hasInputs_48 ?_
          have g49 := ck_p hf
          have hf := ck_r hf
          refine ald_m S hG hW shk_492 lnk_492 g49 dX8_hasInputs_49 ?_
          refine lv_aload_n hx hb dX8_hasInputs_50 rfl (lv_at hl 0 rfl) ?_
          refine get_X8_6 S hG hW fl_X8_26 dX8_hasInputs_51 ?_
          refine lv_iload hx hb dX8_hasInputs_54 (lv_at hl 4 rfl) ?_
          have g56 := ck_p hf
          have hf := ck_r hf
          refine ald_m S hG hW shk_481 lnk_481 g56 dX8_hasInputs_56 ?_
          refine lv_icmp_ne (tgt := 64) hx hb dX8_hasInputs_57 (by decide) (fun c57 => ?_) (fun c57 => ?_)
          · have hf := cn_f c57 hf
            refine lv_iconst (v := (0 : Int32)) hx hb dX8_hasInputs_64 (by decide) ?_
            exact J_65 (0 : Int32) t_19.1 hf H locs ls hW hS (lv_sub hl [0, 1, 2, 4] rfl)
          · have hf := cn_t c57 hf
            exact J_60 t_19.1 hf H locs ls hW hS (lv_sub hl [0, 1, 2, 4] rfl)
    exact J_19 (s0_15, (0 : Int32)) hf H locs ls hW hS (lv_sub hl [2, 3, 4, 1, 0] rfl)
  refine lv_icmp_ne (tgt := 14) hx hb dX8_hasInputs_7 (by decide) (fun c7 => ?_) (fun c7 => ?_)
  · have hf := cn_f c7 hf
    refine lv_iconst (v := (0 : Int32)) hx hb dX8_hasInputs_14 (by decide) ?_
    exact J_15 (0 : Int32) hf H locs ls hW hS (lv_sub hl [0, 1, 2] rfl)
  · have hf := cn_t c7 hf
    refine lv_iconst (v := (1 : Int32)) hx hb dX8_hasInputs_10 (by decide) ?_
    refine lv_goto (tgt := 15) hx hb dX8_hasInputs_11 (by decide) ?_
    exact J_15 (1 : Int32) hf H locs ls hW hS (lv_sub hl [0, 1, 2] rfl)
noncomputable def fX8_given_142 (M : Mem) (a1 : Int32) (q2 : Int32) (t_11 : (Int32 × Int32)) (s0_142 : Int32) : Option ((Int32 × Int32) ⊕ Int32) := some (.inl (s0_142, (t_11.2 + (1 : Int32))))
noncomputable def fX8_given_129 (M : Mem) (a1 : Int32) (q2 : Int32) (t_11 : (Int32 × Int32)) (t_67 : (Int32 × Int32)) : Option ((Int32 × Int32) ⊕ Int32) := cnd (t_67.1 = (0 : Int32)) (fX8_given_142 M a1 q2 t_11 t_11.1) (fX8_given_142 M a1 q2 t_11 (t_11.2 + (1 : Int32)))
noncomputable def fX8_given_120 (M : Mem) (a1 : Int32) (q2 : Int32) (t_11 : (Int32 × Int32)) (t_67 : (Int32 × Int32)) (s0_120 : Int32) (s1_120 : Int32) : Option ((Int32 × Int32) ⊕ ((Int32 × Int32) ⊕ Int32)) := nmv ((s1_120 &&& s0_120)) fun v121 => some (.inl (v121, (t_67.2 + (1 : Int32))))
noncomputable def fX8_given_115 (M : Mem) (a1 : Int32) (q2 : Int32) (t_11 : (Int32 × Int32)) (t_67 : (Int32 × Int32)) (s0_115 : Int32) : Option ((Int32 × Int32) ⊕ ((Int32 × Int32) ⊕ Int32)) := fX8_given_120 M a1 q2 t_11 t_67 (1 : Int32) s0_115
noncomputable def fX8_given_67 (M : Mem) (a1 : Int32) (q2 : Int32) (t_11 : (Int32 × Int32)) : (Int32 × Int32) → Option ((Int32 × Int32) ⊕ ((Int32 × Int32) ⊕ Int32)) := fun t_67 => cnd ((M 475 9) ≤ t_67.2) (exR (fX8_given_129 M a1 q2 t_11 t_67)) (chk (vp_in a1 16) (cnd ((((M 486 a1.toNatClampNeg) >>> (t_67.2 &&& 31)) &&& (1 : Int32)) = (0 : Int32)) (fX8_given_115 M a1 q2 t_11 t_67 t_67.1) (chk (vp_in (((16 : Int32) * t_11.2) + t_67.2) 3200) (chk (vp_in t_67.2 16) (cnd ((M 493 (((16 : Int32) * t_11.2) + t_67.2).toNatClampNeg) = (M 495 t_67.2.toNatClampNeg)) (fX8_given_115 M a1 q2 t_11 t_67 t_67.1) (fX8_given_120 M a1 q2 t_11 t_67 (0 : Int32) t_67.1))))))
noncomputable def fX8_given_62 (M : Mem) (a1 : Int32) (q2 : Int32) (t_11 : (Int32 × Int32)) (s0_62 : Int32) : Option ((Int32 × Int32) ⊕ Int32) := lp (fX8_given_67 M a1 q2 t_11) (s0_62, (0 : Int32))
noncomputable def fX8_given_61 (M : Mem) (a1 : Int32) (q2 : Int32) (t_11 : (Int32 × Int32)) : Option ((Int32 × Int32) ⊕ Int32) := fX8_given_62 M a1 q2 t_11 (0 : Int32)
noncomputable def fX8_given_11 (M : Mem) (a1 : Int32) (q2 : Int32) : (Int32 × Int32) → Option ((Int32 × Int32) ⊕ Int32) := fun t_11 => cnd ((M 475 16) ≤ t_11.2) (exR (some t_11.1)) (chk (vp_in t_11.2 200) (cnd ((M 489 t_11.2.toNatClampNeg) = a1) (chk (vp_in t_11.2 200) (chk (vp_in a1 16) (cnd ((M 491 t_11.2.toNatClampNeg) = (M 486 a1.toNatClampNeg)) (bnd (fX8_hasInputs M t_11.2 q2) fun q51 => cnd (q51 = (0 : Int32)) (fX8_given_61 M a1 q2 t_11) (fX8_given_62 M a1 q2 t_11 (1 : Int32))) (fX8_given_61 M a1 q2 t_11)))) (fX8_given_61 M a1 q2 t_11)))
noncomputable def fX8_given (M : Mem) (a1 : Int32) : Option Int32 := bnd (fX8_inputsOf M a1) fun q2 => lp (fX8_given_11 M a1 q2) ((0 : Int32), (0 : Int32))
abbrev rm_X8_given : Room := { frames := 5, cells := 0, slots := 0, locals := 132 }
set_option maxRecDepth 100000 in
set_option maxHeartbeats 4000000 in
theorem c_X8_given (l : Launch) (Γ : gx_G) (C M : Mem) (a1 : Int32) {y0 : Int32} (hf : fX8_given M a1 = some y0) : Met l yX8_given (.code yX8_given cX8_given 7 (some .int) :: TsG) rm_X8_given (va_Pc [.ref (Γ.1 475), .int a1] (gx_P Γ C M)) (gx_Qi Γ y0 C M) 0 0 (gA Γ) := by
  refine gm_i (by decide) (Nat.le_of_ble_eq_true rfl) ?_
  intro p e s m args below meth c Q S hG hret ls H locs hl hW hS
  obtain ⟨hx, hb, hml, hown, hts⟩ := id S
  have hl : lv_has ls 7 [(0, .ref (Γ.1 475)), (1, .int a1)] := hl
  unfold fX8_given at hf
  refine lv_aload_n hx hb dX8_given_0 rfl (lv_at hl 0 rfl) ?_
  refine lv_iload_n hx hb dX8_given_1 rfl (lv_at hl 1 rfl) ?_
  obtain ⟨q2, hq2, hf⟩ := bnd_e hf
  refine gk0_i hS (gv_run (rest := []) S hG hW hS [.int a1] (c_X8_inputsOf l Γ C M a1 hq2) pk_X8_inputsOf ml_X8_140 (Nat.le_of_ble_eq_true rfl) rfl rfl rfl rfl ⟨Nat.le_of_ble_eq_true rfl, Nat.le_of_ble_eq_true rfl⟩ rfl hl.1 rfl (Nat.le_of_ble_eq_true rfl) dX8_given_2 ⟨Nat.le_of_ble_eq_true rfl, Nat.le_of_ble_eq_true rfl⟩) (fun H locs hW hS => ?_)
  refine lv_istore_n (lv' := [(2, .int q2), (0, .ref (Γ.1 475)), (1, .int a1)]) hx hb dX8_given_5 rfl hl (by decide) rfl (fun ls hl => ?_)
  refine lv_iconst (v := (0 : Int32)) hx hb dX8_given_6 (by decide) ?_
  refine lv_istore_n (lv' := [(3, .int (0 : Int32)), (2, .int q2), (0, .ref (Γ.1 475)), (1, .int a1)]) hx hb dX8_given_7 rfl hl (by decide) rfl (fun ls hl => ?_)
  refine lv_iconst (v := (0 : Int32)) hx hb dX8_given_8 (by decide) ?_
  refine lv_istore (lv' := [(4, .int (0 : Int32)), (3, .int (0 : Int32)), (2, .int q2), (0, .ref (Γ.1 475)), (1, .int a1)]) hx hb dX8_given_9 hl (by decide) rfl (fun ls hl => ?_)
  have J_11 : ∀  (t_11 : Int32 × Int32), lp (fX8_given_11 M a1 q2) t_11 = some y0 → ∀ (H : Heap) (locs : List Loc) (ls : Array Slot), gx_W Γ C M H → va_S (gA Γ) s.heap H locs → lv_has ls 7 [(0, .ref (Γ.1 475)), (1, .int a1), (2, .int q2), (3, .int t_11.1), (4, .int t_11.2)] → W p l e rm_X8_given s m args below meth c H locs 0 0 Q (F0 m 11 ls []) := by
    refine lp_ind (P := fun (t_11 : Int32 × Int32) => ∀ (H : Heap) (locs : List Loc) (ls : Array Slot), gx_W Γ C M H → va_S (gA Γ) s.heap H locs → lv_has ls 7 [(0, .ref (Γ.1 475)), (1, .int a1), (2, .int q2), (3, .int t_11.1), (4, .int t_11.2)] → W p l e rm_X8_given s m args below meth c H locs 0 0 Q (F0 m 11 ls [])) ?_
    intro t_11 y1 hf kI1 kX1 H locs ls hW hS hl
    unfold fX8_given_11 at hf
    refine lv_iload hx hb dX8_given_11 (lv_at hl 4 rfl) ?_
    refine lv_aload_n hx hb dX8_given_13 rfl (lv_at hl 0 rfl) ?_
    refine get_X8_16 S hG hW fl_X8_159 dX8_given_14 ?_
    refine lv_icmp_ge (tgt := 149) hx hb dX8_given_17 (by decide) (fun c17 => ?_) (fun c17 => ?_)
    · have hf := cn_t c17 hf
      obtain ⟨z17, hf, ez⟩ := exR_e hf
      rw [kX1 _ ez] at hf
      refine lv_iload_n hx hb dX8_given_149 rfl (lv_at hl 3 rfl) ?_
      exact hret _ _ _ _ _ hW hS rfl (Option.some.inj hf) dX8_given_150
    · have hf := cn_f c17 hf
      refine lv_aload_n hx hb dX8_given_20 rfl (lv_at hl 0 rfl) ?_
      refine get_X8_17 S hG hW fl_X8_50 dX8_given_21 ?_
      refine lv_iload hx hb dX8_given_24 (lv_at hl 4 rfl) ?_
      have g26 := ck_p hf
      have hf := ck_r hf
      refine ald_m S hG hW shk_489 lnk_489 g26 dX8_given_26 ?_
      refine lv_iload_n hx hb dX8_given_27 rfl (lv_at hl 1 rfl) ?_
      have J_62 : ∀ (s0_62 : Int32) , fX8_given_62 M a1 q2 t_11 s0_62 = some y1 → ∀ (H : Heap) (locs : List Loc) (ls : Array Slot), gx_W Γ C M H → va_S (gA Γ) s.heap H locs → lv_has ls 7 [(0, .ref (Γ.1 475)), (1, .int a1), (2, .int q2), (3, .int t_11.1), (4, .int t_11.2)] → W p l e rm_X8_given s m args below meth c H locs 0 0 Q (F0 m 62 ls [.int s0_62]) := by
        intro s0_62 hf H locs ls hW hS hl
        unfold fX8_given_62 at hf
        refine lv_istore (lv' := [(5, .int s0_62), (0, .ref (Γ.1 475)), (1, .int a1), (2, .int q2), (3, .int t_11.1), (4, .int t_11.2)]) hx hb dX8_given_62 hl (by decide) rfl (fun ls hl => ?_)
        refine lv_iconst (v := (0 : Int32)) hx hb dX8_given_64 (by decide) ?_
        refine lv_istore (lv' := [(6, .int (0 : Int32)), (5, .int s0_62), (0, .ref (Γ.1 475)), (1, .int a1), (2, .int q2), (3, .int t_11.1), (4, .int t_11.2)]) hx hb dX8_given_65 hl (by decide) rfl (fun ls hl => ?_)
        have J_67 : ∀  (t_67 : Int32 × Int32), lp (fX8_given_67 M a1 q2 t_11) t_67 = some y1 → ∀ (H : Heap) (locs : List Loc) (ls : Array Slot), gx_W Γ C M H → va_S (gA Γ) s.heap H locs → lv_has ls 7 [(0, .ref (Γ.1 475)), (1, .int a1), (2, .int q2), (3, .int t_11.1), (4, .int t_11.2), (5, .int t_67.1), (6, .int t_67.2)] → W p l e rm_X8_given s m args below meth c H locs 0 0 Q (F0 m 67 ls []) := by
          refine lp_ind (P := fun (t_67 : Int32 × Int32) => ∀ (H : Heap) (locs : List Loc) (ls : Array Slot), gx_W Γ C M H → va_S (gA Γ) s.heap H locs → lv_has ls 7 [(0, .ref (Γ.1 475)), (1, .int a1), (2, .int q2), (3, .int t_11.1), (4, .int t_11.2), (5, .int t_67.1), (6, .int t_67.2)] → W p l e rm_X8_given s m args below meth c H locs 0 0 Q (F0 m 67 ls [])) ?_
          intro t_67 y2 hf kI2 kX2 H locs ls hW hS hl
          unfold fX8_given_67 at hf
          refine lv_iload hx hb dX8_given_67 (lv_at hl 6 rfl) ?_
          refine lv_aload_n hx hb dX8_given_69 rfl (lv_at hl 0 rfl) ?_
          refine get_X8_9 S hG hW fl_X8_127 dX8_given_70 ?_
          have J_129 : fX8_given_129 M a1 q2 t_11 t_67 = some y1 → ∀ (H : Heap) (locs : List Loc) (ls : Array Slot), gx_W Γ C M H → va_S (gA Γ) s.heap H locs → lv_has ls 7 [(0, .ref (Γ.1 475)), (1, .int a1), (2, .int q2), (3, .int t_11.1), (4, .int t_11.2), (5, .int t_67.1)] → W p l e rm_X8_given s m args below meth c H locs 0 0 Q (F0 m 129 ls []) := by
            intro  hf H locs ls hW hS hl
            unfold fX8_given_129 at hf
            refine lv_iload hx hb dX8_given_129 (lv_at hl 5 rfl) ?_
            have J_142 : ∀ (s0_142 : Int32) , fX8_given_142 M a1 q2 t_11 s0_142 = some y1 → ∀ (H : Heap) (locs : List Loc) (ls : Array Slot), gx_W Γ C M H → va_S (gA Γ) s.heap H locs → lv_has ls 7 [(0, .ref (Γ.1 475)), (1, .int a1), (2, .int q2), (4, .int t_11.2)] → W p l e rm_X8_given s m args below meth c H locs 0 0 Q (F0 m 142 ls [.int s0_142]) := by
              intro s0_142 hf H locs ls hW hS hl
              unfold fX8_given_142 at hf
              refine lv_istore_n (lv' := [(3, .int s0_142), (0, .ref (Γ.1 475)), (1, .int a1), (2, .int q2), (4, .int t_11.2)]) hx hb dX8_given_142 rfl hl (by decide) rfl (fun ls hl => ?_)
              refine lv_iinc (v := (t_11.2 + (1 : Int32))) (lv' := [(4, .int (t_11.2 + (1 : Int32))), (3, .int s0_142), (0, .ref (Γ.1 475)), (1, .int a1), (2, .int q2)]) hx hb dX8_given_143 hl (k := 4) rfl rfl (by decide) rfl (fun ls hl => ?_)
              refine lv_goto (tgt := 11) hx hb dX8_given_146 (by decide) ?_
              exact kI1 _ (Option.some.inj hf).symm H locs ls hW hS (lv_sub hl [2, 3, 4, 1, 0] rfl)
            refine lv_if_eq (tgt := 141) hx hb dX8_given_131 (by decide) (fun c131 => ?_) (fun c131 => ?_)
            · have hf := cn_t c131 hf
              refine lv_iload_n hx hb dX8_given_141 rfl (lv_at hl 3 rfl) ?_
              exact J_142 t_11.1 hf H locs ls hW hS (lv_sub hl [0, 1, 2, 4] rfl)
            · have hf := cn_f c131 hf
              refine lv_iload hx hb dX8_given_134 (lv_at hl 4 rfl) ?_
              refine lv_iconst (v := (1 : Int32)) hx hb dX8_given_136 (by decide) ?_
              refine lv_iadd hx hb dX8_given_137 ?_
              refine lv_goto (tgt := 142) hx hb dX8_given_138 (by decide) ?_
              exact J_142 (t_11.2 + (1 : Int32)) hf H locs ls hW hS (lv_sub hl [0, 1, 2, 4] rfl)
          refine lv_icmp_ge (tgt := 129) hx hb dX8_given_73 (by decide) (fun c73 => ?_) (fun c73 => ?_)
          · have hf := cn_t c73 hf
            obtain ⟨z73, hf, ez⟩ := exR_e hf
            rw [kX2 _ ez] at hf
            exact J_129  hf H locs ls hW hS (lv_sub hl [0, 1, 2, 3, 4, 5] rfl)
          · have hf := cn_f c73 hf
            refine lv_iload hx hb dX8_given_76 (lv_at hl 5 rfl) ?_
            refine lv_aload_n hx hb dX8_given_78 rfl (lv_at hl 0 rfl) ?_
            refine get_X8_12 S hG hW fl_X8_41 dX8_given_79 ?_
            refine lv_iload_n hx hb dX8_given_82 rfl (lv_at hl 1 rfl) ?_
            have g83 := ck_p hf
            have hf := ck_r hf
            refine ald_m S hG hW shk_486 lnk_486 g83 dX8_given_83 ?_
            refine lv_iload hx hb dX8_given_84 (lv_at hl 6 rfl) ?_
            refine lv_ishr hx hb dX8_given_86 ?_
            refine lv_iconst (v := (1 : Int32)) hx hb dX8_given_87 (by decide) ?_
            refine lv_iand hx hb dX8_given_88 ?_
            have J_120 : ∀ (s0_120 : Int32) (s1_120 : Int32) , fX8_given_120 M a1 q2 t_11 t_67 s0_120 s1_120 = some y2 → ∀ (H : Heap) (locs : List Loc) (ls : Array Slot), gx_W Γ C M H → va_S (gA Γ) s.heap H locs → lv_has ls 7 [(0, .ref (Γ.1 475)), (1, .int a1), (2, .int q2), (3, .int t_11.1), (4, .int t_11.2), (6, .int t_67.2)] → W p l e rm_X8_given s m args below meth c H locs 0 0 Q (F0 m 120 ls [.int s0_120, .int s1_120]) := by
              intro s0_120 s1_120 hf H locs ls hW hS hl
              unfold fX8_given_120 at hf
              refine lv_iand hx hb dX8_given_120 ?_
              refine lv_topi (fun v121 ev121 => ?_)
              have hf := nm_v ev121 hf
              refine lv_istore (lv' := [(5, .int v121), (0, .ref (Γ.1 475)), (1, .int a1), (2, .int q2), (3, .int t_11.1), (4, .int t_11.2), (6, .int t_67.2)]) hx hb dX8_given_121 hl (by decide) rfl (fun ls hl => ?_)
              refine lv_iinc (v := (t_67.2 + (1 : Int32))) (lv' := [(6, .int (t_67.2 + (1 : Int32))), (5, .int v121), (0, .ref (Γ.1 475)), (1, .int a1), (2, .int q2), (3, .int t_11.1), (4, .int t_11.2)]) hx hb dX8_given_123 hl (k := 6) rfl rfl (by decide) rfl (fun ls hl => ?_)
              refine lv_goto (tgt := 67) hx hb dX8_given_126 (by decide) ?_
              exact kI2 _ (Option.some.inj hf).symm H locs ls hW hS (lv_sub hl [2, 3, 4, 5, 6, 1, 0] rfl)
            have J_115 : ∀ (s0_115 : Int32) , fX8_given_115 M a1 q2 t_11 t_67 s0_115 = some y2 → ∀ (H : Heap) (locs : List Loc) (ls : Array Slot), gx_W Γ C M H → va_S (gA Γ) s.heap H locs → lv_has ls 7 [(0, .ref (Γ.1 475)), (1, .int a1), (2, .int q2), (3, .int t_11.1), (4, .int t_11.2), (6, .int t_67.2)] → W p l e rm_X8_given s m args below meth c H locs 0 0 Q (F0 m 115 ls [.int s0_115]) := by
              intro s0_115 hf H locs ls hW hS hl
              unfold fX8_given_115 at hf
              refine lv_iconst (v := (1 : Int32)) hx hb dX8_given_115 (by decide) ?_
              refine lv_goto (tgt := 120) hx hb dX8_given_116 (by decide) ?_
              exact J_120 (1 : Int32) s0_115 hf H locs ls hW hS (lv_sub hl [0, 1, 2, 3, 4, 5] rfl)
            refine lv_if_eq (tgt := 115) hx hb dX8_given_89 (by decide) (fun c89 => ?_) (fun c89 => ?_)
            · have hf := cn_t c89 hf
              exact J_115 t_67.1 hf H locs ls hW hS (lv_sub hl [0, 1, 2, 3, 4, 6] rfl)
            · have hf := cn_f c89 hf
              refine lv_aload_n hx hb dX8_given_92 rfl (lv_at hl 0 rfl) ?_
              refine get_X8_21 S hG hW fl_X8_62 dX8_given_93 ?_
              refine lv_bipush (v := (16 : Int32)) hx hb dX8_given_96 (by decide) ?_
              refine lv_iload hx hb dX8_given_98 (lv_at hl 4 rfl) ?_
              refine lv_imul hx hb dX8_given_100 ?_
              refine lv_iload hx hb dX8_given_101 (lv_at hl 6 rfl) ?_
              refine lv_iadd hx hb dX8_given_103 ?_
              have g104 := ck_p hf
              have hf := ck_r hf
              refine ald_m S hG hW shk_493 lnk_493 g104 dX8_given_104 ?_
              refine lv_aload_n hx hb dX8_given_105 rfl (lv_at hl 0 rfl) ?_
              refine get_X8_23 S hG hW fl_X8_68 dX8_given_106 ?_
              refine lv_iload hx hb dX8_given_109 (lv_at hl 6 rfl) ?_
              have g111 := ck_p hf
              have hf := ck_r hf
              refine ald_m S hG hW shk_495 lnk_495 g111 dX8_given_111 ?_
              refine lv_icmp_ne (tgt := 119) hx hb dX8_given_112 (by decide) (fun c112 => ?_) (fun c112 => ?_)
              · have hf := cn_f c112 hf
                refine lv_iconst (v := (0 : Int32)) hx hb dX8_given_119 (by decide) ?_
                exact J_120 (0 : Int32) t_67.1 hf H locs ls hW hS (lv_sub hl [0, 1, 2, 3, 4, 6] rfl)
              · have hf := cn_t c112 hf
                exact J_115 t_67.1 hf H locs ls hW hS (lv_sub hl [0, 1, 2, 3, 4, 6] rfl)
        exact J_67 (s0_62, (0 : Int32)) hf H locs ls hW hS (lv_sub hl [2, 3, 4, 5, 6, 1, 0] rfl)
      have J_61 : fX8_given_61 M a1 q2 t_11 = some y1 → ∀ (H : Heap) (locs : List Loc) (ls : Array Slot), gx_W Γ C M H → va_S (gA Γ) s.heap H locs → lv_has ls 7 [(0, .ref (Γ.1 475)), (1, .int a1), (2, .int q2), (3, .int t_11.1), (4, .int t_11.2)] → W p l e rm_X8_given s m args below meth c H locs 0 0 Q (F0 m 61 ls []) := by
        intro  hf H locs ls hW hS hl
        unfold fX8_given_61 at hf
        refine lv_iconst (v := (0 : Int32)) hx hb dX8_given_61 (by decide) ?_
        exact J_62 (0 : Int32) hf H locs ls hW hS (lv_sub hl [0, 1, 2, 3, 4] rfl)
      refine lv_icmp_ne (tgt := 61) hx hb dX8_given_28 (by decide) (fun c28 => ?_) (fun c28 => ?_)
      · have hf := cn_f c28 hf
        exact J_61  hf H locs ls hW hS (lv_sub hl [0, 1, 2, 3, 4] rfl)
      · have hf := cn_t c28 hf
        refine lv_aload_n hx hb dX8_given_31 rfl (lv_at hl 0 rfl) ?_
        refine get_X8_19 S hG hW fl_X8_56 dX8_given_32 ?_
        refine lv_iload hx hb dX8_given_35 (lv_at hl 4 rfl) ?_
        have g37 := ck_p hf
        have hf := ck_r hf
        refine ald_m S hG hW shk_491 lnk_491 g37 dX8_given_37 ?_
        refine lv_aload_n hx hb dX8_given_38 rfl (lv_at hl 0 rfl) ?_
        refine get_X8_12 S hG hW fl_X8_41 dX8_given_39 ?_
        refine lv_iload_n hx hb dX8_given_42 rfl (lv_at hl 1 rfl) ?_
        have g43 := ck_p hf
        have hf := ck_r hf
        refine ald_m S hG hW shk_486 lnk_486 g43 dX8_given_43 ?_
        refine lv_icmp_ne (tgt := 61) hx hb dX8_given_44 (by decide) (fun c44 => ?_) (fun c44 => ?_)
        · have hf := cn_f c44 hf
          exact J_61  hf H locs ls hW hS (lv_sub hl [0, 1, 2, 3, 4] rfl)
        · have hf := cn_t c44 hf
          refine lv_aload_n hx hb dX8_given_47 rfl (lv_at hl 0 rfl) ?_
          refine lv_iload hx hb dX8_given_48 (lv_at hl 4 rfl) ?_
          refine lv_iload_n hx hb dX8_given_50 rfl (lv_at hl 2 rfl) ?_
          obtain ⟨q51, hq51, hf⟩ := bnd_e hf
          refine gk0_i hS (gv_run (rest := []) S hG hW hS [.int t_11.2, .int q2] (c_X8_hasInputs l Γ C M t_11.2 q2 hq51) pk_X8_hasInputs ml_X8_162 (Nat.le_of_ble_eq_true rfl) rfl rfl rfl rfl ⟨Nat.le_of_ble_eq_true rfl, Nat.le_of_ble_eq_true rfl⟩ rfl hl.1 rfl (Nat.le_of_ble_eq_true rfl) dX8_given_51 ⟨Nat.le_of_ble_eq_true rfl, Nat.le_of_ble_eq_true rfl⟩) (fun H locs hW hS => ?_)
          refine lv_if_eq (tgt := 61) hx hb dX8_given_54 (by decide) (fun c54 => ?_) (fun c54 => ?_)
          · have hf := cn_t c54 hf
            exact J_61  hf H locs ls hW hS (lv_sub hl [0, 1, 2, 3, 4] rfl)
          · have hf := cn_f c54 hf
            refine lv_iconst (v := (1 : Int32)) hx hb dX8_given_57 (by decide) ?_
            refine lv_goto (tgt := 62) hx hb dX8_given_58 (by decide) ?_
            exact J_62 (1 : Int32) hf H locs ls hW hS (lv_sub hl [0, 1, 2, 3, 4] rfl)
  exact J_11 ((0 : Int32), (0 : Int32)) hf H locs ls hW hS (lv_sub hl [3, 4, 2, 1, 0] rfl)
noncomputable def fX8_laysKeys_91 (t_6 : (Mem × Int32)) (s0_91 : Int32) (s1_91 : Int32) : Option ((Mem × Int32) ⊕ Mem) := chk (vp_in s1_91 16) (some (.inl ((mset t_6.1 495 s1_91.toNatClampNeg s0_91), (t_6.2 + (1 : Int32)))))
noncomputable def fX8_laysKeys_73 (t_26 : (Int32 × Int32)) (t_6 : (Mem × Int32)) (v20 : Int32) : Option ((Mem × Int32) ⊕ Mem) := cnd (t_26.1 = (0 : Int32)) (fX8_laysKeys_91 t_6 (0 : Int32) v20) (bnd (fX8_given t_6.1 v20) fun q84 => fX8_laysKeys_91 t_6 q84 v20)
noncomputable def fX8_laysKeys_65 (t_26 : (Int32 × Int32)) (t_6 : (Mem × Int32)) (v20 : Int32) (s0_65 : Int32) (s1_65 : Int32) : Option ((Int32 × Int32) ⊕ ((Mem × Int32) ⊕ Mem)) := nmv ((s1_65 &&& s0_65)) fun v66 => some (.inl (v66, (t_26.2 + (1 : Int32))))
noncomputable def fX8_laysKeys_60 (t_26 : (Int32 × Int32)) (t_6 : (Mem × Int32)) (v20 : Int32) (s0_60 : Int32) : Option ((Int32 × Int32) ⊕ ((Mem × Int32) ⊕ Mem)) := fX8_laysKeys_65 t_26 t_6 v20 (1 : Int32) s0_60
noncomputable def fX8_laysKeys_26 (t_6 : (Mem × Int32)) (v20 : Int32) : (Int32 × Int32) → Option ((Int32 × Int32) ⊕ ((Mem × Int32) ⊕ Mem)) := fun t_26 => cnd ((t_6.1 475 9) ≤ t_26.2) (exR (fX8_laysKeys_73 t_26 t_6 v20)) (chk (vp_in v20 16) (cnd ((((t_6.1 486 v20.toNatClampNeg) >>> (t_26.2 &&& 31)) &&& (1 : Int32)) = (0 : Int32)) (fX8_laysKeys_60 t_26 t_6 v20 t_26.1) (chk (vp_in t_26.2 16) (cnd ((t_6.1 495 t_26.2.toNatClampNeg) ≤ (0 : Int32)) (fX8_laysKeys_65 t_26 t_6 v20 (0 : Int32) t_26.1) (fX8_laysKeys_60 t_26 t_6 v20 t_26.1)))))
noncomputable def fX8_laysKeys_6  : (Mem × Int32) → Option ((Mem × Int32) ⊕ Mem) := fun t_6 => cnd ((t_6.1 475 9) ≤ t_6.2) (exR (some t_6.1)) (chk (vp_in t_6.2 16) (nmv ((t_6.1 494 t_6.2.toNatClampNeg)) fun v20 => lp (fX8_laysKeys_26 t_6 v20) ((1 : Int32), (0 : Int32))))
noncomputable def fX8_laysKeys (M : Mem) : Option Mem := bnd (fX8_orders M) fun q1 => lp (fX8_laysKeys_6) (q1, (0 : Int32))
abbrev rm_X8_laysKeys : Room := { frames := 6, cells := 0, slots := 0, locals := 158 }
set_option maxRecDepth 100000 in
set_option maxHeartbeats 4000000 in
theorem c_X8_laysKeys (l : Launch) (Γ : gx_G) (C M : Mem)  {y0 : Mem} (hf : fX8_laysKeys M = some y0) : Met l yX8_laysKeys (.code yX8_laysKeys cX8_laysKeys 5 none :: TsG) rm_X8_laysKeys (va_Pc [.ref (Γ.1 475)] (gx_P Γ C M)) (gx_Qv Γ C y0) 0 0 (gA Γ) := by
  refine gm_v (by decide) (Nat.le_of_ble_eq_true rfl) ?_
  intro p e s m args below meth c Q S hG hret ls H locs hl hW hS
  obtain ⟨hx, hb, hml, hown, hts⟩ := id S
  have hl : lv_has ls 5 [(0, .ref (Γ.1 475))] := hl
  unfold fX8_laysKeys at hf
  refine lv_aload_n hx hb dX8_laysKeys_0 rfl (lv_at hl 0 rfl) ?_
  obtain ⟨q1, hq1, hf⟩ := bnd_e hf
  refine gk0_v hS (gv_run (rest := []) S hG hW hS [] (c_X8_orders l Γ C M hq1) pk_X8_orders ml_X8_153 (Nat.le_of_ble_eq_true rfl) rfl rfl rfl rfl ⟨Nat.le_of_ble_eq_true rfl, Nat.le_of_ble_eq_true rfl⟩ rfl hl.1 rfl (Nat.le_of_ble_eq_true rfl) dX8_laysKeys_1 ⟨Nat.le_of_ble_eq_true rfl, Nat.le_of_ble_eq_true rfl⟩) (fun H locs hW hS => ?_)
  refine lv_iconst (v := (0 : Int32)) hx hb dX8_laysKeys_4 (by decide) ?_
  refine lv_istore_n (lv' := [(1, .int (0 : Int32)), (0, .ref (Γ.1 475))]) hx hb dX8_laysKeys_5 rfl hl (by decide) rfl (fun ls hl => ?_)
  have J_6 : ∀  (t_6 : Mem × Int32), lp (fX8_laysKeys_6) t_6 = some y0 → ∀ (H : Heap) (locs : List Loc) (ls : Array Slot), gx_W Γ C t_6.1 H → va_S (gA Γ) s.heap H locs → lv_has ls 5 [(0, .ref (Γ.1 475)), (1, .int t_6.2)] → W p l e rm_X8_laysKeys s m args below meth c H locs 0 0 Q (F0 m 6 ls []) := by
    refine lp_ind (P := fun (t_6 : Mem × Int32) => ∀ (H : Heap) (locs : List Loc) (ls : Array Slot), gx_W Γ C t_6.1 H → va_S (gA Γ) s.heap H locs → lv_has ls 5 [(0, .ref (Γ.1 475)), (1, .int t_6.2)] → W p l e rm_X8_laysKeys s m args below meth c H locs 0 0 Q (F0 m 6 ls [])) ?_
    intro t_6 y1 hf kI1 kX1 H locs ls hW hS hl
    unfold fX8_laysKeys_6 at hf
    refine lv_iload_n hx hb dX8_laysKeys_6 rfl (lv_at hl 1 rfl) ?_
    refine lv_aload_n hx hb dX8_laysKeys_7 rfl (lv_at hl 0 rfl) ?_
    refine get_X8_9 S hG hW fl_X8_127 dX8_laysKeys_8 ?_
    refine lv_icmp_ge (tgt := 98) hx hb dX8_laysKeys_11 (by decide) (fun c11 => ?_) (fun c11 => ?_)
    · have hf := cn_t c11 hf
      obtain ⟨z11, hf, ez⟩ := exR_e hf
      rw [kX1 _ ez] at hf
      have e9 := Option.some.inj hf
      subst e9
      exact hret _ _ _ _ hW hS dX8_laysKeys_98
    · have hf := cn_f c11 hf
      refine lv_aload_n hx hb dX8_laysKeys_14 rfl (lv_at hl 0 rfl) ?_
      refine get_X8_22 S hG hW fl_X8_65 dX8_laysKeys_15 ?_
      refine lv_iload_n hx hb dX8_laysKeys_18 rfl (lv_at hl 1 rfl) ?_
      have g19 := ck_p hf
      have hf := ck_r hf
      refine ald_m S hG hW shk_494 lnk_494 g19 dX8_laysKeys_19 ?_
      refine lv_topi (fun v20 ev20 => ?_)
      have hf := nm_v ev20 hf
      refine lv_istore_n (lv' := [(2, .int v20), (0, .ref (Γ.1 475)), (1, .int t_6.2)]) hx hb dX8_laysKeys_20 rfl hl (by decide) rfl (fun ls hl => ?_)
      refine lv_iconst (v := (1 : Int32)) hx hb dX8_laysKeys_21 (by decide) ?_
      refine lv_istore_n (lv' := [(3, .int (1 : Int32)), (2, .int v20), (0, .ref (Γ.1 475)), (1, .int t_6.2)]) hx hb dX8_laysKeys_22 rfl hl (by decide) rfl (fun ls hl => ?_)
      refine lv_iconst (v := (0 : Int32)) hx hb dX8_laysKeys_23 (by decide) ?_
      refine lv_istore (lv' := [(4, .int (0 : Int32)), (3, .int (1 : Int32)), (2, .int v20), (0, .ref (Γ.1 475)), (1, .int t_6.2)]) hx hb dX8_laysKeys_24 hl (by decide) rfl (fun ls hl => ?_)
      have J_26 : ∀  (t_26 : Int32 × Int32), lp (fX8_laysKeys_26 t_6 v20) t_26 = some y1 → ∀ (H : Heap) (locs : List Loc) (ls : Array Slot), gx_W Γ C t_6.1 H → va_S (gA Γ) s.heap H locs → lv_has ls 5 [(0, .ref (Γ.1 475)), (1, .int t_6.2), (2, .int v20), (3, .int t_26.1), (4, .int t_26.2)] → W p l e rm_X8_laysKeys s m args below meth c H locs 0 0 Q (F0 m 26 ls []) := by
        refine lp_ind (P := fun (t_26 : Int32 × Int32) => ∀ (H : Heap) (locs : List Loc) (ls : Array Slot), gx_W Γ C t_6.1 H → va_S (gA Γ) s.heap H locs → lv_has ls 5 [(0, .ref (Γ.1 475)), (1, .int t_6.2), (2, .int v20), (3, .int t_26.1), (4, .int t_26.2)] → W p l e rm_X8_laysKeys s m args below meth c H locs 0 0 Q (F0 m 26 ls [])) ?_
        intro t_26 y2 hf kI2 kX2 H locs ls hW hS hl
        unfold fX8_laysKeys_26 at hf
        refine lv_iload hx hb dX8_laysKeys_26 (lv_at hl 4 rfl) ?_
        refine lv_aload_n hx hb dX8_laysKeys_28 rfl (lv_at hl 0 rfl) ?_
        refine get_X8_9 S hG hW fl_X8_127 dX8_laysKeys_29 ?_
        have J_73 : fX8_laysKeys_73 t_26 t_6 v20 = some y1 → ∀ (H : Heap) (locs : List Loc) (ls : Array Slot), gx_W Γ C t_6.1 H → va_S (gA Γ) s.heap H locs → lv_has ls 5 [(0, .ref (Γ.1 475)), (1, .int t_6.2), (2, .int v20), (3, .int t_26.1)] → W p l e rm_X8_laysKeys s m args below meth c H locs 0 0 Q (F0 m 73 ls []) := by
          intro  hf H locs ls hW hS hl
          unfold fX8_laysKeys_73 at hf
          refine lv_aload_n hx hb dX8_laysKeys_73 rfl (lv_at hl 0 rfl) ?_
          refine get_X8_23 S hG hW fl_X8_68 dX8_laysKeys_74 ?_
          refine lv_iload_n hx hb dX8_laysKeys_77 rfl (lv_at hl 2 rfl) ?_
          refine lv_iload_n hx hb dX8_laysKeys_78 rfl (lv_at hl 3 rfl) ?_
          have J_91 : ∀ (s0_91 : Int32) (s1_91 : Int32) , fX8_laysKeys_91 t_6 s0_91 s1_91 = some y1 → ∀ (H : Heap) (locs : List Loc) (ls : Array Slot), gx_W Γ C t_6.1 H → va_S (gA Γ) s.heap H locs → lv_has ls 5 [(0, .ref (Γ.1 475)), (1, .int t_6.2)] → W p l e rm_X8_laysKeys s m args below meth c H locs 0 0 Q (F0 m 91 ls [.int s0_91, .int s1_91, .ref (Γ.1 495)]) := by
            intro s0_91 s1_91 hf H locs ls hW hS hl
            unfold fX8_laysKeys_91 at hf
            have g91 := ck_p hf
            have hf := ck_r hf
            refine ast_m S hG hW hS shk_495 lnk_495 g91 dX8_laysKeys_91 (fun H locs hW hS => ?_)
            refine lv_iinc (v := (t_6.2 + (1 : Int32))) (lv' := [(1, .int (t_6.2 + (1 : Int32))), (0, .ref (Γ.1 475))]) hx hb dX8_laysKeys_92 hl (k := 1) rfl rfl (by decide) rfl (fun ls hl => ?_)
            refine lv_goto (tgt := 6) hx hb dX8_laysKeys_95 (by decide) ?_
            exact kI1 _ (Option.some.inj hf).symm H locs ls hW hS (lv_sub hl [1, 0] rfl)
          refine lv_if_eq (tgt := 90) hx hb dX8_laysKeys_79 (by decide) (fun c79 => ?_) (fun c79 => ?_)
          · have hf := cn_t c79 hf
            refine lv_iconst (v := (0 : Int32)) hx hb dX8_laysKeys_90 (by decide) ?_
            exact J_91 (0 : Int32) v20 hf H locs ls hW hS (lv_sub hl [0, 1] rfl)
          · have hf := cn_f c79 hf
            refine lv_aload_n hx hb dX8_laysKeys_82 rfl (lv_at hl 0 rfl) ?_
            refine lv_iload_n hx hb dX8_laysKeys_83 rfl (lv_at hl 2 rfl) ?_
            obtain ⟨q84, hq84, hf⟩ := bnd_e hf
            refine gk0_i hS (gv_run (rest := [.int v20, .ref (Γ.1 495)]) S hG hW hS [.int v20] (c_X8_given l Γ C t_6.1 v20 hq84) pk_X8_given ml_X8_165 (Nat.le_of_ble_eq_true rfl) rfl rfl rfl rfl ⟨Nat.le_of_ble_eq_true rfl, Nat.le_of_ble_eq_true rfl⟩ rfl hl.1 rfl (Nat.le_of_ble_eq_true rfl) dX8_laysKeys_84 ⟨Nat.le_of_ble_eq_true rfl, Nat.le_of_ble_eq_true rfl⟩) (fun H locs hW hS => ?_)
            refine lv_goto (tgt := 91) hx hb dX8_laysKeys_87 (by decide) ?_
            exact J_91 q84 v20 hf H locs ls hW hS (lv_sub hl [0, 1] rfl)
        refine lv_icmp_ge (tgt := 73) hx hb dX8_laysKeys_32 (by decide) (fun c32 => ?_) (fun c32 => ?_)
        · have hf := cn_t c32 hf
          obtain ⟨z32, hf, ez⟩ := exR_e hf
          rw [kX2 _ ez] at hf
          exact J_73  hf H locs ls hW hS (lv_sub hl [0, 1, 2, 3] rfl)
        · have hf := cn_f c32 hf
          refine lv_iload_n hx hb dX8_laysKeys_35 rfl (lv_at hl 3 rfl) ?_
          refine lv_aload_n hx hb dX8_laysKeys_36 rfl (lv_at hl 0 rfl) ?_
          refine get_X8_12 S hG hW fl_X8_41 dX8_laysKeys_37 ?_
          refine lv_iload_n hx hb dX8_laysKeys_40 rfl (lv_at hl 2 rfl) ?_
          have g41 := ck_p hf
          have hf := ck_r hf
          refine ald_m S hG hW shk_486 lnk_486 g41 dX8_laysKeys_41 ?_
          refine lv_iload hx hb dX8_laysKeys_42 (lv_at hl 4 rfl) ?_
          refine lv_ishr hx hb dX8_laysKeys_44 ?_
          refine lv_iconst (v := (1 : Int32)) hx hb dX8_laysKeys_45 (by decide) ?_
          refine lv_iand hx hb dX8_laysKeys_46 ?_
          have J_65 : ∀ (s0_65 : Int32) (s1_65 : Int32) , fX8_laysKeys_65 t_26 t_6 v20 s0_65 s1_65 = some y2 → ∀ (H : Heap) (locs : List Loc) (ls : Array Slot), gx_W Γ C t_6.1 H → va_S (gA Γ) s.heap H locs → lv_has ls 5 [(0, .ref (Γ.1 475)), (1, .int t_6.2), (2, .int v20), (4, .int t_26.2)] → W p l e rm_X8_laysKeys s m args below meth c H locs 0 0 Q (F0 m 65 ls [.int s0_65, .int s1_65]) := by
            intro s0_65 s1_65 hf H locs ls hW hS hl
            unfold fX8_laysKeys_65 at hf
            refine lv_iand hx hb dX8_laysKeys_65 ?_
            refine lv_topi (fun v66 ev66 => ?_)
            have hf := nm_v ev66 hf
            refine lv_istore_n (lv' := [(3, .int v66), (0, .ref (Γ.1 475)), (1, .int t_6.2), (2, .int v20), (4, .int t_26.2)]) hx hb dX8_laysKeys_66 rfl hl (by decide) rfl (fun ls hl => ?_)
            refine lv_iinc (v := (t_26.2 + (1 : Int32))) (lv' := [(4, .int (t_26.2 + (1 : Int32))), (3, .int v66), (0, .ref (Γ.1 475)), (1, .int t_6.2), (2, .int v20)]) hx hb dX8_laysKeys_67 hl (k := 4) rfl rfl (by decide) rfl (fun ls hl => ?_)
            refine lv_goto (tgt := 26) hx hb dX8_laysKeys_70 (by decide) ?_
            exact kI2 _ (Option.some.inj hf).symm H locs ls hW hS (lv_sub hl [2, 3, 4, 1, 0] rfl)
          have J_60 : ∀ (s0_60 : Int32) , fX8_laysKeys_60 t_26 t_6 v20 s0_60 = some y2 → ∀ (H : Heap) (locs : List Loc) (ls : Array Slot), gx_W Γ C t_6.1 H → va_S (gA Γ) s.heap H locs → lv_has ls 5 [(0, .ref (Γ.1 475)), (1, .int t_6.2), (2, .int v20), (4, .int t_26.2)] → W p l e rm_X8_laysKeys s m args below meth c H locs 0 0 Q (F0 m 60 ls [.int s0_60]) := by
            intro s0_60 hf H locs ls hW hS hl
            unfold fX8_laysKeys_60 at hf
            refine lv_iconst (v := (1 : Int32)) hx hb dX8_laysKeys_60 (by decide) ?_
            refine lv_goto (tgt := 65) hx hb dX8_laysKeys_61 (by decide) ?_
            exact J_65 (1 : Int32) s0_60 hf H locs ls hW hS (lv_sub hl [0, 1, 2, 3] rfl)
          refine lv_if_eq (tgt := 60) hx hb dX8_laysKeys_47 (by decide) (fun c47 => ?_) (fun c47 => ?_)
          · have hf := cn_t c47 hf
            exact J_60 t_26.1 hf H locs ls hW hS (lv_sub hl [0, 1, 2, 4] rfl)
          · have hf := cn_f c47 hf
            refine lv_aload_n hx hb dX8_laysKeys_50 rfl (lv_at hl 0 rfl) ?_
            refine get_X8_23 S hG hW fl_X8_68 dX8_laysKeys_51 ?_
            refine lv_iload hx hb dX8_laysKeys_54 (lv_at hl 4 rfl) ?_
            have g56 := ck_p hf
            have hf := ck_r hf
            refine ald_m S hG hW shk_495 lnk_495 g56 dX8_laysKeys_56 ?_
            refine lv_if_le (tgt := 64) hx hb dX8_laysKeys_57 (by decide) (fun c57 => ?_) (fun c57 => ?_)
            · have hf := cn_t c57 hf
              refine lv_iconst (v := (0 : Int32)) hx hb dX8_laysKeys_64 (by decide) ?_
              exact J_65 (0 : Int32) t_26.1 hf H locs ls hW hS (lv_sub hl [0, 1, 2, 4] rfl)
            · have hf := cn_f c57 hf
              exact J_60 t_26.1 hf H locs ls hW hS (lv_sub hl [0, 1, 2, 4] rfl)
      exact J_26 ((1 : Int32), (0 : Int32)) hf H locs ls hW hS (lv_sub hl [3, 4, 2, 1, 0] rfl)
  exact J_6 (q1, (0 : Int32)) hf H locs ls hW hS (lv_sub hl [1, 0] rfl)
noncomputable def fX8_keyOf_14 (M : Mem) (a1 : Int32) (s0_14 : Int32) : Option (Int32 × Mem) := cnd (((mset M 475 26 s0_14) 475 26) ≤ (0 : Int32)) (bnd (fX8_laysKeys (mset M 475 26 s0_14)) fun q27 => chk (vp_in a1 16) (some ((q27 495 a1.toNatClampNeg), q27))) (some ((0 : Int32), (mset M 475 26 s0_14)))
noncomputable def fX8_keyOf (M : Mem) (a1 : Int32) : Option (Int32 × Mem) := bnd (fX8_isTarget M a1) fun q3 => cnd (q3 = (0 : Int32)) (fX8_keyOf_14 M a1 (1 : Int32)) (fX8_keyOf_14 M a1 (0 : Int32))
abbrev rm_X8_keyOf : Room := { frames := 7, cells := 0, slots := 0, locals := 182 }
set_option maxRecDepth 100000 in
set_option maxHeartbeats 4000000 in
theorem c_X8_keyOf (l : Launch) (Γ : gx_G) (C M : Mem) (a1 : Int32) {y0 : (Int32 × Mem)} (hf : fX8_keyOf M a1 = some y0) : Met l yX8_keyOf (.code yX8_keyOf cX8_keyOf 2 (some .int) :: TsG) rm_X8_keyOf (va_Pc [.ref (Γ.1 475), .int a1] (gx_P Γ C M)) (gx_Qi Γ y0.1 C y0.2) 0 0 (gA Γ) := by
  refine gm_i (by decide) (Nat.le_of_ble_eq_true rfl) ?_
  intro p e s m args below meth c Q S hG hret ls H locs hl hW hS
  obtain ⟨hx, hb, hml, hown, hts⟩ := id S
  have hl : lv_has ls 2 [(0, .ref (Γ.1 475)), (1, .int a1)] := hl
  unfold fX8_keyOf at hf
  refine lv_aload_n hx hb dX8_keyOf_0 rfl (lv_at hl 0 rfl) ?_
  refine lv_aload_n hx hb dX8_keyOf_1 rfl (lv_at hl 0 rfl) ?_
  refine lv_iload_n hx hb dX8_keyOf_2 rfl (lv_at hl 1 rfl) ?_
  obtain ⟨q3, hq3, hf⟩ := bnd_e hf
  refine gk0_i hS (gv_run (rest := [.ref (Γ.1 475)]) S hG hW hS [.int a1] (c_X8_isTarget l Γ C M a1 hq3) pk_X8_isTarget ml_X8_133 (Nat.le_of_ble_eq_true rfl) rfl rfl rfl rfl ⟨Nat.le_of_ble_eq_true rfl, Nat.le_of_ble_eq_true rfl⟩ rfl hl.1 rfl (Nat.le_of_ble_eq_true rfl) dX8_keyOf_3 ⟨Nat.le_of_ble_eq_true rfl, Nat.le_of_ble_eq_true rfl⟩) (fun H locs hW hS => ?_)
  have J_14 : ∀ (s0_14 : Int32) , fX8_keyOf_14 M a1 s0_14 = some y0 → ∀ (H : Heap) (locs : List Loc) (ls : Array Slot), gx_W Γ C M H → va_S (gA Γ) s.heap H locs → lv_has ls 2 [(0, .ref (Γ.1 475)), (1, .int a1)] → W p l e rm_X8_keyOf s m args below meth c H locs 0 0 Q (F0 m 14 ls [.int s0_14, .ref (Γ.1 475)]) := by
    intro s0_14 hf H locs ls hW hS hl
    unfold fX8_keyOf_14 at hf
    refine put_X8_26 S hG hW hS fl_X8_77 dX8_keyOf_14 (fun H locs hW hS => ?_)
    refine lv_aload_n hx hb dX8_keyOf_17 rfl (lv_at hl 0 rfl) ?_
    refine get_X8_26 S hG hW fl_X8_77 dX8_keyOf_18 ?_
    refine lv_if_le (tgt := 26) hx hb dX8_keyOf_21 (by decide) (fun c21 => ?_) (fun c21 => ?_)
    · have hf := cn_t c21 hf
      refine lv_aload_n hx hb dX8_keyOf_26 rfl (lv_at hl 0 rfl) ?_
      obtain ⟨q27, hq27, hf⟩ := bnd_e hf
      refine gk0_v hS (gv_run (rest := []) S hG hW hS [] (c_X8_laysKeys l Γ C (mset M 475 26 s0_14) hq27) pk_X8_laysKeys ml_X8_168 (Nat.le_of_ble_eq_true rfl) rfl rfl rfl rfl ⟨Nat.le_of_ble_eq_true rfl, Nat.le_of_ble_eq_true rfl⟩ rfl hl.1 rfl (Nat.le_of_ble_eq_true rfl) dX8_keyOf_27 ⟨Nat.le_of_ble_eq_true rfl, Nat.le_of_ble_eq_true rfl⟩) (fun H locs hW hS => ?_)
      refine lv_aload_n hx hb dX8_keyOf_30 rfl (lv_at hl 0 rfl) ?_
      refine get_X8_23 S hG hW fl_X8_68 dX8_keyOf_31 ?_
      refine lv_iload_n hx hb dX8_keyOf_34 rfl (lv_at hl 1 rfl) ?_
      have g35 := ck_p hf
      have hf := ck_r hf
      refine ald_m S hG hW shk_495 lnk_495 g35 dX8_keyOf_35 ?_
      have e9 := Option.some.inj hf
      subst e9
      exact hret _ _ _ _ _ hW hS rfl rfl dX8_keyOf_36
    · have hf := cn_f c21 hf
      refine lv_iconst (v := (0 : Int32)) hx hb dX8_keyOf_24 (by decide) ?_
      have e9 := Option.some.inj hf
      subst e9
      exact hret _ _ _ _ _ hW hS rfl rfl dX8_keyOf_25
  refine lv_if_eq (tgt := 13) hx hb dX8_keyOf_6 (by decide) (fun c6 => ?_) (fun c6 => ?_)
  · have hf := cn_t c6 hf
    refine lv_iconst (v := (1 : Int32)) hx hb dX8_keyOf_13 (by decide) ?_
    exact J_14 (1 : Int32) hf H locs ls hW hS (lv_sub hl [0, 1] rfl)
  · have hf := cn_f c6 hf
    refine lv_iconst (v := (0 : Int32)) hx hb dX8_keyOf_9 (by decide) ?_
    refine lv_goto (tgt := 14) hx hb dX8_keyOf_10 (by decide) ?_
    exact J_14 (0 : Int32) hf H locs ls hW hS (lv_sub hl [0, 1] rfl)
noncomputable def fX8_neededNow_33 (q1 : Mem) (t_8 : (Int32 × Int32)) (s0_33 : Int32) (s1_33 : Int32) : Option ((Int32 × Int32) ⊕ (Int32 × Mem)) := nmv ((s1_33 ||| s0_33)) fun v34 => some (.inl (v34, (t_8.2 + (1 : Int32))))
noncomputable def fX8_neededNow_8 (q1 : Mem) : (Int32 × Int32) → Option ((Int32 × Int32) ⊕ (Int32 × Mem)) := fun t_8 => cnd ((q1 475 9) ≤ t_8.2) (exR (some (t_8.1, q1))) (chk (vp_in t_8.2 16) (cnd ((q1 495 t_8.2.toNatClampNeg) = (0 : Int32)) (fX8_neededNow_33 q1 t_8 ((1 : Int32) <<< (t_8.2 &&& 31)) t_8.1) (fX8_neededNow_33 q1 t_8 (0 : Int32) t_8.1)))
noncomputable def fX8_neededNow (M : Mem) : Option (Int32 × Mem) := bnd (fX8_laysKeys M) fun q1 => lp (fX8_neededNow_8 q1) ((0 : Int32), (0 : Int32))
abbrev rm_X8_neededNow : Room := { frames := 7, cells := 0, slots := 0, locals := 182 }
set_option maxRecDepth 100000 in
set_option maxHeartbeats 4000000 in
theorem c_X8_neededNow (l : Launch) (Γ : gx_G) (C M : Mem)  {y0 : (Int32 × Mem)} (hf : fX8_neededNow M = some y0) : Met l yX8_neededNow (.code yX8_neededNow cX8_neededNow 3 (some .int) :: TsG) rm_X8_neededNow (va_Pc [.ref (Γ.1 475)] (gx_P Γ C M)) (gx_Qi Γ y0.1 C y0.2) 0 0 (gA Γ) := by
  refine gm_i (by decide) (Nat.le_of_ble_eq_true rfl) ?_
  intro p e s m args below meth c Q S hG hret ls H locs hl hW hS
  obtain ⟨hx, hb, hml, hown, hts⟩ := id S
  have hl : lv_has ls 3 [(0, .ref (Γ.1 475))] := hl
  unfold fX8_neededNow at hf
  refine lv_aload_n hx hb dX8_neededNow_0 rfl (lv_at hl 0 rfl) ?_
  obtain ⟨q1, hq1, hf⟩ := bnd_e hf
  refine gk0_v hS (gv_run (rest := []) S hG hW hS [] (c_X8_laysKeys l Γ C M hq1) pk_X8_laysKeys ml_X8_168 (Nat.le_of_ble_eq_true rfl) rfl rfl rfl rfl ⟨Nat.le_of_ble_eq_true rfl, Nat.le_of_ble_eq_true rfl⟩ rfl hl.1 rfl (Nat.le_of_ble_eq_true rfl) dX8_neededNow_1 ⟨Nat.le_of_ble_eq_true rfl, Nat.le_of_ble_eq_true rfl⟩) (fun H locs hW hS => ?_)
  refine lv_iconst (v := (0 : Int32)) hx hb dX8_neededNow_4 (by decide) ?_
  refine lv_istore_n (lv' := [(1, .int (0 : Int32)), (0, .ref (Γ.1 475))]) hx hb dX8_neededNow_5 rfl hl (by decide) rfl (fun ls hl => ?_)
  refine lv_iconst (v := (0 : Int32)) hx hb dX8_neededNow_6 (by decide) ?_
  refine lv_istore_n (lv' := [(2, .int (0 : Int32)), (1, .int (0 : Int32)), (0, .ref (Γ.1 475))]) hx hb dX8_neededNow_7 rfl hl (by decide) rfl (fun ls hl => ?_)
  have J_8 : ∀  (t_8 : Int32 × Int32), lp (fX8_neededNow_8 q1) t_8 = some y0 → ∀ (H : Heap) (locs : List Loc) (ls : Array Slot), gx_W Γ C q1 H → va_S (gA Γ) s.heap H locs → lv_has ls 3 [(0, .ref (Γ.1 475)), (1, .int t_8.1), (2, .int t_8.2)] → W p l e rm_X8_neededNow s m args below meth c H locs 0 0 Q (F0 m 8 ls []) := by
    refine lp_ind (P := fun (t_8 : Int32 × Int32) => ∀ (H : Heap) (locs : List Loc) (ls : Array Slot), gx_W Γ C q1 H → va_S (gA Γ) s.heap H locs → lv_has ls 3 [(0, .ref (Γ.1 475)), (1, .int t_8.1), (2, .int t_8.2)] → W p l e rm_X8_neededNow s m args below meth c H locs 0 0 Q (F0 m 8 ls [])) ?_
    intro t_8 y1 hf kI1 kX1 H locs ls hW hS hl
    unfold fX8_neededNow_8 at hf
    refine lv_iload_n hx hb dX8_neededNow_8 rfl (lv_at hl 2 rfl) ?_
    refine lv_aload_n hx hb dX8_neededNow_9 rfl (lv_at hl 0 rfl) ?_
    refine get_X8_9 S hG hW fl_X8_127 dX8_neededNow_10 ?_
    refine lv_icmp_ge (tgt := 41) hx hb dX8_neededNow_13 (by decide) (fun c13 => ?_) (fun c13 => ?_)
    · have hf := cn_t c13 hf
      obtain ⟨z13, hf, ez⟩ := exR_e hf
      rw [kX1 _ ez] at hf
      refine lv_iload_n hx hb dX8_neededNow_41 rfl (lv_at hl 1 rfl) ?_
      have e9 := Option.some.inj hf
      subst e9
      exact hret _ _ _ _ _ hW hS rfl rfl dX8_neededNow_42
    · have hf := cn_f c13 hf
      refine lv_iload_n hx hb dX8_neededNow_16 rfl (lv_at hl 1 rfl) ?_
      refine lv_aload_n hx hb dX8_neededNow_17 rfl (lv_at hl 0 rfl) ?_
      refine get_X8_23 S hG hW fl_X8_68 dX8_neededNow_18 ?_
      refine lv_iload_n hx hb dX8_neededNow_21 rfl (lv_at hl 2 rfl) ?_
      have g22 := ck_p hf
      have hf := ck_r hf
      refine ald_m S hG hW shk_495 lnk_495 g22 dX8_neededNow_22 ?_
      have J_33 : ∀ (s0_33 : Int32) (s1_33 : Int32) , fX8_neededNow_33 q1 t_8 s0_33 s1_33 = some y1 → ∀ (H : Heap) (locs : List Loc) (ls : Array Slot), gx_W Γ C q1 H → va_S (gA Γ) s.heap H locs → lv_has ls 3 [(0, .ref (Γ.1 475)), (2, .int t_8.2)] → W p l e rm_X8_neededNow s m args below meth c H locs 0 0 Q (F0 m 33 ls [.int s0_33, .int s1_33]) := by
        intro s0_33 s1_33 hf H locs ls hW hS hl
        unfold fX8_neededNow_33 at hf
        refine lv_ior hx hb dX8_neededNow_33 ?_
        refine lv_topi (fun v34 ev34 => ?_)
        have hf := nm_v ev34 hf
        refine lv_istore_n (lv' := [(1, .int v34), (0, .ref (Γ.1 475)), (2, .int t_8.2)]) hx hb dX8_neededNow_34 rfl hl (by decide) rfl (fun ls hl => ?_)
        refine lv_iinc (v := (t_8.2 + (1 : Int32))) (lv' := [(2, .int (t_8.2 + (1 : Int32))), (1, .int v34), (0, .ref (Γ.1 475))]) hx hb dX8_neededNow_35 hl (k := 2) rfl rfl (by decide) rfl (fun ls hl => ?_)
        refine lv_goto (tgt := 8) hx hb dX8_neededNow_38 (by decide) ?_
        exact kI1 _ (Option.some.inj hf).symm H locs ls hW hS (lv_sub hl [2, 1, 0] rfl)
      refine lv_if_ne (tgt := 32) hx hb dX8_neededNow_23 (by decide) (fun c23 => ?_) (fun c23 => ?_)
      · have hf := cn_f c23 hf
        refine lv_iconst (v := (0 : Int32)) hx hb dX8_neededNow_32 (by decide) ?_
        exact J_33 (0 : Int32) t_8.1 hf H locs ls hW hS (lv_sub hl [0, 2] rfl)
      · have hf := cn_t c23 hf
        refine lv_iconst (v := (1 : Int32)) hx hb dX8_neededNow_26 (by decide) ?_
        refine lv_iload_n hx hb dX8_neededNow_27 rfl (lv_at hl 2 rfl) ?_
        refine lv_ishl hx hb dX8_neededNow_28 ?_
        refine lv_goto (tgt := 33) hx hb dX8_neededNow_29 (by decide) ?_
        exact J_33 ((1 : Int32) <<< (t_8.2 &&& 31)) t_8.1 hf H locs ls hW hS (lv_sub hl [0, 2] rfl)
  exact J_8 ((0 : Int32), (0 : Int32)) hf H locs ls hW hS (lv_sub hl [2, 1, 0] rfl)
noncomputable def fX8_needed (M : Mem) : Option (Int32 × Mem) := bnd (fX8_neededNow (mset M 475 26 (0 : Int32))) fun q6 => some (q6.1, q6.2)
abbrev rm_X8_needed : Room := { frames := 8, cells := 0, slots := 0, locals := 204 }
set_option maxRecDepth 100000 in
set_option maxHeartbeats 4000000 in
theorem c_X8_needed (l : Launch) (Γ : gx_G) (C M : Mem)  {y0 : (Int32 × Mem)} (hf : fX8_needed M = some y0) : Met l yX8_needed (.code yX8_needed cX8_needed 1 (some .int) :: TsG) rm_X8_needed (va_Pc [.ref (Γ.1 475)] (gx_P Γ C M)) (gx_Qi Γ y0.1 C y0.2) 0 0 (gA Γ) := by
  refine gm_i (by decide) (Nat.le_of_ble_eq_true rfl) ?_
  intro p e s m args below meth c Q S hG hret ls H locs hl hW hS
  obtain ⟨hx, hb, hml, hown, hts⟩ := id S
  have hl : lv_has ls 1 [(0, .ref (Γ.1 475))] := hl
  unfold fX8_needed at hf
  refine lv_aload_n hx hb dX8_needed_0 rfl (lv_at hl 0 rfl) ?_
  refine lv_iconst (v := (0 : Int32)) hx hb dX8_needed_1 (by decide) ?_
  refine put_X8_26 S hG hW hS fl_X8_77 dX8_needed_2 (fun H locs hW hS => ?_)
  refine lv_aload_n hx hb dX8_needed_5 rfl (lv_at hl 0 rfl) ?_
  obtain ⟨q6, hq6, hf⟩ := bnd_e hf
  refine gk0_i hS (gv_run (rest := []) S hG hW hS [] (c_X8_neededNow l Γ C (mset M 475 26 (0 : Int32)) hq6) pk_X8_neededNow ml_X8_171 (Nat.le_of_ble_eq_true rfl) rfl rfl rfl rfl ⟨Nat.le_of_ble_eq_true rfl, Nat.le_of_ble_eq_true rfl⟩ rfl hl.1 rfl (Nat.le_of_ble_eq_true rfl) dX8_needed_6 ⟨Nat.le_of_ble_eq_true rfl, Nat.le_of_ble_eq_true rfl⟩) (fun H locs hW hS => ?_)
  have e9 := Option.some.inj hf
  subst e9
  exact hret _ _ _ _ _ hW hS rfl rfl dX8_needed_9
noncomputable def fX8_whyRun_14 (M : Mem) (a1 : Int32) (s0_14 : Int32) : Option (Int32 × Mem) := cnd (((mset M 475 26 s0_14) 475 26) ≤ (0 : Int32)) (bnd (fX8_laysKeys (mset M 475 26 s0_14)) fun q27 => chk (vp_in a1 16) (cnd ((q27 495 a1.toNatClampNeg) ≤ (0 : Int32)) (chk (vp_in a1 16) (cnd ((q27 487 a1.toNatClampNeg) = (0 : Int32)) (some ((1 : Int32), q27)) (chk (vp_in a1 16) (bnd (fX8_inputsOf q27 a1) fun q65 => bnd (fX8_hasInputs q27 ((q27 487 a1.toNatClampNeg) - (1 : Int32)) q65) fun q68 => cnd (q68 = (0 : Int32)) (some ((2 : Int32), q27)) (some ((3 : Int32), q27)))))) (some ((0 : Int32), q27)))) (some ((0 : Int32), (mset M 475 26 s0_14)))
noncomputable def fX8_whyRun (M : Mem) (a1 : Int32) : Option (Int32 × Mem) := bnd (fX8_isTarget M a1) fun q3 => cnd (q3 = (0 : Int32)) (fX8_whyRun_14 M a1 (1 : Int32)) (fX8_whyRun_14 M a1 (0 : Int32))
abbrev rm_X8_whyRun : Room := { frames := 7, cells := 0, slots := 0, locals := 182 }
set_option maxRecDepth 100000 in
set_option maxHeartbeats 4000000 in
theorem c_X8_whyRun (l : Launch) (Γ : gx_G) (C M : Mem) (a1 : Int32) {y0 : (Int32 × Mem)} (hf : fX8_whyRun M a1 = some y0) : Met l yX8_whyRun (.code yX8_whyRun cX8_whyRun 2 (some .int) :: TsG) rm_X8_whyRun (va_Pc [.ref (Γ.1 475), .int a1] (gx_P Γ C M)) (gx_Qi Γ y0.1 C y0.2) 0 0 (gA Γ) := by
  refine gm_i (by decide) (Nat.le_of_ble_eq_true rfl) ?_
  intro p e s m args below meth c Q S hG hret ls H locs hl hW hS
  obtain ⟨hx, hb, hml, hown, hts⟩ := id S
  have hl : lv_has ls 2 [(0, .ref (Γ.1 475)), (1, .int a1)] := hl
  unfold fX8_whyRun at hf
  refine lv_aload_n hx hb dX8_whyRun_0 rfl (lv_at hl 0 rfl) ?_
  refine lv_aload_n hx hb dX8_whyRun_1 rfl (lv_at hl 0 rfl) ?_
  refine lv_iload_n hx hb dX8_whyRun_2 rfl (lv_at hl 1 rfl) ?_
  obtain ⟨q3, hq3, hf⟩ := bnd_e hf
  refine gk0_i hS (gv_run (rest := [.ref (Γ.1 475)]) S hG hW hS [.int a1] (c_X8_isTarget l Γ C M a1 hq3) pk_X8_isTarget ml_X8_133 (Nat.le_of_ble_eq_true rfl) rfl rfl rfl rfl ⟨Nat.le_of_ble_eq_true rfl, Nat.le_of_ble_eq_true rfl⟩ rfl hl.1 rfl (Nat.le_of_ble_eq_true rfl) dX8_whyRun_3 ⟨Nat.le_of_ble_eq_true rfl, Nat.le_of_ble_eq_true rfl⟩) (fun H locs hW hS => ?_)
  have J_14 : ∀ (s0_14 : Int32) , fX8_whyRun_14 M a1 s0_14 = some y0 → ∀ (H : Heap) (locs : List Loc) (ls : Array Slot), gx_W Γ C M H → va_S (gA Γ) s.heap H locs → lv_has ls 2 [(0, .ref (Γ.1 475)), (1, .int a1)] → W p l e rm_X8_whyRun s m args below meth c H locs 0 0 Q (F0 m 14 ls [.int s0_14, .ref (Γ.1 475)]) := by
    intro s0_14 hf H locs ls hW hS hl
    unfold fX8_whyRun_14 at hf
    refine put_X8_26 S hG hW hS fl_X8_77 dX8_whyRun_14 (fun H locs hW hS => ?_)
    refine lv_aload_n hx hb dX8_whyRun_17 rfl (lv_at hl 0 rfl) ?_
    refine get_X8_26 S hG hW fl_X8_77 dX8_whyRun_18 ?_
    refine lv_if_le (tgt := 26) hx hb dX8_whyRun_21 (by decide) (fun c21 => ?_) (fun c21 => ?_)
    · have hf := cn_t c21 hf
      refine lv_aload_n hx hb dX8_whyRun_26 rfl (lv_at hl 0 rfl) ?_
      obtain ⟨q27, hq27, hf⟩ := bnd_e hf
      refine gk0_v hS (gv_run (rest := []) S hG hW hS [] (c_X8_laysKeys l Γ C (mset M 475 26 s0_14) hq27) pk_X8_laysKeys ml_X8_168 (Nat.le_of_ble_eq_true rfl) rfl rfl rfl rfl ⟨Nat.le_of_ble_eq_true rfl, Nat.le_of_ble_eq_true rfl⟩ rfl hl.1 rfl (Nat.le_of_ble_eq_true rfl) dX8_whyRun_27 ⟨Nat.le_of_ble_eq_true rfl, Nat.le_of_ble_eq_true rfl⟩) (fun H locs hW hS => ?_)
      refine lv_aload_n hx hb dX8_whyRun_30 rfl (lv_at hl 0 rfl) ?_
      refine get_X8_23 S hG hW fl_X8_68 dX8_whyRun_31 ?_
      refine lv_iload_n hx hb dX8_whyRun_34 rfl (lv_at hl 1 rfl) ?_
      have g35 := ck_p hf
      have hf := ck_r hf
      refine ald_m S hG hW shk_495 lnk_495 g35 dX8_whyRun_35 ?_
      refine lv_if_le (tgt := 41) hx hb dX8_whyRun_36 (by decide) (fun c36 => ?_) (fun c36 => ?_)
      · have hf := cn_t c36 hf
        refine lv_aload_n hx hb dX8_whyRun_41 rfl (lv_at hl 0 rfl) ?_
        refine get_X8_13 S hG hW fl_X8_44 dX8_whyRun_42 ?_
        refine lv_iload_n hx hb dX8_whyRun_45 rfl (lv_at hl 1 rfl) ?_
        have g46 := ck_p hf
        have hf := ck_r hf
        refine ald_m S hG hW shk_487 lnk_487 g46 dX8_whyRun_46 ?_
        refine lv_if_ne (tgt := 54) hx hb dX8_whyRun_47 (by decide) (fun c47 => ?_) (fun c47 => ?_)
        · have hf := cn_f c47 hf
          refine lv_aload_n hx hb dX8_whyRun_54 rfl (lv_at hl 0 rfl) ?_
          refine lv_aload_n hx hb dX8_whyRun_55 rfl (lv_at hl 0 rfl) ?_
          refine get_X8_13 S hG hW fl_X8_44 dX8_whyRun_56 ?_
          refine lv_iload_n hx hb dX8_whyRun_59 rfl (lv_at hl 1 rfl) ?_
          have g60 := ck_p hf
          have hf := ck_r hf
          refine ald_m S hG hW shk_487 lnk_487 g60 dX8_whyRun_60 ?_
          refine lv_iconst (v := (1 : Int32)) hx hb dX8_whyRun_61 (by decide) ?_
          refine lv_isub hx hb dX8_whyRun_62 ?_
          refine lv_aload_n hx hb dX8_whyRun_63 rfl (lv_at hl 0 rfl) ?_
          refine lv_iload_n hx hb dX8_whyRun_64 rfl (lv_at hl 1 rfl) ?_
          obtain ⟨q65, hq65, hf⟩ := bnd_e hf
          refine gk0_i hS (gv_run (rest := [.int ((q27 487 a1.toNatClampNeg) - (1 : Int32)), .ref (Γ.1 475)]) S hG hW hS [.int a1] (c_X8_inputsOf l Γ C q27 a1 hq65) pk_X8_inputsOf ml_X8_140 (Nat.le_of_ble_eq_true rfl) rfl rfl rfl rfl ⟨Nat.le_of_ble_eq_true rfl, Nat.le_of_ble_eq_true rfl⟩ rfl hl.1 rfl (Nat.le_of_ble_eq_true rfl) dX8_whyRun_65 ⟨Nat.le_of_ble_eq_true rfl, Nat.le_of_ble_eq_true rfl⟩) (fun H locs hW hS => ?_)
          obtain ⟨q68, hq68, hf⟩ := bnd_e hf
          refine gk0_i hS (gv_run (rest := []) S hG hW hS [.int ((q27 487 a1.toNatClampNeg) - (1 : Int32)), .int q65] (c_X8_hasInputs l Γ C q27 ((q27 487 a1.toNatClampNeg) - (1 : Int32)) q65 hq68) pk_X8_hasInputs ml_X8_162 (Nat.le_of_ble_eq_true rfl) rfl rfl rfl rfl ⟨Nat.le_of_ble_eq_true rfl, Nat.le_of_ble_eq_true rfl⟩ rfl hl.1 rfl (Nat.le_of_ble_eq_true rfl) dX8_whyRun_68 ⟨Nat.le_of_ble_eq_true rfl, Nat.le_of_ble_eq_true rfl⟩) (fun H locs hW hS => ?_)
          refine lv_if_eq (tgt := 78) hx hb dX8_whyRun_71 (by decide) (fun c71 => ?_) (fun c71 => ?_)
          · have hf := cn_t c71 hf
            refine lv_iconst (v := (2 : Int32)) hx hb dX8_whyRun_78 (by decide) ?_
            have e9 := Option.some.inj hf
            subst e9
            exact hret _ _ _ _ _ hW hS rfl rfl dX8_whyRun_79
          · have hf := cn_f c71 hf
            refine lv_iconst (v := (3 : Int32)) hx hb dX8_whyRun_74 (by decide) ?_
            refine lv_goto (tgt := 79) hx hb dX8_whyRun_75 (by decide) ?_
            have e9 := Option.some.inj hf
            subst e9
            exact hret _ _ _ _ _ hW hS rfl rfl dX8_whyRun_79
        · have hf := cn_t c47 hf
          refine lv_iconst (v := (1 : Int32)) hx hb dX8_whyRun_50 (by decide) ?_
          refine lv_goto (tgt := 79) hx hb dX8_whyRun_51 (by decide) ?_
          have e9 := Option.some.inj hf
          subst e9
          exact hret _ _ _ _ _ hW hS rfl rfl dX8_whyRun_79
      · have hf := cn_f c36 hf
        refine lv_iconst (v := (0 : Int32)) hx hb dX8_whyRun_39 (by decide) ?_
        have e9 := Option.some.inj hf
        subst e9
        exact hret _ _ _ _ _ hW hS rfl rfl dX8_whyRun_40
    · have hf := cn_f c21 hf
      refine lv_iconst (v := (0 : Int32)) hx hb dX8_whyRun_24 (by decide) ?_
      have e9 := Option.some.inj hf
      subst e9
      exact hret _ _ _ _ _ hW hS rfl rfl dX8_whyRun_25
  refine lv_if_eq (tgt := 13) hx hb dX8_whyRun_6 (by decide) (fun c6 => ?_) (fun c6 => ?_)
  · have hf := cn_t c6 hf
    refine lv_iconst (v := (1 : Int32)) hx hb dX8_whyRun_13 (by decide) ?_
    exact J_14 (1 : Int32) hf H locs ls hW hS (lv_sub hl [0, 1] rfl)
  · have hf := cn_f c6 hf
    refine lv_iconst (v := (0 : Int32)) hx hb dX8_whyRun_9 (by decide) ?_
    refine lv_goto (tgt := 14) hx hb dX8_whyRun_10 (by decide) ?_
    exact J_14 (0 : Int32) hf H locs ls hW hS (lv_sub hl [0, 1] rfl)
noncomputable def fX8_runs_140 (a1 : Int32) (C_140 : Mem) : Option Mem := chk (vp_in a1 16) (chk (vp_in a1 16) (some (mset C_140 487 a1.toNatClampNeg (C_140 495 a1.toNatClampNeg))))
noncomputable def fX8_runs_120 (a1 : Int32) (t_86 : (Mem × Int32)) : Option Mem := chk (vp_in a1 16) (fX8_runs_140 a1 (mset (mset t_86.1 475 16 ((t_86.1 475 16) + (1 : Int32))) 495 a1.toNatClampNeg ((mset t_86.1 475 16 ((t_86.1 475 16) + (1 : Int32))) 475 16)))
noncomputable def fX8_runs_86 (a1 : Int32) : (Mem × Int32) → Option ((Mem × Int32) ⊕ Mem) := fun t_86 => cnd ((t_86.1 475 9) ≤ t_86.2) (exR (fX8_runs_120 a1 t_86)) (chk (vp_in t_86.2 16) (chk (vp_in (((16 : Int32) * (t_86.1 475 16)) + t_86.2) 3200) (some (.inl ((mset t_86.1 493 (((16 : Int32) * (t_86.1 475 16)) + t_86.2).toNatClampNeg (t_86.1 495 t_86.2.toNatClampNeg)), (t_86.2 + (1 : Int32)))))))
noncomputable def fX8_runs_84 (a1 : Int32) (t_50 : (Mem × Int32)) : Option Mem := lp (fX8_runs_86 a1) (t_50.1, (0 : Int32))
noncomputable def fX8_runs_50 (a1 : Int32) : (Mem × Int32) → Option ((Mem × Int32) ⊕ Mem) := fun t_50 => cnd ((t_50.1 475 2) ≤ t_50.2) (exR (fX8_runs_84 a1 t_50)) (chk (vp_in t_50.2 24) (chk (vp_in (((24 : Int32) * (t_50.1 475 16)) + t_50.2) 4800) (some (.inl ((mset t_50.1 492 (((24 : Int32) * (t_50.1 475 16)) + t_50.2).toNatClampNeg (t_50.1 481 t_50.2.toNatClampNeg)), (t_50.2 + (1 : Int32)))))))
noncomputable def fX8_runs (M : Mem) (a1 : Int32) : Option Mem := chk (vp_in a1 16) (cnd ((M 495 a1.toNatClampNeg) = (0 : Int32)) (chk (vp_in (M 475 16) 200) (bnd (fX8_inputsOf (mset M 489 (M 475 16).toNatClampNeg a1) a1) fun q29 => chk (vp_in ((mset M 489 (M 475 16).toNatClampNeg a1) 475 16) 200) (chk (vp_in a1 16) (chk (vp_in ((mset (mset M 489 (M 475 16).toNatClampNeg a1) 490 ((mset M 489 (M 475 16).toNatClampNeg a1) 475 16).toNatClampNeg q29) 475 16) 200) (lp (fX8_runs_50 a1) ((mset (mset (mset M 489 (M 475 16).toNatClampNeg a1) 490 ((mset M 489 (M 475 16).toNatClampNeg a1) 475 16).toNatClampNeg q29) 491 ((mset (mset M 489 (M 475 16).toNatClampNeg a1) 490 ((mset M 489 (M 475 16).toNatClampNeg a1) 475 16).toNatClampNeg q29) 475 16).toNatClampNeg ((mset (mset M 489 (M 475 16).toNatClampNeg a1) 490 ((mset M 489 (M 475 16).toNatClampNeg a1) 475 16).toNatClampNeg q29) 486 a1.toNatClampNeg)), (0 : Int32))))))) (fX8_runs_140 a1 M))
abbrev rm_X8_runs : Room := { frames := 5, cells := 0, slots := 0, locals := 132 }
set_option maxRecDepth 100000 in
set_option maxHeartbeats 4000000 in
theorem c_X8_runs (l : Launch) (Γ : gx_G) (C M : Mem) (a1 : Int32) {y0 : Mem} (hf : fX8_runs M a1 = some y0) : Met l yX8_runs (.code yX8_runs cX8_runs 3 none :: TsG) rm_X8_runs (va_Pc [.ref (Γ.1 475), .int a1] (gx_P Γ C M)) (gx_Qv Γ C y0) 0 0 (gA Γ) := by
  refine gm_v (by decide) (Nat.le_of_ble_eq_true rfl) ?_
  intro p e s m args below meth c Q S hG hret ls H locs hl hW hS
  obtain ⟨hx, hb, hml, hown, hts⟩ := id S
  have hl : lv_has ls 3 [(0, .ref (Γ.1 475)), (1, .int a1)] := hl
  unfold fX8_runs at hf
  refine lv_aload_n hx hb dX8_runs_0 rfl (lv_at hl 0 rfl) ?_
  refine get_X8_23 S hG hW fl_X8_68 dX8_runs_1 ?_
  refine lv_iload_n hx hb dX8_runs_4 rfl (lv_at hl 1 rfl) ?_
  have g5 := ck_p hf
  have hf := ck_r hf
  refine ald_m S hG hW shk_495 lnk_495 g5 dX8_runs_5 ?_
  have J_140 : ∀ (C_140 : Mem) , fX8_runs_140 a1 C_140 = some y0 → ∀ (H : Heap) (locs : List Loc) (ls : Array Slot), gx_W Γ C C_140 H → va_S (gA Γ) s.heap H locs → lv_has ls 3 [(0, .ref (Γ.1 475)), (1, .int a1)] → W p l e rm_X8_runs s m args below meth c H locs 0 0 Q (F0 m 140 ls []) := by
    intro C_140 hf H locs ls hW hS hl
    unfold fX8_runs_140 at hf
    refine lv_aload_n hx hb dX8_runs_140 rfl (lv_at hl 0 rfl) ?_
    refine get_X8_13 S hG hW fl_X8_44 dX8_runs_141 ?_
    refine lv_iload_n hx hb dX8_runs_144 rfl (lv_at hl 1 rfl) ?_
    refine lv_aload_n hx hb dX8_runs_145 rfl (lv_at hl 0 rfl) ?_
    refine get_X8_23 S hG hW fl_X8_68 dX8_runs_146 ?_
    refine lv_iload_n hx hb dX8_runs_149 rfl (lv_at hl 1 rfl) ?_
    have g150 := ck_p hf
    have hf := ck_r hf
    refine ald_m S hG hW shk_495 lnk_495 g150 dX8_runs_150 ?_
    have g151 := ck_p hf
    have hf := ck_r hf
    refine ast_m S hG hW hS shk_487 lnk_487 g151 dX8_runs_151 (fun H locs hW hS => ?_)
    have e9 := Option.some.inj hf
    subst e9
    exact hret _ _ _ _ hW hS dX8_runs_152
  refine lv_if_ne (tgt := 140) hx hb dX8_runs_6 (by decide) (fun c6 => ?_) (fun c6 => ?_)
  · have hf := cn_f c6 hf
    exact J_140 M hf H locs ls hW hS (lv_sub hl [0, 1] rfl)
  · have hf := cn_t c6 hf
    refine lv_aload_n hx hb dX8_runs_9 rfl (lv_at hl 0 rfl) ?_
    refine get_X8_17 S hG hW fl_X8_50 dX8_runs_10 ?_
    refine lv_aload_n hx hb dX8_runs_13 rfl (lv_at hl 0 rfl) ?_
    refine get_X8_16 S hG hW fl_X8_159 dX8_runs_14 ?_
    refine lv_iload_n hx hb dX8_runs_17 rfl (lv_at hl 1 rfl) ?_
    have g18 := ck_p hf
    have hf := ck_r hf
    refine ast_m S hG hW hS shk_489 lnk_489 g18 dX8_runs_18 (fun H locs hW hS => ?_)
    refine lv_aload_n hx hb dX8_runs_19 rfl (lv_at hl 0 rfl) ?_
    refine get_X8_18 S hG hW fl_X8_53 dX8_runs_20 ?_
    refine lv_aload_n hx hb dX8_runs_23 rfl (lv_at hl 0 rfl) ?_
    refine get_X8_16 S hG hW fl_X8_159 dX8_runs_24 ?_
    refine lv_aload_n hx hb dX8_runs_27 rfl (lv_at hl 0 rfl) ?_
    refine lv_iload_n hx hb dX8_runs_28 rfl (lv_at hl 1 rfl) ?_
    obtain ⟨q29, hq29, hf⟩ := bnd_e hf
    refine gk0_i hS (gv_run (rest := [.int ((mset M 489 (M 475 16).toNatClampNeg a1) 475 16), .ref (Γ.1 490)]) S hG hW hS [.int a1] (c_X8_inputsOf l Γ C (mset M 489 (M 475 16).toNatClampNeg a1) a1 hq29) pk_X8_inputsOf ml_X8_140 (Nat.le_of_ble_eq_true rfl) rfl rfl rfl rfl ⟨Nat.le_of_ble_eq_true rfl, Nat.le_of_ble_eq_true rfl⟩ rfl hl.1 rfl (Nat.le_of_ble_eq_true rfl) dX8_runs_29 ⟨Nat.le_of_ble_eq_true rfl, Nat.le_of_ble_eq_true rfl⟩) (fun H locs hW hS => ?_)
    have g32 := ck_p hf
    have hf := ck_r hf
    refine ast_m S hG hW hS shk_490 lnk_490 g32 dX8_runs_32 (fun H locs hW hS => ?_)
    refine lv_aload_n hx hb dX8_runs_33 rfl (lv_at hl 0 rfl) ?_
    refine get_X8_19 S hG hW fl_X8_56 dX8_runs_34 ?_
    refine lv_aload_n hx hb dX8_runs_37 rfl (lv_at hl 0 rfl) ?_
    refine get_X8_16 S hG hW fl_X8_159 dX8_runs_38 ?_
    refine lv_aload_n hx hb dX8_runs_41 rfl (lv_at hl 0 rfl) ?_
    refine get_X8_12 S hG hW fl_X8_41 dX8_runs_42 ?_
    refine lv_iload_n hx hb dX8_runs_45 rfl (lv_at hl 1 rfl) ?_
    have g46 := ck_p hf
    have hf := ck_r hf
    refine ald_m S hG hW shk_486 lnk_486 g46 dX8_runs_46 ?_
    have g47 := ck_p hf
    have hf := ck_r hf
    refine ast_m S hG hW hS shk_491 lnk_491 g47 dX8_runs_47 (fun H locs hW hS => ?_)
    refine lv_iconst (v := (0 : Int32)) hx hb dX8_runs_48 (by decide) ?_
    refine lv_istore_n (lv' := [(2, .int (0 : Int32)), (0, .ref (Γ.1 475)), (1, .int a1)]) hx hb dX8_runs_49 rfl hl (by decide) rfl (fun ls hl => ?_)
    have J_50 : ∀  (t_50 : Mem × Int32), lp (fX8_runs_50 a1) t_50 = some y0 → ∀ (H : Heap) (locs : List Loc) (ls : Array Slot), gx_W Γ C t_50.1 H → va_S (gA Γ) s.heap H locs → lv_has ls 3 [(0, .ref (Γ.1 475)), (1, .int a1), (2, .int t_50.2)] → W p l e rm_X8_runs s m args below meth c H locs 0 0 Q (F0 m 50 ls []) := by
      refine lp_ind (P := fun (t_50 : Mem × Int32) => ∀ (H : Heap) (locs : List Loc) (ls : Array Slot), gx_W Γ C t_50.1 H → va_S (gA Γ) s.heap H locs → lv_has ls 3 [(0, .ref (Γ.1 475)), (1, .int a1), (2, .int t_50.2)] → W p l e rm_X8_runs s m args below meth c H locs 0 0 Q (F0 m 50 ls [])) ?_
      intro t_50 y1 hf kI1 kX1 H locs ls hW hS hl
      unfold fX8_runs_50 at hf
      refine lv_iload_n hx hb dX8_runs_50 rfl (lv_at hl 2 rfl) ?_
      refine lv_aload_n hx hb dX8_runs_51 rfl (lv_at hl 0 rfl) ?_
      refine get_X8_2 S hG hW fl_X8_108 dX8_runs_52 ?_
      have J_84 : fX8_runs_84 a1 t_50 = some y0 → ∀ (H : Heap) (locs : List Loc) (ls : Array Slot), gx_W Γ C t_50.1 H → va_S (gA Γ) s.heap H locs → lv_has ls 3 [(0, .ref (Γ.1 475)), (1, .int a1)] → W p l e rm_X8_runs s m args below meth c H locs 0 0 Q (F0 m 84 ls []) := by
        intro  hf H locs ls hW hS hl
        unfold fX8_runs_84 at hf
        refine lv_iconst (v := (0 : Int32)) hx hb dX8_runs_84 (by decide) ?_
        refine lv_istore_n (lv' := [(2, .int (0 : Int32)), (0, .ref (Γ.1 475)), (1, .int a1)]) hx hb dX8_runs_85 rfl hl (by decide) rfl (fun ls hl => ?_)
        have J_86 : ∀  (t_86 : Mem × Int32), lp (fX8_runs_86 a1) t_86 = some y0 → ∀ (H : Heap) (locs : List Loc) (ls : Array Slot), gx_W Γ C t_86.1 H → va_S (gA Γ) s.heap H locs → lv_has ls 3 [(0, .ref (Γ.1 475)), (1, .int a1), (2, .int t_86.2)] → W p l e rm_X8_runs s m args below meth c H locs 0 0 Q (F0 m 86 ls []) := by
          refine lp_ind (P := fun (t_86 : Mem × Int32) => ∀ (H : Heap) (locs : List Loc) (ls : Array Slot), gx_W Γ C t_86.1 H → va_S (gA Γ) s.heap H locs → lv_has ls 3 [(0, .ref (Γ.1 475)), (1, .int a1), (2, .int t_86.2)] → W p l e rm_X8_runs s m args below meth c H locs 0 0 Q (F0 m 86 ls [])) ?_
          intro t_86 y1 hf kI1 kX1 H locs ls hW hS hl
          unfold fX8_runs_86 at hf
          refine lv_iload_n hx hb dX8_runs_86 rfl (lv_at hl 2 rfl) ?_
          refine lv_aload_n hx hb dX8_runs_87 rfl (lv_at hl 0 rfl) ?_
          refine get_X8_9 S hG hW fl_X8_127 dX8_runs_88 ?_
          have J_120 : fX8_runs_120 a1 t_86 = some y0 → ∀ (H : Heap) (locs : List Loc) (ls : Array Slot), gx_W Γ C t_86.1 H → va_S (gA Γ) s.heap H locs → lv_has ls 3 [(0, .ref (Γ.1 475)), (1, .int a1)] → W p l e rm_X8_runs s m args below meth c H locs 0 0 Q (F0 m 120 ls []) := by
            intro  hf H locs ls hW hS hl
            unfold fX8_runs_120 at hf
            refine lv_aload_n hx hb dX8_runs_120 rfl (lv_at hl 0 rfl) ?_
            refine lv_dup hx hb dX8_runs_121 rfl ?_
            refine get_X8_16 S hG hW fl_X8_159 dX8_runs_122 ?_
            refine lv_iconst (v := (1 : Int32)) hx hb dX8_runs_125 (by decide) ?_
            refine lv_iadd hx hb dX8_runs_126 ?_
            refine put_X8_16 S hG hW hS fl_X8_159 dX8_runs_127 (fun H locs hW hS => ?_)
            refine lv_aload_n hx hb dX8_runs_130 rfl (lv_at hl 0 rfl) ?_
            refine get_X8_23 S hG hW fl_X8_68 dX8_runs_131 ?_
            refine lv_iload_n hx hb dX8_runs_134 rfl (lv_at hl 1 rfl) ?_
            refine lv_aload_n hx hb dX8_runs_135 rfl (lv_at hl 0 rfl) ?_
            refine get_X8_16 S hG hW fl_X8_159 dX8_runs_136 ?_
            have g139 := ck_p hf
            have hf := ck_r hf
            refine ast_m S hG hW hS shk_495 lnk_495 g139 dX8_runs_139 (fun H locs hW hS => ?_)
            exact J_140 (mset (mset t_86.1 475 16 ((t_86.1 475 16) + (1 : Int32))) 495 a1.toNatClampNeg ((mset t_86.1 475 16 ((t_86.1 475 16) + (1 : Int32))) 475 16)) hf H locs ls hW hS (lv_sub hl [0, 1] rfl)
          refine lv_icmp_ge (tgt := 120) hx hb dX8_runs_91 (by decide) (fun c91 => ?_) (fun c91 => ?_)
          · have hf := cn_t c91 hf
            obtain ⟨z91, hf, ez⟩ := exR_e hf
            rw [kX1 _ ez] at hf
            exact J_120  hf H locs ls hW hS (lv_sub hl [0, 1] rfl)
          · have hf := cn_f c91 hf
            refine lv_aload_n hx hb dX8_runs_94 rfl (lv_at hl 0 rfl) ?_
            refine get_X8_21 S hG hW fl_X8_62 dX8_runs_95 ?_
            refine lv_bipush (v := (16 : Int32)) hx hb dX8_runs_98 (by decide) ?_
            refine lv_aload_n hx hb dX8_runs_100 rfl (lv_at hl 0 rfl) ?_
            refine get_X8_16 S hG hW fl_X8_159 dX8_runs_101 ?_
            refine lv_imul hx hb dX8_runs_104 ?_
            refine lv_iload_n hx hb dX8_runs_105 rfl (lv_at hl 2 rfl) ?_
            refine lv_iadd hx hb dX8_runs_106 ?_
            refine lv_aload_n hx hb dX8_runs_107 rfl (lv_at hl 0 rfl) ?_
            refine get_X8_23 S hG hW fl_X8_68 dX8_runs_108 ?_
            refine lv_iload_n hx hb dX8_runs_111 rfl (lv_at hl 2 rfl) ?_
            have g112 := ck_p hf
            have hf := ck_r hf
            refine ald_m S hG hW shk_495 lnk_495 g112 dX8_runs_112 ?_
            have g113 := ck_p hf
            have hf := ck_r hf
            refine ast_m S hG hW hS shk_493 lnk_493 g113 dX8_runs_113 (fun H locs hW hS => ?_)
            refine lv_iinc (v := (t_86.2 + (1 : Int32))) (lv' := [(2, .int (t_86.2 + (1 : Int32))), (0, .ref (Γ.1 475)), (1, .int a1)]) hx hb dX8_runs_114 hl (k := 2) rfl rfl (by decide) rfl (fun ls hl => ?_)
            refine lv_goto (tgt := 86) hx hb dX8_runs_117 (by decide) ?_
            exact kI1 _ (Option.some.inj hf).symm H locs ls hW hS (lv_sub hl [1, 2, 0] rfl)
        exact J_86 (t_50.1, (0 : Int32)) hf H locs ls hW hS (lv_sub hl [1, 2, 0] rfl)
      refine lv_icmp_ge (tgt := 84) hx hb dX8_runs_55 (by decide) (fun c55 => ?_) (fun c55 => ?_)
      · have hf := cn_t c55 hf
        obtain ⟨z55, hf, ez⟩ := exR_e hf
        rw [kX1 _ ez] at hf
        exact J_84  hf H locs ls hW hS (lv_sub hl [0, 1] rfl)
      · have hf := cn_f c55 hf
        refine lv_aload_n hx hb dX8_runs_58 rfl (lv_at hl 0 rfl) ?_
        refine get_X8_20 S hG hW fl_X8_59 dX8_runs_59 ?_
        refine lv_bipush (v := (24 : Int32)) hx hb dX8_runs_62 (by decide) ?_
        refine lv_aload_n hx hb dX8_runs_64 rfl (lv_at hl 0 rfl) ?_
        refine get_X8_16 S hG hW fl_X8_159 dX8_runs_65 ?_
        refine lv_imul hx hb dX8_runs_68 ?_
        refine lv_iload_n hx hb dX8_runs_69 rfl (lv_at hl 2 rfl) ?_
        refine lv_iadd hx hb dX8_runs_70 ?_
        refine lv_aload_n hx hb dX8_runs_71 rfl (lv_at hl 0 rfl) ?_
        refine get_X8_6 S hG hW fl_X8_26 dX8_runs_72 ?_
        refine lv_iload_n hx hb dX8_runs_75 rfl (lv_at hl 2 rfl) ?_
        have g76 := ck_p hf
        have hf := ck_r hf
        refine ald_m S hG hW shk_481 lnk_481 g76 dX8_runs_76 ?_
        have g77 := ck_p hf
        have hf := ck_r hf
        refine ast_m S hG hW hS shk_492 lnk_492 g77 dX8_runs_77 (fun H locs hW hS => ?_)
        refine lv_iinc (v := (t_50.2 + (1 : Int32))) (lv' := [(2, .int (t_50.2 + (1 : Int32))), (0, .ref (Γ.1 475)), (1, .int a1)]) hx hb dX8_runs_78 hl (k := 2) rfl rfl (by decide) rfl (fun ls hl => ?_)
        refine lv_goto (tgt := 50) hx hb dX8_runs_81 (by decide) ?_
        exact kI1 _ (Option.some.inj hf).symm H locs ls hW hS (lv_sub hl [1, 2, 0] rfl)
    exact J_50 ((mset (mset (mset M 489 (M 475 16).toNatClampNeg a1) 490 ((mset M 489 (M 475 16).toNatClampNeg a1) 475 16).toNatClampNeg q29) 491 ((mset (mset M 489 (M 475 16).toNatClampNeg a1) 490 ((mset M 489 (M 475 16).toNatClampNeg a1) 475 16).toNatClampNeg q29) 475 16).toNatClampNeg ((mset (mset M 489 (M 475 16).toNatClampNeg a1) 490 ((mset M 489 (M 475 16).toNatClampNeg a1) 475 16).toNatClampNeg q29) 486 a1.toNatClampNeg)), (0 : Int32)) hf H locs ls hW hS (lv_sub hl [1, 2, 0] rfl)
noncomputable def fX8_run_67 (a1 : Int32) (q27 : (Int32 × Mem)) (s0_67 : Int32) : Option (Int32 × Mem) := cnd (((mset q27.2 475 26 s0_67) 475 26) ≤ (0 : Int32)) (bnd (fX8_runs (mset q27.2 475 26 s0_67) a1) fun q81 => chk (vp_in a1 16) (some ((q81 495 a1.toNatClampNeg), q81))) (some ((0 : Int32), (mset q27.2 475 26 s0_67)))
noncomputable def fX8_run_66 (a1 : Int32) (q27 : (Int32 × Mem)) : Option (Int32 × Mem) := fX8_run_67 a1 q27 (0 : Int32)
noncomputable def fX8_run_62 (a1 : Int32) (q27 : (Int32 × Mem)) : Option (Int32 × Mem) := fX8_run_67 a1 q27 (2 : Int32)
noncomputable def fX8_run_14 (M : Mem) (a1 : Int32) (s0_14 : Int32) : Option (Int32 × Mem) := cnd (((mset M 475 26 s0_14) 475 26) ≤ (0 : Int32)) (bnd (fX8_neededNow (mset M 475 26 s0_14)) fun q27 => chk (vp_in a1 16) (cnd ((q27.1 &&& (q27.2 486 a1.toNatClampNeg)) = (0 : Int32)) (cnd (((q27.1 >>> (a1 &&& 31)) &&& (1 : Int32)) = (1 : Int32)) (cnd ((q27.2 475 16) = (200 : Int32)) (fX8_run_62 a1 q27) (fX8_run_66 a1 q27)) (fX8_run_66 a1 q27)) (fX8_run_62 a1 q27))) (some ((0 : Int32), (mset M 475 26 s0_14)))
noncomputable def fX8_run (M : Mem) (a1 : Int32) : Option (Int32 × Mem) := bnd (fX8_isTarget M a1) fun q3 => cnd (q3 = (0 : Int32)) (fX8_run_14 M a1 (1 : Int32)) (fX8_run_14 M a1 (0 : Int32))
abbrev rm_X8_run : Room := { frames := 8, cells := 0, slots := 0, locals := 204 }
set_option maxRecDepth 100000 in
set_option maxHeartbeats 4000000 in
theorem c_X8_run (l : Launch) (Γ : gx_G) (C M : Mem) (a1 : Int32) {y0 : (Int32 × Mem)} (hf : fX8_run M a1 = some y0) : Met l yX8_run (.code yX8_run cX8_run 3 (some .int) :: TsG) rm_X8_run (va_Pc [.ref (Γ.1 475), .int a1] (gx_P Γ C M)) (gx_Qi Γ y0.1 C y0.2) 0 0 (gA Γ) := by
  refine gm_i (by decide) (Nat.le_of_ble_eq_true rfl) ?_
  intro p e s m args below meth c Q S hG hret ls H locs hl hW hS
  obtain ⟨hx, hb, hml, hown, hts⟩ := id S
  have hl : lv_has ls 3 [(0, .ref (Γ.1 475)), (1, .int a1)] := hl
  unfold fX8_run at hf
  refine lv_aload_n hx hb dX8_run_0 rfl (lv_at hl 0 rfl) ?_
  refine lv_aload_n hx hb dX8_run_1 rfl (lv_at hl 0 rfl) ?_
  refine lv_iload_n hx hb dX8_run_2 rfl (lv_at hl 1 rfl) ?_
  obtain ⟨q3, hq3, hf⟩ := bnd_e hf
  refine gk0_i hS (gv_run (rest := [.ref (Γ.1 475)]) S hG hW hS [.int a1] (c_X8_isTarget l Γ C M a1 hq3) pk_X8_isTarget ml_X8_133 (Nat.le_of_ble_eq_true rfl) rfl rfl rfl rfl ⟨Nat.le_of_ble_eq_true rfl, Nat.le_of_ble_eq_true rfl⟩ rfl hl.1 rfl (Nat.le_of_ble_eq_true rfl) dX8_run_3 ⟨Nat.le_of_ble_eq_true rfl, Nat.le_of_ble_eq_true rfl⟩) (fun H locs hW hS => ?_)
  have J_14 : ∀ (s0_14 : Int32) , fX8_run_14 M a1 s0_14 = some y0 → ∀ (H : Heap) (locs : List Loc) (ls : Array Slot), gx_W Γ C M H → va_S (gA Γ) s.heap H locs → lv_has ls 3 [(0, .ref (Γ.1 475)), (1, .int a1)] → W p l e rm_X8_run s m args below meth c H locs 0 0 Q (F0 m 14 ls [.int s0_14, .ref (Γ.1 475)]) := by
    intro s0_14 hf H locs ls hW hS hl
    unfold fX8_run_14 at hf
    refine put_X8_26 S hG hW hS fl_X8_77 dX8_run_14 (fun H locs hW hS => ?_)
    refine lv_aload_n hx hb dX8_run_17 rfl (lv_at hl 0 rfl) ?_
    refine get_X8_26 S hG hW fl_X8_77 dX8_run_18 ?_
    refine lv_if_le (tgt := 26) hx hb dX8_run_21 (by decide) (fun c21 => ?_) (fun c21 => ?_)
    · have hf := cn_t c21 hf
      refine lv_aload_n hx hb dX8_run_26 rfl (lv_at hl 0 rfl) ?_
      obtain ⟨q27, hq27, hf⟩ := bnd_e hf
      refine gk0_i hS (gv_run (rest := []) S hG hW hS [] (c_X8_neededNow l Γ C (mset M 475 26 s0_14) hq27) pk_X8_neededNow ml_X8_171 (Nat.le_of_ble_eq_true rfl) rfl rfl rfl rfl ⟨Nat.le_of_ble_eq_true rfl, Nat.le_of_ble_eq_true rfl⟩ rfl hl.1 rfl (Nat.le_of_ble_eq_true rfl) dX8_run_27 ⟨Nat.le_of_ble_eq_true rfl, Nat.le_of_ble_eq_true rfl⟩) (fun H locs hW hS => ?_)
      refine lv_istore_n (lv' := [(2, .int q27.1), (0, .ref (Γ.1 475)), (1, .int a1)]) hx hb dX8_run_30 rfl hl (by decide) rfl (fun ls hl => ?_)
      refine lv_aload_n hx hb dX8_run_31 rfl (lv_at hl 1 rfl) ?_
      refine lv_iload_n hx hb dX8_run_32 rfl (lv_at hl 0 rfl) ?_
      refine lv_aload_n hx hb dX8_run_33 rfl (lv_at hl 1 rfl) ?_
      refine get_X8_12 S hG hW fl_X8_41 dX8_run_34 ?_
      refine lv_iload_n hx hb dX8_run_37 rfl (lv_at hl 2 rfl) ?_
      have g38 := ck_p hf
      have hf := ck_r hf
      refine ald_m S hG hW shk_486 lnk_486 g38 dX8_run_38 ?_
      refine lv_iand hx hb dX8_run_39 ?_
      have J_67 : ∀ (s0_67 : Int32) , fX8_run_67 a1 q27 s0_67 = some y0 → ∀ (H : Heap) (locs : List Loc) (ls : Array Slot), gx_W Γ C q27.2 H → va_S (gA Γ) s.heap H locs → lv_has ls 3 [(0, .ref (Γ.1 475)), (1, .int a1)] → W p l e rm_X8_run s m args below meth c H locs 0 0 Q (F0 m 67 ls [.int s0_67, .ref (Γ.1 475)]) := by
        intro s0_67 hf H locs ls hW hS hl
        unfold fX8_run_67 at hf
        refine put_X8_26 S hG hW hS fl_X8_77 dX8_run_67 (fun H locs hW hS => ?_)
        refine lv_aload_n hx hb dX8_run_70 rfl (lv_at hl 0 rfl) ?_
        refine get_X8_26 S hG hW fl_X8_77 dX8_run_71 ?_
        refine lv_if_le (tgt := 79) hx hb dX8_run_74 (by decide) (fun c74 => ?_) (fun c74 => ?_)
        · have hf := cn_t c74 hf
          refine lv_aload_n hx hb dX8_run_79 rfl (lv_at hl 0 rfl) ?_
          refine lv_iload_n hx hb dX8_run_80 rfl (lv_at hl 1 rfl) ?_
          obtain ⟨q81, hq81, hf⟩ := bnd_e hf
          refine gk0_v hS (gv_run (rest := []) S hG hW hS [.int a1] (c_X8_runs l Γ C (mset q27.2 475 26 s0_67) a1 hq81) pk_X8_runs ml_X8_174 (Nat.le_of_ble_eq_true rfl) rfl rfl rfl rfl ⟨Nat.le_of_ble_eq_true rfl, Nat.le_of_ble_eq_true rfl⟩ rfl hl.1 rfl (Nat.le_of_ble_eq_true rfl) dX8_run_81 ⟨Nat.le_of_ble_eq_true rfl, Nat.le_of_ble_eq_true rfl⟩) (fun H locs hW hS => ?_)
          refine lv_aload_n hx hb dX8_run_84 rfl (lv_at hl 0 rfl) ?_
          refine get_X8_23 S hG hW fl_X8_68 dX8_run_85 ?_
          refine lv_iload_n hx hb dX8_run_88 rfl (lv_at hl 1 rfl) ?_
          have g89 := ck_p hf
          have hf := ck_r hf
          refine ald_m S hG hW shk_495 lnk_495 g89 dX8_run_89 ?_
          have e9 := Option.some.inj hf
          subst e9
          exact hret _ _ _ _ _ hW hS rfl rfl dX8_run_90
        · have hf := cn_f c74 hf
          refine lv_iconst (v := (0 : Int32)) hx hb dX8_run_77 (by decide) ?_
          have e9 := Option.some.inj hf
          subst e9
          exact hret _ _ _ _ _ hW hS rfl rfl dX8_run_78
      have J_62 : fX8_run_62 a1 q27 = some y0 → ∀ (H : Heap) (locs : List Loc) (ls : Array Slot), gx_W Γ C q27.2 H → va_S (gA Γ) s.heap H locs → lv_has ls 3 [(0, .ref (Γ.1 475)), (1, .int a1)] → W p l e rm_X8_run s m args below meth c H locs 0 0 Q (F0 m 62 ls [.ref (Γ.1 475)]) := by
        intro  hf H locs ls hW hS hl
        unfold fX8_run_62 at hf
        refine lv_iconst (v := (2 : Int32)) hx hb dX8_run_62 (by decide) ?_
        refine lv_goto (tgt := 67) hx hb dX8_run_63 (by decide) ?_
        exact J_67 (2 : Int32) hf H locs ls hW hS (lv_sub hl [0, 1] rfl)
      refine lv_if_ne (tgt := 62) hx hb dX8_run_40 (by decide) (fun c40 => ?_) (fun c40 => ?_)
      · have hf := cn_f c40 hf
        exact J_62  hf H locs ls hW hS (lv_sub hl [1, 2] rfl)
      · have hf := cn_t c40 hf
        refine lv_iload_n hx hb dX8_run_43 rfl (lv_at hl 0 rfl) ?_
        refine lv_iload_n hx hb dX8_run_44 rfl (lv_at hl 2 rfl) ?_
        refine lv_ishr hx hb dX8_run_45 ?_
        refine lv_iconst (v := (1 : Int32)) hx hb dX8_run_46 (by decide) ?_
        refine lv_iand hx hb dX8_run_47 ?_
        refine lv_iconst (v := (1 : Int32)) hx hb dX8_run_48 (by decide) ?_
        have J_66 : fX8_run_66 a1 q27 = some y0 → ∀ (H : Heap) (locs : List Loc) (ls : Array Slot), gx_W Γ C q27.2 H → va_S (gA Γ) s.heap H locs → lv_has ls 3 [(0, .ref (Γ.1 475)), (1, .int a1)] → W p l e rm_X8_run s m args below meth c H locs 0 0 Q (F0 m 66 ls [.ref (Γ.1 475)]) := by
          intro  hf H locs ls hW hS hl
          unfold fX8_run_66 at hf
          refine lv_iconst (v := (0 : Int32)) hx hb dX8_run_66 (by decide) ?_
          exact J_67 (0 : Int32) hf H locs ls hW hS (lv_sub hl [0, 1] rfl)
        refine lv_icmp_ne (tgt := 66) hx hb dX8_run_49 (by decide) (fun c49 => ?_) (fun c49 => ?_)
        · have hf := cn_f c49 hf
          exact J_66  hf H locs ls hW hS (lv_sub hl [1, 2] rfl)
        · have hf := cn_t c49 hf
          refine lv_aload_n hx hb dX8_run_52 rfl (lv_at hl 1 rfl) ?_
          refine get_X8_16 S hG hW fl_X8_159 dX8_run_53 ?_
          refine lv_sipush (v := (200 : Int32)) hx hb dX8_run_56 (by decide) ?_
          refine lv_icmp_ne (tgt := 66) hx hb dX8_run_59 (by decide) (fun c59 => ?_) (fun c59 => ?_)
          · have hf := cn_f c59 hf
            exact J_66  hf H locs ls hW hS (lv_sub hl [1, 2] rfl)
          · have hf := cn_t c59 hf
            exact J_62  hf H locs ls hW hS (lv_sub hl [1, 2] rfl)
    · have hf := cn_f c21 hf
      refine lv_iconst (v := (0 : Int32)) hx hb dX8_run_24 (by decide) ?_
      have e9 := Option.some.inj hf
      subst e9
      exact hret _ _ _ _ _ hW hS rfl rfl dX8_run_25
  refine lv_if_eq (tgt := 13) hx hb dX8_run_6 (by decide) (fun c6 => ?_) (fun c6 => ?_)
  · have hf := cn_t c6 hf
    refine lv_iconst (v := (1 : Int32)) hx hb dX8_run_13 (by decide) ?_
    exact J_14 (1 : Int32) hf H locs ls hW hS (lv_sub hl [0, 1] rfl)
  · have hf := cn_f c6 hf
    refine lv_iconst (v := (0 : Int32)) hx hb dX8_run_9 (by decide) ?_
    refine lv_goto (tgt := 14) hx hb dX8_run_10 (by decide) ?_
    exact J_14 (0 : Int32) hf H locs ls hW hS (lv_sub hl [0, 1] rfl)
noncomputable def fX8_runAll_62 (q4 : Int32) (t_31 : (Mem × Int32)) : Option (Int32 × Mem) := cnd ((t_31.1 475 26) ≤ (0 : Int32)) (some (q4, t_31.1)) (some ((0 : Int32), t_31.1))
noncomputable def fX8_runAll_31 (q4 : Int32) : (Mem × Int32) → Option ((Mem × Int32) ⊕ (Int32 × Mem)) := fun t_31 => cnd ((t_31.1 475 9) ≤ t_31.2) (exR (fX8_runAll_62 q4 t_31)) (cnd ((t_31.1 475 26) = (0 : Int32)) (chk (vp_in t_31.2 16) (bnd (fX8_runs t_31.1 (t_31.1 494 t_31.2.toNatClampNeg)) fun q53 => some (.inl (q53, (t_31.2 + (1 : Int32)))))) (exR (fX8_runAll_62 q4 t_31)))
noncomputable def fX8_runAll_26 (q1 : (Int32 × Mem)) (q4 : Int32) (s0_26 : Int32) : Option (Int32 × Mem) := lp (fX8_runAll_31 q4) ((mset q1.2 475 26 s0_26), (0 : Int32))
noncomputable def fX8_runAll (M : Mem) : Option (Int32 × Mem) := bnd (fX8_neededNow M) fun q1 => bnd (fX8_count q1.1) fun q4 => cnd (((q1.2 475 16) + q4) ≤ (200 : Int32)) (fX8_runAll_26 q1 q4 (0 : Int32)) (fX8_runAll_26 q1 q4 (1 : Int32))
abbrev rm_X8_runAll : Room := { frames := 8, cells := 0, slots := 0, locals := 204 }
set_option maxRecDepth 100000 in
set_option maxHeartbeats 4000000 in
theorem c_X8_runAll (l : Launch) (Γ : gx_G) (C M : Mem)  {y0 : (Int32 × Mem)} (hf : fX8_runAll M = some y0) : Met l yX8_runAll (.code yX8_runAll cX8_runAll 3 (some .int) :: TsG) rm_X8_runAll (va_Pc [.ref (Γ.1 475)] (gx_P Γ C M)) (gx_Qi Γ y0.1 C y0.2) 0 0 (gA Γ) := by
  refine gm_i (by decide) (Nat.le_of_ble_eq_true rfl) ?_
  intro p e s m args below meth c Q S hG hret ls H locs hl hW hS
  obtain ⟨hx, hb, hml, hown, hts⟩ := id S
  have hl : lv_has ls 3 [(0, .ref (Γ.1 475))] := hl
  unfold fX8_runAll at hf
  refine lv_aload_n hx hb dX8_runAll_0 rfl (lv_at hl 0 rfl) ?_
  obtain ⟨q1, hq1, hf⟩ := bnd_e hf
  refine gk0_i hS (gv_run (rest := []) S hG hW hS [] (c_X8_neededNow l Γ C M hq1) pk_X8_neededNow ml_X8_171 (Nat.le_of_ble_eq_true rfl) rfl rfl rfl rfl ⟨Nat.le_of_ble_eq_true rfl, Nat.le_of_ble_eq_true rfl⟩ rfl hl.1 rfl (Nat.le_of_ble_eq_true rfl) dX8_runAll_1 ⟨Nat.le_of_ble_eq_true rfl, Nat.le_of_ble_eq_true rfl⟩) (fun H locs hW hS => ?_)
  obtain ⟨q4, hq4, hf⟩ := bnd_e hf
  refine gk0_i hS (gs_run (rest := []) S hG hW hS [.int q1.1] (c_X8_count l Γ C q1.2 q1.1 hq4) pk_X8_count ml_X8_144 rfl rfl ⟨Nat.le_of_ble_eq_true rfl, Nat.le_of_ble_eq_true rfl⟩ rfl hl.1 rfl (Nat.le_of_ble_eq_true rfl) dX8_runAll_4 ⟨Nat.le_of_ble_eq_true rfl, Nat.le_of_ble_eq_true rfl⟩) (fun H locs hW hS => ?_)
  refine lv_istore_n (lv' := [(1, .int q4), (0, .ref (Γ.1 475))]) hx hb dX8_runAll_7 rfl hl (by decide) rfl (fun ls hl => ?_)
  refine lv_aload_n hx hb dX8_runAll_8 rfl (lv_at hl 1 rfl) ?_
  refine lv_aload_n hx hb dX8_runAll_9 rfl (lv_at hl 1 rfl) ?_
  refine get_X8_16 S hG hW fl_X8_159 dX8_runAll_10 ?_
  refine lv_iload_n hx hb dX8_runAll_13 rfl (lv_at hl 0 rfl) ?_
  refine lv_iadd hx hb dX8_runAll_14 ?_
  refine lv_sipush (v := (200 : Int32)) hx hb dX8_runAll_15 (by decide) ?_
  have J_26 : ∀ (s0_26 : Int32) , fX8_runAll_26 q1 q4 s0_26 = some y0 → ∀ (H : Heap) (locs : List Loc) (ls : Array Slot), gx_W Γ C q1.2 H → va_S (gA Γ) s.heap H locs → lv_has ls 3 [(0, .ref (Γ.1 475)), (1, .int q4)] → W p l e rm_X8_runAll s m args below meth c H locs 0 0 Q (F0 m 26 ls [.int s0_26, .ref (Γ.1 475)]) := by
    intro s0_26 hf H locs ls hW hS hl
    unfold fX8_runAll_26 at hf
    refine put_X8_26 S hG hW hS fl_X8_77 dX8_runAll_26 (fun H locs hW hS => ?_)
    refine lv_iconst (v := (0 : Int32)) hx hb dX8_runAll_29 (by decide) ?_
    refine lv_istore_n (lv' := [(2, .int (0 : Int32)), (0, .ref (Γ.1 475)), (1, .int q4)]) hx hb dX8_runAll_30 rfl hl (by decide) rfl (fun ls hl => ?_)
    have J_31 : ∀  (t_31 : Mem × Int32), lp (fX8_runAll_31 q4) t_31 = some y0 → ∀ (H : Heap) (locs : List Loc) (ls : Array Slot), gx_W Γ C t_31.1 H → va_S (gA Γ) s.heap H locs → lv_has ls 3 [(0, .ref (Γ.1 475)), (1, .int q4), (2, .int t_31.2)] → W p l e rm_X8_runAll s m args below meth c H locs 0 0 Q (F0 m 31 ls []) := by
      refine lp_ind (P := fun (t_31 : Mem × Int32) => ∀ (H : Heap) (locs : List Loc) (ls : Array Slot), gx_W Γ C t_31.1 H → va_S (gA Γ) s.heap H locs → lv_has ls 3 [(0, .ref (Γ.1 475)), (1, .int q4), (2, .int t_31.2)] → W p l e rm_X8_runAll s m args below meth c H locs 0 0 Q (F0 m 31 ls [])) ?_
      intro t_31 y1 hf kI1 kX1 H locs ls hW hS hl
      unfold fX8_runAll_31 at hf
      refine lv_iload_n hx hb dX8_runAll_31 rfl (lv_at hl 2 rfl) ?_
      refine lv_aload_n hx hb dX8_runAll_32 rfl (lv_at hl 0 rfl) ?_
      refine get_X8_9 S hG hW fl_X8_127 dX8_runAll_33 ?_
      have J_62 : fX8_runAll_62 q4 t_31 = some y0 → ∀ (H : Heap) (locs : List Loc) (ls : Array Slot), gx_W Γ C t_31.1 H → va_S (gA Γ) s.heap H locs → lv_has ls 3 [(0, .ref (Γ.1 475)), (1, .int q4)] → W p l e rm_X8_runAll s m args below meth c H locs 0 0 Q (F0 m 62 ls []) := by
        intro  hf H locs ls hW hS hl
        unfold fX8_runAll_62 at hf
        refine lv_aload_n hx hb dX8_runAll_62 rfl (lv_at hl 0 rfl) ?_
        refine get_X8_26 S hG hW fl_X8_77 dX8_runAll_63 ?_
        refine lv_if_le (tgt := 73) hx hb dX8_runAll_66 (by decide) (fun c66 => ?_) (fun c66 => ?_)
        · have hf := cn_t c66 hf
          refine lv_iload_n hx hb dX8_runAll_73 rfl (lv_at hl 1 rfl) ?_
          have e9 := Option.some.inj hf
          subst e9
          exact hret _ _ _ _ _ hW hS rfl rfl dX8_runAll_74
        · have hf := cn_f c66 hf
          refine lv_iconst (v := (0 : Int32)) hx hb dX8_runAll_69 (by decide) ?_
          refine lv_goto (tgt := 74) hx hb dX8_runAll_70 (by decide) ?_
          have e9 := Option.some.inj hf
          subst e9
          exact hret _ _ _ _ _ hW hS rfl rfl dX8_runAll_74
      refine lv_icmp_ge (tgt := 62) hx hb dX8_runAll_36 (by decide) (fun c36 => ?_) (fun c36 => ?_)
      · have hf := cn_t c36 hf
        obtain ⟨z36, hf, ez⟩ := exR_e hf
        rw [kX1 _ ez] at hf
        exact J_62  hf H locs ls hW hS (lv_sub hl [0, 1] rfl)
      · have hf := cn_f c36 hf
        refine lv_aload_n hx hb dX8_runAll_39 rfl (lv_at hl 0 rfl) ?_
        refine get_X8_26 S hG hW fl_X8_77 dX8_runAll_40 ?_
        refine lv_if_ne (tgt := 62) hx hb dX8_runAll_43 (by decide) (fun c43 => ?_) (fun c43 => ?_)
        · have hf := cn_f c43 hf
          obtain ⟨z43, hf, ez⟩ := exR_e hf
          rw [kX1 _ ez] at hf
          exact J_62  hf H locs ls hW hS (lv_sub hl [0, 1] rfl)
        · have hf := cn_t c43 hf
          refine lv_aload_n hx hb dX8_runAll_46 rfl (lv_at hl 0 rfl) ?_
          refine lv_aload_n hx hb dX8_runAll_47 rfl (lv_at hl 0 rfl) ?_
          refine get_X8_22 S hG hW fl_X8_65 dX8_runAll_48 ?_
          refine lv_iload_n hx hb dX8_runAll_51 rfl (lv_at hl 2 rfl) ?_
          have g52 := ck_p hf
          have hf := ck_r hf
          refine ald_m S hG hW shk_494 lnk_494 g52 dX8_runAll_52 ?_
          obtain ⟨q53, hq53, hf⟩ := bnd_e hf
          refine gk0_v hS (gv_run (rest := []) S hG hW hS [.int (t_31.1 494 t_31.2.toNatClampNeg)] (c_X8_runs l Γ C t_31.1 (t_31.1 494 t_31.2.toNatClampNeg) hq53) pk_X8_runs ml_X8_174 (Nat.le_of_ble_eq_true rfl) rfl rfl rfl rfl ⟨Nat.le_of_ble_eq_true rfl, Nat.le_of_ble_eq_true rfl⟩ rfl hl.1 rfl (Nat.le_of_ble_eq_true rfl) dX8_runAll_53 ⟨Nat.le_of_ble_eq_true rfl, Nat.le_of_ble_eq_true rfl⟩) (fun H locs hW hS => ?_)
          refine lv_iinc (v := (t_31.2 + (1 : Int32))) (lv' := [(2, .int (t_31.2 + (1 : Int32))), (0, .ref (Γ.1 475)), (1, .int q4)]) hx hb dX8_runAll_56 hl (k := 2) rfl rfl (by decide) rfl (fun ls hl => ?_)
          refine lv_goto (tgt := 31) hx hb dX8_runAll_59 (by decide) ?_
          exact kI1 _ (Option.some.inj hf).symm H locs ls hW hS (lv_sub hl [1, 2, 0] rfl)
    exact J_31 ((mset q1.2 475 26 s0_26), (0 : Int32)) hf H locs ls hW hS (lv_sub hl [1, 2, 0] rfl)
  refine lv_icmp_le (tgt := 25) hx hb dX8_runAll_18 (by decide) (fun c18 => ?_) (fun c18 => ?_)
  · have hf := cn_t c18 hf
    refine lv_iconst (v := (0 : Int32)) hx hb dX8_runAll_25 (by decide) ?_
    exact J_26 (0 : Int32) hf H locs ls hW hS (lv_sub hl [1, 0] rfl)
  · have hf := cn_f c18 hf
    refine lv_iconst (v := (1 : Int32)) hx hb dX8_runAll_21 (by decide) ?_
    refine lv_goto (tgt := 26) hx hb dX8_runAll_22 (by decide) ?_
    exact J_26 (1 : Int32) hf H locs ls hW hS (lv_sub hl [1, 0] rfl)
noncomputable def fX8_keys (M : Mem) : Option (Int32 × Mem) := some (((mset M 475 26 (0 : Int32)) 475 16), (mset M 475 26 (0 : Int32)))
abbrev rm_X8_keys : Room := { frames := 0, cells := 0, slots := 0, locals := 0 }
set_option maxRecDepth 100000 in
set_option maxHeartbeats 4000000 in
theorem c_X8_keys (l : Launch) (Γ : gx_G) (C M : Mem)  {y0 : (Int32 × Mem)} (hf : fX8_keys M = some y0) : Met l yX8_keys (.code yX8_keys cX8_keys 1 (some .int) :: TsG) rm_X8_keys (va_Pc [.ref (Γ.1 475)] (gx_P Γ C M)) (gx_Qi Γ y0.1 C y0.2) 0 0 (gA Γ) := by
  refine gm_i (by decide) (Nat.le_of_ble_eq_true rfl) ?_
  intro p e s m args below meth c Q S hG hret ls H locs hl hW hS
  obtain ⟨hx, hb, hml, hown, hts⟩ := id S
  have hl : lv_has ls 1 [(0, .ref (Γ.1 475))] := hl
  unfold fX8_keys at hf
  refine lv_aload_n hx hb dX8_keys_0 rfl (lv_at hl 0 rfl) ?_
  refine lv_iconst (v := (0 : Int32)) hx hb dX8_keys_1 (by decide) ?_
  refine put_X8_26 S hG hW hS fl_X8_77 dX8_keys_2 (fun H locs hW hS => ?_)
  refine lv_aload_n hx hb dX8_keys_5 rfl (lv_at hl 0 rfl) ?_
  refine get_X8_16 S hG hW fl_X8_159 dX8_keys_6 ?_
  have e9 := Option.some.inj hf
  subst e9
  exact hret _ _ _ _ _ hW hS rfl rfl dX8_keys_9
noncomputable def fX8_spreads_207 (a1 : Int32) (t_49 : (Mem × Int32 × Int32)) (t_59 : (Int32 × Int32)) (C_207 : Mem) (s0_207 : Int32) : Option ((Mem × Int32 × Int32) ⊕ (Int32 × Mem)) := nmv ((t_49.2.1 &&& (((1 : Int32) <<< (t_59.1 &&& 31)) ^^^ (-1 : Int32)))) fun v216 => some (.inl (C_207, v216, s0_207))
noncomputable def fX8_spreads_159 (a1 : Int32) (t_121 : (Int32 × Int32)) (t_49 : (Mem × Int32 × Int32)) (t_59 : (Int32 × Int32)) : Option ((Mem × Int32 × Int32) ⊕ (Int32 × Mem)) := chk (vp_in t_59.1 16) (chk (vp_in t_121.1 8) (chk (vp_in t_59.1 16) (chk (vp_in t_121.1 8) (chk (vp_in t_121.1 8) (cnd (((mset (mset t_49.1 497 t_59.1.toNatClampNeg t_121.1) 496 t_121.1.toNatClampNeg (((mset t_49.1 497 t_59.1.toNatClampNeg t_121.1) 496 t_121.1.toNatClampNeg) + ((mset t_49.1 497 t_59.1.toNatClampNeg t_121.1) 484 t_59.1.toNatClampNeg))) 496 t_121.1.toNatClampNeg) ≤ t_49.2.2) (fX8_spreads_207 a1 t_49 t_59 (mset (mset t_49.1 497 t_59.1.toNatClampNeg t_121.1) 496 t_121.1.toNatClampNeg (((mset t_49.1 497 t_59.1.toNatClampNeg t_121.1) 496 t_121.1.toNatClampNeg) + ((mset t_49.1 497 t_59.1.toNatClampNeg t_121.1) 484 t_59.1.toNatClampNeg))) t_49.2.2) (chk (vp_in t_121.1 8) (fX8_spreads_207 a1 t_49 t_59 (mset (mset t_49.1 497 t_59.1.toNatClampNeg t_121.1) 496 t_121.1.toNatClampNeg (((mset t_49.1 497 t_59.1.toNatClampNeg t_121.1) 496 t_121.1.toNatClampNeg) + ((mset t_49.1 497 t_59.1.toNatClampNeg t_121.1) 484 t_59.1.toNatClampNeg))) ((mset (mset t_49.1 497 t_59.1.toNatClampNeg t_121.1) 496 t_121.1.toNatClampNeg (((mset t_49.1 497 t_59.1.toNatClampNeg t_121.1) 496 t_121.1.toNatClampNeg) + ((mset t_49.1 497 t_59.1.toNatClampNeg t_121.1) 484 t_59.1.toNatClampNeg))) 496 t_121.1.toNatClampNeg))))))))
noncomputable def fX8_spreads_151 (a1 : Int32) (t_121 : (Int32 × Int32)) (t_49 : (Mem × Int32 × Int32)) (t_59 : (Int32 × Int32)) (s0_151 : Int32) : Option ((Int32 × Int32) ⊕ ((Mem × Int32 × Int32) ⊕ (Int32 × Mem))) := some (.inl (s0_151, (t_121.2 + (1 : Int32))))
noncomputable def fX8_spreads_121 (a1 : Int32) (t_49 : (Mem × Int32 × Int32)) (t_59 : (Int32 × Int32)) : (Int32 × Int32) → Option ((Int32 × Int32) ⊕ ((Mem × Int32 × Int32) ⊕ (Int32 × Mem))) := fun t_121 => cnd (a1 ≤ t_121.2) (exR (fX8_spreads_159 a1 t_121 t_49 t_59)) (chk (vp_in t_121.2 8) (chk (vp_in t_121.1 8) (cnd ((t_49.1 496 t_121.1.toNatClampNeg) ≤ (t_49.1 496 t_121.2.toNatClampNeg)) (fX8_spreads_151 a1 t_121 t_49 t_59 t_121.1) (fX8_spreads_151 a1 t_121 t_49 t_59 t_121.2))))
noncomputable def fX8_spreads_115 (a1 : Int32) (t_49 : (Mem × Int32 × Int32)) (t_59 : (Int32 × Int32)) : Option ((Mem × Int32 × Int32) ⊕ (Int32 × Mem)) := lp (fX8_spreads_121 a1 t_49 t_59) ((0 : Int32), (1 : Int32))
noncomputable def fX8_spreads_107 (a1 : Int32) (t_49 : (Mem × Int32 × Int32)) (t_59 : (Int32 × Int32)) (s0_107 : Int32) : Option ((Int32 × Int32) ⊕ ((Mem × Int32 × Int32) ⊕ (Int32 × Mem))) := some (.inl (s0_107, (t_59.2 + (1 : Int32))))
noncomputable def fX8_spreads_105 (a1 : Int32) (t_49 : (Mem × Int32 × Int32)) (t_59 : (Int32 × Int32)) : Option ((Int32 × Int32) ⊕ ((Mem × Int32 × Int32) ⊕ (Int32 × Mem))) := fX8_spreads_107 a1 t_49 t_59 t_59.1
noncomputable def fX8_spreads_100 (a1 : Int32) (t_49 : (Mem × Int32 × Int32)) (t_59 : (Int32 × Int32)) : Option ((Int32 × Int32) ⊕ ((Mem × Int32 × Int32) ⊕ (Int32 × Mem))) := fX8_spreads_107 a1 t_49 t_59 t_59.2
noncomputable def fX8_spreads_59 (a1 : Int32) (t_49 : (Mem × Int32 × Int32)) : (Int32 × Int32) → Option ((Int32 × Int32) ⊕ ((Mem × Int32 × Int32) ⊕ (Int32 × Mem))) := fun t_59 => cnd ((t_49.1 475 9) ≤ t_59.2) (exR (fX8_spreads_115 a1 t_49 t_59)) (cnd (((t_49.2.1 >>> (t_59.2 &&& 31)) &&& (1 : Int32)) = (1 : Int32)) (cnd (t_59.1 < (0 : Int32)) (fX8_spreads_100 a1 t_49 t_59) (chk (vp_in t_59.2 16) (chk (vp_in t_59.1 16) (cnd ((t_49.1 484 t_59.2.toNatClampNeg) ≤ (t_49.1 484 t_59.1.toNatClampNeg)) (fX8_spreads_105 a1 t_49 t_59) (fX8_spreads_100 a1 t_49 t_59))))) (fX8_spreads_105 a1 t_49 t_59))
noncomputable def fX8_spreads_49 (a1 : Int32) : (Mem × Int32 × Int32) → Option ((Mem × Int32 × Int32) ⊕ (Int32 × Mem)) := fun t_49 => cnd (t_49.2.1 = (0 : Int32)) (exR (some (t_49.2.2, t_49.1))) (lp (fX8_spreads_59 a1 t_49) ((-1 : Int32), (0 : Int32)))
noncomputable def fX8_spreads_47 (a1 : Int32) (q1 : (Int32 × Mem)) (t_28 : (Mem × Int32)) : Option (Int32 × Mem) := lp (fX8_spreads_49 a1) (t_28.1, q1.1, (0 : Int32))
noncomputable def fX8_spreads_28 (a1 : Int32) (q1 : (Int32 × Mem)) : (Mem × Int32) → Option ((Mem × Int32) ⊕ (Int32 × Mem)) := fun t_28 => cnd ((8 : Int32) ≤ t_28.2) (exR (fX8_spreads_47 a1 q1 t_28)) (chk (vp_in t_28.2 8) (some (.inl ((mset t_28.1 496 t_28.2.toNatClampNeg (0 : Int32)), (t_28.2 + (1 : Int32))))))
noncomputable def fX8_spreads_26 (a1 : Int32) (q1 : (Int32 × Mem)) (t_7 : (Mem × Int32)) : Option (Int32 × Mem) := lp (fX8_spreads_28 a1 q1) (t_7.1, (0 : Int32))
noncomputable def fX8_spreads_7 (a1 : Int32) (q1 : (Int32 × Mem)) : (Mem × Int32) → Option ((Mem × Int32) ⊕ (Int32 × Mem)) := fun t_7 => cnd ((16 : Int32) ≤ t_7.2) (exR (fX8_spreads_26 a1 q1 t_7)) (chk (vp_in t_7.2 16) (some (.inl ((mset t_7.1 497 t_7.2.toNatClampNeg (-1 : Int32)), (t_7.2 + (1 : Int32))))))
noncomputable def fX8_spreads (M : Mem) (a1 : Int32) : Option (Int32 × Mem) := bnd (fX8_neededNow M) fun q1 => lp (fX8_spreads_7 a1 q1) (q1.2, (0 : Int32))
abbrev rm_X8_spreads : Room := { frames := 8, cells := 0, slots := 0, locals := 204 }
set_option maxRecDepth 100000 in
set_option maxHeartbeats 4000000 in
theorem c_X8_spreads (l : Launch) (Γ : gx_G) (C M : Mem) (a1 : Int32) {y0 : (Int32 × Mem)} (hf : fX8_spreads M a1 = some y0) : Met l yX8_spreads (.code yX8_spreads cX8_spreads 7 (some .int) :: TsG) rm_X8_spreads (va_Pc [.ref (Γ.1 475), .int a1] (gx_P Γ C M)) (gx_Qi Γ y0.1 C y0.2) 0 0 (gA Γ) := by
  refine gm_i (by decide) (Nat.le_of_ble_eq_true rfl) ?_
  intro p e s m args below meth c Q S hG hret ls H locs hl hW hS
  obtain ⟨hx, hb, hml, hown, hts⟩ := id S
  have hl : lv_has ls 7 [(0, .ref (Γ.1 475)), (1, .int a1)] := hl
  unfold fX8_spreads at hf
  refine lv_aload_n hx hb dX8_spreads_0 rfl (lv_at hl 0 rfl) ?_
  obtain ⟨q1, hq1, hf⟩ := bnd_e hf
  refine gk0_i hS (gv_run (rest := []) S hG hW hS [] (c_X8_neededNow l Γ C M hq1) pk_X8_neededNow ml_X8_171 (Nat.le_of_ble_eq_true rfl) rfl rfl rfl rfl ⟨Nat.le_of_ble_eq_true rfl, Nat.le_of_ble_eq_true rfl⟩ rfl hl.1 rfl (Nat.le_of_ble_eq_true rfl) dX8_spreads_1 ⟨Nat.le_of_ble_eq_true rfl, Nat.le_of_ble_eq_true rfl⟩) (fun H locs hW hS => ?_)
  refine lv_istore_n (lv' := [(2, .int q1.1), (0, .ref (Γ.1 475)), (1, .int a1)]) hx hb dX8_spreads_4 rfl hl (by decide) rfl (fun ls hl => ?_)
  refine lv_iconst (v := (0 : Int32)) hx hb dX8_spreads_5 (by decide) ?_
  refine lv_istore_n (lv' := [(3, .int (0 : Int32)), (2, .int q1.1), (0, .ref (Γ.1 475)), (1, .int a1)]) hx hb dX8_spreads_6 rfl hl (by decide) rfl (fun ls hl => ?_)
  have J_7 : ∀  (t_7 : Mem × Int32), lp (fX8_spreads_7 a1 q1) t_7 = some y0 → ∀ (H : Heap) (locs : List Loc) (ls : Array Slot), gx_W Γ C t_7.1 H → va_S (gA Γ) s.heap H locs → lv_has ls 7 [(0, .ref (Γ.1 475)), (1, .int a1), (2, .int q1.1), (3, .int t_7.2)] → W p l e rm_X8_spreads s m args below meth c H locs 0 0 Q (F0 m 7 ls []) := by
    refine lp_ind (P := fun (t_7 : Mem × Int32) => ∀ (H : Heap) (locs : List Loc) (ls : Array Slot), gx_W Γ C t_7.1 H → va_S (gA Γ) s.heap H locs → lv_has ls 7 [(0, .ref (Γ.1 475)), (1, .int a1), (2, .int q1.1), (3, .int t_7.2)] → W p l e rm_X8_spreads s m args below meth c H locs 0 0 Q (F0 m 7 ls [])) ?_
    intro t_7 y1 hf kI1 kX1 H locs ls hW hS hl
    unfold fX8_spreads_7 at hf
    refine lv_iload_n hx hb dX8_spreads_7 rfl (lv_at hl 3 rfl) ?_
    refine lv_bipush (v := (16 : Int32)) hx hb dX8_spreads_8 (by decide) ?_
    have J_26 : fX8_spreads_26 a1 q1 t_7 = some y0 → ∀ (H : Heap) (locs : List Loc) (ls : Array Slot), gx_W Γ C t_7.1 H → va_S (gA Γ) s.heap H locs → lv_has ls 7 [(0, .ref (Γ.1 475)), (1, .int a1), (2, .int q1.1)] → W p l e rm_X8_spreads s m args below meth c H locs 0 0 Q (F0 m 26 ls []) := by
      intro  hf H locs ls hW hS hl
      unfold fX8_spreads_26 at hf
      refine lv_iconst (v := (0 : Int32)) hx hb dX8_spreads_26 (by decide) ?_
      refine lv_istore_n (lv' := [(3, .int (0 : Int32)), (0, .ref (Γ.1 475)), (1, .int a1), (2, .int q1.1)]) hx hb dX8_spreads_27 rfl hl (by decide) rfl (fun ls hl => ?_)
      have J_28 : ∀  (t_28 : Mem × Int32), lp (fX8_spreads_28 a1 q1) t_28 = some y0 → ∀ (H : Heap) (locs : List Loc) (ls : Array Slot), gx_W Γ C t_28.1 H → va_S (gA Γ) s.heap H locs → lv_has ls 7 [(0, .ref (Γ.1 475)), (1, .int a1), (2, .int q1.1), (3, .int t_28.2)] → W p l e rm_X8_spreads s m args below meth c H locs 0 0 Q (F0 m 28 ls []) := by
        refine lp_ind (P := fun (t_28 : Mem × Int32) => ∀ (H : Heap) (locs : List Loc) (ls : Array Slot), gx_W Γ C t_28.1 H → va_S (gA Γ) s.heap H locs → lv_has ls 7 [(0, .ref (Γ.1 475)), (1, .int a1), (2, .int q1.1), (3, .int t_28.2)] → W p l e rm_X8_spreads s m args below meth c H locs 0 0 Q (F0 m 28 ls [])) ?_
        intro t_28 y1 hf kI1 kX1 H locs ls hW hS hl
        unfold fX8_spreads_28 at hf
        refine lv_iload_n hx hb dX8_spreads_28 rfl (lv_at hl 3 rfl) ?_
        refine lv_bipush (v := (8 : Int32)) hx hb dX8_spreads_29 (by decide) ?_
        have J_47 : fX8_spreads_47 a1 q1 t_28 = some y0 → ∀ (H : Heap) (locs : List Loc) (ls : Array Slot), gx_W Γ C t_28.1 H → va_S (gA Γ) s.heap H locs → lv_has ls 7 [(0, .ref (Γ.1 475)), (1, .int a1), (2, .int q1.1)] → W p l e rm_X8_spreads s m args below meth c H locs 0 0 Q (F0 m 47 ls []) := by
          intro  hf H locs ls hW hS hl
          unfold fX8_spreads_47 at hf
          refine lv_iconst (v := (0 : Int32)) hx hb dX8_spreads_47 (by decide) ?_
          refine lv_istore_n (lv' := [(3, .int (0 : Int32)), (0, .ref (Γ.1 475)), (1, .int a1), (2, .int q1.1)]) hx hb dX8_spreads_48 rfl hl (by decide) rfl (fun ls hl => ?_)
          have J_49 : ∀  (t_49 : Mem × Int32 × Int32), lp (fX8_spreads_49 a1) t_49 = some y0 → ∀ (H : Heap) (locs : List Loc) (ls : Array Slot), gx_W Γ C t_49.1 H → va_S (gA Γ) s.heap H locs → lv_has ls 7 [(0, .ref (Γ.1 475)), (1, .int a1), (2, .int t_49.2.1), (3, .int t_49.2.2)] → W p l e rm_X8_spreads s m args below meth c H locs 0 0 Q (F0 m 49 ls []) := by
            refine lp_ind (P := fun (t_49 : Mem × Int32 × Int32) => ∀ (H : Heap) (locs : List Loc) (ls : Array Slot), gx_W Γ C t_49.1 H → va_S (gA Γ) s.heap H locs → lv_has ls 7 [(0, .ref (Γ.1 475)), (1, .int a1), (2, .int t_49.2.1), (3, .int t_49.2.2)] → W p l e rm_X8_spreads s m args below meth c H locs 0 0 Q (F0 m 49 ls [])) ?_
            intro t_49 y1 hf kI1 kX1 H locs ls hW hS hl
            unfold fX8_spreads_49 at hf
            refine lv_iload_n hx hb dX8_spreads_49 rfl (lv_at hl 2 rfl) ?_
            refine lv_if_eq (tgt := 220) hx hb dX8_spreads_50 (by decide) (fun c50 => ?_) (fun c50 => ?_)
            · have hf := cn_t c50 hf
              obtain ⟨z50, hf, ez⟩ := exR_e hf
              rw [kX1 _ ez] at hf
              refine lv_iload_n hx hb dX8_spreads_220 rfl (lv_at hl 3 rfl) ?_
              have e9 := Option.some.inj hf
              subst e9
              exact hret _ _ _ _ _ hW hS rfl rfl dX8_spreads_221
            · have hf := cn_f c50 hf
              refine lv_iconst (v := (-1 : Int32)) hx hb dX8_spreads_53 (by decide) ?_
              refine lv_istore (lv' := [(4, .int (-1 : Int32)), (0, .ref (Γ.1 475)), (1, .int a1), (2, .int t_49.2.1), (3, .int t_49.2.2)]) hx hb dX8_spreads_54 hl (by decide) rfl (fun ls hl => ?_)
              refine lv_iconst (v := (0 : Int32)) hx hb dX8_spreads_56 (by decide) ?_
              refine lv_istore (lv' := [(5, .int (0 : Int32)), (4, .int (-1 : Int32)), (0, .ref (Γ.1 475)), (1, .int a1), (2, .int t_49.2.1), (3, .int t_49.2.2)]) hx hb dX8_spreads_57 hl (by decide) rfl (fun ls hl => ?_)
              have J_59 : ∀  (t_59 : Int32 × Int32), lp (fX8_spreads_59 a1 t_49) t_59 = some y1 → ∀ (H : Heap) (locs : List Loc) (ls : Array Slot), gx_W Γ C t_49.1 H → va_S (gA Γ) s.heap H locs → lv_has ls 7 [(0, .ref (Γ.1 475)), (1, .int a1), (2, .int t_49.2.1), (3, .int t_49.2.2), (4, .int t_59.1), (5, .int t_59.2)] → W p l e rm_X8_spreads s m args below meth c H locs 0 0 Q (F0 m 59 ls []) := by
                refine lp_ind (P := fun (t_59 : Int32 × Int32) => ∀ (H : Heap) (locs : List Loc) (ls : Array Slot), gx_W Γ C t_49.1 H → va_S (gA Γ) s.heap H locs → lv_has ls 7 [(0, .ref (Γ.1 475)), (1, .int a1), (2, .int t_49.2.1), (3, .int t_49.2.2), (4, .int t_59.1), (5, .int t_59.2)] → W p l e rm_X8_spreads s m args below meth c H locs 0 0 Q (F0 m 59 ls [])) ?_
                intro t_59 y2 hf kI2 kX2 H locs ls hW hS hl
                unfold fX8_spreads_59 at hf
                refine lv_iload hx hb dX8_spreads_59 (lv_at hl 5 rfl) ?_
                refine lv_aload_n hx hb dX8_spreads_61 rfl (lv_at hl 0 rfl) ?_
                refine get_X8_9 S hG hW fl_X8_127 dX8_spreads_62 ?_
                have J_115 : fX8_spreads_115 a1 t_49 t_59 = some y1 → ∀ (H : Heap) (locs : List Loc) (ls : Array Slot), gx_W Γ C t_49.1 H → va_S (gA Γ) s.heap H locs → lv_has ls 7 [(0, .ref (Γ.1 475)), (1, .int a1), (2, .int t_49.2.1), (3, .int t_49.2.2), (4, .int t_59.1)] → W p l e rm_X8_spreads s m args below meth c H locs 0 0 Q (F0 m 115 ls []) := by
                  intro  hf H locs ls hW hS hl
                  unfold fX8_spreads_115 at hf
                  refine lv_iconst (v := (0 : Int32)) hx hb dX8_spreads_115 (by decide) ?_
                  refine lv_istore (lv' := [(5, .int (0 : Int32)), (0, .ref (Γ.1 475)), (1, .int a1), (2, .int t_49.2.1), (3, .int t_49.2.2), (4, .int t_59.1)]) hx hb dX8_spreads_116 hl (by decide) rfl (fun ls hl => ?_)
                  refine lv_iconst (v := (1 : Int32)) hx hb dX8_spreads_118 (by decide) ?_
                  refine lv_istore (lv' := [(6, .int (1 : Int32)), (5, .int (0 : Int32)), (0, .ref (Γ.1 475)), (1, .int a1), (2, .int t_49.2.1), (3, .int t_49.2.2), (4, .int t_59.1)]) hx hb dX8_spreads_119 hl (by decide) rfl (fun ls hl => ?_)
                  have J_121 : ∀  (t_121 : Int32 × Int32), lp (fX8_spreads_121 a1 t_49 t_59) t_121 = some y1 → ∀ (H : Heap) (locs : List Loc) (ls : Array Slot), gx_W Γ C t_49.1 H → va_S (gA Γ) s.heap H locs → lv_has ls 7 [(0, .ref (Γ.1 475)), (1, .int a1), (2, .int t_49.2.1), (3, .int t_49.2.2), (4, .int t_59.1), (5, .int t_121.1), (6, .int t_121.2)] → W p l e rm_X8_spreads s m args below meth c H locs 0 0 Q (F0 m 121 ls []) := by
                    refine lp_ind (P := fun (t_121 : Int32 × Int32) => ∀ (H : Heap) (locs : List Loc) (ls : Array Slot), gx_W Γ C t_49.1 H → va_S (gA Γ) s.heap H locs → lv_has ls 7 [(0, .ref (Γ.1 475)), (1, .int a1), (2, .int t_49.2.1), (3, .int t_49.2.2), (4, .int t_59.1), (5, .int t_121.1), (6, .int t_121.2)] → W p l e rm_X8_spreads s m args below meth c H locs 0 0 Q (F0 m 121 ls [])) ?_
                    intro t_121 y2 hf kI2 kX2 H locs ls hW hS hl
                    unfold fX8_spreads_121 at hf
                    refine lv_iload hx hb dX8_spreads_121 (lv_at hl 6 rfl) ?_
                    refine lv_iload_n hx hb dX8_spreads_123 rfl (lv_at hl 1 rfl) ?_
                    have J_159 : fX8_spreads_159 a1 t_121 t_49 t_59 = some y1 → ∀ (H : Heap) (locs : List Loc) (ls : Array Slot), gx_W Γ C t_49.1 H → va_S (gA Γ) s.heap H locs → lv_has ls 7 [(0, .ref (Γ.1 475)), (1, .int a1), (2, .int t_49.2.1), (3, .int t_49.2.2), (4, .int t_59.1), (5, .int t_121.1)] → W p l e rm_X8_spreads s m args below meth c H locs 0 0 Q (F0 m 159 ls []) := by
                      intro  hf H locs ls hW hS hl
                      unfold fX8_spreads_159 at hf
                      refine lv_aload_n hx hb dX8_spreads_159 rfl (lv_at hl 0 rfl) ?_
                      refine get_X8_25 S hG hW fl_X8_74 dX8_spreads_160 ?_
                      refine lv_iload hx hb dX8_spreads_163 (lv_at hl 4 rfl) ?_
                      refine lv_iload hx hb dX8_spreads_165 (lv_at hl 5 rfl) ?_
                      have g167 := ck_p hf
                      have hf := ck_r hf
                      refine ast_m S hG hW hS shk_497 lnk_497 g167 dX8_spreads_167 (fun H locs hW hS => ?_)
                      refine lv_aload_n hx hb dX8_spreads_168 rfl (lv_at hl 0 rfl) ?_
                      refine get_X8_24 S hG hW fl_X8_71 dX8_spreads_169 ?_
                      refine lv_iload hx hb dX8_spreads_172 (lv_at hl 5 rfl) ?_
                      refine lv_dup2_11 hx hb dX8_spreads_174 rfl rfl ?_
                      have g175 := ck_p hf
                      have hf := ck_r hf
                      refine ald_m S hG hW shk_496 lnk_496 g175 dX8_spreads_175 ?_
                      refine lv_aload_n hx hb dX8_spreads_176 rfl (lv_at hl 0 rfl) ?_
                      refine get_X8_10 S hG hW fl_X8_35 dX8_spreads_177 ?_
                      refine lv_iload hx hb dX8_spreads_180 (lv_at hl 4 rfl) ?_
                      have g182 := ck_p hf
                      have hf := ck_r hf
                      refine ald_m S hG hW shk_484 lnk_484 g182 dX8_spreads_182 ?_
                      refine lv_iadd hx hb dX8_spreads_183 ?_
                      have g184 := ck_p hf
                      have hf := ck_r hf
                      refine ast_m S hG hW hS shk_496 lnk_496 g184 dX8_spreads_184 (fun H locs hW hS => ?_)
                      refine lv_aload_n hx hb dX8_spreads_185 rfl (lv_at hl 0 rfl) ?_
                      refine get_X8_24 S hG hW fl_X8_71 dX8_spreads_186 ?_
                      refine lv_iload hx hb dX8_spreads_189 (lv_at hl 5 rfl) ?_
                      have g191 := ck_p hf
                      have hf := ck_r hf
                      refine ald_m S hG hW shk_496 lnk_496 g191 dX8_spreads_191 ?_
                      refine lv_iload_n hx hb dX8_spreads_192 rfl (lv_at hl 3 rfl) ?_
                      have J_207 : ∀ (C_207 : Mem) (s0_207 : Int32) , fX8_spreads_207 a1 t_49 t_59 C_207 s0_207 = some y1 → ∀ (H : Heap) (locs : List Loc) (ls : Array Slot), gx_W Γ C C_207 H → va_S (gA Γ) s.heap H locs → lv_has ls 7 [(0, .ref (Γ.1 475)), (1, .int a1), (2, .int t_49.2.1), (4, .int t_59.1)] → W p l e rm_X8_spreads s m args below meth c H locs 0 0 Q (F0 m 207 ls [.int s0_207]) := by
                        intro C_207 s0_207 hf H locs ls hW hS hl
                        unfold fX8_spreads_207 at hf
                        refine lv_istore_n (lv' := [(3, .int s0_207), (0, .ref (Γ.1 475)), (1, .int a1), (2, .int t_49.2.1), (4, .int t_59.1)]) hx hb dX8_spreads_207 rfl hl (by decide) rfl (fun ls hl => ?_)
                        refine lv_iload_n hx hb dX8_spreads_208 rfl (lv_at hl 3 rfl) ?_
                        refine lv_iconst (v := (1 : Int32)) hx hb dX8_spreads_209 (by decide) ?_
                        refine lv_iload hx hb dX8_spreads_210 (lv_at hl 4 rfl) ?_
                        refine lv_ishl hx hb dX8_spreads_212 ?_
                        refine lv_iconst (v := (-1 : Int32)) hx hb dX8_spreads_213 (by decide) ?_
                        refine lv_ixor hx hb dX8_spreads_214 ?_
                        refine lv_iand hx hb dX8_spreads_215 ?_
                        refine lv_topi (fun v216 ev216 => ?_)
                        have hf := nm_v ev216 hf
                        refine lv_istore_n (lv' := [(2, .int v216), (3, .int s0_207), (0, .ref (Γ.1 475)), (1, .int a1), (4, .int t_59.1)]) hx hb dX8_spreads_216 rfl hl (by decide) rfl (fun ls hl => ?_)
                        refine lv_goto (tgt := 49) hx hb dX8_spreads_217 (by decide) ?_
                        exact kI1 _ (Option.some.inj hf).symm H locs ls hW hS (lv_sub hl [2, 3, 0, 1] rfl)
                      refine lv_icmp_le (tgt := 206) hx hb dX8_spreads_193 (by decide) (fun c193 => ?_) (fun c193 => ?_)
                      · have hf := cn_t c193 hf
                        refine lv_iload_n hx hb dX8_spreads_206 rfl (lv_at hl 3 rfl) ?_
                        exact J_207 (mset (mset t_49.1 497 t_59.1.toNatClampNeg t_121.1) 496 t_121.1.toNatClampNeg (((mset t_49.1 497 t_59.1.toNatClampNeg t_121.1) 496 t_121.1.toNatClampNeg) + ((mset t_49.1 497 t_59.1.toNatClampNeg t_121.1) 484 t_59.1.toNatClampNeg))) t_49.2.2 hf H locs ls hW hS (lv_sub hl [0, 1, 2, 4] rfl)
                      · have hf := cn_f c193 hf
                        refine lv_aload_n hx hb dX8_spreads_196 rfl (lv_at hl 0 rfl) ?_
                        refine get_X8_24 S hG hW fl_X8_71 dX8_spreads_197 ?_
                        refine lv_iload hx hb dX8_spreads_200 (lv_at hl 5 rfl) ?_
                        have g202 := ck_p hf
                        have hf := ck_r hf
                        refine ald_m S hG hW shk_496 lnk_496 g202 dX8_spreads_202 ?_
                        refine lv_goto (tgt := 207) hx hb dX8_spreads_203 (by decide) ?_
                        exact J_207 (mset (mset t_49.1 497 t_59.1.toNatClampNeg t_121.1) 496 t_121.1.toNatClampNeg (((mset t_49.1 497 t_59.1.toNatClampNeg t_121.1) 496 t_121.1.toNatClampNeg) + ((mset t_49.1 497 t_59.1.toNatClampNeg t_121.1) 484 t_59.1.toNatClampNeg))) ((mset (mset t_49.1 497 t_59.1.toNatClampNeg t_121.1) 496 t_121.1.toNatClampNeg (((mset t_49.1 497 t_59.1.toNatClampNeg t_121.1) 496 t_121.1.toNatClampNeg) + ((mset t_49.1 497 t_59.1.toNatClampNeg t_121.1) 484 t_59.1.toNatClampNeg))) 496 t_121.1.toNatClampNeg) hf H locs ls hW hS (lv_sub hl [0, 1, 2, 4] rfl)
                    refine lv_icmp_ge (tgt := 159) hx hb dX8_spreads_124 (by decide) (fun c124 => ?_) (fun c124 => ?_)
                    · have hf := cn_t c124 hf
                      obtain ⟨z124, hf, ez⟩ := exR_e hf
                      rw [kX2 _ ez] at hf
                      exact J_159  hf H locs ls hW hS (lv_sub hl [0, 1, 2, 3, 4, 5] rfl)
                    · have hf := cn_f c124 hf
                      refine lv_aload_n hx hb dX8_spreads_127 rfl (lv_at hl 0 rfl) ?_
                      refine get_X8_24 S hG hW fl_X8_71 dX8_spreads_128 ?_
                      refine lv_iload hx hb dX8_spreads_131 (lv_at hl 6 rfl) ?_
                      have g133 := ck_p hf
                      have hf := ck_r hf
                      refine ald_m S hG hW shk_496 lnk_496 g133 dX8_spreads_133 ?_
                      refine lv_aload_n hx hb dX8_spreads_134 rfl (lv_at hl 0 rfl) ?_
                      refine get_X8_24 S hG hW fl_X8_71 dX8_spreads_135 ?_
                      refine lv_iload hx hb dX8_spreads_138 (lv_at hl 5 rfl) ?_
                      have g140 := ck_p hf
                      have hf := ck_r hf
                      refine ald_m S hG hW shk_496 lnk_496 g140 dX8_spreads_140 ?_
                      have J_151 : ∀ (s0_151 : Int32) , fX8_spreads_151 a1 t_121 t_49 t_59 s0_151 = some y2 → ∀ (H : Heap) (locs : List Loc) (ls : Array Slot), gx_W Γ C t_49.1 H → va_S (gA Γ) s.heap H locs → lv_has ls 7 [(0, .ref (Γ.1 475)), (1, .int a1), (2, .int t_49.2.1), (3, .int t_49.2.2), (4, .int t_59.1), (6, .int t_121.2)] → W p l e rm_X8_spreads s m args below meth c H locs 0 0 Q (F0 m 151 ls [.int s0_151]) := by
                        intro s0_151 hf H locs ls hW hS hl
                        unfold fX8_spreads_151 at hf
                        refine lv_istore (lv' := [(5, .int s0_151), (0, .ref (Γ.1 475)), (1, .int a1), (2, .int t_49.2.1), (3, .int t_49.2.2), (4, .int t_59.1), (6, .int t_121.2)]) hx hb dX8_spreads_151 hl (by decide) rfl (fun ls hl => ?_)
                        refine lv_iinc (v := (t_121.2 + (1 : Int32))) (lv' := [(6, .int (t_121.2 + (1 : Int32))), (5, .int s0_151), (0, .ref (Γ.1 475)), (1, .int a1), (2, .int t_49.2.1), (3, .int t_49.2.2), (4, .int t_59.1)]) hx hb dX8_spreads_153 hl (k := 6) rfl rfl (by decide) rfl (fun ls hl => ?_)
                        refine lv_goto (tgt := 121) hx hb dX8_spreads_156 (by decide) ?_
                        exact kI2 _ (Option.some.inj hf).symm H locs ls hW hS (lv_sub hl [2, 3, 4, 5, 6, 1, 0] rfl)
                      refine lv_icmp_ge (tgt := 149) hx hb dX8_spreads_141 (by decide) (fun c141 => ?_) (fun c141 => ?_)
                      · have hf := cn_t c141 hf
                        refine lv_iload hx hb dX8_spreads_149 (lv_at hl 5 rfl) ?_
                        exact J_151 t_121.1 hf H locs ls hW hS (lv_sub hl [0, 1, 2, 3, 4, 6] rfl)
                      · have hf := cn_f c141 hf
                        refine lv_iload hx hb dX8_spreads_144 (lv_at hl 6 rfl) ?_
                        refine lv_goto (tgt := 151) hx hb dX8_spreads_146 (by decide) ?_
                        exact J_151 t_121.2 hf H locs ls hW hS (lv_sub hl [0, 1, 2, 3, 4, 6] rfl)
                  exact J_121 ((0 : Int32), (1 : Int32)) hf H locs ls hW hS (lv_sub hl [2, 3, 4, 5, 6, 1, 0] rfl)
                refine lv_icmp_ge (tgt := 115) hx hb dX8_spreads_65 (by decide) (fun c65 => ?_) (fun c65 => ?_)
                · have hf := cn_t c65 hf
                  obtain ⟨z65, hf, ez⟩ := exR_e hf
                  rw [kX2 _ ez] at hf
                  exact J_115  hf H locs ls hW hS (lv_sub hl [0, 1, 2, 3, 4] rfl)
                · have hf := cn_f c65 hf
                  refine lv_iload_n hx hb dX8_spreads_68 rfl (lv_at hl 2 rfl) ?_
                  refine lv_iload hx hb dX8_spreads_69 (lv_at hl 5 rfl) ?_
                  refine lv_ishr hx hb dX8_spreads_71 ?_
                  refine lv_iconst (v := (1 : Int32)) hx hb dX8_spreads_72 (by decide) ?_
                  refine lv_iand hx hb dX8_spreads_73 ?_
                  refine lv_iconst (v := (1 : Int32)) hx hb dX8_spreads_74 (by decide) ?_
                  have J_107 : ∀ (s0_107 : Int32) , fX8_spreads_107 a1 t_49 t_59 s0_107 = some y2 → ∀ (H : Heap) (locs : List Loc) (ls : Array Slot), gx_W Γ C t_49.1 H → va_S (gA Γ) s.heap H locs → lv_has ls 7 [(0, .ref (Γ.1 475)), (1, .int a1), (2, .int t_49.2.1), (3, .int t_49.2.2), (5, .int t_59.2)] → W p l e rm_X8_spreads s m args below meth c H locs 0 0 Q (F0 m 107 ls [.int s0_107]) := by
                    intro s0_107 hf H locs ls hW hS hl
                    unfold fX8_spreads_107 at hf
                    refine lv_istore (lv' := [(4, .int s0_107), (0, .ref (Γ.1 475)), (1, .int a1), (2, .int t_49.2.1), (3, .int t_49.2.2), (5, .int t_59.2)]) hx hb dX8_spreads_107 hl (by decide) rfl (fun ls hl => ?_)
                    refine lv_iinc (v := (t_59.2 + (1 : Int32))) (lv' := [(5, .int (t_59.2 + (1 : Int32))), (4, .int s0_107), (0, .ref (Γ.1 475)), (1, .int a1), (2, .int t_49.2.1), (3, .int t_49.2.2)]) hx hb dX8_spreads_109 hl (k := 5) rfl rfl (by decide) rfl (fun ls hl => ?_)
                    refine lv_goto (tgt := 59) hx hb dX8_spreads_112 (by decide) ?_
                    exact kI2 _ (Option.some.inj hf).symm H locs ls hW hS (lv_sub hl [2, 3, 4, 5, 1, 0] rfl)
                  have J_105 : fX8_spreads_105 a1 t_49 t_59 = some y2 → ∀ (H : Heap) (locs : List Loc) (ls : Array Slot), gx_W Γ C t_49.1 H → va_S (gA Γ) s.heap H locs → lv_has ls 7 [(0, .ref (Γ.1 475)), (1, .int a1), (2, .int t_49.2.1), (3, .int t_49.2.2), (4, .int t_59.1), (5, .int t_59.2)] → W p l e rm_X8_spreads s m args below meth c H locs 0 0 Q (F0 m 105 ls []) := by
                    intro  hf H locs ls hW hS hl
                    unfold fX8_spreads_105 at hf
                    refine lv_iload hx hb dX8_spreads_105 (lv_at hl 4 rfl) ?_
                    exact J_107 t_59.1 hf H locs ls hW hS (lv_sub hl [0, 1, 2, 3, 5] rfl)
                  refine lv_icmp_ne (tgt := 105) hx hb dX8_spreads_75 (by decide) (fun c75 => ?_) (fun c75 => ?_)
                  · have hf := cn_f c75 hf
                    exact J_105  hf H locs ls hW hS (lv_sub hl [0, 1, 2, 3, 4, 5] rfl)
                  · have hf := cn_t c75 hf
                    refine lv_iload hx hb dX8_spreads_78 (lv_at hl 4 rfl) ?_
                    have J_100 : fX8_spreads_100 a1 t_49 t_59 = some y2 → ∀ (H : Heap) (locs : List Loc) (ls : Array Slot), gx_W Γ C t_49.1 H → va_S (gA Γ) s.heap H locs → lv_has ls 7 [(0, .ref (Γ.1 475)), (1, .int a1), (2, .int t_49.2.1), (3, .int t_49.2.2), (5, .int t_59.2)] → W p l e rm_X8_spreads s m args below meth c H locs 0 0 Q (F0 m 100 ls []) := by
                      intro  hf H locs ls hW hS hl
                      unfold fX8_spreads_100 at hf
                      refine lv_iload hx hb dX8_spreads_100 (lv_at hl 4 rfl) ?_
                      refine lv_goto (tgt := 107) hx hb dX8_spreads_102 (by decide) ?_
                      exact J_107 t_59.2 hf H locs ls hW hS (lv_sub hl [0, 1, 2, 3, 4] rfl)
                    refine lv_if_lt (tgt := 100) hx hb dX8_spreads_80 (by decide) (fun c80 => ?_) (fun c80 => ?_)
                    · have hf := cn_t c80 hf
                      exact J_100  hf H locs ls hW hS (lv_sub hl [0, 1, 2, 3, 5] rfl)
                    · have hf := cn_f c80 hf
                      refine lv_aload_n hx hb dX8_spreads_83 rfl (lv_at hl 0 rfl) ?_
                      refine get_X8_10 S hG hW fl_X8_35 dX8_spreads_84 ?_
                      refine lv_iload hx hb dX8_spreads_87 (lv_at hl 5 rfl) ?_
                      have g89 := ck_p hf
                      have hf := ck_r hf
                      refine ald_m S hG hW shk_484 lnk_484 g89 dX8_spreads_89 ?_
                      refine lv_aload_n hx hb dX8_spreads_90 rfl (lv_at hl 0 rfl) ?_
                      refine get_X8_10 S hG hW fl_X8_35 dX8_spreads_91 ?_
                      refine lv_iload hx hb dX8_spreads_94 (lv_at hl 4 rfl) ?_
                      have g96 := ck_p hf
                      have hf := ck_r hf
                      refine ald_m S hG hW shk_484 lnk_484 g96 dX8_spreads_96 ?_
                      refine lv_icmp_le (tgt := 105) hx hb dX8_spreads_97 (by decide) (fun c97 => ?_) (fun c97 => ?_)
                      · have hf := cn_t c97 hf
                        exact J_105  hf H locs ls hW hS (lv_sub hl [0, 1, 2, 3, 4, 5] rfl)
                      · have hf := cn_f c97 hf
                        exact J_100  hf H locs ls hW hS (lv_sub hl [0, 1, 2, 3, 5] rfl)
              exact J_59 ((-1 : Int32), (0 : Int32)) hf H locs ls hW hS (lv_sub hl [2, 3, 4, 5, 1, 0] rfl)
          exact J_49 (t_28.1, q1.1, (0 : Int32)) hf H locs ls hW hS (lv_sub hl [1, 2, 3, 0] rfl)
        refine lv_icmp_ge (tgt := 47) hx hb dX8_spreads_31 (by decide) (fun c31 => ?_) (fun c31 => ?_)
        · have hf := cn_t c31 hf
          obtain ⟨z31, hf, ez⟩ := exR_e hf
          rw [kX1 _ ez] at hf
          exact J_47  hf H locs ls hW hS (lv_sub hl [0, 1, 2] rfl)
        · have hf := cn_f c31 hf
          refine lv_aload_n hx hb dX8_spreads_34 rfl (lv_at hl 0 rfl) ?_
          refine get_X8_24 S hG hW fl_X8_71 dX8_spreads_35 ?_
          refine lv_iload_n hx hb dX8_spreads_38 rfl (lv_at hl 3 rfl) ?_
          refine lv_iconst (v := (0 : Int32)) hx hb dX8_spreads_39 (by decide) ?_
          have g40 := ck_p hf
          have hf := ck_r hf
          refine ast_m S hG hW hS shk_496 lnk_496 g40 dX8_spreads_40 (fun H locs hW hS => ?_)
          refine lv_iinc (v := (t_28.2 + (1 : Int32))) (lv' := [(3, .int (t_28.2 + (1 : Int32))), (0, .ref (Γ.1 475)), (1, .int a1), (2, .int q1.1)]) hx hb dX8_spreads_41 hl (k := 3) rfl rfl (by decide) rfl (fun ls hl => ?_)
          refine lv_goto (tgt := 28) hx hb dX8_spreads_44 (by decide) ?_
          exact kI1 _ (Option.some.inj hf).symm H locs ls hW hS (lv_sub hl [1, 2, 3, 0] rfl)
      exact J_28 (t_7.1, (0 : Int32)) hf H locs ls hW hS (lv_sub hl [1, 2, 3, 0] rfl)
    refine lv_icmp_ge (tgt := 26) hx hb dX8_spreads_10 (by decide) (fun c10 => ?_) (fun c10 => ?_)
    · have hf := cn_t c10 hf
      obtain ⟨z10, hf, ez⟩ := exR_e hf
      rw [kX1 _ ez] at hf
      exact J_26  hf H locs ls hW hS (lv_sub hl [0, 1, 2] rfl)
    · have hf := cn_f c10 hf
      refine lv_aload_n hx hb dX8_spreads_13 rfl (lv_at hl 0 rfl) ?_
      refine get_X8_25 S hG hW fl_X8_74 dX8_spreads_14 ?_
      refine lv_iload_n hx hb dX8_spreads_17 rfl (lv_at hl 3 rfl) ?_
      refine lv_iconst (v := (-1 : Int32)) hx hb dX8_spreads_18 (by decide) ?_
      have g19 := ck_p hf
      have hf := ck_r hf
      refine ast_m S hG hW hS shk_497 lnk_497 g19 dX8_spreads_19 (fun H locs hW hS => ?_)
      refine lv_iinc (v := (t_7.2 + (1 : Int32))) (lv' := [(3, .int (t_7.2 + (1 : Int32))), (0, .ref (Γ.1 475)), (1, .int a1), (2, .int q1.1)]) hx hb dX8_spreads_20 hl (k := 3) rfl rfl (by decide) rfl (fun ls hl => ?_)
      refine lv_goto (tgt := 7) hx hb dX8_spreads_23 (by decide) ?_
      exact kI1 _ (Option.some.inj hf).symm H locs ls hW hS (lv_sub hl [1, 2, 3, 0] rfl)
  exact J_7 (q1.2, (0 : Int32)) hf H locs ls hW hS (lv_sub hl [2, 3, 1, 0] rfl)
noncomputable def fX8_shardOf_28 (M : Mem) (a1 : Int32) (a2 : Int32) (s0_28 : Int32) : Option (Int32 × Mem) := cnd (((mset M 475 26 s0_28) 475 26) ≤ (0 : Int32)) (bnd (fX8_spreads (mset M 475 26 s0_28) a2) fun q42 => chk (vp_in a1 16) (some ((q42.2 497 a1.toNatClampNeg), q42.2))) (some ((0 : Int32), (mset M 475 26 s0_28)))
noncomputable def fX8_shardOf (M : Mem) (a1 : Int32) (a2 : Int32) : Option (Int32 × Mem) := bnd (fX8_isTarget M a1) fun q3 => cnd (q3 = (0 : Int32)) (fX8_shardOf_28 M a1 a2 (1 : Int32)) (cnd ((fX8_isIn a2 (1 : Int32) (8 : Int32)) = (0 : Int32)) (fX8_shardOf_28 M a1 a2 (2 : Int32)) (fX8_shardOf_28 M a1 a2 (0 : Int32)))
abbrev rm_X8_shardOf : Room := { frames := 9, cells := 0, slots := 0, locals := 230 }
set_option maxRecDepth 100000 in
set_option maxHeartbeats 4000000 in
theorem c_X8_shardOf (l : Launch) (Γ : gx_G) (C M : Mem) (a1 : Int32) (a2 : Int32) {y0 : (Int32 × Mem)} (hf : fX8_shardOf M a1 a2 = some y0) : Met l yX8_shardOf (.code yX8_shardOf cX8_shardOf 3 (some .int) :: TsG) rm_X8_shardOf (va_Pc [.ref (Γ.1 475), .int a1, .int a2] (gx_P Γ C M)) (gx_Qi Γ y0.1 C y0.2) 0 0 (gA Γ) := by
  refine gm_i (by decide) (Nat.le_of_ble_eq_true rfl) ?_
  intro p e s m args below meth c Q S hG hret ls H locs hl hW hS
  obtain ⟨hx, hb, hml, hown, hts⟩ := id S
  have hl : lv_has ls 3 [(0, .ref (Γ.1 475)), (1, .int a1), (2, .int a2)] := hl
  unfold fX8_shardOf at hf
  refine lv_aload_n hx hb dX8_shardOf_0 rfl (lv_at hl 0 rfl) ?_
  refine lv_aload_n hx hb dX8_shardOf_1 rfl (lv_at hl 0 rfl) ?_
  refine lv_iload_n hx hb dX8_shardOf_2 rfl (lv_at hl 1 rfl) ?_
  obtain ⟨q3, hq3, hf⟩ := bnd_e hf
  refine gk0_i hS (gv_run (rest := [.ref (Γ.1 475)]) S hG hW hS [.int a1] (c_X8_isTarget l Γ C M a1 hq3) pk_X8_isTarget ml_X8_133 (Nat.le_of_ble_eq_true rfl) rfl rfl rfl rfl ⟨Nat.le_of_ble_eq_true rfl, Nat.le_of_ble_eq_true rfl⟩ rfl hl.1 rfl (Nat.le_of_ble_eq_true rfl) dX8_shardOf_3 ⟨Nat.le_of_ble_eq_true rfl, Nat.le_of_ble_eq_true rfl⟩) (fun H locs hW hS => ?_)
  have J_28 : ∀ (s0_28 : Int32) , fX8_shardOf_28 M a1 a2 s0_28 = some y0 → ∀ (H : Heap) (locs : List Loc) (ls : Array Slot), gx_W Γ C M H → va_S (gA Γ) s.heap H locs → lv_has ls 3 [(0, .ref (Γ.1 475)), (1, .int a1), (2, .int a2)] → W p l e rm_X8_shardOf s m args below meth c H locs 0 0 Q (F0 m 28 ls [.int s0_28, .ref (Γ.1 475)]) := by
    intro s0_28 hf H locs ls hW hS hl
    unfold fX8_shardOf_28 at hf
    refine put_X8_26 S hG hW hS fl_X8_77 dX8_shardOf_28 (fun H locs hW hS => ?_)
    refine lv_aload_n hx hb dX8_shardOf_31 rfl (lv_at hl 0 rfl) ?_
    refine get_X8_26 S hG hW fl_X8_77 dX8_shardOf_32 ?_
    refine lv_if_le (tgt := 40) hx hb dX8_shardOf_35 (by decide) (fun c35 => ?_) (fun c35 => ?_)
    · have hf := cn_t c35 hf
      refine lv_aload_n hx hb dX8_shardOf_40 rfl (lv_at hl 0 rfl) ?_
      refine lv_iload_n hx hb dX8_shardOf_41 rfl (lv_at hl 2 rfl) ?_
      obtain ⟨q42, hq42, hf⟩ := bnd_e hf
      refine gk0_i hS (gv_run (rest := []) S hG hW hS [.int a2] (c_X8_spreads l Γ C (mset M 475 26 s0_28) a2 hq42) pk_X8_spreads ml_X8_177 (Nat.le_of_ble_eq_true rfl) rfl rfl rfl rfl ⟨Nat.le_of_ble_eq_true rfl, Nat.le_of_ble_eq_true rfl⟩ rfl hl.1 rfl (Nat.le_of_ble_eq_true rfl) dX8_shardOf_42 ⟨Nat.le_of_ble_eq_true rfl, Nat.le_of_ble_eq_true rfl⟩) (fun H locs hW hS => ?_)
      refine lv_pop hx hb dX8_shardOf_45 rfl ?_
      refine lv_aload_n hx hb dX8_shardOf_46 rfl (lv_at hl 0 rfl) ?_
      refine get_X8_25 S hG hW fl_X8_74 dX8_shardOf_47 ?_
      refine lv_iload_n hx hb dX8_shardOf_50 rfl (lv_at hl 1 rfl) ?_
      have g51 := ck_p hf
      have hf := ck_r hf
      refine ald_m S hG hW shk_497 lnk_497 g51 dX8_shardOf_51 ?_
      have e9 := Option.some.inj hf
      subst e9
      exact hret _ _ _ _ _ hW hS rfl rfl dX8_shardOf_52
    · have hf := cn_f c35 hf
      refine lv_iconst (v := (0 : Int32)) hx hb dX8_shardOf_38 (by decide) ?_
      have e9 := Option.some.inj hf
      subst e9
      exact hret _ _ _ _ _ hW hS rfl rfl dX8_shardOf_39
  refine lv_if_ne (tgt := 13) hx hb dX8_shardOf_6 (by decide) (fun c6 => ?_) (fun c6 => ?_)
  · have hf := cn_f c6 hf
    refine lv_iload_n hx hb dX8_shardOf_13 rfl (lv_at hl 2 rfl) ?_
    refine lv_iconst (v := (1 : Int32)) hx hb dX8_shardOf_14 (by decide) ?_
    refine lv_bipush (v := (8 : Int32)) hx hb dX8_shardOf_15 (by decide) ?_
    refine gk0_i hS (gs_run (rest := [.ref (Γ.1 475)]) S hG hW hS [.int a2, .int (1 : Int32), .int (8 : Int32)] (c_X8_isIn l Γ C M a2 (1 : Int32) (8 : Int32)) pk_X8_isIn ml_X8_111 rfl rfl ⟨Nat.le_of_ble_eq_true rfl, Nat.le_of_ble_eq_true rfl⟩ rfl hl.1 rfl (Nat.le_of_ble_eq_true rfl) dX8_shardOf_17 ⟨Nat.le_of_ble_eq_true rfl, Nat.le_of_ble_eq_true rfl⟩) (fun H locs hW hS => ?_)
    refine lv_if_eq (tgt := 27) hx hb dX8_shardOf_20 (by decide) (fun c20 => ?_) (fun c20 => ?_)
    · have hf := cn_t c20 hf
      refine lv_iconst (v := (2 : Int32)) hx hb dX8_shardOf_27 (by decide) ?_
      exact J_28 (2 : Int32) hf H locs ls hW hS (lv_sub hl [0, 1, 2] rfl)
    · have hf := cn_f c20 hf
      refine lv_iconst (v := (0 : Int32)) hx hb dX8_shardOf_23 (by decide) ?_
      refine lv_goto (tgt := 28) hx hb dX8_shardOf_24 (by decide) ?_
      exact J_28 (0 : Int32) hf H locs ls hW hS (lv_sub hl [0, 1, 2] rfl)
  · have hf := cn_t c6 hf
    refine lv_iconst (v := (1 : Int32)) hx hb dX8_shardOf_9 (by decide) ?_
    refine lv_goto (tgt := 28) hx hb dX8_shardOf_10 (by decide) ?_
    exact J_28 (1 : Int32) hf H locs ls hW hS (lv_sub hl [0, 1, 2] rfl)
noncomputable def fX8_longestShard_16 (M : Mem) (a1 : Int32) (s0_16 : Int32) : Option (Int32 × Mem) := cnd (((mset M 475 26 s0_16) 475 26) ≤ (0 : Int32)) (bnd (fX8_spreads (mset M 475 26 s0_16) a1) fun q32 => some (q32.1, q32.2)) (some ((0 : Int32), (mset M 475 26 s0_16)))
noncomputable def fX8_longestShard (M : Mem) (a1 : Int32) : Option (Int32 × Mem) := cnd ((fX8_isIn a1 (1 : Int32) (8 : Int32)) = (0 : Int32)) (fX8_longestShard_16 M a1 (1 : Int32)) (fX8_longestShard_16 M a1 (0 : Int32))
abbrev rm_X8_longestShard : Room := { frames := 9, cells := 0, slots := 0, locals := 230 }
set_option maxRecDepth 100000 in
set_option maxHeartbeats 4000000 in
theorem c_X8_longestShard (l : Launch) (Γ : gx_G) (C M : Mem) (a1 : Int32) {y0 : (Int32 × Mem)} (hf : fX8_longestShard M a1 = some y0) : Met l yX8_longestShard (.code yX8_longestShard cX8_longestShard 2 (some .int) :: TsG) rm_X8_longestShard (va_Pc [.ref (Γ.1 475), .int a1] (gx_P Γ C M)) (gx_Qi Γ y0.1 C y0.2) 0 0 (gA Γ) := by
  refine gm_i (by decide) (Nat.le_of_ble_eq_true rfl) ?_
  intro p e s m args below meth c Q S hG hret ls H locs hl hW hS
  obtain ⟨hx, hb, hml, hown, hts⟩ := id S
  have hl : lv_has ls 2 [(0, .ref (Γ.1 475)), (1, .int a1)] := hl
  unfold fX8_longestShard at hf
  refine lv_aload_n hx hb dX8_longestShard_0 rfl (lv_at hl 0 rfl) ?_
  refine lv_iload_n hx hb dX8_longestShard_1 rfl (lv_at hl 1 rfl) ?_
  refine lv_iconst (v := (1 : Int32)) hx hb dX8_longestShard_2 (by decide) ?_
  refine lv_bipush (v := (8 : Int32)) hx hb dX8_longestShard_3 (by decide) ?_
  refine gk0_i hS (gs_run (rest := [.ref (Γ.1 475)]) S hG hW hS [.int a1, .int (1 : Int32), .int (8 : Int32)] (c_X8_isIn l Γ C M a1 (1 : Int32) (8 : Int32)) pk_X8_isIn ml_X8_111 rfl rfl ⟨Nat.le_of_ble_eq_true rfl, Nat.le_of_ble_eq_true rfl⟩ rfl hl.1 rfl (Nat.le_of_ble_eq_true rfl) dX8_longestShard_5 ⟨Nat.le_of_ble_eq_true rfl, Nat.le_of_ble_eq_true rfl⟩) (fun H locs hW hS => ?_)
  have J_16 : ∀ (s0_16 : Int32) , fX8_longestShard_16 M a1 s0_16 = some y0 → ∀ (H : Heap) (locs : List Loc) (ls : Array Slot), gx_W Γ C M H → va_S (gA Γ) s.heap H locs → lv_has ls 2 [(0, .ref (Γ.1 475)), (1, .int a1)] → W p l e rm_X8_longestShard s m args below meth c H locs 0 0 Q (F0 m 16 ls [.int s0_16, .ref (Γ.1 475)]) := by
    intro s0_16 hf H locs ls hW hS hl
    unfold fX8_longestShard_16 at hf
    refine put_X8_26 S hG hW hS fl_X8_77 dX8_longestShard_16 (fun H locs hW hS => ?_)
    refine lv_aload_n hx hb dX8_longestShard_19 rfl (lv_at hl 0 rfl) ?_
    refine get_X8_26 S hG hW fl_X8_77 dX8_longestShard_20 ?_
    refine lv_if_le (tgt := 30) hx hb dX8_longestShard_23 (by decide) (fun c23 => ?_) (fun c23 => ?_)
    · have hf := cn_t c23 hf
      refine lv_aload_n hx hb dX8_longestShard_30 rfl (lv_at hl 0 rfl) ?_
      refine lv_iload_n hx hb dX8_longestShard_31 rfl (lv_at hl 1 rfl) ?_
      obtain ⟨q32, hq32, hf⟩ := bnd_e hf
      refine gk0_i hS (gv_run (rest := []) S hG hW hS [.int a1] (c_X8_spreads l Γ C (mset M 475 26 s0_16) a1 hq32) pk_X8_spreads ml_X8_177 (Nat.le_of_ble_eq_true rfl) rfl rfl rfl rfl ⟨Nat.le_of_ble_eq_true rfl, Nat.le_of_ble_eq_true rfl⟩ rfl hl.1 rfl (Nat.le_of_ble_eq_true rfl) dX8_longestShard_32 ⟨Nat.le_of_ble_eq_true rfl, Nat.le_of_ble_eq_true rfl⟩) (fun H locs hW hS => ?_)
      have e9 := Option.some.inj hf
      subst e9
      exact hret _ _ _ _ _ hW hS rfl rfl dX8_longestShard_35
    · have hf := cn_f c23 hf
      refine lv_iconst (v := (0 : Int32)) hx hb dX8_longestShard_26 (by decide) ?_
      refine lv_goto (tgt := 35) hx hb dX8_longestShard_27 (by decide) ?_
      have e9 := Option.some.inj hf
      subst e9
      exact hret _ _ _ _ _ hW hS rfl rfl dX8_longestShard_35
  refine lv_if_eq (tgt := 15) hx hb dX8_longestShard_8 (by decide) (fun c8 => ?_) (fun c8 => ?_)
  · have hf := cn_t c8 hf
    refine lv_iconst (v := (1 : Int32)) hx hb dX8_longestShard_15 (by decide) ?_
    exact J_16 (1 : Int32) hf H locs ls hW hS (lv_sub hl [0, 1] rfl)
  · have hf := cn_f c8 hf
    refine lv_iconst (v := (0 : Int32)) hx hb dX8_longestShard_11 (by decide) ?_
    refine lv_goto (tgt := 16) hx hb dX8_longestShard_12 (by decide) ?_
    exact J_16 (0 : Int32) hf H locs ls hW hS (lv_sub hl [0, 1] rfl)
noncomputable def fX8_shardsFor_58 (t_25 : (Mem × Int32 × Int32)) : Option (Int32 × Mem) := cnd ((t_25.1 475 26) ≤ (0 : Int32)) (some (t_25.2.1, t_25.1)) (some ((0 : Int32), t_25.1))
noncomputable def fX8_shardsFor_51 (a1 : Int32) (q39 : (Int32 × Mem)) (t_25 : (Mem × Int32 × Int32)) (s0_51 : Int32) : Option ((Mem × Int32 × Int32) ⊕ (Int32 × Mem)) := some (.inl (q39.2, s0_51, (t_25.2.2 + (-1 : Int32))))
noncomputable def fX8_shardsFor_25 (a1 : Int32) : (Mem × Int32 × Int32) → Option ((Mem × Int32 × Int32) ⊕ (Int32 × Mem)) := fun t_25 => cnd (t_25.2.2 < (1 : Int32)) (exR (fX8_shardsFor_58 t_25)) (cnd ((t_25.1 475 26) = (0 : Int32)) (bnd (fX8_spreads t_25.1 t_25.2.2) fun q39 => cnd (a1 < q39.1) (fX8_shardsFor_51 a1 q39 t_25 t_25.2.1) (fX8_shardsFor_51 a1 q39 t_25 t_25.2.2)) (exR (fX8_shardsFor_58 t_25)))
noncomputable def fX8_shardsFor_17 (M : Mem) (a1 : Int32) (s0_17 : Int32) : Option (Int32 × Mem) := lp (fX8_shardsFor_25 a1) ((mset M 475 26 s0_17), (-1 : Int32), (8 : Int32))
noncomputable def fX8_shardsFor (M : Mem) (a1 : Int32) : Option (Int32 × Mem) := cnd ((fX8_isIn a1 (1 : Int32) (16000 : Int32)) = (0 : Int32)) (fX8_shardsFor_17 M a1 (1 : Int32)) (fX8_shardsFor_17 M a1 (0 : Int32))
abbrev rm_X8_shardsFor : Room := { frames := 9, cells := 0, slots := 0, locals := 230 }
set_option maxRecDepth 100000 in
set_option maxHeartbeats 4000000 in
theorem c_X8_shardsFor (l : Launch) (Γ : gx_G) (C M : Mem) (a1 : Int32) {y0 : (Int32 × Mem)} (hf : fX8_shardsFor M a1 = some y0) : Met l yX8_shardsFor (.code yX8_shardsFor cX8_shardsFor 4 (some .int) :: TsG) rm_X8_shardsFor (va_Pc [.ref (Γ.1 475), .int a1] (gx_P Γ C M)) (gx_Qi Γ y0.1 C y0.2) 0 0 (gA Γ) := by
  refine gm_i (by decide) (Nat.le_of_ble_eq_true rfl) ?_
  intro p e s m args below meth c Q S hG hret ls H locs hl hW hS
  obtain ⟨hx, hb, hml, hown, hts⟩ := id S
  have hl : lv_has ls 4 [(0, .ref (Γ.1 475)), (1, .int a1)] := hl
  unfold fX8_shardsFor at hf
  refine lv_aload_n hx hb dX8_shardsFor_0 rfl (lv_at hl 0 rfl) ?_
  refine lv_iload_n hx hb dX8_shardsFor_1 rfl (lv_at hl 1 rfl) ?_
  refine lv_iconst (v := (1 : Int32)) hx hb dX8_shardsFor_2 (by decide) ?_
  refine lv_sipush (v := (16000 : Int32)) hx hb dX8_shardsFor_3 (by decide) ?_
  refine gk0_i hS (gs_run (rest := [.ref (Γ.1 475)]) S hG hW hS [.int a1, .int (1 : Int32), .int (16000 : Int32)] (c_X8_isIn l Γ C M a1 (1 : Int32) (16000 : Int32)) pk_X8_isIn ml_X8_111 rfl rfl ⟨Nat.le_of_ble_eq_true rfl, Nat.le_of_ble_eq_true rfl⟩ rfl hl.1 rfl (Nat.le_of_ble_eq_true rfl) dX8_shardsFor_6 ⟨Nat.le_of_ble_eq_true rfl, Nat.le_of_ble_eq_true rfl⟩) (fun H locs hW hS => ?_)
  have J_17 : ∀ (s0_17 : Int32) , fX8_shardsFor_17 M a1 s0_17 = some y0 → ∀ (H : Heap) (locs : List Loc) (ls : Array Slot), gx_W Γ C M H → va_S (gA Γ) s.heap H locs → lv_has ls 4 [(0, .ref (Γ.1 475)), (1, .int a1)] → W p l e rm_X8_shardsFor s m args below meth c H locs 0 0 Q (F0 m 17 ls [.int s0_17, .ref (Γ.1 475)]) := by
    intro s0_17 hf H locs ls hW hS hl
    unfold fX8_shardsFor_17 at hf
    refine put_X8_26 S hG hW hS fl_X8_77 dX8_shardsFor_17 (fun H locs hW hS => ?_)
    refine lv_iconst (v := (-1 : Int32)) hx hb dX8_shardsFor_20 (by decide) ?_
    refine lv_istore_n (lv' := [(2, .int (-1 : Int32)), (0, .ref (Γ.1 475)), (1, .int a1)]) hx hb dX8_shardsFor_21 rfl hl (by decide) rfl (fun ls hl => ?_)
    refine lv_bipush (v := (8 : Int32)) hx hb dX8_shardsFor_22 (by decide) ?_
    refine lv_istore_n (lv' := [(3, .int (8 : Int32)), (2, .int (-1 : Int32)), (0, .ref (Γ.1 475)), (1, .int a1)]) hx hb dX8_shardsFor_24 rfl hl (by decide) rfl (fun ls hl => ?_)
    have J_25 : ∀  (t_25 : Mem × Int32 × Int32), lp (fX8_shardsFor_25 a1) t_25 = some y0 → ∀ (H : Heap) (locs : List Loc) (ls : Array Slot), gx_W Γ C t_25.1 H → va_S (gA Γ) s.heap H locs → lv_has ls 4 [(0, .ref (Γ.1 475)), (1, .int a1), (2, .int t_25.2.1), (3, .int t_25.2.2)] → W p l e rm_X8_shardsFor s m args below meth c H locs 0 0 Q (F0 m 25 ls []) := by
      refine lp_ind (P := fun (t_25 : Mem × Int32 × Int32) => ∀ (H : Heap) (locs : List Loc) (ls : Array Slot), gx_W Γ C t_25.1 H → va_S (gA Γ) s.heap H locs → lv_has ls 4 [(0, .ref (Γ.1 475)), (1, .int a1), (2, .int t_25.2.1), (3, .int t_25.2.2)] → W p l e rm_X8_shardsFor s m args below meth c H locs 0 0 Q (F0 m 25 ls [])) ?_
      intro t_25 y1 hf kI1 kX1 H locs ls hW hS hl
      unfold fX8_shardsFor_25 at hf
      refine lv_iload_n hx hb dX8_shardsFor_25 rfl (lv_at hl 3 rfl) ?_
      refine lv_iconst (v := (1 : Int32)) hx hb dX8_shardsFor_26 (by decide) ?_
      have J_58 : fX8_shardsFor_58 t_25 = some y0 → ∀ (H : Heap) (locs : List Loc) (ls : Array Slot), gx_W Γ C t_25.1 H → va_S (gA Γ) s.heap H locs → lv_has ls 4 [(0, .ref (Γ.1 475)), (2, .int t_25.2.1)] → W p l e rm_X8_shardsFor s m args below meth c H locs 0 0 Q (F0 m 58 ls []) := by
        intro  hf H locs ls hW hS hl
        unfold fX8_shardsFor_58 at hf
        refine lv_aload_n hx hb dX8_shardsFor_58 rfl (lv_at hl 0 rfl) ?_
        refine get_X8_26 S hG hW fl_X8_77 dX8_shardsFor_59 ?_
        refine lv_if_le (tgt := 69) hx hb dX8_shardsFor_62 (by decide) (fun c62 => ?_) (fun c62 => ?_)
        · have hf := cn_t c62 hf
          refine lv_iload_n hx hb dX8_shardsFor_69 rfl (lv_at hl 1 rfl) ?_
          have e9 := Option.some.inj hf
          subst e9
          exact hret _ _ _ _ _ hW hS rfl rfl dX8_shardsFor_70
        · have hf := cn_f c62 hf
          refine lv_iconst (v := (0 : Int32)) hx hb dX8_shardsFor_65 (by decide) ?_
          refine lv_goto (tgt := 70) hx hb dX8_shardsFor_66 (by decide) ?_
          have e9 := Option.some.inj hf
          subst e9
          exact hret _ _ _ _ _ hW hS rfl rfl dX8_shardsFor_70
      refine lv_icmp_lt (tgt := 58) hx hb dX8_shardsFor_27 (by decide) (fun c27 => ?_) (fun c27 => ?_)
      · have hf := cn_t c27 hf
        obtain ⟨z27, hf, ez⟩ := exR_e hf
        rw [kX1 _ ez] at hf
        exact J_58  hf H locs ls hW hS (lv_sub hl [0, 2] rfl)
      · have hf := cn_f c27 hf
        refine lv_aload_n hx hb dX8_shardsFor_30 rfl (lv_at hl 0 rfl) ?_
        refine get_X8_26 S hG hW fl_X8_77 dX8_shardsFor_31 ?_
        refine lv_if_ne (tgt := 58) hx hb dX8_shardsFor_34 (by decide) (fun c34 => ?_) (fun c34 => ?_)
        · have hf := cn_f c34 hf
          obtain ⟨z34, hf, ez⟩ := exR_e hf
          rw [kX1 _ ez] at hf
          exact J_58  hf H locs ls hW hS (lv_sub hl [0, 2] rfl)
        · have hf := cn_t c34 hf
          refine lv_aload_n hx hb dX8_shardsFor_37 rfl (lv_at hl 0 rfl) ?_
          refine lv_iload_n hx hb dX8_shardsFor_38 rfl (lv_at hl 3 rfl) ?_
          obtain ⟨q39, hq39, hf⟩ := bnd_e hf
          refine gk0_i hS (gv_run (rest := []) S hG hW hS [.int t_25.2.2] (c_X8_spreads l Γ C t_25.1 t_25.2.2 hq39) pk_X8_spreads ml_X8_177 (Nat.le_of_ble_eq_true rfl) rfl rfl rfl rfl ⟨Nat.le_of_ble_eq_true rfl, Nat.le_of_ble_eq_true rfl⟩ rfl hl.1 rfl (Nat.le_of_ble_eq_true rfl) dX8_shardsFor_39 ⟨Nat.le_of_ble_eq_true rfl, Nat.le_of_ble_eq_true rfl⟩) (fun H locs hW hS => ?_)
          refine lv_iload_n hx hb dX8_shardsFor_42 rfl (lv_at hl 1 rfl) ?_
          have J_51 : ∀ (s0_51 : Int32) , fX8_shardsFor_51 a1 q39 t_25 s0_51 = some y1 → ∀ (H : Heap) (locs : List Loc) (ls : Array Slot), gx_W Γ C q39.2 H → va_S (gA Γ) s.heap H locs → lv_has ls 4 [(0, .ref (Γ.1 475)), (1, .int a1), (3, .int t_25.2.2)] → W p l e rm_X8_shardsFor s m args below meth c H locs 0 0 Q (F0 m 51 ls [.int s0_51]) := by
            intro s0_51 hf H locs ls hW hS hl
            unfold fX8_shardsFor_51 at hf
            refine lv_istore_n (lv' := [(2, .int s0_51), (0, .ref (Γ.1 475)), (1, .int a1), (3, .int t_25.2.2)]) hx hb dX8_shardsFor_51 rfl hl (by decide) rfl (fun ls hl => ?_)
            refine lv_iinc (v := (t_25.2.2 + (-1 : Int32))) (lv' := [(3, .int (t_25.2.2 + (-1 : Int32))), (2, .int s0_51), (0, .ref (Γ.1 475)), (1, .int a1)]) hx hb dX8_shardsFor_52 hl (k := 3) rfl rfl (by decide) rfl (fun ls hl => ?_)
            refine lv_goto (tgt := 25) hx hb dX8_shardsFor_55 (by decide) ?_
            exact kI1 _ (Option.some.inj hf).symm H locs ls hW hS (lv_sub hl [2, 3, 1, 0] rfl)
          refine lv_icmp_gt (tgt := 50) hx hb dX8_shardsFor_43 (by decide) (fun c43 => ?_) (fun c43 => ?_)
          · have hf := cn_t c43 hf
            refine lv_iload_n hx hb dX8_shardsFor_50 rfl (lv_at hl 2 rfl) ?_
            exact J_51 t_25.2.1 hf H locs ls hW hS (lv_sub hl [0, 1, 3] rfl)
          · have hf := cn_f c43 hf
            refine lv_iload_n hx hb dX8_shardsFor_46 rfl (lv_at hl 3 rfl) ?_
            refine lv_goto (tgt := 51) hx hb dX8_shardsFor_47 (by decide) ?_
            exact J_51 t_25.2.2 hf H locs ls hW hS (lv_sub hl [0, 1, 3] rfl)
    exact J_25 ((mset M 475 26 s0_17), (-1 : Int32), (8 : Int32)) hf H locs ls hW hS (lv_sub hl [2, 3, 1, 0] rfl)
  refine lv_if_eq (tgt := 16) hx hb dX8_shardsFor_9 (by decide) (fun c9 => ?_) (fun c9 => ?_)
  · have hf := cn_t c9 hf
    refine lv_iconst (v := (1 : Int32)) hx hb dX8_shardsFor_16 (by decide) ?_
    exact J_17 (1 : Int32) hf H locs ls hW hS (lv_sub hl [0, 1] rfl)
  · have hf := cn_f c9 hf
    refine lv_iconst (v := (0 : Int32)) hx hb dX8_shardsFor_12 (by decide) ?_
    refine lv_goto (tgt := 17) hx hb dX8_shardsFor_13 (by decide) ?_
    exact J_17 (0 : Int32) hf H locs ls hW hS (lv_sub hl [0, 1] rfl)
noncomputable def fX8_addRule_40 (M : Mem) (a1 : Int32) (s0_40 : Int32) : Option (Int32 × Mem) := cnd (((mset M 475 26 s0_40) 475 26) ≤ (0 : Int32)) (bnd (fX8_copies (mset M 475 26 s0_40) ((64 : Int32) + ((mset M 475 26 s0_40) 475 14))) fun q60 => chk (vp_in (q60 475 14) 12) (some (((mset (mset q60 488 (q60 475 14).toNatClampNeg a1) 475 14 (((mset q60 488 (q60 475 14).toNatClampNeg a1) 475 14) + (1 : Int32))) 475 14), (mset (mset q60 488 (q60 475 14).toNatClampNeg a1) 475 14 (((mset q60 488 (q60 475 14).toNatClampNeg a1) 475 14) + (1 : Int32)))))) (some ((0 : Int32), (mset M 475 26 s0_40)))
noncomputable def fX8_addRule (M : Mem) (a1 : Int32) : Option (Int32 × Mem) := cnd ((fX8_isIn a1 (0 : Int32) (7 : Int32)) = (0 : Int32)) (fX8_addRule_40 M a1 (1 : Int32)) (bnd (fX8_isGlobNow M) fun q16 => cnd (q16 = (0 : Int32)) (fX8_addRule_40 M a1 (2 : Int32)) (cnd ((M 475 14) = (12 : Int32)) (fX8_addRule_40 M a1 (3 : Int32)) (fX8_addRule_40 M a1 (0 : Int32))))
abbrev rm_X8_addRule : Room := { frames := 3, cells := 0, slots := 0, locals := 67 }
set_option maxRecDepth 100000 in
set_option maxHeartbeats 4000000 in
theorem c_X8_addRule (l : Launch) (Γ : gx_G) (C M : Mem) (a1 : Int32) {y0 : (Int32 × Mem)} (hf : fX8_addRule M a1 = some y0) : Met l yX8_addRule (.code yX8_addRule cX8_addRule 2 (some .int) :: TsG) rm_X8_addRule (va_Pc [.ref (Γ.1 475), .int a1] (gx_P Γ C M)) (gx_Qi Γ y0.1 C y0.2) 0 0 (gA Γ) := by
  refine gm_i (by decide) (Nat.le_of_ble_eq_true rfl) ?_
  intro p e s m args below meth c Q S hG hret ls H locs hl hW hS
  obtain ⟨hx, hb, hml, hown, hts⟩ := id S
  have hl : lv_has ls 2 [(0, .ref (Γ.1 475)), (1, .int a1)] := hl
  unfold fX8_addRule at hf
  refine lv_aload_n hx hb dX8_addRule_0 rfl (lv_at hl 0 rfl) ?_
  refine lv_iload_n hx hb dX8_addRule_1 rfl (lv_at hl 1 rfl) ?_
  refine lv_iconst (v := (0 : Int32)) hx hb dX8_addRule_2 (by decide) ?_
  refine lv_bipush (v := (7 : Int32)) hx hb dX8_addRule_3 (by decide) ?_
  refine gk0_i hS (gs_run (rest := [.ref (Γ.1 475)]) S hG hW hS [.int a1, .int (0 : Int32), .int (7 : Int32)] (c_X8_isIn l Γ C M a1 (0 : Int32) (7 : Int32)) pk_X8_isIn ml_X8_111 rfl rfl ⟨Nat.le_of_ble_eq_true rfl, Nat.le_of_ble_eq_true rfl⟩ rfl hl.1 rfl (Nat.le_of_ble_eq_true rfl) dX8_addRule_5 ⟨Nat.le_of_ble_eq_true rfl, Nat.le_of_ble_eq_true rfl⟩) (fun H locs hW hS => ?_)
  have J_40 : ∀ (s0_40 : Int32) , fX8_addRule_40 M a1 s0_40 = some y0 → ∀ (H : Heap) (locs : List Loc) (ls : Array Slot), gx_W Γ C M H → va_S (gA Γ) s.heap H locs → lv_has ls 2 [(0, .ref (Γ.1 475)), (1, .int a1)] → W p l e rm_X8_addRule s m args below meth c H locs 0 0 Q (F0 m 40 ls [.int s0_40, .ref (Γ.1 475)]) := by
    intro s0_40 hf H locs ls hW hS hl
    unfold fX8_addRule_40 at hf
    refine put_X8_26 S hG hW hS fl_X8_77 dX8_addRule_40 (fun H locs hW hS => ?_)
    refine lv_aload_n hx hb dX8_addRule_43 rfl (lv_at hl 0 rfl) ?_
    refine get_X8_26 S hG hW fl_X8_77 dX8_addRule_44 ?_
    refine lv_if_le (tgt := 52) hx hb dX8_addRule_47 (by decide) (fun c47 => ?_) (fun c47 => ?_)
    · have hf := cn_t c47 hf
      refine lv_aload_n hx hb dX8_addRule_52 rfl (lv_at hl 0 rfl) ?_
      refine lv_bipush (v := (64 : Int32)) hx hb dX8_addRule_53 (by decide) ?_
      refine lv_aload_n hx hb dX8_addRule_55 rfl (lv_at hl 0 rfl) ?_
      refine get_X8_14 S hG hW fl_X8_180 dX8_addRule_56 ?_
      refine lv_iadd hx hb dX8_addRule_59 ?_
      obtain ⟨q60, hq60, hf⟩ := bnd_e hf
      refine gk0_v hS (gv_run (rest := []) S hG hW hS [.int ((64 : Int32) + ((mset M 475 26 s0_40) 475 14))] (c_X8_copies l Γ C (mset M 475 26 s0_40) ((64 : Int32) + ((mset M 475 26 s0_40) 475 14)) hq60) pk_X8_copies ml_X8_136 (Nat.le_of_ble_eq_true rfl) rfl rfl rfl rfl ⟨Nat.le_of_ble_eq_true rfl, Nat.le_of_ble_eq_true rfl⟩ rfl hl.1 rfl (Nat.le_of_ble_eq_true rfl) dX8_addRule_60 ⟨Nat.le_of_ble_eq_true rfl, Nat.le_of_ble_eq_true rfl⟩) (fun H locs hW hS => ?_)
      refine lv_aload_n hx hb dX8_addRule_63 rfl (lv_at hl 0 rfl) ?_
      refine get_X8_15 S hG hW fl_X8_47 dX8_addRule_64 ?_
      refine lv_aload_n hx hb dX8_addRule_67 rfl (lv_at hl 0 rfl) ?_
      refine get_X8_14 S hG hW fl_X8_180 dX8_addRule_68 ?_
      refine lv_iload_n hx hb dX8_addRule_71 rfl (lv_at hl 1 rfl) ?_
      have g72 := ck_p hf
      have hf := ck_r hf
      refine ast_m S hG hW hS shk_488 lnk_488 g72 dX8_addRule_72 (fun H locs hW hS => ?_)
      refine lv_aload_n hx hb dX8_addRule_73 rfl (lv_at hl 0 rfl) ?_
      refine lv_dup hx hb dX8_addRule_74 rfl ?_
      refine get_X8_14 S hG hW fl_X8_180 dX8_addRule_75 ?_
      refine lv_iconst (v := (1 : Int32)) hx hb dX8_addRule_78 (by decide) ?_
      refine lv_iadd hx hb dX8_addRule_79 ?_
      refine put_X8_14 S hG hW hS fl_X8_180 dX8_addRule_80 (fun H locs hW hS => ?_)
      refine lv_aload_n hx hb dX8_addRule_83 rfl (lv_at hl 0 rfl) ?_
      refine get_X8_14 S hG hW fl_X8_180 dX8_addRule_84 ?_
      have e9 := Option.some.inj hf
      subst e9
      exact hret _ _ _ _ _ hW hS rfl rfl dX8_addRule_87
    · have hf := cn_f c47 hf
      refine lv_iconst (v := (0 : Int32)) hx hb dX8_addRule_50 (by decide) ?_
      have e9 := Option.some.inj hf
      subst e9
      exact hret _ _ _ _ _ hW hS rfl rfl dX8_addRule_51
  refine lv_if_ne (tgt := 15) hx hb dX8_addRule_8 (by decide) (fun c8 => ?_) (fun c8 => ?_)
  · have hf := cn_f c8 hf
    refine lv_aload_n hx hb dX8_addRule_15 rfl (lv_at hl 0 rfl) ?_
    obtain ⟨q16, hq16, hf⟩ := bnd_e hf
    refine gk0_i hS (gv_run (rest := [.ref (Γ.1 475)]) S hG hW hS [] (c_X8_isGlobNow l Γ C M hq16) pk_X8_isGlobNow ml_X8_92 (Nat.le_of_ble_eq_true rfl) rfl rfl rfl rfl ⟨Nat.le_of_ble_eq_true rfl, Nat.le_of_ble_eq_true rfl⟩ rfl hl.1 rfl (Nat.le_of_ble_eq_true rfl) dX8_addRule_16 ⟨Nat.le_of_ble_eq_true rfl, Nat.le_of_ble_eq_true rfl⟩) (fun H locs hW hS => ?_)
    refine lv_if_ne (tgt := 26) hx hb dX8_addRule_19 (by decide) (fun c19 => ?_) (fun c19 => ?_)
    · have hf := cn_f c19 hf
      refine lv_aload_n hx hb dX8_addRule_26 rfl (lv_at hl 0 rfl) ?_
      refine get_X8_14 S hG hW fl_X8_180 dX8_addRule_27 ?_
      refine lv_bipush (v := (12 : Int32)) hx hb dX8_addRule_30 (by decide) ?_
      refine lv_icmp_ne (tgt := 39) hx hb dX8_addRule_32 (by decide) (fun c32 => ?_) (fun c32 => ?_)
      · have hf := cn_f c32 hf
        refine lv_iconst (v := (0 : Int32)) hx hb dX8_addRule_39 (by decide) ?_
        exact J_40 (0 : Int32) hf H locs ls hW hS (lv_sub hl [0, 1] rfl)
      · have hf := cn_t c32 hf
        refine lv_iconst (v := (3 : Int32)) hx hb dX8_addRule_35 (by decide) ?_
        refine lv_goto (tgt := 40) hx hb dX8_addRule_36 (by decide) ?_
        exact J_40 (3 : Int32) hf H locs ls hW hS (lv_sub hl [0, 1] rfl)
    · have hf := cn_t c19 hf
      refine lv_iconst (v := (2 : Int32)) hx hb dX8_addRule_22 (by decide) ?_
      refine lv_goto (tgt := 40) hx hb dX8_addRule_23 (by decide) ?_
      exact J_40 (2 : Int32) hf H locs ls hW hS (lv_sub hl [0, 1] rfl)
  · have hf := cn_t c8 hf
    refine lv_iconst (v := (1 : Int32)) hx hb dX8_addRule_11 (by decide) ?_
    refine lv_goto (tgt := 40) hx hb dX8_addRule_12 (by decide) ?_
    exact J_40 (1 : Int32) hf H locs ls hW hS (lv_sub hl [0, 1] rfl)
noncomputable def fX8_ownerNow_34 (M : Mem) (a1 : Int32) (t_4 : (Int32 × Int32)) (s0_34 : Int32) : Option ((Int32 × Int32) ⊕ Int32) := some (.inl (s0_34, (t_4.2 + (1 : Int32))))
noncomputable def fX8_ownerNow_4 (M : Mem) (a1 : Int32) : (Int32 × Int32) → Option ((Int32 × Int32) ⊕ Int32) := fun t_4 => cnd ((M 475 14) ≤ t_4.2) (exR (some t_4.1)) (bnd (fX8_isMatched M ((64 : Int32) + t_4.2) a1) fun q18 => cnd (q18 = (0 : Int32)) (fX8_ownerNow_34 M a1 t_4 t_4.1) (chk (vp_in t_4.2 12) (fX8_ownerNow_34 M a1 t_4 (M 488 t_4.2.toNatClampNeg))))
noncomputable def fX8_ownerNow (M : Mem) (a1 : Int32) : Option Int32 := lp (fX8_ownerNow_4 M a1) ((-1 : Int32), (0 : Int32))
abbrev rm_X8_ownerNow : Room := { frames := 3, cells := 0, slots := 0, locals := 85 }
set_option maxRecDepth 100000 in
set_option maxHeartbeats 4000000 in
theorem c_X8_ownerNow (l : Launch) (Γ : gx_G) (C M : Mem) (a1 : Int32) {y0 : Int32} (hf : fX8_ownerNow M a1 = some y0) : Met l yX8_ownerNow (.code yX8_ownerNow cX8_ownerNow 4 (some .int) :: TsG) rm_X8_ownerNow (va_Pc [.ref (Γ.1 475), .int a1] (gx_P Γ C M)) (gx_Qi Γ y0 C M) 0 0 (gA Γ) := by
  refine gm_i (by decide) (Nat.le_of_ble_eq_true rfl) ?_
  intro p e s m args below meth c Q S hG hret ls H locs hl hW hS
  obtain ⟨hx, hb, hml, hown, hts⟩ := id S
  have hl : lv_has ls 4 [(0, .ref (Γ.1 475)), (1, .int a1)] := hl
  unfold fX8_ownerNow at hf
  refine lv_iconst (v := (-1 : Int32)) hx hb dX8_ownerNow_0 (by decide) ?_
  refine lv_istore_n (lv' := [(2, .int (-1 : Int32)), (0, .ref (Γ.1 475)), (1, .int a1)]) hx hb dX8_ownerNow_1 rfl hl (by decide) rfl (fun ls hl => ?_)
  refine lv_iconst (v := (0 : Int32)) hx hb dX8_ownerNow_2 (by decide) ?_
  refine lv_istore_n (lv' := [(3, .int (0 : Int32)), (2, .int (-1 : Int32)), (0, .ref (Γ.1 475)), (1, .int a1)]) hx hb dX8_ownerNow_3 rfl hl (by decide) rfl (fun ls hl => ?_)
  have J_4 : ∀  (t_4 : Int32 × Int32), lp (fX8_ownerNow_4 M a1) t_4 = some y0 → ∀ (H : Heap) (locs : List Loc) (ls : Array Slot), gx_W Γ C M H → va_S (gA Γ) s.heap H locs → lv_has ls 4 [(0, .ref (Γ.1 475)), (1, .int a1), (2, .int t_4.1), (3, .int t_4.2)] → W p l e rm_X8_ownerNow s m args below meth c H locs 0 0 Q (F0 m 4 ls []) := by
    refine lp_ind (P := fun (t_4 : Int32 × Int32) => ∀ (H : Heap) (locs : List Loc) (ls : Array Slot), gx_W Γ C M H → va_S (gA Γ) s.heap H locs → lv_has ls 4 [(0, .ref (Γ.1 475)), (1, .int a1), (2, .int t_4.1), (3, .int t_4.2)] → W p l e rm_X8_ownerNow s m args below meth c H locs 0 0 Q (F0 m 4 ls [])) ?_
    intro t_4 y1 hf kI1 kX1 H locs ls hW hS hl
    unfold fX8_ownerNow_4 at hf
    refine lv_iload_n hx hb dX8_ownerNow_4 rfl (lv_at hl 3 rfl) ?_
    refine lv_aload_n hx hb dX8_ownerNow_5 rfl (lv_at hl 0 rfl) ?_
    refine get_X8_14 S hG hW fl_X8_180 dX8_ownerNow_6 ?_
    refine lv_icmp_ge (tgt := 41) hx hb dX8_ownerNow_9 (by decide) (fun c9 => ?_) (fun c9 => ?_)
    · have hf := cn_t c9 hf
      obtain ⟨z9, hf, ez⟩ := exR_e hf
      rw [kX1 _ ez] at hf
      refine lv_iload_n hx hb dX8_ownerNow_41 rfl (lv_at hl 2 rfl) ?_
      exact hret _ _ _ _ _ hW hS rfl (Option.some.inj hf) dX8_ownerNow_42
    · have hf := cn_f c9 hf
      refine lv_aload_n hx hb dX8_ownerNow_12 rfl (lv_at hl 0 rfl) ?_
      refine lv_bipush (v := (64 : Int32)) hx hb dX8_ownerNow_13 (by decide) ?_
      refine lv_iload_n hx hb dX8_ownerNow_15 rfl (lv_at hl 3 rfl) ?_
      refine lv_iadd hx hb dX8_ownerNow_16 ?_
      refine lv_iload_n hx hb dX8_ownerNow_17 rfl (lv_at hl 1 rfl) ?_
      obtain ⟨q18, hq18, hf⟩ := bnd_e hf
      refine gk0_i hS (gv_run (rest := []) S hG hW hS [.int ((64 : Int32) + t_4.2), .int a1] (c_X8_isMatched l Γ C M ((64 : Int32) + t_4.2) a1 hq18) pk_X8_isMatched ml_X8_123 (Nat.le_of_ble_eq_true rfl) rfl rfl rfl rfl ⟨Nat.le_of_ble_eq_true rfl, Nat.le_of_ble_eq_true rfl⟩ rfl hl.1 rfl (Nat.le_of_ble_eq_true rfl) dX8_ownerNow_18 ⟨Nat.le_of_ble_eq_true rfl, Nat.le_of_ble_eq_true rfl⟩) (fun H locs hW hS => ?_)
      have J_34 : ∀ (s0_34 : Int32) , fX8_ownerNow_34 M a1 t_4 s0_34 = some y1 → ∀ (H : Heap) (locs : List Loc) (ls : Array Slot), gx_W Γ C M H → va_S (gA Γ) s.heap H locs → lv_has ls 4 [(0, .ref (Γ.1 475)), (1, .int a1), (3, .int t_4.2)] → W p l e rm_X8_ownerNow s m args below meth c H locs 0 0 Q (F0 m 34 ls [.int s0_34]) := by
        intro s0_34 hf H locs ls hW hS hl
        unfold fX8_ownerNow_34 at hf
        refine lv_istore_n (lv' := [(2, .int s0_34), (0, .ref (Γ.1 475)), (1, .int a1), (3, .int t_4.2)]) hx hb dX8_ownerNow_34 rfl hl (by decide) rfl (fun ls hl => ?_)
        refine lv_iinc (v := (t_4.2 + (1 : Int32))) (lv' := [(3, .int (t_4.2 + (1 : Int32))), (2, .int s0_34), (0, .ref (Γ.1 475)), (1, .int a1)]) hx hb dX8_ownerNow_35 hl (k := 3) rfl rfl (by decide) rfl (fun ls hl => ?_)
        refine lv_goto (tgt := 4) hx hb dX8_ownerNow_38 (by decide) ?_
        exact kI1 _ (Option.some.inj hf).symm H locs ls hW hS (lv_sub hl [2, 3, 1, 0] rfl)
      refine lv_if_eq (tgt := 33) hx hb dX8_ownerNow_21 (by decide) (fun c21 => ?_) (fun c21 => ?_)
      · have hf := cn_t c21 hf
        refine lv_iload_n hx hb dX8_ownerNow_33 rfl (lv_at hl 2 rfl) ?_
        exact J_34 t_4.1 hf H locs ls hW hS (lv_sub hl [0, 1, 3] rfl)
      · have hf := cn_f c21 hf
        refine lv_aload_n hx hb dX8_ownerNow_24 rfl (lv_at hl 0 rfl) ?_
        refine get_X8_15 S hG hW fl_X8_47 dX8_ownerNow_25 ?_
        refine lv_iload_n hx hb dX8_ownerNow_28 rfl (lv_at hl 3 rfl) ?_
        have g29 := ck_p hf
        have hf := ck_r hf
        refine ald_m S hG hW shk_488 lnk_488 g29 dX8_ownerNow_29 ?_
        refine lv_goto (tgt := 34) hx hb dX8_ownerNow_30 (by decide) ?_
        exact J_34 (M 488 t_4.2.toNatClampNeg) hf H locs ls hW hS (lv_sub hl [0, 1, 3] rfl)
  exact J_4 ((-1 : Int32), (0 : Int32)) hf H locs ls hW hS (lv_sub hl [2, 3, 1, 0] rfl)
noncomputable def fX8_ownerOf_20 (M : Mem) (a1 : Int32) (s0_20 : Int32) : Option (Int32 × Mem) := cnd (((mset M 475 26 s0_20) 475 26) ≤ (0 : Int32)) (bnd (fX8_ownerNow (mset M 475 26 s0_20) a1) fun q36 => some (q36, (mset M 475 26 s0_20))) (some ((0 : Int32), (mset M 475 26 s0_20)))
noncomputable def fX8_ownerOf (M : Mem) (a1 : Int32) : Option (Int32 × Mem) := cnd ((fX8_isIn a1 (0 : Int32) ((M 475 2) - (1 : Int32))) = (0 : Int32)) (fX8_ownerOf_20 M a1 (1 : Int32)) (fX8_ownerOf_20 M a1 (0 : Int32))
abbrev rm_X8_ownerOf : Room := { frames := 4, cells := 0, slots := 0, locals := 108 }
set_option maxRecDepth 100000 in
set_option maxHeartbeats 4000000 in
theorem c_X8_ownerOf (l : Launch) (Γ : gx_G) (C M : Mem) (a1 : Int32) {y0 : (Int32 × Mem)} (hf : fX8_ownerOf M a1 = some y0) : Met l yX8_ownerOf (.code yX8_ownerOf cX8_ownerOf 2 (some .int) :: TsG) rm_X8_ownerOf (va_Pc [.ref (Γ.1 475), .int a1] (gx_P Γ C M)) (gx_Qi Γ y0.1 C y0.2) 0 0 (gA Γ) := by
  refine gm_i (by decide) (Nat.le_of_ble_eq_true rfl) ?_
  intro p e s m args below meth c Q S hG hret ls H locs hl hW hS
  obtain ⟨hx, hb, hml, hown, hts⟩ := id S
  have hl : lv_has ls 2 [(0, .ref (Γ.1 475)), (1, .int a1)] := hl
  unfold fX8_ownerOf at hf
  refine lv_aload_n hx hb dX8_ownerOf_0 rfl (lv_at hl 0 rfl) ?_
  refine lv_iload_n hx hb dX8_ownerOf_1 rfl (lv_at hl 1 rfl) ?_
  refine lv_iconst (v := (0 : Int32)) hx hb dX8_ownerOf_2 (by decide) ?_
  refine lv_aload_n hx hb dX8_ownerOf_3 rfl (lv_at hl 0 rfl) ?_
  refine get_X8_2 S hG hW fl_X8_108 dX8_ownerOf_4 ?_
  refine lv_iconst (v := (1 : Int32)) hx hb dX8_ownerOf_7 (by decide) ?_
  refine lv_isub hx hb dX8_ownerOf_8 ?_
  refine gk0_i hS (gs_run (rest := [.ref (Γ.1 475)]) S hG hW hS [.int a1, .int (0 : Int32), .int ((M 475 2) - (1 : Int32))] (c_X8_isIn l Γ C M a1 (0 : Int32) ((M 475 2) - (1 : Int32))) pk_X8_isIn ml_X8_111 rfl rfl ⟨Nat.le_of_ble_eq_true rfl, Nat.le_of_ble_eq_true rfl⟩ rfl hl.1 rfl (Nat.le_of_ble_eq_true rfl) dX8_ownerOf_9 ⟨Nat.le_of_ble_eq_true rfl, Nat.le_of_ble_eq_true rfl⟩) (fun H locs hW hS => ?_)
  have J_20 : ∀ (s0_20 : Int32) , fX8_ownerOf_20 M a1 s0_20 = some y0 → ∀ (H : Heap) (locs : List Loc) (ls : Array Slot), gx_W Γ C M H → va_S (gA Γ) s.heap H locs → lv_has ls 2 [(0, .ref (Γ.1 475)), (1, .int a1)] → W p l e rm_X8_ownerOf s m args below meth c H locs 0 0 Q (F0 m 20 ls [.int s0_20, .ref (Γ.1 475)]) := by
    intro s0_20 hf H locs ls hW hS hl
    unfold fX8_ownerOf_20 at hf
    refine put_X8_26 S hG hW hS fl_X8_77 dX8_ownerOf_20 (fun H locs hW hS => ?_)
    refine lv_aload_n hx hb dX8_ownerOf_23 rfl (lv_at hl 0 rfl) ?_
    refine get_X8_26 S hG hW fl_X8_77 dX8_ownerOf_24 ?_
    refine lv_if_le (tgt := 34) hx hb dX8_ownerOf_27 (by decide) (fun c27 => ?_) (fun c27 => ?_)
    · have hf := cn_t c27 hf
      refine lv_aload_n hx hb dX8_ownerOf_34 rfl (lv_at hl 0 rfl) ?_
      refine lv_iload_n hx hb dX8_ownerOf_35 rfl (lv_at hl 1 rfl) ?_
      obtain ⟨q36, hq36, hf⟩ := bnd_e hf
      refine gk0_i hS (gv_run (rest := []) S hG hW hS [.int a1] (c_X8_ownerNow l Γ C (mset M 475 26 s0_20) a1 hq36) pk_X8_ownerNow ml_X8_183 (Nat.le_of_ble_eq_true rfl) rfl rfl rfl rfl ⟨Nat.le_of_ble_eq_true rfl, Nat.le_of_ble_eq_true rfl⟩ rfl hl.1 rfl (Nat.le_of_ble_eq_true rfl) dX8_ownerOf_36 ⟨Nat.le_of_ble_eq_true rfl, Nat.le_of_ble_eq_true rfl⟩) (fun H locs hW hS => ?_)
      have e9 := Option.some.inj hf
      subst e9
      exact hret _ _ _ _ _ hW hS rfl rfl dX8_ownerOf_39
    · have hf := cn_f c27 hf
      refine lv_iconst (v := (0 : Int32)) hx hb dX8_ownerOf_30 (by decide) ?_
      refine lv_goto (tgt := 39) hx hb dX8_ownerOf_31 (by decide) ?_
      have e9 := Option.some.inj hf
      subst e9
      exact hret _ _ _ _ _ hW hS rfl rfl dX8_ownerOf_39
  refine lv_if_eq (tgt := 19) hx hb dX8_ownerOf_12 (by decide) (fun c12 => ?_) (fun c12 => ?_)
  · have hf := cn_t c12 hf
    refine lv_iconst (v := (1 : Int32)) hx hb dX8_ownerOf_19 (by decide) ?_
    exact J_20 (1 : Int32) hf H locs ls hW hS (lv_sub hl [0, 1] rfl)
  · have hf := cn_f c12 hf
    refine lv_iconst (v := (0 : Int32)) hx hb dX8_ownerOf_15 (by decide) ?_
    refine lv_goto (tgt := 20) hx hb dX8_ownerOf_16 (by decide) ?_
    exact J_20 (0 : Int32) hf H locs ls hW hS (lv_sub hl [0, 1] rfl)
noncomputable def fX8_mark_56 (t_9 : (Mem × Int32 × Int32)) (C_56 : Mem) (s0_56 : Int32) (s1_56 : Int32) : Option ((Mem × Int32 × Int32) ⊕ (Int32 × Mem)) := nmv ((s1_56 + s0_56)) fun v57 => some (.inl (C_56, v57, (t_9.2.2 + (1 : Int32))))
noncomputable def fX8_mark_9  : (Mem × Int32 × Int32) → Option ((Mem × Int32 × Int32) ⊕ (Int32 × Mem)) := fun t_9 => cnd ((t_9.1 475 2) ≤ t_9.2.2) (exR (some (t_9.2.1, t_9.1))) (chk (vp_in t_9.2.2 24) (chk (vp_in t_9.2.2 24) (chk (vp_in t_9.2.2 24) (chk (vp_in t_9.2.2 24) (chk (vp_in t_9.2.2 24) (cnd (((mset (mset t_9.1 482 t_9.2.2.toNatClampNeg (vp_nar .boolean (t_9.1 480 t_9.2.2.toNatClampNeg))) 483 t_9.2.2.toNatClampNeg ((mset t_9.1 482 t_9.2.2.toNatClampNeg (vp_nar .boolean (t_9.1 480 t_9.2.2.toNatClampNeg))) 481 t_9.2.2.toNatClampNeg)) 480 t_9.2.2.toNatClampNeg) = (0 : Int32)) (fX8_mark_56 t_9 (mset (mset t_9.1 482 t_9.2.2.toNatClampNeg (vp_nar .boolean (t_9.1 480 t_9.2.2.toNatClampNeg))) 483 t_9.2.2.toNatClampNeg ((mset t_9.1 482 t_9.2.2.toNatClampNeg (vp_nar .boolean (t_9.1 480 t_9.2.2.toNatClampNeg))) 481 t_9.2.2.toNatClampNeg)) (0 : Int32) t_9.2.1) (fX8_mark_56 t_9 (mset (mset t_9.1 482 t_9.2.2.toNatClampNeg (vp_nar .boolean (t_9.1 480 t_9.2.2.toNatClampNeg))) 483 t_9.2.2.toNatClampNeg ((mset t_9.1 482 t_9.2.2.toNatClampNeg (vp_nar .boolean (t_9.1 480 t_9.2.2.toNatClampNeg))) 481 t_9.2.2.toNatClampNeg)) (1 : Int32) t_9.2.1)))))))
noncomputable def fX8_mark (M : Mem) : Option (Int32 × Mem) := lp (fX8_mark_9) ((mset M 475 26 (0 : Int32)), (0 : Int32), (0 : Int32))
abbrev rm_X8_mark : Room := { frames := 0, cells := 0, slots := 0, locals := 0 }
set_option maxRecDepth 100000 in
set_option maxHeartbeats 4000000 in
theorem c_X8_mark (l : Launch) (Γ : gx_G) (C M : Mem)  {y0 : (Int32 × Mem)} (hf : fX8_mark M = some y0) : Met l yX8_mark (.code yX8_mark cX8_mark 3 (some .int) :: TsG) rm_X8_mark (va_Pc [.ref (Γ.1 475)] (gx_P Γ C M)) (gx_Qi Γ y0.1 C y0.2) 0 0 (gA Γ) := by
  refine gm_i (by decide) (Nat.le_of_ble_eq_true rfl) ?_
  intro p e s m args below meth c Q S hG hret ls H locs hl hW hS
  obtain ⟨hx, hb, hml, hown, hts⟩ := id S
  have hl : lv_has ls 3 [(0, .ref (Γ.1 475))] := hl
  unfold fX8_mark at hf
  refine lv_aload_n hx hb dX8_mark_0 rfl (lv_at hl 0 rfl) ?_
  refine lv_iconst (v := (0 : Int32)) hx hb dX8_mark_1 (by decide) ?_
  refine put_X8_26 S hG hW hS fl_X8_77 dX8_mark_2 (fun H locs hW hS => ?_)
  refine lv_iconst (v := (0 : Int32)) hx hb dX8_mark_5 (by decide) ?_
  refine lv_istore_n (lv' := [(1, .int (0 : Int32)), (0, .ref (Γ.1 475))]) hx hb dX8_mark_6 rfl hl (by decide) rfl (fun ls hl => ?_)
  refine lv_iconst (v := (0 : Int32)) hx hb dX8_mark_7 (by decide) ?_
  refine lv_istore_n (lv' := [(2, .int (0 : Int32)), (1, .int (0 : Int32)), (0, .ref (Γ.1 475))]) hx hb dX8_mark_8 rfl hl (by decide) rfl (fun ls hl => ?_)
  have J_9 : ∀  (t_9 : Mem × Int32 × Int32), lp (fX8_mark_9) t_9 = some y0 → ∀ (H : Heap) (locs : List Loc) (ls : Array Slot), gx_W Γ C t_9.1 H → va_S (gA Γ) s.heap H locs → lv_has ls 3 [(0, .ref (Γ.1 475)), (1, .int t_9.2.1), (2, .int t_9.2.2)] → W p l e rm_X8_mark s m args below meth c H locs 0 0 Q (F0 m 9 ls []) := by
    refine lp_ind (P := fun (t_9 : Mem × Int32 × Int32) => ∀ (H : Heap) (locs : List Loc) (ls : Array Slot), gx_W Γ C t_9.1 H → va_S (gA Γ) s.heap H locs → lv_has ls 3 [(0, .ref (Γ.1 475)), (1, .int t_9.2.1), (2, .int t_9.2.2)] → W p l e rm_X8_mark s m args below meth c H locs 0 0 Q (F0 m 9 ls [])) ?_
    intro t_9 y1 hf kI1 kX1 H locs ls hW hS hl
    unfold fX8_mark_9 at hf
    refine lv_iload_n hx hb dX8_mark_9 rfl (lv_at hl 2 rfl) ?_
    refine lv_aload_n hx hb dX8_mark_10 rfl (lv_at hl 0 rfl) ?_
    refine get_X8_2 S hG hW fl_X8_108 dX8_mark_11 ?_
    refine lv_icmp_ge (tgt := 64) hx hb dX8_mark_14 (by decide) (fun c14 => ?_) (fun c14 => ?_)
    · have hf := cn_t c14 hf
      obtain ⟨z14, hf, ez⟩ := exR_e hf
      rw [kX1 _ ez] at hf
      refine lv_iload_n hx hb dX8_mark_64 rfl (lv_at hl 1 rfl) ?_
      have e9 := Option.some.inj hf
      subst e9
      exact hret _ _ _ _ _ hW hS rfl rfl dX8_mark_65
    · have hf := cn_f c14 hf
      refine lv_aload_n hx hb dX8_mark_17 rfl (lv_at hl 0 rfl) ?_
      refine get_X8_7 S hG hW fl_X8_29 dX8_mark_18 ?_
      refine lv_iload_n hx hb dX8_mark_21 rfl (lv_at hl 2 rfl) ?_
      refine lv_aload_n hx hb dX8_mark_22 rfl (lv_at hl 0 rfl) ?_
      refine get_X8_5 S hG hW fl_X8_22 dX8_mark_23 ?_
      refine lv_iload_n hx hb dX8_mark_26 rfl (lv_at hl 2 rfl) ?_
      have g27 := ck_p hf
      have hf := ck_r hf
      refine ald_z S hG hW shk_480 lnk_480 g27 dX8_mark_27 ?_
      have g28 := ck_p hf
      have hf := ck_r hf
      refine ast_z S hG hW hS shk_482 lnk_482 g28 dX8_mark_28 (fun H locs hW hS => ?_)
      refine lv_aload_n hx hb dX8_mark_29 rfl (lv_at hl 0 rfl) ?_
      refine get_X8_8 S hG hW fl_X8_32 dX8_mark_30 ?_
      refine lv_iload_n hx hb dX8_mark_33 rfl (lv_at hl 2 rfl) ?_
      refine lv_aload_n hx hb dX8_mark_34 rfl (lv_at hl 0 rfl) ?_
      refine get_X8_6 S hG hW fl_X8_26 dX8_mark_35 ?_
      refine lv_iload_n hx hb dX8_mark_38 rfl (lv_at hl 2 rfl) ?_
      have g39 := ck_p hf
      have hf := ck_r hf
      refine ald_m S hG hW shk_481 lnk_481 g39 dX8_mark_39 ?_
      have g40 := ck_p hf
      have hf := ck_r hf
      refine ast_m S hG hW hS shk_483 lnk_483 g40 dX8_mark_40 (fun H locs hW hS => ?_)
      refine lv_iload_n hx hb dX8_mark_41 rfl (lv_at hl 1 rfl) ?_
      refine lv_aload_n hx hb dX8_mark_42 rfl (lv_at hl 0 rfl) ?_
      refine get_X8_5 S hG hW fl_X8_22 dX8_mark_43 ?_
      refine lv_iload_n hx hb dX8_mark_46 rfl (lv_at hl 2 rfl) ?_
      have g47 := ck_p hf
      have hf := ck_r hf
      refine ald_z S hG hW shk_480 lnk_480 g47 dX8_mark_47 ?_
      have J_56 : ∀ (C_56 : Mem) (s0_56 : Int32) (s1_56 : Int32) , fX8_mark_56 t_9 C_56 s0_56 s1_56 = some y1 → ∀ (H : Heap) (locs : List Loc) (ls : Array Slot), gx_W Γ C C_56 H → va_S (gA Γ) s.heap H locs → lv_has ls 3 [(0, .ref (Γ.1 475)), (2, .int t_9.2.2)] → W p l e rm_X8_mark s m args below meth c H locs 0 0 Q (F0 m 56 ls [.int s0_56, .int s1_56]) := by
        intro C_56 s0_56 s1_56 hf H locs ls hW hS hl
        unfold fX8_mark_56 at hf
        refine lv_iadd hx hb dX8_mark_56 ?_
        refine lv_topi (fun v57 ev57 => ?_)
        have hf := nm_v ev57 hf
        refine lv_istore_n (lv' := [(1, .int v57), (0, .ref (Γ.1 475)), (2, .int t_9.2.2)]) hx hb dX8_mark_57 rfl hl (by decide) rfl (fun ls hl => ?_)
        refine lv_iinc (v := (t_9.2.2 + (1 : Int32))) (lv' := [(2, .int (t_9.2.2 + (1 : Int32))), (1, .int v57), (0, .ref (Γ.1 475))]) hx hb dX8_mark_58 hl (k := 2) rfl rfl (by decide) rfl (fun ls hl => ?_)
        refine lv_goto (tgt := 9) hx hb dX8_mark_61 (by decide) ?_
        exact kI1 _ (Option.some.inj hf).symm H locs ls hW hS (lv_sub hl [2, 1, 0] rfl)
      refine lv_if_eq (tgt := 55) hx hb dX8_mark_48 (by decide) (fun c48 => ?_) (fun c48 => ?_)
      · have hf := cn_t c48 hf
        refine lv_iconst (v := (0 : Int32)) hx hb dX8_mark_55 (by decide) ?_
        exact J_56 (mset (mset t_9.1 482 t_9.2.2.toNatClampNeg (vp_nar .boolean (t_9.1 480 t_9.2.2.toNatClampNeg))) 483 t_9.2.2.toNatClampNeg ((mset t_9.1 482 t_9.2.2.toNatClampNeg (vp_nar .boolean (t_9.1 480 t_9.2.2.toNatClampNeg))) 481 t_9.2.2.toNatClampNeg)) (0 : Int32) t_9.2.1 hf H locs ls hW hS (lv_sub hl [0, 2] rfl)
      · have hf := cn_f c48 hf
        refine lv_iconst (v := (1 : Int32)) hx hb dX8_mark_51 (by decide) ?_
        refine lv_goto (tgt := 56) hx hb dX8_mark_52 (by decide) ?_
        exact J_56 (mset (mset t_9.1 482 t_9.2.2.toNatClampNeg (vp_nar .boolean (t_9.1 480 t_9.2.2.toNatClampNeg))) 483 t_9.2.2.toNatClampNeg ((mset t_9.1 482 t_9.2.2.toNatClampNeg (vp_nar .boolean (t_9.1 480 t_9.2.2.toNatClampNeg))) 481 t_9.2.2.toNatClampNeg)) (1 : Int32) t_9.2.1 hf H locs ls hW hS (lv_sub hl [0, 2] rfl)
  exact J_9 ((mset M 475 26 (0 : Int32)), (0 : Int32), (0 : Int32)) hf H locs ls hW hS (lv_sub hl [2, 1, 0] rfl)
noncomputable def fX8_isChanged_43 (M : Mem) : Option Int32 := some (0 : Int32)
noncomputable def fX8_isChanged_39 (M : Mem) : Option Int32 := some (1 : Int32)
noncomputable def fX8_isChanged (M : Mem) (a1 : Int32) : Option Int32 := chk (vp_in a1 24) (chk (vp_in a1 24) (cnd ((M 480 a1.toNatClampNeg) = (M 482 a1.toNatClampNeg)) (chk (vp_in a1 24) (cnd ((M 480 a1.toNatClampNeg) = (0 : Int32)) (fX8_isChanged_43 M) (chk (vp_in a1 24) (chk (vp_in a1 24) (cnd ((M 481 a1.toNatClampNeg) = (M 483 a1.toNatClampNeg)) (fX8_isChanged_43 M) (fX8_isChanged_39 M)))))) (fX8_isChanged_39 M)))
abbrev rm_X8_isChanged : Room := { frames := 0, cells := 0, slots := 0, locals := 0 }
set_option maxRecDepth 100000 in
set_option maxHeartbeats 4000000 in
theorem c_X8_isChanged (l : Launch) (Γ : gx_G) (C M : Mem) (a1 : Int32) {y0 : Int32} (hf : fX8_isChanged M a1 = some y0) : Met l yX8_isChanged (.code yX8_isChanged cX8_isChanged 2 (some .boolean) :: TsG) rm_X8_isChanged (va_Pc [.ref (Γ.1 475), .int a1] (gx_P Γ C M)) (gx_Qi Γ y0 C M) 0 0 (gA Γ) := by
  refine gm_i (by decide) (Nat.le_of_ble_eq_true rfl) ?_
  intro p e s m args below meth c Q S hG hret ls H locs hl hW hS
  obtain ⟨hx, hb, hml, hown, hts⟩ := id S
  have hl : lv_has ls 2 [(0, .ref (Γ.1 475)), (1, .int a1)] := hl
  unfold fX8_isChanged at hf
  refine lv_aload_n hx hb dX8_isChanged_0 rfl (lv_at hl 0 rfl) ?_
  refine get_X8_5 S hG hW fl_X8_22 dX8_isChanged_1 ?_
  refine lv_iload_n hx hb dX8_isChanged_4 rfl (lv_at hl 1 rfl) ?_
  have g5 := ck_p hf
  have hf := ck_r hf
  refine ald_z S hG hW shk_480 lnk_480 g5 dX8_isChanged_5 ?_
  refine lv_aload_n hx hb dX8_isChanged_6 rfl (lv_at hl 0 rfl) ?_
  refine get_X8_7 S hG hW fl_X8_29 dX8_isChanged_7 ?_
  refine lv_iload_n hx hb dX8_isChanged_10 rfl (lv_at hl 1 rfl) ?_
  have g11 := ck_p hf
  have hf := ck_r hf
  refine ald_z S hG hW shk_482 lnk_482 g11 dX8_isChanged_11 ?_
  have J_39 : fX8_isChanged_39 M = some y0 → ∀ (H : Heap) (locs : List Loc) (ls : Array Slot), gx_W Γ C M H → va_S (gA Γ) s.heap H locs → lv_has ls 2 [] → W p l e rm_X8_isChanged s m args below meth c H locs 0 0 Q (F0 m 39 ls []) := by
    intro  hf H locs ls hW hS hl
    unfold fX8_isChanged_39 at hf
    refine lv_iconst (v := (1 : Int32)) hx hb dX8_isChanged_39 (by decide) ?_
    refine lv_goto (tgt := 44) hx hb dX8_isChanged_40 (by decide) ?_
    exact hret _ _ _ _ _ hW hS rfl (Option.some.inj hf) dX8_isChanged_44
  refine lv_icmp_ne (tgt := 39) hx hb dX8_isChanged_12 (by decide) (fun c12 => ?_) (fun c12 => ?_)
  · have hf := cn_f c12 hf
    exact J_39  hf H locs ls hW hS (lv_sub hl [] rfl)
  · have hf := cn_t c12 hf
    refine lv_aload_n hx hb dX8_isChanged_15 rfl (lv_at hl 0 rfl) ?_
    refine get_X8_5 S hG hW fl_X8_22 dX8_isChanged_16 ?_
    refine lv_iload_n hx hb dX8_isChanged_19 rfl (lv_at hl 1 rfl) ?_
    have g20 := ck_p hf
    have hf := ck_r hf
    refine ald_z S hG hW shk_480 lnk_480 g20 dX8_isChanged_20 ?_
    have J_43 : fX8_isChanged_43 M = some y0 → ∀ (H : Heap) (locs : List Loc) (ls : Array Slot), gx_W Γ C M H → va_S (gA Γ) s.heap H locs → lv_has ls 2 [] → W p l e rm_X8_isChanged s m args below meth c H locs 0 0 Q (F0 m 43 ls []) := by
      intro  hf H locs ls hW hS hl
      unfold fX8_isChanged_43 at hf
      refine lv_iconst (v := (0 : Int32)) hx hb dX8_isChanged_43 (by decide) ?_
      exact hret _ _ _ _ _ hW hS rfl (Option.some.inj hf) dX8_isChanged_44
    refine lv_if_eq (tgt := 43) hx hb dX8_isChanged_21 (by decide) (fun c21 => ?_) (fun c21 => ?_)
    · have hf := cn_t c21 hf
      exact J_43  hf H locs ls hW hS (lv_sub hl [] rfl)
    · have hf := cn_f c21 hf
      refine lv_aload_n hx hb dX8_isChanged_24 rfl (lv_at hl 0 rfl) ?_
      refine get_X8_6 S hG hW fl_X8_26 dX8_isChanged_25 ?_
      refine lv_iload_n hx hb dX8_isChanged_28 rfl (lv_at hl 1 rfl) ?_
      have g29 := ck_p hf
      have hf := ck_r hf
      refine ald_m S hG hW shk_481 lnk_481 g29 dX8_isChanged_29 ?_
      refine lv_aload_n hx hb dX8_isChanged_30 rfl (lv_at hl 0 rfl) ?_
      refine get_X8_8 S hG hW fl_X8_32 dX8_isChanged_31 ?_
      refine lv_iload_n hx hb dX8_isChanged_34 rfl (lv_at hl 1 rfl) ?_
      have g35 := ck_p hf
      have hf := ck_r hf
      refine ald_m S hG hW shk_483 lnk_483 g35 dX8_isChanged_35 ?_
      refine lv_icmp_eq (tgt := 43) hx hb dX8_isChanged_36 (by decide) (fun c36 => ?_) (fun c36 => ?_)
      · have hf := cn_t c36 hf
        exact J_43  hf H locs ls hW hS (lv_sub hl [] rfl)
      · have hf := cn_f c36 hf
        exact J_39  hf H locs ls hW hS (lv_sub hl [] rfl)
noncomputable def fX8_changed_33 (C_9 : Mem) (t_9 : (Int32 × Int32)) (s0_33 : Int32) (s1_33 : Int32) : Option ((Int32 × Int32) ⊕ (Int32 × Mem)) := nmv ((s1_33 ||| s0_33)) fun v34 => some (.inl (v34, (t_9.2 + (1 : Int32))))
noncomputable def fX8_changed_9 (C_9 : Mem) : (Int32 × Int32) → Option ((Int32 × Int32) ⊕ (Int32 × Mem)) := fun t_9 => cnd ((C_9 475 2) ≤ t_9.2) (exR (some (t_9.1, C_9))) (bnd (fX8_isChanged C_9 t_9.2) fun q20 => cnd (q20 = (0 : Int32)) (fX8_changed_33 C_9 t_9 (0 : Int32) t_9.1) (fX8_changed_33 C_9 t_9 ((1 : Int32) <<< (t_9.2 &&& 31)) t_9.1))
noncomputable def fX8_changed (M : Mem) : Option (Int32 × Mem) := lp (fX8_changed_9 (mset M 475 26 (0 : Int32))) ((0 : Int32), (0 : Int32))
abbrev rm_X8_changed : Room := { frames := 1, cells := 0, slots := 0, locals := 21 }
set_option maxRecDepth 100000 in
set_option maxHeartbeats 4000000 in
theorem c_X8_changed (l : Launch) (Γ : gx_G) (C M : Mem)  {y0 : (Int32 × Mem)} (hf : fX8_changed M = some y0) : Met l yX8_changed (.code yX8_changed cX8_changed 3 (some .int) :: TsG) rm_X8_changed (va_Pc [.ref (Γ.1 475)] (gx_P Γ C M)) (gx_Qi Γ y0.1 C y0.2) 0 0 (gA Γ) := by
  refine gm_i (by decide) (Nat.le_of_ble_eq_true rfl) ?_
  intro p e s m args below meth c Q S hG hret ls H locs hl hW hS
  obtain ⟨hx, hb, hml, hown, hts⟩ := id S
  have hl : lv_has ls 3 [(0, .ref (Γ.1 475))] := hl
  unfold fX8_changed at hf
  refine lv_aload_n hx hb dX8_changed_0 rfl (lv_at hl 0 rfl) ?_
  refine lv_iconst (v := (0 : Int32)) hx hb dX8_changed_1 (by decide) ?_
  refine put_X8_26 S hG hW hS fl_X8_77 dX8_changed_2 (fun H locs hW hS => ?_)
  refine lv_iconst (v := (0 : Int32)) hx hb dX8_changed_5 (by decide) ?_
  refine lv_istore_n (lv' := [(1, .int (0 : Int32)), (0, .ref (Γ.1 475))]) hx hb dX8_changed_6 rfl hl (by decide) rfl (fun ls hl => ?_)
  refine lv_iconst (v := (0 : Int32)) hx hb dX8_changed_7 (by decide) ?_
  refine lv_istore_n (lv' := [(2, .int (0 : Int32)), (1, .int (0 : Int32)), (0, .ref (Γ.1 475))]) hx hb dX8_changed_8 rfl hl (by decide) rfl (fun ls hl => ?_)
  have J_9 : ∀ (C_9 : Mem) (t_9 : Int32 × Int32), lp (fX8_changed_9 C_9) t_9 = some y0 → ∀ (H : Heap) (locs : List Loc) (ls : Array Slot), gx_W Γ C C_9 H → va_S (gA Γ) s.heap H locs → lv_has ls 3 [(0, .ref (Γ.1 475)), (1, .int t_9.1), (2, .int t_9.2)] → W p l e rm_X8_changed s m args below meth c H locs 0 0 Q (F0 m 9 ls []) := by
    intro C_9
    refine lp_ind (P := fun (t_9 : Int32 × Int32) => ∀ (H : Heap) (locs : List Loc) (ls : Array Slot), gx_W Γ C C_9 H → va_S (gA Γ) s.heap H locs → lv_has ls 3 [(0, .ref (Γ.1 475)), (1, .int t_9.1), (2, .int t_9.2)] → W p l e rm_X8_changed s m args below meth c H locs 0 0 Q (F0 m 9 ls [])) ?_
    intro t_9 y1 hf kI1 kX1 H locs ls hW hS hl
    unfold fX8_changed_9 at hf
    refine lv_iload_n hx hb dX8_changed_9 rfl (lv_at hl 2 rfl) ?_
    refine lv_aload_n hx hb dX8_changed_10 rfl (lv_at hl 0 rfl) ?_
    refine get_X8_2 S hG hW fl_X8_108 dX8_changed_11 ?_
    refine lv_icmp_ge (tgt := 41) hx hb dX8_changed_14 (by decide) (fun c14 => ?_) (fun c14 => ?_)
    · have hf := cn_t c14 hf
      obtain ⟨z14, hf, ez⟩ := exR_e hf
      rw [kX1 _ ez] at hf
      refine lv_iload_n hx hb dX8_changed_41 rfl (lv_at hl 1 rfl) ?_
      have e9 := Option.some.inj hf
      subst e9
      exact hret _ _ _ _ _ hW hS rfl rfl dX8_changed_42
    · have hf := cn_f c14 hf
      refine lv_iload_n hx hb dX8_changed_17 rfl (lv_at hl 1 rfl) ?_
      refine lv_aload_n hx hb dX8_changed_18 rfl (lv_at hl 0 rfl) ?_
      refine lv_iload_n hx hb dX8_changed_19 rfl (lv_at hl 2 rfl) ?_
      obtain ⟨q20, hq20, hf⟩ := bnd_e hf
      refine gk0_i hS (gv_run (rest := [.int t_9.1]) S hG hW hS [.int t_9.2] (c_X8_isChanged l Γ C C_9 t_9.2 hq20) pk_X8_isChanged ml_X8_186 (Nat.le_of_ble_eq_true rfl) rfl rfl rfl rfl ⟨Nat.le_of_ble_eq_true rfl, Nat.le_of_ble_eq_true rfl⟩ rfl hl.1 rfl (Nat.le_of_ble_eq_true rfl) dX8_changed_20 ⟨Nat.le_of_ble_eq_true rfl, Nat.le_of_ble_eq_true rfl⟩) (fun H locs hW hS => ?_)
      have J_33 : ∀ (s0_33 : Int32) (s1_33 : Int32) , fX8_changed_33 C_9 t_9 s0_33 s1_33 = some y1 → ∀ (H : Heap) (locs : List Loc) (ls : Array Slot), gx_W Γ C C_9 H → va_S (gA Γ) s.heap H locs → lv_has ls 3 [(0, .ref (Γ.1 475)), (2, .int t_9.2)] → W p l e rm_X8_changed s m args below meth c H locs 0 0 Q (F0 m 33 ls [.int s0_33, .int s1_33]) := by
        intro s0_33 s1_33 hf H locs ls hW hS hl
        unfold fX8_changed_33 at hf
        refine lv_ior hx hb dX8_changed_33 ?_
        refine lv_topi (fun v34 ev34 => ?_)
        have hf := nm_v ev34 hf
        refine lv_istore_n (lv' := [(1, .int v34), (0, .ref (Γ.1 475)), (2, .int t_9.2)]) hx hb dX8_changed_34 rfl hl (by decide) rfl (fun ls hl => ?_)
        refine lv_iinc (v := (t_9.2 + (1 : Int32))) (lv' := [(2, .int (t_9.2 + (1 : Int32))), (1, .int v34), (0, .ref (Γ.1 475))]) hx hb dX8_changed_35 hl (k := 2) rfl rfl (by decide) rfl (fun ls hl => ?_)
        refine lv_goto (tgt := 9) hx hb dX8_changed_38 (by decide) ?_
        exact kI1 _ (Option.some.inj hf).symm H locs ls hW hS (lv_sub hl [2, 1, 0] rfl)
      refine lv_if_eq (tgt := 32) hx hb dX8_changed_23 (by decide) (fun c23 => ?_) (fun c23 => ?_)
      · have hf := cn_t c23 hf
        refine lv_iconst (v := (0 : Int32)) hx hb dX8_changed_32 (by decide) ?_
        exact J_33 (0 : Int32) t_9.1 hf H locs ls hW hS (lv_sub hl [0, 2] rfl)
      · have hf := cn_f c23 hf
        refine lv_iconst (v := (1 : Int32)) hx hb dX8_changed_26 (by decide) ?_
        refine lv_iload_n hx hb dX8_changed_27 rfl (lv_at hl 2 rfl) ?_
        refine lv_ishl hx hb dX8_changed_28 ?_
        refine lv_goto (tgt := 33) hx hb dX8_changed_29 (by decide) ?_
        exact J_33 ((1 : Int32) <<< (t_9.2 &&& 31)) t_9.1 hf H locs ls hW hS (lv_sub hl [0, 2] rfl)
  exact J_9 (mset M 475 26 (0 : Int32)) ((0 : Int32), (0 : Int32)) hf H locs ls hW hS (lv_sub hl [2, 1, 0] rfl)
noncomputable def fX8_reviewers_47 (C_9 : Mem) (t_9 : (Int32 × Int32)) (s0_47 : Int32) (s1_47 : Int32) : Option ((Int32 × Int32) ⊕ (Int32 × Mem)) := nmv ((s1_47 ||| s0_47)) fun v48 => some (.inl (v48, (t_9.2 + (1 : Int32))))
noncomputable def fX8_reviewers_34 (C_9 : Mem) (t_9 : (Int32 × Int32)) (s0_34 : Int32) : Option ((Int32 × Int32) ⊕ (Int32 × Mem)) := cnd (s0_34 < (0 : Int32)) (fX8_reviewers_47 C_9 t_9 (0 : Int32) t_9.1) (fX8_reviewers_47 C_9 t_9 ((1 : Int32) <<< (s0_34 &&& 31)) t_9.1)
noncomputable def fX8_reviewers_9 (C_9 : Mem) : (Int32 × Int32) → Option ((Int32 × Int32) ⊕ (Int32 × Mem)) := fun t_9 => cnd ((C_9 475 2) ≤ t_9.2) (exR (some (t_9.1, C_9))) (bnd (fX8_isChanged C_9 t_9.2) fun q19 => cnd (q19 = (0 : Int32)) (fX8_reviewers_34 C_9 t_9 (-1 : Int32)) (bnd (fX8_ownerNow C_9 t_9.2) fun q27 => fX8_reviewers_34 C_9 t_9 q27))
noncomputable def fX8_reviewers (M : Mem) : Option (Int32 × Mem) := lp (fX8_reviewers_9 (mset M 475 26 (0 : Int32))) ((0 : Int32), (0 : Int32))
abbrev rm_X8_reviewers : Room := { frames := 4, cells := 0, slots := 0, locals := 108 }
set_option maxRecDepth 100000 in
set_option maxHeartbeats 4000000 in
theorem c_X8_reviewers (l : Launch) (Γ : gx_G) (C M : Mem)  {y0 : (Int32 × Mem)} (hf : fX8_reviewers M = some y0) : Met l yX8_reviewers (.code yX8_reviewers cX8_reviewers 4 (some .int) :: TsG) rm_X8_reviewers (va_Pc [.ref (Γ.1 475)] (gx_P Γ C M)) (gx_Qi Γ y0.1 C y0.2) 0 0 (gA Γ) := by
  refine gm_i (by decide) (Nat.le_of_ble_eq_true rfl) ?_
  intro p e s m args below meth c Q S hG hret ls H locs hl hW hS
  obtain ⟨hx, hb, hml, hown, hts⟩ := id S
  have hl : lv_has ls 4 [(0, .ref (Γ.1 475))] := hl
  unfold fX8_reviewers at hf
  refine lv_aload_n hx hb dX8_reviewers_0 rfl (lv_at hl 0 rfl) ?_
  refine lv_iconst (v := (0 : Int32)) hx hb dX8_reviewers_1 (by decide) ?_
  refine put_X8_26 S hG hW hS fl_X8_77 dX8_reviewers_2 (fun H locs hW hS => ?_)
  refine lv_iconst (v := (0 : Int32)) hx hb dX8_reviewers_5 (by decide) ?_
  refine lv_istore_n (lv' := [(1, .int (0 : Int32)), (0, .ref (Γ.1 475))]) hx hb dX8_reviewers_6 rfl hl (by decide) rfl (fun ls hl => ?_)
  refine lv_iconst (v := (0 : Int32)) hx hb dX8_reviewers_7 (by decide) ?_
  refine lv_istore_n (lv' := [(2, .int (0 : Int32)), (1, .int (0 : Int32)), (0, .ref (Γ.1 475))]) hx hb dX8_reviewers_8 rfl hl (by decide) rfl (fun ls hl => ?_)
  have J_9 : ∀ (C_9 : Mem) (t_9 : Int32 × Int32), lp (fX8_reviewers_9 C_9) t_9 = some y0 → ∀ (H : Heap) (locs : List Loc) (ls : Array Slot), gx_W Γ C C_9 H → va_S (gA Γ) s.heap H locs → lv_has ls 4 [(0, .ref (Γ.1 475)), (1, .int t_9.1), (2, .int t_9.2)] → W p l e rm_X8_reviewers s m args below meth c H locs 0 0 Q (F0 m 9 ls []) := by
    intro C_9
    refine lp_ind (P := fun (t_9 : Int32 × Int32) => ∀ (H : Heap) (locs : List Loc) (ls : Array Slot), gx_W Γ C C_9 H → va_S (gA Γ) s.heap H locs → lv_has ls 4 [(0, .ref (Γ.1 475)), (1, .int t_9.1), (2, .int t_9.2)] → W p l e rm_X8_reviewers s m args below meth c H locs 0 0 Q (F0 m 9 ls [])) ?_
    intro t_9 y1 hf kI1 kX1 H locs ls hW hS hl
    unfold fX8_reviewers_9 at hf
    refine lv_iload_n hx hb dX8_reviewers_9 rfl (lv_at hl 2 rfl) ?_
    refine lv_aload_n hx hb dX8_reviewers_10 rfl (lv_at hl 0 rfl) ?_
    refine get_X8_2 S hG hW fl_X8_108 dX8_reviewers_11 ?_
    refine lv_icmp_ge (tgt := 55) hx hb dX8_reviewers_14 (by decide) (fun c14 => ?_) (fun c14 => ?_)
    · have hf := cn_t c14 hf
      obtain ⟨z14, hf, ez⟩ := exR_e hf
      rw [kX1 _ ez] at hf
      refine lv_iload_n hx hb dX8_reviewers_55 rfl (lv_at hl 1 rfl) ?_
      have e9 := Option.some.inj hf
      subst e9
      exact hret _ _ _ _ _ hW hS rfl rfl dX8_reviewers_56
    · have hf := cn_f c14 hf
      refine lv_aload_n hx hb dX8_reviewers_17 rfl (lv_at hl 0 rfl) ?_
      refine lv_iload_n hx hb dX8_reviewers_18 rfl (lv_at hl 2 rfl) ?_
      obtain ⟨q19, hq19, hf⟩ := bnd_e hf
      refine gk0_i hS (gv_run (rest := []) S hG hW hS [.int t_9.2] (c_X8_isChanged l Γ C C_9 t_9.2 hq19) pk_X8_isChanged ml_X8_186 (Nat.le_of_ble_eq_true rfl) rfl rfl rfl rfl ⟨Nat.le_of_ble_eq_true rfl, Nat.le_of_ble_eq_true rfl⟩ rfl hl.1 rfl (Nat.le_of_ble_eq_true rfl) dX8_reviewers_19 ⟨Nat.le_of_ble_eq_true rfl, Nat.le_of_ble_eq_true rfl⟩) (fun H locs hW hS => ?_)
      have J_34 : ∀ (s0_34 : Int32) , fX8_reviewers_34 C_9 t_9 s0_34 = some y1 → ∀ (H : Heap) (locs : List Loc) (ls : Array Slot), gx_W Γ C C_9 H → va_S (gA Γ) s.heap H locs → lv_has ls 4 [(0, .ref (Γ.1 475)), (1, .int t_9.1), (2, .int t_9.2)] → W p l e rm_X8_reviewers s m args below meth c H locs 0 0 Q (F0 m 34 ls [.int s0_34]) := by
        intro s0_34 hf H locs ls hW hS hl
        unfold fX8_reviewers_34 at hf
        refine lv_istore_n (lv' := [(3, .int s0_34), (0, .ref (Γ.1 475)), (1, .int t_9.1), (2, .int t_9.2)]) hx hb dX8_reviewers_34 rfl hl (by decide) rfl (fun ls hl => ?_)
        refine lv_iload_n hx hb dX8_reviewers_35 rfl (lv_at hl 2 rfl) ?_
        refine lv_iload_n hx hb dX8_reviewers_36 rfl (lv_at hl 0 rfl) ?_
        have J_47 : ∀ (s0_47 : Int32) (s1_47 : Int32) , fX8_reviewers_47 C_9 t_9 s0_47 s1_47 = some y1 → ∀ (H : Heap) (locs : List Loc) (ls : Array Slot), gx_W Γ C C_9 H → va_S (gA Γ) s.heap H locs → lv_has ls 4 [(0, .ref (Γ.1 475)), (2, .int t_9.2)] → W p l e rm_X8_reviewers s m args below meth c H locs 0 0 Q (F0 m 47 ls [.int s0_47, .int s1_47]) := by
          intro s0_47 s1_47 hf H locs ls hW hS hl
          unfold fX8_reviewers_47 at hf
          refine lv_ior hx hb dX8_reviewers_47 ?_
          refine lv_topi (fun v48 ev48 => ?_)
          have hf := nm_v ev48 hf
          refine lv_istore_n (lv' := [(1, .int v48), (0, .ref (Γ.1 475)), (2, .int t_9.2)]) hx hb dX8_reviewers_48 rfl hl (by decide) rfl (fun ls hl => ?_)
          refine lv_iinc (v := (t_9.2 + (1 : Int32))) (lv' := [(2, .int (t_9.2 + (1 : Int32))), (1, .int v48), (0, .ref (Γ.1 475))]) hx hb dX8_reviewers_49 hl (k := 2) rfl rfl (by decide) rfl (fun ls hl => ?_)
          refine lv_goto (tgt := 9) hx hb dX8_reviewers_52 (by decide) ?_
          exact kI1 _ (Option.some.inj hf).symm H locs ls hW hS (lv_sub hl [2, 1, 0] rfl)
        refine lv_if_lt (tgt := 46) hx hb dX8_reviewers_37 (by decide) (fun c37 => ?_) (fun c37 => ?_)
        · have hf := cn_t c37 hf
          refine lv_iconst (v := (0 : Int32)) hx hb dX8_reviewers_46 (by decide) ?_
          exact J_47 (0 : Int32) t_9.1 hf H locs ls hW hS (lv_sub hl [1, 3] rfl)
        · have hf := cn_f c37 hf
          refine lv_iconst (v := (1 : Int32)) hx hb dX8_reviewers_40 (by decide) ?_
          refine lv_iload_n hx hb dX8_reviewers_41 rfl (lv_at hl 0 rfl) ?_
          refine lv_ishl hx hb dX8_reviewers_42 ?_
          refine lv_goto (tgt := 47) hx hb dX8_reviewers_43 (by decide) ?_
          exact J_47 ((1 : Int32) <<< (s0_34 &&& 31)) t_9.1 hf H locs ls hW hS (lv_sub hl [1, 3] rfl)
      refine lv_if_eq (tgt := 33) hx hb dX8_reviewers_22 (by decide) (fun c22 => ?_) (fun c22 => ?_)
      · have hf := cn_t c22 hf
        refine lv_iconst (v := (-1 : Int32)) hx hb dX8_reviewers_33 (by decide) ?_
        exact J_34 (-1 : Int32) hf H locs ls hW hS (lv_sub hl [0, 1, 2] rfl)
      · have hf := cn_f c22 hf
        refine lv_aload_n hx hb dX8_reviewers_25 rfl (lv_at hl 0 rfl) ?_
        refine lv_iload_n hx hb dX8_reviewers_26 rfl (lv_at hl 2 rfl) ?_
        obtain ⟨q27, hq27, hf⟩ := bnd_e hf
        refine gk0_i hS (gv_run (rest := []) S hG hW hS [.int t_9.2] (c_X8_ownerNow l Γ C C_9 t_9.2 hq27) pk_X8_ownerNow ml_X8_183 (Nat.le_of_ble_eq_true rfl) rfl rfl rfl rfl ⟨Nat.le_of_ble_eq_true rfl, Nat.le_of_ble_eq_true rfl⟩ rfl hl.1 rfl (Nat.le_of_ble_eq_true rfl) dX8_reviewers_27 ⟨Nat.le_of_ble_eq_true rfl, Nat.le_of_ble_eq_true rfl⟩) (fun H locs hW hS => ?_)
        refine lv_goto (tgt := 34) hx hb dX8_reviewers_30 (by decide) ?_
        exact J_34 q27 hf H locs ls hW hS (lv_sub hl [0, 1, 2] rfl)
  exact J_9 (mset M 475 26 (0 : Int32)) ((0 : Int32), (0 : Int32)) hf H locs ls hW hS (lv_sub hl [2, 1, 0] rfl)
