noncomputable def fX7_type (C : Mem) (a1 : Int32) : Option ((Int32 ⊕ Nat) × Mem) := cnd ((fX7_isSign a1) = (0 : Int32)) (some (.inr 1, C)) (cnd ((fX6_isFull C 1) = (0 : Int32)) (bnd (fX6_append C 1 a1) fun q42 => some (.inl (fX6_size q42 1), q42)) (some (.inr 2, C)))
abbrev rm_X7_type : Room := { frames := 6, cells := 1, slots := 6, locals := 100 }
set_option maxRecDepth 100000 in
set_option maxHeartbeats 4000000 in
theorem c_X7_type (l : Launch) (hl0 : l.stackTraces = false) (Γ : gx_G) (C M : Mem) (a1 : Int32) {y0 : ((Int32 ⊕ Nat) × Mem)} (hf : fX7_type C a1 = some y0) : vx_Met l yX7_type (.code yX7_type cX7_type 2 (some .int) :: TsG) rm_X7_type (va_Pc [.ref (Γ.1 0), .int a1] (gx_P Γ C M)) (gx_QiX Γ y0.1 y0.2 M) (gx_XX Γ y0.1 y0.2 M) 1 6 (gA Γ) := by
  refine gx_i (by decide) rfl (Nat.le_of_ble_eq_true rfl) hl0 (Nat.le_of_ble_eq_true rfl) (Nat.le_of_ble_eq_true rfl) (Nat.le_of_ble_eq_true rfl) (Nat.le_of_ble_eq_true rfl) ?_
  intro p e s m args below meth c Q S hG hret hthr hout ls H locs hl hW hS
  obtain ⟨hx, hb, hml, hown, hts⟩ := id S
  have hl : lv_has ls 2 [(0, .ref (Γ.1 0)), (1, .int a1)] := hl
  unfold fX7_type at hf
  refine lv_iload_n hx hb dX7_type_0 rfl (lv_at hl 1 rfl) ?_
  refine gk0_i hS (gs_run (rest := []) S hG hW hS [.int a1] (c_X7_isSign l Γ C M a1) pk_X7_isSign ml_X7_53 rfl rfl ⟨Nat.le_of_ble_eq_true rfl, Nat.le_of_ble_eq_true rfl⟩ rfl hl.1 rfl (Nat.le_of_ble_eq_true rfl) dX7_type_1 ⟨Nat.le_of_ble_eq_true rfl, Nat.le_of_ble_eq_true rfl⟩) (fun H locs hW hS => ?_)
  refine lv_if_ne (tgt := 17) hx hb dX7_type_4 (by decide) (fun c4 => ?_) (fun c4 => ?_)
  · have hf := cn_f c4 hf
    refine lv_aload_n hx hb dX7_type_17 rfl (lv_at hl 0 rfl) ?_
    refine get_X7_0 S hG hW fl_X7_10 dX7_type_18 ?_
    refine gk0_i hS (gv_run (rest := []) S hG hW hS [] (c_X6_isFull l Γ C M shk_1) pk_X6_isFull ml_X7_64 (sh_lt1 shk_1) (cc_1 shk_1 _ _) rfl rfl rfl ⟨Nat.le_of_ble_eq_true rfl, Nat.le_of_ble_eq_true rfl⟩ rfl hl.1 rfl (Nat.le_of_ble_eq_true rfl) dX7_type_21 ⟨Nat.le_of_ble_eq_true rfl, Nat.le_of_ble_eq_true rfl⟩) (fun H locs hW hS => ?_)
    refine lv_if_eq (tgt := 37) hx hb dX7_type_24 (by decide) (fun c24 => ?_) (fun c24 => ?_)
    · have hf := cn_t c24 hf
      refine lv_aload_n hx hb dX7_type_37 rfl (lv_at hl 0 rfl) ?_
      refine get_X7_0 S hG hW fl_X7_10 dX7_type_38 ?_
      refine lv_iload_n hx hb dX7_type_41 rfl (lv_at hl 1 rfl) ?_
      obtain ⟨q42, hq42, hf⟩ := bnd_e hf
      refine gk0_v hS (gv_run (rest := []) S hG hW hS [.int a1] (c_X6_append l Γ C M shk_1 a1 hq42) pk_X6_append ml_X7_73 (sh_lt1 shk_1) (cc_1 shk_1 _ _) rfl rfl rfl ⟨Nat.le_of_ble_eq_true rfl, Nat.le_of_ble_eq_true rfl⟩ rfl hl.1 rfl (Nat.le_of_ble_eq_true rfl) dX7_type_42 ⟨Nat.le_of_ble_eq_true rfl, Nat.le_of_ble_eq_true rfl⟩) (fun H locs hW hS => ?_)
      refine lv_aload_n hx hb dX7_type_45 rfl (lv_at hl 0 rfl) ?_
      refine get_X7_0 S hG hW fl_X7_10 dX7_type_46 ?_
      refine gk0_i hS (gv_run (rest := []) S hG hW hS [] (c_X6_size l Γ q42 M shk_1) pk_X6_size ml_X7_77 (sh_lt1 shk_1) (cc_1 shk_1 _ _) rfl rfl rfl ⟨Nat.le_of_ble_eq_true rfl, Nat.le_of_ble_eq_true rfl⟩ rfl hl.1 rfl (Nat.le_of_ble_eq_true rfl) dX7_type_49 ⟨Nat.le_of_ble_eq_true rfl, Nat.le_of_ble_eq_true rfl⟩) (fun H locs hW hS => ?_)
      have e9 := Option.some.inj hf
      subst e9
      exact hret _ _ _ _ _ _ _ hW hS rfl rfl (Nat.le_of_ble_eq_true rfl) (Nat.le_of_ble_eq_true rfl) dX7_type_52
    · have hf := cn_f c24 hf
      have e9 := Option.some.inj hf
      subst e9
      exact hthr _ _ _ _ _ _ _ 2 68 70 72 _ xw_2 (List.mem_of_getElem? (i := 1) rfl) hW hS hl.1 rfl (Nat.le_of_ble_eq_true rfl) (Nat.le_of_ble_eq_true rfl) (Nat.le_of_ble_eq_true rfl) dX7_type_27 dX7_type_30 (Or.inl ⟨dX7_type_31, dX7_type_33, dX7_type_36⟩)
  · have hf := cn_t c4 hf
    have e9 := Option.some.inj hf
    subst e9
    exact hthr _ _ _ _ _ _ _ 1 57 59 61 _ xw_1 (List.mem_of_getElem? (i := 0) rfl) hW hS hl.1 rfl (Nat.le_of_ble_eq_true rfl) (Nat.le_of_ble_eq_true rfl) (Nat.le_of_ble_eq_true rfl) dX7_type_7 dX7_type_10 (Or.inl ⟨dX7_type_11, dX7_type_13, dX7_type_16⟩)
noncomputable def fX7_requireContent_11  : Option (Int32 ⊕ Nat) := some (.inr 1)
noncomputable def fX7_requireContent (a1 : Int32) : Option (Int32 ⊕ Nat) := cnd (a1 < (0 : Int32)) (fX7_requireContent_11) (cnd (a1 ≤ (9999 : Int32)) (some (.inl 0)) (fX7_requireContent_11))
abbrev rm_X7_requireContent : Room := { frames := 6, cells := 1, slots := 6, locals := 100 }
set_option maxRecDepth 100000 in
set_option maxHeartbeats 4000000 in
theorem c_X7_requireContent (l : Launch) (hl0 : l.stackTraces = false) (Γ : gx_G) (C M : Mem) (a1 : Int32) {y0 : (Int32 ⊕ Nat)} (hf : fX7_requireContent a1 = some y0) : vx_Met l yX7_requireContent (.code yX7_requireContent cX7_requireContent 2 none :: TsG) rm_X7_requireContent (va_Pc [.ref (Γ.1 0), .int a1] (gx_P Γ C M)) (gx_QvX Γ y0 C M) (gx_XX Γ y0 C M) 1 6 (gA Γ) := by
  refine gx_v (by decide) rfl (Nat.le_of_ble_eq_true rfl) hl0 (Nat.le_of_ble_eq_true rfl) (Nat.le_of_ble_eq_true rfl) (Nat.le_of_ble_eq_true rfl) (Nat.le_of_ble_eq_true rfl) ?_
  intro p e s m args below meth c Q S hG hret hthr hout ls H locs hl hW hS
  obtain ⟨hx, hb, hml, hown, hts⟩ := id S
  have hl : lv_has ls 2 [(0, .ref (Γ.1 0)), (1, .int a1)] := hl
  unfold fX7_requireContent at hf
  refine lv_iload_n hx hb dX7_requireContent_0 rfl (lv_at hl 1 rfl) ?_
  have J_11 : fX7_requireContent_11 = some y0 → ∀ (H : Heap) (locs : List Loc) (ls : Array Slot), gx_W Γ C M H → va_S (gA Γ) s.heap H locs → lv_has ls 2 [] → W p l e rm_X7_requireContent s m args below meth c H locs 0 0 Q (F0 m 11 ls []) := by
    intro  hf H locs ls hW hS hl
    unfold fX7_requireContent_11 at hf
    have e9 := Option.some.inj hf
    subst e9
    exact hthr _ _ _ _ _ _ _ 1 57 280 61 _ xw_1 (List.mem_of_getElem? (i := 2) rfl) hW hS hl.1 rfl (Nat.le_of_ble_eq_true rfl) (Nat.le_of_ble_eq_true rfl) (Nat.le_of_ble_eq_true rfl) dX7_requireContent_11 dX7_requireContent_14 (Or.inr ⟨dX7_requireContent_15, dX7_requireContent_18, dX7_requireContent_21⟩)
  refine lv_if_lt (tgt := 11) hx hb dX7_requireContent_1 (by decide) (fun c1 => ?_) (fun c1 => ?_)
  · have hf := cn_t c1 hf
    exact J_11  hf H locs ls hW hS (lv_sub hl [] rfl)
  · have hf := cn_f c1 hf
    refine lv_iload_n hx hb dX7_requireContent_4 rfl (lv_at hl 1 rfl) ?_
    refine lv_sipush (v := (9999 : Int32)) hx hb dX7_requireContent_5 (by decide) ?_
    refine lv_icmp_le (tgt := 22) hx hb dX7_requireContent_8 (by decide) (fun c8 => ?_) (fun c8 => ?_)
    · have hf := cn_t c8 hf
      have e9 := Option.some.inj hf
      subst e9
      exact hret _ _ _ _ _ _ hW hS rfl (Nat.le_of_ble_eq_true rfl) (Nat.le_of_ble_eq_true rfl) dX7_requireContent_22
    · have hf := cn_f c8 hf
      exact J_11  hf H locs ls hW hS (lv_sub hl [] rfl)
noncomputable def fX7_addFile_93 (a1 : Int32) (C_93 : Mem) (x2_93 : Int32) : Option ((Int32 ⊕ Nat) × Mem) := bnd (fX0_put C_93 x2_93 a1) fun q99 => some (.inl x2_93, q99)
noncomputable def fX7_addFile_83 (C : Mem) (a1 : Int32) (q33 : Int32) : Option ((Int32 ⊕ Nat) × Mem) := cnd (q33 = (-1 : Int32)) (bnd (fX7_numberNewPath C) fun q89 => fX7_addFile_93 a1 q89.2 q89.1) (fX7_addFile_93 a1 C q33)
noncomputable def fX7_addFile (C : Mem) (a1 : Int32) : Option ((Int32 ⊕ Nat) × Mem) := bnd (fX7_requireContent a1) fun q2 => sw q2 (fun _ => bnd (fX6_hasPathForm C 1) fun q9 => cnd (q9 = (0 : Int32)) (some (.inr 1, C)) (bnd (fX0_numberOf C 1) fun q33 => cnd ((fX0_isThere C q33) = (0 : Int32)) (cnd (q33 = (-1 : Int32)) (cnd ((fX0_isFull C) = (0 : Int32)) (fX7_addFile_83 C a1 q33) (some (.inr 2, C))) (fX7_addFile_83 C a1 q33)) (some (.inr 2, C)))) (fun k => some (.inr k, C))
abbrev rm_X7_addFile : Room := { frames := 7, cells := 2, slots := 12, locals := 137 }
set_option maxRecDepth 100000 in
set_option maxHeartbeats 4000000 in
theorem c_X7_addFile (l : Launch) (hl0 : l.stackTraces = false) (Γ : gx_G) (C M : Mem) (a1 : Int32) {y0 : ((Int32 ⊕ Nat) × Mem)} (hf : fX7_addFile C a1 = some y0) : vx_Met l yX7_addFile (.code yX7_addFile cX7_addFile 3 (some .int) :: TsG) rm_X7_addFile (va_Pc [.ref (Γ.1 0), .int a1] (gx_P Γ C M)) (gx_QiX Γ y0.1 y0.2 M) (gx_XX Γ y0.1 y0.2 M) 2 12 (gA Γ) := by
  refine gx_i (by decide) rfl (Nat.le_of_ble_eq_true rfl) hl0 (Nat.le_of_ble_eq_true rfl) (Nat.le_of_ble_eq_true rfl) (Nat.le_of_ble_eq_true rfl) (Nat.le_of_ble_eq_true rfl) ?_
  intro p e s m args below meth c Q S hG hret hthr hout ls H locs hl hW hS
  obtain ⟨hx, hb, hml, hown, hts⟩ := id S
  have hl : lv_has ls 3 [(0, .ref (Γ.1 0)), (1, .int a1)] := hl
  unfold fX7_addFile at hf
  refine lv_aload_n hx hb dX7_addFile_0 rfl (lv_at hl 0 rfl) ?_
  refine lv_iload_n hx hb dX7_addFile_1 rfl (lv_at hl 1 rfl) ?_
  obtain ⟨q2, hq2, hf⟩ := bnd_e hf
  refine gxk_v hS (gvx_run (rest := []) S hG hW hS [.int a1] (c_X7_requireContent l hl0 Γ C M a1 hq2) pk_X7_requireContent rfl ml_X7_90 rfl rfl ⟨Nat.le_of_ble_eq_true rfl, Nat.le_of_ble_eq_true rfl⟩ rfl hl.1 rfl (Nat.le_of_ble_eq_true rfl) dX7_addFile_2 ⟨Nat.le_of_ble_eq_true rfl, Nat.le_of_ble_eq_true rfl⟩) (fun H locs k9 ce9 z9 hW hS e9 hce hcv hcl => ?_) (fun H locs hW hS e9 => ?_)
  · have hf := sw_r e9 hf
    have e8 := Option.some.inj hf
    subst e8
    exact hout _ _ _ _ _ _ _ _ _ _ hW hS rfl hce hcv hcl (Nat.le_of_ble_eq_true rfl) (Nat.le_of_ble_eq_true rfl)
  have hf := sw_l e9 hf
  refine lv_aload_n hx hb dX7_addFile_5 rfl (lv_at hl 0 rfl) ?_
  refine get_X7_0 S hG hW fl_X7_10 dX7_addFile_6 ?_
  obtain ⟨q9, hq9, hf⟩ := bnd_e hf
  refine gk0_i hS (gv_run (rest := []) S hG hW hS [] (c_X6_hasPathForm l Γ C M shk_1 hq9) pk_X6_hasPathForm ml_X7_84 (sh_lt1 shk_1) (cc_1 shk_1 _ _) rfl rfl rfl ⟨Nat.le_of_ble_eq_true rfl, Nat.le_of_ble_eq_true rfl⟩ rfl hl.1 rfl (Nat.le_of_ble_eq_true rfl) dX7_addFile_9 ⟨Nat.le_of_ble_eq_true rfl, Nat.le_of_ble_eq_true rfl⟩) (fun H locs hW hS => ?_)
  refine lv_if_ne (tgt := 25) hx hb dX7_addFile_12 (by decide) (fun c12 => ?_) (fun c12 => ?_)
  · have hf := cn_f c12 hf
    refine lv_aload_n hx hb dX7_addFile_25 rfl (lv_at hl 0 rfl) ?_
    refine get_X7_1 S hG hW fl_X7_19 dX7_addFile_26 ?_
    refine lv_aload_n hx hb dX7_addFile_29 rfl (lv_at hl 0 rfl) ?_
    refine get_X7_0 S hG hW fl_X7_10 dX7_addFile_30 ?_
    obtain ⟨q33, hq33, hf⟩ := bnd_e hf
    refine gk0_i hS (gv_run (rest := []) S hG hW hS [.ref (Γ.1 1)] (c_X0_numberOf l Γ C M shk_1 hq33) pk_X0_numberOf ml_X7_96 (Nat.le_of_ble_eq_true rfl) rfl rfl rfl rfl ⟨Nat.le_of_ble_eq_true rfl, Nat.le_of_ble_eq_true rfl⟩ rfl hl.1 rfl (Nat.le_of_ble_eq_true rfl) dX7_addFile_33 ⟨Nat.le_of_ble_eq_true rfl, Nat.le_of_ble_eq_true rfl⟩) (fun H locs hW hS => ?_)
    refine lv_istore_n (lv' := [(2, .int q33), (0, .ref (Γ.1 0)), (1, .int a1)]) hx hb dX7_addFile_36 rfl hl (by decide) rfl (fun ls hl => ?_)
    refine lv_aload_n hx hb dX7_addFile_37 rfl (lv_at hl 1 rfl) ?_
    refine get_X7_1 S hG hW fl_X7_19 dX7_addFile_38 ?_
    refine lv_iload_n hx hb dX7_addFile_41 rfl (lv_at hl 0 rfl) ?_
    refine gk0_i hS (gv_run (rest := []) S hG hW hS [.int q33] (c_X0_isThere l Γ C M q33) pk_X0_isThere ml_X7_100 (Nat.le_of_ble_eq_true rfl) rfl rfl rfl rfl ⟨Nat.le_of_ble_eq_true rfl, Nat.le_of_ble_eq_true rfl⟩ rfl hl.1 rfl (Nat.le_of_ble_eq_true rfl) dX7_addFile_42 ⟨Nat.le_of_ble_eq_true rfl, Nat.le_of_ble_eq_true rfl⟩) (fun H locs hW hS => ?_)
    refine lv_if_eq (tgt := 58) hx hb dX7_addFile_45 (by decide) (fun c45 => ?_) (fun c45 => ?_)
    · have hf := cn_t c45 hf
      refine lv_iload_n hx hb dX7_addFile_58 rfl (lv_at hl 0 rfl) ?_
      refine lv_iconst (v := (-1 : Int32)) hx hb dX7_addFile_59 (by decide) ?_
      have J_83 : fX7_addFile_83 C a1 q33 = some y0 → ∀ (H : Heap) (locs : List Loc) (ls : Array Slot), gx_W Γ C M H → va_S (gA Γ) s.heap H locs → lv_has ls 3 [(0, .ref (Γ.1 0)), (1, .int a1), (2, .int q33)] → W p l e rm_X7_addFile s m args below meth c H locs 1 6 Q (F0 m 83 ls []) := by
        intro  hf H locs ls hW hS hl
        unfold fX7_addFile_83 at hf
        refine lv_iload_n hx hb dX7_addFile_83 rfl (lv_at hl 2 rfl) ?_
        refine lv_iconst (v := (-1 : Int32)) hx hb dX7_addFile_84 (by decide) ?_
        have J_93 : ∀ (C_93 : Mem) (x2_93 : Int32) , fX7_addFile_93 a1 C_93 x2_93 = some y0 → ∀ (H : Heap) (locs : List Loc) (ls : Array Slot), gx_W Γ C_93 M H → va_S (gA Γ) s.heap H locs → lv_has ls 3 [(0, .ref (Γ.1 0)), (1, .int a1), (2, .int x2_93)] → W p l e rm_X7_addFile s m args below meth c H locs 1 6 Q (F0 m 93 ls []) := by
          intro C_93 x2_93 hf H locs ls hW hS hl
          unfold fX7_addFile_93 at hf
          refine lv_aload_n hx hb dX7_addFile_93 rfl (lv_at hl 0 rfl) ?_
          refine get_X7_1 S hG hW fl_X7_19 dX7_addFile_94 ?_
          refine lv_iload_n hx hb dX7_addFile_97 rfl (lv_at hl 2 rfl) ?_
          refine lv_iload_n hx hb dX7_addFile_98 rfl (lv_at hl 1 rfl) ?_
          obtain ⟨q99, hq99, hf⟩ := bnd_e hf
          refine gk0_v hS (gv_run (rest := []) S hG hW hS [.int x2_93, .int a1] (c_X0_put l Γ C_93 M x2_93 a1 hq99) pk_X0_put ml_X7_112 (Nat.le_of_ble_eq_true rfl) rfl rfl rfl rfl ⟨Nat.le_of_ble_eq_true rfl, Nat.le_of_ble_eq_true rfl⟩ rfl hl.1 rfl (Nat.le_of_ble_eq_true rfl) dX7_addFile_99 ⟨Nat.le_of_ble_eq_true rfl, Nat.le_of_ble_eq_true rfl⟩) (fun H locs hW hS => ?_)
          refine lv_iload_n hx hb dX7_addFile_102 rfl (lv_at hl 2 rfl) ?_
          have e9 := Option.some.inj hf
          subst e9
          exact hret _ _ _ _ _ _ _ hW hS rfl rfl (Nat.le_of_ble_eq_true rfl) (Nat.le_of_ble_eq_true rfl) dX7_addFile_103
        refine lv_icmp_ne (tgt := 93) hx hb dX7_addFile_85 (by decide) (fun c85 => ?_) (fun c85 => ?_)
        · have hf := cn_f c85 hf
          exact J_93 C q33 hf H locs ls hW hS (lv_sub hl [0, 1, 2] rfl)
        · have hf := cn_t c85 hf
          refine lv_aload_n hx hb dX7_addFile_88 rfl (lv_at hl 0 rfl) ?_
          obtain ⟨q89, hq89, hf⟩ := bnd_e hf
          refine gk0_i hS (gv_run (rest := []) S hG hW hS [] (c_X7_numberNewPath l Γ C M hq89) pk_X7_numberNewPath ml_X7_109 (Nat.le_of_ble_eq_true rfl) rfl rfl rfl rfl ⟨Nat.le_of_ble_eq_true rfl, Nat.le_of_ble_eq_true rfl⟩ rfl hl.1 rfl (Nat.le_of_ble_eq_true rfl) dX7_addFile_89 ⟨Nat.le_of_ble_eq_true rfl, Nat.le_of_ble_eq_true rfl⟩) (fun H locs hW hS => ?_)
          refine lv_istore_n (lv' := [(2, .int q89.1), (0, .ref (Γ.1 0)), (1, .int a1)]) hx hb dX7_addFile_92 rfl hl (by decide) rfl (fun ls hl => ?_)
          exact J_93 q89.2 q89.1 hf H locs ls hW hS (lv_sub hl [1, 2, 0] rfl)
      refine lv_icmp_ne (tgt := 83) hx hb dX7_addFile_60 (by decide) (fun c60 => ?_) (fun c60 => ?_)
      · have hf := cn_f c60 hf
        exact J_83  hf H locs ls hW hS (lv_sub hl [1, 2, 0] rfl)
      · have hf := cn_t c60 hf
        refine lv_aload_n hx hb dX7_addFile_63 rfl (lv_at hl 1 rfl) ?_
        refine get_X7_1 S hG hW fl_X7_19 dX7_addFile_64 ?_
        refine gk0_i hS (gv_run (rest := []) S hG hW hS [] (c_X0_isFull l Γ C M) pk_X0_isFull ml_X7_106 (Nat.le_of_ble_eq_true rfl) rfl rfl rfl rfl ⟨Nat.le_of_ble_eq_true rfl, Nat.le_of_ble_eq_true rfl⟩ rfl hl.1 rfl (Nat.le_of_ble_eq_true rfl) dX7_addFile_67 ⟨Nat.le_of_ble_eq_true rfl, Nat.le_of_ble_eq_true rfl⟩) (fun H locs hW hS => ?_)
        refine lv_if_eq (tgt := 83) hx hb dX7_addFile_70 (by decide) (fun c70 => ?_) (fun c70 => ?_)
        · have hf := cn_t c70 hf
          exact J_83  hf H locs ls hW hS (lv_sub hl [1, 2, 0] rfl)
        · have hf := cn_f c70 hf
          have e9 := Option.some.inj hf
          subst e9
          exact hthr _ _ _ _ _ _ _ 2 68 107 72 _ xw_2 (List.mem_of_getElem? (i := 5) rfl) hW hS hl.1 rfl (Nat.le_of_ble_eq_true rfl) (Nat.le_of_ble_eq_true rfl) (Nat.le_of_ble_eq_true rfl) dX7_addFile_73 dX7_addFile_76 (Or.inl ⟨dX7_addFile_77, dX7_addFile_79, dX7_addFile_82⟩)
    · have hf := cn_f c45 hf
      have e9 := Option.some.inj hf
      subst e9
      exact hthr _ _ _ _ _ _ _ 2 68 104 72 _ xw_2 (List.mem_of_getElem? (i := 4) rfl) hW hS hl.1 rfl (Nat.le_of_ble_eq_true rfl) (Nat.le_of_ble_eq_true rfl) (Nat.le_of_ble_eq_true rfl) dX7_addFile_48 dX7_addFile_51 (Or.inl ⟨dX7_addFile_52, dX7_addFile_54, dX7_addFile_57⟩)
  · have hf := cn_t c12 hf
    have e9 := Option.some.inj hf
    subst e9
    exact hthr _ _ _ _ _ _ _ 1 57 94 61 _ xw_1 (List.mem_of_getElem? (i := 3) rfl) hW hS hl.1 rfl (Nat.le_of_ble_eq_true rfl) (Nat.le_of_ble_eq_true rfl) (Nat.le_of_ble_eq_true rfl) dX7_addFile_15 dX7_addFile_18 (Or.inl ⟨dX7_addFile_19, dX7_addFile_21, dX7_addFile_24⟩)
noncomputable def fX7_requireFileThere (C : Mem) (a1 : Int32) : Option (Int32 ⊕ Nat) := cnd ((fX0_isThere C a1) = (0 : Int32)) (some (.inr 3)) (some (.inl 0))
abbrev rm_X7_requireFileThere : Room := { frames := 6, cells := 1, slots := 6, locals := 100 }
set_option maxRecDepth 100000 in
set_option maxHeartbeats 4000000 in
theorem c_X7_requireFileThere (l : Launch) (hl0 : l.stackTraces = false) (Γ : gx_G) (C M : Mem) (a1 : Int32) {y0 : (Int32 ⊕ Nat)} (hf : fX7_requireFileThere C a1 = some y0) : vx_Met l yX7_requireFileThere (.code yX7_requireFileThere cX7_requireFileThere 2 none :: TsG) rm_X7_requireFileThere (va_Pc [.ref (Γ.1 0), .int a1] (gx_P Γ C M)) (gx_QvX Γ y0 C M) (gx_XX Γ y0 C M) 1 6 (gA Γ) := by
  refine gx_v (by decide) rfl (Nat.le_of_ble_eq_true rfl) hl0 (Nat.le_of_ble_eq_true rfl) (Nat.le_of_ble_eq_true rfl) (Nat.le_of_ble_eq_true rfl) (Nat.le_of_ble_eq_true rfl) ?_
  intro p e s m args below meth c Q S hG hret hthr hout ls H locs hl hW hS
  obtain ⟨hx, hb, hml, hown, hts⟩ := id S
  have hl : lv_has ls 2 [(0, .ref (Γ.1 0)), (1, .int a1)] := hl
  unfold fX7_requireFileThere at hf
  refine lv_aload_n hx hb dX7_requireFileThere_0 rfl (lv_at hl 0 rfl) ?_
  refine get_X7_1 S hG hW fl_X7_19 dX7_requireFileThere_1 ?_
  refine lv_iload_n hx hb dX7_requireFileThere_4 rfl (lv_at hl 1 rfl) ?_
  refine gk0_i hS (gv_run (rest := []) S hG hW hS [.int a1] (c_X0_isThere l Γ C M a1) pk_X0_isThere ml_X7_100 (Nat.le_of_ble_eq_true rfl) rfl rfl rfl rfl ⟨Nat.le_of_ble_eq_true rfl, Nat.le_of_ble_eq_true rfl⟩ rfl hl.1 rfl (Nat.le_of_ble_eq_true rfl) dX7_requireFileThere_5 ⟨Nat.le_of_ble_eq_true rfl, Nat.le_of_ble_eq_true rfl⟩) (fun H locs hW hS => ?_)
  refine lv_if_ne (tgt := 22) hx hb dX7_requireFileThere_8 (by decide) (fun c8 => ?_) (fun c8 => ?_)
  · have hf := cn_f c8 hf
    have e9 := Option.some.inj hf
    subst e9
    exact hret _ _ _ _ _ _ hW hS rfl (Nat.le_of_ble_eq_true rfl) (Nat.le_of_ble_eq_true rfl) dX7_requireFileThere_22
  · have hf := cn_t c8 hf
    have e9 := Option.some.inj hf
    subst e9
    exact hthr _ _ _ _ _ _ _ 3 197 287 201 _ xw_3 (List.mem_of_getElem? (i := 6) rfl) hW hS hl.1 rfl (Nat.le_of_ble_eq_true rfl) (Nat.le_of_ble_eq_true rfl) (Nat.le_of_ble_eq_true rfl) dX7_requireFileThere_11 dX7_requireFileThere_14 (Or.inr ⟨dX7_requireFileThere_15, dX7_requireFileThere_18, dX7_requireFileThere_21⟩)
noncomputable def fX7_edit (C : Mem) (a1 : Int32) (a2 : Int32) : Option ((Int32 ⊕ Nat) × Mem) := bnd (fX7_requireFileThere C a1) fun q2 => sw q2 (fun _ => bnd (fX7_requireContent a2) fun q7 => sw q7 (fun _ => bnd (fX0_contentOf C a1) fun q15 => bnd (fX0_put C a1 a2) fun q25 => some (.inl q15, q25)) (fun k => some (.inr k, C))) (fun k => some (.inr k, C))
abbrev rm_X7_edit : Room := { frames := 7, cells := 2, slots := 12, locals := 121 }
set_option maxRecDepth 100000 in
set_option maxHeartbeats 4000000 in
theorem c_X7_edit (l : Launch) (hl0 : l.stackTraces = false) (Γ : gx_G) (C M : Mem) (a1 : Int32) (a2 : Int32) {y0 : ((Int32 ⊕ Nat) × Mem)} (hf : fX7_edit C a1 a2 = some y0) : vx_Met l yX7_edit (.code yX7_edit cX7_edit 4 (some .int) :: TsG) rm_X7_edit (va_Pc [.ref (Γ.1 0), .int a1, .int a2] (gx_P Γ C M)) (gx_QiX Γ y0.1 y0.2 M) (gx_XX Γ y0.1 y0.2 M) 2 12 (gA Γ) := by
  refine gx_i (by decide) rfl (Nat.le_of_ble_eq_true rfl) hl0 (Nat.le_of_ble_eq_true rfl) (Nat.le_of_ble_eq_true rfl) (Nat.le_of_ble_eq_true rfl) (Nat.le_of_ble_eq_true rfl) ?_
  intro p e s m args below meth c Q S hG hret hthr hout ls H locs hl hW hS
  obtain ⟨hx, hb, hml, hown, hts⟩ := id S
  have hl : lv_has ls 4 [(0, .ref (Γ.1 0)), (1, .int a1), (2, .int a2)] := hl
  unfold fX7_edit at hf
  refine lv_aload_n hx hb dX7_edit_0 rfl (lv_at hl 0 rfl) ?_
  refine lv_iload_n hx hb dX7_edit_1 rfl (lv_at hl 1 rfl) ?_
  obtain ⟨q2, hq2, hf⟩ := bnd_e hf
  refine gxk_v hS (gvx_run (rest := []) S hG hW hS [.int a1] (c_X7_requireFileThere l hl0 Γ C M a1 hq2) pk_X7_requireFileThere rfl ml_X7_116 rfl rfl ⟨Nat.le_of_ble_eq_true rfl, Nat.le_of_ble_eq_true rfl⟩ rfl hl.1 rfl (Nat.le_of_ble_eq_true rfl) dX7_edit_2 ⟨Nat.le_of_ble_eq_true rfl, Nat.le_of_ble_eq_true rfl⟩) (fun H locs k9 ce9 z9 hW hS e9 hce hcv hcl => ?_) (fun H locs hW hS e9 => ?_)
  · have hf := sw_r e9 hf
    have e8 := Option.some.inj hf
    subst e8
    exact hout _ _ _ _ _ _ _ _ _ _ hW hS rfl hce hcv hcl (Nat.le_of_ble_eq_true rfl) (Nat.le_of_ble_eq_true rfl)
  have hf := sw_l e9 hf
  refine lv_aload_n hx hb dX7_edit_5 rfl (lv_at hl 0 rfl) ?_
  refine lv_iload_n hx hb dX7_edit_6 rfl (lv_at hl 2 rfl) ?_
  obtain ⟨q7, hq7, hf⟩ := bnd_e hf
  refine gxk_v hS (gvx_run (rest := []) S hG hW hS [.int a2] (c_X7_requireContent l hl0 Γ C M a2 hq7) pk_X7_requireContent rfl ml_X7_90 rfl rfl ⟨Nat.le_of_ble_eq_true rfl, Nat.le_of_ble_eq_true rfl⟩ rfl hl.1 rfl (Nat.le_of_ble_eq_true rfl) dX7_edit_7 ⟨Nat.le_of_ble_eq_true rfl, Nat.le_of_ble_eq_true rfl⟩) (fun H locs k9 ce9 z9 hW hS e9 hce hcv hcl => ?_) (fun H locs hW hS e9 => ?_)
  · have hf := sw_r e9 hf
    have e8 := Option.some.inj hf
    subst e8
    exact hout _ _ _ _ _ _ _ _ _ _ hW hS rfl hce hcv hcl (Nat.le_of_ble_eq_true rfl) (Nat.le_of_ble_eq_true rfl)
  have hf := sw_l e9 hf
  refine lv_aload_n hx hb dX7_edit_10 rfl (lv_at hl 0 rfl) ?_
  refine get_X7_1 S hG hW fl_X7_19 dX7_edit_11 ?_
  refine lv_iload_n hx hb dX7_edit_14 rfl (lv_at hl 1 rfl) ?_
  obtain ⟨q15, hq15, hf⟩ := bnd_e hf
  refine gk0_i hS (gv_run (rest := []) S hG hW hS [.int a1] (c_X0_contentOf l Γ C M a1 hq15) pk_X0_contentOf ml_X7_119 (Nat.le_of_ble_eq_true rfl) rfl rfl rfl rfl ⟨Nat.le_of_ble_eq_true rfl, Nat.le_of_ble_eq_true rfl⟩ rfl hl.1 rfl (Nat.le_of_ble_eq_true rfl) dX7_edit_15 ⟨Nat.le_of_ble_eq_true rfl, Nat.le_of_ble_eq_true rfl⟩) (fun H locs hW hS => ?_)
  refine lv_istore_n (lv' := [(3, .int q15), (0, .ref (Γ.1 0)), (1, .int a1), (2, .int a2)]) hx hb dX7_edit_18 rfl hl (by decide) rfl (fun ls hl => ?_)
  refine lv_aload_n hx hb dX7_edit_19 rfl (lv_at hl 1 rfl) ?_
  refine get_X7_1 S hG hW fl_X7_19 dX7_edit_20 ?_
  refine lv_iload_n hx hb dX7_edit_23 rfl (lv_at hl 2 rfl) ?_
  refine lv_iload_n hx hb dX7_edit_24 rfl (lv_at hl 3 rfl) ?_
  obtain ⟨q25, hq25, hf⟩ := bnd_e hf
  refine gk0_v hS (gv_run (rest := []) S hG hW hS [.int a1, .int a2] (c_X0_put l Γ C M a1 a2 hq25) pk_X0_put ml_X7_112 (Nat.le_of_ble_eq_true rfl) rfl rfl rfl rfl ⟨Nat.le_of_ble_eq_true rfl, Nat.le_of_ble_eq_true rfl⟩ rfl hl.1 rfl (Nat.le_of_ble_eq_true rfl) dX7_edit_25 ⟨Nat.le_of_ble_eq_true rfl, Nat.le_of_ble_eq_true rfl⟩) (fun H locs hW hS => ?_)
  refine lv_iload_n hx hb dX7_edit_28 rfl (lv_at hl 0 rfl) ?_
  have e9 := Option.some.inj hf
  subst e9
  exact hret _ _ _ _ _ _ _ hW hS rfl rfl (Nat.le_of_ble_eq_true rfl) (Nat.le_of_ble_eq_true rfl) dX7_edit_29
noncomputable def fX7_delete (C : Mem) (a1 : Int32) : Option ((Int32 ⊕ Nat) × Mem) := bnd (fX7_requireFileThere C a1) fun q2 => sw q2 (fun _ => bnd (fX0_remove C a1) fun q10 => bnd (fX0_contentOf q10 a1) fun q18 => some (.inl q18, q10)) (fun k => some (.inr k, C))
abbrev rm_X7_delete : Room := { frames := 7, cells := 1, slots := 6, locals := 121 }
set_option maxRecDepth 100000 in
set_option maxHeartbeats 4000000 in
theorem c_X7_delete (l : Launch) (hl0 : l.stackTraces = false) (Γ : gx_G) (C M : Mem) (a1 : Int32) {y0 : ((Int32 ⊕ Nat) × Mem)} (hf : fX7_delete C a1 = some y0) : vx_Met l yX7_delete (.code yX7_delete cX7_delete 2 (some .int) :: TsG) rm_X7_delete (va_Pc [.ref (Γ.1 0), .int a1] (gx_P Γ C M)) (gx_QiX Γ y0.1 y0.2 M) (gx_XX Γ y0.1 y0.2 M) 1 6 (gA Γ) := by
  refine gx_i (by decide) rfl (Nat.le_of_ble_eq_true rfl) hl0 (Nat.le_of_ble_eq_true rfl) (Nat.le_of_ble_eq_true rfl) (Nat.le_of_ble_eq_true rfl) (Nat.le_of_ble_eq_true rfl) ?_
  intro p e s m args below meth c Q S hG hret hthr hout ls H locs hl hW hS
  obtain ⟨hx, hb, hml, hown, hts⟩ := id S
  have hl : lv_has ls 2 [(0, .ref (Γ.1 0)), (1, .int a1)] := hl
  unfold fX7_delete at hf
  refine lv_aload_n hx hb dX7_delete_0 rfl (lv_at hl 0 rfl) ?_
  refine lv_iload_n hx hb dX7_delete_1 rfl (lv_at hl 1 rfl) ?_
  obtain ⟨q2, hq2, hf⟩ := bnd_e hf
  refine gxk_v hS (gvx_run (rest := []) S hG hW hS [.int a1] (c_X7_requireFileThere l hl0 Γ C M a1 hq2) pk_X7_requireFileThere rfl ml_X7_116 rfl rfl ⟨Nat.le_of_ble_eq_true rfl, Nat.le_of_ble_eq_true rfl⟩ rfl hl.1 rfl (Nat.le_of_ble_eq_true rfl) dX7_delete_2 ⟨Nat.le_of_ble_eq_true rfl, Nat.le_of_ble_eq_true rfl⟩) (fun H locs k9 ce9 z9 hW hS e9 hce hcv hcl => ?_) (fun H locs hW hS e9 => ?_)
  · have hf := sw_r e9 hf
    have e8 := Option.some.inj hf
    subst e8
    exact hout _ _ _ _ _ _ _ _ _ _ hW hS rfl hce hcv hcl (Nat.le_of_ble_eq_true rfl) (Nat.le_of_ble_eq_true rfl)
  have hf := sw_l e9 hf
  refine lv_aload_n hx hb dX7_delete_5 rfl (lv_at hl 0 rfl) ?_
  refine get_X7_1 S hG hW fl_X7_19 dX7_delete_6 ?_
  refine lv_iload_n hx hb dX7_delete_9 rfl (lv_at hl 1 rfl) ?_
  obtain ⟨q10, hq10, hf⟩ := bnd_e hf
  refine gk0_v hS (gv_run (rest := []) S hG hW hS [.int a1] (c_X0_remove l Γ C M a1 hq10) pk_X0_remove ml_X7_123 (Nat.le_of_ble_eq_true rfl) rfl rfl rfl rfl ⟨Nat.le_of_ble_eq_true rfl, Nat.le_of_ble_eq_true rfl⟩ rfl hl.1 rfl (Nat.le_of_ble_eq_true rfl) dX7_delete_10 ⟨Nat.le_of_ble_eq_true rfl, Nat.le_of_ble_eq_true rfl⟩) (fun H locs hW hS => ?_)
  refine lv_aload_n hx hb dX7_delete_13 rfl (lv_at hl 0 rfl) ?_
  refine get_X7_1 S hG hW fl_X7_19 dX7_delete_14 ?_
  refine lv_iload_n hx hb dX7_delete_17 rfl (lv_at hl 1 rfl) ?_
  obtain ⟨q18, hq18, hf⟩ := bnd_e hf
  refine gk0_i hS (gv_run (rest := []) S hG hW hS [.int a1] (c_X0_contentOf l Γ q10 M a1 hq18) pk_X0_contentOf ml_X7_119 (Nat.le_of_ble_eq_true rfl) rfl rfl rfl rfl ⟨Nat.le_of_ble_eq_true rfl, Nat.le_of_ble_eq_true rfl⟩ rfl hl.1 rfl (Nat.le_of_ble_eq_true rfl) dX7_delete_18 ⟨Nat.le_of_ble_eq_true rfl, Nat.le_of_ble_eq_true rfl⟩) (fun H locs hW hS => ?_)
  have e9 := Option.some.inj hf
  subst e9
  exact hret _ _ _ _ _ _ _ hW hS rfl rfl (Nat.le_of_ble_eq_true rfl) (Nat.le_of_ble_eq_true rfl) dX7_delete_21
noncomputable def fX7_requireFile (C : Mem) (a1 : Int32) : Option (Int32 ⊕ Nat) := cnd ((fX0_has C a1) = (0 : Int32)) (some (.inr 3)) (some (.inl 0))
abbrev rm_X7_requireFile : Room := { frames := 6, cells := 1, slots := 6, locals := 100 }
set_option maxRecDepth 100000 in
set_option maxHeartbeats 4000000 in
theorem c_X7_requireFile (l : Launch) (hl0 : l.stackTraces = false) (Γ : gx_G) (C M : Mem) (a1 : Int32) {y0 : (Int32 ⊕ Nat)} (hf : fX7_requireFile C a1 = some y0) : vx_Met l yX7_requireFile (.code yX7_requireFile cX7_requireFile 2 none :: TsG) rm_X7_requireFile (va_Pc [.ref (Γ.1 0), .int a1] (gx_P Γ C M)) (gx_QvX Γ y0 C M) (gx_XX Γ y0 C M) 1 6 (gA Γ) := by
  refine gx_v (by decide) rfl (Nat.le_of_ble_eq_true rfl) hl0 (Nat.le_of_ble_eq_true rfl) (Nat.le_of_ble_eq_true rfl) (Nat.le_of_ble_eq_true rfl) (Nat.le_of_ble_eq_true rfl) ?_
  intro p e s m args below meth c Q S hG hret hthr hout ls H locs hl hW hS
  obtain ⟨hx, hb, hml, hown, hts⟩ := id S
  have hl : lv_has ls 2 [(0, .ref (Γ.1 0)), (1, .int a1)] := hl
  unfold fX7_requireFile at hf
  refine lv_aload_n hx hb dX7_requireFile_0 rfl (lv_at hl 0 rfl) ?_
  refine get_X7_1 S hG hW fl_X7_19 dX7_requireFile_1 ?_
  refine lv_iload_n hx hb dX7_requireFile_4 rfl (lv_at hl 1 rfl) ?_
  refine gk0_i hS (gv_run (rest := []) S hG hW hS [.int a1] (c_X0_has l Γ C M a1) pk_X0_has ml_X7_282 (Nat.le_of_ble_eq_true rfl) rfl rfl rfl rfl ⟨Nat.le_of_ble_eq_true rfl, Nat.le_of_ble_eq_true rfl⟩ rfl hl.1 rfl (Nat.le_of_ble_eq_true rfl) dX7_requireFile_5 ⟨Nat.le_of_ble_eq_true rfl, Nat.le_of_ble_eq_true rfl⟩) (fun H locs hW hS => ?_)
  refine lv_if_ne (tgt := 22) hx hb dX7_requireFile_8 (by decide) (fun c8 => ?_) (fun c8 => ?_)
  · have hf := cn_f c8 hf
    have e9 := Option.some.inj hf
    subst e9
    exact hret _ _ _ _ _ _ hW hS rfl (Nat.le_of_ble_eq_true rfl) (Nat.le_of_ble_eq_true rfl) dX7_requireFile_22
  · have hf := cn_t c8 hf
    have e9 := Option.some.inj hf
    subst e9
    exact hthr _ _ _ _ _ _ _ 3 197 285 201 _ xw_3 (List.mem_of_getElem? (i := 7) rfl) hW hS hl.1 rfl (Nat.le_of_ble_eq_true rfl) (Nat.le_of_ble_eq_true rfl) (Nat.le_of_ble_eq_true rfl) dX7_requireFile_11 dX7_requireFile_14 (Or.inr ⟨dX7_requireFile_15, dX7_requireFile_18, dX7_requireFile_21⟩)
noncomputable def fX7_matches (C : Mem) (a1 : Int32) : Option (Int32 ⊕ Nat) := bnd (fX7_requireFile C a1) fun q2 => sw q2 (fun _ => bnd (fX6_hasGlobForm C 1) fun q9 => cnd (q9 = (0 : Int32)) (some (.inr 2)) (bnd (fX0_pathOf C a1) fun q34 => bnd (fX6_covers C 1 q34) fun q37 => chk (narrow .boolean (.int q37) = .int q37) (some (.inl q37)))) (fun k => some (.inr k))
abbrev rm_X7_matches : Room := { frames := 7, cells := 2, slots := 12, locals := 121 }
set_option maxRecDepth 100000 in
set_option maxHeartbeats 4000000 in
theorem c_X7_matches (l : Launch) (hl0 : l.stackTraces = false) (Γ : gx_G) (C M : Mem) (a1 : Int32) {y0 : (Int32 ⊕ Nat)} (hf : fX7_matches C a1 = some y0) : vx_Met l yX7_matches (.code yX7_matches cX7_matches 2 (some .boolean) :: TsG) rm_X7_matches (va_Pc [.ref (Γ.1 0), .int a1] (gx_P Γ C M)) (gx_QiX Γ y0 C M) (gx_XX Γ y0 C M) 2 12 (gA Γ) := by
  refine gx_i (by decide) rfl (Nat.le_of_ble_eq_true rfl) hl0 (Nat.le_of_ble_eq_true rfl) (Nat.le_of_ble_eq_true rfl) (Nat.le_of_ble_eq_true rfl) (Nat.le_of_ble_eq_true rfl) ?_
  intro p e s m args below meth c Q S hG hret hthr hout ls H locs hl hW hS
  obtain ⟨hx, hb, hml, hown, hts⟩ := id S
  have hl : lv_has ls 2 [(0, .ref (Γ.1 0)), (1, .int a1)] := hl
  unfold fX7_matches at hf
  refine lv_aload_n hx hb dX7_matches_0 rfl (lv_at hl 0 rfl) ?_
  refine lv_iload_n hx hb dX7_matches_1 rfl (lv_at hl 1 rfl) ?_
  obtain ⟨q2, hq2, hf⟩ := bnd_e hf
  refine gxk_v hS (gvx_run (rest := []) S hG hW hS [.int a1] (c_X7_requireFile l hl0 Γ C M a1 hq2) pk_X7_requireFile rfl ml_X7_129 rfl rfl ⟨Nat.le_of_ble_eq_true rfl, Nat.le_of_ble_eq_true rfl⟩ rfl hl.1 rfl (Nat.le_of_ble_eq_true rfl) dX7_matches_2 ⟨Nat.le_of_ble_eq_true rfl, Nat.le_of_ble_eq_true rfl⟩) (fun H locs k9 ce9 z9 hW hS e9 hce hcv hcl => ?_) (fun H locs hW hS e9 => ?_)
  · have hf := sw_r e9 hf
    have e8 := Option.some.inj hf
    subst e8
    exact hout _ _ _ _ _ _ _ _ _ _ hW hS rfl hce hcv hcl (Nat.le_of_ble_eq_true rfl) (Nat.le_of_ble_eq_true rfl)
  have hf := sw_l e9 hf
  refine lv_aload_n hx hb dX7_matches_5 rfl (lv_at hl 0 rfl) ?_
  refine get_X7_0 S hG hW fl_X7_10 dX7_matches_6 ?_
  obtain ⟨q9, hq9, hf⟩ := bnd_e hf
  refine gk0_i hS (gv_run (rest := []) S hG hW hS [] (c_X6_hasGlobForm l Γ C M shk_1 hq9) pk_X6_hasGlobForm ml_X7_87 (sh_lt1 shk_1) (cc_1 shk_1 _ _) rfl rfl rfl ⟨Nat.le_of_ble_eq_true rfl, Nat.le_of_ble_eq_true rfl⟩ rfl hl.1 rfl (Nat.le_of_ble_eq_true rfl) dX7_matches_9 ⟨Nat.le_of_ble_eq_true rfl, Nat.le_of_ble_eq_true rfl⟩) (fun H locs hW hS => ?_)
  refine lv_if_ne (tgt := 25) hx hb dX7_matches_12 (by decide) (fun c12 => ?_) (fun c12 => ?_)
  · have hf := cn_f c12 hf
    refine lv_aload_n hx hb dX7_matches_25 rfl (lv_at hl 0 rfl) ?_
    refine get_X7_0 S hG hW fl_X7_10 dX7_matches_26 ?_
    refine lv_aload_n hx hb dX7_matches_29 rfl (lv_at hl 0 rfl) ?_
    refine get_X7_1 S hG hW fl_X7_19 dX7_matches_30 ?_
    refine lv_iload_n hx hb dX7_matches_33 rfl (lv_at hl 1 rfl) ?_
    obtain ⟨q34, hq34, hf⟩ := bnd_e hf
    refine gk0_r hS (gv_run (rest := [.ref (Γ.1 1)]) S hG hW hS [.int a1] (c_X0_pathOf l Γ C M a1 hq34) pk_X0_pathOf ml_X7_134 (Nat.le_of_ble_eq_true rfl) rfl rfl rfl rfl ⟨Nat.le_of_ble_eq_true rfl, Nat.le_of_ble_eq_true rfl⟩ rfl hl.1 rfl (Nat.le_of_ble_eq_true rfl) dX7_matches_34 ⟨Nat.le_of_ble_eq_true rfl, Nat.le_of_ble_eq_true rfl⟩) (fun H locs hW hS => ?_)
    obtain ⟨q37, hq37, hf⟩ := bnd_e hf
    refine gk0_i hS (gv_run (rest := []) S hG hW hS [.ref (Γ.1 q34)] (c_X6_covers l Γ C M shk_1 (sr_X0_pathOf hq34) hq37) pk_X6_covers ml_X7_138 (sh_lt1 shk_1) (cc_1 shk_1 _ _) rfl rfl rfl ⟨Nat.le_of_ble_eq_true rfl, Nat.le_of_ble_eq_true rfl⟩ rfl hl.1 rfl (Nat.le_of_ble_eq_true rfl) dX7_matches_37 ⟨Nat.le_of_ble_eq_true rfl, Nat.le_of_ble_eq_true rfl⟩) (fun H locs hW hS => ?_)
    have n9 := ck_p hf
    have hf := ck_r hf
    have e9 := Option.some.inj hf
    subst e9
    exact hret _ _ _ _ _ _ _ hW hS n9 rfl (Nat.le_of_ble_eq_true rfl) (Nat.le_of_ble_eq_true rfl) dX7_matches_40
  · have hf := cn_t c12 hf
    have e9 := Option.some.inj hf
    subst e9
    exact hthr _ _ _ _ _ _ _ 2 68 132 72 _ xw_2 (List.mem_of_getElem? (i := 8) rfl) hW hS hl.1 rfl (Nat.le_of_ble_eq_true rfl) (Nat.le_of_ble_eq_true rfl) (Nat.le_of_ble_eq_true rfl) dX7_matches_15 dX7_matches_18 (Or.inl ⟨dX7_matches_19, dX7_matches_21, dX7_matches_24⟩)
noncomputable def fX7_addTarget_12 (C : Mem) : Option ((Int32 ⊕ Nat) × Mem) := some (.inr 1, C)
noncomputable def fX7_addTarget (C : Mem) (a1 : Int32) : Option ((Int32 ⊕ Nat) × Mem) := cnd (a1 < (1 : Int32)) (fX7_addTarget_12 C) (cnd (a1 ≤ (1000 : Int32)) (cnd ((fX2_isFull C) = (0 : Int32)) (bnd (fX2_add C a1) fun q47 => some (.inl q47.1, q47.2)) (some (.inr 2, C))) (fX7_addTarget_12 C))
abbrev rm_X7_addTarget : Room := { frames := 6, cells := 1, slots := 6, locals := 100 }
set_option maxRecDepth 100000 in
set_option maxHeartbeats 4000000 in
theorem c_X7_addTarget (l : Launch) (hl0 : l.stackTraces = false) (Γ : gx_G) (C M : Mem) (a1 : Int32) {y0 : ((Int32 ⊕ Nat) × Mem)} (hf : fX7_addTarget C a1 = some y0) : vx_Met l yX7_addTarget (.code yX7_addTarget cX7_addTarget 2 (some .int) :: TsG) rm_X7_addTarget (va_Pc [.ref (Γ.1 0), .int a1] (gx_P Γ C M)) (gx_QiX Γ y0.1 y0.2 M) (gx_XX Γ y0.1 y0.2 M) 1 6 (gA Γ) := by
  refine gx_i (by decide) rfl (Nat.le_of_ble_eq_true rfl) hl0 (Nat.le_of_ble_eq_true rfl) (Nat.le_of_ble_eq_true rfl) (Nat.le_of_ble_eq_true rfl) (Nat.le_of_ble_eq_true rfl) ?_
  intro p e s m args below meth c Q S hG hret hthr hout ls H locs hl hW hS
  obtain ⟨hx, hb, hml, hown, hts⟩ := id S
  have hl : lv_has ls 2 [(0, .ref (Γ.1 0)), (1, .int a1)] := hl
  unfold fX7_addTarget at hf
  refine lv_iload_n hx hb dX7_addTarget_0 rfl (lv_at hl 1 rfl) ?_
  refine lv_iconst (v := (1 : Int32)) hx hb dX7_addTarget_1 (by decide) ?_
  have J_12 : fX7_addTarget_12 C = some y0 → ∀ (H : Heap) (locs : List Loc) (ls : Array Slot), gx_W Γ C M H → va_S (gA Γ) s.heap H locs → lv_has ls 2 [] → W p l e rm_X7_addTarget s m args below meth c H locs 0 0 Q (F0 m 12 ls []) := by
    intro  hf H locs ls hW hS hl
    unfold fX7_addTarget_12 at hf
    have e9 := Option.some.inj hf
    subst e9
    exact hthr _ _ _ _ _ _ _ 1 57 142 61 _ xw_1 (List.mem_of_getElem? (i := 9) rfl) hW hS hl.1 rfl (Nat.le_of_ble_eq_true rfl) (Nat.le_of_ble_eq_true rfl) (Nat.le_of_ble_eq_true rfl) dX7_addTarget_12 dX7_addTarget_15 (Or.inl ⟨dX7_addTarget_16, dX7_addTarget_18, dX7_addTarget_21⟩)
  refine lv_icmp_lt (tgt := 12) hx hb dX7_addTarget_2 (by decide) (fun c2 => ?_) (fun c2 => ?_)
  · have hf := cn_t c2 hf
    exact J_12  hf H locs ls hW hS (lv_sub hl [] rfl)
  · have hf := cn_f c2 hf
    refine lv_iload_n hx hb dX7_addTarget_5 rfl (lv_at hl 1 rfl) ?_
    refine lv_sipush (v := (1000 : Int32)) hx hb dX7_addTarget_6 (by decide) ?_
    refine lv_icmp_le (tgt := 22) hx hb dX7_addTarget_9 (by decide) (fun c9 => ?_) (fun c9 => ?_)
    · have hf := cn_t c9 hf
      refine lv_aload_n hx hb dX7_addTarget_22 rfl (lv_at hl 0 rfl) ?_
      refine get_X7_2 S hG hW fl_X7_26 dX7_addTarget_23 ?_
      refine gk0_i hS (gv_run (rest := []) S hG hW hS [] (c_X2_isFull l Γ C M) pk_X2_isFull ml_X7_144 (Nat.le_of_ble_eq_true rfl) rfl rfl rfl rfl ⟨Nat.le_of_ble_eq_true rfl, Nat.le_of_ble_eq_true rfl⟩ rfl hl.1 rfl (Nat.le_of_ble_eq_true rfl) dX7_addTarget_26 ⟨Nat.le_of_ble_eq_true rfl, Nat.le_of_ble_eq_true rfl⟩) (fun H locs hW hS => ?_)
      refine lv_if_eq (tgt := 42) hx hb dX7_addTarget_29 (by decide) (fun c29 => ?_) (fun c29 => ?_)
      · have hf := cn_t c29 hf
        refine lv_aload_n hx hb dX7_addTarget_42 rfl (lv_at hl 0 rfl) ?_
        refine get_X7_2 S hG hW fl_X7_26 dX7_addTarget_43 ?_
        refine lv_iload_n hx hb dX7_addTarget_46 rfl (lv_at hl 1 rfl) ?_
        obtain ⟨q47, hq47, hf⟩ := bnd_e hf
        refine gk0_i hS (gv_run (rest := []) S hG hW hS [.int a1] (c_X2_add l Γ C M a1 hq47) pk_X2_add ml_X7_147 (Nat.le_of_ble_eq_true rfl) rfl rfl rfl rfl ⟨Nat.le_of_ble_eq_true rfl, Nat.le_of_ble_eq_true rfl⟩ rfl hl.1 rfl (Nat.le_of_ble_eq_true rfl) dX7_addTarget_47 ⟨Nat.le_of_ble_eq_true rfl, Nat.le_of_ble_eq_true rfl⟩) (fun H locs hW hS => ?_)
        have e9 := Option.some.inj hf
        subst e9
        exact hret _ _ _ _ _ _ _ hW hS rfl rfl (Nat.le_of_ble_eq_true rfl) (Nat.le_of_ble_eq_true rfl) dX7_addTarget_50
      · have hf := cn_f c29 hf
        have e9 := Option.some.inj hf
        subst e9
        exact hthr _ _ _ _ _ _ _ 2 68 145 72 _ xw_2 (List.mem_of_getElem? (i := 10) rfl) hW hS hl.1 rfl (Nat.le_of_ble_eq_true rfl) (Nat.le_of_ble_eq_true rfl) (Nat.le_of_ble_eq_true rfl) dX7_addTarget_32 dX7_addTarget_35 (Or.inl ⟨dX7_addTarget_36, dX7_addTarget_38, dX7_addTarget_41⟩)
    · have hf := cn_f c9 hf
      exact J_12  hf H locs ls hW hS (lv_sub hl [] rfl)
noncomputable def fX7_requireTarget (C : Mem) (a1 : Int32) : Option (Int32 ⊕ Nat) := cnd ((fX2_has C a1) = (0 : Int32)) (some (.inr 3)) (some (.inl 0))
abbrev rm_X7_requireTarget : Room := { frames := 6, cells := 1, slots := 6, locals := 100 }
set_option maxRecDepth 100000 in
set_option maxHeartbeats 4000000 in
theorem c_X7_requireTarget (l : Launch) (hl0 : l.stackTraces = false) (Γ : gx_G) (C M : Mem) (a1 : Int32) {y0 : (Int32 ⊕ Nat)} (hf : fX7_requireTarget C a1 = some y0) : vx_Met l yX7_requireTarget (.code yX7_requireTarget cX7_requireTarget 2 none :: TsG) rm_X7_requireTarget (va_Pc [.ref (Γ.1 0), .int a1] (gx_P Γ C M)) (gx_QvX Γ y0 C M) (gx_XX Γ y0 C M) 1 6 (gA Γ) := by
  refine gx_v (by decide) rfl (Nat.le_of_ble_eq_true rfl) hl0 (Nat.le_of_ble_eq_true rfl) (Nat.le_of_ble_eq_true rfl) (Nat.le_of_ble_eq_true rfl) (Nat.le_of_ble_eq_true rfl) ?_
  intro p e s m args below meth c Q S hG hret hthr hout ls H locs hl hW hS
  obtain ⟨hx, hb, hml, hown, hts⟩ := id S
  have hl : lv_has ls 2 [(0, .ref (Γ.1 0)), (1, .int a1)] := hl
  unfold fX7_requireTarget at hf
  refine lv_aload_n hx hb dX7_requireTarget_0 rfl (lv_at hl 0 rfl) ?_
  refine get_X7_2 S hG hW fl_X7_26 dX7_requireTarget_1 ?_
  refine lv_iload_n hx hb dX7_requireTarget_4 rfl (lv_at hl 1 rfl) ?_
  refine gk0_i hS (gv_run (rest := []) S hG hW hS [.int a1] (c_X2_has l Γ C M a1) pk_X2_has ml_X7_289 (Nat.le_of_ble_eq_true rfl) rfl rfl rfl rfl ⟨Nat.le_of_ble_eq_true rfl, Nat.le_of_ble_eq_true rfl⟩ rfl hl.1 rfl (Nat.le_of_ble_eq_true rfl) dX7_requireTarget_5 ⟨Nat.le_of_ble_eq_true rfl, Nat.le_of_ble_eq_true rfl⟩) (fun H locs hW hS => ?_)
  refine lv_if_ne (tgt := 22) hx hb dX7_requireTarget_8 (by decide) (fun c8 => ?_) (fun c8 => ?_)
  · have hf := cn_f c8 hf
    have e9 := Option.some.inj hf
    subst e9
    exact hret _ _ _ _ _ _ hW hS rfl (Nat.le_of_ble_eq_true rfl) (Nat.le_of_ble_eq_true rfl) dX7_requireTarget_22
  · have hf := cn_t c8 hf
    have e9 := Option.some.inj hf
    subst e9
    exact hthr _ _ _ _ _ _ _ 3 197 290 201 _ xw_3 (List.mem_of_getElem? (i := 11) rfl) hW hS hl.1 rfl (Nat.le_of_ble_eq_true rfl) (Nat.le_of_ble_eq_true rfl) (Nat.le_of_ble_eq_true rfl) dX7_requireTarget_11 dX7_requireTarget_14 (Or.inr ⟨dX7_requireTarget_15, dX7_requireTarget_18, dX7_requireTarget_21⟩)
noncomputable def fX7_requireGlob (C : Mem) : Option (Int32 ⊕ Nat) := bnd (fX6_hasGlobForm C 1) fun q4 => cnd (q4 = (0 : Int32)) (some (.inr 1)) (some (.inl 0))
abbrev rm_X7_requireGlob : Room := { frames := 6, cells := 1, slots := 6, locals := 100 }
set_option maxRecDepth 100000 in
set_option maxHeartbeats 4000000 in
theorem c_X7_requireGlob (l : Launch) (hl0 : l.stackTraces = false) (Γ : gx_G) (C M : Mem)  {y0 : (Int32 ⊕ Nat)} (hf : fX7_requireGlob C = some y0) : vx_Met l yX7_requireGlob (.code yX7_requireGlob cX7_requireGlob 1 none :: TsG) rm_X7_requireGlob (va_Pc [.ref (Γ.1 0)] (gx_P Γ C M)) (gx_QvX Γ y0 C M) (gx_XX Γ y0 C M) 1 6 (gA Γ) := by
  refine gx_v (by decide) rfl (Nat.le_of_ble_eq_true rfl) hl0 (Nat.le_of_ble_eq_true rfl) (Nat.le_of_ble_eq_true rfl) (Nat.le_of_ble_eq_true rfl) (Nat.le_of_ble_eq_true rfl) ?_
  intro p e s m args below meth c Q S hG hret hthr hout ls H locs hl hW hS
  obtain ⟨hx, hb, hml, hown, hts⟩ := id S
  have hl : lv_has ls 1 [(0, .ref (Γ.1 0))] := hl
  unfold fX7_requireGlob at hf
  refine lv_aload_n hx hb dX7_requireGlob_0 rfl (lv_at hl 0 rfl) ?_
  refine get_X7_0 S hG hW fl_X7_10 dX7_requireGlob_1 ?_
  obtain ⟨q4, hq4, hf⟩ := bnd_e hf
  refine gk0_i hS (gv_run (rest := []) S hG hW hS [] (c_X6_hasGlobForm l Γ C M shk_1 hq4) pk_X6_hasGlobForm ml_X7_87 (sh_lt1 shk_1) (cc_1 shk_1 _ _) rfl rfl rfl ⟨Nat.le_of_ble_eq_true rfl, Nat.le_of_ble_eq_true rfl⟩ rfl hl.1 rfl (Nat.le_of_ble_eq_true rfl) dX7_requireGlob_4 ⟨Nat.le_of_ble_eq_true rfl, Nat.le_of_ble_eq_true rfl⟩) (fun H locs hW hS => ?_)
  refine lv_if_ne (tgt := 20) hx hb dX7_requireGlob_7 (by decide) (fun c7 => ?_) (fun c7 => ?_)
  · have hf := cn_f c7 hf
    have e9 := Option.some.inj hf
    subst e9
    exact hret _ _ _ _ _ _ hW hS rfl (Nat.le_of_ble_eq_true rfl) (Nat.le_of_ble_eq_true rfl) dX7_requireGlob_20
  · have hf := cn_t c7 hf
    have e9 := Option.some.inj hf
    subst e9
    exact hthr _ _ _ _ _ _ _ 1 57 132 61 _ xw_1 (List.mem_of_getElem? (i := 8) rfl) hW hS hl.1 rfl (Nat.le_of_ble_eq_true rfl) (Nat.le_of_ble_eq_true rfl) (Nat.le_of_ble_eq_true rfl) dX7_requireGlob_10 dX7_requireGlob_13 (Or.inl ⟨dX7_requireGlob_14, dX7_requireGlob_16, dX7_requireGlob_19⟩)
noncomputable def fX7_addGlob (C : Mem) (a1 : Int32) : Option ((Int32 ⊕ Nat) × Mem) := bnd (fX7_requireTarget C a1) fun q2 => sw q2 (fun _ => bnd (fX7_requireGlob C) fun q6 => sw q6 (fun _ => bnd (fX2_globsOf C a1) fun q14 => cnd ((fX1_isFull C q14) = (0 : Int32)) (bnd (fX0_coveredBy C 1) fun q48 => bnd (fX1_add C q14 1 q48) fun q51 => bnd (fX1_covered q51 q14) fun q55 => some (.inl (fJ6_bitCount_0f7a4 (q55 &&& (fX0_present q51))), q51)) (some (.inr 2, C))) (fun k => some (.inr k, C))) (fun k => some (.inr k, C))
abbrev rm_X7_addGlob : Room := { frames := 7, cells := 3, slots := 18, locals := 121 }
set_option maxRecDepth 100000 in
set_option maxHeartbeats 4000000 in
theorem c_X7_addGlob (l : Launch) (hl0 : l.stackTraces = false) (Γ : gx_G) (C M : Mem) (a1 : Int32) {y0 : ((Int32 ⊕ Nat) × Mem)} (hf : fX7_addGlob C a1 = some y0) : vx_Met l yX7_addGlob (.code yX7_addGlob cX7_addGlob 3 (some .int) :: TsG) rm_X7_addGlob (va_Pc [.ref (Γ.1 0), .int a1] (gx_P Γ C M)) (gx_QiX Γ y0.1 y0.2 M) (gx_XX Γ y0.1 y0.2 M) 3 18 (gA Γ) := by
  refine gx_i (by decide) rfl (Nat.le_of_ble_eq_true rfl) hl0 (Nat.le_of_ble_eq_true rfl) (Nat.le_of_ble_eq_true rfl) (Nat.le_of_ble_eq_true rfl) (Nat.le_of_ble_eq_true rfl) ?_
  intro p e s m args below meth c Q S hG hret hthr hout ls H locs hl hW hS
  obtain ⟨hx, hb, hml, hown, hts⟩ := id S
  have hl : lv_has ls 3 [(0, .ref (Γ.1 0)), (1, .int a1)] := hl
  unfold fX7_addGlob at hf
  refine lv_aload_n hx hb dX7_addGlob_0 rfl (lv_at hl 0 rfl) ?_
  refine lv_iload_n hx hb dX7_addGlob_1 rfl (lv_at hl 1 rfl) ?_
  obtain ⟨q2, hq2, hf⟩ := bnd_e hf
  refine gxk_v hS (gvx_run (rest := []) S hG hW hS [.int a1] (c_X7_requireTarget l hl0 Γ C M a1 hq2) pk_X7_requireTarget rfl ml_X7_150 rfl rfl ⟨Nat.le_of_ble_eq_true rfl, Nat.le_of_ble_eq_true rfl⟩ rfl hl.1 rfl (Nat.le_of_ble_eq_true rfl) dX7_addGlob_2 ⟨Nat.le_of_ble_eq_true rfl, Nat.le_of_ble_eq_true rfl⟩) (fun H locs k9 ce9 z9 hW hS e9 hce hcv hcl => ?_) (fun H locs hW hS e9 => ?_)
  · have hf := sw_r e9 hf
    have e8 := Option.some.inj hf
    subst e8
    exact hout _ _ _ _ _ _ _ _ _ _ hW hS rfl hce hcv hcl (Nat.le_of_ble_eq_true rfl) (Nat.le_of_ble_eq_true rfl)
  have hf := sw_l e9 hf
  refine lv_aload_n hx hb dX7_addGlob_5 rfl (lv_at hl 0 rfl) ?_
  obtain ⟨q6, hq6, hf⟩ := bnd_e hf
  refine gxk_v hS (gvx_run (rest := []) S hG hW hS [] (c_X7_requireGlob l hl0 Γ C M hq6) pk_X7_requireGlob rfl ml_X7_153 rfl rfl ⟨Nat.le_of_ble_eq_true rfl, Nat.le_of_ble_eq_true rfl⟩ rfl hl.1 rfl (Nat.le_of_ble_eq_true rfl) dX7_addGlob_6 ⟨Nat.le_of_ble_eq_true rfl, Nat.le_of_ble_eq_true rfl⟩) (fun H locs k9 ce9 z9 hW hS e9 hce hcv hcl => ?_) (fun H locs hW hS e9 => ?_)
  · have hf := sw_r e9 hf
    have e8 := Option.some.inj hf
    subst e8
    exact hout _ _ _ _ _ _ _ _ _ _ hW hS rfl hce hcv hcl (Nat.le_of_ble_eq_true rfl) (Nat.le_of_ble_eq_true rfl)
  have hf := sw_l e9 hf
  refine lv_aload_n hx hb dX7_addGlob_9 rfl (lv_at hl 0 rfl) ?_
  refine get_X7_2 S hG hW fl_X7_26 dX7_addGlob_10 ?_
  refine lv_iload_n hx hb dX7_addGlob_13 rfl (lv_at hl 1 rfl) ?_
  obtain ⟨q14, hq14, hf⟩ := bnd_e hf
  refine gk0_r hS (gv_run (rest := []) S hG hW hS [.int a1] (c_X2_globsOf l Γ C M a1 hq14) pk_X2_globsOf ml_X7_156 (Nat.le_of_ble_eq_true rfl) rfl rfl rfl rfl ⟨Nat.le_of_ble_eq_true rfl, Nat.le_of_ble_eq_true rfl⟩ rfl hl.1 rfl (Nat.le_of_ble_eq_true rfl) dX7_addGlob_14 ⟨Nat.le_of_ble_eq_true rfl, Nat.le_of_ble_eq_true rfl⟩) (fun H locs hW hS => ?_)
  refine lv_astore_n (lv' := [(2, .ref (Γ.1 q14)), (0, .ref (Γ.1 0)), (1, .int a1)]) hx hb dX7_addGlob_17 rfl hl (by decide) rfl (fun ls hl => ?_)
  refine lv_aload_n hx hb dX7_addGlob_18 rfl (lv_at hl 0 rfl) ?_
  refine gk0_i hS (gv_run (rest := []) S hG hW hS [] (c_X1_isFull l Γ C M (sr_X2_globsOf hq14)) pk_X1_isFull ml_X7_160 (sh_lt9 (sr_X2_globsOf hq14)) (cc_9 (sr_X2_globsOf hq14) _ _) rfl rfl rfl ⟨Nat.le_of_ble_eq_true rfl, Nat.le_of_ble_eq_true rfl⟩ rfl hl.1 rfl (Nat.le_of_ble_eq_true rfl) dX7_addGlob_19 ⟨Nat.le_of_ble_eq_true rfl, Nat.le_of_ble_eq_true rfl⟩) (fun H locs hW hS => ?_)
  refine lv_if_eq (tgt := 35) hx hb dX7_addGlob_22 (by decide) (fun c22 => ?_) (fun c22 => ?_)
  · have hf := cn_t c22 hf
    refine lv_aload_n hx hb dX7_addGlob_35 rfl (lv_at hl 0 rfl) ?_
    refine lv_aload_n hx hb dX7_addGlob_36 rfl (lv_at hl 1 rfl) ?_
    refine get_X7_0 S hG hW fl_X7_10 dX7_addGlob_37 ?_
    refine lv_aload_n hx hb dX7_addGlob_40 rfl (lv_at hl 1 rfl) ?_
    refine get_X7_1 S hG hW fl_X7_19 dX7_addGlob_41 ?_
    refine lv_aload_n hx hb dX7_addGlob_44 rfl (lv_at hl 1 rfl) ?_
    refine get_X7_0 S hG hW fl_X7_10 dX7_addGlob_45 ?_
    obtain ⟨q48, hq48, hf⟩ := bnd_e hf
    refine gk0_i hS (gv_run (rest := [.ref (Γ.1 1), .ref (Γ.1 q14)]) S hG hW hS [.ref (Γ.1 1)] (c_X0_coveredBy l Γ C M shk_1 hq48) pk_X0_coveredBy ml_X7_165 (Nat.le_of_ble_eq_true rfl) rfl rfl rfl rfl ⟨Nat.le_of_ble_eq_true rfl, Nat.le_of_ble_eq_true rfl⟩ rfl hl.1 rfl (Nat.le_of_ble_eq_true rfl) dX7_addGlob_48 ⟨Nat.le_of_ble_eq_true rfl, Nat.le_of_ble_eq_true rfl⟩) (fun H locs hW hS => ?_)
    obtain ⟨q51, hq51, hf⟩ := bnd_e hf
    refine gk0_v hS (gv_run (rest := []) S hG hW hS [.ref (Γ.1 1), .int q48] (c_X1_add l Γ C M (sr_X2_globsOf hq14) shk_1 q48 hq51) pk_X1_add ml_X7_168 (sh_lt9 (sr_X2_globsOf hq14)) (cc_9 (sr_X2_globsOf hq14) _ _) rfl rfl rfl ⟨Nat.le_of_ble_eq_true rfl, Nat.le_of_ble_eq_true rfl⟩ rfl hl.1 rfl (Nat.le_of_ble_eq_true rfl) dX7_addGlob_51 ⟨Nat.le_of_ble_eq_true rfl, Nat.le_of_ble_eq_true rfl⟩) (fun H locs hW hS => ?_)
    refine lv_aload_n hx hb dX7_addGlob_54 rfl (lv_at hl 0 rfl) ?_
    obtain ⟨q55, hq55, hf⟩ := bnd_e hf
    refine gk0_i hS (gv_run (rest := []) S hG hW hS [] (c_X1_covered l Γ q51 M (sr_X2_globsOf hq14) hq55) pk_X1_covered ml_X7_171 (sh_lt9 (sr_X2_globsOf hq14)) (cc_9 (sr_X2_globsOf hq14) _ _) rfl rfl rfl ⟨Nat.le_of_ble_eq_true rfl, Nat.le_of_ble_eq_true rfl⟩ rfl hl.1 rfl (Nat.le_of_ble_eq_true rfl) dX7_addGlob_55 ⟨Nat.le_of_ble_eq_true rfl, Nat.le_of_ble_eq_true rfl⟩) (fun H locs hW hS => ?_)
    refine lv_aload_n hx hb dX7_addGlob_58 rfl (lv_at hl 1 rfl) ?_
    refine get_X7_1 S hG hW fl_X7_19 dX7_addGlob_59 ?_
    refine gk0_i hS (gv_run (rest := [.int q55]) S hG hW hS [] (c_X0_present l Γ q51 M) pk_X0_present ml_X7_126 (Nat.le_of_ble_eq_true rfl) rfl rfl rfl rfl ⟨Nat.le_of_ble_eq_true rfl, Nat.le_of_ble_eq_true rfl⟩ rfl hl.1 rfl (Nat.le_of_ble_eq_true rfl) dX7_addGlob_62 ⟨Nat.le_of_ble_eq_true rfl, Nat.le_of_ble_eq_true rfl⟩) (fun H locs hW hS => ?_)
    refine lv_iand hx hb dX7_addGlob_65 ?_
    refine gk0_i hS (gs_run (rest := []) S hG hW hS [.int (q55 &&& (fX0_present q51))] (c_J6_bitCount_0f7a4 l Γ q51 M (q55 &&& (fX0_present q51))) pk_J6_bitCount_0f7a4 ml_X7_174 rfl rfl ⟨Nat.le_of_ble_eq_true rfl, Nat.le_of_ble_eq_true rfl⟩ rfl hl.1 rfl (Nat.le_of_ble_eq_true rfl) dX7_addGlob_66 ⟨Nat.le_of_ble_eq_true rfl, Nat.le_of_ble_eq_true rfl⟩) (fun H locs hW hS => ?_)
    have e9 := Option.some.inj hf
    subst e9
    exact hret _ _ _ _ _ _ _ hW hS rfl rfl (Nat.le_of_ble_eq_true rfl) (Nat.le_of_ble_eq_true rfl) dX7_addGlob_69
  · have hf := cn_f c22 hf
    have e9 := Option.some.inj hf
    subst e9
    exact hthr _ _ _ _ _ _ _ 2 68 163 72 _ xw_2 (List.mem_of_getElem? (i := 12) rfl) hW hS hl.1 rfl (Nat.le_of_ble_eq_true rfl) (Nat.le_of_ble_eq_true rfl) (Nat.le_of_ble_eq_true rfl) dX7_addGlob_25 dX7_addGlob_28 (Or.inl ⟨dX7_addGlob_29, dX7_addGlob_31, dX7_addGlob_34⟩)
noncomputable def fX7_depend (C : Mem) (a1 : Int32) (a2 : Int32) : Option ((Int32 ⊕ Nat) × Mem) := bnd (fX7_requireTarget C a1) fun q2 => sw q2 (fun _ => bnd (fX7_requireTarget C a2) fun q7 => sw q7 (fun _ => bnd (fX2_dependenciesOf C a1) fun q15 => cnd ((fX7_holds q15 a2) = (0 : Int32)) (bnd (fX2_upFrom C ((1 : Int32) <<< (a1 &&& 31))) fun q42 => cnd ((fX7_holds q42 a2) = (0 : Int32)) (bnd (fX2_addDependency C a1 a2) fun q68 => bnd (fX2_dependenciesOf q68 a1) fun q76 => some (.inl (fJ6_bitCount_0f7a4 q76), q68)) (some (.inr 2, C))) (some (.inr 2, C))) (fun k => some (.inr k, C))) (fun k => some (.inr k, C))
abbrev rm_X7_depend : Room := { frames := 7, cells := 3, slots := 18, locals := 121 }
set_option maxRecDepth 100000 in
set_option maxHeartbeats 4000000 in
theorem c_X7_depend (l : Launch) (hl0 : l.stackTraces = false) (Γ : gx_G) (C M : Mem) (a1 : Int32) (a2 : Int32) {y0 : ((Int32 ⊕ Nat) × Mem)} (hf : fX7_depend C a1 a2 = some y0) : vx_Met l yX7_depend (.code yX7_depend cX7_depend 3 (some .int) :: TsG) rm_X7_depend (va_Pc [.ref (Γ.1 0), .int a1, .int a2] (gx_P Γ C M)) (gx_QiX Γ y0.1 y0.2 M) (gx_XX Γ y0.1 y0.2 M) 3 18 (gA Γ) := by
  refine gx_i (by decide) rfl (Nat.le_of_ble_eq_true rfl) hl0 (Nat.le_of_ble_eq_true rfl) (Nat.le_of_ble_eq_true rfl) (Nat.le_of_ble_eq_true rfl) (Nat.le_of_ble_eq_true rfl) ?_
  intro p e s m args below meth c Q S hG hret hthr hout ls H locs hl hW hS
  obtain ⟨hx, hb, hml, hown, hts⟩ := id S
  have hl : lv_has ls 3 [(0, .ref (Γ.1 0)), (1, .int a1), (2, .int a2)] := hl
  unfold fX7_depend at hf
  refine lv_aload_n hx hb dX7_depend_0 rfl (lv_at hl 0 rfl) ?_
  refine lv_iload_n hx hb dX7_depend_1 rfl (lv_at hl 1 rfl) ?_
  obtain ⟨q2, hq2, hf⟩ := bnd_e hf
  refine gxk_v hS (gvx_run (rest := []) S hG hW hS [.int a1] (c_X7_requireTarget l hl0 Γ C M a1 hq2) pk_X7_requireTarget rfl ml_X7_150 rfl rfl ⟨Nat.le_of_ble_eq_true rfl, Nat.le_of_ble_eq_true rfl⟩ rfl hl.1 rfl (Nat.le_of_ble_eq_true rfl) dX7_depend_2 ⟨Nat.le_of_ble_eq_true rfl, Nat.le_of_ble_eq_true rfl⟩) (fun H locs k9 ce9 z9 hW hS e9 hce hcv hcl => ?_) (fun H locs hW hS e9 => ?_)
  · have hf := sw_r e9 hf
    have e8 := Option.some.inj hf
    subst e8
    exact hout _ _ _ _ _ _ _ _ _ _ hW hS rfl hce hcv hcl (Nat.le_of_ble_eq_true rfl) (Nat.le_of_ble_eq_true rfl)
  have hf := sw_l e9 hf
  refine lv_aload_n hx hb dX7_depend_5 rfl (lv_at hl 0 rfl) ?_
  refine lv_iload_n hx hb dX7_depend_6 rfl (lv_at hl 2 rfl) ?_
  obtain ⟨q7, hq7, hf⟩ := bnd_e hf
  refine gxk_v hS (gvx_run (rest := []) S hG hW hS [.int a2] (c_X7_requireTarget l hl0 Γ C M a2 hq7) pk_X7_requireTarget rfl ml_X7_150 rfl rfl ⟨Nat.le_of_ble_eq_true rfl, Nat.le_of_ble_eq_true rfl⟩ rfl hl.1 rfl (Nat.le_of_ble_eq_true rfl) dX7_depend_7 ⟨Nat.le_of_ble_eq_true rfl, Nat.le_of_ble_eq_true rfl⟩) (fun H locs k9 ce9 z9 hW hS e9 hce hcv hcl => ?_) (fun H locs hW hS e9 => ?_)
  · have hf := sw_r e9 hf
    have e8 := Option.some.inj hf
    subst e8
    exact hout _ _ _ _ _ _ _ _ _ _ hW hS rfl hce hcv hcl (Nat.le_of_ble_eq_true rfl) (Nat.le_of_ble_eq_true rfl)
  have hf := sw_l e9 hf
  refine lv_aload_n hx hb dX7_depend_10 rfl (lv_at hl 0 rfl) ?_
  refine get_X7_2 S hG hW fl_X7_26 dX7_depend_11 ?_
  refine lv_iload_n hx hb dX7_depend_14 rfl (lv_at hl 1 rfl) ?_
  obtain ⟨q15, hq15, hf⟩ := bnd_e hf
  refine gk0_i hS (gv_run (rest := []) S hG hW hS [.int a1] (c_X2_dependenciesOf l Γ C M a1 hq15) pk_X2_dependenciesOf ml_X7_179 (Nat.le_of_ble_eq_true rfl) rfl rfl rfl rfl ⟨Nat.le_of_ble_eq_true rfl, Nat.le_of_ble_eq_true rfl⟩ rfl hl.1 rfl (Nat.le_of_ble_eq_true rfl) dX7_depend_15 ⟨Nat.le_of_ble_eq_true rfl, Nat.le_of_ble_eq_true rfl⟩) (fun H locs hW hS => ?_)
  refine lv_iload_n hx hb dX7_depend_18 rfl (lv_at hl 2 rfl) ?_
  refine gk0_i hS (gs_run (rest := []) S hG hW hS [.int q15, .int a2] (c_X7_holds l Γ C M q15 a2) pk_X7_holds ml_X7_182 rfl rfl ⟨Nat.le_of_ble_eq_true rfl, Nat.le_of_ble_eq_true rfl⟩ rfl hl.1 rfl (Nat.le_of_ble_eq_true rfl) dX7_depend_19 ⟨Nat.le_of_ble_eq_true rfl, Nat.le_of_ble_eq_true rfl⟩) (fun H locs hW hS => ?_)
  refine lv_if_eq (tgt := 35) hx hb dX7_depend_22 (by decide) (fun c22 => ?_) (fun c22 => ?_)
  · have hf := cn_t c22 hf
    refine lv_aload_n hx hb dX7_depend_35 rfl (lv_at hl 0 rfl) ?_
    refine get_X7_2 S hG hW fl_X7_26 dX7_depend_36 ?_
    refine lv_iconst (v := (1 : Int32)) hx hb dX7_depend_39 (by decide) ?_
    refine lv_iload_n hx hb dX7_depend_40 rfl (lv_at hl 1 rfl) ?_
    refine lv_ishl hx hb dX7_depend_41 ?_
    obtain ⟨q42, hq42, hf⟩ := bnd_e hf
    refine gk0_i hS (gv_run (rest := []) S hG hW hS [.int ((1 : Int32) <<< (a1 &&& 31))] (c_X2_upFrom l Γ C M ((1 : Int32) <<< (a1 &&& 31)) hq42) pk_X2_upFrom ml_X7_188 (Nat.le_of_ble_eq_true rfl) rfl rfl rfl rfl ⟨Nat.le_of_ble_eq_true rfl, Nat.le_of_ble_eq_true rfl⟩ rfl hl.1 rfl (Nat.le_of_ble_eq_true rfl) dX7_depend_42 ⟨Nat.le_of_ble_eq_true rfl, Nat.le_of_ble_eq_true rfl⟩) (fun H locs hW hS => ?_)
    refine lv_iload_n hx hb dX7_depend_45 rfl (lv_at hl 2 rfl) ?_
    refine gk0_i hS (gs_run (rest := []) S hG hW hS [.int q42, .int a2] (c_X7_holds l Γ C M q42 a2) pk_X7_holds ml_X7_182 rfl rfl ⟨Nat.le_of_ble_eq_true rfl, Nat.le_of_ble_eq_true rfl⟩ rfl hl.1 rfl (Nat.le_of_ble_eq_true rfl) dX7_depend_46 ⟨Nat.le_of_ble_eq_true rfl, Nat.le_of_ble_eq_true rfl⟩) (fun H locs hW hS => ?_)
    refine lv_if_eq (tgt := 62) hx hb dX7_depend_49 (by decide) (fun c49 => ?_) (fun c49 => ?_)
    · have hf := cn_t c49 hf
      refine lv_aload_n hx hb dX7_depend_62 rfl (lv_at hl 0 rfl) ?_
      refine get_X7_2 S hG hW fl_X7_26 dX7_depend_63 ?_
      refine lv_iload_n hx hb dX7_depend_66 rfl (lv_at hl 1 rfl) ?_
      refine lv_iload_n hx hb dX7_depend_67 rfl (lv_at hl 2 rfl) ?_
      obtain ⟨q68, hq68, hf⟩ := bnd_e hf
      refine gk0_v hS (gv_run (rest := []) S hG hW hS [.int a1, .int a2] (c_X2_addDependency l Γ C M a1 a2 hq68) pk_X2_addDependency ml_X7_193 (Nat.le_of_ble_eq_true rfl) rfl rfl rfl rfl ⟨Nat.le_of_ble_eq_true rfl, Nat.le_of_ble_eq_true rfl⟩ rfl hl.1 rfl (Nat.le_of_ble_eq_true rfl) dX7_depend_68 ⟨Nat.le_of_ble_eq_true rfl, Nat.le_of_ble_eq_true rfl⟩) (fun H locs hW hS => ?_)
      refine lv_aload_n hx hb dX7_depend_71 rfl (lv_at hl 0 rfl) ?_
      refine get_X7_2 S hG hW fl_X7_26 dX7_depend_72 ?_
      refine lv_iload_n hx hb dX7_depend_75 rfl (lv_at hl 1 rfl) ?_
      obtain ⟨q76, hq76, hf⟩ := bnd_e hf
      refine gk0_i hS (gv_run (rest := []) S hG hW hS [.int a1] (c_X2_dependenciesOf l Γ q68 M a1 hq76) pk_X2_dependenciesOf ml_X7_179 (Nat.le_of_ble_eq_true rfl) rfl rfl rfl rfl ⟨Nat.le_of_ble_eq_true rfl, Nat.le_of_ble_eq_true rfl⟩ rfl hl.1 rfl (Nat.le_of_ble_eq_true rfl) dX7_depend_76 ⟨Nat.le_of_ble_eq_true rfl, Nat.le_of_ble_eq_true rfl⟩) (fun H locs hW hS => ?_)
      refine gk0_i hS (gs_run (rest := []) S hG hW hS [.int q76] (c_J6_bitCount_0f7a4 l Γ q68 M q76) pk_J6_bitCount_0f7a4 ml_X7_174 rfl rfl ⟨Nat.le_of_ble_eq_true rfl, Nat.le_of_ble_eq_true rfl⟩ rfl hl.1 rfl (Nat.le_of_ble_eq_true rfl) dX7_depend_79 ⟨Nat.le_of_ble_eq_true rfl, Nat.le_of_ble_eq_true rfl⟩) (fun H locs hW hS => ?_)
      have e9 := Option.some.inj hf
      subst e9
      exact hret _ _ _ _ _ _ _ hW hS rfl rfl (Nat.le_of_ble_eq_true rfl) (Nat.le_of_ble_eq_true rfl) dX7_depend_82
    · have hf := cn_f c49 hf
      have e9 := Option.some.inj hf
      subst e9
      exact hthr _ _ _ _ _ _ _ 2 68 191 72 _ xw_2 (List.mem_of_getElem? (i := 14) rfl) hW hS hl.1 rfl (Nat.le_of_ble_eq_true rfl) (Nat.le_of_ble_eq_true rfl) (Nat.le_of_ble_eq_true rfl) dX7_depend_52 dX7_depend_55 (Or.inl ⟨dX7_depend_56, dX7_depend_58, dX7_depend_61⟩)
  · have hf := cn_f c22 hf
    have e9 := Option.some.inj hf
    subst e9
    exact hthr _ _ _ _ _ _ _ 2 68 186 72 _ xw_2 (List.mem_of_getElem? (i := 13) rfl) hW hS hl.1 rfl (Nat.le_of_ble_eq_true rfl) (Nat.le_of_ble_eq_true rfl) (Nat.le_of_ble_eq_true rfl) dX7_depend_25 dX7_depend_28 (Or.inl ⟨dX7_depend_29, dX7_depend_31, dX7_depend_34⟩)
noncomputable def fX7_inputs (C : Mem) (a1 : Int32) : Option (Int32 ⊕ Nat) := bnd (fX7_requireTarget C a1) fun q2 => sw q2 (fun _ => bnd (fX2_globsOf C a1) fun q10 => bnd (fX1_covered C q10) fun q13 => some (.inl (q13 &&& (fX0_present C)))) (fun k => some (.inr k))
abbrev rm_X7_inputs : Room := { frames := 7, cells := 1, slots := 6, locals := 121 }
set_option maxRecDepth 100000 in
set_option maxHeartbeats 4000000 in
theorem c_X7_inputs (l : Launch) (hl0 : l.stackTraces = false) (Γ : gx_G) (C M : Mem) (a1 : Int32) {y0 : (Int32 ⊕ Nat)} (hf : fX7_inputs C a1 = some y0) : vx_Met l yX7_inputs (.code yX7_inputs cX7_inputs 2 (some .int) :: TsG) rm_X7_inputs (va_Pc [.ref (Γ.1 0), .int a1] (gx_P Γ C M)) (gx_QiX Γ y0 C M) (gx_XX Γ y0 C M) 1 6 (gA Γ) := by
  refine gx_i (by decide) rfl (Nat.le_of_ble_eq_true rfl) hl0 (Nat.le_of_ble_eq_true rfl) (Nat.le_of_ble_eq_true rfl) (Nat.le_of_ble_eq_true rfl) (Nat.le_of_ble_eq_true rfl) ?_
  intro p e s m args below meth c Q S hG hret hthr hout ls H locs hl hW hS
  obtain ⟨hx, hb, hml, hown, hts⟩ := id S
  have hl : lv_has ls 2 [(0, .ref (Γ.1 0)), (1, .int a1)] := hl
  unfold fX7_inputs at hf
  refine lv_aload_n hx hb dX7_inputs_0 rfl (lv_at hl 0 rfl) ?_
  refine lv_iload_n hx hb dX7_inputs_1 rfl (lv_at hl 1 rfl) ?_
  obtain ⟨q2, hq2, hf⟩ := bnd_e hf
  refine gxk_v hS (gvx_run (rest := []) S hG hW hS [.int a1] (c_X7_requireTarget l hl0 Γ C M a1 hq2) pk_X7_requireTarget rfl ml_X7_150 rfl rfl ⟨Nat.le_of_ble_eq_true rfl, Nat.le_of_ble_eq_true rfl⟩ rfl hl.1 rfl (Nat.le_of_ble_eq_true rfl) dX7_inputs_2 ⟨Nat.le_of_ble_eq_true rfl, Nat.le_of_ble_eq_true rfl⟩) (fun H locs k9 ce9 z9 hW hS e9 hce hcv hcl => ?_) (fun H locs hW hS e9 => ?_)
  · have hf := sw_r e9 hf
    have e8 := Option.some.inj hf
    subst e8
    exact hout _ _ _ _ _ _ _ _ _ _ hW hS rfl hce hcv hcl (Nat.le_of_ble_eq_true rfl) (Nat.le_of_ble_eq_true rfl)
  have hf := sw_l e9 hf
  refine lv_aload_n hx hb dX7_inputs_5 rfl (lv_at hl 0 rfl) ?_
  refine get_X7_2 S hG hW fl_X7_26 dX7_inputs_6 ?_
  refine lv_iload_n hx hb dX7_inputs_9 rfl (lv_at hl 1 rfl) ?_
  obtain ⟨q10, hq10, hf⟩ := bnd_e hf
  refine gk0_r hS (gv_run (rest := []) S hG hW hS [.int a1] (c_X2_globsOf l Γ C M a1 hq10) pk_X2_globsOf ml_X7_156 (Nat.le_of_ble_eq_true rfl) rfl rfl rfl rfl ⟨Nat.le_of_ble_eq_true rfl, Nat.le_of_ble_eq_true rfl⟩ rfl hl.1 rfl (Nat.le_of_ble_eq_true rfl) dX7_inputs_10 ⟨Nat.le_of_ble_eq_true rfl, Nat.le_of_ble_eq_true rfl⟩) (fun H locs hW hS => ?_)
  obtain ⟨q13, hq13, hf⟩ := bnd_e hf
  refine gk0_i hS (gv_run (rest := []) S hG hW hS [] (c_X1_covered l Γ C M (sr_X2_globsOf hq10) hq13) pk_X1_covered ml_X7_171 (sh_lt9 (sr_X2_globsOf hq10)) (cc_9 (sr_X2_globsOf hq10) _ _) rfl rfl rfl ⟨Nat.le_of_ble_eq_true rfl, Nat.le_of_ble_eq_true rfl⟩ rfl hl.1 rfl (Nat.le_of_ble_eq_true rfl) dX7_inputs_13 ⟨Nat.le_of_ble_eq_true rfl, Nat.le_of_ble_eq_true rfl⟩) (fun H locs hW hS => ?_)
  refine lv_aload_n hx hb dX7_inputs_16 rfl (lv_at hl 0 rfl) ?_
  refine get_X7_1 S hG hW fl_X7_19 dX7_inputs_17 ?_
  refine gk0_i hS (gv_run (rest := [.int q13]) S hG hW hS [] (c_X0_present l Γ C M) pk_X0_present ml_X7_126 (Nat.le_of_ble_eq_true rfl) rfl rfl rfl rfl ⟨Nat.le_of_ble_eq_true rfl, Nat.le_of_ble_eq_true rfl⟩ rfl hl.1 rfl (Nat.le_of_ble_eq_true rfl) dX7_inputs_20 ⟨Nat.le_of_ble_eq_true rfl, Nat.le_of_ble_eq_true rfl⟩) (fun H locs hW hS => ?_)
  refine lv_iand hx hb dX7_inputs_23 ?_
  have e9 := Option.some.inj hf
  subst e9
  exact hret _ _ _ _ _ _ _ hW hS rfl rfl (Nat.le_of_ble_eq_true rfl) (Nat.le_of_ble_eq_true rfl) dX7_inputs_24
noncomputable def fX7_above (C : Mem) (a1 : Int32) : Option (Int32 ⊕ Nat) := bnd (fX7_requireTarget C a1) fun q2 => sw q2 (fun _ => nmv (((1 : Int32) <<< (a1 &&& 31))) fun v8 => bnd (fX2_upFrom C v8) fun q14 => some (.inl (q14 &&& (v8 ^^^ (-1 : Int32))))) (fun k => some (.inr k))
abbrev rm_X7_above : Room := { frames := 7, cells := 1, slots := 6, locals := 121 }
set_option maxRecDepth 100000 in
set_option maxHeartbeats 4000000 in
theorem c_X7_above (l : Launch) (hl0 : l.stackTraces = false) (Γ : gx_G) (C M : Mem) (a1 : Int32) {y0 : (Int32 ⊕ Nat)} (hf : fX7_above C a1 = some y0) : vx_Met l yX7_above (.code yX7_above cX7_above 3 (some .int) :: TsG) rm_X7_above (va_Pc [.ref (Γ.1 0), .int a1] (gx_P Γ C M)) (gx_QiX Γ y0 C M) (gx_XX Γ y0 C M) 1 6 (gA Γ) := by
  refine gx_i (by decide) rfl (Nat.le_of_ble_eq_true rfl) hl0 (Nat.le_of_ble_eq_true rfl) (Nat.le_of_ble_eq_true rfl) (Nat.le_of_ble_eq_true rfl) (Nat.le_of_ble_eq_true rfl) ?_
  intro p e s m args below meth c Q S hG hret hthr hout ls H locs hl hW hS
  obtain ⟨hx, hb, hml, hown, hts⟩ := id S
  have hl : lv_has ls 3 [(0, .ref (Γ.1 0)), (1, .int a1)] := hl
  unfold fX7_above at hf
  refine lv_aload_n hx hb dX7_above_0 rfl (lv_at hl 0 rfl) ?_
  refine lv_iload_n hx hb dX7_above_1 rfl (lv_at hl 1 rfl) ?_
  obtain ⟨q2, hq2, hf⟩ := bnd_e hf
  refine gxk_v hS (gvx_run (rest := []) S hG hW hS [.int a1] (c_X7_requireTarget l hl0 Γ C M a1 hq2) pk_X7_requireTarget rfl ml_X7_150 rfl rfl ⟨Nat.le_of_ble_eq_true rfl, Nat.le_of_ble_eq_true rfl⟩ rfl hl.1 rfl (Nat.le_of_ble_eq_true rfl) dX7_above_2 ⟨Nat.le_of_ble_eq_true rfl, Nat.le_of_ble_eq_true rfl⟩) (fun H locs k9 ce9 z9 hW hS e9 hce hcv hcl => ?_) (fun H locs hW hS e9 => ?_)
  · have hf := sw_r e9 hf
    have e8 := Option.some.inj hf
    subst e8
    exact hout _ _ _ _ _ _ _ _ _ _ hW hS rfl hce hcv hcl (Nat.le_of_ble_eq_true rfl) (Nat.le_of_ble_eq_true rfl)
  have hf := sw_l e9 hf
  refine lv_iconst (v := (1 : Int32)) hx hb dX7_above_5 (by decide) ?_
  refine lv_iload_n hx hb dX7_above_6 rfl (lv_at hl 1 rfl) ?_
  refine lv_ishl hx hb dX7_above_7 ?_
  refine lv_topi (fun v8 ev8 => ?_)
  have hf := nm_v ev8 hf
  refine lv_istore_n (lv' := [(2, .int v8), (0, .ref (Γ.1 0)), (1, .int a1)]) hx hb dX7_above_8 rfl hl (by decide) rfl (fun ls hl => ?_)
  refine lv_aload_n hx hb dX7_above_9 rfl (lv_at hl 1 rfl) ?_
  refine get_X7_2 S hG hW fl_X7_26 dX7_above_10 ?_
  refine lv_iload_n hx hb dX7_above_13 rfl (lv_at hl 0 rfl) ?_
  obtain ⟨q14, hq14, hf⟩ := bnd_e hf
  refine gk0_i hS (gv_run (rest := []) S hG hW hS [.int v8] (c_X2_upFrom l Γ C M v8 hq14) pk_X2_upFrom ml_X7_188 (Nat.le_of_ble_eq_true rfl) rfl rfl rfl rfl ⟨Nat.le_of_ble_eq_true rfl, Nat.le_of_ble_eq_true rfl⟩ rfl hl.1 rfl (Nat.le_of_ble_eq_true rfl) dX7_above_14 ⟨Nat.le_of_ble_eq_true rfl, Nat.le_of_ble_eq_true rfl⟩) (fun H locs hW hS => ?_)
  refine lv_iload_n hx hb dX7_above_17 rfl (lv_at hl 0 rfl) ?_
  refine lv_iconst (v := (-1 : Int32)) hx hb dX7_above_18 (by decide) ?_
  refine lv_ixor hx hb dX7_above_19 ?_
  refine lv_iand hx hb dX7_above_20 ?_
  have e9 := Option.some.inj hf
  subst e9
  exact hret _ _ _ _ _ _ _ hW hS rfl rfl (Nat.le_of_ble_eq_true rfl) (Nat.le_of_ble_eq_true rfl) dX7_above_21
noncomputable def fX7_orderAt_15 (C : Mem) : Option ((Int32 ⊕ Nat) × Mem) := some (.inr 3, C)
noncomputable def fX7_orderAt (C : Mem) (a1 : Int32) : Option ((Int32 ⊕ Nat) × Mem) := cnd (a1 < (0 : Int32)) (fX7_orderAt_15 C) (cnd (a1 < (fX2_size C)) (bnd (fX2_makeOrder C) fun q29 => bnd (fX2_atPlace q29 a1) fun q37 => some (.inl q37, q29)) (fX7_orderAt_15 C))
abbrev rm_X7_orderAt : Room := { frames := 6, cells := 1, slots := 6, locals := 100 }
set_option maxRecDepth 100000 in
set_option maxHeartbeats 4000000 in
theorem c_X7_orderAt (l : Launch) (hl0 : l.stackTraces = false) (Γ : gx_G) (C M : Mem) (a1 : Int32) {y0 : ((Int32 ⊕ Nat) × Mem)} (hf : fX7_orderAt C a1 = some y0) : vx_Met l yX7_orderAt (.code yX7_orderAt cX7_orderAt 2 (some .int) :: TsG) rm_X7_orderAt (va_Pc [.ref (Γ.1 0), .int a1] (gx_P Γ C M)) (gx_QiX Γ y0.1 y0.2 M) (gx_XX Γ y0.1 y0.2 M) 1 6 (gA Γ) := by
  refine gx_i (by decide) rfl (Nat.le_of_ble_eq_true rfl) hl0 (Nat.le_of_ble_eq_true rfl) (Nat.le_of_ble_eq_true rfl) (Nat.le_of_ble_eq_true rfl) (Nat.le_of_ble_eq_true rfl) ?_
  intro p e s m args below meth c Q S hG hret hthr hout ls H locs hl hW hS
  obtain ⟨hx, hb, hml, hown, hts⟩ := id S
  have hl : lv_has ls 2 [(0, .ref (Γ.1 0)), (1, .int a1)] := hl
  unfold fX7_orderAt at hf
  refine lv_iload_n hx hb dX7_orderAt_0 rfl (lv_at hl 1 rfl) ?_
  have J_15 : fX7_orderAt_15 C = some y0 → ∀ (H : Heap) (locs : List Loc) (ls : Array Slot), gx_W Γ C M H → va_S (gA Γ) s.heap H locs → lv_has ls 2 [] → W p l e rm_X7_orderAt s m args below meth c H locs 0 0 Q (F0 m 15 ls []) := by
    intro  hf H locs ls hW hS hl
    unfold fX7_orderAt_15 at hf
    have e9 := Option.some.inj hf
    subst e9
    exact hthr _ _ _ _ _ _ _ 3 197 199 201 _ xw_3 (List.mem_of_getElem? (i := 15) rfl) hW hS hl.1 rfl (Nat.le_of_ble_eq_true rfl) (Nat.le_of_ble_eq_true rfl) (Nat.le_of_ble_eq_true rfl) dX7_orderAt_15 dX7_orderAt_18 (Or.inl ⟨dX7_orderAt_19, dX7_orderAt_21, dX7_orderAt_24⟩)
  refine lv_if_lt (tgt := 15) hx hb dX7_orderAt_1 (by decide) (fun c1 => ?_) (fun c1 => ?_)
  · have hf := cn_t c1 hf
    exact J_15  hf H locs ls hW hS (lv_sub hl [] rfl)
  · have hf := cn_f c1 hf
    refine lv_iload_n hx hb dX7_orderAt_4 rfl (lv_at hl 1 rfl) ?_
    refine lv_aload_n hx hb dX7_orderAt_5 rfl (lv_at hl 0 rfl) ?_
    refine get_X7_2 S hG hW fl_X7_26 dX7_orderAt_6 ?_
    refine gk0_i hS (gv_run (rest := [.int a1]) S hG hW hS [] (c_X2_size l Γ C M) pk_X2_size ml_X7_196 (Nat.le_of_ble_eq_true rfl) rfl rfl rfl rfl ⟨Nat.le_of_ble_eq_true rfl, Nat.le_of_ble_eq_true rfl⟩ rfl hl.1 rfl (Nat.le_of_ble_eq_true rfl) dX7_orderAt_9 ⟨Nat.le_of_ble_eq_true rfl, Nat.le_of_ble_eq_true rfl⟩) (fun H locs hW hS => ?_)
    refine lv_icmp_lt (tgt := 25) hx hb dX7_orderAt_12 (by decide) (fun c12 => ?_) (fun c12 => ?_)
    · have hf := cn_t c12 hf
      refine lv_aload_n hx hb dX7_orderAt_25 rfl (lv_at hl 0 rfl) ?_
      refine get_X7_2 S hG hW fl_X7_26 dX7_orderAt_26 ?_
      obtain ⟨q29, hq29, hf⟩ := bnd_e hf
      refine gk0_v hS (gv_run (rest := []) S hG hW hS [] (c_X2_makeOrder l Γ C M hq29) pk_X2_makeOrder ml_X7_202 (Nat.le_of_ble_eq_true rfl) rfl rfl rfl rfl ⟨Nat.le_of_ble_eq_true rfl, Nat.le_of_ble_eq_true rfl⟩ rfl hl.1 rfl (Nat.le_of_ble_eq_true rfl) dX7_orderAt_29 ⟨Nat.le_of_ble_eq_true rfl, Nat.le_of_ble_eq_true rfl⟩) (fun H locs hW hS => ?_)
      refine lv_aload_n hx hb dX7_orderAt_32 rfl (lv_at hl 0 rfl) ?_
      refine get_X7_2 S hG hW fl_X7_26 dX7_orderAt_33 ?_
      refine lv_iload_n hx hb dX7_orderAt_36 rfl (lv_at hl 1 rfl) ?_
      obtain ⟨q37, hq37, hf⟩ := bnd_e hf
      refine gk0_i hS (gv_run (rest := []) S hG hW hS [.int a1] (c_X2_atPlace l Γ q29 M a1 hq37) pk_X2_atPlace ml_X7_205 (Nat.le_of_ble_eq_true rfl) rfl rfl rfl rfl ⟨Nat.le_of_ble_eq_true rfl, Nat.le_of_ble_eq_true rfl⟩ rfl hl.1 rfl (Nat.le_of_ble_eq_true rfl) dX7_orderAt_37 ⟨Nat.le_of_ble_eq_true rfl, Nat.le_of_ble_eq_true rfl⟩) (fun H locs hW hS => ?_)
      have e9 := Option.some.inj hf
      subst e9
      exact hret _ _ _ _ _ _ _ hW hS rfl rfl (Nat.le_of_ble_eq_true rfl) (Nat.le_of_ble_eq_true rfl) dX7_orderAt_40
    · have hf := cn_f c12 hf
      exact J_15  hf H locs ls hW hS (lv_sub hl [] rfl)
noncomputable def fX7_affectedBy (C : Mem) (a1 : Int32) : Option (Int32 ⊕ Nat) := bnd (fX7_requireFile C a1) fun q2 => sw q2 (fun _ => bnd (fX2_covering C a1) fun q14 => bnd (fX2_upFrom C q14) fun q17 => some (.inl q17)) (fun k => some (.inr k))
abbrev rm_X7_affectedBy : Room := { frames := 7, cells := 1, slots := 6, locals := 121 }
set_option maxRecDepth 100000 in
set_option maxHeartbeats 4000000 in
theorem c_X7_affectedBy (l : Launch) (hl0 : l.stackTraces = false) (Γ : gx_G) (C M : Mem) (a1 : Int32) {y0 : (Int32 ⊕ Nat)} (hf : fX7_affectedBy C a1 = some y0) : vx_Met l yX7_affectedBy (.code yX7_affectedBy cX7_affectedBy 2 (some .int) :: TsG) rm_X7_affectedBy (va_Pc [.ref (Γ.1 0), .int a1] (gx_P Γ C M)) (gx_QiX Γ y0 C M) (gx_XX Γ y0 C M) 1 6 (gA Γ) := by
  refine gx_i (by decide) rfl (Nat.le_of_ble_eq_true rfl) hl0 (Nat.le_of_ble_eq_true rfl) (Nat.le_of_ble_eq_true rfl) (Nat.le_of_ble_eq_true rfl) (Nat.le_of_ble_eq_true rfl) ?_
  intro p e s m args below meth c Q S hG hret hthr hout ls H locs hl hW hS
  obtain ⟨hx, hb, hml, hown, hts⟩ := id S
  have hl : lv_has ls 2 [(0, .ref (Γ.1 0)), (1, .int a1)] := hl
  unfold fX7_affectedBy at hf
  refine lv_aload_n hx hb dX7_affectedBy_0 rfl (lv_at hl 0 rfl) ?_
  refine lv_iload_n hx hb dX7_affectedBy_1 rfl (lv_at hl 1 rfl) ?_
  obtain ⟨q2, hq2, hf⟩ := bnd_e hf
  refine gxk_v hS (gvx_run (rest := []) S hG hW hS [.int a1] (c_X7_requireFile l hl0 Γ C M a1 hq2) pk_X7_requireFile rfl ml_X7_129 rfl rfl ⟨Nat.le_of_ble_eq_true rfl, Nat.le_of_ble_eq_true rfl⟩ rfl hl.1 rfl (Nat.le_of_ble_eq_true rfl) dX7_affectedBy_2 ⟨Nat.le_of_ble_eq_true rfl, Nat.le_of_ble_eq_true rfl⟩) (fun H locs k9 ce9 z9 hW hS e9 hce hcv hcl => ?_) (fun H locs hW hS e9 => ?_)
  · have hf := sw_r e9 hf
    have e8 := Option.some.inj hf
    subst e8
    exact hout _ _ _ _ _ _ _ _ _ _ hW hS rfl hce hcv hcl (Nat.le_of_ble_eq_true rfl) (Nat.le_of_ble_eq_true rfl)
  have hf := sw_l e9 hf
  refine lv_aload_n hx hb dX7_affectedBy_5 rfl (lv_at hl 0 rfl) ?_
  refine get_X7_2 S hG hW fl_X7_26 dX7_affectedBy_6 ?_
  refine lv_aload_n hx hb dX7_affectedBy_9 rfl (lv_at hl 0 rfl) ?_
  refine get_X7_2 S hG hW fl_X7_26 dX7_affectedBy_10 ?_
  refine lv_iload_n hx hb dX7_affectedBy_13 rfl (lv_at hl 1 rfl) ?_
  obtain ⟨q14, hq14, hf⟩ := bnd_e hf
  refine gk0_i hS (gv_run (rest := [.ref (Γ.1 55)]) S hG hW hS [.int a1] (c_X2_covering l Γ C M a1 hq14) pk_X2_covering ml_X7_208 (Nat.le_of_ble_eq_true rfl) rfl rfl rfl rfl ⟨Nat.le_of_ble_eq_true rfl, Nat.le_of_ble_eq_true rfl⟩ rfl hl.1 rfl (Nat.le_of_ble_eq_true rfl) dX7_affectedBy_14 ⟨Nat.le_of_ble_eq_true rfl, Nat.le_of_ble_eq_true rfl⟩) (fun H locs hW hS => ?_)
  obtain ⟨q17, hq17, hf⟩ := bnd_e hf
  refine gk0_i hS (gv_run (rest := []) S hG hW hS [.int q14] (c_X2_upFrom l Γ C M q14 hq17) pk_X2_upFrom ml_X7_188 (Nat.le_of_ble_eq_true rfl) rfl rfl rfl rfl ⟨Nat.le_of_ble_eq_true rfl, Nat.le_of_ble_eq_true rfl⟩ rfl hl.1 rfl (Nat.le_of_ble_eq_true rfl) dX7_affectedBy_17 ⟨Nat.le_of_ble_eq_true rfl, Nat.le_of_ble_eq_true rfl⟩) (fun H locs hW hS => ?_)
  have e9 := Option.some.inj hf
  subst e9
  exact hret _ _ _ _ _ _ _ hW hS rfl rfl (Nat.le_of_ble_eq_true rfl) (Nat.le_of_ble_eq_true rfl) dX7_affectedBy_20
noncomputable def fX7_affectedByGoingDown (C : Mem) (a1 : Int32) : Option (Int32 ⊕ Nat) := bnd (fX7_requireFile C a1) fun q2 => sw q2 (fun _ => bnd (fX2_covering C a1) fun q14 => bnd (fX2_reachingDown C q14) fun q17 => some (.inl q17)) (fun k => some (.inr k))
abbrev rm_X7_affectedByGoingDown : Room := { frames := 7, cells := 1, slots := 6, locals := 121 }
set_option maxRecDepth 100000 in
set_option maxHeartbeats 4000000 in
theorem c_X7_affectedByGoingDown (l : Launch) (hl0 : l.stackTraces = false) (Γ : gx_G) (C M : Mem) (a1 : Int32) {y0 : (Int32 ⊕ Nat)} (hf : fX7_affectedByGoingDown C a1 = some y0) : vx_Met l yX7_affectedByGoingDown (.code yX7_affectedByGoingDown cX7_affectedByGoingDown 2 (some .int) :: TsG) rm_X7_affectedByGoingDown (va_Pc [.ref (Γ.1 0), .int a1] (gx_P Γ C M)) (gx_QiX Γ y0 C M) (gx_XX Γ y0 C M) 1 6 (gA Γ) := by
  refine gx_i (by decide) rfl (Nat.le_of_ble_eq_true rfl) hl0 (Nat.le_of_ble_eq_true rfl) (Nat.le_of_ble_eq_true rfl) (Nat.le_of_ble_eq_true rfl) (Nat.le_of_ble_eq_true rfl) ?_
  intro p e s m args below meth c Q S hG hret hthr hout ls H locs hl hW hS
  obtain ⟨hx, hb, hml, hown, hts⟩ := id S
  have hl : lv_has ls 2 [(0, .ref (Γ.1 0)), (1, .int a1)] := hl
  unfold fX7_affectedByGoingDown at hf
  refine lv_aload_n hx hb dX7_affectedByGoingDown_0 rfl (lv_at hl 0 rfl) ?_
  refine lv_iload_n hx hb dX7_affectedByGoingDown_1 rfl (lv_at hl 1 rfl) ?_
  obtain ⟨q2, hq2, hf⟩ := bnd_e hf
  refine gxk_v hS (gvx_run (rest := []) S hG hW hS [.int a1] (c_X7_requireFile l hl0 Γ C M a1 hq2) pk_X7_requireFile rfl ml_X7_129 rfl rfl ⟨Nat.le_of_ble_eq_true rfl, Nat.le_of_ble_eq_true rfl⟩ rfl hl.1 rfl (Nat.le_of_ble_eq_true rfl) dX7_affectedByGoingDown_2 ⟨Nat.le_of_ble_eq_true rfl, Nat.le_of_ble_eq_true rfl⟩) (fun H locs k9 ce9 z9 hW hS e9 hce hcv hcl => ?_) (fun H locs hW hS e9 => ?_)
  · have hf := sw_r e9 hf
    have e8 := Option.some.inj hf
    subst e8
    exact hout _ _ _ _ _ _ _ _ _ _ hW hS rfl hce hcv hcl (Nat.le_of_ble_eq_true rfl) (Nat.le_of_ble_eq_true rfl)
  have hf := sw_l e9 hf
  refine lv_aload_n hx hb dX7_affectedByGoingDown_5 rfl (lv_at hl 0 rfl) ?_
  refine get_X7_2 S hG hW fl_X7_26 dX7_affectedByGoingDown_6 ?_
  refine lv_aload_n hx hb dX7_affectedByGoingDown_9 rfl (lv_at hl 0 rfl) ?_
  refine get_X7_2 S hG hW fl_X7_26 dX7_affectedByGoingDown_10 ?_
  refine lv_iload_n hx hb dX7_affectedByGoingDown_13 rfl (lv_at hl 1 rfl) ?_
  obtain ⟨q14, hq14, hf⟩ := bnd_e hf
  refine gk0_i hS (gv_run (rest := [.ref (Γ.1 55)]) S hG hW hS [.int a1] (c_X2_covering l Γ C M a1 hq14) pk_X2_covering ml_X7_208 (Nat.le_of_ble_eq_true rfl) rfl rfl rfl rfl ⟨Nat.le_of_ble_eq_true rfl, Nat.le_of_ble_eq_true rfl⟩ rfl hl.1 rfl (Nat.le_of_ble_eq_true rfl) dX7_affectedByGoingDown_14 ⟨Nat.le_of_ble_eq_true rfl, Nat.le_of_ble_eq_true rfl⟩) (fun H locs hW hS => ?_)
  obtain ⟨q17, hq17, hf⟩ := bnd_e hf
  refine gk0_i hS (gv_run (rest := []) S hG hW hS [.int q14] (c_X2_reachingDown l Γ C M q14 hq17) pk_X2_reachingDown ml_X7_211 (Nat.le_of_ble_eq_true rfl) rfl rfl rfl rfl ⟨Nat.le_of_ble_eq_true rfl, Nat.le_of_ble_eq_true rfl⟩ rfl hl.1 rfl (Nat.le_of_ble_eq_true rfl) dX7_affectedByGoingDown_17 ⟨Nat.le_of_ble_eq_true rfl, Nat.le_of_ble_eq_true rfl⟩) (fun H locs hW hS => ?_)
  have e9 := Option.some.inj hf
  subst e9
  exact hret _ _ _ _ _ _ _ hW hS rfl rfl (Nat.le_of_ble_eq_true rfl) (Nat.le_of_ble_eq_true rfl) dX7_affectedByGoingDown_20
noncomputable def fX7_keyOf (C : Mem) (a1 : Int32) : Option ((Int32 ⊕ Nat) × Mem) := bnd (fX7_requireTarget C a1) fun q2 => sw q2 (fun _ => bnd (fX3_lookUpAll C) fun q9 => bnd (fX3_keyNow q9 a1) fun q17 => some (.inl q17, q9)) (fun k => some (.inr k, C))
abbrev rm_X7_keyOf : Room := { frames := 7, cells := 1, slots := 6, locals := 121 }
set_option maxRecDepth 100000 in
set_option maxHeartbeats 4000000 in
theorem c_X7_keyOf (l : Launch) (hl0 : l.stackTraces = false) (Γ : gx_G) (C M : Mem) (a1 : Int32) {y0 : ((Int32 ⊕ Nat) × Mem)} (hf : fX7_keyOf C a1 = some y0) : vx_Met l yX7_keyOf (.code yX7_keyOf cX7_keyOf 2 (some .int) :: TsG) rm_X7_keyOf (va_Pc [.ref (Γ.1 0), .int a1] (gx_P Γ C M)) (gx_QiX Γ y0.1 y0.2 M) (gx_XX Γ y0.1 y0.2 M) 1 6 (gA Γ) := by
  refine gx_i (by decide) rfl (Nat.le_of_ble_eq_true rfl) hl0 (Nat.le_of_ble_eq_true rfl) (Nat.le_of_ble_eq_true rfl) (Nat.le_of_ble_eq_true rfl) (Nat.le_of_ble_eq_true rfl) ?_
  intro p e s m args below meth c Q S hG hret hthr hout ls H locs hl hW hS
  obtain ⟨hx, hb, hml, hown, hts⟩ := id S
  have hl : lv_has ls 2 [(0, .ref (Γ.1 0)), (1, .int a1)] := hl
  unfold fX7_keyOf at hf
  refine lv_aload_n hx hb dX7_keyOf_0 rfl (lv_at hl 0 rfl) ?_
  refine lv_iload_n hx hb dX7_keyOf_1 rfl (lv_at hl 1 rfl) ?_
  obtain ⟨q2, hq2, hf⟩ := bnd_e hf
  refine gxk_v hS (gvx_run (rest := []) S hG hW hS [.int a1] (c_X7_requireTarget l hl0 Γ C M a1 hq2) pk_X7_requireTarget rfl ml_X7_150 rfl rfl ⟨Nat.le_of_ble_eq_true rfl, Nat.le_of_ble_eq_true rfl⟩ rfl hl.1 rfl (Nat.le_of_ble_eq_true rfl) dX7_keyOf_2 ⟨Nat.le_of_ble_eq_true rfl, Nat.le_of_ble_eq_true rfl⟩) (fun H locs k9 ce9 z9 hW hS e9 hce hcv hcl => ?_) (fun H locs hW hS e9 => ?_)
  · have hf := sw_r e9 hf
    have e8 := Option.some.inj hf
    subst e8
    exact hout _ _ _ _ _ _ _ _ _ _ hW hS rfl hce hcv hcl (Nat.le_of_ble_eq_true rfl) (Nat.le_of_ble_eq_true rfl)
  have hf := sw_l e9 hf
  refine lv_aload_n hx hb dX7_keyOf_5 rfl (lv_at hl 0 rfl) ?_
  refine get_X7_3 S hG hW fl_X7_35 dX7_keyOf_6 ?_
  obtain ⟨q9, hq9, hf⟩ := bnd_e hf
  refine gk0_v hS (gv_run (rest := []) S hG hW hS [] (c_X3_lookUpAll l Γ C M hq9) pk_X3_lookUpAll ml_X7_214 (Nat.le_of_ble_eq_true rfl) rfl rfl rfl rfl ⟨Nat.le_of_ble_eq_true rfl, Nat.le_of_ble_eq_true rfl⟩ rfl hl.1 rfl (Nat.le_of_ble_eq_true rfl) dX7_keyOf_9 ⟨Nat.le_of_ble_eq_true rfl, Nat.le_of_ble_eq_true rfl⟩) (fun H locs hW hS => ?_)
  refine lv_aload_n hx hb dX7_keyOf_12 rfl (lv_at hl 0 rfl) ?_
  refine get_X7_3 S hG hW fl_X7_35 dX7_keyOf_13 ?_
  refine lv_iload_n hx hb dX7_keyOf_16 rfl (lv_at hl 1 rfl) ?_
  obtain ⟨q17, hq17, hf⟩ := bnd_e hf
  refine gk0_i hS (gv_run (rest := []) S hG hW hS [.int a1] (c_X3_keyNow l Γ q9 M a1 hq17) pk_X3_keyNow ml_X7_217 (Nat.le_of_ble_eq_true rfl) rfl rfl rfl rfl ⟨Nat.le_of_ble_eq_true rfl, Nat.le_of_ble_eq_true rfl⟩ rfl hl.1 rfl (Nat.le_of_ble_eq_true rfl) dX7_keyOf_17 ⟨Nat.le_of_ble_eq_true rfl, Nat.le_of_ble_eq_true rfl⟩) (fun H locs hW hS => ?_)
  have e9 := Option.some.inj hf
  subst e9
  exact hret _ _ _ _ _ _ _ hW hS rfl rfl (Nat.le_of_ble_eq_true rfl) (Nat.le_of_ble_eq_true rfl) dX7_keyOf_20
noncomputable def fX7_whyRun (C : Mem) (a1 : Int32) : Option ((Int32 ⊕ Nat) × Mem) := bnd (fX7_requireTarget C a1) fun q2 => sw q2 (fun _ => bnd (fX3_lookUpAll C) fun q9 => bnd (fX3_keyNow q9 a1) fun q17 => cnd (q17 = (0 : Int32)) (bnd (fX3_hasRun q9 a1) fun q30 => cnd (q30 = (0 : Int32)) (some (.inl (1 : Int32), q9)) (bnd (fX3_hasLatestInputs q9 a1) fun q43 => cnd (q43.1 = (0 : Int32)) (some (.inl (2 : Int32), q43.2)) (some (.inl (3 : Int32), q43.2)))) (some (.inl (0 : Int32), q9))) (fun k => some (.inr k, C))
abbrev rm_X7_whyRun : Room := { frames := 7, cells := 1, slots := 6, locals := 121 }
set_option maxRecDepth 100000 in
set_option maxHeartbeats 4000000 in
theorem c_X7_whyRun (l : Launch) (hl0 : l.stackTraces = false) (Γ : gx_G) (C M : Mem) (a1 : Int32) {y0 : ((Int32 ⊕ Nat) × Mem)} (hf : fX7_whyRun C a1 = some y0) : vx_Met l yX7_whyRun (.code yX7_whyRun cX7_whyRun 2 (some .int) :: TsG) rm_X7_whyRun (va_Pc [.ref (Γ.1 0), .int a1] (gx_P Γ C M)) (gx_QiX Γ y0.1 y0.2 M) (gx_XX Γ y0.1 y0.2 M) 1 6 (gA Γ) := by
  refine gx_i (by decide) rfl (Nat.le_of_ble_eq_true rfl) hl0 (Nat.le_of_ble_eq_true rfl) (Nat.le_of_ble_eq_true rfl) (Nat.le_of_ble_eq_true rfl) (Nat.le_of_ble_eq_true rfl) ?_
  intro p e s m args below meth c Q S hG hret hthr hout ls H locs hl hW hS
  obtain ⟨hx, hb, hml, hown, hts⟩ := id S
  have hl : lv_has ls 2 [(0, .ref (Γ.1 0)), (1, .int a1)] := hl
  unfold fX7_whyRun at hf
  refine lv_aload_n hx hb dX7_whyRun_0 rfl (lv_at hl 0 rfl) ?_
  refine lv_iload_n hx hb dX7_whyRun_1 rfl (lv_at hl 1 rfl) ?_
  obtain ⟨q2, hq2, hf⟩ := bnd_e hf
  refine gxk_v hS (gvx_run (rest := []) S hG hW hS [.int a1] (c_X7_requireTarget l hl0 Γ C M a1 hq2) pk_X7_requireTarget rfl ml_X7_150 rfl rfl ⟨Nat.le_of_ble_eq_true rfl, Nat.le_of_ble_eq_true rfl⟩ rfl hl.1 rfl (Nat.le_of_ble_eq_true rfl) dX7_whyRun_2 ⟨Nat.le_of_ble_eq_true rfl, Nat.le_of_ble_eq_true rfl⟩) (fun H locs k9 ce9 z9 hW hS e9 hce hcv hcl => ?_) (fun H locs hW hS e9 => ?_)
  · have hf := sw_r e9 hf
    have e8 := Option.some.inj hf
    subst e8
    exact hout _ _ _ _ _ _ _ _ _ _ hW hS rfl hce hcv hcl (Nat.le_of_ble_eq_true rfl) (Nat.le_of_ble_eq_true rfl)
  have hf := sw_l e9 hf
  refine lv_aload_n hx hb dX7_whyRun_5 rfl (lv_at hl 0 rfl) ?_
  refine get_X7_3 S hG hW fl_X7_35 dX7_whyRun_6 ?_
  obtain ⟨q9, hq9, hf⟩ := bnd_e hf
  refine gk0_v hS (gv_run (rest := []) S hG hW hS [] (c_X3_lookUpAll l Γ C M hq9) pk_X3_lookUpAll ml_X7_214 (Nat.le_of_ble_eq_true rfl) rfl rfl rfl rfl ⟨Nat.le_of_ble_eq_true rfl, Nat.le_of_ble_eq_true rfl⟩ rfl hl.1 rfl (Nat.le_of_ble_eq_true rfl) dX7_whyRun_9 ⟨Nat.le_of_ble_eq_true rfl, Nat.le_of_ble_eq_true rfl⟩) (fun H locs hW hS => ?_)
  refine lv_aload_n hx hb dX7_whyRun_12 rfl (lv_at hl 0 rfl) ?_
  refine get_X7_3 S hG hW fl_X7_35 dX7_whyRun_13 ?_
  refine lv_iload_n hx hb dX7_whyRun_16 rfl (lv_at hl 1 rfl) ?_
  obtain ⟨q17, hq17, hf⟩ := bnd_e hf
  refine gk0_i hS (gv_run (rest := []) S hG hW hS [.int a1] (c_X3_keyNow l Γ q9 M a1 hq17) pk_X3_keyNow ml_X7_217 (Nat.le_of_ble_eq_true rfl) rfl rfl rfl rfl ⟨Nat.le_of_ble_eq_true rfl, Nat.le_of_ble_eq_true rfl⟩ rfl hl.1 rfl (Nat.le_of_ble_eq_true rfl) dX7_whyRun_17 ⟨Nat.le_of_ble_eq_true rfl, Nat.le_of_ble_eq_true rfl⟩) (fun H locs hW hS => ?_)
  refine lv_if_eq (tgt := 25) hx hb dX7_whyRun_20 (by decide) (fun c20 => ?_) (fun c20 => ?_)
  · have hf := cn_t c20 hf
    refine lv_aload_n hx hb dX7_whyRun_25 rfl (lv_at hl 0 rfl) ?_
    refine get_X7_3 S hG hW fl_X7_35 dX7_whyRun_26 ?_
    refine lv_iload_n hx hb dX7_whyRun_29 rfl (lv_at hl 1 rfl) ?_
    obtain ⟨q30, hq30, hf⟩ := bnd_e hf
    refine gk0_i hS (gv_run (rest := []) S hG hW hS [.int a1] (c_X3_hasRun l Γ q9 M a1 hq30) pk_X3_hasRun ml_X7_223 (Nat.le_of_ble_eq_true rfl) rfl rfl rfl rfl ⟨Nat.le_of_ble_eq_true rfl, Nat.le_of_ble_eq_true rfl⟩ rfl hl.1 rfl (Nat.le_of_ble_eq_true rfl) dX7_whyRun_30 ⟨Nat.le_of_ble_eq_true rfl, Nat.le_of_ble_eq_true rfl⟩) (fun H locs hW hS => ?_)
    refine lv_if_ne (tgt := 38) hx hb dX7_whyRun_33 (by decide) (fun c33 => ?_) (fun c33 => ?_)
    · have hf := cn_f c33 hf
      refine lv_aload_n hx hb dX7_whyRun_38 rfl (lv_at hl 0 rfl) ?_
      refine get_X7_3 S hG hW fl_X7_35 dX7_whyRun_39 ?_
      refine lv_iload_n hx hb dX7_whyRun_42 rfl (lv_at hl 1 rfl) ?_
      obtain ⟨q43, hq43, hf⟩ := bnd_e hf
      refine gk0_i hS (gv_run (rest := []) S hG hW hS [.int a1] (c_X3_hasLatestInputs l Γ q9 M a1 hq43) pk_X3_hasLatestInputs ml_X7_226 (Nat.le_of_ble_eq_true rfl) rfl rfl rfl rfl ⟨Nat.le_of_ble_eq_true rfl, Nat.le_of_ble_eq_true rfl⟩ rfl hl.1 rfl (Nat.le_of_ble_eq_true rfl) dX7_whyRun_43 ⟨Nat.le_of_ble_eq_true rfl, Nat.le_of_ble_eq_true rfl⟩) (fun H locs hW hS => ?_)
      refine lv_if_eq (tgt := 53) hx hb dX7_whyRun_46 (by decide) (fun c46 => ?_) (fun c46 => ?_)
      · have hf := cn_t c46 hf
        refine lv_iconst (v := (2 : Int32)) hx hb dX7_whyRun_53 (by decide) ?_
        have e9 := Option.some.inj hf
        subst e9
        exact hret _ _ _ _ _ _ _ hW hS rfl rfl (Nat.le_of_ble_eq_true rfl) (Nat.le_of_ble_eq_true rfl) dX7_whyRun_54
      · have hf := cn_f c46 hf
        refine lv_iconst (v := (3 : Int32)) hx hb dX7_whyRun_49 (by decide) ?_
        refine lv_goto (tgt := 54) hx hb dX7_whyRun_50 (by decide) ?_
        have e9 := Option.some.inj hf
        subst e9
        exact hret _ _ _ _ _ _ _ hW hS rfl rfl (Nat.le_of_ble_eq_true rfl) (Nat.le_of_ble_eq_true rfl) dX7_whyRun_54
    · have hf := cn_t c33 hf
      refine lv_iconst (v := (1 : Int32)) hx hb dX7_whyRun_36 (by decide) ?_
      have e9 := Option.some.inj hf
      subst e9
      exact hret _ _ _ _ _ _ _ hW hS rfl rfl (Nat.le_of_ble_eq_true rfl) (Nat.le_of_ble_eq_true rfl) dX7_whyRun_37
  · have hf := cn_f c20 hf
    refine lv_iconst (v := (0 : Int32)) hx hb dX7_whyRun_23 (by decide) ?_
    have e9 := Option.some.inj hf
    subst e9
    exact hret _ _ _ _ _ _ _ hW hS rfl rfl (Nat.le_of_ble_eq_true rfl) (Nat.le_of_ble_eq_true rfl) dX7_whyRun_24
noncomputable def fX7_run_75 (a1 : Int32) (q9 : Mem) : Option ((Int32 ⊕ Nat) × Mem) := bnd (fX3_runOrFind q9 a1) fun q80 => some (.inl q80.1, q80.2)
noncomputable def fX7_run (C : Mem) (a1 : Int32) : Option ((Int32 ⊕ Nat) × Mem) := bnd (fX7_requireTarget C a1) fun q2 => sw q2 (fun _ => bnd (fX3_lookUpAll C) fun q9 => bnd (fX2_dependenciesOf q9 a1) fun q17 => bnd (fX3_withoutKey q9) fun q24 => cnd ((q17 &&& q24) = (0 : Int32)) (bnd (fX3_keyNow q9 a1) fun q46 => cnd (q46 = (0 : Int32)) (cnd ((fX3_given q9) < (200 : Int32)) (fX7_run_75 a1 q9) (some (.inr 2, q9))) (fX7_run_75 a1 q9)) (some (.inr 2, q9))) (fun k => some (.inr k, C))
abbrev rm_X7_run : Room := { frames := 7, cells := 2, slots := 12, locals := 121 }
set_option maxRecDepth 100000 in
set_option maxHeartbeats 4000000 in
theorem c_X7_run (l : Launch) (hl0 : l.stackTraces = false) (Γ : gx_G) (C M : Mem) (a1 : Int32) {y0 : ((Int32 ⊕ Nat) × Mem)} (hf : fX7_run C a1 = some y0) : vx_Met l yX7_run (.code yX7_run cX7_run 2 (some .int) :: TsG) rm_X7_run (va_Pc [.ref (Γ.1 0), .int a1] (gx_P Γ C M)) (gx_QiX Γ y0.1 y0.2 M) (gx_XX Γ y0.1 y0.2 M) 2 12 (gA Γ) := by
  refine gx_i (by decide) rfl (Nat.le_of_ble_eq_true rfl) hl0 (Nat.le_of_ble_eq_true rfl) (Nat.le_of_ble_eq_true rfl) (Nat.le_of_ble_eq_true rfl) (Nat.le_of_ble_eq_true rfl) ?_
  intro p e s m args below meth c Q S hG hret hthr hout ls H locs hl hW hS
  obtain ⟨hx, hb, hml, hown, hts⟩ := id S
  have hl : lv_has ls 2 [(0, .ref (Γ.1 0)), (1, .int a1)] := hl
  unfold fX7_run at hf
  refine lv_aload_n hx hb dX7_run_0 rfl (lv_at hl 0 rfl) ?_
  refine lv_iload_n hx hb dX7_run_1 rfl (lv_at hl 1 rfl) ?_
  obtain ⟨q2, hq2, hf⟩ := bnd_e hf
  refine gxk_v hS (gvx_run (rest := []) S hG hW hS [.int a1] (c_X7_requireTarget l hl0 Γ C M a1 hq2) pk_X7_requireTarget rfl ml_X7_150 rfl rfl ⟨Nat.le_of_ble_eq_true rfl, Nat.le_of_ble_eq_true rfl⟩ rfl hl.1 rfl (Nat.le_of_ble_eq_true rfl) dX7_run_2 ⟨Nat.le_of_ble_eq_true rfl, Nat.le_of_ble_eq_true rfl⟩) (fun H locs k9 ce9 z9 hW hS e9 hce hcv hcl => ?_) (fun H locs hW hS e9 => ?_)
  · have hf := sw_r e9 hf
    have e8 := Option.some.inj hf
    subst e8
    exact hout _ _ _ _ _ _ _ _ _ _ hW hS rfl hce hcv hcl (Nat.le_of_ble_eq_true rfl) (Nat.le_of_ble_eq_true rfl)
  have hf := sw_l e9 hf
  refine lv_aload_n hx hb dX7_run_5 rfl (lv_at hl 0 rfl) ?_
  refine get_X7_3 S hG hW fl_X7_35 dX7_run_6 ?_
  obtain ⟨q9, hq9, hf⟩ := bnd_e hf
  refine gk0_v hS (gv_run (rest := []) S hG hW hS [] (c_X3_lookUpAll l Γ C M hq9) pk_X3_lookUpAll ml_X7_214 (Nat.le_of_ble_eq_true rfl) rfl rfl rfl rfl ⟨Nat.le_of_ble_eq_true rfl, Nat.le_of_ble_eq_true rfl⟩ rfl hl.1 rfl (Nat.le_of_ble_eq_true rfl) dX7_run_9 ⟨Nat.le_of_ble_eq_true rfl, Nat.le_of_ble_eq_true rfl⟩) (fun H locs hW hS => ?_)
  refine lv_aload_n hx hb dX7_run_12 rfl (lv_at hl 0 rfl) ?_
  refine get_X7_2 S hG hW fl_X7_26 dX7_run_13 ?_
  refine lv_iload_n hx hb dX7_run_16 rfl (lv_at hl 1 rfl) ?_
  obtain ⟨q17, hq17, hf⟩ := bnd_e hf
  refine gk0_i hS (gv_run (rest := []) S hG hW hS [.int a1] (c_X2_dependenciesOf l Γ q9 M a1 hq17) pk_X2_dependenciesOf ml_X7_179 (Nat.le_of_ble_eq_true rfl) rfl rfl rfl rfl ⟨Nat.le_of_ble_eq_true rfl, Nat.le_of_ble_eq_true rfl⟩ rfl hl.1 rfl (Nat.le_of_ble_eq_true rfl) dX7_run_17 ⟨Nat.le_of_ble_eq_true rfl, Nat.le_of_ble_eq_true rfl⟩) (fun H locs hW hS => ?_)
  refine lv_aload_n hx hb dX7_run_20 rfl (lv_at hl 0 rfl) ?_
  refine get_X7_3 S hG hW fl_X7_35 dX7_run_21 ?_
  obtain ⟨q24, hq24, hf⟩ := bnd_e hf
  refine gk0_i hS (gv_run (rest := [.int q17]) S hG hW hS [] (c_X3_withoutKey l Γ q9 M hq24) pk_X3_withoutKey ml_X7_220 (Nat.le_of_ble_eq_true rfl) rfl rfl rfl rfl ⟨Nat.le_of_ble_eq_true rfl, Nat.le_of_ble_eq_true rfl⟩ rfl hl.1 rfl (Nat.le_of_ble_eq_true rfl) dX7_run_24 ⟨Nat.le_of_ble_eq_true rfl, Nat.le_of_ble_eq_true rfl⟩) (fun H locs hW hS => ?_)
  refine lv_iand hx hb dX7_run_27 ?_
  refine lv_if_eq (tgt := 41) hx hb dX7_run_28 (by decide) (fun c28 => ?_) (fun c28 => ?_)
  · have hf := cn_t c28 hf
    refine lv_aload_n hx hb dX7_run_41 rfl (lv_at hl 0 rfl) ?_
    refine get_X7_3 S hG hW fl_X7_35 dX7_run_42 ?_
    refine lv_iload_n hx hb dX7_run_45 rfl (lv_at hl 1 rfl) ?_
    obtain ⟨q46, hq46, hf⟩ := bnd_e hf
    refine gk0_i hS (gv_run (rest := []) S hG hW hS [.int a1] (c_X3_keyNow l Γ q9 M a1 hq46) pk_X3_keyNow ml_X7_217 (Nat.le_of_ble_eq_true rfl) rfl rfl rfl rfl ⟨Nat.le_of_ble_eq_true rfl, Nat.le_of_ble_eq_true rfl⟩ rfl hl.1 rfl (Nat.le_of_ble_eq_true rfl) dX7_run_46 ⟨Nat.le_of_ble_eq_true rfl, Nat.le_of_ble_eq_true rfl⟩) (fun H locs hW hS => ?_)
    have J_75 : fX7_run_75 a1 q9 = some y0 → ∀ (H : Heap) (locs : List Loc) (ls : Array Slot), gx_W Γ q9 M H → va_S (gA Γ) s.heap H locs → lv_has ls 2 [(0, .ref (Γ.1 0)), (1, .int a1)] → W p l e rm_X7_run s m args below meth c H locs 1 6 Q (F0 m 75 ls []) := by
      intro  hf H locs ls hW hS hl
      unfold fX7_run_75 at hf
      refine lv_aload_n hx hb dX7_run_75 rfl (lv_at hl 0 rfl) ?_
      refine get_X7_3 S hG hW fl_X7_35 dX7_run_76 ?_
      refine lv_iload_n hx hb dX7_run_79 rfl (lv_at hl 1 rfl) ?_
      obtain ⟨q80, hq80, hf⟩ := bnd_e hf
      refine gk0_i hS (gv_run (rest := []) S hG hW hS [.int a1] (c_X3_runOrFind l Γ q9 M a1 hq80) pk_X3_runOrFind ml_X7_236 (Nat.le_of_ble_eq_true rfl) rfl rfl rfl rfl ⟨Nat.le_of_ble_eq_true rfl, Nat.le_of_ble_eq_true rfl⟩ rfl hl.1 rfl (Nat.le_of_ble_eq_true rfl) dX7_run_80 ⟨Nat.le_of_ble_eq_true rfl, Nat.le_of_ble_eq_true rfl⟩) (fun H locs hW hS => ?_)
      have e9 := Option.some.inj hf
      subst e9
      exact hret _ _ _ _ _ _ _ hW hS rfl rfl (Nat.le_of_ble_eq_true rfl) (Nat.le_of_ble_eq_true rfl) dX7_run_83
    refine lv_if_ne (tgt := 75) hx hb dX7_run_49 (by decide) (fun c49 => ?_) (fun c49 => ?_)
    · have hf := cn_f c49 hf
      exact J_75  hf H locs ls hW hS (lv_sub hl [0, 1] rfl)
    · have hf := cn_t c49 hf
      refine lv_aload_n hx hb dX7_run_52 rfl (lv_at hl 0 rfl) ?_
      refine get_X7_3 S hG hW fl_X7_35 dX7_run_53 ?_
      refine gk0_i hS (gv_run (rest := []) S hG hW hS [] (c_X3_given l Γ q9 M) pk_X3_given ml_X7_231 (Nat.le_of_ble_eq_true rfl) rfl rfl rfl rfl ⟨Nat.le_of_ble_eq_true rfl, Nat.le_of_ble_eq_true rfl⟩ rfl hl.1 rfl (Nat.le_of_ble_eq_true rfl) dX7_run_56 ⟨Nat.le_of_ble_eq_true rfl, Nat.le_of_ble_eq_true rfl⟩) (fun H locs hW hS => ?_)
      refine lv_sipush (v := (200 : Int32)) hx hb dX7_run_59 (by decide) ?_
      refine lv_icmp_lt (tgt := 75) hx hb dX7_run_62 (by decide) (fun c62 => ?_) (fun c62 => ?_)
      · have hf := cn_t c62 hf
        exact J_75  hf H locs ls hW hS (lv_sub hl [0, 1] rfl)
      · have hf := cn_f c62 hf
        have e9 := Option.some.inj hf
        subst e9
        exact hthr _ _ _ _ _ _ _ 2 68 234 72 _ xw_2 (List.mem_of_getElem? (i := 17) rfl) hW hS hl.1 rfl (Nat.le_of_ble_eq_true rfl) (Nat.le_of_ble_eq_true rfl) (Nat.le_of_ble_eq_true rfl) dX7_run_65 dX7_run_68 (Or.inl ⟨dX7_run_69, dX7_run_71, dX7_run_74⟩)
  · have hf := cn_f c28 hf
    have e9 := Option.some.inj hf
    subst e9
    exact hthr _ _ _ _ _ _ _ 2 68 229 72 _ xw_2 (List.mem_of_getElem? (i := 16) rfl) hW hS hl.1 rfl (Nat.le_of_ble_eq_true rfl) (Nat.le_of_ble_eq_true rfl) (Nat.le_of_ble_eq_true rfl) dX7_run_31 dX7_run_34 (Or.inl ⟨dX7_run_35, dX7_run_37, dX7_run_40⟩)
noncomputable def fX7_runAll (C : Mem) : Option ((Int32 ⊕ Nat) × Mem) := bnd (fX3_lookUpAll C) fun q4 => bnd (fX3_withoutKey q4) fun q11 => nmv ((fJ6_bitCount_0f7a4 q11)) fun v17 => cnd (((fX3_given q4) + v17) ≤ (200 : Int32)) (bnd (fX3_runOrFindAll q4) fun q47 => some (.inl v17, q47)) (some (.inr 2, q4))
abbrev rm_X7_runAll : Room := { frames := 6, cells := 1, slots := 6, locals := 126 }
set_option maxRecDepth 100000 in
set_option maxHeartbeats 4000000 in
theorem c_X7_runAll (l : Launch) (hl0 : l.stackTraces = false) (Γ : gx_G) (C M : Mem)  {y0 : ((Int32 ⊕ Nat) × Mem)} (hf : fX7_runAll C = some y0) : vx_Met l yX7_runAll (.code yX7_runAll cX7_runAll 2 (some .int) :: TsG) rm_X7_runAll (va_Pc [.ref (Γ.1 0)] (gx_P Γ C M)) (gx_QiX Γ y0.1 y0.2 M) (gx_XX Γ y0.1 y0.2 M) 1 6 (gA Γ) := by
  refine gx_i (by decide) rfl (Nat.le_of_ble_eq_true rfl) hl0 (Nat.le_of_ble_eq_true rfl) (Nat.le_of_ble_eq_true rfl) (Nat.le_of_ble_eq_true rfl) (Nat.le_of_ble_eq_true rfl) ?_
  intro p e s m args below meth c Q S hG hret hthr hout ls H locs hl hW hS
  obtain ⟨hx, hb, hml, hown, hts⟩ := id S
  have hl : lv_has ls 2 [(0, .ref (Γ.1 0))] := hl
  unfold fX7_runAll at hf
  refine lv_aload_n hx hb dX7_runAll_0 rfl (lv_at hl 0 rfl) ?_
  refine get_X7_3 S hG hW fl_X7_35 dX7_runAll_1 ?_
  obtain ⟨q4, hq4, hf⟩ := bnd_e hf
  refine gk0_v hS (gv_run (rest := []) S hG hW hS [] (c_X3_lookUpAll l Γ C M hq4) pk_X3_lookUpAll ml_X7_214 (Nat.le_of_ble_eq_true rfl) rfl rfl rfl rfl ⟨Nat.le_of_ble_eq_true rfl, Nat.le_of_ble_eq_true rfl⟩ rfl hl.1 rfl (Nat.le_of_ble_eq_true rfl) dX7_runAll_4 ⟨Nat.le_of_ble_eq_true rfl, Nat.le_of_ble_eq_true rfl⟩) (fun H locs hW hS => ?_)
  refine lv_aload_n hx hb dX7_runAll_7 rfl (lv_at hl 0 rfl) ?_
  refine get_X7_3 S hG hW fl_X7_35 dX7_runAll_8 ?_
  obtain ⟨q11, hq11, hf⟩ := bnd_e hf
  refine gk0_i hS (gv_run (rest := []) S hG hW hS [] (c_X3_withoutKey l Γ q4 M hq11) pk_X3_withoutKey ml_X7_220 (Nat.le_of_ble_eq_true rfl) rfl rfl rfl rfl ⟨Nat.le_of_ble_eq_true rfl, Nat.le_of_ble_eq_true rfl⟩ rfl hl.1 rfl (Nat.le_of_ble_eq_true rfl) dX7_runAll_11 ⟨Nat.le_of_ble_eq_true rfl, Nat.le_of_ble_eq_true rfl⟩) (fun H locs hW hS => ?_)
  refine gk0_i hS (gs_run (rest := []) S hG hW hS [.int q11] (c_J6_bitCount_0f7a4 l Γ q4 M q11) pk_J6_bitCount_0f7a4 ml_X7_174 rfl rfl ⟨Nat.le_of_ble_eq_true rfl, Nat.le_of_ble_eq_true rfl⟩ rfl hl.1 rfl (Nat.le_of_ble_eq_true rfl) dX7_runAll_14 ⟨Nat.le_of_ble_eq_true rfl, Nat.le_of_ble_eq_true rfl⟩) (fun H locs hW hS => ?_)
  refine lv_topi (fun v17 ev17 => ?_)
  have hf := nm_v ev17 hf
  refine lv_istore_n (lv' := [(1, .int v17), (0, .ref (Γ.1 0))]) hx hb dX7_runAll_17 rfl hl (by decide) rfl (fun ls hl => ?_)
  refine lv_aload_n hx hb dX7_runAll_18 rfl (lv_at hl 1 rfl) ?_
  refine get_X7_3 S hG hW fl_X7_35 dX7_runAll_19 ?_
  refine gk0_i hS (gv_run (rest := []) S hG hW hS [] (c_X3_given l Γ q4 M) pk_X3_given ml_X7_231 (Nat.le_of_ble_eq_true rfl) rfl rfl rfl rfl ⟨Nat.le_of_ble_eq_true rfl, Nat.le_of_ble_eq_true rfl⟩ rfl hl.1 rfl (Nat.le_of_ble_eq_true rfl) dX7_runAll_22 ⟨Nat.le_of_ble_eq_true rfl, Nat.le_of_ble_eq_true rfl⟩) (fun H locs hW hS => ?_)
  refine lv_iload_n hx hb dX7_runAll_25 rfl (lv_at hl 0 rfl) ?_
  refine lv_iadd hx hb dX7_runAll_26 ?_
  refine lv_sipush (v := (200 : Int32)) hx hb dX7_runAll_27 (by decide) ?_
  refine lv_icmp_le (tgt := 43) hx hb dX7_runAll_30 (by decide) (fun c30 => ?_) (fun c30 => ?_)
  · have hf := cn_t c30 hf
    refine lv_aload_n hx hb dX7_runAll_43 rfl (lv_at hl 1 rfl) ?_
    refine get_X7_3 S hG hW fl_X7_35 dX7_runAll_44 ?_
    obtain ⟨q47, hq47, hf⟩ := bnd_e hf
    refine gk0_v hS (gv_run (rest := []) S hG hW hS [] (c_X3_runOrFindAll l Γ q4 M hq47) pk_X3_runOrFindAll ml_X7_241 (Nat.le_of_ble_eq_true rfl) rfl rfl rfl rfl ⟨Nat.le_of_ble_eq_true rfl, Nat.le_of_ble_eq_true rfl⟩ rfl hl.1 rfl (Nat.le_of_ble_eq_true rfl) dX7_runAll_47 ⟨Nat.le_of_ble_eq_true rfl, Nat.le_of_ble_eq_true rfl⟩) (fun H locs hW hS => ?_)
    refine lv_iload_n hx hb dX7_runAll_50 rfl (lv_at hl 0 rfl) ?_
    have e9 := Option.some.inj hf
    subst e9
    exact hret _ _ _ _ _ _ _ hW hS rfl rfl (Nat.le_of_ble_eq_true rfl) (Nat.le_of_ble_eq_true rfl) dX7_runAll_51
  · have hf := cn_f c30 hf
    have e9 := Option.some.inj hf
    subst e9
    exact hthr _ _ _ _ _ _ _ 2 68 239 72 _ xw_2 (List.mem_of_getElem? (i := 18) rfl) hW hS hl.1 rfl (Nat.le_of_ble_eq_true rfl) (Nat.le_of_ble_eq_true rfl) (Nat.le_of_ble_eq_true rfl) dX7_runAll_33 dX7_runAll_36 (Or.inl ⟨dX7_runAll_37, dX7_runAll_39, dX7_runAll_42⟩)
noncomputable def fX7_requireShards_11  : Option (Int32 ⊕ Nat) := some (.inr 1)
noncomputable def fX7_requireShards (a1 : Int32) : Option (Int32 ⊕ Nat) := cnd (a1 < (1 : Int32)) (fX7_requireShards_11) (cnd (a1 ≤ (8 : Int32)) (some (.inl 0)) (fX7_requireShards_11))
abbrev rm_X7_requireShards : Room := { frames := 6, cells := 1, slots := 6, locals := 100 }
set_option maxRecDepth 100000 in
set_option maxHeartbeats 4000000 in
theorem c_X7_requireShards (l : Launch) (hl0 : l.stackTraces = false) (Γ : gx_G) (C M : Mem) (a1 : Int32) {y0 : (Int32 ⊕ Nat)} (hf : fX7_requireShards a1 = some y0) : vx_Met l yX7_requireShards (.code yX7_requireShards cX7_requireShards 2 none :: TsG) rm_X7_requireShards (va_Pc [.ref (Γ.1 0), .int a1] (gx_P Γ C M)) (gx_QvX Γ y0 C M) (gx_XX Γ y0 C M) 1 6 (gA Γ) := by
  refine gx_v (by decide) rfl (Nat.le_of_ble_eq_true rfl) hl0 (Nat.le_of_ble_eq_true rfl) (Nat.le_of_ble_eq_true rfl) (Nat.le_of_ble_eq_true rfl) (Nat.le_of_ble_eq_true rfl) ?_
  intro p e s m args below meth c Q S hG hret hthr hout ls H locs hl hW hS
  obtain ⟨hx, hb, hml, hown, hts⟩ := id S
  have hl : lv_has ls 2 [(0, .ref (Γ.1 0)), (1, .int a1)] := hl
  unfold fX7_requireShards at hf
  refine lv_iload_n hx hb dX7_requireShards_0 rfl (lv_at hl 1 rfl) ?_
  refine lv_iconst (v := (1 : Int32)) hx hb dX7_requireShards_1 (by decide) ?_
  have J_11 : fX7_requireShards_11 = some y0 → ∀ (H : Heap) (locs : List Loc) (ls : Array Slot), gx_W Γ C M H → va_S (gA Γ) s.heap H locs → lv_has ls 2 [] → W p l e rm_X7_requireShards s m args below meth c H locs 0 0 Q (F0 m 11 ls []) := by
    intro  hf H locs ls hW hS hl
    unfold fX7_requireShards_11 at hf
    have e9 := Option.some.inj hf
    subst e9
    exact hthr _ _ _ _ _ _ _ 1 57 292 61 _ xw_1 (List.mem_of_getElem? (i := 19) rfl) hW hS hl.1 rfl (Nat.le_of_ble_eq_true rfl) (Nat.le_of_ble_eq_true rfl) (Nat.le_of_ble_eq_true rfl) dX7_requireShards_11 dX7_requireShards_14 (Or.inr ⟨dX7_requireShards_15, dX7_requireShards_18, dX7_requireShards_21⟩)
  refine lv_icmp_lt (tgt := 11) hx hb dX7_requireShards_2 (by decide) (fun c2 => ?_) (fun c2 => ?_)
  · have hf := cn_t c2 hf
    exact J_11  hf H locs ls hW hS (lv_sub hl [] rfl)
  · have hf := cn_f c2 hf
    refine lv_iload_n hx hb dX7_requireShards_5 rfl (lv_at hl 1 rfl) ?_
    refine lv_bipush (v := (8 : Int32)) hx hb dX7_requireShards_6 (by decide) ?_
    refine lv_icmp_le (tgt := 22) hx hb dX7_requireShards_8 (by decide) (fun c8 => ?_) (fun c8 => ?_)
    · have hf := cn_t c8 hf
      have e9 := Option.some.inj hf
      subst e9
      exact hret _ _ _ _ _ _ hW hS rfl (Nat.le_of_ble_eq_true rfl) (Nat.le_of_ble_eq_true rfl) dX7_requireShards_22
    · have hf := cn_f c8 hf
      exact J_11  hf H locs ls hW hS (lv_sub hl [] rfl)
noncomputable def fX7_shardOf (C : Mem) (a1 : Int32) (a2 : Int32) : Option ((Int32 ⊕ Nat) × Mem) := bnd (fX7_requireTarget C a1) fun q2 => sw q2 (fun _ => bnd (fX7_requireShards a2) fun q7 => sw q7 (fun _ => bnd (fX3_lookUpAll C) fun q14 => bnd (fX3_withoutKey q14) fun q29 => bnd (fX5_over q14 q29 a2) fun q33 => bnd (fX5_placeOf q33 a1) fun q41 => some (.inl q41, q33)) (fun k => some (.inr k, C))) (fun k => some (.inr k, C))
abbrev rm_X7_shardOf : Room := { frames := 7, cells := 2, slots := 12, locals := 121 }
set_option maxRecDepth 100000 in
set_option maxHeartbeats 4000000 in
theorem c_X7_shardOf (l : Launch) (hl0 : l.stackTraces = false) (Γ : gx_G) (C M : Mem) (a1 : Int32) (a2 : Int32) {y0 : ((Int32 ⊕ Nat) × Mem)} (hf : fX7_shardOf C a1 a2 = some y0) : vx_Met l yX7_shardOf (.code yX7_shardOf cX7_shardOf 3 (some .int) :: TsG) rm_X7_shardOf (va_Pc [.ref (Γ.1 0), .int a1, .int a2] (gx_P Γ C M)) (gx_QiX Γ y0.1 y0.2 M) (gx_XX Γ y0.1 y0.2 M) 2 12 (gA Γ) := by
  refine gx_i (by decide) rfl (Nat.le_of_ble_eq_true rfl) hl0 (Nat.le_of_ble_eq_true rfl) (Nat.le_of_ble_eq_true rfl) (Nat.le_of_ble_eq_true rfl) (Nat.le_of_ble_eq_true rfl) ?_
  intro p e s m args below meth c Q S hG hret hthr hout ls H locs hl hW hS
  obtain ⟨hx, hb, hml, hown, hts⟩ := id S
  have hl : lv_has ls 3 [(0, .ref (Γ.1 0)), (1, .int a1), (2, .int a2)] := hl
  unfold fX7_shardOf at hf
  refine lv_aload_n hx hb dX7_shardOf_0 rfl (lv_at hl 0 rfl) ?_
  refine lv_iload_n hx hb dX7_shardOf_1 rfl (lv_at hl 1 rfl) ?_
  obtain ⟨q2, hq2, hf⟩ := bnd_e hf
  refine gxk_v hS (gvx_run (rest := []) S hG hW hS [.int a1] (c_X7_requireTarget l hl0 Γ C M a1 hq2) pk_X7_requireTarget rfl ml_X7_150 rfl rfl ⟨Nat.le_of_ble_eq_true rfl, Nat.le_of_ble_eq_true rfl⟩ rfl hl.1 rfl (Nat.le_of_ble_eq_true rfl) dX7_shardOf_2 ⟨Nat.le_of_ble_eq_true rfl, Nat.le_of_ble_eq_true rfl⟩) (fun H locs k9 ce9 z9 hW hS e9 hce hcv hcl => ?_) (fun H locs hW hS e9 => ?_)
  · have hf := sw_r e9 hf
    have e8 := Option.some.inj hf
    subst e8
    exact hout _ _ _ _ _ _ _ _ _ _ hW hS rfl hce hcv hcl (Nat.le_of_ble_eq_true rfl) (Nat.le_of_ble_eq_true rfl)
  have hf := sw_l e9 hf
  refine lv_aload_n hx hb dX7_shardOf_5 rfl (lv_at hl 0 rfl) ?_
  refine lv_iload_n hx hb dX7_shardOf_6 rfl (lv_at hl 2 rfl) ?_
  obtain ⟨q7, hq7, hf⟩ := bnd_e hf
  refine gxk_v hS (gvx_run (rest := []) S hG hW hS [.int a2] (c_X7_requireShards l hl0 Γ C M a2 hq7) pk_X7_requireShards rfl ml_X7_244 rfl rfl ⟨Nat.le_of_ble_eq_true rfl, Nat.le_of_ble_eq_true rfl⟩ rfl hl.1 rfl (Nat.le_of_ble_eq_true rfl) dX7_shardOf_7 ⟨Nat.le_of_ble_eq_true rfl, Nat.le_of_ble_eq_true rfl⟩) (fun H locs k9 ce9 z9 hW hS e9 hce hcv hcl => ?_) (fun H locs hW hS e9 => ?_)
  · have hf := sw_r e9 hf
    have e8 := Option.some.inj hf
    subst e8
    exact hout _ _ _ _ _ _ _ _ _ _ hW hS rfl hce hcv hcl (Nat.le_of_ble_eq_true rfl) (Nat.le_of_ble_eq_true rfl)
  have hf := sw_l e9 hf
  refine lv_aload_n hx hb dX7_shardOf_10 rfl (lv_at hl 0 rfl) ?_
  refine get_X7_3 S hG hW fl_X7_35 dX7_shardOf_11 ?_
  obtain ⟨q14, hq14, hf⟩ := bnd_e hf
  refine gk0_v hS (gv_run (rest := []) S hG hW hS [] (c_X3_lookUpAll l Γ C M hq14) pk_X3_lookUpAll ml_X7_214 (Nat.le_of_ble_eq_true rfl) rfl rfl rfl rfl ⟨Nat.le_of_ble_eq_true rfl, Nat.le_of_ble_eq_true rfl⟩ rfl hl.1 rfl (Nat.le_of_ble_eq_true rfl) dX7_shardOf_14 ⟨Nat.le_of_ble_eq_true rfl, Nat.le_of_ble_eq_true rfl⟩) (fun H locs hW hS => ?_)
  refine lv_aload_n hx hb dX7_shardOf_17 rfl (lv_at hl 0 rfl) ?_
  refine get_X7_4 S hG hW fl_X7_42 dX7_shardOf_18 ?_
  refine lv_aload_n hx hb dX7_shardOf_21 rfl (lv_at hl 0 rfl) ?_
  refine get_X7_2 S hG hW fl_X7_26 dX7_shardOf_22 ?_
  refine lv_aload_n hx hb dX7_shardOf_25 rfl (lv_at hl 0 rfl) ?_
  refine get_X7_3 S hG hW fl_X7_35 dX7_shardOf_26 ?_
  obtain ⟨q29, hq29, hf⟩ := bnd_e hf
  refine gk0_i hS (gv_run (rest := [.ref (Γ.1 55), .ref (Γ.1 443)]) S hG hW hS [] (c_X3_withoutKey l Γ q14 M hq29) pk_X3_withoutKey ml_X7_220 (Nat.le_of_ble_eq_true rfl) rfl rfl rfl rfl ⟨Nat.le_of_ble_eq_true rfl, Nat.le_of_ble_eq_true rfl⟩ rfl hl.1 rfl (Nat.le_of_ble_eq_true rfl) dX7_shardOf_29 ⟨Nat.le_of_ble_eq_true rfl, Nat.le_of_ble_eq_true rfl⟩) (fun H locs hW hS => ?_)
  refine lv_iload_n hx hb dX7_shardOf_32 rfl (lv_at hl 2 rfl) ?_
  obtain ⟨q33, hq33, hf⟩ := bnd_e hf
  refine gk0_v hS (gv_run (rest := []) S hG hW hS [.ref (Γ.1 55), .int q29, .int a2] (c_X5_over l Γ q14 M q29 a2 hq33) pk_X5_over ml_X7_247 (Nat.le_of_ble_eq_true rfl) rfl rfl rfl rfl ⟨Nat.le_of_ble_eq_true rfl, Nat.le_of_ble_eq_true rfl⟩ rfl hl.1 rfl (Nat.le_of_ble_eq_true rfl) dX7_shardOf_33 ⟨Nat.le_of_ble_eq_true rfl, Nat.le_of_ble_eq_true rfl⟩) (fun H locs hW hS => ?_)
  refine lv_aload_n hx hb dX7_shardOf_36 rfl (lv_at hl 0 rfl) ?_
  refine get_X7_4 S hG hW fl_X7_42 dX7_shardOf_37 ?_
  refine lv_iload_n hx hb dX7_shardOf_40 rfl (lv_at hl 1 rfl) ?_
  obtain ⟨q41, hq41, hf⟩ := bnd_e hf
  refine gk0_i hS (gv_run (rest := []) S hG hW hS [.int a1] (c_X5_placeOf l Γ q33 M a1 hq41) pk_X5_placeOf ml_X7_251 (Nat.le_of_ble_eq_true rfl) rfl rfl rfl rfl ⟨Nat.le_of_ble_eq_true rfl, Nat.le_of_ble_eq_true rfl⟩ rfl hl.1 rfl (Nat.le_of_ble_eq_true rfl) dX7_shardOf_41 ⟨Nat.le_of_ble_eq_true rfl, Nat.le_of_ble_eq_true rfl⟩) (fun H locs hW hS => ?_)
  have e9 := Option.some.inj hf
  subst e9
  exact hret _ _ _ _ _ _ _ hW hS rfl rfl (Nat.le_of_ble_eq_true rfl) (Nat.le_of_ble_eq_true rfl) dX7_shardOf_44
noncomputable def fX7_longestShard (C : Mem) (a1 : Int32) : Option ((Int32 ⊕ Nat) × Mem) := bnd (fX7_requireShards a1) fun q2 => sw q2 (fun _ => bnd (fX3_lookUpAll C) fun q9 => bnd (fX3_withoutKey q9) fun q24 => bnd (fX5_over q9 q24 a1) fun q28 => bnd (fX5_greatestLoad q28) fun q35 => some (.inl q35, q28)) (fun k => some (.inr k, C))
abbrev rm_X7_longestShard : Room := { frames := 7, cells := 1, slots := 6, locals := 121 }
set_option maxRecDepth 100000 in
set_option maxHeartbeats 4000000 in
theorem c_X7_longestShard (l : Launch) (hl0 : l.stackTraces = false) (Γ : gx_G) (C M : Mem) (a1 : Int32) {y0 : ((Int32 ⊕ Nat) × Mem)} (hf : fX7_longestShard C a1 = some y0) : vx_Met l yX7_longestShard (.code yX7_longestShard cX7_longestShard 2 (some .int) :: TsG) rm_X7_longestShard (va_Pc [.ref (Γ.1 0), .int a1] (gx_P Γ C M)) (gx_QiX Γ y0.1 y0.2 M) (gx_XX Γ y0.1 y0.2 M) 1 6 (gA Γ) := by
  refine gx_i (by decide) rfl (Nat.le_of_ble_eq_true rfl) hl0 (Nat.le_of_ble_eq_true rfl) (Nat.le_of_ble_eq_true rfl) (Nat.le_of_ble_eq_true rfl) (Nat.le_of_ble_eq_true rfl) ?_
  intro p e s m args below meth c Q S hG hret hthr hout ls H locs hl hW hS
  obtain ⟨hx, hb, hml, hown, hts⟩ := id S
  have hl : lv_has ls 2 [(0, .ref (Γ.1 0)), (1, .int a1)] := hl
  unfold fX7_longestShard at hf
  refine lv_aload_n hx hb dX7_longestShard_0 rfl (lv_at hl 0 rfl) ?_
  refine lv_iload_n hx hb dX7_longestShard_1 rfl (lv_at hl 1 rfl) ?_
  obtain ⟨q2, hq2, hf⟩ := bnd_e hf
  refine gxk_v hS (gvx_run (rest := []) S hG hW hS [.int a1] (c_X7_requireShards l hl0 Γ C M a1 hq2) pk_X7_requireShards rfl ml_X7_244 rfl rfl ⟨Nat.le_of_ble_eq_true rfl, Nat.le_of_ble_eq_true rfl⟩ rfl hl.1 rfl (Nat.le_of_ble_eq_true rfl) dX7_longestShard_2 ⟨Nat.le_of_ble_eq_true rfl, Nat.le_of_ble_eq_true rfl⟩) (fun H locs k9 ce9 z9 hW hS e9 hce hcv hcl => ?_) (fun H locs hW hS e9 => ?_)
  · have hf := sw_r e9 hf
    have e8 := Option.some.inj hf
    subst e8
    exact hout _ _ _ _ _ _ _ _ _ _ hW hS rfl hce hcv hcl (Nat.le_of_ble_eq_true rfl) (Nat.le_of_ble_eq_true rfl)
  have hf := sw_l e9 hf
  refine lv_aload_n hx hb dX7_longestShard_5 rfl (lv_at hl 0 rfl) ?_
  refine get_X7_3 S hG hW fl_X7_35 dX7_longestShard_6 ?_
  obtain ⟨q9, hq9, hf⟩ := bnd_e hf
  refine gk0_v hS (gv_run (rest := []) S hG hW hS [] (c_X3_lookUpAll l Γ C M hq9) pk_X3_lookUpAll ml_X7_214 (Nat.le_of_ble_eq_true rfl) rfl rfl rfl rfl ⟨Nat.le_of_ble_eq_true rfl, Nat.le_of_ble_eq_true rfl⟩ rfl hl.1 rfl (Nat.le_of_ble_eq_true rfl) dX7_longestShard_9 ⟨Nat.le_of_ble_eq_true rfl, Nat.le_of_ble_eq_true rfl⟩) (fun H locs hW hS => ?_)
  refine lv_aload_n hx hb dX7_longestShard_12 rfl (lv_at hl 0 rfl) ?_
  refine get_X7_4 S hG hW fl_X7_42 dX7_longestShard_13 ?_
  refine lv_aload_n hx hb dX7_longestShard_16 rfl (lv_at hl 0 rfl) ?_
  refine get_X7_2 S hG hW fl_X7_26 dX7_longestShard_17 ?_
  refine lv_aload_n hx hb dX7_longestShard_20 rfl (lv_at hl 0 rfl) ?_
  refine get_X7_3 S hG hW fl_X7_35 dX7_longestShard_21 ?_
  obtain ⟨q24, hq24, hf⟩ := bnd_e hf
  refine gk0_i hS (gv_run (rest := [.ref (Γ.1 55), .ref (Γ.1 443)]) S hG hW hS [] (c_X3_withoutKey l Γ q9 M hq24) pk_X3_withoutKey ml_X7_220 (Nat.le_of_ble_eq_true rfl) rfl rfl rfl rfl ⟨Nat.le_of_ble_eq_true rfl, Nat.le_of_ble_eq_true rfl⟩ rfl hl.1 rfl (Nat.le_of_ble_eq_true rfl) dX7_longestShard_24 ⟨Nat.le_of_ble_eq_true rfl, Nat.le_of_ble_eq_true rfl⟩) (fun H locs hW hS => ?_)
  refine lv_iload_n hx hb dX7_longestShard_27 rfl (lv_at hl 1 rfl) ?_
  obtain ⟨q28, hq28, hf⟩ := bnd_e hf
  refine gk0_v hS (gv_run (rest := []) S hG hW hS [.ref (Γ.1 55), .int q24, .int a1] (c_X5_over l Γ q9 M q24 a1 hq28) pk_X5_over ml_X7_247 (Nat.le_of_ble_eq_true rfl) rfl rfl rfl rfl ⟨Nat.le_of_ble_eq_true rfl, Nat.le_of_ble_eq_true rfl⟩ rfl hl.1 rfl (Nat.le_of_ble_eq_true rfl) dX7_longestShard_28 ⟨Nat.le_of_ble_eq_true rfl, Nat.le_of_ble_eq_true rfl⟩) (fun H locs hW hS => ?_)
  refine lv_aload_n hx hb dX7_longestShard_31 rfl (lv_at hl 0 rfl) ?_
  refine get_X7_4 S hG hW fl_X7_42 dX7_longestShard_32 ?_
  obtain ⟨q35, hq35, hf⟩ := bnd_e hf
  refine gk0_i hS (gv_run (rest := []) S hG hW hS [] (c_X5_greatestLoad l Γ q28 M hq35) pk_X5_greatestLoad ml_X7_254 (Nat.le_of_ble_eq_true rfl) rfl rfl rfl rfl ⟨Nat.le_of_ble_eq_true rfl, Nat.le_of_ble_eq_true rfl⟩ rfl hl.1 rfl (Nat.le_of_ble_eq_true rfl) dX7_longestShard_35 ⟨Nat.le_of_ble_eq_true rfl, Nat.le_of_ble_eq_true rfl⟩) (fun H locs hW hS => ?_)
  have e9 := Option.some.inj hf
  subst e9
  exact hret _ _ _ _ _ _ _ hW hS rfl rfl (Nat.le_of_ble_eq_true rfl) (Nat.le_of_ble_eq_true rfl) dX7_longestShard_38
noncomputable def fX7_shardsFor_32 (a1 : Int32) : (Mem × Int32) → Option ((Mem × Int32) ⊕ ((Int32 ⊕ Nat) × Mem)) := fun t_32 => cnd ((8 : Int32) < t_32.2) (exR (some (.inl (-1 : Int32), t_32.1))) (bnd (fX3_withoutKey t_32.1) fun q50 => bnd (fX5_over t_32.1 q50 t_32.2) fun q54 => bnd (fX5_greatestLoad q54) fun q61 => cnd (a1 < q61) (some (.inl (q54, (t_32.2 + (1 : Int32))))) (exR (some (.inl t_32.2, q54))))
noncomputable def fX7_shardsFor_12 (C : Mem) : Option ((Int32 ⊕ Nat) × Mem) := some (.inr 1, C)
noncomputable def fX7_shardsFor (C : Mem) (a1 : Int32) : Option ((Int32 ⊕ Nat) × Mem) := cnd (a1 < (1 : Int32)) (fX7_shardsFor_12 C) (cnd (a1 ≤ (16000 : Int32)) (bnd (fX3_lookUpAll C) fun q27 => lp (fX7_shardsFor_32 a1) (q27, (1 : Int32))) (fX7_shardsFor_12 C))
abbrev rm_X7_shardsFor : Room := { frames := 6, cells := 1, slots := 6, locals := 109 }
set_option maxRecDepth 100000 in
set_option maxHeartbeats 4000000 in
theorem c_X7_shardsFor (l : Launch) (hl0 : l.stackTraces = false) (Γ : gx_G) (C M : Mem) (a1 : Int32) {y0 : ((Int32 ⊕ Nat) × Mem)} (hf : fX7_shardsFor C a1 = some y0) : vx_Met l yX7_shardsFor (.code yX7_shardsFor cX7_shardsFor 3 (some .int) :: TsG) rm_X7_shardsFor (va_Pc [.ref (Γ.1 0), .int a1] (gx_P Γ C M)) (gx_QiX Γ y0.1 y0.2 M) (gx_XX Γ y0.1 y0.2 M) 1 6 (gA Γ) := by
  refine gx_i (by decide) rfl (Nat.le_of_ble_eq_true rfl) hl0 (Nat.le_of_ble_eq_true rfl) (Nat.le_of_ble_eq_true rfl) (Nat.le_of_ble_eq_true rfl) (Nat.le_of_ble_eq_true rfl) ?_
  intro p e s m args below meth c Q S hG hret hthr hout ls H locs hl hW hS
  obtain ⟨hx, hb, hml, hown, hts⟩ := id S
  have hl : lv_has ls 3 [(0, .ref (Γ.1 0)), (1, .int a1)] := hl
  unfold fX7_shardsFor at hf
  refine lv_iload_n hx hb dX7_shardsFor_0 rfl (lv_at hl 1 rfl) ?_
  refine lv_iconst (v := (1 : Int32)) hx hb dX7_shardsFor_1 (by decide) ?_
  have J_12 : fX7_shardsFor_12 C = some y0 → ∀ (H : Heap) (locs : List Loc) (ls : Array Slot), gx_W Γ C M H → va_S (gA Γ) s.heap H locs → lv_has ls 3 [] → W p l e rm_X7_shardsFor s m args below meth c H locs 0 0 Q (F0 m 12 ls []) := by
    intro  hf H locs ls hW hS hl
    unfold fX7_shardsFor_12 at hf
    have e9 := Option.some.inj hf
    subst e9
    exact hthr _ _ _ _ _ _ _ 1 57 257 61 _ xw_1 (List.mem_of_getElem? (i := 20) rfl) hW hS hl.1 rfl (Nat.le_of_ble_eq_true rfl) (Nat.le_of_ble_eq_true rfl) (Nat.le_of_ble_eq_true rfl) dX7_shardsFor_12 dX7_shardsFor_15 (Or.inr ⟨dX7_shardsFor_16, dX7_shardsFor_19, dX7_shardsFor_22⟩)
  refine lv_icmp_lt (tgt := 12) hx hb dX7_shardsFor_2 (by decide) (fun c2 => ?_) (fun c2 => ?_)
  · have hf := cn_t c2 hf
    exact J_12  hf H locs ls hW hS (lv_sub hl [] rfl)
  · have hf := cn_f c2 hf
    refine lv_iload_n hx hb dX7_shardsFor_5 rfl (lv_at hl 1 rfl) ?_
    refine lv_sipush (v := (16000 : Int32)) hx hb dX7_shardsFor_6 (by decide) ?_
    refine lv_icmp_le (tgt := 23) hx hb dX7_shardsFor_9 (by decide) (fun c9 => ?_) (fun c9 => ?_)
    · have hf := cn_t c9 hf
      refine lv_aload_n hx hb dX7_shardsFor_23 rfl (lv_at hl 0 rfl) ?_
      refine get_X7_3 S hG hW fl_X7_35 dX7_shardsFor_24 ?_
      obtain ⟨q27, hq27, hf⟩ := bnd_e hf
      refine gk0_v hS (gv_run (rest := []) S hG hW hS [] (c_X3_lookUpAll l Γ C M hq27) pk_X3_lookUpAll ml_X7_214 (Nat.le_of_ble_eq_true rfl) rfl rfl rfl rfl ⟨Nat.le_of_ble_eq_true rfl, Nat.le_of_ble_eq_true rfl⟩ rfl hl.1 rfl (Nat.le_of_ble_eq_true rfl) dX7_shardsFor_27 ⟨Nat.le_of_ble_eq_true rfl, Nat.le_of_ble_eq_true rfl⟩) (fun H locs hW hS => ?_)
      refine lv_iconst (v := (1 : Int32)) hx hb dX7_shardsFor_30 (by decide) ?_
      refine lv_istore_n (lv' := [(2, .int (1 : Int32)), (0, .ref (Γ.1 0)), (1, .int a1)]) hx hb dX7_shardsFor_31 rfl hl (by decide) rfl (fun ls hl => ?_)
      have J_32 : ∀  (t_32 : Mem × Int32), lp (fX7_shardsFor_32 a1) t_32 = some y0 → ∀ (H : Heap) (locs : List Loc) (ls : Array Slot), gx_W Γ t_32.1 M H → va_S (gA Γ) s.heap H locs → lv_has ls 3 [(0, .ref (Γ.1 0)), (1, .int a1), (2, .int t_32.2)] → W p l e rm_X7_shardsFor s m args below meth c H locs 0 0 Q (F0 m 32 ls []) := by
        refine lp_ind (P := fun (t_32 : Mem × Int32) => ∀ (H : Heap) (locs : List Loc) (ls : Array Slot), gx_W Γ t_32.1 M H → va_S (gA Γ) s.heap H locs → lv_has ls 3 [(0, .ref (Γ.1 0)), (1, .int a1), (2, .int t_32.2)] → W p l e rm_X7_shardsFor s m args below meth c H locs 0 0 Q (F0 m 32 ls [])) ?_
        intro t_32 y1 hf kI1 kX1 H locs ls hW hS hl
        unfold fX7_shardsFor_32 at hf
        refine lv_iload_n hx hb dX7_shardsFor_32 rfl (lv_at hl 2 rfl) ?_
        refine lv_bipush (v := (8 : Int32)) hx hb dX7_shardsFor_33 (by decide) ?_
        refine lv_icmp_gt (tgt := 76) hx hb dX7_shardsFor_35 (by decide) (fun c35 => ?_) (fun c35 => ?_)
        · have hf := cn_t c35 hf
          obtain ⟨z35, hf, ez⟩ := exR_e hf
          rw [kX1 _ ez] at hf
          refine lv_iconst (v := (-1 : Int32)) hx hb dX7_shardsFor_76 (by decide) ?_
          have e9 := Option.some.inj hf
          subst e9
          exact hret _ _ _ _ _ _ _ hW hS rfl rfl (Nat.le_of_ble_eq_true rfl) (Nat.le_of_ble_eq_true rfl) dX7_shardsFor_77
        · have hf := cn_f c35 hf
          refine lv_aload_n hx hb dX7_shardsFor_38 rfl (lv_at hl 0 rfl) ?_
          refine get_X7_4 S hG hW fl_X7_42 dX7_shardsFor_39 ?_
          refine lv_aload_n hx hb dX7_shardsFor_42 rfl (lv_at hl 0 rfl) ?_
          refine get_X7_2 S hG hW fl_X7_26 dX7_shardsFor_43 ?_
          refine lv_aload_n hx hb dX7_shardsFor_46 rfl (lv_at hl 0 rfl) ?_
          refine get_X7_3 S hG hW fl_X7_35 dX7_shardsFor_47 ?_
          obtain ⟨q50, hq50, hf⟩ := bnd_e hf
          refine gk0_i hS (gv_run (rest := [.ref (Γ.1 55), .ref (Γ.1 443)]) S hG hW hS [] (c_X3_withoutKey l Γ t_32.1 M hq50) pk_X3_withoutKey ml_X7_220 (Nat.le_of_ble_eq_true rfl) rfl rfl rfl rfl ⟨Nat.le_of_ble_eq_true rfl, Nat.le_of_ble_eq_true rfl⟩ rfl hl.1 rfl (Nat.le_of_ble_eq_true rfl) dX7_shardsFor_50 ⟨Nat.le_of_ble_eq_true rfl, Nat.le_of_ble_eq_true rfl⟩) (fun H locs hW hS => ?_)
          refine lv_iload_n hx hb dX7_shardsFor_53 rfl (lv_at hl 2 rfl) ?_
          obtain ⟨q54, hq54, hf⟩ := bnd_e hf
          refine gk0_v hS (gv_run (rest := []) S hG hW hS [.ref (Γ.1 55), .int q50, .int t_32.2] (c_X5_over l Γ t_32.1 M q50 t_32.2 hq54) pk_X5_over ml_X7_247 (Nat.le_of_ble_eq_true rfl) rfl rfl rfl rfl ⟨Nat.le_of_ble_eq_true rfl, Nat.le_of_ble_eq_true rfl⟩ rfl hl.1 rfl (Nat.le_of_ble_eq_true rfl) dX7_shardsFor_54 ⟨Nat.le_of_ble_eq_true rfl, Nat.le_of_ble_eq_true rfl⟩) (fun H locs hW hS => ?_)
          refine lv_aload_n hx hb dX7_shardsFor_57 rfl (lv_at hl 0 rfl) ?_
          refine get_X7_4 S hG hW fl_X7_42 dX7_shardsFor_58 ?_
          obtain ⟨q61, hq61, hf⟩ := bnd_e hf
          refine gk0_i hS (gv_run (rest := []) S hG hW hS [] (c_X5_greatestLoad l Γ q54 M hq61) pk_X5_greatestLoad ml_X7_254 (Nat.le_of_ble_eq_true rfl) rfl rfl rfl rfl ⟨Nat.le_of_ble_eq_true rfl, Nat.le_of_ble_eq_true rfl⟩ rfl hl.1 rfl (Nat.le_of_ble_eq_true rfl) dX7_shardsFor_61 ⟨Nat.le_of_ble_eq_true rfl, Nat.le_of_ble_eq_true rfl⟩) (fun H locs hW hS => ?_)
          refine lv_iload_n hx hb dX7_shardsFor_64 rfl (lv_at hl 1 rfl) ?_
          refine lv_icmp_gt (tgt := 70) hx hb dX7_shardsFor_65 (by decide) (fun c65 => ?_) (fun c65 => ?_)
          · have hf := cn_t c65 hf
            refine lv_iinc (v := (t_32.2 + (1 : Int32))) (lv' := [(2, .int (t_32.2 + (1 : Int32))), (0, .ref (Γ.1 0)), (1, .int a1)]) hx hb dX7_shardsFor_70 hl (k := 2) rfl rfl (by decide) rfl (fun ls hl => ?_)
            refine lv_goto (tgt := 32) hx hb dX7_shardsFor_73 (by decide) ?_
            exact kI1 _ (Option.some.inj hf).symm H locs ls hW hS (lv_sub hl [1, 2, 0] rfl)
          · have hf := cn_f c65 hf
            obtain ⟨z65, hf, ez⟩ := exR_e hf
            rw [kX1 _ ez] at hf
            refine lv_iload_n hx hb dX7_shardsFor_68 rfl (lv_at hl 2 rfl) ?_
            have e9 := Option.some.inj hf
            subst e9
            exact hret _ _ _ _ _ _ _ hW hS rfl rfl (Nat.le_of_ble_eq_true rfl) (Nat.le_of_ble_eq_true rfl) dX7_shardsFor_69
      exact J_32 (q27, (1 : Int32)) hf H locs ls hW hS (lv_sub hl [1, 2, 0] rfl)
    · have hf := cn_f c9 hf
      exact J_12  hf H locs ls hW hS (lv_sub hl [] rfl)
noncomputable def fX7_addRule_10 (C : Mem) : Option ((Int32 ⊕ Nat) × Mem) := some (.inr 3, C)
noncomputable def fX7_addRule (C : Mem) (a1 : Int32) : Option ((Int32 ⊕ Nat) × Mem) := cnd (a1 < (0 : Int32)) (fX7_addRule_10 C) (cnd (a1 ≤ (7 : Int32)) (bnd (fX7_requireGlob C) fun q22 => sw q22 (fun _ => bnd (fX4_isFull C) fun q29 => cnd (q29 = (0 : Int32)) (bnd (fX0_coveredBy C 1) fun q62 => bnd (fX4_add C 1 q62 a1) fun q66 => some (.inl (fX4_size q66), q66)) (some (.inr 2, C))) (fun k => some (.inr k, C))) (fX7_addRule_10 C))
abbrev rm_X7_addRule : Room := { frames := 7, cells := 2, slots := 12, locals := 120 }
set_option maxRecDepth 100000 in
set_option maxHeartbeats 4000000 in
theorem c_X7_addRule (l : Launch) (hl0 : l.stackTraces = false) (Γ : gx_G) (C M : Mem) (a1 : Int32) {y0 : ((Int32 ⊕ Nat) × Mem)} (hf : fX7_addRule C a1 = some y0) : vx_Met l yX7_addRule (.code yX7_addRule cX7_addRule 2 (some .int) :: TsG) rm_X7_addRule (va_Pc [.ref (Γ.1 0), .int a1] (gx_P Γ C M)) (gx_QiX Γ y0.1 y0.2 M) (gx_XX Γ y0.1 y0.2 M) 2 12 (gA Γ) := by
  refine gx_i (by decide) rfl (Nat.le_of_ble_eq_true rfl) hl0 (Nat.le_of_ble_eq_true rfl) (Nat.le_of_ble_eq_true rfl) (Nat.le_of_ble_eq_true rfl) (Nat.le_of_ble_eq_true rfl) ?_
  intro p e s m args below meth c Q S hG hret hthr hout ls H locs hl hW hS
  obtain ⟨hx, hb, hml, hown, hts⟩ := id S
  have hl : lv_has ls 2 [(0, .ref (Γ.1 0)), (1, .int a1)] := hl
  unfold fX7_addRule at hf
  refine lv_iload_n hx hb dX7_addRule_0 rfl (lv_at hl 1 rfl) ?_
  have J_10 : fX7_addRule_10 C = some y0 → ∀ (H : Heap) (locs : List Loc) (ls : Array Slot), gx_W Γ C M H → va_S (gA Γ) s.heap H locs → lv_has ls 2 [] → W p l e rm_X7_addRule s m args below meth c H locs 0 0 Q (F0 m 10 ls []) := by
    intro  hf H locs ls hW hS hl
    unfold fX7_addRule_10 at hf
    have e9 := Option.some.inj hf
    subst e9
    exact hthr _ _ _ _ _ _ _ 3 197 259 201 _ xw_3 (List.mem_of_getElem? (i := 21) rfl) hW hS hl.1 rfl (Nat.le_of_ble_eq_true rfl) (Nat.le_of_ble_eq_true rfl) (Nat.le_of_ble_eq_true rfl) dX7_addRule_10 dX7_addRule_13 (Or.inr ⟨dX7_addRule_14, dX7_addRule_17, dX7_addRule_20⟩)
  refine lv_if_lt (tgt := 10) hx hb dX7_addRule_1 (by decide) (fun c1 => ?_) (fun c1 => ?_)
  · have hf := cn_t c1 hf
    exact J_10  hf H locs ls hW hS (lv_sub hl [] rfl)
  · have hf := cn_f c1 hf
    refine lv_iload_n hx hb dX7_addRule_4 rfl (lv_at hl 1 rfl) ?_
    refine lv_bipush (v := (7 : Int32)) hx hb dX7_addRule_5 (by decide) ?_
    refine lv_icmp_le (tgt := 21) hx hb dX7_addRule_7 (by decide) (fun c7 => ?_) (fun c7 => ?_)
    · have hf := cn_t c7 hf
      refine lv_aload_n hx hb dX7_addRule_21 rfl (lv_at hl 0 rfl) ?_
      obtain ⟨q22, hq22, hf⟩ := bnd_e hf
      refine gxk_v hS (gvx_run (rest := []) S hG hW hS [] (c_X7_requireGlob l hl0 Γ C M hq22) pk_X7_requireGlob rfl ml_X7_153 rfl rfl ⟨Nat.le_of_ble_eq_true rfl, Nat.le_of_ble_eq_true rfl⟩ rfl hl.1 rfl (Nat.le_of_ble_eq_true rfl) dX7_addRule_22 ⟨Nat.le_of_ble_eq_true rfl, Nat.le_of_ble_eq_true rfl⟩) (fun H locs k9 ce9 z9 hW hS e9 hce hcv hcl => ?_) (fun H locs hW hS e9 => ?_)
      · have hf := sw_r e9 hf
        have e8 := Option.some.inj hf
        subst e8
        exact hout _ _ _ _ _ _ _ _ _ _ hW hS rfl hce hcv hcl (Nat.le_of_ble_eq_true rfl) (Nat.le_of_ble_eq_true rfl)
      have hf := sw_l e9 hf
      refine lv_aload_n hx hb dX7_addRule_25 rfl (lv_at hl 0 rfl) ?_
      refine get_X7_5 S hG hW fl_X7_49 dX7_addRule_26 ?_
      obtain ⟨q29, hq29, hf⟩ := bnd_e hf
      refine gk0_i hS (gv_run (rest := []) S hG hW hS [] (c_X4_isFull l Γ C M hq29) pk_X4_isFull ml_X7_261 (Nat.le_of_ble_eq_true rfl) rfl rfl rfl rfl ⟨Nat.le_of_ble_eq_true rfl, Nat.le_of_ble_eq_true rfl⟩ rfl hl.1 rfl (Nat.le_of_ble_eq_true rfl) dX7_addRule_29 ⟨Nat.le_of_ble_eq_true rfl, Nat.le_of_ble_eq_true rfl⟩) (fun H locs hW hS => ?_)
      refine lv_if_eq (tgt := 46) hx hb dX7_addRule_32 (by decide) (fun c32 => ?_) (fun c32 => ?_)
      · have hf := cn_t c32 hf
        refine lv_aload_n hx hb dX7_addRule_46 rfl (lv_at hl 0 rfl) ?_
        refine get_X7_5 S hG hW fl_X7_49 dX7_addRule_47 ?_
        refine lv_aload_n hx hb dX7_addRule_50 rfl (lv_at hl 0 rfl) ?_
        refine get_X7_0 S hG hW fl_X7_10 dX7_addRule_51 ?_
        refine lv_aload_n hx hb dX7_addRule_54 rfl (lv_at hl 0 rfl) ?_
        refine get_X7_1 S hG hW fl_X7_19 dX7_addRule_55 ?_
        refine lv_aload_n hx hb dX7_addRule_58 rfl (lv_at hl 0 rfl) ?_
        refine get_X7_0 S hG hW fl_X7_10 dX7_addRule_59 ?_
        obtain ⟨q62, hq62, hf⟩ := bnd_e hf
        refine gk0_i hS (gv_run (rest := [.ref (Γ.1 1), .ref (Γ.1 446)]) S hG hW hS [.ref (Γ.1 1)] (c_X0_coveredBy l Γ C M shk_1 hq62) pk_X0_coveredBy ml_X7_165 (Nat.le_of_ble_eq_true rfl) rfl rfl rfl rfl ⟨Nat.le_of_ble_eq_true rfl, Nat.le_of_ble_eq_true rfl⟩ rfl hl.1 rfl (Nat.le_of_ble_eq_true rfl) dX7_addRule_62 ⟨Nat.le_of_ble_eq_true rfl, Nat.le_of_ble_eq_true rfl⟩) (fun H locs hW hS => ?_)
        refine lv_iload_n hx hb dX7_addRule_65 rfl (lv_at hl 1 rfl) ?_
        obtain ⟨q66, hq66, hf⟩ := bnd_e hf
        refine gk0_v hS (gv_run (rest := []) S hG hW hS [.ref (Γ.1 1), .int q62, .int a1] (c_X4_add l Γ C M shk_1 q62 a1 hq66) pk_X4_add ml_X7_264 (Nat.le_of_ble_eq_true rfl) rfl rfl rfl rfl ⟨Nat.le_of_ble_eq_true rfl, Nat.le_of_ble_eq_true rfl⟩ rfl hl.1 rfl (Nat.le_of_ble_eq_true rfl) dX7_addRule_66 ⟨Nat.le_of_ble_eq_true rfl, Nat.le_of_ble_eq_true rfl⟩) (fun H locs hW hS => ?_)
        refine lv_aload_n hx hb dX7_addRule_69 rfl (lv_at hl 0 rfl) ?_
        refine get_X7_5 S hG hW fl_X7_49 dX7_addRule_70 ?_
        refine gk0_i hS (gv_run (rest := []) S hG hW hS [] (c_X4_size l Γ q66 M) pk_X4_size ml_X7_267 (Nat.le_of_ble_eq_true rfl) rfl rfl rfl rfl ⟨Nat.le_of_ble_eq_true rfl, Nat.le_of_ble_eq_true rfl⟩ rfl hl.1 rfl (Nat.le_of_ble_eq_true rfl) dX7_addRule_73 ⟨Nat.le_of_ble_eq_true rfl, Nat.le_of_ble_eq_true rfl⟩) (fun H locs hW hS => ?_)
        have e9 := Option.some.inj hf
        subst e9
        exact hret _ _ _ _ _ _ _ hW hS rfl rfl (Nat.le_of_ble_eq_true rfl) (Nat.le_of_ble_eq_true rfl) dX7_addRule_76
      · have hf := cn_f c32 hf
        have e9 := Option.some.inj hf
        subst e9
        exact hthr _ _ _ _ _ _ _ 2 68 262 72 _ xw_2 (List.mem_of_getElem? (i := 22) rfl) hW hS hl.1 rfl (Nat.le_of_ble_eq_true rfl) (Nat.le_of_ble_eq_true rfl) (Nat.le_of_ble_eq_true rfl) dX7_addRule_35 dX7_addRule_38 (Or.inr ⟨dX7_addRule_39, dX7_addRule_42, dX7_addRule_45⟩)
    · have hf := cn_f c7 hf
      exact J_10  hf H locs ls hW hS (lv_sub hl [] rfl)
noncomputable def fX7_ownerOf (C : Mem) (a1 : Int32) : Option (Int32 ⊕ Nat) := bnd (fX7_requireFile C a1) fun q2 => sw q2 (fun _ => bnd (fX4_latestOwner C a1) fun q10 => some (.inl q10)) (fun k => some (.inr k))
abbrev rm_X7_ownerOf : Room := { frames := 7, cells := 1, slots := 6, locals := 121 }
set_option maxRecDepth 100000 in
set_option maxHeartbeats 4000000 in
theorem c_X7_ownerOf (l : Launch) (hl0 : l.stackTraces = false) (Γ : gx_G) (C M : Mem) (a1 : Int32) {y0 : (Int32 ⊕ Nat)} (hf : fX7_ownerOf C a1 = some y0) : vx_Met l yX7_ownerOf (.code yX7_ownerOf cX7_ownerOf 2 (some .int) :: TsG) rm_X7_ownerOf (va_Pc [.ref (Γ.1 0), .int a1] (gx_P Γ C M)) (gx_QiX Γ y0 C M) (gx_XX Γ y0 C M) 1 6 (gA Γ) := by
  refine gx_i (by decide) rfl (Nat.le_of_ble_eq_true rfl) hl0 (Nat.le_of_ble_eq_true rfl) (Nat.le_of_ble_eq_true rfl) (Nat.le_of_ble_eq_true rfl) (Nat.le_of_ble_eq_true rfl) ?_
  intro p e s m args below meth c Q S hG hret hthr hout ls H locs hl hW hS
  obtain ⟨hx, hb, hml, hown, hts⟩ := id S
  have hl : lv_has ls 2 [(0, .ref (Γ.1 0)), (1, .int a1)] := hl
  unfold fX7_ownerOf at hf
  refine lv_aload_n hx hb dX7_ownerOf_0 rfl (lv_at hl 0 rfl) ?_
  refine lv_iload_n hx hb dX7_ownerOf_1 rfl (lv_at hl 1 rfl) ?_
  obtain ⟨q2, hq2, hf⟩ := bnd_e hf
  refine gxk_v hS (gvx_run (rest := []) S hG hW hS [.int a1] (c_X7_requireFile l hl0 Γ C M a1 hq2) pk_X7_requireFile rfl ml_X7_129 rfl rfl ⟨Nat.le_of_ble_eq_true rfl, Nat.le_of_ble_eq_true rfl⟩ rfl hl.1 rfl (Nat.le_of_ble_eq_true rfl) dX7_ownerOf_2 ⟨Nat.le_of_ble_eq_true rfl, Nat.le_of_ble_eq_true rfl⟩) (fun H locs k9 ce9 z9 hW hS e9 hce hcv hcl => ?_) (fun H locs hW hS e9 => ?_)
  · have hf := sw_r e9 hf
    have e8 := Option.some.inj hf
    subst e8
    exact hout _ _ _ _ _ _ _ _ _ _ hW hS rfl hce hcv hcl (Nat.le_of_ble_eq_true rfl) (Nat.le_of_ble_eq_true rfl)
  have hf := sw_l e9 hf
  refine lv_aload_n hx hb dX7_ownerOf_5 rfl (lv_at hl 0 rfl) ?_
  refine get_X7_5 S hG hW fl_X7_49 dX7_ownerOf_6 ?_
  refine lv_iload_n hx hb dX7_ownerOf_9 rfl (lv_at hl 1 rfl) ?_
  obtain ⟨q10, hq10, hf⟩ := bnd_e hf
  refine gk0_i hS (gv_run (rest := []) S hG hW hS [.int a1] (c_X4_latestOwner l Γ C M a1 hq10) pk_X4_latestOwner ml_X7_268 (Nat.le_of_ble_eq_true rfl) rfl rfl rfl rfl ⟨Nat.le_of_ble_eq_true rfl, Nat.le_of_ble_eq_true rfl⟩ rfl hl.1 rfl (Nat.le_of_ble_eq_true rfl) dX7_ownerOf_10 ⟨Nat.le_of_ble_eq_true rfl, Nat.le_of_ble_eq_true rfl⟩) (fun H locs hW hS => ?_)
  have e9 := Option.some.inj hf
  subst e9
  exact hret _ _ _ _ _ _ _ hW hS rfl rfl (Nat.le_of_ble_eq_true rfl) (Nat.le_of_ble_eq_true rfl) dX7_ownerOf_13
