noncomputable def fJ6_bitCount_0f7a4 (a1 : Int32) : Int32 := nmv ((a1 - (((a1.toUInt32 >>> ((1 : Int32).toUInt32 &&& Int32.toUInt32 31)).toInt32) &&& (1431655765 : Int32)))) fun v9 => nmv (((v9 &&& (858993459 : Int32)) + (((v9.toUInt32 >>> ((2 : Int32).toUInt32 &&& Int32.toUInt32 31)).toInt32) &&& (858993459 : Int32)))) fun v23 => nmv (((v23 + ((v23.toUInt32 >>> ((4 : Int32).toUInt32 &&& Int32.toUInt32 31)).toInt32)) &&& (252645135 : Int32))) fun v33 => nmv ((v33 + ((v33.toUInt32 >>> ((8 : Int32).toUInt32 &&& Int32.toUInt32 31)).toInt32))) fun v40 => nmv ((v40 + ((v40.toUInt32 >>> ((16 : Int32).toUInt32 &&& Int32.toUInt32 31)).toInt32))) fun v47 => (v47 &&& (63 : Int32))
abbrev rm_J6_bitCount_0f7a4 : Room := { frames := 0, cells := 0, slots := 0, locals := 0 }
set_option maxRecDepth 100000 in
set_option maxHeartbeats 4000000 in
theorem c_J6_bitCount_0f7a4 (l : Launch) (Γ : gx_G) (C M : Mem) (a1 : Int32) : Met l yJ6_bitCount_0f7a4 (.code yJ6_bitCount_0f7a4 cJ6_bitCount_0f7a4 1 (some .int) :: TsG) rm_J6_bitCount_0f7a4 (va_Pc [.int a1] (gx_P Γ C M)) (gx_Qi Γ (fJ6_bitCount_0f7a4 a1) C M) 0 0 (gA Γ) := by
  refine gm_i (by decide) (Nat.le_of_ble_eq_true rfl) ?_
  intro p e s m args below meth c Q S hG hret ls H locs hl hW hS
  obtain ⟨hx, hb, hml, hown, hts⟩ := id S
  have hl : lv_has ls 1 [(0, .int a1)] := hl
  generalize hy0 : fJ6_bitCount_0f7a4 a1 = y0 at hret
  have hf := hy0
  unfold fJ6_bitCount_0f7a4 at hf
  refine lv_iload_n hx hb dJ6_bitCount_0f7a4_0 rfl (lv_at hl 0 rfl) ?_
  refine lv_iload_n hx hb dJ6_bitCount_0f7a4_1 rfl (lv_at hl 0 rfl) ?_
  refine lv_iconst (v := (1 : Int32)) hx hb dJ6_bitCount_0f7a4_2 (by decide) ?_
  refine lv_iushr (v := (a1.toUInt32 >>> ((1 : Int32).toUInt32 &&& Int32.toUInt32 31)).toInt32) hx hb dJ6_bitCount_0f7a4_3 rfl ?_
  refine lv_ldcw (v := (1431655765 : Int32)) hx hb hown (hts _ ct_J6_265) dJ6_bitCount_0f7a4_4 ?_
  refine lv_iand hx hb dJ6_bitCount_0f7a4_7 ?_
  refine lv_isub hx hb dJ6_bitCount_0f7a4_8 ?_
  refine lv_topi (fun v9 ev9 => ?_)
  have hf := nm_v ev9 hf
  refine lv_istore_n (lv' := [(0, .int v9)]) hx hb dJ6_bitCount_0f7a4_9 rfl hl (by decide) rfl (fun ls hl => ?_)
  refine lv_iload_n hx hb dJ6_bitCount_0f7a4_10 rfl (lv_at hl 0 rfl) ?_
  refine lv_ldcw (v := (858993459 : Int32)) hx hb hown (hts _ ct_J6_266) dJ6_bitCount_0f7a4_11 ?_
  refine lv_iand hx hb dJ6_bitCount_0f7a4_14 ?_
  refine lv_iload_n hx hb dJ6_bitCount_0f7a4_15 rfl (lv_at hl 0 rfl) ?_
  refine lv_iconst (v := (2 : Int32)) hx hb dJ6_bitCount_0f7a4_16 (by decide) ?_
  refine lv_iushr (v := (v9.toUInt32 >>> ((2 : Int32).toUInt32 &&& Int32.toUInt32 31)).toInt32) hx hb dJ6_bitCount_0f7a4_17 rfl ?_
  refine lv_ldcw (v := (858993459 : Int32)) hx hb hown (hts _ ct_J6_266) dJ6_bitCount_0f7a4_18 ?_
  refine lv_iand hx hb dJ6_bitCount_0f7a4_21 ?_
  refine lv_iadd hx hb dJ6_bitCount_0f7a4_22 ?_
  refine lv_topi (fun v23 ev23 => ?_)
  have hf := nm_v ev23 hf
  refine lv_istore_n (lv' := [(0, .int v23)]) hx hb dJ6_bitCount_0f7a4_23 rfl hl (by decide) rfl (fun ls hl => ?_)
  refine lv_iload_n hx hb dJ6_bitCount_0f7a4_24 rfl (lv_at hl 0 rfl) ?_
  refine lv_iload_n hx hb dJ6_bitCount_0f7a4_25 rfl (lv_at hl 0 rfl) ?_
  refine lv_iconst (v := (4 : Int32)) hx hb dJ6_bitCount_0f7a4_26 (by decide) ?_
  refine lv_iushr (v := (v23.toUInt32 >>> ((4 : Int32).toUInt32 &&& Int32.toUInt32 31)).toInt32) hx hb dJ6_bitCount_0f7a4_27 rfl ?_
  refine lv_iadd hx hb dJ6_bitCount_0f7a4_28 ?_
  refine lv_ldcw (v := (252645135 : Int32)) hx hb hown (hts _ ct_J6_267) dJ6_bitCount_0f7a4_29 ?_
  refine lv_iand hx hb dJ6_bitCount_0f7a4_32 ?_
  refine lv_topi (fun v33 ev33 => ?_)
  have hf := nm_v ev33 hf
  refine lv_istore_n (lv' := [(0, .int v33)]) hx hb dJ6_bitCount_0f7a4_33 rfl hl (by decide) rfl (fun ls hl => ?_)
  refine lv_iload_n hx hb dJ6_bitCount_0f7a4_34 rfl (lv_at hl 0 rfl) ?_
  refine lv_iload_n hx hb dJ6_bitCount_0f7a4_35 rfl (lv_at hl 0 rfl) ?_
  refine lv_bipush (v := (8 : Int32)) hx hb dJ6_bitCount_0f7a4_36 (by decide) ?_
  refine lv_iushr (v := (v33.toUInt32 >>> ((8 : Int32).toUInt32 &&& Int32.toUInt32 31)).toInt32) hx hb dJ6_bitCount_0f7a4_38 rfl ?_
  refine lv_iadd hx hb dJ6_bitCount_0f7a4_39 ?_
  refine lv_topi (fun v40 ev40 => ?_)
  have hf := nm_v ev40 hf
  refine lv_istore_n (lv' := [(0, .int v40)]) hx hb dJ6_bitCount_0f7a4_40 rfl hl (by decide) rfl (fun ls hl => ?_)
  refine lv_iload_n hx hb dJ6_bitCount_0f7a4_41 rfl (lv_at hl 0 rfl) ?_
  refine lv_iload_n hx hb dJ6_bitCount_0f7a4_42 rfl (lv_at hl 0 rfl) ?_
  refine lv_bipush (v := (16 : Int32)) hx hb dJ6_bitCount_0f7a4_43 (by decide) ?_
  refine lv_iushr (v := (v40.toUInt32 >>> ((16 : Int32).toUInt32 &&& Int32.toUInt32 31)).toInt32) hx hb dJ6_bitCount_0f7a4_45 rfl ?_
  refine lv_iadd hx hb dJ6_bitCount_0f7a4_46 ?_
  refine lv_topi (fun v47 ev47 => ?_)
  have hf := nm_v ev47 hf
  refine lv_istore_n (lv' := [(0, .int v47)]) hx hb dJ6_bitCount_0f7a4_47 rfl hl (by decide) rfl (fun ls hl => ?_)
  refine lv_iload_n hx hb dJ6_bitCount_0f7a4_48 rfl (lv_at hl 0 rfl) ?_
  refine lv_bipush (v := (63 : Int32)) hx hb dJ6_bitCount_0f7a4_49 (by decide) ?_
  refine lv_iand hx hb dJ6_bitCount_0f7a4_51 ?_
  exact hret _ _ _ _ _ hW hS rfl hf dJ6_bitCount_0f7a4_52
noncomputable def fJ7_fill_53178_5 (a2 : Int32) (p1 : Nat) (v4 : Int32) : (Mem × Int32) → Option ((Mem × Int32) ⊕ Mem) := fun t_5 => cnd (v4 ≤ t_5.2) (exR (some t_5.1)) (chk (vp_in t_5.2 (ln p1)) (some (.inl ((mset t_5.1 p1 t_5.2.toNatClampNeg a2), (t_5.2 + (1 : Int32))))))
noncomputable def fJ7_fill_53178 (C : Mem) (p1 : Nat) (a2 : Int32) : Option Mem := nmv ((nI (ln p1))) fun v4 => lp (fJ7_fill_53178_5 a2 p1 v4) (C, (0 : Int32))
abbrev rm_J7_fill_53178 : Room := { frames := 0, cells := 0, slots := 0, locals := 0 }
set_option maxRecDepth 100000 in
set_option maxHeartbeats 4000000 in
theorem c_J7_fill_53178 (l : Launch) (Γ : gx_G) (C M : Mem) {p1 : Nat} (hp1 : shp p1 = 3) (a2 : Int32) {y0 : Mem} (hf : fJ7_fill_53178 C p1 a2 = some y0) : Met l yJ7_fill_53178 (.code yJ7_fill_53178 cJ7_fill_53178 4 none :: TsG) rm_J7_fill_53178 (va_Pc [.ref (Γ.1 p1), .int a2] (gx_P Γ C M)) (gx_Qv Γ y0 M) 0 0 (gA Γ) := by
  refine gm_v (by decide) (Nat.le_of_ble_eq_true rfl) ?_
  intro p e s m args below meth c Q S hG hret ls H locs hl hW hS
  obtain ⟨hx, hb, hml, hown, hts⟩ := id S
  have hl : lv_has ls 4 [(0, .ref (Γ.1 p1)), (1, .int a2)] := hl
  unfold fJ7_fill_53178 at hf
  refine lv_iconst (v := (0 : Int32)) hx hb dJ7_fill_53178_0 (by decide) ?_
  refine lv_istore_n (lv' := [(2, .int (0 : Int32)), (0, .ref (Γ.1 p1)), (1, .int a2)]) hx hb dJ7_fill_53178_1 rfl hl (by decide) rfl (fun ls hl => ?_)
  refine lv_aload_n hx hb dJ7_fill_53178_2 rfl (lv_at hl 1 rfl) ?_
  refine alen_i S hG hW hp1 rfl dJ7_fill_53178_3 ?_
  refine lv_topi (fun v4 ev4 => ?_)
  have hf := nm_v ev4 hf
  refine lv_istore_n (lv' := [(3, .int v4), (2, .int (0 : Int32)), (0, .ref (Γ.1 p1)), (1, .int a2)]) hx hb dJ7_fill_53178_4 rfl hl (by decide) rfl (fun ls hl => ?_)
  have J_5 : ∀  (t_5 : Mem × Int32), lp (fJ7_fill_53178_5 a2 p1 v4) t_5 = some y0 → ∀ (H : Heap) (locs : List Loc) (ls : Array Slot), gx_W Γ t_5.1 M H → va_S (gA Γ) s.heap H locs → lv_has ls 4 [(0, .ref (Γ.1 p1)), (1, .int a2), (2, .int t_5.2), (3, .int v4)] → W p l e rm_J7_fill_53178 s m args below meth c H locs 0 0 Q (F0 m 5 ls []) := by
    refine lp_ind (P := fun (t_5 : Mem × Int32) => ∀ (H : Heap) (locs : List Loc) (ls : Array Slot), gx_W Γ t_5.1 M H → va_S (gA Γ) s.heap H locs → lv_has ls 4 [(0, .ref (Γ.1 p1)), (1, .int a2), (2, .int t_5.2), (3, .int v4)] → W p l e rm_J7_fill_53178 s m args below meth c H locs 0 0 Q (F0 m 5 ls [])) ?_
    intro t_5 y1 hf kI1 kX1 H locs ls hW hS hl
    unfold fJ7_fill_53178_5 at hf
    refine lv_iload_n hx hb dJ7_fill_53178_5 rfl (lv_at hl 2 rfl) ?_
    refine lv_iload_n hx hb dJ7_fill_53178_6 rfl (lv_at hl 3 rfl) ?_
    refine lv_icmp_ge (tgt := 20) hx hb dJ7_fill_53178_7 (by decide) (fun c7 => ?_) (fun c7 => ?_)
    · have hf := cn_t c7 hf
      obtain ⟨z7, hf, ez⟩ := exR_e hf
      rw [kX1 _ ez] at hf
      have e9 := Option.some.inj hf
      subst e9
      exact hret _ _ _ _ hW hS dJ7_fill_53178_20
    · have hf := cn_f c7 hf
      refine lv_aload_n hx hb dJ7_fill_53178_10 rfl (lv_at hl 0 rfl) ?_
      refine lv_iload_n hx hb dJ7_fill_53178_11 rfl (lv_at hl 2 rfl) ?_
      refine lv_iload_n hx hb dJ7_fill_53178_12 rfl (lv_at hl 1 rfl) ?_
      have g13 := ck_p hf
      have hf := ck_r hf
      refine ast_i S hG hW hS hp1 rfl g13 dJ7_fill_53178_13 (fun H locs hW hS => ?_)
      refine lv_iinc (v := (t_5.2 + (1 : Int32))) (lv' := [(2, .int (t_5.2 + (1 : Int32))), (0, .ref (Γ.1 p1)), (1, .int a2), (3, .int v4)]) hx hb dJ7_fill_53178_14 hl (k := 2) rfl rfl (by decide) rfl (fun ls hl => ?_)
      refine lv_goto (tgt := 5) hx hb dJ7_fill_53178_17 (by decide) ?_
      exact kI1 _ (Option.some.inj hf).symm H locs ls hW hS (lv_sub hl [1, 2, 0, 3] rfl)
  exact J_5 (C, (0 : Int32)) hf H locs ls hW hS (lv_sub hl [2, 3, 1, 0] rfl)
noncomputable def fX7_holds (a1 : Int32) (a2 : Int32) : Int32 := cnd (((a1 >>> (a2 &&& 31)) &&& (1 : Int32)) = (1 : Int32)) ((1 : Int32)) ((0 : Int32))
abbrev rm_X7_holds : Room := { frames := 0, cells := 0, slots := 0, locals := 0 }
set_option maxRecDepth 100000 in
set_option maxHeartbeats 4000000 in
theorem c_X7_holds (l : Launch) (Γ : gx_G) (C M : Mem) (a1 : Int32) (a2 : Int32) : Met l yX7_holds (.code yX7_holds cX7_holds 2 (some .boolean) :: TsG) rm_X7_holds (va_Pc [.int a1, .int a2] (gx_P Γ C M)) (gx_Qi Γ (fX7_holds a1 a2) C M) 0 0 (gA Γ) := by
  refine gm_i (by decide) (Nat.le_of_ble_eq_true rfl) ?_
  intro p e s m args below meth c Q S hG hret ls H locs hl hW hS
  obtain ⟨hx, hb, hml, hown, hts⟩ := id S
  have hl : lv_has ls 2 [(0, .int a1), (1, .int a2)] := hl
  generalize hy0 : fX7_holds a1 a2 = y0 at hret
  have hf := hy0
  unfold fX7_holds at hf
  refine lv_iload_n hx hb dX7_holds_0 rfl (lv_at hl 0 rfl) ?_
  refine lv_iload_n hx hb dX7_holds_1 rfl (lv_at hl 1 rfl) ?_
  refine lv_ishr hx hb dX7_holds_2 ?_
  refine lv_iconst (v := (1 : Int32)) hx hb dX7_holds_3 (by decide) ?_
  refine lv_iand hx hb dX7_holds_4 ?_
  refine lv_iconst (v := (1 : Int32)) hx hb dX7_holds_5 (by decide) ?_
  refine lv_icmp_ne (tgt := 13) hx hb dX7_holds_6 (by decide) (fun c6 => ?_) (fun c6 => ?_)
  · have hf := cn_f c6 hf
    refine lv_iconst (v := (0 : Int32)) hx hb dX7_holds_13 (by decide) ?_
    exact hret _ _ _ _ _ hW hS rfl hf dX7_holds_14
  · have hf := cn_t c6 hf
    refine lv_iconst (v := (1 : Int32)) hx hb dX7_holds_9 (by decide) ?_
    refine lv_goto (tgt := 14) hx hb dX7_holds_10 (by decide) ?_
    exact hret _ _ _ _ _ hW hS rfl hf dX7_holds_14
noncomputable def fX7_isSign_30  : Int32 := (1 : Int32)
noncomputable def fX7_isSign_12 (a1 : Int32) : Int32 := cnd (a1 = (47 : Int32)) (fX7_isSign_30) (cnd (a1 = (42 : Int32)) (fX7_isSign_30) (cnd (a1 = (63 : Int32)) (fX7_isSign_30) ((0 : Int32))))
noncomputable def fX7_isSign (a1 : Int32) : Int32 := cnd (a1 < (97 : Int32)) (fX7_isSign_12 a1) (cnd (a1 ≤ (122 : Int32)) (fX7_isSign_30) (fX7_isSign_12 a1))
abbrev rm_X7_isSign : Room := { frames := 0, cells := 0, slots := 0, locals := 0 }
set_option maxRecDepth 100000 in
set_option maxHeartbeats 4000000 in
theorem c_X7_isSign (l : Launch) (Γ : gx_G) (C M : Mem) (a1 : Int32) : Met l yX7_isSign (.code yX7_isSign cX7_isSign 1 (some .boolean) :: TsG) rm_X7_isSign (va_Pc [.int a1] (gx_P Γ C M)) (gx_Qi Γ (fX7_isSign a1) C M) 0 0 (gA Γ) := by
  refine gm_i (by decide) (Nat.le_of_ble_eq_true rfl) ?_
  intro p e s m args below meth c Q S hG hret ls H locs hl hW hS
  obtain ⟨hx, hb, hml, hown, hts⟩ := id S
  have hl : lv_has ls 1 [(0, .int a1)] := hl
  generalize hy0 : fX7_isSign a1 = y0 at hret
  have hf := hy0
  unfold fX7_isSign at hf
  refine lv_iload_n hx hb dX7_isSign_0 rfl (lv_at hl 0 rfl) ?_
  refine lv_bipush (v := (97 : Int32)) hx hb dX7_isSign_1 (by decide) ?_
  have J_30 : fX7_isSign_30 = y0 → ∀ (H : Heap) (locs : List Loc) (ls : Array Slot), gx_W Γ C M H → va_S (gA Γ) s.heap H locs → lv_has ls 1 [] → W p l e rm_X7_isSign s m args below meth c H locs 0 0 Q (F0 m 30 ls []) := by
    intro  hf H locs ls hW hS hl
    unfold fX7_isSign_30 at hf
    refine lv_iconst (v := (1 : Int32)) hx hb dX7_isSign_30 (by decide) ?_
    refine lv_goto (tgt := 35) hx hb dX7_isSign_31 (by decide) ?_
    exact hret _ _ _ _ _ hW hS rfl hf dX7_isSign_35
  have J_12 : fX7_isSign_12 a1 = y0 → ∀ (H : Heap) (locs : List Loc) (ls : Array Slot), gx_W Γ C M H → va_S (gA Γ) s.heap H locs → lv_has ls 1 [(0, .int a1)] → W p l e rm_X7_isSign s m args below meth c H locs 0 0 Q (F0 m 12 ls []) := by
    intro  hf H locs ls hW hS hl
    unfold fX7_isSign_12 at hf
    refine lv_iload_n hx hb dX7_isSign_12 rfl (lv_at hl 0 rfl) ?_
    refine lv_bipush (v := (47 : Int32)) hx hb dX7_isSign_13 (by decide) ?_
    refine lv_icmp_eq (tgt := 30) hx hb dX7_isSign_15 (by decide) (fun c15 => ?_) (fun c15 => ?_)
    · have hf := cn_t c15 hf
      exact J_30  hf H locs ls hW hS (lv_sub hl [] rfl)
    · have hf := cn_f c15 hf
      refine lv_iload_n hx hb dX7_isSign_18 rfl (lv_at hl 0 rfl) ?_
      refine lv_bipush (v := (42 : Int32)) hx hb dX7_isSign_19 (by decide) ?_
      refine lv_icmp_eq (tgt := 30) hx hb dX7_isSign_21 (by decide) (fun c21 => ?_) (fun c21 => ?_)
      · have hf := cn_t c21 hf
        exact J_30  hf H locs ls hW hS (lv_sub hl [] rfl)
      · have hf := cn_f c21 hf
        refine lv_iload_n hx hb dX7_isSign_24 rfl (lv_at hl 0 rfl) ?_
        refine lv_bipush (v := (63 : Int32)) hx hb dX7_isSign_25 (by decide) ?_
        refine lv_icmp_ne (tgt := 34) hx hb dX7_isSign_27 (by decide) (fun c27 => ?_) (fun c27 => ?_)
        · have hf := cn_f c27 hf
          refine lv_iconst (v := (0 : Int32)) hx hb dX7_isSign_34 (by decide) ?_
          exact hret _ _ _ _ _ hW hS rfl hf dX7_isSign_35
        · have hf := cn_t c27 hf
          exact J_30  hf H locs ls hW hS (lv_sub hl [] rfl)
  refine lv_icmp_lt (tgt := 12) hx hb dX7_isSign_3 (by decide) (fun c3 => ?_) (fun c3 => ?_)
  · have hf := cn_t c3 hf
    exact J_12  hf H locs ls hW hS (lv_sub hl [0] rfl)
  · have hf := cn_f c3 hf
    refine lv_iload_n hx hb dX7_isSign_6 rfl (lv_at hl 0 rfl) ?_
    refine lv_bipush (v := (122 : Int32)) hx hb dX7_isSign_7 (by decide) ?_
    refine lv_icmp_le (tgt := 30) hx hb dX7_isSign_9 (by decide) (fun c9 => ?_) (fun c9 => ?_)
    · have hf := cn_t c9 hf
      exact J_30  hf H locs ls hW hS (lv_sub hl [] rfl)
    · have hf := cn_f c9 hf
      exact J_12  hf H locs ls hW hS (lv_sub hl [0] rfl)
noncomputable def fX6_size (C : Mem) (o : Nat) : Int32 := (C o 1)
abbrev rm_X6_size : Room := { frames := 0, cells := 0, slots := 0, locals := 0 }
set_option maxRecDepth 100000 in
set_option maxHeartbeats 4000000 in
theorem c_X6_size (l : Launch) (Γ : gx_G) (C M : Mem) {o : Nat} (ho : shp o = 1) : Met l yX6_size (.code yX6_size cX6_size 1 (some .int) :: TsG) rm_X6_size (va_Pc [.ref (Γ.1 o)] (gx_P Γ C M)) (gx_Qi Γ (fX6_size C o) C M) 0 0 (gA Γ) := by
  refine gm_i (by decide) (Nat.le_of_ble_eq_true rfl) ?_
  intro p e s m args below meth c Q S hG hret ls H locs hl hW hS
  obtain ⟨hx, hb, hml, hown, hts⟩ := id S
  have hl : lv_has ls 1 [(0, .ref (Γ.1 o))] := hl
  generalize hy0 : fX6_size C o = y0 at hret
  have hf := hy0
  unfold fX6_size at hf
  refine lv_aload_n hx hb dX6_size_0 rfl (lv_at hl 0 rfl) ?_
  refine get_X6_1 S hG hW ho fl_X6_15 dX6_size_1 ?_
  exact hret _ _ _ _ _ hW hS rfl hf dX6_size_4
noncomputable def fX6_empty (C : Mem) (o : Nat) : Option Mem := some (mset C o 1 (0 : Int32))
abbrev rm_X6_empty : Room := { frames := 0, cells := 0, slots := 0, locals := 0 }
set_option maxRecDepth 100000 in
set_option maxHeartbeats 4000000 in
theorem c_X6_empty (l : Launch) (Γ : gx_G) (C M : Mem) {o : Nat} (ho : shp o = 1) {y0 : Mem} (hf : fX6_empty C o = some y0) : Met l yX6_empty (.code yX6_empty cX6_empty 1 none :: TsG) rm_X6_empty (va_Pc [.ref (Γ.1 o)] (gx_P Γ C M)) (gx_Qv Γ y0 M) 0 0 (gA Γ) := by
  refine gm_v (by decide) (Nat.le_of_ble_eq_true rfl) ?_
  intro p e s m args below meth c Q S hG hret ls H locs hl hW hS
  obtain ⟨hx, hb, hml, hown, hts⟩ := id S
  have hl : lv_has ls 1 [(0, .ref (Γ.1 o))] := hl
  unfold fX6_empty at hf
  refine lv_aload_n hx hb dX6_empty_0 rfl (lv_at hl 0 rfl) ?_
  refine lv_iconst (v := (0 : Int32)) hx hb dX6_empty_1 (by decide) ?_
  refine put_X6_1 S hG hW hS ho fl_X6_15 dX6_empty_2 (fun H locs hW hS => ?_)
  have e9 := Option.some.inj hf
  subst e9
  exact hret _ _ _ _ hW hS dX6_empty_5
noncomputable def fX6_signAt_21 (C : Mem) : Option Int32 := some (47 : Int32)
noncomputable def fX6_signAt (C : Mem) (o : Nat) (a1 : Int32) : Option Int32 := cnd (a1 < (0 : Int32)) (fX6_signAt_21 C) (cnd ((C o 1) ≤ a1) (fX6_signAt_21 C) (chk (vp_in a1 24) (chk (narrow .char (.int (C (o + 1) a1.toNatClampNeg)) = .int (C (o + 1) a1.toNatClampNeg)) (some (C (o + 1) a1.toNatClampNeg)))))
abbrev rm_X6_signAt : Room := { frames := 0, cells := 0, slots := 0, locals := 0 }
set_option maxRecDepth 100000 in
set_option maxHeartbeats 4000000 in
theorem c_X6_signAt (l : Launch) (Γ : gx_G) (C M : Mem) {o : Nat} (ho : shp o = 1) (a1 : Int32) {y0 : Int32} (hf : fX6_signAt C o a1 = some y0) : Met l yX6_signAt (.code yX6_signAt cX6_signAt 2 (some .char) :: TsG) rm_X6_signAt (va_Pc [.ref (Γ.1 o), .int a1] (gx_P Γ C M)) (gx_Qi Γ y0 C M) 0 0 (gA Γ) := by
  refine gm_i (by decide) (Nat.le_of_ble_eq_true rfl) ?_
  intro p e s m args below meth c Q S hG hret ls H locs hl hW hS
  obtain ⟨hx, hb, hml, hown, hts⟩ := id S
  have hl : lv_has ls 2 [(0, .ref (Γ.1 o)), (1, .int a1)] := hl
  unfold fX6_signAt at hf
  refine lv_iload_n hx hb dX6_signAt_0 rfl (lv_at hl 1 rfl) ?_
  have J_21 : fX6_signAt_21 C = some y0 → ∀ (H : Heap) (locs : List Loc) (ls : Array Slot), gx_W Γ C M H → va_S (gA Γ) s.heap H locs → lv_has ls 2 [] → W p l e rm_X6_signAt s m args below meth c H locs 0 0 Q (F0 m 21 ls []) := by
    intro  hf H locs ls hW hS hl
    unfold fX6_signAt_21 at hf
    refine lv_bipush (v := (47 : Int32)) hx hb dX6_signAt_21 (by decide) ?_
    exact hret _ _ _ _ _ hW hS rfl (Option.some.inj hf) dX6_signAt_23
  refine lv_if_lt (tgt := 21) hx hb dX6_signAt_1 (by decide) (fun c1 => ?_) (fun c1 => ?_)
  · have hf := cn_t c1 hf
    exact J_21  hf H locs ls hW hS (lv_sub hl [] rfl)
  · have hf := cn_f c1 hf
    refine lv_iload_n hx hb dX6_signAt_4 rfl (lv_at hl 1 rfl) ?_
    refine lv_aload_n hx hb dX6_signAt_5 rfl (lv_at hl 0 rfl) ?_
    refine get_X6_1 S hG hW ho fl_X6_15 dX6_signAt_6 ?_
    refine lv_icmp_ge (tgt := 21) hx hb dX6_signAt_9 (by decide) (fun c9 => ?_) (fun c9 => ?_)
    · have hf := cn_t c9 hf
      exact J_21  hf H locs ls hW hS (lv_sub hl [] rfl)
    · have hf := cn_f c9 hf
      refine lv_aload_n hx hb dX6_signAt_12 rfl (lv_at hl 0 rfl) ?_
      refine get_X6_0 S hG hW ho fl_X6_9 dX6_signAt_13 ?_
      refine lv_iload_n hx hb dX6_signAt_16 rfl (lv_at hl 1 rfl) ?_
      have g17 := ck_p hf
      have hf := ck_r hf
      refine ald_c S hG hW (sh_t1 ho) g17 dX6_signAt_17 ?_
      refine lv_goto (tgt := 23) hx hb dX6_signAt_18 (by decide) ?_
      have n9 := ck_p hf
      have hf := ck_r hf
      exact hret _ _ _ _ _ hW hS n9 (Option.some.inj hf) dX6_signAt_23
noncomputable def fX6_hasEmptySegment_34 (C : Mem) (o : Nat) (t_2 : (Int32)) : Option ((Int32) ⊕ Int32) := some (.inl (t_2 + (1 : Int32)))
noncomputable def fX6_hasEmptySegment_2 (C : Mem) (o : Nat) : (Int32) → Option ((Int32) ⊕ Int32) := fun t_2 => cnd ((C o 1) < t_2) (exR (some (0 : Int32))) (bnd (fX6_signAt C o (t_2 - (1 : Int32))) fun q14 => cnd (q14 = (47 : Int32)) (bnd (fX6_signAt C o t_2) fun q24 => cnd (q24 = (47 : Int32)) (exR (some (1 : Int32))) (fX6_hasEmptySegment_34 C o t_2)) (fX6_hasEmptySegment_34 C o t_2))
noncomputable def fX6_hasEmptySegment (C : Mem) (o : Nat) : Option Int32 := lp (fX6_hasEmptySegment_2 C o) (0 : Int32)
abbrev rm_X6_hasEmptySegment : Room := { frames := 1, cells := 0, slots := 0, locals := 21 }
set_option maxRecDepth 100000 in
set_option maxHeartbeats 4000000 in
theorem c_X6_hasEmptySegment (l : Launch) (Γ : gx_G) (C M : Mem) {o : Nat} (ho : shp o = 1) {y0 : Int32} (hf : fX6_hasEmptySegment C o = some y0) : Met l yX6_hasEmptySegment (.code yX6_hasEmptySegment cX6_hasEmptySegment 2 (some .boolean) :: TsG) rm_X6_hasEmptySegment (va_Pc [.ref (Γ.1 o)] (gx_P Γ C M)) (gx_Qi Γ y0 C M) 0 0 (gA Γ) := by
  refine gm_i (by decide) (Nat.le_of_ble_eq_true rfl) ?_
  intro p e s m args below meth c Q S hG hret ls H locs hl hW hS
  obtain ⟨hx, hb, hml, hown, hts⟩ := id S
  have hl : lv_has ls 2 [(0, .ref (Γ.1 o))] := hl
  unfold fX6_hasEmptySegment at hf
  refine lv_iconst (v := (0 : Int32)) hx hb dX6_hasEmptySegment_0 (by decide) ?_
  refine lv_istore_n (lv' := [(1, .int (0 : Int32)), (0, .ref (Γ.1 o))]) hx hb dX6_hasEmptySegment_1 rfl hl (by decide) rfl (fun ls hl => ?_)
  have J_2 : ∀  (t_2 : Int32), lp (fX6_hasEmptySegment_2 C o) t_2 = some y0 → ∀ (H : Heap) (locs : List Loc) (ls : Array Slot), gx_W Γ C M H → va_S (gA Γ) s.heap H locs → lv_has ls 2 [(0, .ref (Γ.1 o)), (1, .int t_2)] → W p l e rm_X6_hasEmptySegment s m args below meth c H locs 0 0 Q (F0 m 2 ls []) := by
    refine lp_ind (P := fun (t_2 : Int32) => ∀ (H : Heap) (locs : List Loc) (ls : Array Slot), gx_W Γ C M H → va_S (gA Γ) s.heap H locs → lv_has ls 2 [(0, .ref (Γ.1 o)), (1, .int t_2)] → W p l e rm_X6_hasEmptySegment s m args below meth c H locs 0 0 Q (F0 m 2 ls [])) ?_
    intro t_2 y1 hf kI1 kX1 H locs ls hW hS hl
    unfold fX6_hasEmptySegment_2 at hf
    refine lv_iload_n hx hb dX6_hasEmptySegment_2 rfl (lv_at hl 1 rfl) ?_
    refine lv_aload_n hx hb dX6_hasEmptySegment_3 rfl (lv_at hl 0 rfl) ?_
    refine get_X6_1 S hG hW ho fl_X6_15 dX6_hasEmptySegment_4 ?_
    refine lv_icmp_gt (tgt := 40) hx hb dX6_hasEmptySegment_7 (by decide) (fun c7 => ?_) (fun c7 => ?_)
    · have hf := cn_t c7 hf
      obtain ⟨z7, hf, ez⟩ := exR_e hf
      rw [kX1 _ ez] at hf
      refine lv_iconst (v := (0 : Int32)) hx hb dX6_hasEmptySegment_40 (by decide) ?_
      exact hret _ _ _ _ _ hW hS rfl (Option.some.inj hf) dX6_hasEmptySegment_41
    · have hf := cn_f c7 hf
      refine lv_aload_n hx hb dX6_hasEmptySegment_10 rfl (lv_at hl 0 rfl) ?_
      refine lv_iload_n hx hb dX6_hasEmptySegment_11 rfl (lv_at hl 1 rfl) ?_
      refine lv_iconst (v := (1 : Int32)) hx hb dX6_hasEmptySegment_12 (by decide) ?_
      refine lv_isub hx hb dX6_hasEmptySegment_13 ?_
      obtain ⟨q14, hq14, hf⟩ := bnd_e hf
      refine gk0_i hS (gv_run (rest := []) S hG hW hS [.int (t_2 - (1 : Int32))] (c_X6_signAt l Γ C M ho (t_2 - (1 : Int32)) hq14) pk_X6_signAt ml_X6_27 (sh_lt1 ho) (cc_1 ho _ _) rfl rfl rfl ⟨Nat.le_of_ble_eq_true rfl, Nat.le_of_ble_eq_true rfl⟩ rfl hl.1 rfl (Nat.le_of_ble_eq_true rfl) dX6_hasEmptySegment_14 ⟨Nat.le_of_ble_eq_true rfl, Nat.le_of_ble_eq_true rfl⟩) (fun H locs hW hS => ?_)
      refine lv_bipush (v := (47 : Int32)) hx hb dX6_hasEmptySegment_17 (by decide) ?_
      have J_34 : fX6_hasEmptySegment_34 C o t_2 = some y1 → ∀ (H : Heap) (locs : List Loc) (ls : Array Slot), gx_W Γ C M H → va_S (gA Γ) s.heap H locs → lv_has ls 2 [(0, .ref (Γ.1 o)), (1, .int t_2)] → W p l e rm_X6_hasEmptySegment s m args below meth c H locs 0 0 Q (F0 m 34 ls []) := by
        intro  hf H locs ls hW hS hl
        unfold fX6_hasEmptySegment_34 at hf
        refine lv_iinc (v := (t_2 + (1 : Int32))) (lv' := [(1, .int (t_2 + (1 : Int32))), (0, .ref (Γ.1 o))]) hx hb dX6_hasEmptySegment_34 hl (k := 1) rfl rfl (by decide) rfl (fun ls hl => ?_)
        refine lv_goto (tgt := 2) hx hb dX6_hasEmptySegment_37 (by decide) ?_
        exact kI1 _ (Option.some.inj hf).symm H locs ls hW hS (lv_sub hl [1, 0] rfl)
      refine lv_icmp_ne (tgt := 34) hx hb dX6_hasEmptySegment_19 (by decide) (fun c19 => ?_) (fun c19 => ?_)
      · have hf := cn_f c19 hf
        exact J_34  hf H locs ls hW hS (lv_sub hl [0, 1] rfl)
      · have hf := cn_t c19 hf
        refine lv_aload_n hx hb dX6_hasEmptySegment_22 rfl (lv_at hl 0 rfl) ?_
        refine lv_iload_n hx hb dX6_hasEmptySegment_23 rfl (lv_at hl 1 rfl) ?_
        obtain ⟨q24, hq24, hf⟩ := bnd_e hf
        refine gk0_i hS (gv_run (rest := []) S hG hW hS [.int t_2] (c_X6_signAt l Γ C M ho t_2 hq24) pk_X6_signAt ml_X6_27 (sh_lt1 ho) (cc_1 ho _ _) rfl rfl rfl ⟨Nat.le_of_ble_eq_true rfl, Nat.le_of_ble_eq_true rfl⟩ rfl hl.1 rfl (Nat.le_of_ble_eq_true rfl) dX6_hasEmptySegment_24 ⟨Nat.le_of_ble_eq_true rfl, Nat.le_of_ble_eq_true rfl⟩) (fun H locs hW hS => ?_)
        refine lv_bipush (v := (47 : Int32)) hx hb dX6_hasEmptySegment_27 (by decide) ?_
        refine lv_icmp_ne (tgt := 34) hx hb dX6_hasEmptySegment_29 (by decide) (fun c29 => ?_) (fun c29 => ?_)
        · have hf := cn_f c29 hf
          exact J_34  hf H locs ls hW hS (lv_sub hl [0, 1] rfl)
        · have hf := cn_t c29 hf
          obtain ⟨z29, hf, ez⟩ := exR_e hf
          rw [kX1 _ ez] at hf
          refine lv_iconst (v := (1 : Int32)) hx hb dX6_hasEmptySegment_32 (by decide) ?_
          exact hret _ _ _ _ _ hW hS rfl (Option.some.inj hf) dX6_hasEmptySegment_33
  exact J_2 (0 : Int32) hf H locs ls hW hS (lv_sub hl [1, 0] rfl)
noncomputable def fX6_hasPathForm_40 (C : Mem) (o : Nat) : Option Int32 := bnd (fX6_hasEmptySegment C o) fun q41 => cnd (q41 = (0 : Int32)) (some (1 : Int32)) (some (0 : Int32))
noncomputable def fX6_hasPathForm_32 (C : Mem) : Option Int32 := some (0 : Int32)
noncomputable def fX6_hasPathForm_2 (C : Mem) (o : Nat) : (Int32) → Option ((Int32) ⊕ Int32) := fun t_2 => cnd ((C o 1) ≤ t_2) (exR (fX6_hasPathForm_40 C o)) (chk (vp_in t_2 24) (cnd ((C (o + 1) t_2.toNatClampNeg) = (42 : Int32)) (exR (fX6_hasPathForm_32 C)) (chk (vp_in t_2 24) (cnd ((C (o + 1) t_2.toNatClampNeg) = (63 : Int32)) (exR (fX6_hasPathForm_32 C)) (some (.inl (t_2 + (1 : Int32))))))))
noncomputable def fX6_hasPathForm (C : Mem) (o : Nat) : Option Int32 := lp (fX6_hasPathForm_2 C o) (0 : Int32)
abbrev rm_X6_hasPathForm : Room := { frames := 2, cells := 0, slots := 0, locals := 42 }
set_option maxRecDepth 100000 in
set_option maxHeartbeats 4000000 in
theorem c_X6_hasPathForm (l : Launch) (Γ : gx_G) (C M : Mem) {o : Nat} (ho : shp o = 1) {y0 : Int32} (hf : fX6_hasPathForm C o = some y0) : Met l yX6_hasPathForm (.code yX6_hasPathForm cX6_hasPathForm 2 (some .boolean) :: TsG) rm_X6_hasPathForm (va_Pc [.ref (Γ.1 o)] (gx_P Γ C M)) (gx_Qi Γ y0 C M) 0 0 (gA Γ) := by
  refine gm_i (by decide) (Nat.le_of_ble_eq_true rfl) ?_
  intro p e s m args below meth c Q S hG hret ls H locs hl hW hS
  obtain ⟨hx, hb, hml, hown, hts⟩ := id S
  have hl : lv_has ls 2 [(0, .ref (Γ.1 o))] := hl
  unfold fX6_hasPathForm at hf
  refine lv_iconst (v := (0 : Int32)) hx hb dX6_hasPathForm_0 (by decide) ?_
  refine lv_istore_n (lv' := [(1, .int (0 : Int32)), (0, .ref (Γ.1 o))]) hx hb dX6_hasPathForm_1 rfl hl (by decide) rfl (fun ls hl => ?_)
  have J_2 : ∀  (t_2 : Int32), lp (fX6_hasPathForm_2 C o) t_2 = some y0 → ∀ (H : Heap) (locs : List Loc) (ls : Array Slot), gx_W Γ C M H → va_S (gA Γ) s.heap H locs → lv_has ls 2 [(0, .ref (Γ.1 o)), (1, .int t_2)] → W p l e rm_X6_hasPathForm s m args below meth c H locs 0 0 Q (F0 m 2 ls []) := by
    refine lp_ind (P := fun (t_2 : Int32) => ∀ (H : Heap) (locs : List Loc) (ls : Array Slot), gx_W Γ C M H → va_S (gA Γ) s.heap H locs → lv_has ls 2 [(0, .ref (Γ.1 o)), (1, .int t_2)] → W p l e rm_X6_hasPathForm s m args below meth c H locs 0 0 Q (F0 m 2 ls [])) ?_
    intro t_2 y1 hf kI1 kX1 H locs ls hW hS hl
    unfold fX6_hasPathForm_2 at hf
    refine lv_iload_n hx hb dX6_hasPathForm_2 rfl (lv_at hl 1 rfl) ?_
    refine lv_aload_n hx hb dX6_hasPathForm_3 rfl (lv_at hl 0 rfl) ?_
    refine get_X6_1 S hG hW ho fl_X6_15 dX6_hasPathForm_4 ?_
    have J_40 : fX6_hasPathForm_40 C o = some y0 → ∀ (H : Heap) (locs : List Loc) (ls : Array Slot), gx_W Γ C M H → va_S (gA Γ) s.heap H locs → lv_has ls 2 [(0, .ref (Γ.1 o))] → W p l e rm_X6_hasPathForm s m args below meth c H locs 0 0 Q (F0 m 40 ls []) := by
      intro  hf H locs ls hW hS hl
      unfold fX6_hasPathForm_40 at hf
      refine lv_aload_n hx hb dX6_hasPathForm_40 rfl (lv_at hl 0 rfl) ?_
      obtain ⟨q41, hq41, hf⟩ := bnd_e hf
      refine gk0_i hS (gv_run (rest := []) S hG hW hS [] (c_X6_hasEmptySegment l Γ C M ho hq41) pk_X6_hasEmptySegment ml_X6_19 (sh_lt1 ho) (cc_1 ho _ _) rfl rfl rfl ⟨Nat.le_of_ble_eq_true rfl, Nat.le_of_ble_eq_true rfl⟩ rfl hl.1 rfl (Nat.le_of_ble_eq_true rfl) dX6_hasPathForm_41 ⟨Nat.le_of_ble_eq_true rfl, Nat.le_of_ble_eq_true rfl⟩) (fun H locs hW hS => ?_)
      refine lv_if_ne (tgt := 51) hx hb dX6_hasPathForm_44 (by decide) (fun c44 => ?_) (fun c44 => ?_)
      · have hf := cn_f c44 hf
        refine lv_iconst (v := (0 : Int32)) hx hb dX6_hasPathForm_51 (by decide) ?_
        exact hret _ _ _ _ _ hW hS rfl (Option.some.inj hf) dX6_hasPathForm_52
      · have hf := cn_t c44 hf
        refine lv_iconst (v := (1 : Int32)) hx hb dX6_hasPathForm_47 (by decide) ?_
        refine lv_goto (tgt := 52) hx hb dX6_hasPathForm_48 (by decide) ?_
        exact hret _ _ _ _ _ hW hS rfl (Option.some.inj hf) dX6_hasPathForm_52
    refine lv_icmp_ge (tgt := 40) hx hb dX6_hasPathForm_7 (by decide) (fun c7 => ?_) (fun c7 => ?_)
    · have hf := cn_t c7 hf
      obtain ⟨z7, hf, ez⟩ := exR_e hf
      rw [kX1 _ ez] at hf
      exact J_40  hf H locs ls hW hS (lv_sub hl [0] rfl)
    · have hf := cn_f c7 hf
      refine lv_aload_n hx hb dX6_hasPathForm_10 rfl (lv_at hl 0 rfl) ?_
      refine get_X6_0 S hG hW ho fl_X6_9 dX6_hasPathForm_11 ?_
      refine lv_iload_n hx hb dX6_hasPathForm_14 rfl (lv_at hl 1 rfl) ?_
      have g15 := ck_p hf
      have hf := ck_r hf
      refine ald_c S hG hW (sh_t1 ho) g15 dX6_hasPathForm_15 ?_
      refine lv_bipush (v := (42 : Int32)) hx hb dX6_hasPathForm_16 (by decide) ?_
      have J_32 : fX6_hasPathForm_32 C = some y0 → ∀ (H : Heap) (locs : List Loc) (ls : Array Slot), gx_W Γ C M H → va_S (gA Γ) s.heap H locs → lv_has ls 2 [] → W p l e rm_X6_hasPathForm s m args below meth c H locs 0 0 Q (F0 m 32 ls []) := by
        intro  hf H locs ls hW hS hl
        unfold fX6_hasPathForm_32 at hf
        refine lv_iconst (v := (0 : Int32)) hx hb dX6_hasPathForm_32 (by decide) ?_
        exact hret _ _ _ _ _ hW hS rfl (Option.some.inj hf) dX6_hasPathForm_33
      refine lv_icmp_eq (tgt := 32) hx hb dX6_hasPathForm_18 (by decide) (fun c18 => ?_) (fun c18 => ?_)
      · have hf := cn_t c18 hf
        obtain ⟨z18, hf, ez⟩ := exR_e hf
        rw [kX1 _ ez] at hf
        exact J_32  hf H locs ls hW hS (lv_sub hl [] rfl)
      · have hf := cn_f c18 hf
        refine lv_aload_n hx hb dX6_hasPathForm_21 rfl (lv_at hl 0 rfl) ?_
        refine get_X6_0 S hG hW ho fl_X6_9 dX6_hasPathForm_22 ?_
        refine lv_iload_n hx hb dX6_hasPathForm_25 rfl (lv_at hl 1 rfl) ?_
        have g26 := ck_p hf
        have hf := ck_r hf
        refine ald_c S hG hW (sh_t1 ho) g26 dX6_hasPathForm_26 ?_
        refine lv_bipush (v := (63 : Int32)) hx hb dX6_hasPathForm_27 (by decide) ?_
        refine lv_icmp_ne (tgt := 34) hx hb dX6_hasPathForm_29 (by decide) (fun c29 => ?_) (fun c29 => ?_)
        · have hf := cn_f c29 hf
          refine lv_iinc (v := (t_2 + (1 : Int32))) (lv' := [(1, .int (t_2 + (1 : Int32))), (0, .ref (Γ.1 o))]) hx hb dX6_hasPathForm_34 hl (k := 1) rfl rfl (by decide) rfl (fun ls hl => ?_)
          refine lv_goto (tgt := 2) hx hb dX6_hasPathForm_37 (by decide) ?_
          exact kI1 _ (Option.some.inj hf).symm H locs ls hW hS (lv_sub hl [1, 0] rfl)
        · have hf := cn_t c29 hf
          obtain ⟨z29, hf, ez⟩ := exR_e hf
          rw [kX1 _ ez] at hf
          exact J_32  hf H locs ls hW hS (lv_sub hl [] rfl)
  exact J_2 (0 : Int32) hf H locs ls hW hS (lv_sub hl [1, 0] rfl)
noncomputable def fX6_isDoubleStar_26 (C : Mem) : Option Int32 := some (0 : Int32)
noncomputable def fX6_isDoubleStar (C : Mem) (o : Nat) (a1 : Int32) : Option Int32 := bnd (fX6_signAt C o a1) fun q2 => cnd (q2 = (42 : Int32)) (bnd (fX6_signAt C o (a1 + (1 : Int32))) fun q14 => cnd (q14 = (42 : Int32)) (some (1 : Int32)) (fX6_isDoubleStar_26 C)) (fX6_isDoubleStar_26 C)
abbrev rm_X6_isDoubleStar : Room := { frames := 1, cells := 0, slots := 0, locals := 21 }
set_option maxRecDepth 100000 in
set_option maxHeartbeats 4000000 in
theorem c_X6_isDoubleStar (l : Launch) (Γ : gx_G) (C M : Mem) {o : Nat} (ho : shp o = 1) (a1 : Int32) {y0 : Int32} (hf : fX6_isDoubleStar C o a1 = some y0) : Met l yX6_isDoubleStar (.code yX6_isDoubleStar cX6_isDoubleStar 2 (some .boolean) :: TsG) rm_X6_isDoubleStar (va_Pc [.ref (Γ.1 o), .int a1] (gx_P Γ C M)) (gx_Qi Γ y0 C M) 0 0 (gA Γ) := by
  refine gm_i (by decide) (Nat.le_of_ble_eq_true rfl) ?_
  intro p e s m args below meth c Q S hG hret ls H locs hl hW hS
  obtain ⟨hx, hb, hml, hown, hts⟩ := id S
  have hl : lv_has ls 2 [(0, .ref (Γ.1 o)), (1, .int a1)] := hl
  unfold fX6_isDoubleStar at hf
  refine lv_aload_n hx hb dX6_isDoubleStar_0 rfl (lv_at hl 0 rfl) ?_
  refine lv_iload_n hx hb dX6_isDoubleStar_1 rfl (lv_at hl 1 rfl) ?_
  obtain ⟨q2, hq2, hf⟩ := bnd_e hf
  refine gk0_i hS (gv_run (rest := []) S hG hW hS [.int a1] (c_X6_signAt l Γ C M ho a1 hq2) pk_X6_signAt ml_X6_27 (sh_lt1 ho) (cc_1 ho _ _) rfl rfl rfl ⟨Nat.le_of_ble_eq_true rfl, Nat.le_of_ble_eq_true rfl⟩ rfl hl.1 rfl (Nat.le_of_ble_eq_true rfl) dX6_isDoubleStar_2 ⟨Nat.le_of_ble_eq_true rfl, Nat.le_of_ble_eq_true rfl⟩) (fun H locs hW hS => ?_)
  refine lv_bipush (v := (42 : Int32)) hx hb dX6_isDoubleStar_5 (by decide) ?_
  have J_26 : fX6_isDoubleStar_26 C = some y0 → ∀ (H : Heap) (locs : List Loc) (ls : Array Slot), gx_W Γ C M H → va_S (gA Γ) s.heap H locs → lv_has ls 2 [] → W p l e rm_X6_isDoubleStar s m args below meth c H locs 0 0 Q (F0 m 26 ls []) := by
    intro  hf H locs ls hW hS hl
    unfold fX6_isDoubleStar_26 at hf
    refine lv_iconst (v := (0 : Int32)) hx hb dX6_isDoubleStar_26 (by decide) ?_
    exact hret _ _ _ _ _ hW hS rfl (Option.some.inj hf) dX6_isDoubleStar_27
  refine lv_icmp_ne (tgt := 26) hx hb dX6_isDoubleStar_7 (by decide) (fun c7 => ?_) (fun c7 => ?_)
  · have hf := cn_f c7 hf
    exact J_26  hf H locs ls hW hS (lv_sub hl [] rfl)
  · have hf := cn_t c7 hf
    refine lv_aload_n hx hb dX6_isDoubleStar_10 rfl (lv_at hl 0 rfl) ?_
    refine lv_iload_n hx hb dX6_isDoubleStar_11 rfl (lv_at hl 1 rfl) ?_
    refine lv_iconst (v := (1 : Int32)) hx hb dX6_isDoubleStar_12 (by decide) ?_
    refine lv_iadd hx hb dX6_isDoubleStar_13 ?_
    obtain ⟨q14, hq14, hf⟩ := bnd_e hf
    refine gk0_i hS (gv_run (rest := []) S hG hW hS [.int (a1 + (1 : Int32))] (c_X6_signAt l Γ C M ho (a1 + (1 : Int32)) hq14) pk_X6_signAt ml_X6_27 (sh_lt1 ho) (cc_1 ho _ _) rfl rfl rfl ⟨Nat.le_of_ble_eq_true rfl, Nat.le_of_ble_eq_true rfl⟩ rfl hl.1 rfl (Nat.le_of_ble_eq_true rfl) dX6_isDoubleStar_14 ⟨Nat.le_of_ble_eq_true rfl, Nat.le_of_ble_eq_true rfl⟩) (fun H locs hW hS => ?_)
    refine lv_bipush (v := (42 : Int32)) hx hb dX6_isDoubleStar_17 (by decide) ?_
    refine lv_icmp_ne (tgt := 26) hx hb dX6_isDoubleStar_19 (by decide) (fun c19 => ?_) (fun c19 => ?_)
    · have hf := cn_f c19 hf
      exact J_26  hf H locs ls hW hS (lv_sub hl [] rfl)
    · have hf := cn_t c19 hf
      refine lv_iconst (v := (1 : Int32)) hx hb dX6_isDoubleStar_22 (by decide) ?_
      refine lv_goto (tgt := 27) hx hb dX6_isDoubleStar_23 (by decide) ?_
      exact hret _ _ _ _ _ hW hS rfl (Option.some.inj hf) dX6_isDoubleStar_27
noncomputable def fX6_hasGlobForm_50 (C : Mem) (o : Nat) : Option Int32 := bnd (fX6_hasEmptySegment C o) fun q51 => cnd (q51 = (0 : Int32)) (some (1 : Int32)) (some (0 : Int32))
noncomputable def fX6_hasGlobForm_44 (C : Mem) (o : Nat) (t_2 : (Int32)) : Option ((Int32) ⊕ Int32) := some (.inl (t_2 + (1 : Int32)))
noncomputable def fX6_hasGlobForm_42 (C : Mem) : Option Int32 := some (0 : Int32)
noncomputable def fX6_hasGlobForm_2 (C : Mem) (o : Nat) : (Int32) → Option ((Int32) ⊕ Int32) := fun t_2 => cnd ((C o 1) ≤ t_2) (exR (fX6_hasGlobForm_50 C o)) (bnd (fX6_isDoubleStar C o t_2) fun q12 => cnd (q12 = (0 : Int32)) (fX6_hasGlobForm_44 C o t_2) (bnd (fX6_signAt C o (t_2 - (1 : Int32))) fun q22 => cnd (q22 = (47 : Int32)) (bnd (fX6_signAt C o (t_2 + (2 : Int32))) fun q34 => cnd (q34 = (47 : Int32)) (fX6_hasGlobForm_44 C o t_2) (exR (fX6_hasGlobForm_42 C))) (exR (fX6_hasGlobForm_42 C))))
noncomputable def fX6_hasGlobForm (C : Mem) (o : Nat) : Option Int32 := lp (fX6_hasGlobForm_2 C o) (0 : Int32)
abbrev rm_X6_hasGlobForm : Room := { frames := 2, cells := 0, slots := 0, locals := 42 }
set_option maxRecDepth 100000 in
set_option maxHeartbeats 4000000 in
theorem c_X6_hasGlobForm (l : Launch) (Γ : gx_G) (C M : Mem) {o : Nat} (ho : shp o = 1) {y0 : Int32} (hf : fX6_hasGlobForm C o = some y0) : Met l yX6_hasGlobForm (.code yX6_hasGlobForm cX6_hasGlobForm 2 (some .boolean) :: TsG) rm_X6_hasGlobForm (va_Pc [.ref (Γ.1 o)] (gx_P Γ C M)) (gx_Qi Γ y0 C M) 0 0 (gA Γ) := by
  refine gm_i (by decide) (Nat.le_of_ble_eq_true rfl) ?_
  intro p e s m args below meth c Q S hG hret ls H locs hl hW hS
  obtain ⟨hx, hb, hml, hown, hts⟩ := id S
  have hl : lv_has ls 2 [(0, .ref (Γ.1 o))] := hl
  unfold fX6_hasGlobForm at hf
  refine lv_iconst (v := (0 : Int32)) hx hb dX6_hasGlobForm_0 (by decide) ?_
  refine lv_istore_n (lv' := [(1, .int (0 : Int32)), (0, .ref (Γ.1 o))]) hx hb dX6_hasGlobForm_1 rfl hl (by decide) rfl (fun ls hl => ?_)
  have J_2 : ∀  (t_2 : Int32), lp (fX6_hasGlobForm_2 C o) t_2 = some y0 → ∀ (H : Heap) (locs : List Loc) (ls : Array Slot), gx_W Γ C M H → va_S (gA Γ) s.heap H locs → lv_has ls 2 [(0, .ref (Γ.1 o)), (1, .int t_2)] → W p l e rm_X6_hasGlobForm s m args below meth c H locs 0 0 Q (F0 m 2 ls []) := by
    refine lp_ind (P := fun (t_2 : Int32) => ∀ (H : Heap) (locs : List Loc) (ls : Array Slot), gx_W Γ C M H → va_S (gA Γ) s.heap H locs → lv_has ls 2 [(0, .ref (Γ.1 o)), (1, .int t_2)] → W p l e rm_X6_hasGlobForm s m args below meth c H locs 0 0 Q (F0 m 2 ls [])) ?_
    intro t_2 y1 hf kI1 kX1 H locs ls hW hS hl
    unfold fX6_hasGlobForm_2 at hf
    refine lv_iload_n hx hb dX6_hasGlobForm_2 rfl (lv_at hl 1 rfl) ?_
    refine lv_aload_n hx hb dX6_hasGlobForm_3 rfl (lv_at hl 0 rfl) ?_
    refine get_X6_1 S hG hW ho fl_X6_15 dX6_hasGlobForm_4 ?_
    have J_50 : fX6_hasGlobForm_50 C o = some y0 → ∀ (H : Heap) (locs : List Loc) (ls : Array Slot), gx_W Γ C M H → va_S (gA Γ) s.heap H locs → lv_has ls 2 [(0, .ref (Γ.1 o))] → W p l e rm_X6_hasGlobForm s m args below meth c H locs 0 0 Q (F0 m 50 ls []) := by
      intro  hf H locs ls hW hS hl
      unfold fX6_hasGlobForm_50 at hf
      refine lv_aload_n hx hb dX6_hasGlobForm_50 rfl (lv_at hl 0 rfl) ?_
      obtain ⟨q51, hq51, hf⟩ := bnd_e hf
      refine gk0_i hS (gv_run (rest := []) S hG hW hS [] (c_X6_hasEmptySegment l Γ C M ho hq51) pk_X6_hasEmptySegment ml_X6_19 (sh_lt1 ho) (cc_1 ho _ _) rfl rfl rfl ⟨Nat.le_of_ble_eq_true rfl, Nat.le_of_ble_eq_true rfl⟩ rfl hl.1 rfl (Nat.le_of_ble_eq_true rfl) dX6_hasGlobForm_51 ⟨Nat.le_of_ble_eq_true rfl, Nat.le_of_ble_eq_true rfl⟩) (fun H locs hW hS => ?_)
      refine lv_if_ne (tgt := 61) hx hb dX6_hasGlobForm_54 (by decide) (fun c54 => ?_) (fun c54 => ?_)
      · have hf := cn_f c54 hf
        refine lv_iconst (v := (0 : Int32)) hx hb dX6_hasGlobForm_61 (by decide) ?_
        exact hret _ _ _ _ _ hW hS rfl (Option.some.inj hf) dX6_hasGlobForm_62
      · have hf := cn_t c54 hf
        refine lv_iconst (v := (1 : Int32)) hx hb dX6_hasGlobForm_57 (by decide) ?_
        refine lv_goto (tgt := 62) hx hb dX6_hasGlobForm_58 (by decide) ?_
        exact hret _ _ _ _ _ hW hS rfl (Option.some.inj hf) dX6_hasGlobForm_62
    refine lv_icmp_ge (tgt := 50) hx hb dX6_hasGlobForm_7 (by decide) (fun c7 => ?_) (fun c7 => ?_)
    · have hf := cn_t c7 hf
      obtain ⟨z7, hf, ez⟩ := exR_e hf
      rw [kX1 _ ez] at hf
      exact J_50  hf H locs ls hW hS (lv_sub hl [0] rfl)
    · have hf := cn_f c7 hf
      refine lv_aload_n hx hb dX6_hasGlobForm_10 rfl (lv_at hl 0 rfl) ?_
      refine lv_iload_n hx hb dX6_hasGlobForm_11 rfl (lv_at hl 1 rfl) ?_
      obtain ⟨q12, hq12, hf⟩ := bnd_e hf
      refine gk0_i hS (gv_run (rest := []) S hG hW hS [.int t_2] (c_X6_isDoubleStar l Γ C M ho t_2 hq12) pk_X6_isDoubleStar ml_X6_23 (sh_lt1 ho) (cc_1 ho _ _) rfl rfl rfl ⟨Nat.le_of_ble_eq_true rfl, Nat.le_of_ble_eq_true rfl⟩ rfl hl.1 rfl (Nat.le_of_ble_eq_true rfl) dX6_hasGlobForm_12 ⟨Nat.le_of_ble_eq_true rfl, Nat.le_of_ble_eq_true rfl⟩) (fun H locs hW hS => ?_)
      have J_44 : fX6_hasGlobForm_44 C o t_2 = some y1 → ∀ (H : Heap) (locs : List Loc) (ls : Array Slot), gx_W Γ C M H → va_S (gA Γ) s.heap H locs → lv_has ls 2 [(0, .ref (Γ.1 o)), (1, .int t_2)] → W p l e rm_X6_hasGlobForm s m args below meth c H locs 0 0 Q (F0 m 44 ls []) := by
        intro  hf H locs ls hW hS hl
        unfold fX6_hasGlobForm_44 at hf
        refine lv_iinc (v := (t_2 + (1 : Int32))) (lv' := [(1, .int (t_2 + (1 : Int32))), (0, .ref (Γ.1 o))]) hx hb dX6_hasGlobForm_44 hl (k := 1) rfl rfl (by decide) rfl (fun ls hl => ?_)
        refine lv_goto (tgt := 2) hx hb dX6_hasGlobForm_47 (by decide) ?_
        exact kI1 _ (Option.some.inj hf).symm H locs ls hW hS (lv_sub hl [1, 0] rfl)
      refine lv_if_eq (tgt := 44) hx hb dX6_hasGlobForm_15 (by decide) (fun c15 => ?_) (fun c15 => ?_)
      · have hf := cn_t c15 hf
        exact J_44  hf H locs ls hW hS (lv_sub hl [0, 1] rfl)
      · have hf := cn_f c15 hf
        refine lv_aload_n hx hb dX6_hasGlobForm_18 rfl (lv_at hl 0 rfl) ?_
        refine lv_iload_n hx hb dX6_hasGlobForm_19 rfl (lv_at hl 1 rfl) ?_
        refine lv_iconst (v := (1 : Int32)) hx hb dX6_hasGlobForm_20 (by decide) ?_
        refine lv_isub hx hb dX6_hasGlobForm_21 ?_
        obtain ⟨q22, hq22, hf⟩ := bnd_e hf
        refine gk0_i hS (gv_run (rest := []) S hG hW hS [.int (t_2 - (1 : Int32))] (c_X6_signAt l Γ C M ho (t_2 - (1 : Int32)) hq22) pk_X6_signAt ml_X6_27 (sh_lt1 ho) (cc_1 ho _ _) rfl rfl rfl ⟨Nat.le_of_ble_eq_true rfl, Nat.le_of_ble_eq_true rfl⟩ rfl hl.1 rfl (Nat.le_of_ble_eq_true rfl) dX6_hasGlobForm_22 ⟨Nat.le_of_ble_eq_true rfl, Nat.le_of_ble_eq_true rfl⟩) (fun H locs hW hS => ?_)
        refine lv_bipush (v := (47 : Int32)) hx hb dX6_hasGlobForm_25 (by decide) ?_
        have J_42 : fX6_hasGlobForm_42 C = some y0 → ∀ (H : Heap) (locs : List Loc) (ls : Array Slot), gx_W Γ C M H → va_S (gA Γ) s.heap H locs → lv_has ls 2 [] → W p l e rm_X6_hasGlobForm s m args below meth c H locs 0 0 Q (F0 m 42 ls []) := by
          intro  hf H locs ls hW hS hl
          unfold fX6_hasGlobForm_42 at hf
          refine lv_iconst (v := (0 : Int32)) hx hb dX6_hasGlobForm_42 (by decide) ?_
          exact hret _ _ _ _ _ hW hS rfl (Option.some.inj hf) dX6_hasGlobForm_43
        refine lv_icmp_ne (tgt := 42) hx hb dX6_hasGlobForm_27 (by decide) (fun c27 => ?_) (fun c27 => ?_)
        · have hf := cn_f c27 hf
          obtain ⟨z27, hf, ez⟩ := exR_e hf
          rw [kX1 _ ez] at hf
          exact J_42  hf H locs ls hW hS (lv_sub hl [] rfl)
        · have hf := cn_t c27 hf
          refine lv_aload_n hx hb dX6_hasGlobForm_30 rfl (lv_at hl 0 rfl) ?_
          refine lv_iload_n hx hb dX6_hasGlobForm_31 rfl (lv_at hl 1 rfl) ?_
          refine lv_iconst (v := (2 : Int32)) hx hb dX6_hasGlobForm_32 (by decide) ?_
          refine lv_iadd hx hb dX6_hasGlobForm_33 ?_
          obtain ⟨q34, hq34, hf⟩ := bnd_e hf
          refine gk0_i hS (gv_run (rest := []) S hG hW hS [.int (t_2 + (2 : Int32))] (c_X6_signAt l Γ C M ho (t_2 + (2 : Int32)) hq34) pk_X6_signAt ml_X6_27 (sh_lt1 ho) (cc_1 ho _ _) rfl rfl rfl ⟨Nat.le_of_ble_eq_true rfl, Nat.le_of_ble_eq_true rfl⟩ rfl hl.1 rfl (Nat.le_of_ble_eq_true rfl) dX6_hasGlobForm_34 ⟨Nat.le_of_ble_eq_true rfl, Nat.le_of_ble_eq_true rfl⟩) (fun H locs hW hS => ?_)
          refine lv_bipush (v := (47 : Int32)) hx hb dX6_hasGlobForm_37 (by decide) ?_
          refine lv_icmp_eq (tgt := 44) hx hb dX6_hasGlobForm_39 (by decide) (fun c39 => ?_) (fun c39 => ?_)
          · have hf := cn_t c39 hf
            exact J_44  hf H locs ls hW hS (lv_sub hl [0, 1] rfl)
          · have hf := cn_f c39 hf
            obtain ⟨z39, hf, ez⟩ := exR_e hf
            rw [kX1 _ ez] at hf
            exact J_42  hf H locs ls hW hS (lv_sub hl [] rfl)
  exact J_2 (0 : Int32) hf H locs ls hW hS (lv_sub hl [1, 0] rfl)
noncomputable def fX6_isFull (C : Mem) (o : Nat) : Int32 := cnd ((C o 1) < (24 : Int32)) ((0 : Int32)) ((1 : Int32))
abbrev rm_X6_isFull : Room := { frames := 0, cells := 0, slots := 0, locals := 0 }
set_option maxRecDepth 100000 in
set_option maxHeartbeats 4000000 in
theorem c_X6_isFull (l : Launch) (Γ : gx_G) (C M : Mem) {o : Nat} (ho : shp o = 1) : Met l yX6_isFull (.code yX6_isFull cX6_isFull 1 (some .boolean) :: TsG) rm_X6_isFull (va_Pc [.ref (Γ.1 o)] (gx_P Γ C M)) (gx_Qi Γ (fX6_isFull C o) C M) 0 0 (gA Γ) := by
  refine gm_i (by decide) (Nat.le_of_ble_eq_true rfl) ?_
  intro p e s m args below meth c Q S hG hret ls H locs hl hW hS
  obtain ⟨hx, hb, hml, hown, hts⟩ := id S
  have hl : lv_has ls 1 [(0, .ref (Γ.1 o))] := hl
  generalize hy0 : fX6_isFull C o = y0 at hret
  have hf := hy0
  unfold fX6_isFull at hf
  refine lv_aload_n hx hb dX6_isFull_0 rfl (lv_at hl 0 rfl) ?_
  refine get_X6_1 S hG hW ho fl_X6_15 dX6_isFull_1 ?_
  refine lv_bipush (v := (24 : Int32)) hx hb dX6_isFull_4 (by decide) ?_
  refine lv_icmp_lt (tgt := 13) hx hb dX6_isFull_6 (by decide) (fun c6 => ?_) (fun c6 => ?_)
  · have hf := cn_t c6 hf
    refine lv_iconst (v := (0 : Int32)) hx hb dX6_isFull_13 (by decide) ?_
    exact hret _ _ _ _ _ hW hS rfl hf dX6_isFull_14
  · have hf := cn_f c6 hf
    refine lv_iconst (v := (1 : Int32)) hx hb dX6_isFull_9 (by decide) ?_
    refine lv_goto (tgt := 14) hx hb dX6_isFull_10 (by decide) ?_
    exact hret _ _ _ _ _ hW hS rfl hf dX6_isFull_14
noncomputable def fX6_append (C : Mem) (o : Nat) (a1 : Int32) : Option Mem := chk (vp_in (C o 1) 24) (some (mset (mset C (o + 1) (C o 1).toNatClampNeg (vp_nar .char a1)) o 1 (((mset C (o + 1) (C o 1).toNatClampNeg (vp_nar .char a1)) o 1) + (1 : Int32))))
abbrev rm_X6_append : Room := { frames := 0, cells := 0, slots := 0, locals := 0 }
set_option maxRecDepth 100000 in
set_option maxHeartbeats 4000000 in
theorem c_X6_append (l : Launch) (Γ : gx_G) (C M : Mem) {o : Nat} (ho : shp o = 1) (a1 : Int32) {y0 : Mem} (hf : fX6_append C o a1 = some y0) : Met l yX6_append (.code yX6_append cX6_append 2 none :: TsG) rm_X6_append (va_Pc [.ref (Γ.1 o), .int a1] (gx_P Γ C M)) (gx_Qv Γ y0 M) 0 0 (gA Γ) := by
  refine gm_v (by decide) (Nat.le_of_ble_eq_true rfl) ?_
  intro p e s m args below meth c Q S hG hret ls H locs hl hW hS
  obtain ⟨hx, hb, hml, hown, hts⟩ := id S
  have hl : lv_has ls 2 [(0, .ref (Γ.1 o)), (1, .int a1)] := hl
  unfold fX6_append at hf
  refine lv_aload_n hx hb dX6_append_0 rfl (lv_at hl 0 rfl) ?_
  refine get_X6_0 S hG hW ho fl_X6_9 dX6_append_1 ?_
  refine lv_aload_n hx hb dX6_append_4 rfl (lv_at hl 0 rfl) ?_
  refine get_X6_1 S hG hW ho fl_X6_15 dX6_append_5 ?_
  refine lv_iload_n hx hb dX6_append_8 rfl (lv_at hl 1 rfl) ?_
  have g9 := ck_p hf
  have hf := ck_r hf
  refine ast_c S hG hW hS (sh_t1 ho) g9 dX6_append_9 (fun H locs hW hS => ?_)
  refine lv_aload_n hx hb dX6_append_10 rfl (lv_at hl 0 rfl) ?_
  refine lv_dup hx hb dX6_append_11 rfl ?_
  refine get_X6_1 S hG hW ho fl_X6_15 dX6_append_12 ?_
  refine lv_iconst (v := (1 : Int32)) hx hb dX6_append_15 (by decide) ?_
  refine lv_iadd hx hb dX6_append_16 ?_
  refine put_X6_1 S hG hW hS ho fl_X6_15 dX6_append_17 (fun H locs hW hS => ?_)
  have e9 := Option.some.inj hf
  subst e9
  exact hret _ _ _ _ hW hS dX6_append_20
noncomputable def fX6_isSameAs_15 (C : Mem) (o : Nat) (p1 : Nat) : (Int32) → Option ((Int32) ⊕ Int32) := fun t_15 => cnd ((C o 1) ≤ t_15) (exR (some (1 : Int32))) (chk (vp_in t_15 24) (chk (vp_in t_15 24) (cnd ((C (o + 1) t_15.toNatClampNeg) = (C (p1 + 1) t_15.toNatClampNeg)) (some (.inl (t_15 + (1 : Int32)))) (exR (some (0 : Int32))))))
noncomputable def fX6_isSameAs (C : Mem) (o : Nat) (p1 : Nat) : Option Int32 := cnd ((C o 1) = (C p1 1)) (lp (fX6_isSameAs_15 C o p1) (0 : Int32)) (some (0 : Int32))
abbrev rm_X6_isSameAs : Room := { frames := 0, cells := 0, slots := 0, locals := 0 }
set_option maxRecDepth 100000 in
set_option maxHeartbeats 4000000 in
theorem c_X6_isSameAs (l : Launch) (Γ : gx_G) (C M : Mem) {o : Nat} (ho : shp o = 1) {p1 : Nat} (hp1 : shp p1 = 1) {y0 : Int32} (hf : fX6_isSameAs C o p1 = some y0) : Met l yX6_isSameAs (.code yX6_isSameAs cX6_isSameAs 3 (some .boolean) :: TsG) rm_X6_isSameAs (va_Pc [.ref (Γ.1 o), .ref (Γ.1 p1)] (gx_P Γ C M)) (gx_Qi Γ y0 C M) 0 0 (gA Γ) := by
  refine gm_i (by decide) (Nat.le_of_ble_eq_true rfl) ?_
  intro p e s m args below meth c Q S hG hret ls H locs hl hW hS
  obtain ⟨hx, hb, hml, hown, hts⟩ := id S
  have hl : lv_has ls 3 [(0, .ref (Γ.1 o)), (1, .ref (Γ.1 p1))] := hl
  unfold fX6_isSameAs at hf
  refine lv_aload_n hx hb dX6_isSameAs_0 rfl (lv_at hl 0 rfl) ?_
  refine get_X6_1 S hG hW ho fl_X6_15 dX6_isSameAs_1 ?_
  refine lv_aload_n hx hb dX6_isSameAs_4 rfl (lv_at hl 1 rfl) ?_
  refine get_X6_1 S hG hW hp1 fl_X6_15 dX6_isSameAs_5 ?_
  refine lv_icmp_eq (tgt := 13) hx hb dX6_isSameAs_8 (by decide) (fun c8 => ?_) (fun c8 => ?_)
  · have hf := cn_t c8 hf
    refine lv_iconst (v := (0 : Int32)) hx hb dX6_isSameAs_13 (by decide) ?_
    refine lv_istore_n (lv' := [(2, .int (0 : Int32)), (0, .ref (Γ.1 o)), (1, .ref (Γ.1 p1))]) hx hb dX6_isSameAs_14 rfl hl (by decide) rfl (fun ls hl => ?_)
    have J_15 : ∀  (t_15 : Int32), lp (fX6_isSameAs_15 C o p1) t_15 = some y0 → ∀ (H : Heap) (locs : List Loc) (ls : Array Slot), gx_W Γ C M H → va_S (gA Γ) s.heap H locs → lv_has ls 3 [(0, .ref (Γ.1 o)), (1, .ref (Γ.1 p1)), (2, .int t_15)] → W p l e rm_X6_isSameAs s m args below meth c H locs 0 0 Q (F0 m 15 ls []) := by
      refine lp_ind (P := fun (t_15 : Int32) => ∀ (H : Heap) (locs : List Loc) (ls : Array Slot), gx_W Γ C M H → va_S (gA Γ) s.heap H locs → lv_has ls 3 [(0, .ref (Γ.1 o)), (1, .ref (Γ.1 p1)), (2, .int t_15)] → W p l e rm_X6_isSameAs s m args below meth c H locs 0 0 Q (F0 m 15 ls [])) ?_
      intro t_15 y1 hf kI1 kX1 H locs ls hW hS hl
      unfold fX6_isSameAs_15 at hf
      refine lv_iload_n hx hb dX6_isSameAs_15 rfl (lv_at hl 2 rfl) ?_
      refine lv_aload_n hx hb dX6_isSameAs_16 rfl (lv_at hl 0 rfl) ?_
      refine get_X6_1 S hG hW ho fl_X6_15 dX6_isSameAs_17 ?_
      refine lv_icmp_ge (tgt := 46) hx hb dX6_isSameAs_20 (by decide) (fun c20 => ?_) (fun c20 => ?_)
      · have hf := cn_t c20 hf
        obtain ⟨z20, hf, ez⟩ := exR_e hf
        rw [kX1 _ ez] at hf
        refine lv_iconst (v := (1 : Int32)) hx hb dX6_isSameAs_46 (by decide) ?_
        exact hret _ _ _ _ _ hW hS rfl (Option.some.inj hf) dX6_isSameAs_47
      · have hf := cn_f c20 hf
        refine lv_aload_n hx hb dX6_isSameAs_23 rfl (lv_at hl 0 rfl) ?_
        refine get_X6_0 S hG hW ho fl_X6_9 dX6_isSameAs_24 ?_
        refine lv_iload_n hx hb dX6_isSameAs_27 rfl (lv_at hl 2 rfl) ?_
        have g28 := ck_p hf
        have hf := ck_r hf
        refine ald_c S hG hW (sh_t1 ho) g28 dX6_isSameAs_28 ?_
        refine lv_aload_n hx hb dX6_isSameAs_29 rfl (lv_at hl 1 rfl) ?_
        refine get_X6_0 S hG hW hp1 fl_X6_9 dX6_isSameAs_30 ?_
        refine lv_iload_n hx hb dX6_isSameAs_33 rfl (lv_at hl 2 rfl) ?_
        have g34 := ck_p hf
        have hf := ck_r hf
        refine ald_c S hG hW (sh_t1 hp1) g34 dX6_isSameAs_34 ?_
        refine lv_icmp_eq (tgt := 40) hx hb dX6_isSameAs_35 (by decide) (fun c35 => ?_) (fun c35 => ?_)
        · have hf := cn_t c35 hf
          refine lv_iinc (v := (t_15 + (1 : Int32))) (lv' := [(2, .int (t_15 + (1 : Int32))), (0, .ref (Γ.1 o)), (1, .ref (Γ.1 p1))]) hx hb dX6_isSameAs_40 hl (k := 2) rfl rfl (by decide) rfl (fun ls hl => ?_)
          refine lv_goto (tgt := 15) hx hb dX6_isSameAs_43 (by decide) ?_
          exact kI1 _ (Option.some.inj hf).symm H locs ls hW hS (lv_sub hl [1, 2, 0] rfl)
        · have hf := cn_f c35 hf
          obtain ⟨z35, hf, ez⟩ := exR_e hf
          rw [kX1 _ ez] at hf
          refine lv_iconst (v := (0 : Int32)) hx hb dX6_isSameAs_38 (by decide) ?_
          exact hret _ _ _ _ _ hW hS rfl (Option.some.inj hf) dX6_isSameAs_39
    exact J_15 (0 : Int32) hf H locs ls hW hS (lv_sub hl [1, 2, 0] rfl)
  · have hf := cn_f c8 hf
    refine lv_iconst (v := (0 : Int32)) hx hb dX6_isSameAs_11 (by decide) ?_
    exact hret _ _ _ _ _ hW hS rfl (Option.some.inj hf) dX6_isSameAs_12
noncomputable def fX6_copyFrom_10 (o : Nat) (p1 : Nat) : (Mem × Int32) → Option ((Mem × Int32) ⊕ Mem) := fun t_10 => cnd ((t_10.1 o 1) ≤ t_10.2) (exR (some t_10.1)) (chk (vp_in t_10.2 24) (chk (vp_in t_10.2 24) (some (.inl ((mset t_10.1 (o + 1) t_10.2.toNatClampNeg (vp_nar .char (t_10.1 (p1 + 1) t_10.2.toNatClampNeg))), (t_10.2 + (1 : Int32)))))))
noncomputable def fX6_copyFrom (C : Mem) (o : Nat) (p1 : Nat) : Option Mem := lp (fX6_copyFrom_10 o p1) ((mset C o 1 (C p1 1)), (0 : Int32))
abbrev rm_X6_copyFrom : Room := { frames := 0, cells := 0, slots := 0, locals := 0 }
set_option maxRecDepth 100000 in
set_option maxHeartbeats 4000000 in
theorem c_X6_copyFrom (l : Launch) (Γ : gx_G) (C M : Mem) {o : Nat} (ho : shp o = 1) {p1 : Nat} (hp1 : shp p1 = 1) {y0 : Mem} (hf : fX6_copyFrom C o p1 = some y0) : Met l yX6_copyFrom (.code yX6_copyFrom cX6_copyFrom 3 none :: TsG) rm_X6_copyFrom (va_Pc [.ref (Γ.1 o), .ref (Γ.1 p1)] (gx_P Γ C M)) (gx_Qv Γ y0 M) 0 0 (gA Γ) := by
  refine gm_v (by decide) (Nat.le_of_ble_eq_true rfl) ?_
  intro p e s m args below meth c Q S hG hret ls H locs hl hW hS
  obtain ⟨hx, hb, hml, hown, hts⟩ := id S
  have hl : lv_has ls 3 [(0, .ref (Γ.1 o)), (1, .ref (Γ.1 p1))] := hl
  unfold fX6_copyFrom at hf
  refine lv_aload_n hx hb dX6_copyFrom_0 rfl (lv_at hl 0 rfl) ?_
  refine lv_aload_n hx hb dX6_copyFrom_1 rfl (lv_at hl 1 rfl) ?_
  refine get_X6_1 S hG hW hp1 fl_X6_15 dX6_copyFrom_2 ?_
  refine put_X6_1 S hG hW hS ho fl_X6_15 dX6_copyFrom_5 (fun H locs hW hS => ?_)
  refine lv_iconst (v := (0 : Int32)) hx hb dX6_copyFrom_8 (by decide) ?_
  refine lv_istore_n (lv' := [(2, .int (0 : Int32)), (0, .ref (Γ.1 o)), (1, .ref (Γ.1 p1))]) hx hb dX6_copyFrom_9 rfl hl (by decide) rfl (fun ls hl => ?_)
  have J_10 : ∀  (t_10 : Mem × Int32), lp (fX6_copyFrom_10 o p1) t_10 = some y0 → ∀ (H : Heap) (locs : List Loc) (ls : Array Slot), gx_W Γ t_10.1 M H → va_S (gA Γ) s.heap H locs → lv_has ls 3 [(0, .ref (Γ.1 o)), (1, .ref (Γ.1 p1)), (2, .int t_10.2)] → W p l e rm_X6_copyFrom s m args below meth c H locs 0 0 Q (F0 m 10 ls []) := by
    refine lp_ind (P := fun (t_10 : Mem × Int32) => ∀ (H : Heap) (locs : List Loc) (ls : Array Slot), gx_W Γ t_10.1 M H → va_S (gA Γ) s.heap H locs → lv_has ls 3 [(0, .ref (Γ.1 o)), (1, .ref (Γ.1 p1)), (2, .int t_10.2)] → W p l e rm_X6_copyFrom s m args below meth c H locs 0 0 Q (F0 m 10 ls [])) ?_
    intro t_10 y1 hf kI1 kX1 H locs ls hW hS hl
    unfold fX6_copyFrom_10 at hf
    refine lv_iload_n hx hb dX6_copyFrom_10 rfl (lv_at hl 2 rfl) ?_
    refine lv_aload_n hx hb dX6_copyFrom_11 rfl (lv_at hl 0 rfl) ?_
    refine get_X6_1 S hG hW ho fl_X6_15 dX6_copyFrom_12 ?_
    refine lv_icmp_ge (tgt := 36) hx hb dX6_copyFrom_15 (by decide) (fun c15 => ?_) (fun c15 => ?_)
    · have hf := cn_t c15 hf
      obtain ⟨z15, hf, ez⟩ := exR_e hf
      rw [kX1 _ ez] at hf
      have e9 := Option.some.inj hf
      subst e9
      exact hret _ _ _ _ hW hS dX6_copyFrom_36
    · have hf := cn_f c15 hf
      refine lv_aload_n hx hb dX6_copyFrom_18 rfl (lv_at hl 0 rfl) ?_
      refine get_X6_0 S hG hW ho fl_X6_9 dX6_copyFrom_19 ?_
      refine lv_iload_n hx hb dX6_copyFrom_22 rfl (lv_at hl 2 rfl) ?_
      refine lv_aload_n hx hb dX6_copyFrom_23 rfl (lv_at hl 1 rfl) ?_
      refine get_X6_0 S hG hW hp1 fl_X6_9 dX6_copyFrom_24 ?_
      refine lv_iload_n hx hb dX6_copyFrom_27 rfl (lv_at hl 2 rfl) ?_
      have g28 := ck_p hf
      have hf := ck_r hf
      refine ald_c S hG hW (sh_t1 hp1) g28 dX6_copyFrom_28 ?_
      have g29 := ck_p hf
      have hf := ck_r hf
      refine ast_c S hG hW hS (sh_t1 ho) g29 dX6_copyFrom_29 (fun H locs hW hS => ?_)
      refine lv_iinc (v := (t_10.2 + (1 : Int32))) (lv' := [(2, .int (t_10.2 + (1 : Int32))), (0, .ref (Γ.1 o)), (1, .ref (Γ.1 p1))]) hx hb dX6_copyFrom_30 hl (k := 2) rfl rfl (by decide) rfl (fun ls hl => ?_)
      refine lv_goto (tgt := 10) hx hb dX6_copyFrom_33 (by decide) ?_
      exact kI1 _ (Option.some.inj hf).symm H locs ls hW hS (lv_sub hl [1, 2, 0] rfl)
  exact J_10 ((mset C o 1 (C p1 1)), (0 : Int32)) hf H locs ls hW hS (lv_sub hl [1, 2, 0] rfl)
noncomputable def fX6_startsFrom_61 (C : Mem) (a1 : Int32) (o : Nat) (s0_36 : Int32) (t_7 : (Int32 × Int32 × Int32)) (x2_61 : Int32) : Option ((Int32 × Int32 × Int32) ⊕ Int32) := some (.inl (x2_61, s0_36, (t_7.2.2 + (1 : Int32))))
noncomputable def fX6_startsFrom_36 (C : Mem) (a1 : Int32) (o : Nat) (t_7 : (Int32 × Int32 × Int32)) (s0_36 : Int32) : Option ((Int32 × Int32 × Int32) ⊕ Int32) := cnd (s0_36 = (0 : Int32)) (fX6_startsFrom_61 C a1 o s0_36 t_7 t_7.1) (bnd (fX6_signAt C o (t_7.2.2 - (1 : Int32))) fun q46 => cnd (q46 = (47 : Int32)) (nmv ((t_7.1 ||| ((1 : Int32) <<< (t_7.2.2 &&& 31)))) fun v60 => fX6_startsFrom_61 C a1 o s0_36 t_7 v60) (fX6_startsFrom_61 C a1 o s0_36 t_7 t_7.1))
noncomputable def fX6_startsFrom_31 (C : Mem) (a1 : Int32) (o : Nat) (t_7 : (Int32 × Int32 × Int32)) : Option ((Int32 × Int32 × Int32) ⊕ Int32) := fX6_startsFrom_36 C a1 o t_7 (1 : Int32)
noncomputable def fX6_startsFrom_7 (C : Mem) (a1 : Int32) (o : Nat) : (Int32 × Int32 × Int32) → Option ((Int32 × Int32 × Int32) ⊕ Int32) := fun t_7 => cnd (((C o 1) + (1 : Int32)) < t_7.2.2) (exR (some t_7.1)) (cnd (t_7.2.1 = (0 : Int32)) (cnd ((fX7_holds a1 t_7.2.2) = (0 : Int32)) (fX6_startsFrom_36 C a1 o t_7 (0 : Int32)) (fX6_startsFrom_31 C a1 o t_7)) (fX6_startsFrom_31 C a1 o t_7))
noncomputable def fX6_startsFrom (C : Mem) (o : Nat) (a1 : Int32) : Option Int32 := lp (fX6_startsFrom_7 C a1 o) ((0 : Int32), (0 : Int32), (0 : Int32))
abbrev rm_X6_startsFrom : Room := { frames := 1, cells := 0, slots := 0, locals := 21 }
set_option maxRecDepth 100000 in
set_option maxHeartbeats 4000000 in
theorem c_X6_startsFrom (l : Launch) (Γ : gx_G) (C M : Mem) {o : Nat} (ho : shp o = 1) (a1 : Int32) {y0 : Int32} (hf : fX6_startsFrom C o a1 = some y0) : Met l yX6_startsFrom (.code yX6_startsFrom cX6_startsFrom 5 (some .int) :: TsG) rm_X6_startsFrom (va_Pc [.ref (Γ.1 o), .int a1] (gx_P Γ C M)) (gx_Qi Γ y0 C M) 0 0 (gA Γ) := by
  refine gm_i (by decide) (Nat.le_of_ble_eq_true rfl) ?_
  intro p e s m args below meth c Q S hG hret ls H locs hl hW hS
  obtain ⟨hx, hb, hml, hown, hts⟩ := id S
  have hl : lv_has ls 5 [(0, .ref (Γ.1 o)), (1, .int a1)] := hl
  unfold fX6_startsFrom at hf
  refine lv_iconst (v := (0 : Int32)) hx hb dX6_startsFrom_0 (by decide) ?_
  refine lv_istore_n (lv' := [(2, .int (0 : Int32)), (0, .ref (Γ.1 o)), (1, .int a1)]) hx hb dX6_startsFrom_1 rfl hl (by decide) rfl (fun ls hl => ?_)
  refine lv_iconst (v := (0 : Int32)) hx hb dX6_startsFrom_2 (by decide) ?_
  refine lv_istore_n (lv' := [(3, .int (0 : Int32)), (2, .int (0 : Int32)), (0, .ref (Γ.1 o)), (1, .int a1)]) hx hb dX6_startsFrom_3 rfl hl (by decide) rfl (fun ls hl => ?_)
  refine lv_iconst (v := (0 : Int32)) hx hb dX6_startsFrom_4 (by decide) ?_
  refine lv_istore (lv' := [(4, .int (0 : Int32)), (3, .int (0 : Int32)), (2, .int (0 : Int32)), (0, .ref (Γ.1 o)), (1, .int a1)]) hx hb dX6_startsFrom_5 hl (by decide) rfl (fun ls hl => ?_)
  have J_7 : ∀  (t_7 : Int32 × Int32 × Int32), lp (fX6_startsFrom_7 C a1 o) t_7 = some y0 → ∀ (H : Heap) (locs : List Loc) (ls : Array Slot), gx_W Γ C M H → va_S (gA Γ) s.heap H locs → lv_has ls 5 [(0, .ref (Γ.1 o)), (1, .int a1), (2, .int t_7.1), (3, .int t_7.2.1), (4, .int t_7.2.2)] → W p l e rm_X6_startsFrom s m args below meth c H locs 0 0 Q (F0 m 7 ls []) := by
    refine lp_ind (P := fun (t_7 : Int32 × Int32 × Int32) => ∀ (H : Heap) (locs : List Loc) (ls : Array Slot), gx_W Γ C M H → va_S (gA Γ) s.heap H locs → lv_has ls 5 [(0, .ref (Γ.1 o)), (1, .int a1), (2, .int t_7.1), (3, .int t_7.2.1), (4, .int t_7.2.2)] → W p l e rm_X6_startsFrom s m args below meth c H locs 0 0 Q (F0 m 7 ls [])) ?_
    intro t_7 y1 hf kI1 kX1 H locs ls hW hS hl
    unfold fX6_startsFrom_7 at hf
    refine lv_iload hx hb dX6_startsFrom_7 (lv_at hl 4 rfl) ?_
    refine lv_aload_n hx hb dX6_startsFrom_9 rfl (lv_at hl 0 rfl) ?_
    refine get_X6_1 S hG hW ho fl_X6_15 dX6_startsFrom_10 ?_
    refine lv_iconst (v := (1 : Int32)) hx hb dX6_startsFrom_13 (by decide) ?_
    refine lv_iadd hx hb dX6_startsFrom_14 ?_
    refine lv_icmp_gt (tgt := 67) hx hb dX6_startsFrom_15 (by decide) (fun c15 => ?_) (fun c15 => ?_)
    · have hf := cn_t c15 hf
      obtain ⟨z15, hf, ez⟩ := exR_e hf
      rw [kX1 _ ez] at hf
      refine lv_iload_n hx hb dX6_startsFrom_67 rfl (lv_at hl 2 rfl) ?_
      exact hret _ _ _ _ _ hW hS rfl (Option.some.inj hf) dX6_startsFrom_68
    · have hf := cn_f c15 hf
      refine lv_iload_n hx hb dX6_startsFrom_18 rfl (lv_at hl 3 rfl) ?_
      have J_36 : ∀ (s0_36 : Int32) , fX6_startsFrom_36 C a1 o t_7 s0_36 = some y1 → ∀ (H : Heap) (locs : List Loc) (ls : Array Slot), gx_W Γ C M H → va_S (gA Γ) s.heap H locs → lv_has ls 5 [(0, .ref (Γ.1 o)), (1, .int a1), (2, .int t_7.1), (4, .int t_7.2.2)] → W p l e rm_X6_startsFrom s m args below meth c H locs 0 0 Q (F0 m 36 ls [.int s0_36]) := by
        intro s0_36 hf H locs ls hW hS hl
        unfold fX6_startsFrom_36 at hf
        refine lv_istore_n (lv' := [(3, .int s0_36), (0, .ref (Γ.1 o)), (1, .int a1), (2, .int t_7.1), (4, .int t_7.2.2)]) hx hb dX6_startsFrom_36 rfl hl (by decide) rfl (fun ls hl => ?_)
        refine lv_iload_n hx hb dX6_startsFrom_37 rfl (lv_at hl 0 rfl) ?_
        have J_61 : ∀ (x2_61 : Int32) , fX6_startsFrom_61 C a1 o s0_36 t_7 x2_61 = some y1 → ∀ (H : Heap) (locs : List Loc) (ls : Array Slot), gx_W Γ C M H → va_S (gA Γ) s.heap H locs → lv_has ls 5 [(0, .ref (Γ.1 o)), (1, .int a1), (2, .int x2_61), (3, .int s0_36), (4, .int t_7.2.2)] → W p l e rm_X6_startsFrom s m args below meth c H locs 0 0 Q (F0 m 61 ls []) := by
          intro x2_61 hf H locs ls hW hS hl
          unfold fX6_startsFrom_61 at hf
          refine lv_iinc (v := (t_7.2.2 + (1 : Int32))) (lv' := [(4, .int (t_7.2.2 + (1 : Int32))), (0, .ref (Γ.1 o)), (1, .int a1), (2, .int x2_61), (3, .int s0_36)]) hx hb dX6_startsFrom_61 hl (k := 4) rfl rfl (by decide) rfl (fun ls hl => ?_)
          refine lv_goto (tgt := 7) hx hb dX6_startsFrom_64 (by decide) ?_
          exact kI1 _ (Option.some.inj hf).symm H locs ls hW hS (lv_sub hl [1, 2, 3, 4, 0] rfl)
        refine lv_if_eq (tgt := 61) hx hb dX6_startsFrom_38 (by decide) (fun c38 => ?_) (fun c38 => ?_)
        · have hf := cn_t c38 hf
          exact J_61 t_7.1 hf H locs ls hW hS (lv_sub hl [1, 2, 3, 0, 4] rfl)
        · have hf := cn_f c38 hf
          refine lv_aload_n hx hb dX6_startsFrom_41 rfl (lv_at hl 1 rfl) ?_
          refine lv_iload hx hb dX6_startsFrom_42 (lv_at hl 4 rfl) ?_
          refine lv_iconst (v := (1 : Int32)) hx hb dX6_startsFrom_44 (by decide) ?_
          refine lv_isub hx hb dX6_startsFrom_45 ?_
          obtain ⟨q46, hq46, hf⟩ := bnd_e hf
          refine gk0_i hS (gv_run (rest := []) S hG hW hS [.int (t_7.2.2 - (1 : Int32))] (c_X6_signAt l Γ C M ho (t_7.2.2 - (1 : Int32)) hq46) pk_X6_signAt ml_X6_27 (sh_lt1 ho) (cc_1 ho _ _) rfl rfl rfl ⟨Nat.le_of_ble_eq_true rfl, Nat.le_of_ble_eq_true rfl⟩ rfl hl.1 rfl (Nat.le_of_ble_eq_true rfl) dX6_startsFrom_46 ⟨Nat.le_of_ble_eq_true rfl, Nat.le_of_ble_eq_true rfl⟩) (fun H locs hW hS => ?_)
          refine lv_bipush (v := (47 : Int32)) hx hb dX6_startsFrom_49 (by decide) ?_
          refine lv_icmp_ne (tgt := 61) hx hb dX6_startsFrom_51 (by decide) (fun c51 => ?_) (fun c51 => ?_)
          · have hf := cn_f c51 hf
            exact J_61 t_7.1 hf H locs ls hW hS (lv_sub hl [1, 2, 3, 0, 4] rfl)
          · have hf := cn_t c51 hf
            refine lv_iload_n hx hb dX6_startsFrom_54 rfl (lv_at hl 3 rfl) ?_
            refine lv_iconst (v := (1 : Int32)) hx hb dX6_startsFrom_55 (by decide) ?_
            refine lv_iload hx hb dX6_startsFrom_56 (lv_at hl 4 rfl) ?_
            refine lv_ishl hx hb dX6_startsFrom_58 ?_
            refine lv_ior hx hb dX6_startsFrom_59 ?_
            refine lv_topi (fun v60 ev60 => ?_)
            have hf := nm_v ev60 hf
            refine lv_istore_n (lv' := [(2, .int v60), (3, .int s0_36), (0, .ref (Γ.1 o)), (1, .int a1), (4, .int t_7.2.2)]) hx hb dX6_startsFrom_60 rfl hl (by decide) rfl (fun ls hl => ?_)
            exact J_61 v60 hf H locs ls hW hS (lv_sub hl [2, 3, 0, 1, 4] rfl)
      have J_31 : fX6_startsFrom_31 C a1 o t_7 = some y1 → ∀ (H : Heap) (locs : List Loc) (ls : Array Slot), gx_W Γ C M H → va_S (gA Γ) s.heap H locs → lv_has ls 5 [(0, .ref (Γ.1 o)), (1, .int a1), (2, .int t_7.1), (4, .int t_7.2.2)] → W p l e rm_X6_startsFrom s m args below meth c H locs 0 0 Q (F0 m 31 ls []) := by
        intro  hf H locs ls hW hS hl
        unfold fX6_startsFrom_31 at hf
        refine lv_iconst (v := (1 : Int32)) hx hb dX6_startsFrom_31 (by decide) ?_
        refine lv_goto (tgt := 36) hx hb dX6_startsFrom_32 (by decide) ?_
        exact J_36 (1 : Int32) hf H locs ls hW hS (lv_sub hl [0, 1, 2, 3] rfl)
      refine lv_if_ne (tgt := 31) hx hb dX6_startsFrom_19 (by decide) (fun c19 => ?_) (fun c19 => ?_)
      · have hf := cn_f c19 hf
        exact J_31  hf H locs ls hW hS (lv_sub hl [0, 1, 2, 4] rfl)
      · have hf := cn_t c19 hf
        refine lv_iload_n hx hb dX6_startsFrom_22 rfl (lv_at hl 1 rfl) ?_
        refine lv_iload hx hb dX6_startsFrom_23 (lv_at hl 4 rfl) ?_
        refine gk0_i hS (gn_run (rest := []) S hG hW hS [.int a1, .int t_7.2.2] (c_X7_holds l Γ C M a1 t_7.2.2) pk_X7_holds nl_X6_42 rfl rfl ⟨Nat.le_of_ble_eq_true rfl, Nat.le_of_ble_eq_true rfl⟩ rfl hl.1 rfl (Nat.le_of_ble_eq_true rfl) dX6_startsFrom_25 ⟨Nat.le_of_ble_eq_true rfl, Nat.le_of_ble_eq_true rfl⟩) (fun H locs hW hS => ?_)
        refine lv_if_eq (tgt := 35) hx hb dX6_startsFrom_28 (by decide) (fun c28 => ?_) (fun c28 => ?_)
        · have hf := cn_t c28 hf
          refine lv_iconst (v := (0 : Int32)) hx hb dX6_startsFrom_35 (by decide) ?_
          exact J_36 (0 : Int32) hf H locs ls hW hS (lv_sub hl [0, 1, 2, 4] rfl)
        · have hf := cn_f c28 hf
          exact J_31  hf H locs ls hW hS (lv_sub hl [0, 1, 2, 4] rfl)
  exact J_7 ((0 : Int32), (0 : Int32), (0 : Int32)) hf H locs ls hW hS (lv_sub hl [3, 4, 2, 1, 0] rfl)
noncomputable def fX6_overLetters_39 (C : Mem) (o : Nat) (t_4 : (Int32 × Int32)) (x2_39 : Int32) : Option ((Int32 × Int32) ⊕ Int32) := some (.inl (x2_39, (t_4.2 + (1 : Int32))))
noncomputable def fX6_overLetters_4 (C : Mem) (o : Nat) : (Int32 × Int32) → Option ((Int32 × Int32) ⊕ Int32) := fun t_4 => cnd ((C o 1) ≤ t_4.2) (exR (some t_4.1)) (cnd ((fX7_holds t_4.1 t_4.2) = (0 : Int32)) (fX6_overLetters_39 C o t_4 t_4.1) (chk (vp_in t_4.2 24) (cnd ((C (o + 1) t_4.2.toNatClampNeg) = (47 : Int32)) (fX6_overLetters_39 C o t_4 t_4.1) (nmv ((t_4.1 ||| ((1 : Int32) <<< ((t_4.2 + (1 : Int32)) &&& 31)))) fun v38 => fX6_overLetters_39 C o t_4 v38))))
noncomputable def fX6_overLetters (C : Mem) (o : Nat) (a1 : Int32) : Option Int32 := lp (fX6_overLetters_4 C o) (a1, (0 : Int32))
abbrev rm_X6_overLetters : Room := { frames := 1, cells := 0, slots := 0, locals := 21 }
set_option maxRecDepth 100000 in
set_option maxHeartbeats 4000000 in
theorem c_X6_overLetters (l : Launch) (Γ : gx_G) (C M : Mem) {o : Nat} (ho : shp o = 1) (a1 : Int32) {y0 : Int32} (hf : fX6_overLetters C o a1 = some y0) : Met l yX6_overLetters (.code yX6_overLetters cX6_overLetters 4 (some .int) :: TsG) rm_X6_overLetters (va_Pc [.ref (Γ.1 o), .int a1] (gx_P Γ C M)) (gx_Qi Γ y0 C M) 0 0 (gA Γ) := by
  refine gm_i (by decide) (Nat.le_of_ble_eq_true rfl) ?_
  intro p e s m args below meth c Q S hG hret ls H locs hl hW hS
  obtain ⟨hx, hb, hml, hown, hts⟩ := id S
  have hl : lv_has ls 4 [(0, .ref (Γ.1 o)), (1, .int a1)] := hl
  unfold fX6_overLetters at hf
  refine lv_iload_n hx hb dX6_overLetters_0 rfl (lv_at hl 1 rfl) ?_
  refine lv_istore_n (lv' := [(2, .int a1), (0, .ref (Γ.1 o)), (1, .int a1)]) hx hb dX6_overLetters_1 rfl hl (by decide) rfl (fun ls hl => ?_)
  refine lv_iconst (v := (0 : Int32)) hx hb dX6_overLetters_2 (by decide) ?_
  refine lv_istore_n (lv' := [(3, .int (0 : Int32)), (2, .int a1), (0, .ref (Γ.1 o)), (1, .int a1)]) hx hb dX6_overLetters_3 rfl hl (by decide) rfl (fun ls hl => ?_)
  have J_4 : ∀  (t_4 : Int32 × Int32), lp (fX6_overLetters_4 C o) t_4 = some y0 → ∀ (H : Heap) (locs : List Loc) (ls : Array Slot), gx_W Γ C M H → va_S (gA Γ) s.heap H locs → lv_has ls 4 [(0, .ref (Γ.1 o)), (2, .int t_4.1), (3, .int t_4.2)] → W p l e rm_X6_overLetters s m args below meth c H locs 0 0 Q (F0 m 4 ls []) := by
    refine lp_ind (P := fun (t_4 : Int32 × Int32) => ∀ (H : Heap) (locs : List Loc) (ls : Array Slot), gx_W Γ C M H → va_S (gA Γ) s.heap H locs → lv_has ls 4 [(0, .ref (Γ.1 o)), (2, .int t_4.1), (3, .int t_4.2)] → W p l e rm_X6_overLetters s m args below meth c H locs 0 0 Q (F0 m 4 ls [])) ?_
    intro t_4 y1 hf kI1 kX1 H locs ls hW hS hl
    unfold fX6_overLetters_4 at hf
    refine lv_iload_n hx hb dX6_overLetters_4 rfl (lv_at hl 2 rfl) ?_
    refine lv_aload_n hx hb dX6_overLetters_5 rfl (lv_at hl 0 rfl) ?_
    refine get_X6_1 S hG hW ho fl_X6_15 dX6_overLetters_6 ?_
    refine lv_icmp_ge (tgt := 45) hx hb dX6_overLetters_9 (by decide) (fun c9 => ?_) (fun c9 => ?_)
    · have hf := cn_t c9 hf
      obtain ⟨z9, hf, ez⟩ := exR_e hf
      rw [kX1 _ ez] at hf
      refine lv_iload_n hx hb dX6_overLetters_45 rfl (lv_at hl 1 rfl) ?_
      exact hret _ _ _ _ _ hW hS rfl (Option.some.inj hf) dX6_overLetters_46
    · have hf := cn_f c9 hf
      refine lv_iload_n hx hb dX6_overLetters_12 rfl (lv_at hl 1 rfl) ?_
      refine lv_iload_n hx hb dX6_overLetters_13 rfl (lv_at hl 2 rfl) ?_
      refine gk0_i hS (gn_run (rest := []) S hG hW hS [.int t_4.1, .int t_4.2] (c_X7_holds l Γ C M t_4.1 t_4.2) pk_X7_holds nl_X6_42 rfl rfl ⟨Nat.le_of_ble_eq_true rfl, Nat.le_of_ble_eq_true rfl⟩ rfl hl.1 rfl (Nat.le_of_ble_eq_true rfl) dX6_overLetters_14 ⟨Nat.le_of_ble_eq_true rfl, Nat.le_of_ble_eq_true rfl⟩) (fun H locs hW hS => ?_)
      have J_39 : ∀ (x2_39 : Int32) , fX6_overLetters_39 C o t_4 x2_39 = some y1 → ∀ (H : Heap) (locs : List Loc) (ls : Array Slot), gx_W Γ C M H → va_S (gA Γ) s.heap H locs → lv_has ls 4 [(0, .ref (Γ.1 o)), (2, .int x2_39), (3, .int t_4.2)] → W p l e rm_X6_overLetters s m args below meth c H locs 0 0 Q (F0 m 39 ls []) := by
        intro x2_39 hf H locs ls hW hS hl
        unfold fX6_overLetters_39 at hf
        refine lv_iinc (v := (t_4.2 + (1 : Int32))) (lv' := [(3, .int (t_4.2 + (1 : Int32))), (0, .ref (Γ.1 o)), (2, .int x2_39)]) hx hb dX6_overLetters_39 hl (k := 2) rfl rfl (by decide) rfl (fun ls hl => ?_)
        refine lv_goto (tgt := 4) hx hb dX6_overLetters_42 (by decide) ?_
        exact kI1 _ (Option.some.inj hf).symm H locs ls hW hS (lv_sub hl [1, 2, 0] rfl)
      refine lv_if_eq (tgt := 39) hx hb dX6_overLetters_17 (by decide) (fun c17 => ?_) (fun c17 => ?_)
      · have hf := cn_t c17 hf
        exact J_39 t_4.1 hf H locs ls hW hS (lv_sub hl [0, 1, 2] rfl)
      · have hf := cn_f c17 hf
        refine lv_aload_n hx hb dX6_overLetters_20 rfl (lv_at hl 0 rfl) ?_
        refine get_X6_0 S hG hW ho fl_X6_9 dX6_overLetters_21 ?_
        refine lv_iload_n hx hb dX6_overLetters_24 rfl (lv_at hl 2 rfl) ?_
        have g25 := ck_p hf
        have hf := ck_r hf
        refine ald_c S hG hW (sh_t1 ho) g25 dX6_overLetters_25 ?_
        refine lv_bipush (v := (47 : Int32)) hx hb dX6_overLetters_26 (by decide) ?_
        refine lv_icmp_eq (tgt := 39) hx hb dX6_overLetters_28 (by decide) (fun c28 => ?_) (fun c28 => ?_)
        · have hf := cn_t c28 hf
          exact J_39 t_4.1 hf H locs ls hW hS (lv_sub hl [0, 1, 2] rfl)
        · have hf := cn_f c28 hf
          refine lv_iload_n hx hb dX6_overLetters_31 rfl (lv_at hl 1 rfl) ?_
          refine lv_iconst (v := (1 : Int32)) hx hb dX6_overLetters_32 (by decide) ?_
          refine lv_iload_n hx hb dX6_overLetters_33 rfl (lv_at hl 2 rfl) ?_
          refine lv_iconst (v := (1 : Int32)) hx hb dX6_overLetters_34 (by decide) ?_
          refine lv_iadd hx hb dX6_overLetters_35 ?_
          refine lv_ishl hx hb dX6_overLetters_36 ?_
          refine lv_ior hx hb dX6_overLetters_37 ?_
          refine lv_topi (fun v38 ev38 => ?_)
          have hf := nm_v ev38 hf
          refine lv_istore_n (lv' := [(2, .int v38), (0, .ref (Γ.1 o)), (3, .int t_4.2)]) hx hb dX6_overLetters_38 rfl hl (by decide) rfl (fun ls hl => ?_)
          exact J_39 v38 hf H locs ls hW hS (lv_sub hl [1, 0, 2] rfl)
  exact J_4 (a1, (0 : Int32)) hf H locs ls hW hS (lv_sub hl [2, 1, 0] rfl)
noncomputable def fX6_overSign_79 (C : Mem) (a1 : Int32) (a2 : Int32) (o : Nat) (t_5 : (Int32 × Int32)) (x3_79 : Int32) : Option ((Int32 × Int32) ⊕ Int32) := some (.inl (x3_79, (t_5.2 + (1 : Int32))))
noncomputable def fX6_overSign_54 (C : Mem) (a1 : Int32) (a2 : Int32) (o : Nat) (t_5 : (Int32 × Int32)) (s0_54 : Int32) : Option ((Int32 × Int32) ⊕ Int32) := cnd (s0_54 = (0 : Int32)) (fX6_overSign_79 C a1 a2 o t_5 t_5.1) (cnd ((fX7_holds a1 t_5.2) = (0 : Int32)) (fX6_overSign_79 C a1 a2 o t_5 t_5.1) (nmv ((t_5.1 ||| ((1 : Int32) <<< ((t_5.2 + (1 : Int32)) &&& 31)))) fun v78 => fX6_overSign_79 C a1 a2 o t_5 v78))
noncomputable def fX6_overSign_5 (C : Mem) (a1 : Int32) (a2 : Int32) (o : Nat) : (Int32 × Int32) → Option ((Int32 × Int32) ⊕ Int32) := fun t_5 => cnd ((C o 1) < t_5.2) (exR (some t_5.1)) (cnd (a2 = (63 : Int32)) (bnd (fX6_signAt C o t_5.2) fun q23 => cnd (q23 = (47 : Int32)) (fX6_overSign_54 C a1 a2 o t_5 (0 : Int32)) (fX6_overSign_54 C a1 a2 o t_5 (1 : Int32))) (bnd (fX6_signAt C o t_5.2) fun q42 => cnd (q42 = a2) (fX6_overSign_54 C a1 a2 o t_5 (1 : Int32)) (fX6_overSign_54 C a1 a2 o t_5 (0 : Int32))))
noncomputable def fX6_overSign (C : Mem) (o : Nat) (a1 : Int32) (a2 : Int32) : Option Int32 := lp (fX6_overSign_5 C a1 a2 o) ((0 : Int32), (0 : Int32))
abbrev rm_X6_overSign : Room := { frames := 1, cells := 0, slots := 0, locals := 21 }
set_option maxRecDepth 100000 in
set_option maxHeartbeats 4000000 in
theorem c_X6_overSign (l : Launch) (Γ : gx_G) (C M : Mem) {o : Nat} (ho : shp o = 1) (a1 : Int32) (a2 : Int32) {y0 : Int32} (hf : fX6_overSign C o a1 a2 = some y0) : Met l yX6_overSign (.code yX6_overSign cX6_overSign 6 (some .int) :: TsG) rm_X6_overSign (va_Pc [.ref (Γ.1 o), .int a1, .int a2] (gx_P Γ C M)) (gx_Qi Γ y0 C M) 0 0 (gA Γ) := by
  refine gm_i (by decide) (Nat.le_of_ble_eq_true rfl) ?_
  intro p e s m args below meth c Q S hG hret ls H locs hl hW hS
  obtain ⟨hx, hb, hml, hown, hts⟩ := id S
  have hl : lv_has ls 6 [(0, .ref (Γ.1 o)), (1, .int a1), (2, .int a2)] := hl
  unfold fX6_overSign at hf
  refine lv_iconst (v := (0 : Int32)) hx hb dX6_overSign_0 (by decide) ?_
  refine lv_istore_n (lv' := [(3, .int (0 : Int32)), (0, .ref (Γ.1 o)), (1, .int a1), (2, .int a2)]) hx hb dX6_overSign_1 rfl hl (by decide) rfl (fun ls hl => ?_)
  refine lv_iconst (v := (0 : Int32)) hx hb dX6_overSign_2 (by decide) ?_
  refine lv_istore (lv' := [(4, .int (0 : Int32)), (3, .int (0 : Int32)), (0, .ref (Γ.1 o)), (1, .int a1), (2, .int a2)]) hx hb dX6_overSign_3 hl (by decide) rfl (fun ls hl => ?_)
  have J_5 : ∀  (t_5 : Int32 × Int32), lp (fX6_overSign_5 C a1 a2 o) t_5 = some y0 → ∀ (H : Heap) (locs : List Loc) (ls : Array Slot), gx_W Γ C M H → va_S (gA Γ) s.heap H locs → lv_has ls 6 [(0, .ref (Γ.1 o)), (1, .int a1), (2, .int a2), (3, .int t_5.1), (4, .int t_5.2)] → W p l e rm_X6_overSign s m args below meth c H locs 0 0 Q (F0 m 5 ls []) := by
    refine lp_ind (P := fun (t_5 : Int32 × Int32) => ∀ (H : Heap) (locs : List Loc) (ls : Array Slot), gx_W Γ C M H → va_S (gA Γ) s.heap H locs → lv_has ls 6 [(0, .ref (Γ.1 o)), (1, .int a1), (2, .int a2), (3, .int t_5.1), (4, .int t_5.2)] → W p l e rm_X6_overSign s m args below meth c H locs 0 0 Q (F0 m 5 ls [])) ?_
    intro t_5 y1 hf kI1 kX1 H locs ls hW hS hl
    unfold fX6_overSign_5 at hf
    refine lv_iload hx hb dX6_overSign_5 (lv_at hl 4 rfl) ?_
    refine lv_aload_n hx hb dX6_overSign_7 rfl (lv_at hl 0 rfl) ?_
    refine get_X6_1 S hG hW ho fl_X6_15 dX6_overSign_8 ?_
    refine lv_icmp_gt (tgt := 85) hx hb dX6_overSign_11 (by decide) (fun c11 => ?_) (fun c11 => ?_)
    · have hf := cn_t c11 hf
      obtain ⟨z11, hf, ez⟩ := exR_e hf
      rw [kX1 _ ez] at hf
      refine lv_iload_n hx hb dX6_overSign_85 rfl (lv_at hl 3 rfl) ?_
      exact hret _ _ _ _ _ hW hS rfl (Option.some.inj hf) dX6_overSign_86
    · have hf := cn_f c11 hf
      refine lv_iload_n hx hb dX6_overSign_14 rfl (lv_at hl 2 rfl) ?_
      refine lv_bipush (v := (63 : Int32)) hx hb dX6_overSign_15 (by decide) ?_
      have J_54 : ∀ (s0_54 : Int32) , fX6_overSign_54 C a1 a2 o t_5 s0_54 = some y1 → ∀ (H : Heap) (locs : List Loc) (ls : Array Slot), gx_W Γ C M H → va_S (gA Γ) s.heap H locs → lv_has ls 6 [(0, .ref (Γ.1 o)), (1, .int a1), (2, .int a2), (3, .int t_5.1), (4, .int t_5.2)] → W p l e rm_X6_overSign s m args below meth c H locs 0 0 Q (F0 m 54 ls [.int s0_54]) := by
        intro s0_54 hf H locs ls hW hS hl
        unfold fX6_overSign_54 at hf
        refine lv_istore (lv' := [(5, .int s0_54), (0, .ref (Γ.1 o)), (1, .int a1), (2, .int a2), (3, .int t_5.1), (4, .int t_5.2)]) hx hb dX6_overSign_54 hl (by decide) rfl (fun ls hl => ?_)
        refine lv_iload hx hb dX6_overSign_56 (lv_at hl 0 rfl) ?_
        have J_79 : ∀ (x3_79 : Int32) , fX6_overSign_79 C a1 a2 o t_5 x3_79 = some y1 → ∀ (H : Heap) (locs : List Loc) (ls : Array Slot), gx_W Γ C M H → va_S (gA Γ) s.heap H locs → lv_has ls 6 [(0, .ref (Γ.1 o)), (1, .int a1), (2, .int a2), (3, .int x3_79), (4, .int t_5.2)] → W p l e rm_X6_overSign s m args below meth c H locs 0 0 Q (F0 m 79 ls []) := by
          intro x3_79 hf H locs ls hW hS hl
          unfold fX6_overSign_79 at hf
          refine lv_iinc (v := (t_5.2 + (1 : Int32))) (lv' := [(4, .int (t_5.2 + (1 : Int32))), (0, .ref (Γ.1 o)), (1, .int a1), (2, .int a2), (3, .int x3_79)]) hx hb dX6_overSign_79 hl (k := 4) rfl rfl (by decide) rfl (fun ls hl => ?_)
          refine lv_goto (tgt := 5) hx hb dX6_overSign_82 (by decide) ?_
          exact kI1 _ (Option.some.inj hf).symm H locs ls hW hS (lv_sub hl [1, 2, 3, 4, 0] rfl)
        refine lv_if_eq (tgt := 79) hx hb dX6_overSign_58 (by decide) (fun c58 => ?_) (fun c58 => ?_)
        · have hf := cn_t c58 hf
          exact J_79 t_5.1 hf H locs ls hW hS (lv_sub hl [1, 2, 3, 4, 5] rfl)
        · have hf := cn_f c58 hf
          refine lv_iload_n hx hb dX6_overSign_61 rfl (lv_at hl 2 rfl) ?_
          refine lv_iload hx hb dX6_overSign_62 (lv_at hl 5 rfl) ?_
          refine gk0_i hS (gn_run (rest := []) S hG hW hS [.int a1, .int t_5.2] (c_X7_holds l Γ C M a1 t_5.2) pk_X7_holds nl_X6_42 rfl rfl ⟨Nat.le_of_ble_eq_true rfl, Nat.le_of_ble_eq_true rfl⟩ rfl hl.1 rfl (Nat.le_of_ble_eq_true rfl) dX6_overSign_64 ⟨Nat.le_of_ble_eq_true rfl, Nat.le_of_ble_eq_true rfl⟩) (fun H locs hW hS => ?_)
          refine lv_if_eq (tgt := 79) hx hb dX6_overSign_67 (by decide) (fun c67 => ?_) (fun c67 => ?_)
          · have hf := cn_t c67 hf
            exact J_79 t_5.1 hf H locs ls hW hS (lv_sub hl [1, 2, 3, 4, 5] rfl)
          · have hf := cn_f c67 hf
            refine lv_iload_n hx hb dX6_overSign_70 rfl (lv_at hl 4 rfl) ?_
            refine lv_iconst (v := (1 : Int32)) hx hb dX6_overSign_71 (by decide) ?_
            refine lv_iload hx hb dX6_overSign_72 (lv_at hl 5 rfl) ?_
            refine lv_iconst (v := (1 : Int32)) hx hb dX6_overSign_74 (by decide) ?_
            refine lv_iadd hx hb dX6_overSign_75 ?_
            refine lv_ishl hx hb dX6_overSign_76 ?_
            refine lv_ior hx hb dX6_overSign_77 ?_
            refine lv_topi (fun v78 ev78 => ?_)
            have hf := nm_v ev78 hf
            refine lv_istore_n (lv' := [(3, .int v78), (5, .int s0_54), (0, .ref (Γ.1 o)), (1, .int a1), (2, .int a2), (4, .int t_5.2)]) hx hb dX6_overSign_78 rfl hl (by decide) rfl (fun ls hl => ?_)
            exact J_79 v78 hf H locs ls hW hS (lv_sub hl [2, 3, 4, 0, 5] rfl)
      refine lv_icmp_ne (tgt := 39) hx hb dX6_overSign_17 (by decide) (fun c17 => ?_) (fun c17 => ?_)
      · have hf := cn_f c17 hf
        refine lv_aload_n hx hb dX6_overSign_39 rfl (lv_at hl 0 rfl) ?_
        refine lv_iload hx hb dX6_overSign_40 (lv_at hl 4 rfl) ?_
        obtain ⟨q42, hq42, hf⟩ := bnd_e hf
        refine gk0_i hS (gv_run (rest := []) S hG hW hS [.int t_5.2] (c_X6_signAt l Γ C M ho t_5.2 hq42) pk_X6_signAt ml_X6_27 (sh_lt1 ho) (cc_1 ho _ _) rfl rfl rfl ⟨Nat.le_of_ble_eq_true rfl, Nat.le_of_ble_eq_true rfl⟩ rfl hl.1 rfl (Nat.le_of_ble_eq_true rfl) dX6_overSign_42 ⟨Nat.le_of_ble_eq_true rfl, Nat.le_of_ble_eq_true rfl⟩) (fun H locs hW hS => ?_)
        refine lv_iload_n hx hb dX6_overSign_45 rfl (lv_at hl 2 rfl) ?_
        refine lv_icmp_ne (tgt := 53) hx hb dX6_overSign_46 (by decide) (fun c46 => ?_) (fun c46 => ?_)
        · have hf := cn_f c46 hf
          refine lv_iconst (v := (0 : Int32)) hx hb dX6_overSign_53 (by decide) ?_
          exact J_54 (0 : Int32) hf H locs ls hW hS (lv_sub hl [0, 1, 2, 3, 4] rfl)
        · have hf := cn_t c46 hf
          refine lv_iconst (v := (1 : Int32)) hx hb dX6_overSign_49 (by decide) ?_
          refine lv_goto (tgt := 54) hx hb dX6_overSign_50 (by decide) ?_
          exact J_54 (1 : Int32) hf H locs ls hW hS (lv_sub hl [0, 1, 2, 3, 4] rfl)
      · have hf := cn_t c17 hf
        refine lv_aload_n hx hb dX6_overSign_20 rfl (lv_at hl 0 rfl) ?_
        refine lv_iload hx hb dX6_overSign_21 (lv_at hl 4 rfl) ?_
        obtain ⟨q23, hq23, hf⟩ := bnd_e hf
        refine gk0_i hS (gv_run (rest := []) S hG hW hS [.int t_5.2] (c_X6_signAt l Γ C M ho t_5.2 hq23) pk_X6_signAt ml_X6_27 (sh_lt1 ho) (cc_1 ho _ _) rfl rfl rfl ⟨Nat.le_of_ble_eq_true rfl, Nat.le_of_ble_eq_true rfl⟩ rfl hl.1 rfl (Nat.le_of_ble_eq_true rfl) dX6_overSign_23 ⟨Nat.le_of_ble_eq_true rfl, Nat.le_of_ble_eq_true rfl⟩) (fun H locs hW hS => ?_)
        refine lv_bipush (v := (47 : Int32)) hx hb dX6_overSign_26 (by decide) ?_
        refine lv_icmp_eq (tgt := 35) hx hb dX6_overSign_28 (by decide) (fun c28 => ?_) (fun c28 => ?_)
        · have hf := cn_t c28 hf
          refine lv_iconst (v := (0 : Int32)) hx hb dX6_overSign_35 (by decide) ?_
          refine lv_goto (tgt := 54) hx hb dX6_overSign_36 (by decide) ?_
          exact J_54 (0 : Int32) hf H locs ls hW hS (lv_sub hl [0, 1, 2, 3, 4] rfl)
        · have hf := cn_f c28 hf
          refine lv_iconst (v := (1 : Int32)) hx hb dX6_overSign_31 (by decide) ?_
          refine lv_goto (tgt := 54) hx hb dX6_overSign_32 (by decide) ?_
          exact J_54 (1 : Int32) hf H locs ls hW hS (lv_sub hl [0, 1, 2, 3, 4] rfl)
  exact J_5 ((0 : Int32), (0 : Int32)) hf H locs ls hW hS (lv_sub hl [2, 3, 4, 1, 0] rfl)
noncomputable def fX6_covers_61 (C : Mem) (o : Nat) (p1 : Nat) (t_4 : (Int32 × Int32)) (s0_61 : Int32) : Option ((Int32 × Int32) ⊕ Int32) := some (.inl (s0_61, (t_4.2 + (1 : Int32))))
noncomputable def fX6_covers_4 (C : Mem) (o : Nat) (p1 : Nat) : (Int32 × Int32) → Option ((Int32 × Int32) ⊕ Int32) := fun t_4 => cnd ((C o 1) < t_4.2) (exR (chk (narrow .boolean (.int (fX7_holds t_4.1 ((C p1 1) + (1 : Int32)))) = .int (fX7_holds t_4.1 ((C p1 1) + (1 : Int32)))) (some (fX7_holds t_4.1 ((C p1 1) + (1 : Int32)))))) (bnd (fX6_isDoubleStar C o t_4.2) fun q14 => cnd (q14 = (0 : Int32)) (bnd (fX6_signAt C o t_4.2) fun q34 => cnd (q34 = (42 : Int32)) (bnd (fX6_overLetters C p1 t_4.1) fun q48 => fX6_covers_61 C o p1 t_4 q48) (bnd (fX6_overSign C p1 t_4.1 q34) fun q58 => fX6_covers_61 C o p1 t_4 q58)) (bnd (fX6_startsFrom C p1 t_4.1) fun q22 => some (.inl (q22, (t_4.2 + (3 : Int32))))))
noncomputable def fX6_covers (C : Mem) (o : Nat) (p1 : Nat) : Option Int32 := lp (fX6_covers_4 C o p1) ((1 : Int32), (0 : Int32))
abbrev rm_X6_covers : Room := { frames := 2, cells := 0, slots := 0, locals := 46 }
set_option maxRecDepth 100000 in
set_option maxHeartbeats 4000000 in
theorem c_X6_covers (l : Launch) (Γ : gx_G) (C M : Mem) {o : Nat} (ho : shp o = 1) {p1 : Nat} (hp1 : shp p1 = 1) {y0 : Int32} (hf : fX6_covers C o p1 = some y0) : Met l yX6_covers (.code yX6_covers cX6_covers 5 (some .boolean) :: TsG) rm_X6_covers (va_Pc [.ref (Γ.1 o), .ref (Γ.1 p1)] (gx_P Γ C M)) (gx_Qi Γ y0 C M) 0 0 (gA Γ) := by
  refine gm_i (by decide) (Nat.le_of_ble_eq_true rfl) ?_
  intro p e s m args below meth c Q S hG hret ls H locs hl hW hS
  obtain ⟨hx, hb, hml, hown, hts⟩ := id S
  have hl : lv_has ls 5 [(0, .ref (Γ.1 o)), (1, .ref (Γ.1 p1))] := hl
  unfold fX6_covers at hf
  refine lv_iconst (v := (1 : Int32)) hx hb dX6_covers_0 (by decide) ?_
  refine lv_istore_n (lv' := [(2, .int (1 : Int32)), (0, .ref (Γ.1 o)), (1, .ref (Γ.1 p1))]) hx hb dX6_covers_1 rfl hl (by decide) rfl (fun ls hl => ?_)
  refine lv_iconst (v := (0 : Int32)) hx hb dX6_covers_2 (by decide) ?_
  refine lv_istore_n (lv' := [(3, .int (0 : Int32)), (2, .int (1 : Int32)), (0, .ref (Γ.1 o)), (1, .ref (Γ.1 p1))]) hx hb dX6_covers_3 rfl hl (by decide) rfl (fun ls hl => ?_)
  have J_4 : ∀  (t_4 : Int32 × Int32), lp (fX6_covers_4 C o p1) t_4 = some y0 → ∀ (H : Heap) (locs : List Loc) (ls : Array Slot), gx_W Γ C M H → va_S (gA Γ) s.heap H locs → lv_has ls 5 [(0, .ref (Γ.1 o)), (1, .ref (Γ.1 p1)), (2, .int t_4.1), (3, .int t_4.2)] → W p l e rm_X6_covers s m args below meth c H locs 0 0 Q (F0 m 4 ls []) := by
    refine lp_ind (P := fun (t_4 : Int32 × Int32) => ∀ (H : Heap) (locs : List Loc) (ls : Array Slot), gx_W Γ C M H → va_S (gA Γ) s.heap H locs → lv_has ls 5 [(0, .ref (Γ.1 o)), (1, .ref (Γ.1 p1)), (2, .int t_4.1), (3, .int t_4.2)] → W p l e rm_X6_covers s m args below meth c H locs 0 0 Q (F0 m 4 ls [])) ?_
    intro t_4 y1 hf kI1 kX1 H locs ls hW hS hl
    unfold fX6_covers_4 at hf
    refine lv_iload_n hx hb dX6_covers_4 rfl (lv_at hl 3 rfl) ?_
    refine lv_aload_n hx hb dX6_covers_5 rfl (lv_at hl 0 rfl) ?_
    refine get_X6_1 S hG hW ho fl_X6_15 dX6_covers_6 ?_
    refine lv_icmp_gt (tgt := 68) hx hb dX6_covers_9 (by decide) (fun c9 => ?_) (fun c9 => ?_)
    · have hf := cn_t c9 hf
      obtain ⟨z9, hf, ez⟩ := exR_e hf
      rw [kX1 _ ez] at hf
      refine lv_iload_n hx hb dX6_covers_68 rfl (lv_at hl 2 rfl) ?_
      refine lv_aload_n hx hb dX6_covers_69 rfl (lv_at hl 1 rfl) ?_
      refine get_X6_1 S hG hW hp1 fl_X6_15 dX6_covers_70 ?_
      refine lv_iconst (v := (1 : Int32)) hx hb dX6_covers_73 (by decide) ?_
      refine lv_iadd hx hb dX6_covers_74 ?_
      refine gk0_i hS (gn_run (rest := []) S hG hW hS [.int t_4.1, .int ((C p1 1) + (1 : Int32))] (c_X7_holds l Γ C M t_4.1 ((C p1 1) + (1 : Int32))) pk_X7_holds nl_X6_42 rfl rfl ⟨Nat.le_of_ble_eq_true rfl, Nat.le_of_ble_eq_true rfl⟩ rfl hl.1 rfl (Nat.le_of_ble_eq_true rfl) dX6_covers_75 ⟨Nat.le_of_ble_eq_true rfl, Nat.le_of_ble_eq_true rfl⟩) (fun H locs hW hS => ?_)
      have n9 := ck_p hf
      have hf := ck_r hf
      exact hret _ _ _ _ _ hW hS n9 (Option.some.inj hf) dX6_covers_78
    · have hf := cn_f c9 hf
      refine lv_aload_n hx hb dX6_covers_12 rfl (lv_at hl 0 rfl) ?_
      refine lv_iload_n hx hb dX6_covers_13 rfl (lv_at hl 3 rfl) ?_
      obtain ⟨q14, hq14, hf⟩ := bnd_e hf
      refine gk0_i hS (gv_run (rest := []) S hG hW hS [.int t_4.2] (c_X6_isDoubleStar l Γ C M ho t_4.2 hq14) pk_X6_isDoubleStar ml_X6_23 (sh_lt1 ho) (cc_1 ho _ _) rfl rfl rfl ⟨Nat.le_of_ble_eq_true rfl, Nat.le_of_ble_eq_true rfl⟩ rfl hl.1 rfl (Nat.le_of_ble_eq_true rfl) dX6_covers_14 ⟨Nat.le_of_ble_eq_true rfl, Nat.le_of_ble_eq_true rfl⟩) (fun H locs hW hS => ?_)
      refine lv_if_eq (tgt := 32) hx hb dX6_covers_17 (by decide) (fun c17 => ?_) (fun c17 => ?_)
      · have hf := cn_t c17 hf
        refine lv_aload_n hx hb dX6_covers_32 rfl (lv_at hl 0 rfl) ?_
        refine lv_iload_n hx hb dX6_covers_33 rfl (lv_at hl 3 rfl) ?_
        obtain ⟨q34, hq34, hf⟩ := bnd_e hf
        refine gk0_i hS (gv_run (rest := []) S hG hW hS [.int t_4.2] (c_X6_signAt l Γ C M ho t_4.2 hq34) pk_X6_signAt ml_X6_27 (sh_lt1 ho) (cc_1 ho _ _) rfl rfl rfl ⟨Nat.le_of_ble_eq_true rfl, Nat.le_of_ble_eq_true rfl⟩ rfl hl.1 rfl (Nat.le_of_ble_eq_true rfl) dX6_covers_34 ⟨Nat.le_of_ble_eq_true rfl, Nat.le_of_ble_eq_true rfl⟩) (fun H locs hW hS => ?_)
        refine lv_istore (lv' := [(4, .int q34), (0, .ref (Γ.1 o)), (1, .ref (Γ.1 p1)), (2, .int t_4.1), (3, .int t_4.2)]) hx hb dX6_covers_37 hl (by decide) rfl (fun ls hl => ?_)
        refine lv_iload hx hb dX6_covers_39 (lv_at hl 0 rfl) ?_
        refine lv_bipush (v := (42 : Int32)) hx hb dX6_covers_41 (by decide) ?_
        have J_61 : ∀ (s0_61 : Int32) , fX6_covers_61 C o p1 t_4 s0_61 = some y1 → ∀ (H : Heap) (locs : List Loc) (ls : Array Slot), gx_W Γ C M H → va_S (gA Γ) s.heap H locs → lv_has ls 5 [(0, .ref (Γ.1 o)), (1, .ref (Γ.1 p1)), (3, .int t_4.2)] → W p l e rm_X6_covers s m args below meth c H locs 0 0 Q (F0 m 61 ls [.int s0_61]) := by
          intro s0_61 hf H locs ls hW hS hl
          unfold fX6_covers_61 at hf
          refine lv_istore_n (lv' := [(2, .int s0_61), (0, .ref (Γ.1 o)), (1, .ref (Γ.1 p1)), (3, .int t_4.2)]) hx hb dX6_covers_61 rfl hl (by decide) rfl (fun ls hl => ?_)
          refine lv_iinc (v := (t_4.2 + (1 : Int32))) (lv' := [(3, .int (t_4.2 + (1 : Int32))), (2, .int s0_61), (0, .ref (Γ.1 o)), (1, .ref (Γ.1 p1))]) hx hb dX6_covers_62 hl (k := 3) rfl rfl (by decide) rfl (fun ls hl => ?_)
          refine lv_goto (tgt := 4) hx hb dX6_covers_65 (by decide) ?_
          exact kI1 _ (Option.some.inj hf).symm H locs ls hW hS (lv_sub hl [2, 3, 1, 0] rfl)
        refine lv_icmp_ne (tgt := 54) hx hb dX6_covers_43 (by decide) (fun c43 => ?_) (fun c43 => ?_)
        · have hf := cn_f c43 hf
          refine lv_aload_n hx hb dX6_covers_54 rfl (lv_at hl 2 rfl) ?_
          refine lv_iload_n hx hb dX6_covers_55 rfl (lv_at hl 3 rfl) ?_
          refine lv_iload hx hb dX6_covers_56 (lv_at hl 0 rfl) ?_
          obtain ⟨q58, hq58, hf⟩ := bnd_e hf
          refine gk0_i hS (gv_run (rest := []) S hG hW hS [.int t_4.1, .int q34] (c_X6_overSign l Γ C M hp1 t_4.1 q34 hq58) pk_X6_overSign ml_X6_38 (sh_lt1 hp1) (cc_1 hp1 _ _) rfl rfl rfl ⟨Nat.le_of_ble_eq_true rfl, Nat.le_of_ble_eq_true rfl⟩ rfl hl.1 rfl (Nat.le_of_ble_eq_true rfl) dX6_covers_58 ⟨Nat.le_of_ble_eq_true rfl, Nat.le_of_ble_eq_true rfl⟩) (fun H locs hW hS => ?_)
          exact J_61 q58 hf H locs ls hW hS (lv_sub hl [1, 2, 4] rfl)
        · have hf := cn_t c43 hf
          refine lv_aload_n hx hb dX6_covers_46 rfl (lv_at hl 2 rfl) ?_
          refine lv_iload_n hx hb dX6_covers_47 rfl (lv_at hl 3 rfl) ?_
          obtain ⟨q48, hq48, hf⟩ := bnd_e hf
          refine gk0_i hS (gv_run (rest := []) S hG hW hS [.int t_4.1] (c_X6_overLetters l Γ C M hp1 t_4.1 hq48) pk_X6_overLetters ml_X6_35 (sh_lt1 hp1) (cc_1 hp1 _ _) rfl rfl rfl ⟨Nat.le_of_ble_eq_true rfl, Nat.le_of_ble_eq_true rfl⟩ rfl hl.1 rfl (Nat.le_of_ble_eq_true rfl) dX6_covers_48 ⟨Nat.le_of_ble_eq_true rfl, Nat.le_of_ble_eq_true rfl⟩) (fun H locs hW hS => ?_)
          refine lv_goto (tgt := 61) hx hb dX6_covers_51 (by decide) ?_
          exact J_61 q48 hf H locs ls hW hS (lv_sub hl [1, 2, 4] rfl)
      · have hf := cn_f c17 hf
        refine lv_aload_n hx hb dX6_covers_20 rfl (lv_at hl 1 rfl) ?_
        refine lv_iload_n hx hb dX6_covers_21 rfl (lv_at hl 2 rfl) ?_
        obtain ⟨q22, hq22, hf⟩ := bnd_e hf
        refine gk0_i hS (gv_run (rest := []) S hG hW hS [.int t_4.1] (c_X6_startsFrom l Γ C M hp1 t_4.1 hq22) pk_X6_startsFrom ml_X6_31 (sh_lt1 hp1) (cc_1 hp1 _ _) rfl rfl rfl ⟨Nat.le_of_ble_eq_true rfl, Nat.le_of_ble_eq_true rfl⟩ rfl hl.1 rfl (Nat.le_of_ble_eq_true rfl) dX6_covers_22 ⟨Nat.le_of_ble_eq_true rfl, Nat.le_of_ble_eq_true rfl⟩) (fun H locs hW hS => ?_)
        refine lv_istore_n (lv' := [(2, .int q22), (0, .ref (Γ.1 o)), (1, .ref (Γ.1 p1)), (3, .int t_4.2)]) hx hb dX6_covers_25 rfl hl (by decide) rfl (fun ls hl => ?_)
        refine lv_iinc (v := (t_4.2 + (3 : Int32))) (lv' := [(3, .int (t_4.2 + (3 : Int32))), (2, .int q22), (0, .ref (Γ.1 o)), (1, .ref (Γ.1 p1))]) hx hb dX6_covers_26 hl (k := 3) rfl rfl (by decide) rfl (fun ls hl => ?_)
        refine lv_goto (tgt := 4) hx hb dX6_covers_29 (by decide) ?_
        exact kI1 _ (Option.some.inj hf).symm H locs ls hW hS (lv_sub hl [2, 3, 1, 0] rfl)
  exact J_4 ((1 : Int32), (0 : Int32)) hf H locs ls hW hS (lv_sub hl [2, 3, 1, 0] rfl)
