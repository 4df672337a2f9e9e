noncomputable def fX5_dearest_48 (C : Mem) (a2 : Int32) (t_8 : (Int32 × Int32 × Int32)) (x3_48 : Int32) (x4_48 : Int32) : Option ((Int32 × Int32 × Int32) ⊕ Int32) := some (.inl (x3_48, x4_48, (t_8.2.2 + (1 : Int32))))
noncomputable def fX5_dearest_8 (C : Mem) (a2 : Int32) : (Int32 × Int32 × Int32) → Option ((Int32 × Int32 × Int32) ⊕ Int32) := fun t_8 => cnd ((fX2_size C) ≤ t_8.2.2) (exR (some t_8.1)) (cnd ((fX7_holds a2 t_8.2.2) = (0 : Int32)) (fX5_dearest_48 C a2 t_8 t_8.1 t_8.2.1) (bnd (fX2_costOf C t_8.2.2) fun q29 => cnd (q29 ≤ t_8.2.1) (fX5_dearest_48 C a2 t_8 t_8.1 t_8.2.1) (bnd (fX2_costOf C t_8.2.2) fun q43 => fX5_dearest_48 C a2 t_8 t_8.2.2 q43)))
noncomputable def fX5_dearest (C : Mem) (a2 : Int32) : Option Int32 := lp (fX5_dearest_8 C a2) ((0 : Int32), (0 : Int32), (0 : Int32))
abbrev rm_X5_dearest : Room := { frames := 1, cells := 0, slots := 0, locals := 21 }
set_option maxRecDepth 100000 in
set_option maxHeartbeats 4000000 in
theorem c_X5_dearest (l : Launch) (Γ : gx_G) (C M : Mem) (a2 : Int32) {y0 : Int32} (hf : fX5_dearest C a2 = some y0) : Met l yX5_dearest (.code yX5_dearest cX5_dearest 6 (some .int) :: TsG) rm_X5_dearest (va_Pc [.ref (Γ.1 443), .ref (Γ.1 55), .int a2] (gx_P Γ C M)) (gx_Qi Γ y0 C M) 0 0 (gA Γ) := by
  refine gm_i (by decide) (Nat.le_of_ble_eq_true rfl) ?_
  intro p e s m args below meth c Q S hG hret ls H locs hl hW hS
  obtain ⟨hx, hb, hml, hown, hts⟩ := id S
  have hl : lv_has ls 6 [(0, .ref (Γ.1 443)), (1, .ref (Γ.1 55)), (2, .int a2)] := hl
  unfold fX5_dearest at hf
  refine lv_iconst (v := (0 : Int32)) hx hb dX5_dearest_0 (by decide) ?_
  refine lv_istore_n (lv' := [(3, .int (0 : Int32)), (0, .ref (Γ.1 443)), (1, .ref (Γ.1 55)), (2, .int a2)]) hx hb dX5_dearest_1 rfl hl (by decide) rfl (fun ls hl => ?_)
  refine lv_iconst (v := (0 : Int32)) hx hb dX5_dearest_2 (by decide) ?_
  refine lv_istore (lv' := [(4, .int (0 : Int32)), (3, .int (0 : Int32)), (0, .ref (Γ.1 443)), (1, .ref (Γ.1 55)), (2, .int a2)]) hx hb dX5_dearest_3 hl (by decide) rfl (fun ls hl => ?_)
  refine lv_iconst (v := (0 : Int32)) hx hb dX5_dearest_5 (by decide) ?_
  refine lv_istore (lv' := [(5, .int (0 : Int32)), (4, .int (0 : Int32)), (3, .int (0 : Int32)), (0, .ref (Γ.1 443)), (1, .ref (Γ.1 55)), (2, .int a2)]) hx hb dX5_dearest_6 hl (by decide) rfl (fun ls hl => ?_)
  have J_8 : ∀  (t_8 : Int32 × Int32 × Int32), lp (fX5_dearest_8 C a2) t_8 = some y0 → ∀ (H : Heap) (locs : List Loc) (ls : Array Slot), gx_W Γ C M H → va_S (gA Γ) s.heap H locs → lv_has ls 6 [(1, .ref (Γ.1 55)), (2, .int a2), (3, .int t_8.1), (4, .int t_8.2.1), (5, .int t_8.2.2)] → W p l e rm_X5_dearest s m args below meth c H locs 0 0 Q (F0 m 8 ls []) := by
    refine lp_ind (P := fun (t_8 : Int32 × Int32 × Int32) => ∀ (H : Heap) (locs : List Loc) (ls : Array Slot), gx_W Γ C M H → va_S (gA Γ) s.heap H locs → lv_has ls 6 [(1, .ref (Γ.1 55)), (2, .int a2), (3, .int t_8.1), (4, .int t_8.2.1), (5, .int t_8.2.2)] → W p l e rm_X5_dearest s m args below meth c H locs 0 0 Q (F0 m 8 ls [])) ?_
    intro t_8 y1 hf kI1 kX1 H locs ls hW hS hl
    unfold fX5_dearest_8 at hf
    refine lv_iload hx hb dX5_dearest_8 (lv_at hl 4 rfl) ?_
    refine lv_aload_n hx hb dX5_dearest_10 rfl (lv_at hl 0 rfl) ?_
    refine gk0_i hS (gv_run (rest := [.int t_8.2.2]) S hG hW hS [] (c_X2_size l Γ C M) pk_X2_size ml_X5_48 (Nat.le_of_ble_eq_true rfl) rfl rfl rfl rfl ⟨Nat.le_of_ble_eq_true rfl, Nat.le_of_ble_eq_true rfl⟩ rfl hl.1 rfl (Nat.le_of_ble_eq_true rfl) dX5_dearest_11 ⟨Nat.le_of_ble_eq_true rfl, Nat.le_of_ble_eq_true rfl⟩) (fun H locs hW hS => ?_)
    refine lv_icmp_ge (tgt := 54) hx hb dX5_dearest_14 (by decide) (fun c14 => ?_) (fun c14 => ?_)
    · have hf := cn_t c14 hf
      obtain ⟨z14, hf, ez⟩ := exR_e hf
      rw [kX1 _ ez] at hf
      refine lv_iload_n hx hb dX5_dearest_54 rfl (lv_at hl 2 rfl) ?_
      exact hret _ _ _ _ _ hW hS rfl (Option.some.inj hf) dX5_dearest_55
    · have hf := cn_f c14 hf
      refine lv_iload_n hx hb dX5_dearest_17 rfl (lv_at hl 1 rfl) ?_
      refine lv_iload hx hb dX5_dearest_18 (lv_at hl 4 rfl) ?_
      refine gk0_i hS (gn_run (rest := []) S hG hW hS [.int a2, .int t_8.2.2] (c_X7_holds l Γ C M a2 t_8.2.2) pk_X7_holds nl_X5_52 rfl rfl ⟨Nat.le_of_ble_eq_true rfl, Nat.le_of_ble_eq_true rfl⟩ rfl hl.1 rfl (Nat.le_of_ble_eq_true rfl) dX5_dearest_20 ⟨Nat.le_of_ble_eq_true rfl, Nat.le_of_ble_eq_true rfl⟩) (fun H locs hW hS => ?_)
      have J_48 : ∀ (x3_48 : Int32) (x4_48 : Int32) , fX5_dearest_48 C a2 t_8 x3_48 x4_48 = some y1 → ∀ (H : Heap) (locs : List Loc) (ls : Array Slot), gx_W Γ C M H → va_S (gA Γ) s.heap H locs → lv_has ls 6 [(1, .ref (Γ.1 55)), (2, .int a2), (3, .int x3_48), (4, .int x4_48), (5, .int t_8.2.2)] → W p l e rm_X5_dearest s m args below meth c H locs 0 0 Q (F0 m 48 ls []) := by
        intro x3_48 x4_48 hf H locs ls hW hS hl
        unfold fX5_dearest_48 at hf
        refine lv_iinc (v := (t_8.2.2 + (1 : Int32))) (lv' := [(5, .int (t_8.2.2 + (1 : Int32))), (1, .ref (Γ.1 55)), (2, .int a2), (3, .int x3_48), (4, .int x4_48)]) hx hb dX5_dearest_48 hl (k := 4) rfl rfl (by decide) rfl (fun ls hl => ?_)
        refine lv_goto (tgt := 8) hx hb dX5_dearest_51 (by decide) ?_
        exact kI1 _ (Option.some.inj hf).symm H locs ls hW hS (lv_sub hl [1, 2, 3, 4, 0] rfl)
      refine lv_if_eq (tgt := 48) hx hb dX5_dearest_23 (by decide) (fun c23 => ?_) (fun c23 => ?_)
      · have hf := cn_t c23 hf
        exact J_48 t_8.1 t_8.2.1 hf H locs ls hW hS (lv_sub hl [0, 1, 2, 3, 4] rfl)
      · have hf := cn_f c23 hf
        refine lv_aload_n hx hb dX5_dearest_26 rfl (lv_at hl 0 rfl) ?_
        refine lv_iload hx hb dX5_dearest_27 (lv_at hl 4 rfl) ?_
        obtain ⟨q29, hq29, hf⟩ := bnd_e hf
        refine gk0_i hS (gv_run (rest := []) S hG hW hS [.int t_8.2.2] (c_X2_costOf l Γ C M t_8.2.2 hq29) pk_X2_costOf ml_X5_37 (Nat.le_of_ble_eq_true rfl) rfl rfl rfl rfl ⟨Nat.le_of_ble_eq_true rfl, Nat.le_of_ble_eq_true rfl⟩ rfl hl.1 rfl (Nat.le_of_ble_eq_true rfl) dX5_dearest_29 ⟨Nat.le_of_ble_eq_true rfl, Nat.le_of_ble_eq_true rfl⟩) (fun H locs hW hS => ?_)
        refine lv_iload hx hb dX5_dearest_32 (lv_at hl 3 rfl) ?_
        refine lv_icmp_le (tgt := 48) hx hb dX5_dearest_34 (by decide) (fun c34 => ?_) (fun c34 => ?_)
        · have hf := cn_t c34 hf
          exact J_48 t_8.1 t_8.2.1 hf H locs ls hW hS (lv_sub hl [0, 1, 2, 3, 4] rfl)
        · have hf := cn_f c34 hf
          refine lv_iload hx hb dX5_dearest_37 (lv_at hl 4 rfl) ?_
          refine lv_istore_n (lv' := [(3, .int t_8.2.2), (1, .ref (Γ.1 55)), (2, .int a2), (4, .int t_8.2.1), (5, .int t_8.2.2)]) hx hb dX5_dearest_39 rfl hl (by decide) rfl (fun ls hl => ?_)
          refine lv_aload_n hx hb dX5_dearest_40 rfl (lv_at hl 1 rfl) ?_
          refine lv_iload hx hb dX5_dearest_41 (lv_at hl 4 rfl) ?_
          obtain ⟨q43, hq43, hf⟩ := bnd_e hf
          refine gk0_i hS (gv_run (rest := []) S hG hW hS [.int t_8.2.2] (c_X2_costOf l Γ C M t_8.2.2 hq43) pk_X2_costOf ml_X5_37 (Nat.le_of_ble_eq_true rfl) rfl rfl rfl rfl ⟨Nat.le_of_ble_eq_true rfl, Nat.le_of_ble_eq_true rfl⟩ rfl hl.1 rfl (Nat.le_of_ble_eq_true rfl) dX5_dearest_43 ⟨Nat.le_of_ble_eq_true rfl, Nat.le_of_ble_eq_true rfl⟩) (fun H locs hW hS => ?_)
          refine lv_istore (lv' := [(4, .int q43), (3, .int t_8.2.2), (1, .ref (Γ.1 55)), (2, .int a2), (5, .int t_8.2.2)]) hx hb dX5_dearest_46 hl (by decide) rfl (fun ls hl => ?_)
          exact J_48 t_8.2.2 q43 hf H locs ls hW hS (lv_sub hl [2, 3, 1, 0, 4] rfl)
  exact J_8 ((0 : Int32), (0 : Int32), (0 : Int32)) hf H locs ls hW hS (lv_sub hl [4, 5, 2, 1, 0] rfl)
noncomputable def fX5_lightest_26 (C : Mem) (a1 : Int32) (t_4 : (Int32 × Int32)) (x2_26 : Int32) : Option ((Int32 × Int32) ⊕ Int32) := some (.inl (x2_26, (t_4.2 + (1 : Int32))))
noncomputable def fX5_lightest_4 (C : Mem) (a1 : Int32) : (Int32 × Int32) → Option ((Int32 × Int32) ⊕ Int32) := fun t_4 => cnd (a1 ≤ t_4.2) (exR (some t_4.1)) (chk (vp_in t_4.2 8) (chk (vp_in t_4.1 8) (cnd ((C 444 t_4.1.toNatClampNeg) ≤ (C 444 t_4.2.toNatClampNeg)) (fX5_lightest_26 C a1 t_4 t_4.1) (fX5_lightest_26 C a1 t_4 t_4.2))))
noncomputable def fX5_lightest (C : Mem) (a1 : Int32) : Option Int32 := lp (fX5_lightest_4 C a1) ((0 : Int32), (1 : Int32))
abbrev rm_X5_lightest : Room := { frames := 0, cells := 0, slots := 0, locals := 0 }
set_option maxRecDepth 100000 in
set_option maxHeartbeats 4000000 in
theorem c_X5_lightest (l : Launch) (Γ : gx_G) (C M : Mem) (a1 : Int32) {y0 : Int32} (hf : fX5_lightest C a1 = some y0) : Met l yX5_lightest (.code yX5_lightest cX5_lightest 4 (some .int) :: TsG) rm_X5_lightest (va_Pc [.ref (Γ.1 443), .int a1] (gx_P Γ C M)) (gx_Qi Γ y0 C M) 0 0 (gA Γ) := by
  refine gm_i (by decide) (Nat.le_of_ble_eq_true rfl) ?_
  intro p e s m args below meth c Q S hG hret ls H locs hl hW hS
  obtain ⟨hx, hb, hml, hown, hts⟩ := id S
  have hl : lv_has ls 4 [(0, .ref (Γ.1 443)), (1, .int a1)] := hl
  unfold fX5_lightest at hf
  refine lv_iconst (v := (0 : Int32)) hx hb dX5_lightest_0 (by decide) ?_
  refine lv_istore_n (lv' := [(2, .int (0 : Int32)), (0, .ref (Γ.1 443)), (1, .int a1)]) hx hb dX5_lightest_1 rfl hl (by decide) rfl (fun ls hl => ?_)
  refine lv_iconst (v := (1 : Int32)) hx hb dX5_lightest_2 (by decide) ?_
  refine lv_istore_n (lv' := [(3, .int (1 : Int32)), (2, .int (0 : Int32)), (0, .ref (Γ.1 443)), (1, .int a1)]) hx hb dX5_lightest_3 rfl hl (by decide) rfl (fun ls hl => ?_)
  have J_4 : ∀  (t_4 : Int32 × Int32), lp (fX5_lightest_4 C a1) t_4 = some y0 → ∀ (H : Heap) (locs : List Loc) (ls : Array Slot), gx_W Γ C M H → va_S (gA Γ) s.heap H locs → lv_has ls 4 [(0, .ref (Γ.1 443)), (1, .int a1), (2, .int t_4.1), (3, .int t_4.2)] → W p l e rm_X5_lightest s m args below meth c H locs 0 0 Q (F0 m 4 ls []) := by
    refine lp_ind (P := fun (t_4 : Int32 × Int32) => ∀ (H : Heap) (locs : List Loc) (ls : Array Slot), gx_W Γ C M H → va_S (gA Γ) s.heap H locs → lv_has ls 4 [(0, .ref (Γ.1 443)), (1, .int a1), (2, .int t_4.1), (3, .int t_4.2)] → W p l e rm_X5_lightest s m args below meth c H locs 0 0 Q (F0 m 4 ls [])) ?_
    intro t_4 y1 hf kI1 kX1 H locs ls hW hS hl
    unfold fX5_lightest_4 at hf
    refine lv_iload_n hx hb dX5_lightest_4 rfl (lv_at hl 3 rfl) ?_
    refine lv_iload_n hx hb dX5_lightest_5 rfl (lv_at hl 1 rfl) ?_
    refine lv_icmp_ge (tgt := 32) hx hb dX5_lightest_6 (by decide) (fun c6 => ?_) (fun c6 => ?_)
    · have hf := cn_t c6 hf
      obtain ⟨z6, hf, ez⟩ := exR_e hf
      rw [kX1 _ ez] at hf
      refine lv_iload_n hx hb dX5_lightest_32 rfl (lv_at hl 2 rfl) ?_
      exact hret _ _ _ _ _ hW hS rfl (Option.some.inj hf) dX5_lightest_33
    · have hf := cn_f c6 hf
      refine lv_aload_n hx hb dX5_lightest_9 rfl (lv_at hl 0 rfl) ?_
      refine get_X5_0 S hG hW fl_X5_9 dX5_lightest_10 ?_
      refine lv_iload_n hx hb dX5_lightest_13 rfl (lv_at hl 3 rfl) ?_
      have g14 := ck_p hf
      have hf := ck_r hf
      refine ald_i S hG hW shk_444 lnk_444 g14 dX5_lightest_14 ?_
      refine lv_aload_n hx hb dX5_lightest_15 rfl (lv_at hl 0 rfl) ?_
      refine get_X5_0 S hG hW fl_X5_9 dX5_lightest_16 ?_
      refine lv_iload_n hx hb dX5_lightest_19 rfl (lv_at hl 2 rfl) ?_
      have g20 := ck_p hf
      have hf := ck_r hf
      refine ald_i S hG hW shk_444 lnk_444 g20 dX5_lightest_20 ?_
      have J_26 : ∀ (x2_26 : Int32) , fX5_lightest_26 C a1 t_4 x2_26 = some y1 → ∀ (H : Heap) (locs : List Loc) (ls : Array Slot), gx_W Γ C M H → va_S (gA Γ) s.heap H locs → lv_has ls 4 [(0, .ref (Γ.1 443)), (1, .int a1), (2, .int x2_26), (3, .int t_4.2)] → W p l e rm_X5_lightest s m args below meth c H locs 0 0 Q (F0 m 26 ls []) := by
        intro x2_26 hf H locs ls hW hS hl
        unfold fX5_lightest_26 at hf
        refine lv_iinc (v := (t_4.2 + (1 : Int32))) (lv' := [(3, .int (t_4.2 + (1 : Int32))), (0, .ref (Γ.1 443)), (1, .int a1), (2, .int x2_26)]) hx hb dX5_lightest_26 hl (k := 3) rfl rfl (by decide) rfl (fun ls hl => ?_)
        refine lv_goto (tgt := 4) hx hb dX5_lightest_29 (by decide) ?_
        exact kI1 _ (Option.some.inj hf).symm H locs ls hW hS (lv_sub hl [1, 2, 3, 0] rfl)
      refine lv_icmp_ge (tgt := 26) hx hb dX5_lightest_21 (by decide) (fun c21 => ?_) (fun c21 => ?_)
      · have hf := cn_t c21 hf
        exact J_26 t_4.1 hf H locs ls hW hS (lv_sub hl [0, 1, 2, 3] rfl)
      · have hf := cn_f c21 hf
        refine lv_iload_n hx hb dX5_lightest_24 rfl (lv_at hl 3 rfl) ?_
        refine lv_istore_n (lv' := [(2, .int t_4.2), (0, .ref (Γ.1 443)), (1, .int a1), (3, .int t_4.2)]) hx hb dX5_lightest_25 rfl hl (by decide) rfl (fun ls hl => ?_)
        exact J_26 t_4.2 hf H locs ls hW hS (lv_sub hl [1, 2, 0, 3] rfl)
  exact J_4 ((0 : Int32), (1 : Int32)) hf H locs ls hW hS (lv_sub hl [2, 3, 1, 0] rfl)
noncomputable def fX5_over_25 (a3 : Int32) : (Mem × Int32 × Int32) → Option ((Mem × Int32 × Int32) ⊕ Mem) := fun t_25 => cnd (t_25.2.2 ≤ (0 : Int32)) (exR (some t_25.1)) (bnd (fX5_dearest t_25.1 t_25.2.1) fun q34 => bnd (fX5_lightest t_25.1 a3) fun q41 => chk (vp_in q34 16) (chk (vp_in q41 8) (bnd (fX2_costOf (mset t_25.1 445 q34.toNatClampNeg q41) q34) fun q66 => chk (vp_in q41 8) (nmv ((t_25.2.1 &&& (((1 : Int32) <<< (q34 &&& 31)) ^^^ (-1 : Int32)))) fun v80 => some (.inl ((mset (mset t_25.1 445 q34.toNatClampNeg q41) 444 q41.toNatClampNeg (((mset t_25.1 445 q34.toNatClampNeg q41) 444 q41.toNatClampNeg) + q66)), v80, (t_25.2.2 + (-1 : Int32))))))))
noncomputable def fX5_over (C : Mem) (a2 : Int32) (a3 : Int32) : Option Mem := bnd (fJ7_fill_53178 C 444 (0 : Int32)) fun q5 => bnd (fJ7_fill_53178 q5 445 (-1 : Int32)) fun q13 => nmv ((fJ6_bitCount_0f7a4 a2)) fun v23 => lp (fX5_over_25 a3) (q13, a2, v23)
abbrev rm_X5_over : Room := { frames := 2, cells := 0, slots := 0, locals := 46 }
set_option maxRecDepth 100000 in
set_option maxHeartbeats 4000000 in
theorem c_X5_over (l : Launch) (Γ : gx_G) (C M : Mem) (a2 : Int32) (a3 : Int32) {y0 : Mem} (hf : fX5_over C a2 a3 = some y0) : Met l yX5_over (.code yX5_over cX5_over 8 none :: TsG) rm_X5_over (va_Pc [.ref (Γ.1 443), .ref (Γ.1 55), .int a2, .int a3] (gx_P Γ C M)) (gx_Qv Γ y0 M) 0 0 (gA Γ) := by
  refine gm_v (by decide) (Nat.le_of_ble_eq_true rfl) ?_
  intro p e s m args below meth c Q S hG hret ls H locs hl hW hS
  obtain ⟨hx, hb, hml, hown, hts⟩ := id S
  have hl : lv_has ls 8 [(0, .ref (Γ.1 443)), (1, .ref (Γ.1 55)), (2, .int a2), (3, .int a3)] := hl
  unfold fX5_over at hf
  refine lv_aload_n hx hb dX5_over_0 rfl (lv_at hl 0 rfl) ?_
  refine get_X5_0 S hG hW fl_X5_9 dX5_over_1 ?_
  refine lv_iconst (v := (0 : Int32)) hx hb dX5_over_4 (by decide) ?_
  obtain ⟨q5, hq5, hf⟩ := bnd_e hf
  refine gk0_v hS (gs_run (rest := []) S hG hW hS [.ref (Γ.1 444), .int (0 : Int32)] (c_J7_fill_53178 l Γ C M shk_444 (0 : Int32) hq5) pk_J7_fill_53178 ml_X5_18 rfl rfl ⟨Nat.le_of_ble_eq_true rfl, Nat.le_of_ble_eq_true rfl⟩ rfl hl.1 rfl (Nat.le_of_ble_eq_true rfl) dX5_over_5 ⟨Nat.le_of_ble_eq_true rfl, Nat.le_of_ble_eq_true rfl⟩) (fun H locs hW hS => ?_)
  refine lv_aload_n hx hb dX5_over_8 rfl (lv_at hl 0 rfl) ?_
  refine get_X5_1 S hG hW fl_X5_15 dX5_over_9 ?_
  refine lv_iconst (v := (-1 : Int32)) hx hb dX5_over_12 (by decide) ?_
  obtain ⟨q13, hq13, hf⟩ := bnd_e hf
  refine gk0_v hS (gs_run (rest := []) S hG hW hS [.ref (Γ.1 445), .int (-1 : Int32)] (c_J7_fill_53178 l Γ q5 M shk_445 (-1 : Int32) hq13) pk_J7_fill_53178 ml_X5_18 rfl rfl ⟨Nat.le_of_ble_eq_true rfl, Nat.le_of_ble_eq_true rfl⟩ rfl hl.1 rfl (Nat.le_of_ble_eq_true rfl) dX5_over_13 ⟨Nat.le_of_ble_eq_true rfl, Nat.le_of_ble_eq_true rfl⟩) (fun H locs hW hS => ?_)
  refine lv_iload_n hx hb dX5_over_16 rfl (lv_at hl 2 rfl) ?_
  refine lv_istore (lv' := [(4, .int a2), (0, .ref (Γ.1 443)), (1, .ref (Γ.1 55)), (2, .int a2), (3, .int a3)]) hx hb dX5_over_17 hl (by decide) rfl (fun ls hl => ?_)
  refine lv_iload_n hx hb dX5_over_19 rfl (lv_at hl 3 rfl) ?_
  refine gk0_i hS (gs_run (rest := []) S hG hW hS [.int a2] (c_J6_bitCount_0f7a4 l Γ q13 M a2) pk_J6_bitCount_0f7a4 ml_X5_24 rfl rfl ⟨Nat.le_of_ble_eq_true rfl, Nat.le_of_ble_eq_true rfl⟩ rfl hl.1 rfl (Nat.le_of_ble_eq_true rfl) dX5_over_20 ⟨Nat.le_of_ble_eq_true rfl, Nat.le_of_ble_eq_true rfl⟩) (fun H locs hW hS => ?_)
  refine lv_topi (fun v23 ev23 => ?_)
  have hf := nm_v ev23 hf
  refine lv_istore (lv' := [(5, .int v23), (4, .int a2), (0, .ref (Γ.1 443)), (1, .ref (Γ.1 55)), (2, .int a2), (3, .int a3)]) hx hb dX5_over_23 hl (by decide) rfl (fun ls hl => ?_)
  have J_25 : ∀  (t_25 : Mem × Int32 × Int32), lp (fX5_over_25 a3) t_25 = some y0 → ∀ (H : Heap) (locs : List Loc) (ls : Array Slot), gx_W Γ t_25.1 M H → va_S (gA Γ) s.heap H locs → lv_has ls 8 [(0, .ref (Γ.1 443)), (1, .ref (Γ.1 55)), (3, .int a3), (4, .int t_25.2.1), (5, .int t_25.2.2)] → W p l e rm_X5_over s m args below meth c H locs 0 0 Q (F0 m 25 ls []) := by
    refine lp_ind (P := fun (t_25 : Mem × Int32 × Int32) => ∀ (H : Heap) (locs : List Loc) (ls : Array Slot), gx_W Γ t_25.1 M H → va_S (gA Γ) s.heap H locs → lv_has ls 8 [(0, .ref (Γ.1 443)), (1, .ref (Γ.1 55)), (3, .int a3), (4, .int t_25.2.1), (5, .int t_25.2.2)] → W p l e rm_X5_over s m args below meth c H locs 0 0 Q (F0 m 25 ls [])) ?_
    intro t_25 y1 hf kI1 kX1 H locs ls hW hS hl
    unfold fX5_over_25 at hf
    refine lv_iload hx hb dX5_over_25 (lv_at hl 4 rfl) ?_
    refine lv_if_le (tgt := 88) hx hb dX5_over_27 (by decide) (fun c27 => ?_) (fun c27 => ?_)
    · have hf := cn_t c27 hf
      obtain ⟨z27, hf, ez⟩ := exR_e hf
      rw [kX1 _ ez] at hf
      have e9 := Option.some.inj hf
      subst e9
      exact hret _ _ _ _ hW hS dX5_over_88
    · have hf := cn_f c27 hf
      refine lv_aload_n hx hb dX5_over_30 rfl (lv_at hl 0 rfl) ?_
      refine lv_aload_n hx hb dX5_over_31 rfl (lv_at hl 1 rfl) ?_
      refine lv_iload hx hb dX5_over_32 (lv_at hl 3 rfl) ?_
      obtain ⟨q34, hq34, hf⟩ := bnd_e hf
      refine gk0_i hS (gv_run (rest := []) S hG hW hS [.ref (Γ.1 55), .int t_25.2.1] (c_X5_dearest l Γ t_25.1 M t_25.2.1 hq34) pk_X5_dearest ml_X5_30 (Nat.le_of_ble_eq_true rfl) rfl rfl rfl rfl ⟨Nat.le_of_ble_eq_true rfl, Nat.le_of_ble_eq_true rfl⟩ rfl hl.1 rfl (Nat.le_of_ble_eq_true rfl) dX5_over_34 ⟨Nat.le_of_ble_eq_true rfl, Nat.le_of_ble_eq_true rfl⟩) (fun H locs hW hS => ?_)
      refine lv_istore (lv' := [(6, .int q34), (0, .ref (Γ.1 443)), (1, .ref (Γ.1 55)), (3, .int a3), (4, .int t_25.2.1), (5, .int t_25.2.2)]) hx hb dX5_over_37 hl (by decide) rfl (fun ls hl => ?_)
      refine lv_aload_n hx hb dX5_over_39 rfl (lv_at hl 1 rfl) ?_
      refine lv_iload_n hx hb dX5_over_40 rfl (lv_at hl 3 rfl) ?_
      obtain ⟨q41, hq41, hf⟩ := bnd_e hf
      refine gk0_i hS (gv_run (rest := []) S hG hW hS [.int a3] (c_X5_lightest l Γ t_25.1 M a3 hq41) pk_X5_lightest ml_X5_34 (Nat.le_of_ble_eq_true rfl) rfl rfl rfl rfl ⟨Nat.le_of_ble_eq_true rfl, Nat.le_of_ble_eq_true rfl⟩ rfl hl.1 rfl (Nat.le_of_ble_eq_true rfl) dX5_over_41 ⟨Nat.le_of_ble_eq_true rfl, Nat.le_of_ble_eq_true rfl⟩) (fun H locs hW hS => ?_)
      refine lv_istore (lv' := [(7, .int q41), (6, .int q34), (0, .ref (Γ.1 443)), (1, .ref (Γ.1 55)), (3, .int a3), (4, .int t_25.2.1), (5, .int t_25.2.2)]) hx hb dX5_over_44 hl (by decide) rfl (fun ls hl => ?_)
      refine lv_aload_n hx hb dX5_over_46 rfl (lv_at hl 2 rfl) ?_
      refine get_X5_1 S hG hW fl_X5_15 dX5_over_47 ?_
      refine lv_iload hx hb dX5_over_50 (lv_at hl 1 rfl) ?_
      refine lv_iload hx hb dX5_over_52 (lv_at hl 0 rfl) ?_
      have g54 := ck_p hf
      have hf := ck_r hf
      refine ast_i S hG hW hS shk_445 lnk_445 g54 dX5_over_54 (fun H locs hW hS => ?_)
      refine lv_aload_n hx hb dX5_over_55 rfl (lv_at hl 2 rfl) ?_
      refine get_X5_0 S hG hW fl_X5_9 dX5_over_56 ?_
      refine lv_iload hx hb dX5_over_59 (lv_at hl 0 rfl) ?_
      refine lv_dup2_11 hx hb dX5_over_61 rfl rfl ?_
      have g62 := ck_p hf
      have hf := ck_r hf
      refine ald_i S hG hW shk_444 lnk_444 g62 dX5_over_62 ?_
      refine lv_aload_n hx hb dX5_over_63 rfl (lv_at hl 3 rfl) ?_
      refine lv_iload hx hb dX5_over_64 (lv_at hl 1 rfl) ?_
      obtain ⟨q66, hq66, hf⟩ := bnd_e hf
      refine gk0_i hS (gv_run (rest := [.int ((mset t_25.1 445 q34.toNatClampNeg q41) 444 q41.toNatClampNeg), .int q41, .ref (Γ.1 444)]) S hG hW hS [.int q34] (c_X2_costOf l Γ (mset t_25.1 445 q34.toNatClampNeg q41) M q34 hq66) pk_X2_costOf ml_X5_37 (Nat.le_of_ble_eq_true rfl) rfl rfl rfl rfl ⟨Nat.le_of_ble_eq_true rfl, Nat.le_of_ble_eq_true rfl⟩ rfl hl.1 rfl (Nat.le_of_ble_eq_true rfl) dX5_over_66 ⟨Nat.le_of_ble_eq_true rfl, Nat.le_of_ble_eq_true rfl⟩) (fun H locs hW hS => ?_)
      refine lv_iadd hx hb dX5_over_69 ?_
      have g70 := ck_p hf
      have hf := ck_r hf
      refine ast_i S hG hW hS shk_444 lnk_444 g70 dX5_over_70 (fun H locs hW hS => ?_)
      refine lv_iload hx hb dX5_over_71 (lv_at hl 5 rfl) ?_
      refine lv_iconst (v := (1 : Int32)) hx hb dX5_over_73 (by decide) ?_
      refine lv_iload hx hb dX5_over_74 (lv_at hl 1 rfl) ?_
      refine lv_ishl hx hb dX5_over_76 ?_
      refine lv_iconst (v := (-1 : Int32)) hx hb dX5_over_77 (by decide) ?_
      refine lv_ixor hx hb dX5_over_78 ?_
      refine lv_iand hx hb dX5_over_79 ?_
      refine lv_topi (fun v80 ev80 => ?_)
      have hf := nm_v ev80 hf
      refine lv_istore (lv' := [(4, .int v80), (7, .int q41), (6, .int q34), (0, .ref (Γ.1 443)), (1, .ref (Γ.1 55)), (3, .int a3), (5, .int t_25.2.2)]) hx hb dX5_over_80 hl (by decide) rfl (fun ls hl => ?_)
      refine lv_iinc (v := (t_25.2.2 + (-1 : Int32))) (lv' := [(5, .int (t_25.2.2 + (-1 : Int32))), (4, .int v80), (7, .int q41), (6, .int q34), (0, .ref (Γ.1 443)), (1, .ref (Γ.1 55)), (3, .int a3)]) hx hb dX5_over_82 hl (k := 6) rfl rfl (by decide) rfl (fun ls hl => ?_)
      refine lv_goto (tgt := 25) hx hb dX5_over_85 (by decide) ?_
      exact kI1 _ (Option.some.inj hf).symm H locs ls hW hS (lv_sub hl [4, 5, 6, 1, 0] rfl)
  exact J_25 (q13, a2, v23) hf H locs ls hW hS (lv_sub hl [2, 3, 5, 1, 0] rfl)
noncomputable def fX5_placeOf (C : Mem) (a1 : Int32) : Option Int32 := chk (vp_in a1 16) (some (C 445 a1.toNatClampNeg))
abbrev rm_X5_placeOf : Room := { frames := 0, cells := 0, slots := 0, locals := 0 }
set_option maxRecDepth 100000 in
set_option maxHeartbeats 4000000 in
theorem c_X5_placeOf (l : Launch) (Γ : gx_G) (C M : Mem) (a1 : Int32) {y0 : Int32} (hf : fX5_placeOf C a1 = some y0) : Met l yX5_placeOf (.code yX5_placeOf cX5_placeOf 2 (some .int) :: TsG) rm_X5_placeOf (va_Pc [.ref (Γ.1 443), .int a1] (gx_P Γ C M)) (gx_Qi Γ y0 C M) 0 0 (gA Γ) := by
  refine gm_i (by decide) (Nat.le_of_ble_eq_true rfl) ?_
  intro p e s m args below meth c Q S hG hret ls H locs hl hW hS
  obtain ⟨hx, hb, hml, hown, hts⟩ := id S
  have hl : lv_has ls 2 [(0, .ref (Γ.1 443)), (1, .int a1)] := hl
  unfold fX5_placeOf at hf
  refine lv_aload_n hx hb dX5_placeOf_0 rfl (lv_at hl 0 rfl) ?_
  refine get_X5_1 S hG hW fl_X5_15 dX5_placeOf_1 ?_
  refine lv_iload_n hx hb dX5_placeOf_4 rfl (lv_at hl 1 rfl) ?_
  have g5 := ck_p hf
  have hf := ck_r hf
  refine ald_i S hG hW shk_445 lnk_445 g5 dX5_placeOf_5 ?_
  exact hret _ _ _ _ _ hW hS rfl (Option.some.inj hf) dX5_placeOf_6
noncomputable def fX5_greatestLoad_4 (C : Mem) : (Int32 × Int32) → Option ((Int32 × Int32) ⊕ Int32) := fun t_4 => cnd ((8 : Int32) ≤ t_4.2) (exR (some t_4.1)) (chk (vp_in t_4.2 8) (nmv ((if t_4.1 < (C 444 t_4.2.toNatClampNeg) then (C 444 t_4.2.toNatClampNeg) else t_4.1)) fun v20 => some (.inl (v20, (t_4.2 + (1 : Int32))))))
noncomputable def fX5_greatestLoad (C : Mem) : Option Int32 := lp (fX5_greatestLoad_4 C) ((0 : Int32), (0 : Int32))
abbrev rm_X5_greatestLoad : Room := { frames := 1, cells := 0, slots := 0, locals := 21 }
set_option maxRecDepth 100000 in
set_option maxHeartbeats 4000000 in
theorem c_X5_greatestLoad (l : Launch) (Γ : gx_G) (C M : Mem)  {y0 : Int32} (hf : fX5_greatestLoad C = some y0) : Met l yX5_greatestLoad (.code yX5_greatestLoad cX5_greatestLoad 3 (some .int) :: TsG) rm_X5_greatestLoad (va_Pc [.ref (Γ.1 443)] (gx_P Γ C M)) (gx_Qi Γ y0 C M) 0 0 (gA Γ) := by
  refine gm_i (by decide) (Nat.le_of_ble_eq_true rfl) ?_
  intro p e s m args below meth c Q S hG hret ls H locs hl hW hS
  obtain ⟨hx, hb, hml, hown, hts⟩ := id S
  have hl : lv_has ls 3 [(0, .ref (Γ.1 443))] := hl
  unfold fX5_greatestLoad at hf
  refine lv_iconst (v := (0 : Int32)) hx hb dX5_greatestLoad_0 (by decide) ?_
  refine lv_istore_n (lv' := [(1, .int (0 : Int32)), (0, .ref (Γ.1 443))]) hx hb dX5_greatestLoad_1 rfl hl (by decide) rfl (fun ls hl => ?_)
  refine lv_iconst (v := (0 : Int32)) hx hb dX5_greatestLoad_2 (by decide) ?_
  refine lv_istore_n (lv' := [(2, .int (0 : Int32)), (1, .int (0 : Int32)), (0, .ref (Γ.1 443))]) hx hb dX5_greatestLoad_3 rfl hl (by decide) rfl (fun ls hl => ?_)
  have J_4 : ∀  (t_4 : Int32 × Int32), lp (fX5_greatestLoad_4 C) t_4 = some y0 → ∀ (H : Heap) (locs : List Loc) (ls : Array Slot), gx_W Γ C M H → va_S (gA Γ) s.heap H locs → lv_has ls 3 [(0, .ref (Γ.1 443)), (1, .int t_4.1), (2, .int t_4.2)] → W p l e rm_X5_greatestLoad s m args below meth c H locs 0 0 Q (F0 m 4 ls []) := by
    refine lp_ind (P := fun (t_4 : Int32 × Int32) => ∀ (H : Heap) (locs : List Loc) (ls : Array Slot), gx_W Γ C M H → va_S (gA Γ) s.heap H locs → lv_has ls 3 [(0, .ref (Γ.1 443)), (1, .int t_4.1), (2, .int t_4.2)] → W p l e rm_X5_greatestLoad s m args below meth c H locs 0 0 Q (F0 m 4 ls [])) ?_
    intro t_4 y1 hf kI1 kX1 H locs ls hW hS hl
    unfold fX5_greatestLoad_4 at hf
    refine lv_iload_n hx hb dX5_greatestLoad_4 rfl (lv_at hl 2 rfl) ?_
    refine lv_bipush (v := (8 : Int32)) hx hb dX5_greatestLoad_5 (by decide) ?_
    refine lv_icmp_ge (tgt := 27) hx hb dX5_greatestLoad_7 (by decide) (fun c7 => ?_) (fun c7 => ?_)
    · have hf := cn_t c7 hf
      obtain ⟨z7, hf, ez⟩ := exR_e hf
      rw [kX1 _ ez] at hf
      refine lv_iload_n hx hb dX5_greatestLoad_27 rfl (lv_at hl 1 rfl) ?_
      exact hret _ _ _ _ _ hW hS rfl (Option.some.inj hf) dX5_greatestLoad_28
    · have hf := cn_f c7 hf
      refine lv_iload_n hx hb dX5_greatestLoad_10 rfl (lv_at hl 1 rfl) ?_
      refine lv_aload_n hx hb dX5_greatestLoad_11 rfl (lv_at hl 0 rfl) ?_
      refine get_X5_0 S hG hW fl_X5_9 dX5_greatestLoad_12 ?_
      refine lv_iload_n hx hb dX5_greatestLoad_15 rfl (lv_at hl 2 rfl) ?_
      have g16 := ck_p hf
      have hf := ck_r hf
      refine ald_i S hG hW shk_444 lnk_444 g16 dX5_greatestLoad_16 ?_
      refine va_mmax hx hb (hml.trans hl.1.symm) hown (hts _ mx_X5_42) (hts _ mx_stat) (hts _ mx_ini) (hts _ mx_code) (Nat.le_of_ble_eq_true rfl) (Nat.le_of_ble_eq_true rfl) (Nat.zero_le _) (Nat.zero_le _) dX5_greatestLoad_17 ?_
      refine lv_topi (fun v20 ev20 => ?_)
      have hf := nm_v ev20 hf
      refine lv_istore_n (lv' := [(1, .int v20), (0, .ref (Γ.1 443)), (2, .int t_4.2)]) hx hb dX5_greatestLoad_20 rfl hl (by decide) rfl (fun ls hl => ?_)
      refine lv_iinc (v := (t_4.2 + (1 : Int32))) (lv' := [(2, .int (t_4.2 + (1 : Int32))), (1, .int v20), (0, .ref (Γ.1 443))]) hx hb dX5_greatestLoad_21 hl (k := 2) rfl rfl (by decide) rfl (fun ls hl => ?_)
      refine lv_goto (tgt := 4) hx hb dX5_greatestLoad_24 (by decide) ?_
      exact kI1 _ (Option.some.inj hf).symm H locs ls hW hS (lv_sub hl [2, 1, 0] rfl)
  exact J_4 ((0 : Int32), (0 : Int32)) hf H locs ls hW hS (lv_sub hl [2, 1, 0] rfl)
noncomputable def fX4_meetFile (C : Mem) (a1 : Int32) (p2 : Nat) : Option Mem := bnd (fX1_meetFile C 447 a1 p2) fun q6 => some q6
abbrev rm_X4_meetFile : Room := { frames := 4, cells := 0, slots := 0, locals := 93 }
set_option maxRecDepth 100000 in
set_option maxHeartbeats 4000000 in
theorem c_X4_meetFile (l : Launch) (Γ : gx_G) (C M : Mem) (a1 : Int32) {p2 : Nat} (hp2 : shp p2 = 1) {y0 : Mem} (hf : fX4_meetFile C a1 p2 = some y0) : Met l yX4_meetFile (.code yX4_meetFile cX4_meetFile 3 none :: TsG) rm_X4_meetFile (va_Pc [.ref (Γ.1 446), .int a1, .ref (Γ.1 p2)] (gx_P Γ C M)) (gx_Qv Γ y0 M) 0 0 (gA Γ) := by
  refine gm_v (by decide) (Nat.le_of_ble_eq_true rfl) ?_
  intro p e s m args below meth c Q S hG hret ls H locs hl hW hS
  obtain ⟨hx, hb, hml, hown, hts⟩ := id S
  have hl : lv_has ls 3 [(0, .ref (Γ.1 446)), (1, .int a1), (2, .ref (Γ.1 p2))] := hl
  unfold fX4_meetFile at hf
  refine lv_aload_n hx hb dX4_meetFile_0 rfl (lv_at hl 0 rfl) ?_
  refine get_X4_0 S hG hW fl_X4_14 dX4_meetFile_1 ?_
  refine lv_iload_n hx hb dX4_meetFile_4 rfl (lv_at hl 1 rfl) ?_
  refine lv_aload_n hx hb dX4_meetFile_5 rfl (lv_at hl 2 rfl) ?_
  obtain ⟨q6, hq6, hf⟩ := bnd_e hf
  refine gk0_v hS (gv_run (rest := []) S hG hW hS [.int a1, .ref (Γ.1 p2)] (c_X1_meetFile l Γ C M shk_447 a1 hp2 hq6) pk_X1_meetFile ml_X4_36 (sh_lt9 shk_447) (cc_9 shk_447 _ _) rfl rfl rfl ⟨Nat.le_of_ble_eq_true rfl, Nat.le_of_ble_eq_true rfl⟩ rfl hl.1 rfl (Nat.le_of_ble_eq_true rfl) dX4_meetFile_6 ⟨Nat.le_of_ble_eq_true rfl, Nat.le_of_ble_eq_true rfl⟩) (fun H locs hW hS => ?_)
  have e9 := Option.some.inj hf
  subst e9
  exact hret _ _ _ _ hW hS dX4_meetFile_9
noncomputable def fX4_isFull (C : Mem) : Option Int32 := chk (narrow .boolean (.int (fX1_isFull C 447)) = .int (fX1_isFull C 447)) (some (fX1_isFull C 447))
abbrev rm_X4_isFull : Room := { frames := 1, cells := 0, slots := 0, locals := 20 }
set_option maxRecDepth 100000 in
set_option maxHeartbeats 4000000 in
theorem c_X4_isFull (l : Launch) (Γ : gx_G) (C M : Mem)  {y0 : Int32} (hf : fX4_isFull C = some y0) : Met l yX4_isFull (.code yX4_isFull cX4_isFull 1 (some .boolean) :: TsG) rm_X4_isFull (va_Pc [.ref (Γ.1 446)] (gx_P Γ C M)) (gx_Qi Γ y0 C M) 0 0 (gA Γ) := by
  refine gm_i (by decide) (Nat.le_of_ble_eq_true rfl) ?_
  intro p e s m args below meth c Q S hG hret ls H locs hl hW hS
  obtain ⟨hx, hb, hml, hown, hts⟩ := id S
  have hl : lv_has ls 1 [(0, .ref (Γ.1 446))] := hl
  unfold fX4_isFull at hf
  refine lv_aload_n hx hb dX4_isFull_0 rfl (lv_at hl 0 rfl) ?_
  refine get_X4_0 S hG hW fl_X4_14 dX4_isFull_1 ?_
  refine gk0_i hS (gv_run (rest := []) S hG hW hS [] (c_X1_isFull l Γ C M shk_447) pk_X1_isFull ml_X4_28 (sh_lt9 shk_447) (cc_9 shk_447 _ _) rfl rfl rfl ⟨Nat.le_of_ble_eq_true rfl, Nat.le_of_ble_eq_true rfl⟩ rfl hl.1 rfl (Nat.le_of_ble_eq_true rfl) dX4_isFull_4 ⟨Nat.le_of_ble_eq_true rfl, Nat.le_of_ble_eq_true rfl⟩) (fun H locs hW hS => ?_)
  have n9 := ck_p hf
  have hf := ck_r hf
  exact hret _ _ _ _ _ hW hS n9 (Option.some.inj hf) dX4_isFull_7
noncomputable def fX4_add (C : Mem) (p1 : Nat) (a2 : Int32) (a3 : Int32) : Option Mem := chk (vp_in (fX1_size C 447) 12) (bnd (fX1_add (mset C 474 (fX1_size C 447).toNatClampNeg a3) 447 p1 a2) fun q19 => some q19)
abbrev rm_X4_add : Room := { frames := 2, cells := 0, slots := 0, locals := 44 }
set_option maxRecDepth 100000 in
set_option maxHeartbeats 4000000 in
theorem c_X4_add (l : Launch) (Γ : gx_G) (C M : Mem) {p1 : Nat} (hp1 : shp p1 = 1) (a2 : Int32) (a3 : Int32) {y0 : Mem} (hf : fX4_add C p1 a2 a3 = some y0) : Met l yX4_add (.code yX4_add cX4_add 4 none :: TsG) rm_X4_add (va_Pc [.ref (Γ.1 446), .ref (Γ.1 p1), .int a2, .int a3] (gx_P Γ C M)) (gx_Qv Γ y0 M) 0 0 (gA Γ) := by
  refine gm_v (by decide) (Nat.le_of_ble_eq_true rfl) ?_
  intro p e s m args below meth c Q S hG hret ls H locs hl hW hS
  obtain ⟨hx, hb, hml, hown, hts⟩ := id S
  have hl : lv_has ls 4 [(0, .ref (Γ.1 446)), (1, .ref (Γ.1 p1)), (2, .int a2), (3, .int a3)] := hl
  unfold fX4_add at hf
  refine lv_aload_n hx hb dX4_add_0 rfl (lv_at hl 0 rfl) ?_
  refine get_X4_1 S hG hW fl_X4_20 dX4_add_1 ?_
  refine lv_aload_n hx hb dX4_add_4 rfl (lv_at hl 0 rfl) ?_
  refine get_X4_0 S hG hW fl_X4_14 dX4_add_5 ?_
  refine gk0_i hS (gv_run (rest := [.ref (Γ.1 474)]) S hG hW hS [] (c_X1_size l Γ C M shk_447) pk_X1_size ml_X4_24 (sh_lt9 shk_447) (cc_9 shk_447 _ _) rfl rfl rfl ⟨Nat.le_of_ble_eq_true rfl, Nat.le_of_ble_eq_true rfl⟩ rfl hl.1 rfl (Nat.le_of_ble_eq_true rfl) dX4_add_8 ⟨Nat.le_of_ble_eq_true rfl, Nat.le_of_ble_eq_true rfl⟩) (fun H locs hW hS => ?_)
  refine lv_iload_n hx hb dX4_add_11 rfl (lv_at hl 3 rfl) ?_
  have g12 := ck_p hf
  have hf := ck_r hf
  refine ast_i S hG hW hS shk_474 lnk_474 g12 dX4_add_12 (fun H locs hW hS => ?_)
  refine lv_aload_n hx hb dX4_add_13 rfl (lv_at hl 0 rfl) ?_
  refine get_X4_0 S hG hW fl_X4_14 dX4_add_14 ?_
  refine lv_aload_n hx hb dX4_add_17 rfl (lv_at hl 1 rfl) ?_
  refine lv_iload_n hx hb dX4_add_18 rfl (lv_at hl 2 rfl) ?_
  obtain ⟨q19, hq19, hf⟩ := bnd_e hf
  refine gk0_v hS (gv_run (rest := []) S hG hW hS [.ref (Γ.1 p1), .int a2] (c_X1_add l Γ (mset C 474 (fX1_size C 447).toNatClampNeg a3) M shk_447 hp1 a2 hq19) pk_X1_add ml_X4_32 (sh_lt9 shk_447) (cc_9 shk_447 _ _) rfl rfl rfl ⟨Nat.le_of_ble_eq_true rfl, Nat.le_of_ble_eq_true rfl⟩ rfl hl.1 rfl (Nat.le_of_ble_eq_true rfl) dX4_add_19 ⟨Nat.le_of_ble_eq_true rfl, Nat.le_of_ble_eq_true rfl⟩) (fun H locs hW hS => ?_)
  have e9 := Option.some.inj hf
  subst e9
  exact hret _ _ _ _ hW hS dX4_add_22
noncomputable def fX4_size (C : Mem) : Int32 := (fX1_size C 447)
abbrev rm_X4_size : Room := { frames := 1, cells := 0, slots := 0, locals := 20 }
set_option maxRecDepth 100000 in
set_option maxHeartbeats 4000000 in
theorem c_X4_size (l : Launch) (Γ : gx_G) (C M : Mem)  : Met l yX4_size (.code yX4_size cX4_size 1 (some .int) :: TsG) rm_X4_size (va_Pc [.ref (Γ.1 446)] (gx_P Γ C M)) (gx_Qi Γ (fX4_size C) C M) 0 0 (gA Γ) := by
  refine gm_i (by decide) (Nat.le_of_ble_eq_true rfl) ?_
  intro p e s m args below meth c Q S hG hret ls H locs hl hW hS
  obtain ⟨hx, hb, hml, hown, hts⟩ := id S
  have hl : lv_has ls 1 [(0, .ref (Γ.1 446))] := hl
  generalize hy0 : fX4_size C = y0 at hret
  have hf := hy0
  unfold fX4_size at hf
  refine lv_aload_n hx hb dX4_size_0 rfl (lv_at hl 0 rfl) ?_
  refine get_X4_0 S hG hW fl_X4_14 dX4_size_1 ?_
  refine gk0_i hS (gv_run (rest := []) S hG hW hS [] (c_X1_size l Γ C M shk_447) pk_X1_size ml_X4_24 (sh_lt9 shk_447) (cc_9 shk_447 _ _) rfl rfl rfl ⟨Nat.le_of_ble_eq_true rfl, Nat.le_of_ble_eq_true rfl⟩ rfl hl.1 rfl (Nat.le_of_ble_eq_true rfl) dX4_size_4 ⟨Nat.le_of_ble_eq_true rfl, Nat.le_of_ble_eq_true rfl⟩) (fun H locs hW hS => ?_)
  exact hret _ _ _ _ _ hW hS rfl hf dX4_size_7
noncomputable def fX4_latestOwner (C : Mem) (a1 : Int32) : Option Int32 := bnd (fX1_latestCovering C 447 a1) fun q5 => cnd (q5 = (-1 : Int32)) (some (-1 : Int32)) (chk (vp_in q5 12) (some (C 474 q5.toNatClampNeg)))
abbrev rm_X4_latestOwner : Room := { frames := 2, cells := 0, slots := 0, locals := 43 }
set_option maxRecDepth 100000 in
set_option maxHeartbeats 4000000 in
theorem c_X4_latestOwner (l : Launch) (Γ : gx_G) (C M : Mem) (a1 : Int32) {y0 : Int32} (hf : fX4_latestOwner C a1 = some y0) : Met l yX4_latestOwner (.code yX4_latestOwner cX4_latestOwner 3 (some .int) :: TsG) rm_X4_latestOwner (va_Pc [.ref (Γ.1 446), .int a1] (gx_P Γ C M)) (gx_Qi Γ y0 C M) 0 0 (gA Γ) := by
  refine gm_i (by decide) (Nat.le_of_ble_eq_true rfl) ?_
  intro p e s m args below meth c Q S hG hret ls H locs hl hW hS
  obtain ⟨hx, hb, hml, hown, hts⟩ := id S
  have hl : lv_has ls 3 [(0, .ref (Γ.1 446)), (1, .int a1)] := hl
  unfold fX4_latestOwner at hf
  refine lv_aload_n hx hb dX4_latestOwner_0 rfl (lv_at hl 0 rfl) ?_
  refine get_X4_0 S hG hW fl_X4_14 dX4_latestOwner_1 ?_
  refine lv_iload_n hx hb dX4_latestOwner_4 rfl (lv_at hl 1 rfl) ?_
  obtain ⟨q5, hq5, hf⟩ := bnd_e hf
  refine gk0_i hS (gv_run (rest := []) S hG hW hS [.int a1] (c_X1_latestCovering l Γ C M shk_447 a1 hq5) pk_X1_latestCovering ml_X4_40 (sh_lt9 shk_447) (cc_9 shk_447 _ _) rfl rfl rfl ⟨Nat.le_of_ble_eq_true rfl, Nat.le_of_ble_eq_true rfl⟩ rfl hl.1 rfl (Nat.le_of_ble_eq_true rfl) dX4_latestOwner_5 ⟨Nat.le_of_ble_eq_true rfl, Nat.le_of_ble_eq_true rfl⟩) (fun H locs hW hS => ?_)
  refine lv_istore_n (lv' := [(2, .int q5), (0, .ref (Γ.1 446)), (1, .int a1)]) hx hb dX4_latestOwner_8 rfl hl (by decide) rfl (fun ls hl => ?_)
  refine lv_iload_n hx hb dX4_latestOwner_9 rfl (lv_at hl 0 rfl) ?_
  refine lv_iconst (v := (-1 : Int32)) hx hb dX4_latestOwner_10 (by decide) ?_
  refine lv_icmp_ne (tgt := 18) hx hb dX4_latestOwner_11 (by decide) (fun c11 => ?_) (fun c11 => ?_)
  · have hf := cn_f c11 hf
    refine lv_aload_n hx hb dX4_latestOwner_18 rfl (lv_at hl 1 rfl) ?_
    refine get_X4_1 S hG hW fl_X4_20 dX4_latestOwner_19 ?_
    refine lv_iload_n hx hb dX4_latestOwner_22 rfl (lv_at hl 0 rfl) ?_
    have g23 := ck_p hf
    have hf := ck_r hf
    refine ald_i S hG hW shk_474 lnk_474 g23 dX4_latestOwner_23 ?_
    exact hret _ _ _ _ _ hW hS rfl (Option.some.inj hf) dX4_latestOwner_24
  · have hf := cn_t c11 hf
    refine lv_iconst (v := (-1 : Int32)) hx hb dX4_latestOwner_14 (by decide) ?_
    refine lv_goto (tgt := 24) hx hb dX4_latestOwner_15 (by decide) ?_
    exact hret _ _ _ _ _ hW hS rfl (Option.some.inj hf) dX4_latestOwner_24
noncomputable def fX4_ownersOfAll_38 (C : Mem) (a1 : Int32) (t_4 : (Int32 × Int32)) (x2_38 : Int32) : Option ((Int32 × Int32) ⊕ Int32) := some (.inl (x2_38, (t_4.2 + (1 : Int32))))
noncomputable def fX4_ownersOfAll_4 (C : Mem) (a1 : Int32) : (Int32 × Int32) → Option ((Int32 × Int32) ⊕ Int32) := fun t_4 => cnd ((24 : Int32) ≤ t_4.2) (exR (some t_4.1)) (bnd (fX4_latestOwner C t_4.2) fun q12 => cnd ((fX7_holds a1 t_4.2) = (0 : Int32)) (fX4_ownersOfAll_38 C a1 t_4 t_4.1) (cnd (q12 = (-1 : Int32)) (fX4_ownersOfAll_38 C a1 t_4 t_4.1) (nmv ((t_4.1 ||| ((1 : Int32) <<< (q12 &&& 31)))) fun v37 => fX4_ownersOfAll_38 C a1 t_4 v37)))
noncomputable def fX4_ownersOfAll (C : Mem) (a1 : Int32) : Option Int32 := lp (fX4_ownersOfAll_4 C a1) ((0 : Int32), (0 : Int32))
abbrev rm_X4_ownersOfAll : Room := { frames := 3, cells := 0, slots := 0, locals := 65 }
set_option maxRecDepth 100000 in
set_option maxHeartbeats 4000000 in
theorem c_X4_ownersOfAll (l : Launch) (Γ : gx_G) (C M : Mem) (a1 : Int32) {y0 : Int32} (hf : fX4_ownersOfAll C a1 = some y0) : Met l yX4_ownersOfAll (.code yX4_ownersOfAll cX4_ownersOfAll 5 (some .int) :: TsG) rm_X4_ownersOfAll (va_Pc [.ref (Γ.1 446), .int a1] (gx_P Γ C M)) (gx_Qi Γ y0 C M) 0 0 (gA Γ) := by
  refine gm_i (by decide) (Nat.le_of_ble_eq_true rfl) ?_
  intro p e s m args below meth c Q S hG hret ls H locs hl hW hS
  obtain ⟨hx, hb, hml, hown, hts⟩ := id S
  have hl : lv_has ls 5 [(0, .ref (Γ.1 446)), (1, .int a1)] := hl
  unfold fX4_ownersOfAll at hf
  refine lv_iconst (v := (0 : Int32)) hx hb dX4_ownersOfAll_0 (by decide) ?_
  refine lv_istore_n (lv' := [(2, .int (0 : Int32)), (0, .ref (Γ.1 446)), (1, .int a1)]) hx hb dX4_ownersOfAll_1 rfl hl (by decide) rfl (fun ls hl => ?_)
  refine lv_iconst (v := (0 : Int32)) hx hb dX4_ownersOfAll_2 (by decide) ?_
  refine lv_istore_n (lv' := [(3, .int (0 : Int32)), (2, .int (0 : Int32)), (0, .ref (Γ.1 446)), (1, .int a1)]) hx hb dX4_ownersOfAll_3 rfl hl (by decide) rfl (fun ls hl => ?_)
  have J_4 : ∀  (t_4 : Int32 × Int32), lp (fX4_ownersOfAll_4 C a1) t_4 = some y0 → ∀ (H : Heap) (locs : List Loc) (ls : Array Slot), gx_W Γ C M H → va_S (gA Γ) s.heap H locs → lv_has ls 5 [(0, .ref (Γ.1 446)), (1, .int a1), (2, .int t_4.1), (3, .int t_4.2)] → W p l e rm_X4_ownersOfAll s m args below meth c H locs 0 0 Q (F0 m 4 ls []) := by
    refine lp_ind (P := fun (t_4 : Int32 × Int32) => ∀ (H : Heap) (locs : List Loc) (ls : Array Slot), gx_W Γ C M H → va_S (gA Γ) s.heap H locs → lv_has ls 5 [(0, .ref (Γ.1 446)), (1, .int a1), (2, .int t_4.1), (3, .int t_4.2)] → W p l e rm_X4_ownersOfAll s m args below meth c H locs 0 0 Q (F0 m 4 ls [])) ?_
    intro t_4 y1 hf kI1 kX1 H locs ls hW hS hl
    unfold fX4_ownersOfAll_4 at hf
    refine lv_iload_n hx hb dX4_ownersOfAll_4 rfl (lv_at hl 3 rfl) ?_
    refine lv_bipush (v := (24 : Int32)) hx hb dX4_ownersOfAll_5 (by decide) ?_
    refine lv_icmp_ge (tgt := 44) hx hb dX4_ownersOfAll_7 (by decide) (fun c7 => ?_) (fun c7 => ?_)
    · have hf := cn_t c7 hf
      obtain ⟨z7, hf, ez⟩ := exR_e hf
      rw [kX1 _ ez] at hf
      refine lv_iload_n hx hb dX4_ownersOfAll_44 rfl (lv_at hl 2 rfl) ?_
      exact hret _ _ _ _ _ hW hS rfl (Option.some.inj hf) dX4_ownersOfAll_45
    · have hf := cn_f c7 hf
      refine lv_aload_n hx hb dX4_ownersOfAll_10 rfl (lv_at hl 0 rfl) ?_
      refine lv_iload_n hx hb dX4_ownersOfAll_11 rfl (lv_at hl 3 rfl) ?_
      obtain ⟨q12, hq12, hf⟩ := bnd_e hf
      refine gk0_i hS (gv_run (rest := []) S hG hW hS [.int t_4.2] (c_X4_latestOwner l Γ C M t_4.2 hq12) pk_X4_latestOwner ml_X4_44 (Nat.le_of_ble_eq_true rfl) rfl rfl rfl rfl ⟨Nat.le_of_ble_eq_true rfl, Nat.le_of_ble_eq_true rfl⟩ rfl hl.1 rfl (Nat.le_of_ble_eq_true rfl) dX4_ownersOfAll_12 ⟨Nat.le_of_ble_eq_true rfl, Nat.le_of_ble_eq_true rfl⟩) (fun H locs hW hS => ?_)
      refine lv_istore (lv' := [(4, .int q12), (0, .ref (Γ.1 446)), (1, .int a1), (2, .int t_4.1), (3, .int t_4.2)]) hx hb dX4_ownersOfAll_15 hl (by decide) rfl (fun ls hl => ?_)
      refine lv_iload_n hx hb dX4_ownersOfAll_17 rfl (lv_at hl 2 rfl) ?_
      refine lv_iload_n hx hb dX4_ownersOfAll_18 rfl (lv_at hl 4 rfl) ?_
      refine gk0_i hS (gn_run (rest := []) S hG hW hS [.int a1, .int t_4.2] (c_X7_holds l Γ C M a1 t_4.2) pk_X7_holds nl_X4_47 rfl rfl ⟨Nat.le_of_ble_eq_true rfl, Nat.le_of_ble_eq_true rfl⟩ rfl hl.1 rfl (Nat.le_of_ble_eq_true rfl) dX4_ownersOfAll_19 ⟨Nat.le_of_ble_eq_true rfl, Nat.le_of_ble_eq_true rfl⟩) (fun H locs hW hS => ?_)
      have J_38 : ∀ (x2_38 : Int32) , fX4_ownersOfAll_38 C a1 t_4 x2_38 = some y1 → ∀ (H : Heap) (locs : List Loc) (ls : Array Slot), gx_W Γ C M H → va_S (gA Γ) s.heap H locs → lv_has ls 5 [(0, .ref (Γ.1 446)), (1, .int a1), (2, .int x2_38), (3, .int t_4.2)] → W p l e rm_X4_ownersOfAll s m args below meth c H locs 0 0 Q (F0 m 38 ls []) := by
        intro x2_38 hf H locs ls hW hS hl
        unfold fX4_ownersOfAll_38 at hf
        refine lv_iinc (v := (t_4.2 + (1 : Int32))) (lv' := [(3, .int (t_4.2 + (1 : Int32))), (0, .ref (Γ.1 446)), (1, .int a1), (2, .int x2_38)]) hx hb dX4_ownersOfAll_38 hl (k := 3) rfl rfl (by decide) rfl (fun ls hl => ?_)
        refine lv_goto (tgt := 4) hx hb dX4_ownersOfAll_41 (by decide) ?_
        exact kI1 _ (Option.some.inj hf).symm H locs ls hW hS (lv_sub hl [1, 2, 3, 0] rfl)
      refine lv_if_eq (tgt := 38) hx hb dX4_ownersOfAll_22 (by decide) (fun c22 => ?_) (fun c22 => ?_)
      · have hf := cn_t c22 hf
        exact J_38 t_4.1 hf H locs ls hW hS (lv_sub hl [1, 2, 3, 4] rfl)
      · have hf := cn_f c22 hf
        refine lv_iload hx hb dX4_ownersOfAll_25 (lv_at hl 0 rfl) ?_
        refine lv_iconst (v := (-1 : Int32)) hx hb dX4_ownersOfAll_27 (by decide) ?_
        refine lv_icmp_eq (tgt := 38) hx hb dX4_ownersOfAll_28 (by decide) (fun c28 => ?_) (fun c28 => ?_)
        · have hf := cn_t c28 hf
          exact J_38 t_4.1 hf H locs ls hW hS (lv_sub hl [1, 2, 3, 4] rfl)
        · have hf := cn_f c28 hf
          refine lv_iload_n hx hb dX4_ownersOfAll_31 rfl (lv_at hl 3 rfl) ?_
          refine lv_iconst (v := (1 : Int32)) hx hb dX4_ownersOfAll_32 (by decide) ?_
          refine lv_iload hx hb dX4_ownersOfAll_33 (lv_at hl 0 rfl) ?_
          refine lv_ishl hx hb dX4_ownersOfAll_35 ?_
          refine lv_ior hx hb dX4_ownersOfAll_36 ?_
          refine lv_topi (fun v37 ev37 => ?_)
          have hf := nm_v ev37 hf
          refine lv_istore_n (lv' := [(2, .int v37), (4, .int q12), (0, .ref (Γ.1 446)), (1, .int a1), (3, .int t_4.2)]) hx hb dX4_ownersOfAll_37 rfl hl (by decide) rfl (fun ls hl => ?_)
          exact J_38 v37 hf H locs ls hW hS (lv_sub hl [2, 3, 0, 4] rfl)
  exact J_4 ((0 : Int32), (0 : Int32)) hf H locs ls hW hS (lv_sub hl [2, 3, 1, 0] rfl)
