noncomputable def fX0_numberOf_2 (C : Mem) (p1 : Nat) : (Int32) → Option ((Int32) ⊕ Int32) := fun t_2 => cnd ((C 3 3) ≤ t_2) (exR (some (-1 : Int32))) (chk (vp_in t_2 24) (bnd (fX6_isSameAs C (7 + 2 * t_2.toNatClampNeg) p1) fun q17 => cnd (q17 = (0 : Int32)) (some (.inl (t_2 + (1 : Int32)))) (exR (some t_2))))
noncomputable def fX0_numberOf (C : Mem) (p1 : Nat) : Option Int32 := lp (fX0_numberOf_2 C p1) (0 : Int32)
abbrev rm_X0_numberOf : Room := { frames := 1, cells := 0, slots := 0, locals := 22 }
set_option maxRecDepth 100000 in
set_option maxHeartbeats 4000000 in
theorem c_X0_numberOf (l : Launch) (Γ : gx_G) (C M : Mem) {p1 : Nat} (hp1 : shp p1 = 1) {y0 : Int32} (hf : fX0_numberOf C p1 = some y0) : Met l yX0_numberOf (.code yX0_numberOf cX0_numberOf 3 (some .int) :: TsG) rm_X0_numberOf (va_Pc [.ref (Γ.1 3), .ref (Γ.1 p1)] (gx_P Γ C M)) (gx_Qi Γ y0 C M) 0 0 (gA Γ) := by
  refine gm_i (by decide) (Nat.le_of_ble_eq_true rfl) ?_
  intro p e s m args below meth c Q S hG hret ls H locs hl hW hS
  obtain ⟨hx, hb, hml, hown, hts⟩ := id S
  have hl : lv_has ls 3 [(0, .ref (Γ.1 3)), (1, .ref (Γ.1 p1))] := hl
  unfold fX0_numberOf at hf
  refine lv_iconst (v := (0 : Int32)) hx hb dX0_numberOf_0 (by decide) ?_
  refine lv_istore_n (lv' := [(2, .int (0 : Int32)), (0, .ref (Γ.1 3)), (1, .ref (Γ.1 p1))]) hx hb dX0_numberOf_1 rfl hl (by decide) rfl (fun ls hl => ?_)
  have J_2 : ∀  (t_2 : Int32), lp (fX0_numberOf_2 C p1) t_2 = some y0 → ∀ (H : Heap) (locs : List Loc) (ls : Array Slot), gx_W Γ C M H → va_S (gA Γ) s.heap H locs → lv_has ls 3 [(0, .ref (Γ.1 3)), (1, .ref (Γ.1 p1)), (2, .int t_2)] → W p l e rm_X0_numberOf s m args below meth c H locs 0 0 Q (F0 m 2 ls []) := by
    refine lp_ind (P := fun (t_2 : Int32) => ∀ (H : Heap) (locs : List Loc) (ls : Array Slot), gx_W Γ C M H → va_S (gA Γ) s.heap H locs → lv_has ls 3 [(0, .ref (Γ.1 3)), (1, .ref (Γ.1 p1)), (2, .int t_2)] → W p l e rm_X0_numberOf s m args below meth c H locs 0 0 Q (F0 m 2 ls [])) ?_
    intro t_2 y1 hf kI1 kX1 H locs ls hW hS hl
    unfold fX0_numberOf_2 at hf
    refine lv_iload_n hx hb dX0_numberOf_2 rfl (lv_at hl 2 rfl) ?_
    refine lv_aload_n hx hb dX0_numberOf_3 rfl (lv_at hl 0 rfl) ?_
    refine get_X0_3 S hG hW fl_X0_25 dX0_numberOf_4 ?_
    refine lv_icmp_ge (tgt := 31) hx hb dX0_numberOf_7 (by decide) (fun c7 => ?_) (fun c7 => ?_)
    · have hf := cn_t c7 hf
      obtain ⟨z7, hf, ez⟩ := exR_e hf
      rw [kX1 _ ez] at hf
      refine lv_iconst (v := (-1 : Int32)) hx hb dX0_numberOf_31 (by decide) ?_
      exact hret _ _ _ _ _ hW hS rfl (Option.some.inj hf) dX0_numberOf_32
    · have hf := cn_f c7 hf
      refine lv_aload_n hx hb dX0_numberOf_10 rfl (lv_at hl 0 rfl) ?_
      refine get_X0_0 S hG hW fl_X0_11 dX0_numberOf_11 ?_
      refine lv_iload_n hx hb dX0_numberOf_14 rfl (lv_at hl 2 rfl) ?_
      have g15 := ck_p hf
      have hf := ck_r hf
      refine ald_paths S hG hW g15 dX0_numberOf_15 ?_
      refine lv_aload_n hx hb dX0_numberOf_16 rfl (lv_at hl 1 rfl) ?_
      obtain ⟨q17, hq17, hf⟩ := bnd_e hf
      refine gk0_i hS (gv_run (rest := []) S hG hW hS [.ref (Γ.1 p1)] (c_X6_isSameAs l Γ C M (sh_path (in_lt g15)) hp1 hq17) pk_X6_isSameAs ml_X0_40 (sh_lt1 (sh_path (in_lt g15))) (cc_1 (sh_path (in_lt g15)) _ _) rfl rfl rfl ⟨Nat.le_of_ble_eq_true rfl, Nat.le_of_ble_eq_true rfl⟩ rfl hl.1 rfl (Nat.le_of_ble_eq_true rfl) dX0_numberOf_17 ⟨Nat.le_of_ble_eq_true rfl, Nat.le_of_ble_eq_true rfl⟩) (fun H locs hW hS => ?_)
      refine lv_if_eq (tgt := 25) hx hb dX0_numberOf_20 (by decide) (fun c20 => ?_) (fun c20 => ?_)
      · have hf := cn_t c20 hf
        refine lv_iinc (v := (t_2 + (1 : Int32))) (lv' := [(2, .int (t_2 + (1 : Int32))), (0, .ref (Γ.1 3)), (1, .ref (Γ.1 p1))]) hx hb dX0_numberOf_25 hl (k := 2) rfl rfl (by decide) rfl (fun ls hl => ?_)
        refine lv_goto (tgt := 2) hx hb dX0_numberOf_28 (by decide) ?_
        exact kI1 _ (Option.some.inj hf).symm H locs ls hW hS (lv_sub hl [1, 2, 0] rfl)
      · have hf := cn_f c20 hf
        obtain ⟨z20, hf, ez⟩ := exR_e hf
        rw [kX1 _ ez] at hf
        refine lv_iload_n hx hb dX0_numberOf_23 rfl (lv_at hl 2 rfl) ?_
        exact hret _ _ _ _ _ hW hS rfl (Option.some.inj hf) dX0_numberOf_24
  exact J_2 (0 : Int32) hf H locs ls hW hS (lv_sub hl [1, 2, 0] rfl)
noncomputable def fX0_has_16 (C : Mem) : Int32 := (0 : Int32)
noncomputable def fX0_has (C : Mem) (a1 : Int32) : Int32 := cnd (a1 < (0 : Int32)) (fX0_has_16 C) (cnd ((C 3 3) ≤ a1) (fX0_has_16 C) ((1 : Int32)))
abbrev rm_X0_has : Room := { frames := 0, cells := 0, slots := 0, locals := 0 }
set_option maxRecDepth 100000 in
set_option maxHeartbeats 4000000 in
theorem c_X0_has (l : Launch) (Γ : gx_G) (C M : Mem) (a1 : Int32) : Met l yX0_has (.code yX0_has cX0_has 2 (some .boolean) :: TsG) rm_X0_has (va_Pc [.ref (Γ.1 3), .int a1] (gx_P Γ C M)) (gx_Qi Γ (fX0_has C a1) C M) 0 0 (gA Γ) := by
  refine gm_i (by decide) (Nat.le_of_ble_eq_true rfl) ?_
  intro p e s m args below meth c Q S hG hret ls H locs hl hW hS
  obtain ⟨hx, hb, hml, hown, hts⟩ := id S
  have hl : lv_has ls 2 [(0, .ref (Γ.1 3)), (1, .int a1)] := hl
  generalize hy0 : fX0_has C a1 = y0 at hret
  have hf := hy0
  unfold fX0_has at hf
  refine lv_iload_n hx hb dX0_has_0 rfl (lv_at hl 1 rfl) ?_
  have J_16 : fX0_has_16 C = y0 → ∀ (H : Heap) (locs : List Loc) (ls : Array Slot), gx_W Γ C M H → va_S (gA Γ) s.heap H locs → lv_has ls 2 [] → W p l e rm_X0_has s m args below meth c H locs 0 0 Q (F0 m 16 ls []) := by
    intro  hf H locs ls hW hS hl
    unfold fX0_has_16 at hf
    refine lv_iconst (v := (0 : Int32)) hx hb dX0_has_16 (by decide) ?_
    exact hret _ _ _ _ _ hW hS rfl hf dX0_has_17
  refine lv_if_lt (tgt := 16) hx hb dX0_has_1 (by decide) (fun c1 => ?_) (fun c1 => ?_)
  · have hf := cn_t c1 hf
    exact J_16  hf H locs ls hW hS (lv_sub hl [] rfl)
  · have hf := cn_f c1 hf
    refine lv_iload_n hx hb dX0_has_4 rfl (lv_at hl 1 rfl) ?_
    refine lv_aload_n hx hb dX0_has_5 rfl (lv_at hl 0 rfl) ?_
    refine get_X0_3 S hG hW fl_X0_25 dX0_has_6 ?_
    refine lv_icmp_ge (tgt := 16) hx hb dX0_has_9 (by decide) (fun c9 => ?_) (fun c9 => ?_)
    · have hf := cn_t c9 hf
      exact J_16  hf H locs ls hW hS (lv_sub hl [] rfl)
    · have hf := cn_f c9 hf
      refine lv_iconst (v := (1 : Int32)) hx hb dX0_has_12 (by decide) ?_
      refine lv_goto (tgt := 17) hx hb dX0_has_13 (by decide) ?_
      exact hret _ _ _ _ _ hW hS rfl hf dX0_has_17
noncomputable def fX0_isThere_23 (C : Mem) : Int32 := (0 : Int32)
noncomputable def fX0_isThere (C : Mem) (a1 : Int32) : Int32 := cnd ((fX0_has C a1) = (0 : Int32)) (fX0_isThere_23 C) (cnd ((fX7_holds (C 3 4) a1) = (0 : Int32)) (fX0_isThere_23 C) ((1 : Int32)))
abbrev rm_X0_isThere : Room := { frames := 1, cells := 0, slots := 0, locals := 21 }
set_option maxRecDepth 100000 in
set_option maxHeartbeats 4000000 in
theorem c_X0_isThere (l : Launch) (Γ : gx_G) (C M : Mem) (a1 : Int32) : Met l yX0_isThere (.code yX0_isThere cX0_isThere 2 (some .boolean) :: TsG) rm_X0_isThere (va_Pc [.ref (Γ.1 3), .int a1] (gx_P Γ C M)) (gx_Qi Γ (fX0_isThere C a1) C M) 0 0 (gA Γ) := by
  refine gm_i (by decide) (Nat.le_of_ble_eq_true rfl) ?_
  intro p e s m args below meth c Q S hG hret ls H locs hl hW hS
  obtain ⟨hx, hb, hml, hown, hts⟩ := id S
  have hl : lv_has ls 2 [(0, .ref (Γ.1 3)), (1, .int a1)] := hl
  generalize hy0 : fX0_isThere C a1 = y0 at hret
  have hf := hy0
  unfold fX0_isThere at hf
  refine lv_aload_n hx hb dX0_isThere_0 rfl (lv_at hl 0 rfl) ?_
  refine lv_iload_n hx hb dX0_isThere_1 rfl (lv_at hl 1 rfl) ?_
  refine gk0_i hS (gv_run (rest := []) S hG hW hS [.int a1] (c_X0_has l Γ C M a1) pk_X0_has ml_X0_29 (Nat.le_of_ble_eq_true rfl) rfl rfl rfl rfl ⟨Nat.le_of_ble_eq_true rfl, Nat.le_of_ble_eq_true rfl⟩ rfl hl.1 rfl (Nat.le_of_ble_eq_true rfl) dX0_isThere_2 ⟨Nat.le_of_ble_eq_true rfl, Nat.le_of_ble_eq_true rfl⟩) (fun H locs hW hS => ?_)
  have J_23 : fX0_isThere_23 C = y0 → ∀ (H : Heap) (locs : List Loc) (ls : Array Slot), gx_W Γ C M H → va_S (gA Γ) s.heap H locs → lv_has ls 2 [] → W p l e rm_X0_isThere s m args below meth c H locs 0 0 Q (F0 m 23 ls []) := by
    intro  hf H locs ls hW hS hl
    unfold fX0_isThere_23 at hf
    refine lv_iconst (v := (0 : Int32)) hx hb dX0_isThere_23 (by decide) ?_
    exact hret _ _ _ _ _ hW hS rfl hf dX0_isThere_24
  refine lv_if_eq (tgt := 23) hx hb dX0_isThere_5 (by decide) (fun c5 => ?_) (fun c5 => ?_)
  · have hf := cn_t c5 hf
    exact J_23  hf H locs ls hW hS (lv_sub hl [] rfl)
  · have hf := cn_f c5 hf
    refine lv_aload_n hx hb dX0_isThere_8 rfl (lv_at hl 0 rfl) ?_
    refine get_X0_4 S hG hW fl_X0_33 dX0_isThere_9 ?_
    refine lv_iload_n hx hb dX0_isThere_12 rfl (lv_at hl 1 rfl) ?_
    refine gk0_i hS (gn_run (rest := []) S hG hW hS [.int (C 3 4), .int a1] (c_X7_holds l Γ C M (C 3 4) a1) pk_X7_holds nl_X0_36 rfl rfl ⟨Nat.le_of_ble_eq_true rfl, Nat.le_of_ble_eq_true rfl⟩ rfl hl.1 rfl (Nat.le_of_ble_eq_true rfl) dX0_isThere_13 ⟨Nat.le_of_ble_eq_true rfl, Nat.le_of_ble_eq_true rfl⟩) (fun H locs hW hS => ?_)
    refine lv_if_eq (tgt := 23) hx hb dX0_isThere_16 (by decide) (fun c16 => ?_) (fun c16 => ?_)
    · have hf := cn_t c16 hf
      exact J_23  hf H locs ls hW hS (lv_sub hl [] rfl)
    · have hf := cn_f c16 hf
      refine lv_iconst (v := (1 : Int32)) hx hb dX0_isThere_19 (by decide) ?_
      refine lv_goto (tgt := 24) hx hb dX0_isThere_20 (by decide) ?_
      exact hret _ _ _ _ _ hW hS rfl hf dX0_isThere_24
noncomputable def fX0_isFull (C : Mem) : Int32 := cnd ((C 3 3) < (24 : Int32)) ((0 : Int32)) ((1 : Int32))
abbrev rm_X0_isFull : Room := { frames := 0, cells := 0, slots := 0, locals := 0 }
set_option maxRecDepth 100000 in
set_option maxHeartbeats 4000000 in
theorem c_X0_isFull (l : Launch) (Γ : gx_G) (C M : Mem)  : Met l yX0_isFull (.code yX0_isFull cX0_isFull 1 (some .boolean) :: TsG) rm_X0_isFull (va_Pc [.ref (Γ.1 3)] (gx_P Γ C M)) (gx_Qi Γ (fX0_isFull C) C M) 0 0 (gA Γ) := by
  refine gm_i (by decide) (Nat.le_of_ble_eq_true rfl) ?_
  intro p e s m args below meth c Q S hG hret ls H locs hl hW hS
  obtain ⟨hx, hb, hml, hown, hts⟩ := id S
  have hl : lv_has ls 1 [(0, .ref (Γ.1 3))] := hl
  generalize hy0 : fX0_isFull C = y0 at hret
  have hf := hy0
  unfold fX0_isFull at hf
  refine lv_aload_n hx hb dX0_isFull_0 rfl (lv_at hl 0 rfl) ?_
  refine get_X0_3 S hG hW fl_X0_25 dX0_isFull_1 ?_
  refine lv_bipush (v := (24 : Int32)) hx hb dX0_isFull_4 (by decide) ?_
  refine lv_icmp_lt (tgt := 13) hx hb dX0_isFull_6 (by decide) (fun c6 => ?_) (fun c6 => ?_)
  · have hf := cn_t c6 hf
    refine lv_iconst (v := (0 : Int32)) hx hb dX0_isFull_13 (by decide) ?_
    exact hret _ _ _ _ _ hW hS rfl hf dX0_isFull_14
  · have hf := cn_f c6 hf
    refine lv_iconst (v := (1 : Int32)) hx hb dX0_isFull_9 (by decide) ?_
    refine lv_goto (tgt := 14) hx hb dX0_isFull_10 (by decide) ?_
    exact hret _ _ _ _ _ hW hS rfl hf dX0_isFull_14
noncomputable def fX0_addPath (C : Mem) (p1 : Nat) : Option (Int32 × Mem) := nmv ((C 3 3)) fun v4 => chk (vp_in v4 24) (bnd (fX6_copyFrom C (7 + 2 * v4.toNatClampNeg) p1) fun q12 => some (v4, (mset q12 3 3 ((q12 3 3) + (1 : Int32)))))
abbrev rm_X0_addPath : Room := { frames := 1, cells := 0, slots := 0, locals := 22 }
set_option maxRecDepth 100000 in
set_option maxHeartbeats 4000000 in
theorem c_X0_addPath (l : Launch) (Γ : gx_G) (C M : Mem) {p1 : Nat} (hp1 : shp p1 = 1) {y0 : (Int32 × Mem)} (hf : fX0_addPath C p1 = some y0) : Met l yX0_addPath (.code yX0_addPath cX0_addPath 3 (some .int) :: TsG) rm_X0_addPath (va_Pc [.ref (Γ.1 3), .ref (Γ.1 p1)] (gx_P Γ C M)) (gx_Qi Γ y0.1 y0.2 M) 0 0 (gA Γ) := by
  refine gm_i (by decide) (Nat.le_of_ble_eq_true rfl) ?_
  intro p e s m args below meth c Q S hG hret ls H locs hl hW hS
  obtain ⟨hx, hb, hml, hown, hts⟩ := id S
  have hl : lv_has ls 3 [(0, .ref (Γ.1 3)), (1, .ref (Γ.1 p1))] := hl
  unfold fX0_addPath at hf
  refine lv_aload_n hx hb dX0_addPath_0 rfl (lv_at hl 0 rfl) ?_
  refine get_X0_3 S hG hW fl_X0_25 dX0_addPath_1 ?_
  refine lv_topi (fun v4 ev4 => ?_)
  have hf := nm_v ev4 hf
  refine lv_istore_n (lv' := [(2, .int v4), (0, .ref (Γ.1 3)), (1, .ref (Γ.1 p1))]) hx hb dX0_addPath_4 rfl hl (by decide) rfl (fun ls hl => ?_)
  refine lv_aload_n hx hb dX0_addPath_5 rfl (lv_at hl 1 rfl) ?_
  refine get_X0_0 S hG hW fl_X0_11 dX0_addPath_6 ?_
  refine lv_iload_n hx hb dX0_addPath_9 rfl (lv_at hl 0 rfl) ?_
  have g10 := ck_p hf
  have hf := ck_r hf
  refine ald_paths S hG hW g10 dX0_addPath_10 ?_
  refine lv_aload_n hx hb dX0_addPath_11 rfl (lv_at hl 2 rfl) ?_
  obtain ⟨q12, hq12, hf⟩ := bnd_e hf
  refine gk0_v hS (gv_run (rest := []) S hG hW hS [.ref (Γ.1 p1)] (c_X6_copyFrom l Γ C M (sh_path (in_lt g10)) hp1 hq12) pk_X6_copyFrom ml_X0_44 (sh_lt1 (sh_path (in_lt g10))) (cc_1 (sh_path (in_lt g10)) _ _) rfl rfl rfl ⟨Nat.le_of_ble_eq_true rfl, Nat.le_of_ble_eq_true rfl⟩ rfl hl.1 rfl (Nat.le_of_ble_eq_true rfl) dX0_addPath_12 ⟨Nat.le_of_ble_eq_true rfl, Nat.le_of_ble_eq_true rfl⟩) (fun H locs hW hS => ?_)
  refine lv_aload_n hx hb dX0_addPath_15 rfl (lv_at hl 1 rfl) ?_
  refine lv_dup hx hb dX0_addPath_16 rfl ?_
  refine get_X0_3 S hG hW fl_X0_25 dX0_addPath_17 ?_
  refine lv_iconst (v := (1 : Int32)) hx hb dX0_addPath_20 (by decide) ?_
  refine lv_iadd hx hb dX0_addPath_21 ?_
  refine put_X0_3 S hG hW hS fl_X0_25 dX0_addPath_22 (fun H locs hW hS => ?_)
  refine lv_iload_n hx hb dX0_addPath_25 rfl (lv_at hl 0 rfl) ?_
  have e9 := Option.some.inj hf
  subst e9
  exact hret _ _ _ _ _ hW hS rfl rfl dX0_addPath_26
noncomputable def fX0_put (C : Mem) (a1 : Int32) (a2 : Int32) : Option Mem := chk (vp_in a1 24) (some (mset (mset C 5 a1.toNatClampNeg a2) 3 4 (((mset C 5 a1.toNatClampNeg a2) 3 4) ||| ((1 : Int32) <<< (a1 &&& 31)))))
abbrev rm_X0_put : Room := { frames := 0, cells := 0, slots := 0, locals := 0 }
set_option maxRecDepth 100000 in
set_option maxHeartbeats 4000000 in
theorem c_X0_put (l : Launch) (Γ : gx_G) (C M : Mem) (a1 : Int32) (a2 : Int32) {y0 : Mem} (hf : fX0_put C a1 a2 = some y0) : Met l yX0_put (.code yX0_put cX0_put 3 none :: TsG) rm_X0_put (va_Pc [.ref (Γ.1 3), .int a1, .int a2] (gx_P Γ C M)) (gx_Qv Γ y0 M) 0 0 (gA Γ) := by
  refine gm_v (by decide) (Nat.le_of_ble_eq_true rfl) ?_
  intro p e s m args below meth c Q S hG hret ls H locs hl hW hS
  obtain ⟨hx, hb, hml, hown, hts⟩ := id S
  have hl : lv_has ls 3 [(0, .ref (Γ.1 3)), (1, .int a1), (2, .int a2)] := hl
  unfold fX0_put at hf
  refine lv_aload_n hx hb dX0_put_0 rfl (lv_at hl 0 rfl) ?_
  refine get_X0_1 S hG hW fl_X0_17 dX0_put_1 ?_
  refine lv_iload_n hx hb dX0_put_4 rfl (lv_at hl 1 rfl) ?_
  refine lv_iload_n hx hb dX0_put_5 rfl (lv_at hl 2 rfl) ?_
  have g6 := ck_p hf
  have hf := ck_r hf
  refine ast_i S hG hW hS shk_5 lnk_5 g6 dX0_put_6 (fun H locs hW hS => ?_)
  refine lv_aload_n hx hb dX0_put_7 rfl (lv_at hl 0 rfl) ?_
  refine lv_dup hx hb dX0_put_8 rfl ?_
  refine get_X0_4 S hG hW fl_X0_33 dX0_put_9 ?_
  refine lv_iconst (v := (1 : Int32)) hx hb dX0_put_12 (by decide) ?_
  refine lv_iload_n hx hb dX0_put_13 rfl (lv_at hl 1 rfl) ?_
  refine lv_ishl hx hb dX0_put_14 ?_
  refine lv_ior hx hb dX0_put_15 ?_
  refine put_X0_4 S hG hW hS fl_X0_33 dX0_put_16 (fun H locs hW hS => ?_)
  have e9 := Option.some.inj hf
  subst e9
  exact hret _ _ _ _ hW hS dX0_put_19
noncomputable def fX0_contentOf (C : Mem) (a1 : Int32) : Option Int32 := chk (vp_in a1 24) (some (C 5 a1.toNatClampNeg))
abbrev rm_X0_contentOf : Room := { frames := 0, cells := 0, slots := 0, locals := 0 }
set_option maxRecDepth 100000 in
set_option maxHeartbeats 4000000 in
theorem c_X0_contentOf (l : Launch) (Γ : gx_G) (C M : Mem) (a1 : Int32) {y0 : Int32} (hf : fX0_contentOf C a1 = some y0) : Met l yX0_contentOf (.code yX0_contentOf cX0_contentOf 2 (some .int) :: TsG) rm_X0_contentOf (va_Pc [.ref (Γ.1 3), .int a1] (gx_P Γ C M)) (gx_Qi Γ y0 C M) 0 0 (gA Γ) := by
  refine gm_i (by decide) (Nat.le_of_ble_eq_true rfl) ?_
  intro p e s m args below meth c Q S hG hret ls H locs hl hW hS
  obtain ⟨hx, hb, hml, hown, hts⟩ := id S
  have hl : lv_has ls 2 [(0, .ref (Γ.1 3)), (1, .int a1)] := hl
  unfold fX0_contentOf at hf
  refine lv_aload_n hx hb dX0_contentOf_0 rfl (lv_at hl 0 rfl) ?_
  refine get_X0_1 S hG hW fl_X0_17 dX0_contentOf_1 ?_
  refine lv_iload_n hx hb dX0_contentOf_4 rfl (lv_at hl 1 rfl) ?_
  have g5 := ck_p hf
  have hf := ck_r hf
  refine ald_i S hG hW shk_5 lnk_5 g5 dX0_contentOf_5 ?_
  exact hret _ _ _ _ _ hW hS rfl (Option.some.inj hf) dX0_contentOf_6
noncomputable def fX0_remove (C : Mem) (a1 : Int32) : Option Mem := some (mset C 3 4 ((C 3 4) &&& (((1 : Int32) <<< (a1 &&& 31)) ^^^ (-1 : Int32))))
abbrev rm_X0_remove : Room := { frames := 0, cells := 0, slots := 0, locals := 0 }
set_option maxRecDepth 100000 in
set_option maxHeartbeats 4000000 in
theorem c_X0_remove (l : Launch) (Γ : gx_G) (C M : Mem) (a1 : Int32) {y0 : Mem} (hf : fX0_remove C a1 = some y0) : Met l yX0_remove (.code yX0_remove cX0_remove 2 none :: TsG) rm_X0_remove (va_Pc [.ref (Γ.1 3), .int a1] (gx_P Γ C M)) (gx_Qv Γ y0 M) 0 0 (gA Γ) := by
  refine gm_v (by decide) (Nat.le_of_ble_eq_true rfl) ?_
  intro p e s m args below meth c Q S hG hret ls H locs hl hW hS
  obtain ⟨hx, hb, hml, hown, hts⟩ := id S
  have hl : lv_has ls 2 [(0, .ref (Γ.1 3)), (1, .int a1)] := hl
  unfold fX0_remove at hf
  refine lv_aload_n hx hb dX0_remove_0 rfl (lv_at hl 0 rfl) ?_
  refine lv_dup hx hb dX0_remove_1 rfl ?_
  refine get_X0_4 S hG hW fl_X0_33 dX0_remove_2 ?_
  refine lv_iconst (v := (1 : Int32)) hx hb dX0_remove_5 (by decide) ?_
  refine lv_iload_n hx hb dX0_remove_6 rfl (lv_at hl 1 rfl) ?_
  refine lv_ishl hx hb dX0_remove_7 ?_
  refine lv_iconst (v := (-1 : Int32)) hx hb dX0_remove_8 (by decide) ?_
  refine lv_ixor hx hb dX0_remove_9 ?_
  refine lv_iand hx hb dX0_remove_10 ?_
  refine put_X0_4 S hG hW hS fl_X0_33 dX0_remove_11 (fun H locs hW hS => ?_)
  have e9 := Option.some.inj hf
  subst e9
  exact hret _ _ _ _ hW hS dX0_remove_14
noncomputable def fX0_pathOf (C : Mem) (a1 : Int32) : Option Nat := chk (vp_in a1 24) (some (7 + 2 * a1.toNatClampNeg))
abbrev rm_X0_pathOf : Room := { frames := 0, cells := 0, slots := 0, locals := 0 }
set_option maxRecDepth 100000 in
set_option maxHeartbeats 4000000 in
theorem c_X0_pathOf (l : Launch) (Γ : gx_G) (C M : Mem) (a1 : Int32) {y0 : Nat} (hf : fX0_pathOf C a1 = some y0) : Met l yX0_pathOf (.code yX0_pathOf cX0_pathOf 2 (some (.object "Monobuild$Text")) :: TsG) rm_X0_pathOf (va_Pc [.ref (Γ.1 3), .int a1] (gx_P Γ C M)) (gx_Qr Γ y0 C M) 0 0 (gA Γ) := by
  refine gm_r (by decide) (Nat.le_of_ble_eq_true rfl) ?_
  intro p e s m args below meth c Q S hG hret ls H locs hl hW hS
  obtain ⟨hx, hb, hml, hown, hts⟩ := id S
  have hl : lv_has ls 2 [(0, .ref (Γ.1 3)), (1, .int a1)] := hl
  unfold fX0_pathOf at hf
  refine lv_aload_n hx hb dX0_pathOf_0 rfl (lv_at hl 0 rfl) ?_
  refine get_X0_0 S hG hW fl_X0_11 dX0_pathOf_1 ?_
  refine lv_iload_n hx hb dX0_pathOf_4 rfl (lv_at hl 1 rfl) ?_
  have g5 := ck_p hf
  have hf := ck_r hf
  refine ald_paths S hG hW g5 dX0_pathOf_5 ?_
  exact hret _ _ _ _ _ hW hS (Option.some.inj hf) dX0_pathOf_6
theorem sr_X0_pathOf {C : Mem} {a1 : Int32} {r : Nat} (hf : fX0_pathOf C a1 = some r) : shp r = 1 := by
  unfold fX0_pathOf at hf
  have g := ck_p hf
  have h := Option.some.inj (ck_r hf)
  subst h
  exact sh_path (in_lt g)
noncomputable def fX0_coveredBy_31 (C : Mem) (p1 : Nat) (t_4 : (Int32 × Int32)) (x2_31 : Int32) : Option ((Int32 × Int32) ⊕ Int32) := some (.inl (x2_31, (t_4.2 + (1 : Int32))))
noncomputable def fX0_coveredBy_4 (C : Mem) (p1 : Nat) : (Int32 × Int32) → Option ((Int32 × Int32) ⊕ Int32) := fun t_4 => cnd ((C 3 3) ≤ t_4.2) (exR (some t_4.1)) (chk (vp_in t_4.2 24) (bnd (fX6_covers C p1 (7 + 2 * t_4.2.toNatClampNeg)) fun q19 => cnd (q19 = (0 : Int32)) (fX0_coveredBy_31 C p1 t_4 t_4.1) (nmv ((t_4.1 ||| ((1 : Int32) <<< (t_4.2 &&& 31)))) fun v30 => fX0_coveredBy_31 C p1 t_4 v30)))
noncomputable def fX0_coveredBy (C : Mem) (p1 : Nat) : Option Int32 := lp (fX0_coveredBy_4 C p1) ((0 : Int32), (0 : Int32))
abbrev rm_X0_coveredBy : Room := { frames := 3, cells := 0, slots := 0, locals := 70 }
set_option maxRecDepth 100000 in
set_option maxHeartbeats 4000000 in
theorem c_X0_coveredBy (l : Launch) (Γ : gx_G) (C M : Mem) {p1 : Nat} (hp1 : shp p1 = 1) {y0 : Int32} (hf : fX0_coveredBy C p1 = some y0) : Met l yX0_coveredBy (.code yX0_coveredBy cX0_coveredBy 4 (some .int) :: TsG) rm_X0_coveredBy (va_Pc [.ref (Γ.1 3), .ref (Γ.1 p1)] (gx_P Γ C M)) (gx_Qi Γ y0 C M) 0 0 (gA Γ) := by
  refine gm_i (by decide) (Nat.le_of_ble_eq_true rfl) ?_
  intro p e s m args below meth c Q S hG hret ls H locs hl hW hS
  obtain ⟨hx, hb, hml, hown, hts⟩ := id S
  have hl : lv_has ls 4 [(0, .ref (Γ.1 3)), (1, .ref (Γ.1 p1))] := hl
  unfold fX0_coveredBy at hf
  refine lv_iconst (v := (0 : Int32)) hx hb dX0_coveredBy_0 (by decide) ?_
  refine lv_istore_n (lv' := [(2, .int (0 : Int32)), (0, .ref (Γ.1 3)), (1, .ref (Γ.1 p1))]) hx hb dX0_coveredBy_1 rfl hl (by decide) rfl (fun ls hl => ?_)
  refine lv_iconst (v := (0 : Int32)) hx hb dX0_coveredBy_2 (by decide) ?_
  refine lv_istore_n (lv' := [(3, .int (0 : Int32)), (2, .int (0 : Int32)), (0, .ref (Γ.1 3)), (1, .ref (Γ.1 p1))]) hx hb dX0_coveredBy_3 rfl hl (by decide) rfl (fun ls hl => ?_)
  have J_4 : ∀  (t_4 : Int32 × Int32), lp (fX0_coveredBy_4 C p1) t_4 = some y0 → ∀ (H : Heap) (locs : List Loc) (ls : Array Slot), gx_W Γ C M H → va_S (gA Γ) s.heap H locs → lv_has ls 4 [(0, .ref (Γ.1 3)), (1, .ref (Γ.1 p1)), (2, .int t_4.1), (3, .int t_4.2)] → W p l e rm_X0_coveredBy s m args below meth c H locs 0 0 Q (F0 m 4 ls []) := by
    refine lp_ind (P := fun (t_4 : Int32 × Int32) => ∀ (H : Heap) (locs : List Loc) (ls : Array Slot), gx_W Γ C M H → va_S (gA Γ) s.heap H locs → lv_has ls 4 [(0, .ref (Γ.1 3)), (1, .ref (Γ.1 p1)), (2, .int t_4.1), (3, .int t_4.2)] → W p l e rm_X0_coveredBy s m args below meth c H locs 0 0 Q (F0 m 4 ls [])) ?_
    intro t_4 y1 hf kI1 kX1 H locs ls hW hS hl
    unfold fX0_coveredBy_4 at hf
    refine lv_iload_n hx hb dX0_coveredBy_4 rfl (lv_at hl 3 rfl) ?_
    refine lv_aload_n hx hb dX0_coveredBy_5 rfl (lv_at hl 0 rfl) ?_
    refine get_X0_3 S hG hW fl_X0_25 dX0_coveredBy_6 ?_
    refine lv_icmp_ge (tgt := 37) hx hb dX0_coveredBy_9 (by decide) (fun c9 => ?_) (fun c9 => ?_)
    · have hf := cn_t c9 hf
      obtain ⟨z9, hf, ez⟩ := exR_e hf
      rw [kX1 _ ez] at hf
      refine lv_iload_n hx hb dX0_coveredBy_37 rfl (lv_at hl 2 rfl) ?_
      exact hret _ _ _ _ _ hW hS rfl (Option.some.inj hf) dX0_coveredBy_38
    · have hf := cn_f c9 hf
      refine lv_aload_n hx hb dX0_coveredBy_12 rfl (lv_at hl 1 rfl) ?_
      refine lv_aload_n hx hb dX0_coveredBy_13 rfl (lv_at hl 0 rfl) ?_
      refine get_X0_0 S hG hW fl_X0_11 dX0_coveredBy_14 ?_
      refine lv_iload_n hx hb dX0_coveredBy_17 rfl (lv_at hl 3 rfl) ?_
      have g18 := ck_p hf
      have hf := ck_r hf
      refine ald_paths S hG hW g18 dX0_coveredBy_18 ?_
      obtain ⟨q19, hq19, hf⟩ := bnd_e hf
      refine gk0_i hS (gv_run (rest := []) S hG hW hS [.ref (Γ.1 (7 + 2 * t_4.2.toNatClampNeg))] (c_X6_covers l Γ C M hp1 (sh_path (in_lt g18)) hq19) pk_X6_covers ml_X0_48 (sh_lt1 hp1) (cc_1 hp1 _ _) rfl rfl rfl ⟨Nat.le_of_ble_eq_true rfl, Nat.le_of_ble_eq_true rfl⟩ rfl hl.1 rfl (Nat.le_of_ble_eq_true rfl) dX0_coveredBy_19 ⟨Nat.le_of_ble_eq_true rfl, Nat.le_of_ble_eq_true rfl⟩) (fun H locs hW hS => ?_)
      have J_31 : ∀ (x2_31 : Int32) , fX0_coveredBy_31 C p1 t_4 x2_31 = some y1 → ∀ (H : Heap) (locs : List Loc) (ls : Array Slot), gx_W Γ C M H → va_S (gA Γ) s.heap H locs → lv_has ls 4 [(0, .ref (Γ.1 3)), (1, .ref (Γ.1 p1)), (2, .int x2_31), (3, .int t_4.2)] → W p l e rm_X0_coveredBy s m args below meth c H locs 0 0 Q (F0 m 31 ls []) := by
        intro x2_31 hf H locs ls hW hS hl
        unfold fX0_coveredBy_31 at hf
        refine lv_iinc (v := (t_4.2 + (1 : Int32))) (lv' := [(3, .int (t_4.2 + (1 : Int32))), (0, .ref (Γ.1 3)), (1, .ref (Γ.1 p1)), (2, .int x2_31)]) hx hb dX0_coveredBy_31 hl (k := 3) rfl rfl (by decide) rfl (fun ls hl => ?_)
        refine lv_goto (tgt := 4) hx hb dX0_coveredBy_34 (by decide) ?_
        exact kI1 _ (Option.some.inj hf).symm H locs ls hW hS (lv_sub hl [1, 2, 3, 0] rfl)
      refine lv_if_eq (tgt := 31) hx hb dX0_coveredBy_22 (by decide) (fun c22 => ?_) (fun c22 => ?_)
      · have hf := cn_t c22 hf
        exact J_31 t_4.1 hf H locs ls hW hS (lv_sub hl [0, 1, 2, 3] rfl)
      · have hf := cn_f c22 hf
        refine lv_iload_n hx hb dX0_coveredBy_25 rfl (lv_at hl 2 rfl) ?_
        refine lv_iconst (v := (1 : Int32)) hx hb dX0_coveredBy_26 (by decide) ?_
        refine lv_iload_n hx hb dX0_coveredBy_27 rfl (lv_at hl 3 rfl) ?_
        refine lv_ishl hx hb dX0_coveredBy_28 ?_
        refine lv_ior hx hb dX0_coveredBy_29 ?_
        refine lv_topi (fun v30 ev30 => ?_)
        have hf := nm_v ev30 hf
        refine lv_istore_n (lv' := [(2, .int v30), (0, .ref (Γ.1 3)), (1, .ref (Γ.1 p1)), (3, .int t_4.2)]) hx hb dX0_coveredBy_30 rfl hl (by decide) rfl (fun ls hl => ?_)
        exact J_31 v30 hf H locs ls hW hS (lv_sub hl [1, 2, 0, 3] rfl)
  exact J_4 ((0 : Int32), (0 : Int32)) hf H locs ls hW hS (lv_sub hl [2, 3, 1, 0] rfl)
noncomputable def fX0_present (C : Mem) : Int32 := (C 3 4)
abbrev rm_X0_present : Room := { frames := 0, cells := 0, slots := 0, locals := 0 }
set_option maxRecDepth 100000 in
set_option maxHeartbeats 4000000 in
theorem c_X0_present (l : Launch) (Γ : gx_G) (C M : Mem)  : Met l yX0_present (.code yX0_present cX0_present 1 (some .int) :: TsG) rm_X0_present (va_Pc [.ref (Γ.1 3)] (gx_P Γ C M)) (gx_Qi Γ (fX0_present C) C M) 0 0 (gA Γ) := by
  refine gm_i (by decide) (Nat.le_of_ble_eq_true rfl) ?_
  intro p e s m args below meth c Q S hG hret ls H locs hl hW hS
  obtain ⟨hx, hb, hml, hown, hts⟩ := id S
  have hl : lv_has ls 1 [(0, .ref (Γ.1 3))] := hl
  generalize hy0 : fX0_present C = y0 at hret
  have hf := hy0
  unfold fX0_present at hf
  refine lv_aload_n hx hb dX0_present_0 rfl (lv_at hl 0 rfl) ?_
  refine get_X0_4 S hG hW fl_X0_33 dX0_present_1 ?_
  exact hret _ _ _ _ _ hW hS rfl hf dX0_present_4
noncomputable def fX0_sinceMark_57 (C : Mem) (t_12 : (Int32 × Int32)) (x1_57 : Int32) : Option ((Int32 × Int32) ⊕ Int32) := some (.inl (x1_57, (t_12.2 + (1 : Int32))))
noncomputable def fX0_sinceMark_12 (C : Mem) : (Int32 × Int32) → Option ((Int32 × Int32) ⊕ Int32) := fun t_12 => cnd ((C 3 3) ≤ t_12.2) (exR (some t_12.1)) (cnd ((fX7_holds ((C 3 4) &&& (C 3 5)) t_12.2) = (0 : Int32)) (fX0_sinceMark_57 C t_12 t_12.1) (chk (vp_in t_12.2 24) (chk (vp_in t_12.2 24) (cnd ((C 5 t_12.2.toNatClampNeg) = (C 6 t_12.2.toNatClampNeg)) (fX0_sinceMark_57 C t_12 t_12.1) (nmv ((t_12.1 ||| ((1 : Int32) <<< (t_12.2 &&& 31)))) fun v56 => fX0_sinceMark_57 C t_12 v56)))))
noncomputable def fX0_sinceMark (C : Mem) : Option Int32 := nmv (((C 3 4) ^^^ (C 3 5))) fun v9 => lp (fX0_sinceMark_12 C) (v9, (0 : Int32))
abbrev rm_X0_sinceMark : Room := { frames := 1, cells := 0, slots := 0, locals := 21 }
set_option maxRecDepth 100000 in
set_option maxHeartbeats 4000000 in
theorem c_X0_sinceMark (l : Launch) (Γ : gx_G) (C M : Mem)  {y0 : Int32} (hf : fX0_sinceMark C = some y0) : Met l yX0_sinceMark (.code yX0_sinceMark cX0_sinceMark 3 (some .int) :: TsG) rm_X0_sinceMark (va_Pc [.ref (Γ.1 3)] (gx_P Γ C M)) (gx_Qi Γ y0 C M) 0 0 (gA Γ) := by
  refine gm_i (by decide) (Nat.le_of_ble_eq_true rfl) ?_
  intro p e s m args below meth c Q S hG hret ls H locs hl hW hS
  obtain ⟨hx, hb, hml, hown, hts⟩ := id S
  have hl : lv_has ls 3 [(0, .ref (Γ.1 3))] := hl
  unfold fX0_sinceMark at hf
  refine lv_aload_n hx hb dX0_sinceMark_0 rfl (lv_at hl 0 rfl) ?_
  refine get_X0_4 S hG hW fl_X0_33 dX0_sinceMark_1 ?_
  refine lv_aload_n hx hb dX0_sinceMark_4 rfl (lv_at hl 0 rfl) ?_
  refine get_X0_5 S hG hW fl_X0_51 dX0_sinceMark_5 ?_
  refine lv_ixor hx hb dX0_sinceMark_8 ?_
  refine lv_topi (fun v9 ev9 => ?_)
  have hf := nm_v ev9 hf
  refine lv_istore_n (lv' := [(1, .int v9), (0, .ref (Γ.1 3))]) hx hb dX0_sinceMark_9 rfl hl (by decide) rfl (fun ls hl => ?_)
  refine lv_iconst (v := (0 : Int32)) hx hb dX0_sinceMark_10 (by decide) ?_
  refine lv_istore_n (lv' := [(2, .int (0 : Int32)), (1, .int v9), (0, .ref (Γ.1 3))]) hx hb dX0_sinceMark_11 rfl hl (by decide) rfl (fun ls hl => ?_)
  have J_12 : ∀  (t_12 : Int32 × Int32), lp (fX0_sinceMark_12 C) t_12 = some y0 → ∀ (H : Heap) (locs : List Loc) (ls : Array Slot), gx_W Γ C M H → va_S (gA Γ) s.heap H locs → lv_has ls 3 [(0, .ref (Γ.1 3)), (1, .int t_12.1), (2, .int t_12.2)] → W p l e rm_X0_sinceMark s m args below meth c H locs 0 0 Q (F0 m 12 ls []) := by
    refine lp_ind (P := fun (t_12 : Int32 × Int32) => ∀ (H : Heap) (locs : List Loc) (ls : Array Slot), gx_W Γ C M H → va_S (gA Γ) s.heap H locs → lv_has ls 3 [(0, .ref (Γ.1 3)), (1, .int t_12.1), (2, .int t_12.2)] → W p l e rm_X0_sinceMark s m args below meth c H locs 0 0 Q (F0 m 12 ls [])) ?_
    intro t_12 y1 hf kI1 kX1 H locs ls hW hS hl
    unfold fX0_sinceMark_12 at hf
    refine lv_iload_n hx hb dX0_sinceMark_12 rfl (lv_at hl 2 rfl) ?_
    refine lv_aload_n hx hb dX0_sinceMark_13 rfl (lv_at hl 0 rfl) ?_
    refine get_X0_3 S hG hW fl_X0_25 dX0_sinceMark_14 ?_
    refine lv_icmp_ge (tgt := 63) hx hb dX0_sinceMark_17 (by decide) (fun c17 => ?_) (fun c17 => ?_)
    · have hf := cn_t c17 hf
      obtain ⟨z17, hf, ez⟩ := exR_e hf
      rw [kX1 _ ez] at hf
      refine lv_iload_n hx hb dX0_sinceMark_63 rfl (lv_at hl 1 rfl) ?_
      exact hret _ _ _ _ _ hW hS rfl (Option.some.inj hf) dX0_sinceMark_64
    · have hf := cn_f c17 hf
      refine lv_aload_n hx hb dX0_sinceMark_20 rfl (lv_at hl 0 rfl) ?_
      refine get_X0_4 S hG hW fl_X0_33 dX0_sinceMark_21 ?_
      refine lv_aload_n hx hb dX0_sinceMark_24 rfl (lv_at hl 0 rfl) ?_
      refine get_X0_5 S hG hW fl_X0_51 dX0_sinceMark_25 ?_
      refine lv_iand hx hb dX0_sinceMark_28 ?_
      refine lv_iload_n hx hb dX0_sinceMark_29 rfl (lv_at hl 2 rfl) ?_
      refine gk0_i hS (gn_run (rest := []) S hG hW hS [.int ((C 3 4) &&& (C 3 5)), .int t_12.2] (c_X7_holds l Γ C M ((C 3 4) &&& (C 3 5)) t_12.2) pk_X7_holds nl_X0_36 rfl rfl ⟨Nat.le_of_ble_eq_true rfl, Nat.le_of_ble_eq_true rfl⟩ rfl hl.1 rfl (Nat.le_of_ble_eq_true rfl) dX0_sinceMark_30 ⟨Nat.le_of_ble_eq_true rfl, Nat.le_of_ble_eq_true rfl⟩) (fun H locs hW hS => ?_)
      have J_57 : ∀ (x1_57 : Int32) , fX0_sinceMark_57 C t_12 x1_57 = some y1 → ∀ (H : Heap) (locs : List Loc) (ls : Array Slot), gx_W Γ C M H → va_S (gA Γ) s.heap H locs → lv_has ls 3 [(0, .ref (Γ.1 3)), (1, .int x1_57), (2, .int t_12.2)] → W p l e rm_X0_sinceMark s m args below meth c H locs 0 0 Q (F0 m 57 ls []) := by
        intro x1_57 hf H locs ls hW hS hl
        unfold fX0_sinceMark_57 at hf
        refine lv_iinc (v := (t_12.2 + (1 : Int32))) (lv' := [(2, .int (t_12.2 + (1 : Int32))), (0, .ref (Γ.1 3)), (1, .int x1_57)]) hx hb dX0_sinceMark_57 hl (k := 2) rfl rfl (by decide) rfl (fun ls hl => ?_)
        refine lv_goto (tgt := 12) hx hb dX0_sinceMark_60 (by decide) ?_
        exact kI1 _ (Option.some.inj hf).symm H locs ls hW hS (lv_sub hl [1, 2, 0] rfl)
      refine lv_if_eq (tgt := 57) hx hb dX0_sinceMark_33 (by decide) (fun c33 => ?_) (fun c33 => ?_)
      · have hf := cn_t c33 hf
        exact J_57 t_12.1 hf H locs ls hW hS (lv_sub hl [0, 1, 2] rfl)
      · have hf := cn_f c33 hf
        refine lv_aload_n hx hb dX0_sinceMark_36 rfl (lv_at hl 0 rfl) ?_
        refine get_X0_1 S hG hW fl_X0_17 dX0_sinceMark_37 ?_
        refine lv_iload_n hx hb dX0_sinceMark_40 rfl (lv_at hl 2 rfl) ?_
        have g41 := ck_p hf
        have hf := ck_r hf
        refine ald_i S hG hW shk_5 lnk_5 g41 dX0_sinceMark_41 ?_
        refine lv_aload_n hx hb dX0_sinceMark_42 rfl (lv_at hl 0 rfl) ?_
        refine get_X0_2 S hG hW fl_X0_21 dX0_sinceMark_43 ?_
        refine lv_iload_n hx hb dX0_sinceMark_46 rfl (lv_at hl 2 rfl) ?_
        have g47 := ck_p hf
        have hf := ck_r hf
        refine ald_i S hG hW shk_6 lnk_6 g47 dX0_sinceMark_47 ?_
        refine lv_icmp_eq (tgt := 57) hx hb dX0_sinceMark_48 (by decide) (fun c48 => ?_) (fun c48 => ?_)
        · have hf := cn_t c48 hf
          exact J_57 t_12.1 hf H locs ls hW hS (lv_sub hl [0, 1, 2] rfl)
        · have hf := cn_f c48 hf
          refine lv_iload_n hx hb dX0_sinceMark_51 rfl (lv_at hl 1 rfl) ?_
          refine lv_iconst (v := (1 : Int32)) hx hb dX0_sinceMark_52 (by decide) ?_
          refine lv_iload_n hx hb dX0_sinceMark_53 rfl (lv_at hl 2 rfl) ?_
          refine lv_ishl hx hb dX0_sinceMark_54 ?_
          refine lv_ior hx hb dX0_sinceMark_55 ?_
          refine lv_topi (fun v56 ev56 => ?_)
          have hf := nm_v ev56 hf
          refine lv_istore_n (lv' := [(1, .int v56), (0, .ref (Γ.1 3)), (2, .int t_12.2)]) hx hb dX0_sinceMark_56 rfl hl (by decide) rfl (fun ls hl => ?_)
          exact J_57 v56 hf H locs ls hW hS (lv_sub hl [1, 0, 2] rfl)
  exact J_12 (v9, (0 : Int32)) hf H locs ls hW hS (lv_sub hl [2, 1, 0] rfl)
noncomputable def fX0_keepMark (C : Mem) : Option Mem := some (mcpy (mset C 3 5 (C 3 4)) 5 6 (0 : Int32).toNatClampNeg (0 : Int32).toNatClampNeg (24 : Int32).toNatClampNeg)
abbrev rm_X0_keepMark : Room := { frames := 1, cells := 0, slots := 0, locals := 48 }
set_option maxRecDepth 100000 in
set_option maxHeartbeats 4000000 in
theorem c_X0_keepMark (l : Launch) (Γ : gx_G) (C M : Mem)  {y0 : Mem} (hf : fX0_keepMark C = some y0) : Met l yX0_keepMark (.code yX0_keepMark cX0_keepMark 1 none :: TsG) rm_X0_keepMark (va_Pc [.ref (Γ.1 3)] (gx_P Γ C M)) (gx_Qv Γ y0 M) 0 0 (gA Γ) := by
  refine gm_v (by decide) (Nat.le_of_ble_eq_true rfl) ?_
  intro p e s m args below meth c Q S hG hret ls H locs hl hW hS
  obtain ⟨hx, hb, hml, hown, hts⟩ := id S
  have hl : lv_has ls 1 [(0, .ref (Γ.1 3))] := hl
  unfold fX0_keepMark at hf
  refine lv_aload_n hx hb dX0_keepMark_0 rfl (lv_at hl 0 rfl) ?_
  refine lv_aload_n hx hb dX0_keepMark_1 rfl (lv_at hl 0 rfl) ?_
  refine get_X0_4 S hG hW fl_X0_33 dX0_keepMark_2 ?_
  refine put_X0_5 S hG hW hS fl_X0_51 dX0_keepMark_5 (fun H locs hW hS => ?_)
  refine lv_aload_n hx hb dX0_keepMark_8 rfl (lv_at hl 0 rfl) ?_
  refine get_X0_1 S hG hW fl_X0_17 dX0_keepMark_9 ?_
  refine lv_iconst (v := (0 : Int32)) hx hb dX0_keepMark_12 (by decide) ?_
  refine lv_aload_n hx hb dX0_keepMark_13 rfl (lv_at hl 0 rfl) ?_
  refine get_X0_2 S hG hW fl_X0_21 dX0_keepMark_14 ?_
  refine lv_iconst (v := (0 : Int32)) hx hb dX0_keepMark_17 (by decide) ?_
  refine lv_bipush (v := (24 : Int32)) hx hb dX0_keepMark_18 (by decide) ?_
  refine cpy_i S hG hW hS hl.1 shk_5 lnk_5 shk_6 lnk_6 (by decide) (by decide) (by decide) (by decide) (by decide) ml_X0_54 ac_nat ac_stat ac_ini (Nat.le_of_ble_eq_true rfl) (Nat.le_of_ble_eq_true rfl) dX0_keepMark_20 (fun H locs hW hS => ?_)
  have e9 := Option.some.inj hf
  subst e9
  exact hret _ _ _ _ hW hS dX0_keepMark_23
