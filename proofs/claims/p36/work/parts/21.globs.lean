noncomputable def fX1_meetFile_35 (a1 : Int32) (o : Nat) (p2 : Nat) (t_2 : (Mem × Int32)) (C_35 : Mem) : Option ((Mem × Int32) ⊕ Mem) := some (.inl (C_35, (t_2.2 + (1 : Int32))))
noncomputable def fX1_meetFile_2 (a1 : Int32) (o : Nat) (p2 : Nat) : (Mem × Int32) → Option ((Mem × Int32) ⊕ Mem) := fun t_2 => cnd ((t_2.1 o 3) ≤ t_2.2) (exR (some t_2.1)) (chk (vp_in t_2.2 (ln o)) (bnd (fX6_covers t_2.1 (o + 3 + 2 * t_2.2.toNatClampNeg) p2) fun q17 => cnd (q17 = (0 : Int32)) (fX1_meetFile_35 a1 o p2 t_2 t_2.1) (chk (vp_in t_2.2 (ln o)) (chk (vp_in t_2.2 (ln o)) (fX1_meetFile_35 a1 o p2 t_2 (mset t_2.1 (o + 2) t_2.2.toNatClampNeg ((t_2.1 (o + 2) t_2.2.toNatClampNeg) ||| ((1 : Int32) <<< (a1 &&& 31)))))))))
noncomputable def fX1_meetFile (C : Mem) (o : Nat) (a1 : Int32) (p2 : Nat) : Option Mem := lp (fX1_meetFile_2 a1 o p2) (C, (0 : Int32))
abbrev rm_X1_meetFile : Room := { frames := 3, cells := 0, slots := 0, locals := 70 }
set_option maxRecDepth 100000 in
set_option maxHeartbeats 4000000 in
theorem c_X1_meetFile (l : Launch) (Γ : gx_G) (C M : Mem) {o : Nat} (ho : shp o = 9) (a1 : Int32) {p2 : Nat} (hp2 : shp p2 = 1) {y0 : Mem} (hf : fX1_meetFile C o a1 p2 = some y0) : Met l yX1_meetFile (.code yX1_meetFile cX1_meetFile 4 none :: TsG) rm_X1_meetFile (va_Pc [.ref (Γ.1 o), .int a1, .ref (Γ.1 p2)] (gx_P Γ C M)) (gx_Qv Γ y0 M) 0 0 (gA Γ) := by
  refine gm_v (by decide) (Nat.le_of_ble_eq_true rfl) ?_
  intro p e s m args below meth c Q S hG hret ls H locs hl hW hS
  obtain ⟨hx, hb, hml, hown, hts⟩ := id S
  have hl : lv_has ls 4 [(0, .ref (Γ.1 o)), (1, .int a1), (2, .ref (Γ.1 p2))] := hl
  unfold fX1_meetFile at hf
  refine lv_iconst (v := (0 : Int32)) hx hb dX1_meetFile_0 (by decide) ?_
  refine lv_istore_n (lv' := [(3, .int (0 : Int32)), (0, .ref (Γ.1 o)), (1, .int a1), (2, .ref (Γ.1 p2))]) hx hb dX1_meetFile_1 rfl hl (by decide) rfl (fun ls hl => ?_)
  have J_2 : ∀  (t_2 : Mem × Int32), lp (fX1_meetFile_2 a1 o p2) t_2 = some y0 → ∀ (H : Heap) (locs : List Loc) (ls : Array Slot), gx_W Γ t_2.1 M H → va_S (gA Γ) s.heap H locs → lv_has ls 4 [(0, .ref (Γ.1 o)), (1, .int a1), (2, .ref (Γ.1 p2)), (3, .int t_2.2)] → W p l e rm_X1_meetFile s m args below meth c H locs 0 0 Q (F0 m 2 ls []) := by
    refine lp_ind (P := fun (t_2 : Mem × Int32) => ∀ (H : Heap) (locs : List Loc) (ls : Array Slot), gx_W Γ t_2.1 M H → va_S (gA Γ) s.heap H locs → lv_has ls 4 [(0, .ref (Γ.1 o)), (1, .int a1), (2, .ref (Γ.1 p2)), (3, .int t_2.2)] → W p l e rm_X1_meetFile s m args below meth c H locs 0 0 Q (F0 m 2 ls [])) ?_
    intro t_2 y1 hf kI1 kX1 H locs ls hW hS hl
    unfold fX1_meetFile_2 at hf
    refine lv_iload_n hx hb dX1_meetFile_2 rfl (lv_at hl 3 rfl) ?_
    refine lv_aload_n hx hb dX1_meetFile_3 rfl (lv_at hl 0 rfl) ?_
    refine get_X1_3 S hG hW ho fl_X1_32 dX1_meetFile_4 ?_
    refine lv_icmp_ge (tgt := 41) hx hb dX1_meetFile_7 (by decide) (fun c7 => ?_) (fun c7 => ?_)
    · have hf := cn_t c7 hf
      obtain ⟨z7, hf, ez⟩ := exR_e hf
      rw [kX1 _ ez] at hf
      have e9 := Option.some.inj hf
      subst e9
      exact hret _ _ _ _ hW hS dX1_meetFile_41
    · have hf := cn_f c7 hf
      refine lv_aload_n hx hb dX1_meetFile_10 rfl (lv_at hl 0 rfl) ?_
      refine get_X1_0 S hG hW ho fl_X1_23 dX1_meetFile_11 ?_
      refine lv_iload_n hx hb dX1_meetFile_14 rfl (lv_at hl 3 rfl) ?_
      have g15 := ck_p hf
      have hf := ck_r hf
      refine ald_pat S hG hW ho g15 dX1_meetFile_15 ?_
      refine lv_aload_n hx hb dX1_meetFile_16 rfl (lv_at hl 2 rfl) ?_
      obtain ⟨q17, hq17, hf⟩ := bnd_e hf
      refine gk0_i hS (gv_run (rest := []) S hG hW hS [.ref (Γ.1 p2)] (c_X6_covers l Γ t_2.1 M (sh_gp ho (in_lt g15)) hp2 hq17) pk_X6_covers ml_X1_39 (sh_lt1 (sh_gp ho (in_lt g15))) (cc_1 (sh_gp ho (in_lt g15)) _ _) rfl rfl rfl ⟨Nat.le_of_ble_eq_true rfl, Nat.le_of_ble_eq_true rfl⟩ rfl hl.1 rfl (Nat.le_of_ble_eq_true rfl) dX1_meetFile_17 ⟨Nat.le_of_ble_eq_true rfl, Nat.le_of_ble_eq_true rfl⟩) (fun H locs hW hS => ?_)
      have J_35 : ∀ (C_35 : Mem) , fX1_meetFile_35 a1 o p2 t_2 C_35 = some y1 → ∀ (H : Heap) (locs : List Loc) (ls : Array Slot), gx_W Γ C_35 M H → va_S (gA Γ) s.heap H locs → lv_has ls 4 [(0, .ref (Γ.1 o)), (1, .int a1), (2, .ref (Γ.1 p2)), (3, .int t_2.2)] → W p l e rm_X1_meetFile s m args below meth c H locs 0 0 Q (F0 m 35 ls []) := by
        intro C_35 hf H locs ls hW hS hl
        unfold fX1_meetFile_35 at hf
        refine lv_iinc (v := (t_2.2 + (1 : Int32))) (lv' := [(3, .int (t_2.2 + (1 : Int32))), (0, .ref (Γ.1 o)), (1, .int a1), (2, .ref (Γ.1 p2))]) hx hb dX1_meetFile_35 hl (k := 3) rfl rfl (by decide) rfl (fun ls hl => ?_)
        refine lv_goto (tgt := 2) hx hb dX1_meetFile_38 (by decide) ?_
        exact kI1 _ (Option.some.inj hf).symm H locs ls hW hS (lv_sub hl [1, 2, 3, 0] rfl)
      refine lv_if_eq (tgt := 35) hx hb dX1_meetFile_20 (by decide) (fun c20 => ?_) (fun c20 => ?_)
      · have hf := cn_t c20 hf
        exact J_35 t_2.1 hf H locs ls hW hS (lv_sub hl [0, 1, 2, 3] rfl)
      · have hf := cn_f c20 hf
        refine lv_aload_n hx hb dX1_meetFile_23 rfl (lv_at hl 0 rfl) ?_
        refine get_X1_1 S hG hW ho fl_X1_27 dX1_meetFile_24 ?_
        refine lv_iload_n hx hb dX1_meetFile_27 rfl (lv_at hl 3 rfl) ?_
        refine lv_dup2_11 hx hb dX1_meetFile_28 rfl rfl ?_
        have g29 := ck_p hf
        have hf := ck_r hf
        refine ald_i S hG hW (sh_g2 ho) (ln_g2 ho) g29 dX1_meetFile_29 ?_
        refine lv_iconst (v := (1 : Int32)) hx hb dX1_meetFile_30 (by decide) ?_
        refine lv_iload_n hx hb dX1_meetFile_31 rfl (lv_at hl 1 rfl) ?_
        refine lv_ishl hx hb dX1_meetFile_32 ?_
        refine lv_ior hx hb dX1_meetFile_33 ?_
        have g34 := ck_p hf
        have hf := ck_r hf
        refine ast_i S hG hW hS (sh_g2 ho) (ln_g2 ho) g34 dX1_meetFile_34 (fun H locs hW hS => ?_)
        exact J_35 (mset t_2.1 (o + 2) t_2.2.toNatClampNeg ((t_2.1 (o + 2) t_2.2.toNatClampNeg) ||| ((1 : Int32) <<< (a1 &&& 31)))) hf H locs ls hW hS (lv_sub hl [0, 1, 2, 3] rfl)
  exact J_2 (C, (0 : Int32)) hf H locs ls hW hS (lv_sub hl [1, 2, 3, 0] rfl)
noncomputable def fX1_isFull (C : Mem) (o : Nat) : Int32 := cnd ((C o 3) < (C o 2)) ((0 : Int32)) ((1 : Int32))
abbrev rm_X1_isFull : Room := { frames := 0, cells := 0, slots := 0, locals := 0 }
set_option maxRecDepth 100000 in
set_option maxHeartbeats 4000000 in
theorem c_X1_isFull (l : Launch) (Γ : gx_G) (C M : Mem) {o : Nat} (ho : shp o = 9) : Met l yX1_isFull (.code yX1_isFull cX1_isFull 1 (some .boolean) :: TsG) rm_X1_isFull (va_Pc [.ref (Γ.1 o)] (gx_P Γ C M)) (gx_Qi Γ (fX1_isFull C o) C M) 0 0 (gA Γ) := by
  refine gm_i (by decide) (Nat.le_of_ble_eq_true rfl) ?_
  intro p e s m args below meth c Q S hG hret ls H locs hl hW hS
  obtain ⟨hx, hb, hml, hown, hts⟩ := id S
  have hl : lv_has ls 1 [(0, .ref (Γ.1 o))] := hl
  generalize hy0 : fX1_isFull C o = y0 at hret
  have hf := hy0
  unfold fX1_isFull at hf
  refine lv_aload_n hx hb dX1_isFull_0 rfl (lv_at hl 0 rfl) ?_
  refine get_X1_3 S hG hW ho fl_X1_32 dX1_isFull_1 ?_
  refine lv_aload_n hx hb dX1_isFull_4 rfl (lv_at hl 0 rfl) ?_
  refine get_X1_2 S hG hW ho fl_X1_15 dX1_isFull_5 ?_
  refine lv_icmp_lt (tgt := 15) hx hb dX1_isFull_8 (by decide) (fun c8 => ?_) (fun c8 => ?_)
  · have hf := cn_t c8 hf
    refine lv_iconst (v := (0 : Int32)) hx hb dX1_isFull_15 (by decide) ?_
    exact hret _ _ _ _ _ hW hS rfl hf dX1_isFull_16
  · have hf := cn_f c8 hf
    refine lv_iconst (v := (1 : Int32)) hx hb dX1_isFull_11 (by decide) ?_
    refine lv_goto (tgt := 16) hx hb dX1_isFull_12 (by decide) ?_
    exact hret _ _ _ _ _ hW hS rfl hf dX1_isFull_16
noncomputable def fX1_add (C : Mem) (o : Nat) (p1 : Nat) (a2 : Int32) : Option Mem := chk (vp_in (C o 3) (ln o)) (bnd (fX6_copyFrom C (o + 3 + 2 * (C o 3).toNatClampNeg) p1) fun q10 => chk (vp_in (q10 o 3) (ln o)) (some (mset (mset q10 (o + 2) (q10 o 3).toNatClampNeg a2) o 3 (((mset q10 (o + 2) (q10 o 3).toNatClampNeg a2) o 3) + (1 : Int32)))))
abbrev rm_X1_add : Room := { frames := 1, cells := 0, slots := 0, locals := 22 }
set_option maxRecDepth 100000 in
set_option maxHeartbeats 4000000 in
theorem c_X1_add (l : Launch) (Γ : gx_G) (C M : Mem) {o : Nat} (ho : shp o = 9) {p1 : Nat} (hp1 : shp p1 = 1) (a2 : Int32) {y0 : Mem} (hf : fX1_add C o p1 a2 = some y0) : Met l yX1_add (.code yX1_add cX1_add 3 none :: TsG) rm_X1_add (va_Pc [.ref (Γ.1 o), .ref (Γ.1 p1), .int a2] (gx_P Γ C M)) (gx_Qv Γ y0 M) 0 0 (gA Γ) := by
  refine gm_v (by decide) (Nat.le_of_ble_eq_true rfl) ?_
  intro p e s m args below meth c Q S hG hret ls H locs hl hW hS
  obtain ⟨hx, hb, hml, hown, hts⟩ := id S
  have hl : lv_has ls 3 [(0, .ref (Γ.1 o)), (1, .ref (Γ.1 p1)), (2, .int a2)] := hl
  unfold fX1_add at hf
  refine lv_aload_n hx hb dX1_add_0 rfl (lv_at hl 0 rfl) ?_
  refine get_X1_0 S hG hW ho fl_X1_23 dX1_add_1 ?_
  refine lv_aload_n hx hb dX1_add_4 rfl (lv_at hl 0 rfl) ?_
  refine get_X1_3 S hG hW ho fl_X1_32 dX1_add_5 ?_
  have g8 := ck_p hf
  have hf := ck_r hf
  refine ald_pat S hG hW ho g8 dX1_add_8 ?_
  refine lv_aload_n hx hb dX1_add_9 rfl (lv_at hl 1 rfl) ?_
  obtain ⟨q10, hq10, hf⟩ := bnd_e hf
  refine gk0_v hS (gv_run (rest := []) S hG hW hS [.ref (Γ.1 p1)] (c_X6_copyFrom l Γ C M (sh_gp ho (in_lt g8)) hp1 hq10) pk_X6_copyFrom ml_X1_35 (sh_lt1 (sh_gp ho (in_lt g8))) (cc_1 (sh_gp ho (in_lt g8)) _ _) rfl rfl rfl ⟨Nat.le_of_ble_eq_true rfl, Nat.le_of_ble_eq_true rfl⟩ rfl hl.1 rfl (Nat.le_of_ble_eq_true rfl) dX1_add_10 ⟨Nat.le_of_ble_eq_true rfl, Nat.le_of_ble_eq_true rfl⟩) (fun H locs hW hS => ?_)
  refine lv_aload_n hx hb dX1_add_13 rfl (lv_at hl 0 rfl) ?_
  refine get_X1_1 S hG hW ho fl_X1_27 dX1_add_14 ?_
  refine lv_aload_n hx hb dX1_add_17 rfl (lv_at hl 0 rfl) ?_
  refine get_X1_3 S hG hW ho fl_X1_32 dX1_add_18 ?_
  refine lv_iload_n hx hb dX1_add_21 rfl (lv_at hl 2 rfl) ?_
  have g22 := ck_p hf
  have hf := ck_r hf
  refine ast_i S hG hW hS (sh_g2 ho) (ln_g2 ho) g22 dX1_add_22 (fun H locs hW hS => ?_)
  refine lv_aload_n hx hb dX1_add_23 rfl (lv_at hl 0 rfl) ?_
  refine lv_dup hx hb dX1_add_24 rfl ?_
  refine get_X1_3 S hG hW ho fl_X1_32 dX1_add_25 ?_
  refine lv_iconst (v := (1 : Int32)) hx hb dX1_add_28 (by decide) ?_
  refine lv_iadd hx hb dX1_add_29 ?_
  refine put_X1_3 S hG hW hS ho fl_X1_32 dX1_add_30 (fun H locs hW hS => ?_)
  have e9 := Option.some.inj hf
  subst e9
  exact hret _ _ _ _ hW hS dX1_add_33
noncomputable def fX1_covered_4 (C : Mem) (o : Nat) : (Int32 × Int32) → Option ((Int32 × Int32) ⊕ Int32) := fun t_4 => cnd ((C o 3) ≤ t_4.2) (exR (some t_4.1)) (chk (vp_in t_4.2 (ln o)) (nmv ((t_4.1 ||| (C (o + 2) t_4.2.toNatClampNeg))) fun v20 => some (.inl (v20, (t_4.2 + (1 : Int32))))))
noncomputable def fX1_covered (C : Mem) (o : Nat) : Option Int32 := lp (fX1_covered_4 C o) ((0 : Int32), (0 : Int32))
abbrev rm_X1_covered : Room := { frames := 0, cells := 0, slots := 0, locals := 0 }
set_option maxRecDepth 100000 in
set_option maxHeartbeats 4000000 in
theorem c_X1_covered (l : Launch) (Γ : gx_G) (C M : Mem) {o : Nat} (ho : shp o = 9) {y0 : Int32} (hf : fX1_covered C o = some y0) : Met l yX1_covered (.code yX1_covered cX1_covered 3 (some .int) :: TsG) rm_X1_covered (va_Pc [.ref (Γ.1 o)] (gx_P Γ C M)) (gx_Qi Γ y0 C M) 0 0 (gA Γ) := by
  refine gm_i (by decide) (Nat.le_of_ble_eq_true rfl) ?_
  intro p e s m args below meth c Q S hG hret ls H locs hl hW hS
  obtain ⟨hx, hb, hml, hown, hts⟩ := id S
  have hl : lv_has ls 3 [(0, .ref (Γ.1 o))] := hl
  unfold fX1_covered at hf
  refine lv_iconst (v := (0 : Int32)) hx hb dX1_covered_0 (by decide) ?_
  refine lv_istore_n (lv' := [(1, .int (0 : Int32)), (0, .ref (Γ.1 o))]) hx hb dX1_covered_1 rfl hl (by decide) rfl (fun ls hl => ?_)
  refine lv_iconst (v := (0 : Int32)) hx hb dX1_covered_2 (by decide) ?_
  refine lv_istore_n (lv' := [(2, .int (0 : Int32)), (1, .int (0 : Int32)), (0, .ref (Γ.1 o))]) hx hb dX1_covered_3 rfl hl (by decide) rfl (fun ls hl => ?_)
  have J_4 : ∀  (t_4 : Int32 × Int32), lp (fX1_covered_4 C o) t_4 = some y0 → ∀ (H : Heap) (locs : List Loc) (ls : Array Slot), gx_W Γ C M H → va_S (gA Γ) s.heap H locs → lv_has ls 3 [(0, .ref (Γ.1 o)), (1, .int t_4.1), (2, .int t_4.2)] → W p l e rm_X1_covered s m args below meth c H locs 0 0 Q (F0 m 4 ls []) := by
    refine lp_ind (P := fun (t_4 : Int32 × Int32) => ∀ (H : Heap) (locs : List Loc) (ls : Array Slot), gx_W Γ C M H → va_S (gA Γ) s.heap H locs → lv_has ls 3 [(0, .ref (Γ.1 o)), (1, .int t_4.1), (2, .int t_4.2)] → W p l e rm_X1_covered s m args below meth c H locs 0 0 Q (F0 m 4 ls [])) ?_
    intro t_4 y1 hf kI1 kX1 H locs ls hW hS hl
    unfold fX1_covered_4 at hf
    refine lv_iload_n hx hb dX1_covered_4 rfl (lv_at hl 2 rfl) ?_
    refine lv_aload_n hx hb dX1_covered_5 rfl (lv_at hl 0 rfl) ?_
    refine get_X1_3 S hG hW ho fl_X1_32 dX1_covered_6 ?_
    refine lv_icmp_ge (tgt := 27) hx hb dX1_covered_9 (by decide) (fun c9 => ?_) (fun c9 => ?_)
    · have hf := cn_t c9 hf
      obtain ⟨z9, hf, ez⟩ := exR_e hf
      rw [kX1 _ ez] at hf
      refine lv_iload_n hx hb dX1_covered_27 rfl (lv_at hl 1 rfl) ?_
      exact hret _ _ _ _ _ hW hS rfl (Option.some.inj hf) dX1_covered_28
    · have hf := cn_f c9 hf
      refine lv_iload_n hx hb dX1_covered_12 rfl (lv_at hl 1 rfl) ?_
      refine lv_aload_n hx hb dX1_covered_13 rfl (lv_at hl 0 rfl) ?_
      refine get_X1_1 S hG hW ho fl_X1_27 dX1_covered_14 ?_
      refine lv_iload_n hx hb dX1_covered_17 rfl (lv_at hl 2 rfl) ?_
      have g18 := ck_p hf
      have hf := ck_r hf
      refine ald_i S hG hW (sh_g2 ho) (ln_g2 ho) g18 dX1_covered_18 ?_
      refine lv_ior hx hb dX1_covered_19 ?_
      refine lv_topi (fun v20 ev20 => ?_)
      have hf := nm_v ev20 hf
      refine lv_istore_n (lv' := [(1, .int v20), (0, .ref (Γ.1 o)), (2, .int t_4.2)]) hx hb dX1_covered_20 rfl hl (by decide) rfl (fun ls hl => ?_)
      refine lv_iinc (v := (t_4.2 + (1 : Int32))) (lv' := [(2, .int (t_4.2 + (1 : Int32))), (1, .int v20), (0, .ref (Γ.1 o))]) hx hb dX1_covered_21 hl (k := 2) rfl rfl (by decide) rfl (fun ls hl => ?_)
      refine lv_goto (tgt := 4) hx hb dX1_covered_24 (by decide) ?_
      exact kI1 _ (Option.some.inj hf).symm H locs ls hW hS (lv_sub hl [2, 1, 0] rfl)
  exact J_4 ((0 : Int32), (0 : Int32)) hf H locs ls hW hS (lv_sub hl [2, 1, 0] rfl)
noncomputable def fX1_size (C : Mem) (o : Nat) : Int32 := (C o 3)
abbrev rm_X1_size : Room := { frames := 0, cells := 0, slots := 0, locals := 0 }
set_option maxRecDepth 100000 in
set_option maxHeartbeats 4000000 in
theorem c_X1_size (l : Launch) (Γ : gx_G) (C M : Mem) {o : Nat} (ho : shp o = 9) : Met l yX1_size (.code yX1_size cX1_size 1 (some .int) :: TsG) rm_X1_size (va_Pc [.ref (Γ.1 o)] (gx_P Γ C M)) (gx_Qi Γ (fX1_size C o) C M) 0 0 (gA Γ) := by
  refine gm_i (by decide) (Nat.le_of_ble_eq_true rfl) ?_
  intro p e s m args below meth c Q S hG hret ls H locs hl hW hS
  obtain ⟨hx, hb, hml, hown, hts⟩ := id S
  have hl : lv_has ls 1 [(0, .ref (Γ.1 o))] := hl
  generalize hy0 : fX1_size C o = y0 at hret
  have hf := hy0
  unfold fX1_size at hf
  refine lv_aload_n hx hb dX1_size_0 rfl (lv_at hl 0 rfl) ?_
  refine get_X1_3 S hG hW ho fl_X1_32 dX1_size_1 ?_
  exact hret _ _ _ _ _ hW hS rfl hf dX1_size_4
noncomputable def fX1_latestCovering_7 (C : Mem) (a1 : Int32) (o : Nat) : (Int32) → Option ((Int32) ⊕ Int32) := fun t_7 => cnd (t_7 < (0 : Int32)) (exR (some (-1 : Int32))) (chk (vp_in t_7 (ln o)) (cnd ((fX7_holds (C (o + 2) t_7.toNatClampNeg) a1) = (0 : Int32)) (some (.inl (t_7 + (-1 : Int32)))) (exR (some t_7))))
noncomputable def fX1_latestCovering (C : Mem) (o : Nat) (a1 : Int32) : Option Int32 := nmv (((C o 3) - (1 : Int32))) fun v6 => lp (fX1_latestCovering_7 C a1 o) v6
abbrev rm_X1_latestCovering : Room := { frames := 1, cells := 0, slots := 0, locals := 21 }
set_option maxRecDepth 100000 in
set_option maxHeartbeats 4000000 in
theorem c_X1_latestCovering (l : Launch) (Γ : gx_G) (C M : Mem) {o : Nat} (ho : shp o = 9) (a1 : Int32) {y0 : Int32} (hf : fX1_latestCovering C o a1 = some y0) : Met l yX1_latestCovering (.code yX1_latestCovering cX1_latestCovering 3 (some .int) :: TsG) rm_X1_latestCovering (va_Pc [.ref (Γ.1 o), .int a1] (gx_P Γ C M)) (gx_Qi Γ y0 C M) 0 0 (gA Γ) := by
  refine gm_i (by decide) (Nat.le_of_ble_eq_true rfl) ?_
  intro p e s m args below meth c Q S hG hret ls H locs hl hW hS
  obtain ⟨hx, hb, hml, hown, hts⟩ := id S
  have hl : lv_has ls 3 [(0, .ref (Γ.1 o)), (1, .int a1)] := hl
  unfold fX1_latestCovering at hf
  refine lv_aload_n hx hb dX1_latestCovering_0 rfl (lv_at hl 0 rfl) ?_
  refine get_X1_3 S hG hW ho fl_X1_32 dX1_latestCovering_1 ?_
  refine lv_iconst (v := (1 : Int32)) hx hb dX1_latestCovering_4 (by decide) ?_
  refine lv_isub hx hb dX1_latestCovering_5 ?_
  refine lv_topi (fun v6 ev6 => ?_)
  have hf := nm_v ev6 hf
  refine lv_istore_n (lv' := [(2, .int v6), (0, .ref (Γ.1 o)), (1, .int a1)]) hx hb dX1_latestCovering_6 rfl hl (by decide) rfl (fun ls hl => ?_)
  have J_7 : ∀  (t_7 : Int32), lp (fX1_latestCovering_7 C a1 o) t_7 = some y0 → ∀ (H : Heap) (locs : List Loc) (ls : Array Slot), gx_W Γ C M H → va_S (gA Γ) s.heap H locs → lv_has ls 3 [(0, .ref (Γ.1 o)), (1, .int a1), (2, .int t_7)] → W p l e rm_X1_latestCovering s m args below meth c H locs 0 0 Q (F0 m 7 ls []) := by
    refine lp_ind (P := fun (t_7 : Int32) => ∀ (H : Heap) (locs : List Loc) (ls : Array Slot), gx_W Γ C M H → va_S (gA Γ) s.heap H locs → lv_has ls 3 [(0, .ref (Γ.1 o)), (1, .int a1), (2, .int t_7)] → W p l e rm_X1_latestCovering s m args below meth c H locs 0 0 Q (F0 m 7 ls [])) ?_
    intro t_7 y1 hf kI1 kX1 H locs ls hW hS hl
    unfold fX1_latestCovering_7 at hf
    refine lv_iload_n hx hb dX1_latestCovering_7 rfl (lv_at hl 2 rfl) ?_
    refine lv_if_lt (tgt := 32) hx hb dX1_latestCovering_8 (by decide) (fun c8 => ?_) (fun c8 => ?_)
    · have hf := cn_t c8 hf
      obtain ⟨z8, hf, ez⟩ := exR_e hf
      rw [kX1 _ ez] at hf
      refine lv_iconst (v := (-1 : Int32)) hx hb dX1_latestCovering_32 (by decide) ?_
      exact hret _ _ _ _ _ hW hS rfl (Option.some.inj hf) dX1_latestCovering_33
    · have hf := cn_f c8 hf
      refine lv_aload_n hx hb dX1_latestCovering_11 rfl (lv_at hl 0 rfl) ?_
      refine get_X1_1 S hG hW ho fl_X1_27 dX1_latestCovering_12 ?_
      refine lv_iload_n hx hb dX1_latestCovering_15 rfl (lv_at hl 2 rfl) ?_
      have g16 := ck_p hf
      have hf := ck_r hf
      refine ald_i S hG hW (sh_g2 ho) (ln_g2 ho) g16 dX1_latestCovering_16 ?_
      refine lv_iload_n hx hb dX1_latestCovering_17 rfl (lv_at hl 1 rfl) ?_
      refine gk0_i hS (gn_run (rest := []) S hG hW hS [.int (C (o + 2) t_7.toNatClampNeg), .int a1] (c_X7_holds l Γ C M (C (o + 2) t_7.toNatClampNeg) a1) pk_X7_holds nl_X1_43 rfl rfl ⟨Nat.le_of_ble_eq_true rfl, Nat.le_of_ble_eq_true rfl⟩ rfl hl.1 rfl (Nat.le_of_ble_eq_true rfl) dX1_latestCovering_18 ⟨Nat.le_of_ble_eq_true rfl, Nat.le_of_ble_eq_true rfl⟩) (fun H locs hW hS => ?_)
      refine lv_if_eq (tgt := 26) hx hb dX1_latestCovering_21 (by decide) (fun c21 => ?_) (fun c21 => ?_)
      · have hf := cn_t c21 hf
        refine lv_iinc (v := (t_7 + (-1 : Int32))) (lv' := [(2, .int (t_7 + (-1 : Int32))), (0, .ref (Γ.1 o)), (1, .int a1)]) hx hb dX1_latestCovering_26 hl (k := 2) rfl rfl (by decide) rfl (fun ls hl => ?_)
        refine lv_goto (tgt := 7) hx hb dX1_latestCovering_29 (by decide) ?_
        exact kI1 _ (Option.some.inj hf).symm H locs ls hW hS (lv_sub hl [1, 2, 0] rfl)
      · have hf := cn_f c21 hf
        obtain ⟨z21, hf, ez⟩ := exR_e hf
        rw [kX1 _ ez] at hf
        refine lv_iload_n hx hb dX1_latestCovering_24 rfl (lv_at hl 2 rfl) ?_
        exact hret _ _ _ _ _ hW hS rfl (Option.some.inj hf) dX1_latestCovering_25
  exact J_7 v6 hf H locs ls hW hS (lv_sub hl [1, 2, 0] rfl)
