noncomputable def fX2_meetFile_2 (a1 : Int32) (p2 : Nat) : (Mem × Int32) → Option ((Mem × Int32) ⊕ Mem) := fun t_2 => cnd ((t_2.1 55 4) ≤ t_2.2) (exR (some t_2.1)) (chk (vp_in t_2.2 16) (bnd (fX1_meetFile t_2.1 (60 + 11 * t_2.2.toNatClampNeg) a1 p2) fun q18 => some (.inl (q18, (t_2.2 + (1 : Int32))))))
noncomputable def fX2_meetFile (C : Mem) (a1 : Int32) (p2 : Nat) : Option Mem := lp (fX2_meetFile_2 a1 p2) (C, (0 : Int32))
abbrev rm_X2_meetFile : Room := { frames := 4, cells := 0, slots := 0, locals := 93 }
set_option maxRecDepth 100000 in
set_option maxHeartbeats 4000000 in
theorem c_X2_meetFile (l : Launch) (Γ : gx_G) (C M : Mem) (a1 : Int32) {p2 : Nat} (hp2 : shp p2 = 1) {y0 : Mem} (hf : fX2_meetFile C a1 p2 = some y0) : Met l yX2_meetFile (.code yX2_meetFile cX2_meetFile 4 none :: TsG) rm_X2_meetFile (va_Pc [.ref (Γ.1 55), .int a1, .ref (Γ.1 p2)] (gx_P Γ C M)) (gx_Qv Γ y0 M) 0 0 (gA Γ) := by
  refine gm_v (by decide) (Nat.le_of_ble_eq_true rfl) ?_
  intro p e s m args below meth c Q S hG hret ls H locs hl hW hS
  obtain ⟨hx, hb, hml, hown, hts⟩ := id S
  have hl : lv_has ls 4 [(0, .ref (Γ.1 55)), (1, .int a1), (2, .ref (Γ.1 p2))] := hl
  unfold fX2_meetFile at hf
  refine lv_iconst (v := (0 : Int32)) hx hb dX2_meetFile_0 (by decide) ?_
  refine lv_istore_n (lv' := [(3, .int (0 : Int32)), (0, .ref (Γ.1 55)), (1, .int a1), (2, .ref (Γ.1 p2))]) hx hb dX2_meetFile_1 rfl hl (by decide) rfl (fun ls hl => ?_)
  have J_2 : ∀  (t_2 : Mem × Int32), lp (fX2_meetFile_2 a1 p2) t_2 = some y0 → ∀ (H : Heap) (locs : List Loc) (ls : Array Slot), gx_W Γ t_2.1 M H → va_S (gA Γ) s.heap H locs → lv_has ls 4 [(0, .ref (Γ.1 55)), (1, .int a1), (2, .ref (Γ.1 p2)), (3, .int t_2.2)] → W p l e rm_X2_meetFile s m args below meth c H locs 0 0 Q (F0 m 2 ls []) := by
    refine lp_ind (P := fun (t_2 : Mem × Int32) => ∀ (H : Heap) (locs : List Loc) (ls : Array Slot), gx_W Γ t_2.1 M H → va_S (gA Γ) s.heap H locs → lv_has ls 4 [(0, .ref (Γ.1 55)), (1, .int a1), (2, .ref (Γ.1 p2)), (3, .int t_2.2)] → W p l e rm_X2_meetFile s m args below meth c H locs 0 0 Q (F0 m 2 ls [])) ?_
    intro t_2 y1 hf kI1 kX1 H locs ls hW hS hl
    unfold fX2_meetFile_2 at hf
    refine lv_iload_n hx hb dX2_meetFile_2 rfl (lv_at hl 3 rfl) ?_
    refine lv_aload_n hx hb dX2_meetFile_3 rfl (lv_at hl 0 rfl) ?_
    refine get_X2_4 S hG hW fl_X2_30 dX2_meetFile_4 ?_
    refine lv_icmp_ge (tgt := 27) hx hb dX2_meetFile_7 (by decide) (fun c7 => ?_) (fun c7 => ?_)
    · have hf := cn_t c7 hf
      obtain ⟨z7, hf, ez⟩ := exR_e hf
      rw [kX1 _ ez] at hf
      have e9 := Option.some.inj hf
      subst e9
      exact hret _ _ _ _ hW hS dX2_meetFile_27
    · have hf := cn_f c7 hf
      refine lv_aload_n hx hb dX2_meetFile_10 rfl (lv_at hl 0 rfl) ?_
      refine get_X2_2 S hG hW fl_X2_20 dX2_meetFile_11 ?_
      refine lv_iload_n hx hb dX2_meetFile_14 rfl (lv_at hl 3 rfl) ?_
      have g15 := ck_p hf
      have hf := ck_r hf
      refine ald_globs S hG hW g15 dX2_meetFile_15 ?_
      refine lv_iload_n hx hb dX2_meetFile_16 rfl (lv_at hl 1 rfl) ?_
      refine lv_aload_n hx hb dX2_meetFile_17 rfl (lv_at hl 2 rfl) ?_
      obtain ⟨q18, hq18, hf⟩ := bnd_e hf
      refine gk0_v hS (gv_run (rest := []) S hG hW hS [.int a1, .ref (Γ.1 p2)] (c_X1_meetFile l Γ t_2.1 M (sh_glob (in_lt g15)) a1 hp2 hq18) pk_X1_meetFile ml_X2_34 (sh_lt9 (sh_glob (in_lt g15))) (cc_9 (sh_glob (in_lt g15)) _ _) rfl rfl rfl ⟨Nat.le_of_ble_eq_true rfl, Nat.le_of_ble_eq_true rfl⟩ rfl hl.1 rfl (Nat.le_of_ble_eq_true rfl) dX2_meetFile_18 ⟨Nat.le_of_ble_eq_true rfl, Nat.le_of_ble_eq_true rfl⟩) (fun H locs hW hS => ?_)
      refine lv_iinc (v := (t_2.2 + (1 : Int32))) (lv' := [(3, .int (t_2.2 + (1 : Int32))), (0, .ref (Γ.1 55)), (1, .int a1), (2, .ref (Γ.1 p2))]) hx hb dX2_meetFile_21 hl (k := 3) rfl rfl (by decide) rfl (fun ls hl => ?_)
      refine lv_goto (tgt := 2) hx hb dX2_meetFile_24 (by decide) ?_
      exact kI1 _ (Option.some.inj hf).symm H locs ls hW hS (lv_sub hl [1, 2, 3, 0] rfl)
  exact J_2 (C, (0 : Int32)) hf H locs ls hW hS (lv_sub hl [1, 2, 3, 0] rfl)
noncomputable def fX2_isFull (C : Mem) : Int32 := cnd ((C 55 4) < (16 : Int32)) ((0 : Int32)) ((1 : Int32))
abbrev rm_X2_isFull : Room := { frames := 0, cells := 0, slots := 0, locals := 0 }
set_option maxRecDepth 100000 in
set_option maxHeartbeats 4000000 in
theorem c_X2_isFull (l : Launch) (Γ : gx_G) (C M : Mem)  : Met l yX2_isFull (.code yX2_isFull cX2_isFull 1 (some .boolean) :: TsG) rm_X2_isFull (va_Pc [.ref (Γ.1 55)] (gx_P Γ C M)) (gx_Qi Γ (fX2_isFull C) C M) 0 0 (gA Γ) := by
  refine gm_i (by decide) (Nat.le_of_ble_eq_true rfl) ?_
  intro p e s m args below meth c Q S hG hret ls H locs hl hW hS
  obtain ⟨hx, hb, hml, hown, hts⟩ := id S
  have hl : lv_has ls 1 [(0, .ref (Γ.1 55))] := hl
  generalize hy0 : fX2_isFull C = y0 at hret
  have hf := hy0
  unfold fX2_isFull at hf
  refine lv_aload_n hx hb dX2_isFull_0 rfl (lv_at hl 0 rfl) ?_
  refine get_X2_4 S hG hW fl_X2_30 dX2_isFull_1 ?_
  refine lv_bipush (v := (16 : Int32)) hx hb dX2_isFull_4 (by decide) ?_
  refine lv_icmp_lt (tgt := 13) hx hb dX2_isFull_6 (by decide) (fun c6 => ?_) (fun c6 => ?_)
  · have hf := cn_t c6 hf
    refine lv_iconst (v := (0 : Int32)) hx hb dX2_isFull_13 (by decide) ?_
    exact hret _ _ _ _ _ hW hS rfl hf dX2_isFull_14
  · have hf := cn_f c6 hf
    refine lv_iconst (v := (1 : Int32)) hx hb dX2_isFull_9 (by decide) ?_
    refine lv_goto (tgt := 14) hx hb dX2_isFull_10 (by decide) ?_
    exact hret _ _ _ _ _ hW hS rfl hf dX2_isFull_14
noncomputable def fX2_add (C : Mem) (a1 : Int32) : Option (Int32 × Mem) := nmv ((C 55 4)) fun v4 => chk (vp_in v4 16) (some (v4, (mset (mset C 56 v4.toNatClampNeg a1) 55 4 (((mset C 56 v4.toNatClampNeg a1) 55 4) + (1 : Int32)))))
abbrev rm_X2_add : Room := { frames := 0, cells := 0, slots := 0, locals := 0 }
set_option maxRecDepth 100000 in
set_option maxHeartbeats 4000000 in
theorem c_X2_add (l : Launch) (Γ : gx_G) (C M : Mem) (a1 : Int32) {y0 : (Int32 × Mem)} (hf : fX2_add C a1 = some y0) : Met l yX2_add (.code yX2_add cX2_add 3 (some .int) :: TsG) rm_X2_add (va_Pc [.ref (Γ.1 55), .int a1] (gx_P Γ C M)) (gx_Qi Γ y0.1 y0.2 M) 0 0 (gA Γ) := by
  refine gm_i (by decide) (Nat.le_of_ble_eq_true rfl) ?_
  intro p e s m args below meth c Q S hG hret ls H locs hl hW hS
  obtain ⟨hx, hb, hml, hown, hts⟩ := id S
  have hl : lv_has ls 3 [(0, .ref (Γ.1 55)), (1, .int a1)] := hl
  unfold fX2_add at hf
  refine lv_aload_n hx hb dX2_add_0 rfl (lv_at hl 0 rfl) ?_
  refine get_X2_4 S hG hW fl_X2_30 dX2_add_1 ?_
  refine lv_topi (fun v4 ev4 => ?_)
  have hf := nm_v ev4 hf
  refine lv_istore_n (lv' := [(2, .int v4), (0, .ref (Γ.1 55)), (1, .int a1)]) hx hb dX2_add_4 rfl hl (by decide) rfl (fun ls hl => ?_)
  refine lv_aload_n hx hb dX2_add_5 rfl (lv_at hl 1 rfl) ?_
  refine get_X2_0 S hG hW fl_X2_9 dX2_add_6 ?_
  refine lv_iload_n hx hb dX2_add_9 rfl (lv_at hl 0 rfl) ?_
  refine lv_iload_n hx hb dX2_add_10 rfl (lv_at hl 2 rfl) ?_
  have g11 := ck_p hf
  have hf := ck_r hf
  refine ast_i S hG hW hS shk_56 lnk_56 g11 dX2_add_11 (fun H locs hW hS => ?_)
  refine lv_aload_n hx hb dX2_add_12 rfl (lv_at hl 1 rfl) ?_
  refine lv_dup hx hb dX2_add_13 rfl ?_
  refine get_X2_4 S hG hW fl_X2_30 dX2_add_14 ?_
  refine lv_iconst (v := (1 : Int32)) hx hb dX2_add_17 (by decide) ?_
  refine lv_iadd hx hb dX2_add_18 ?_
  refine put_X2_4 S hG hW hS fl_X2_30 dX2_add_19 (fun H locs hW hS => ?_)
  refine lv_iload_n hx hb dX2_add_22 rfl (lv_at hl 0 rfl) ?_
  have e9 := Option.some.inj hf
  subst e9
  exact hret _ _ _ _ _ hW hS rfl rfl dX2_add_23
noncomputable def fX2_has_16 (C : Mem) : Int32 := (0 : Int32)
noncomputable def fX2_has (C : Mem) (a1 : Int32) : Int32 := cnd (a1 < (0 : Int32)) (fX2_has_16 C) (cnd ((C 55 4) ≤ a1) (fX2_has_16 C) ((1 : Int32)))
abbrev rm_X2_has : Room := { frames := 0, cells := 0, slots := 0, locals := 0 }
set_option maxRecDepth 100000 in
set_option maxHeartbeats 4000000 in
theorem c_X2_has (l : Launch) (Γ : gx_G) (C M : Mem) (a1 : Int32) : Met l yX2_has (.code yX2_has cX2_has 2 (some .boolean) :: TsG) rm_X2_has (va_Pc [.ref (Γ.1 55), .int a1] (gx_P Γ C M)) (gx_Qi Γ (fX2_has C a1) C M) 0 0 (gA Γ) := by
  refine gm_i (by decide) (Nat.le_of_ble_eq_true rfl) ?_
  intro p e s m args below meth c Q S hG hret ls H locs hl hW hS
  obtain ⟨hx, hb, hml, hown, hts⟩ := id S
  have hl : lv_has ls 2 [(0, .ref (Γ.1 55)), (1, .int a1)] := hl
  generalize hy0 : fX2_has C a1 = y0 at hret
  have hf := hy0
  unfold fX2_has at hf
  refine lv_iload_n hx hb dX2_has_0 rfl (lv_at hl 1 rfl) ?_
  have J_16 : fX2_has_16 C = y0 → ∀ (H : Heap) (locs : List Loc) (ls : Array Slot), gx_W Γ C M H → va_S (gA Γ) s.heap H locs → lv_has ls 2 [] → W p l e rm_X2_has s m args below meth c H locs 0 0 Q (F0 m 16 ls []) := by
    intro  hf H locs ls hW hS hl
    unfold fX2_has_16 at hf
    refine lv_iconst (v := (0 : Int32)) hx hb dX2_has_16 (by decide) ?_
    exact hret _ _ _ _ _ hW hS rfl hf dX2_has_17
  refine lv_if_lt (tgt := 16) hx hb dX2_has_1 (by decide) (fun c1 => ?_) (fun c1 => ?_)
  · have hf := cn_t c1 hf
    exact J_16  hf H locs ls hW hS (lv_sub hl [] rfl)
  · have hf := cn_f c1 hf
    refine lv_iload_n hx hb dX2_has_4 rfl (lv_at hl 1 rfl) ?_
    refine lv_aload_n hx hb dX2_has_5 rfl (lv_at hl 0 rfl) ?_
    refine get_X2_4 S hG hW fl_X2_30 dX2_has_6 ?_
    refine lv_icmp_ge (tgt := 16) hx hb dX2_has_9 (by decide) (fun c9 => ?_) (fun c9 => ?_)
    · have hf := cn_t c9 hf
      exact J_16  hf H locs ls hW hS (lv_sub hl [] rfl)
    · have hf := cn_f c9 hf
      refine lv_iconst (v := (1 : Int32)) hx hb dX2_has_12 (by decide) ?_
      refine lv_goto (tgt := 17) hx hb dX2_has_13 (by decide) ?_
      exact hret _ _ _ _ _ hW hS rfl hf dX2_has_17
noncomputable def fX2_globsOf (C : Mem) (a1 : Int32) : Option Nat := chk (vp_in a1 16) (some (60 + 11 * a1.toNatClampNeg))
abbrev rm_X2_globsOf : Room := { frames := 0, cells := 0, slots := 0, locals := 0 }
set_option maxRecDepth 100000 in
set_option maxHeartbeats 4000000 in
theorem c_X2_globsOf (l : Launch) (Γ : gx_G) (C M : Mem) (a1 : Int32) {y0 : Nat} (hf : fX2_globsOf C a1 = some y0) : Met l yX2_globsOf (.code yX2_globsOf cX2_globsOf 2 (some (.object "Monobuild$Globs")) :: TsG) rm_X2_globsOf (va_Pc [.ref (Γ.1 55), .int a1] (gx_P Γ C M)) (gx_Qr Γ y0 C M) 0 0 (gA Γ) := by
  refine gm_r (by decide) (Nat.le_of_ble_eq_true rfl) ?_
  intro p e s m args below meth c Q S hG hret ls H locs hl hW hS
  obtain ⟨hx, hb, hml, hown, hts⟩ := id S
  have hl : lv_has ls 2 [(0, .ref (Γ.1 55)), (1, .int a1)] := hl
  unfold fX2_globsOf at hf
  refine lv_aload_n hx hb dX2_globsOf_0 rfl (lv_at hl 0 rfl) ?_
  refine get_X2_2 S hG hW fl_X2_20 dX2_globsOf_1 ?_
  refine lv_iload_n hx hb dX2_globsOf_4 rfl (lv_at hl 1 rfl) ?_
  have g5 := ck_p hf
  have hf := ck_r hf
  refine ald_globs S hG hW g5 dX2_globsOf_5 ?_
  exact hret _ _ _ _ _ hW hS (Option.some.inj hf) dX2_globsOf_6
theorem sr_X2_globsOf {C : Mem} {a1 : Int32} {r : Nat} (hf : fX2_globsOf C a1 = some r) : shp r = 9 := by
  unfold fX2_globsOf at hf
  have g := ck_p hf
  have h := Option.some.inj (ck_r hf)
  subst h
  exact sh_glob (in_lt g)
noncomputable def fX2_dependenciesOf (C : Mem) (a1 : Int32) : Option Int32 := chk (vp_in a1 16) (some (C 57 a1.toNatClampNeg))
abbrev rm_X2_dependenciesOf : Room := { frames := 0, cells := 0, slots := 0, locals := 0 }
set_option maxRecDepth 100000 in
set_option maxHeartbeats 4000000 in
theorem c_X2_dependenciesOf (l : Launch) (Γ : gx_G) (C M : Mem) (a1 : Int32) {y0 : Int32} (hf : fX2_dependenciesOf C a1 = some y0) : Met l yX2_dependenciesOf (.code yX2_dependenciesOf cX2_dependenciesOf 2 (some .int) :: TsG) rm_X2_dependenciesOf (va_Pc [.ref (Γ.1 55), .int a1] (gx_P Γ C M)) (gx_Qi Γ y0 C M) 0 0 (gA Γ) := by
  refine gm_i (by decide) (Nat.le_of_ble_eq_true rfl) ?_
  intro p e s m args below meth c Q S hG hret ls H locs hl hW hS
  obtain ⟨hx, hb, hml, hown, hts⟩ := id S
  have hl : lv_has ls 2 [(0, .ref (Γ.1 55)), (1, .int a1)] := hl
  unfold fX2_dependenciesOf at hf
  refine lv_aload_n hx hb dX2_dependenciesOf_0 rfl (lv_at hl 0 rfl) ?_
  refine get_X2_1 S hG hW fl_X2_15 dX2_dependenciesOf_1 ?_
  refine lv_iload_n hx hb dX2_dependenciesOf_4 rfl (lv_at hl 1 rfl) ?_
  have g5 := ck_p hf
  have hf := ck_r hf
  refine ald_i S hG hW shk_57 lnk_57 g5 dX2_dependenciesOf_5 ?_
  exact hret _ _ _ _ _ hW hS rfl (Option.some.inj hf) dX2_dependenciesOf_6
noncomputable def fX2_upFrom_49 (C : Mem) (t_15 : (Int32 × Int32)) (t_4 : (Int32 × Int32)) : Option ((Int32 × Int32) ⊕ Int32) := some (.inl (t_15.1, (t_4.2 + (1 : Int32))))
noncomputable def fX2_upFrom_43 (C : Mem) (t_15 : (Int32 × Int32)) (t_4 : (Int32 × Int32)) (x2_43 : Int32) : Option ((Int32 × Int32) ⊕ ((Int32 × Int32) ⊕ Int32)) := some (.inl (x2_43, (t_15.2 + (1 : Int32))))
noncomputable def fX2_upFrom_15 (C : Mem) (t_4 : (Int32 × Int32)) : (Int32 × Int32) → Option ((Int32 × Int32) ⊕ ((Int32 × Int32) ⊕ Int32)) := fun t_15 => cnd ((C 55 4) ≤ t_15.2) (exR (fX2_upFrom_49 C t_15 t_4)) (chk (vp_in t_15.2 16) (cnd (((C 57 t_15.2.toNatClampNeg) &&& t_15.1) = (0 : Int32)) (fX2_upFrom_43 C t_15 t_4 t_15.1) (nmv ((t_15.1 ||| ((1 : Int32) <<< (t_15.2 &&& 31)))) fun v42 => fX2_upFrom_43 C t_15 t_4 v42)))
noncomputable def fX2_upFrom_4 (C : Mem) : (Int32 × Int32) → Option ((Int32 × Int32) ⊕ Int32) := fun t_4 => cnd ((C 55 4) ≤ t_4.2) (exR (some t_4.1)) (lp (fX2_upFrom_15 C t_4) (t_4.1, (0 : Int32)))
noncomputable def fX2_upFrom (C : Mem) (a1 : Int32) : Option Int32 := lp (fX2_upFrom_4 C) (a1, (0 : Int32))
abbrev rm_X2_upFrom : Room := { frames := 0, cells := 0, slots := 0, locals := 0 }
set_option maxRecDepth 100000 in
set_option maxHeartbeats 4000000 in
theorem c_X2_upFrom (l : Launch) (Γ : gx_G) (C M : Mem) (a1 : Int32) {y0 : Int32} (hf : fX2_upFrom C a1 = some y0) : Met l yX2_upFrom (.code yX2_upFrom cX2_upFrom 5 (some .int) :: TsG) rm_X2_upFrom (va_Pc [.ref (Γ.1 55), .int a1] (gx_P Γ C M)) (gx_Qi Γ y0 C M) 0 0 (gA Γ) := by
  refine gm_i (by decide) (Nat.le_of_ble_eq_true rfl) ?_
  intro p e s m args below meth c Q S hG hret ls H locs hl hW hS
  obtain ⟨hx, hb, hml, hown, hts⟩ := id S
  have hl : lv_has ls 5 [(0, .ref (Γ.1 55)), (1, .int a1)] := hl
  unfold fX2_upFrom at hf
  refine lv_iload_n hx hb dX2_upFrom_0 rfl (lv_at hl 1 rfl) ?_
  refine lv_istore_n (lv' := [(2, .int a1), (0, .ref (Γ.1 55)), (1, .int a1)]) hx hb dX2_upFrom_1 rfl hl (by decide) rfl (fun ls hl => ?_)
  refine lv_iconst (v := (0 : Int32)) hx hb dX2_upFrom_2 (by decide) ?_
  refine lv_istore_n (lv' := [(3, .int (0 : Int32)), (2, .int a1), (0, .ref (Γ.1 55)), (1, .int a1)]) hx hb dX2_upFrom_3 rfl hl (by decide) rfl (fun ls hl => ?_)
  have J_4 : ∀  (t_4 : Int32 × Int32), lp (fX2_upFrom_4 C) t_4 = some y0 → ∀ (H : Heap) (locs : List Loc) (ls : Array Slot), gx_W Γ C M H → va_S (gA Γ) s.heap H locs → lv_has ls 5 [(0, .ref (Γ.1 55)), (2, .int t_4.1), (3, .int t_4.2)] → W p l e rm_X2_upFrom s m args below meth c H locs 0 0 Q (F0 m 4 ls []) := by
    refine lp_ind (P := fun (t_4 : Int32 × Int32) => ∀ (H : Heap) (locs : List Loc) (ls : Array Slot), gx_W Γ C M H → va_S (gA Γ) s.heap H locs → lv_has ls 5 [(0, .ref (Γ.1 55)), (2, .int t_4.1), (3, .int t_4.2)] → W p l e rm_X2_upFrom s m args below meth c H locs 0 0 Q (F0 m 4 ls [])) ?_
    intro t_4 y1 hf kI1 kX1 H locs ls hW hS hl
    unfold fX2_upFrom_4 at hf
    refine lv_iload_n hx hb dX2_upFrom_4 rfl (lv_at hl 2 rfl) ?_
    refine lv_aload_n hx hb dX2_upFrom_5 rfl (lv_at hl 0 rfl) ?_
    refine get_X2_4 S hG hW fl_X2_30 dX2_upFrom_6 ?_
    refine lv_icmp_ge (tgt := 55) hx hb dX2_upFrom_9 (by decide) (fun c9 => ?_) (fun c9 => ?_)
    · have hf := cn_t c9 hf
      obtain ⟨z9, hf, ez⟩ := exR_e hf
      rw [kX1 _ ez] at hf
      refine lv_iload_n hx hb dX2_upFrom_55 rfl (lv_at hl 1 rfl) ?_
      exact hret _ _ _ _ _ hW hS rfl (Option.some.inj hf) dX2_upFrom_56
    · have hf := cn_f c9 hf
      refine lv_iconst (v := (0 : Int32)) hx hb dX2_upFrom_12 (by decide) ?_
      refine lv_istore (lv' := [(4, .int (0 : Int32)), (0, .ref (Γ.1 55)), (2, .int t_4.1), (3, .int t_4.2)]) hx hb dX2_upFrom_13 hl (by decide) rfl (fun ls hl => ?_)
      have J_15 : ∀  (t_15 : Int32 × Int32), lp (fX2_upFrom_15 C t_4) t_15 = some y1 → ∀ (H : Heap) (locs : List Loc) (ls : Array Slot), gx_W Γ C M H → va_S (gA Γ) s.heap H locs → lv_has ls 5 [(0, .ref (Γ.1 55)), (2, .int t_15.1), (3, .int t_4.2), (4, .int t_15.2)] → W p l e rm_X2_upFrom s m args below meth c H locs 0 0 Q (F0 m 15 ls []) := by
        refine lp_ind (P := fun (t_15 : Int32 × Int32) => ∀ (H : Heap) (locs : List Loc) (ls : Array Slot), gx_W Γ C M H → va_S (gA Γ) s.heap H locs → lv_has ls 5 [(0, .ref (Γ.1 55)), (2, .int t_15.1), (3, .int t_4.2), (4, .int t_15.2)] → W p l e rm_X2_upFrom s m args below meth c H locs 0 0 Q (F0 m 15 ls [])) ?_
        intro t_15 y2 hf kI2 kX2 H locs ls hW hS hl
        unfold fX2_upFrom_15 at hf
        refine lv_iload hx hb dX2_upFrom_15 (lv_at hl 3 rfl) ?_
        refine lv_aload_n hx hb dX2_upFrom_17 rfl (lv_at hl 0 rfl) ?_
        refine get_X2_4 S hG hW fl_X2_30 dX2_upFrom_18 ?_
        have J_49 : fX2_upFrom_49 C t_15 t_4 = some y1 → ∀ (H : Heap) (locs : List Loc) (ls : Array Slot), gx_W Γ C M H → va_S (gA Γ) s.heap H locs → lv_has ls 5 [(0, .ref (Γ.1 55)), (2, .int t_15.1), (3, .int t_4.2)] → W p l e rm_X2_upFrom s m args below meth c H locs 0 0 Q (F0 m 49 ls []) := by
          intro  hf H locs ls hW hS hl
          unfold fX2_upFrom_49 at hf
          refine lv_iinc (v := (t_4.2 + (1 : Int32))) (lv' := [(3, .int (t_4.2 + (1 : Int32))), (0, .ref (Γ.1 55)), (2, .int t_15.1)]) hx hb dX2_upFrom_49 hl (k := 2) rfl rfl (by decide) rfl (fun ls hl => ?_)
          refine lv_goto (tgt := 4) hx hb dX2_upFrom_52 (by decide) ?_
          exact kI1 _ (Option.some.inj hf).symm H locs ls hW hS (lv_sub hl [1, 2, 0] rfl)
        refine lv_icmp_ge (tgt := 49) hx hb dX2_upFrom_21 (by decide) (fun c21 => ?_) (fun c21 => ?_)
        · have hf := cn_t c21 hf
          obtain ⟨z21, hf, ez⟩ := exR_e hf
          rw [kX2 _ ez] at hf
          exact J_49  hf H locs ls hW hS (lv_sub hl [0, 1, 2] rfl)
        · have hf := cn_f c21 hf
          refine lv_aload_n hx hb dX2_upFrom_24 rfl (lv_at hl 0 rfl) ?_
          refine get_X2_1 S hG hW fl_X2_15 dX2_upFrom_25 ?_
          refine lv_iload hx hb dX2_upFrom_28 (lv_at hl 3 rfl) ?_
          have g30 := ck_p hf
          have hf := ck_r hf
          refine ald_i S hG hW shk_57 lnk_57 g30 dX2_upFrom_30 ?_
          refine lv_iload_n hx hb dX2_upFrom_31 rfl (lv_at hl 1 rfl) ?_
          refine lv_iand hx hb dX2_upFrom_32 ?_
          have J_43 : ∀ (x2_43 : Int32) , fX2_upFrom_43 C t_15 t_4 x2_43 = some y2 → ∀ (H : Heap) (locs : List Loc) (ls : Array Slot), gx_W Γ C M H → va_S (gA Γ) s.heap H locs → lv_has ls 5 [(0, .ref (Γ.1 55)), (2, .int x2_43), (3, .int t_4.2), (4, .int t_15.2)] → W p l e rm_X2_upFrom s m args below meth c H locs 0 0 Q (F0 m 43 ls []) := by
            intro x2_43 hf H locs ls hW hS hl
            unfold fX2_upFrom_43 at hf
            refine lv_iinc (v := (t_15.2 + (1 : Int32))) (lv' := [(4, .int (t_15.2 + (1 : Int32))), (0, .ref (Γ.1 55)), (2, .int x2_43), (3, .int t_4.2)]) hx hb dX2_upFrom_43 hl (k := 3) rfl rfl (by decide) rfl (fun ls hl => ?_)
            refine lv_goto (tgt := 15) hx hb dX2_upFrom_46 (by decide) ?_
            exact kI2 _ (Option.some.inj hf).symm H locs ls hW hS (lv_sub hl [1, 2, 3, 0] rfl)
          refine lv_if_eq (tgt := 43) hx hb dX2_upFrom_33 (by decide) (fun c33 => ?_) (fun c33 => ?_)
          · have hf := cn_t c33 hf
            exact J_43 t_15.1 hf H locs ls hW hS (lv_sub hl [0, 1, 2, 3] rfl)
          · have hf := cn_f c33 hf
            refine lv_iload_n hx hb dX2_upFrom_36 rfl (lv_at hl 1 rfl) ?_
            refine lv_iconst (v := (1 : Int32)) hx hb dX2_upFrom_37 (by decide) ?_
            refine lv_iload hx hb dX2_upFrom_38 (lv_at hl 3 rfl) ?_
            refine lv_ishl hx hb dX2_upFrom_40 ?_
            refine lv_ior hx hb dX2_upFrom_41 ?_
            refine lv_topi (fun v42 ev42 => ?_)
            have hf := nm_v ev42 hf
            refine lv_istore_n (lv' := [(2, .int v42), (0, .ref (Γ.1 55)), (3, .int t_4.2), (4, .int t_15.2)]) hx hb dX2_upFrom_42 rfl hl (by decide) rfl (fun ls hl => ?_)
            exact J_43 v42 hf H locs ls hW hS (lv_sub hl [1, 0, 2, 3] rfl)
      exact J_15 (t_4.1, (0 : Int32)) hf H locs ls hW hS (lv_sub hl [1, 2, 3, 0] rfl)
  exact J_4 (a1, (0 : Int32)) hf H locs ls hW hS (lv_sub hl [2, 1, 0] rfl)
noncomputable def fX2_addDependency (C : Mem) (a1 : Int32) (a2 : Int32) : Option Mem := chk (vp_in a1 16) (chk (vp_in a1 16) (some (mset C 57 a1.toNatClampNeg ((C 57 a1.toNatClampNeg) ||| ((1 : Int32) <<< (a2 &&& 31))))))
abbrev rm_X2_addDependency : Room := { frames := 0, cells := 0, slots := 0, locals := 0 }
set_option maxRecDepth 100000 in
set_option maxHeartbeats 4000000 in
theorem c_X2_addDependency (l : Launch) (Γ : gx_G) (C M : Mem) (a1 : Int32) (a2 : Int32) {y0 : Mem} (hf : fX2_addDependency C a1 a2 = some y0) : Met l yX2_addDependency (.code yX2_addDependency cX2_addDependency 3 none :: TsG) rm_X2_addDependency (va_Pc [.ref (Γ.1 55), .int a1, .int a2] (gx_P Γ C M)) (gx_Qv Γ y0 M) 0 0 (gA Γ) := by
  refine gm_v (by decide) (Nat.le_of_ble_eq_true rfl) ?_
  intro p e s m args below meth c Q S hG hret ls H locs hl hW hS
  obtain ⟨hx, hb, hml, hown, hts⟩ := id S
  have hl : lv_has ls 3 [(0, .ref (Γ.1 55)), (1, .int a1), (2, .int a2)] := hl
  unfold fX2_addDependency at hf
  refine lv_aload_n hx hb dX2_addDependency_0 rfl (lv_at hl 0 rfl) ?_
  refine get_X2_1 S hG hW fl_X2_15 dX2_addDependency_1 ?_
  refine lv_iload_n hx hb dX2_addDependency_4 rfl (lv_at hl 1 rfl) ?_
  refine lv_dup2_11 hx hb dX2_addDependency_5 rfl rfl ?_
  have g6 := ck_p hf
  have hf := ck_r hf
  refine ald_i S hG hW shk_57 lnk_57 g6 dX2_addDependency_6 ?_
  refine lv_iconst (v := (1 : Int32)) hx hb dX2_addDependency_7 (by decide) ?_
  refine lv_iload_n hx hb dX2_addDependency_8 rfl (lv_at hl 2 rfl) ?_
  refine lv_ishl hx hb dX2_addDependency_9 ?_
  refine lv_ior hx hb dX2_addDependency_10 ?_
  have g11 := ck_p hf
  have hf := ck_r hf
  refine ast_i S hG hW hS shk_57 lnk_57 g11 dX2_addDependency_11 (fun H locs hW hS => ?_)
  have e9 := Option.some.inj hf
  subst e9
  exact hret _ _ _ _ hW hS dX2_addDependency_12
noncomputable def fX2_size (C : Mem) : Int32 := (C 55 4)
abbrev rm_X2_size : Room := { frames := 0, cells := 0, slots := 0, locals := 0 }
set_option maxRecDepth 100000 in
set_option maxHeartbeats 4000000 in
theorem c_X2_size (l : Launch) (Γ : gx_G) (C M : Mem)  : Met l yX2_size (.code yX2_size cX2_size 1 (some .int) :: TsG) rm_X2_size (va_Pc [.ref (Γ.1 55)] (gx_P Γ C M)) (gx_Qi Γ (fX2_size C) C M) 0 0 (gA Γ) := by
  refine gm_i (by decide) (Nat.le_of_ble_eq_true rfl) ?_
  intro p e s m args below meth c Q S hG hret ls H locs hl hW hS
  obtain ⟨hx, hb, hml, hown, hts⟩ := id S
  have hl : lv_has ls 1 [(0, .ref (Γ.1 55))] := hl
  generalize hy0 : fX2_size C = y0 at hret
  have hf := hy0
  unfold fX2_size at hf
  refine lv_aload_n hx hb dX2_size_0 rfl (lv_at hl 0 rfl) ?_
  refine get_X2_4 S hG hW fl_X2_30 dX2_size_1 ?_
  exact hret _ _ _ _ _ hW hS rfl hf dX2_size_4
noncomputable def fX2_isNext_25 (C : Mem) : Option Int32 := some (0 : Int32)
noncomputable def fX2_isNext (C : Mem) (a1 : Int32) (a2 : Int32) : Option Int32 := cnd ((fX7_holds a2 a1) = (0 : Int32)) (chk (vp_in a1 16) (cnd (((C 57 a1.toNatClampNeg) &&& (a2 ^^^ (-1 : Int32))) = (0 : Int32)) (some (1 : Int32)) (fX2_isNext_25 C))) (fX2_isNext_25 C)
abbrev rm_X2_isNext : Room := { frames := 1, cells := 0, slots := 0, locals := 21 }
set_option maxRecDepth 100000 in
set_option maxHeartbeats 4000000 in
theorem c_X2_isNext (l : Launch) (Γ : gx_G) (C M : Mem) (a1 : Int32) (a2 : Int32) {y0 : Int32} (hf : fX2_isNext C a1 a2 = some y0) : Met l yX2_isNext (.code yX2_isNext cX2_isNext 3 (some .boolean) :: TsG) rm_X2_isNext (va_Pc [.ref (Γ.1 55), .int a1, .int a2] (gx_P Γ C M)) (gx_Qi Γ y0 C M) 0 0 (gA Γ) := by
  refine gm_i (by decide) (Nat.le_of_ble_eq_true rfl) ?_
  intro p e s m args below meth c Q S hG hret ls H locs hl hW hS
  obtain ⟨hx, hb, hml, hown, hts⟩ := id S
  have hl : lv_has ls 3 [(0, .ref (Γ.1 55)), (1, .int a1), (2, .int a2)] := hl
  unfold fX2_isNext at hf
  refine lv_iload_n hx hb dX2_isNext_0 rfl (lv_at hl 2 rfl) ?_
  refine lv_iload_n hx hb dX2_isNext_1 rfl (lv_at hl 1 rfl) ?_
  refine gk0_i hS (gn_run (rest := []) S hG hW hS [.int a2, .int a1] (c_X7_holds l Γ C M a2 a1) pk_X7_holds nl_X2_42 rfl rfl ⟨Nat.le_of_ble_eq_true rfl, Nat.le_of_ble_eq_true rfl⟩ rfl hl.1 rfl (Nat.le_of_ble_eq_true rfl) dX2_isNext_2 ⟨Nat.le_of_ble_eq_true rfl, Nat.le_of_ble_eq_true rfl⟩) (fun H locs hW hS => ?_)
  have J_25 : fX2_isNext_25 C = some y0 → ∀ (H : Heap) (locs : List Loc) (ls : Array Slot), gx_W Γ C M H → va_S (gA Γ) s.heap H locs → lv_has ls 3 [] → W p l e rm_X2_isNext s m args below meth c H locs 0 0 Q (F0 m 25 ls []) := by
    intro  hf H locs ls hW hS hl
    unfold fX2_isNext_25 at hf
    refine lv_iconst (v := (0 : Int32)) hx hb dX2_isNext_25 (by decide) ?_
    exact hret _ _ _ _ _ hW hS rfl (Option.some.inj hf) dX2_isNext_26
  refine lv_if_ne (tgt := 25) hx hb dX2_isNext_5 (by decide) (fun c5 => ?_) (fun c5 => ?_)
  · have hf := cn_f c5 hf
    exact J_25  hf H locs ls hW hS (lv_sub hl [] rfl)
  · have hf := cn_t c5 hf
    refine lv_aload_n hx hb dX2_isNext_8 rfl (lv_at hl 0 rfl) ?_
    refine get_X2_1 S hG hW fl_X2_15 dX2_isNext_9 ?_
    refine lv_iload_n hx hb dX2_isNext_12 rfl (lv_at hl 1 rfl) ?_
    have g13 := ck_p hf
    have hf := ck_r hf
    refine ald_i S hG hW shk_57 lnk_57 g13 dX2_isNext_13 ?_
    refine lv_iload_n hx hb dX2_isNext_14 rfl (lv_at hl 2 rfl) ?_
    refine lv_iconst (v := (-1 : Int32)) hx hb dX2_isNext_15 (by decide) ?_
    refine lv_ixor hx hb dX2_isNext_16 ?_
    refine lv_iand hx hb dX2_isNext_17 ?_
    refine lv_if_ne (tgt := 25) hx hb dX2_isNext_18 (by decide) (fun c18 => ?_) (fun c18 => ?_)
    · have hf := cn_f c18 hf
      exact J_25  hf H locs ls hW hS (lv_sub hl [] rfl)
    · have hf := cn_t c18 hf
      refine lv_iconst (v := (1 : Int32)) hx hb dX2_isNext_21 (by decide) ?_
      refine lv_goto (tgt := 26) hx hb dX2_isNext_22 (by decide) ?_
      exact hret _ _ _ _ _ hW hS rfl (Option.some.inj hf) dX2_isNext_26
noncomputable def fX2_nextBehind_27 (C : Mem) (t_2 : (Int32)) : Option Int32 := some t_2
noncomputable def fX2_nextBehind_2 (C : Mem) (a1 : Int32) : (Int32) → Option ((Int32) ⊕ Int32) := fun t_2 => cnd (((C 55 4) - (1 : Int32)) ≤ t_2) (exR (fX2_nextBehind_27 C t_2)) (bnd (fX2_isNext C t_2 a1) fun q15 => cnd (q15 = (0 : Int32)) (some (.inl (t_2 + (1 : Int32)))) (exR (fX2_nextBehind_27 C t_2)))
noncomputable def fX2_nextBehind (C : Mem) (a1 : Int32) : Option Int32 := lp (fX2_nextBehind_2 C a1) (0 : Int32)
abbrev rm_X2_nextBehind : Room := { frames := 2, cells := 0, slots := 0, locals := 43 }
set_option maxRecDepth 100000 in
set_option maxHeartbeats 4000000 in
theorem c_X2_nextBehind (l : Launch) (Γ : gx_G) (C M : Mem) (a1 : Int32) {y0 : Int32} (hf : fX2_nextBehind C a1 = some y0) : Met l yX2_nextBehind (.code yX2_nextBehind cX2_nextBehind 3 (some .int) :: TsG) rm_X2_nextBehind (va_Pc [.ref (Γ.1 55), .int a1] (gx_P Γ C M)) (gx_Qi Γ y0 C M) 0 0 (gA Γ) := by
  refine gm_i (by decide) (Nat.le_of_ble_eq_true rfl) ?_
  intro p e s m args below meth c Q S hG hret ls H locs hl hW hS
  obtain ⟨hx, hb, hml, hown, hts⟩ := id S
  have hl : lv_has ls 3 [(0, .ref (Γ.1 55)), (1, .int a1)] := hl
  unfold fX2_nextBehind at hf
  refine lv_iconst (v := (0 : Int32)) hx hb dX2_nextBehind_0 (by decide) ?_
  refine lv_istore_n (lv' := [(2, .int (0 : Int32)), (0, .ref (Γ.1 55)), (1, .int a1)]) hx hb dX2_nextBehind_1 rfl hl (by decide) rfl (fun ls hl => ?_)
  have J_2 : ∀  (t_2 : Int32), lp (fX2_nextBehind_2 C a1) t_2 = some y0 → ∀ (H : Heap) (locs : List Loc) (ls : Array Slot), gx_W Γ C M H → va_S (gA Γ) s.heap H locs → lv_has ls 3 [(0, .ref (Γ.1 55)), (1, .int a1), (2, .int t_2)] → W p l e rm_X2_nextBehind s m args below meth c H locs 0 0 Q (F0 m 2 ls []) := by
    refine lp_ind (P := fun (t_2 : Int32) => ∀ (H : Heap) (locs : List Loc) (ls : Array Slot), gx_W Γ C M H → va_S (gA Γ) s.heap H locs → lv_has ls 3 [(0, .ref (Γ.1 55)), (1, .int a1), (2, .int t_2)] → W p l e rm_X2_nextBehind s m args below meth c H locs 0 0 Q (F0 m 2 ls [])) ?_
    intro t_2 y1 hf kI1 kX1 H locs ls hW hS hl
    unfold fX2_nextBehind_2 at hf
    refine lv_iload_n hx hb dX2_nextBehind_2 rfl (lv_at hl 2 rfl) ?_
    refine lv_aload_n hx hb dX2_nextBehind_3 rfl (lv_at hl 0 rfl) ?_
    refine get_X2_4 S hG hW fl_X2_30 dX2_nextBehind_4 ?_
    refine lv_iconst (v := (1 : Int32)) hx hb dX2_nextBehind_7 (by decide) ?_
    refine lv_isub hx hb dX2_nextBehind_8 ?_
    have J_27 : fX2_nextBehind_27 C t_2 = some y0 → ∀ (H : Heap) (locs : List Loc) (ls : Array Slot), gx_W Γ C M H → va_S (gA Γ) s.heap H locs → lv_has ls 3 [(2, .int t_2)] → W p l e rm_X2_nextBehind s m args below meth c H locs 0 0 Q (F0 m 27 ls []) := by
      intro  hf H locs ls hW hS hl
      unfold fX2_nextBehind_27 at hf
      refine lv_iload_n hx hb dX2_nextBehind_27 rfl (lv_at hl 0 rfl) ?_
      exact hret _ _ _ _ _ hW hS rfl (Option.some.inj hf) dX2_nextBehind_28
    refine lv_icmp_ge (tgt := 27) hx hb dX2_nextBehind_9 (by decide) (fun c9 => ?_) (fun c9 => ?_)
    · have hf := cn_t c9 hf
      obtain ⟨z9, hf, ez⟩ := exR_e hf
      rw [kX1 _ ez] at hf
      exact J_27  hf H locs ls hW hS (lv_sub hl [2] rfl)
    · have hf := cn_f c9 hf
      refine lv_aload_n hx hb dX2_nextBehind_12 rfl (lv_at hl 0 rfl) ?_
      refine lv_iload_n hx hb dX2_nextBehind_13 rfl (lv_at hl 2 rfl) ?_
      refine lv_iload_n hx hb dX2_nextBehind_14 rfl (lv_at hl 1 rfl) ?_
      obtain ⟨q15, hq15, hf⟩ := bnd_e hf
      refine gk0_i hS (gv_run (rest := []) S hG hW hS [.int t_2, .int a1] (c_X2_isNext l Γ C M t_2 a1 hq15) pk_X2_isNext ml_X2_53 (Nat.le_of_ble_eq_true rfl) rfl rfl rfl rfl ⟨Nat.le_of_ble_eq_true rfl, Nat.le_of_ble_eq_true rfl⟩ rfl hl.1 rfl (Nat.le_of_ble_eq_true rfl) dX2_nextBehind_15 ⟨Nat.le_of_ble_eq_true rfl, Nat.le_of_ble_eq_true rfl⟩) (fun H locs hW hS => ?_)
      refine lv_if_ne (tgt := 27) hx hb dX2_nextBehind_18 (by decide) (fun c18 => ?_) (fun c18 => ?_)
      · have hf := cn_f c18 hf
        obtain ⟨z18, hf, ez⟩ := exR_e hf
        rw [kX1 _ ez] at hf
        exact J_27  hf H locs ls hW hS (lv_sub hl [2] rfl)
      · have hf := cn_t c18 hf
        refine lv_iinc (v := (t_2 + (1 : Int32))) (lv' := [(2, .int (t_2 + (1 : Int32))), (0, .ref (Γ.1 55)), (1, .int a1)]) hx hb dX2_nextBehind_21 hl (k := 2) rfl rfl (by decide) rfl (fun ls hl => ?_)
        refine lv_goto (tgt := 2) hx hb dX2_nextBehind_24 (by decide) ?_
        exact kI1 _ (Option.some.inj hf).symm H locs ls hW hS (lv_sub hl [1, 2, 0] rfl)
  exact J_2 (0 : Int32) hf H locs ls hW hS (lv_sub hl [1, 2, 0] rfl)
noncomputable def fX2_makeOrder_4  : (Mem × Int32 × Int32) → Option ((Mem × Int32 × Int32) ⊕ Mem) := fun t_4 => cnd ((t_4.1 55 4) ≤ t_4.2.2) (exR (some t_4.1)) (bnd (fX2_nextBehind t_4.1 t_4.2.1) fun q14 => chk (vp_in t_4.2.2 16) (nmv ((t_4.2.1 ||| ((1 : Int32) <<< (q14 &&& 31)))) fun v30 => some (.inl ((mset t_4.1 59 t_4.2.2.toNatClampNeg q14), v30, (t_4.2.2 + (1 : Int32))))))
noncomputable def fX2_makeOrder (C : Mem) : Option Mem := lp (fX2_makeOrder_4) (C, (0 : Int32), (0 : Int32))
abbrev rm_X2_makeOrder : Room := { frames := 3, cells := 0, slots := 0, locals := 65 }
set_option maxRecDepth 100000 in
set_option maxHeartbeats 4000000 in
theorem c_X2_makeOrder (l : Launch) (Γ : gx_G) (C M : Mem)  {y0 : Mem} (hf : fX2_makeOrder C = some y0) : Met l yX2_makeOrder (.code yX2_makeOrder cX2_makeOrder 4 none :: TsG) rm_X2_makeOrder (va_Pc [.ref (Γ.1 55)] (gx_P Γ C M)) (gx_Qv Γ y0 M) 0 0 (gA Γ) := by
  refine gm_v (by decide) (Nat.le_of_ble_eq_true rfl) ?_
  intro p e s m args below meth c Q S hG hret ls H locs hl hW hS
  obtain ⟨hx, hb, hml, hown, hts⟩ := id S
  have hl : lv_has ls 4 [(0, .ref (Γ.1 55))] := hl
  unfold fX2_makeOrder at hf
  refine lv_iconst (v := (0 : Int32)) hx hb dX2_makeOrder_0 (by decide) ?_
  refine lv_istore_n (lv' := [(1, .int (0 : Int32)), (0, .ref (Γ.1 55))]) hx hb dX2_makeOrder_1 rfl hl (by decide) rfl (fun ls hl => ?_)
  refine lv_iconst (v := (0 : Int32)) hx hb dX2_makeOrder_2 (by decide) ?_
  refine lv_istore_n (lv' := [(2, .int (0 : Int32)), (1, .int (0 : Int32)), (0, .ref (Γ.1 55))]) hx hb dX2_makeOrder_3 rfl hl (by decide) rfl (fun ls hl => ?_)
  have J_4 : ∀  (t_4 : Mem × Int32 × Int32), lp (fX2_makeOrder_4) t_4 = some y0 → ∀ (H : Heap) (locs : List Loc) (ls : Array Slot), gx_W Γ t_4.1 M H → va_S (gA Γ) s.heap H locs → lv_has ls 4 [(0, .ref (Γ.1 55)), (1, .int t_4.2.1), (2, .int t_4.2.2)] → W p l e rm_X2_makeOrder s m args below meth c H locs 0 0 Q (F0 m 4 ls []) := by
    refine lp_ind (P := fun (t_4 : Mem × Int32 × Int32) => ∀ (H : Heap) (locs : List Loc) (ls : Array Slot), gx_W Γ t_4.1 M H → va_S (gA Γ) s.heap H locs → lv_has ls 4 [(0, .ref (Γ.1 55)), (1, .int t_4.2.1), (2, .int t_4.2.2)] → W p l e rm_X2_makeOrder s m args below meth c H locs 0 0 Q (F0 m 4 ls [])) ?_
    intro t_4 y1 hf kI1 kX1 H locs ls hW hS hl
    unfold fX2_makeOrder_4 at hf
    refine lv_iload_n hx hb dX2_makeOrder_4 rfl (lv_at hl 2 rfl) ?_
    refine lv_aload_n hx hb dX2_makeOrder_5 rfl (lv_at hl 0 rfl) ?_
    refine get_X2_4 S hG hW fl_X2_30 dX2_makeOrder_6 ?_
    refine lv_icmp_ge (tgt := 37) hx hb dX2_makeOrder_9 (by decide) (fun c9 => ?_) (fun c9 => ?_)
    · have hf := cn_t c9 hf
      obtain ⟨z9, hf, ez⟩ := exR_e hf
      rw [kX1 _ ez] at hf
      have e9 := Option.some.inj hf
      subst e9
      exact hret _ _ _ _ hW hS dX2_makeOrder_37
    · have hf := cn_f c9 hf
      refine lv_aload_n hx hb dX2_makeOrder_12 rfl (lv_at hl 0 rfl) ?_
      refine lv_iload_n hx hb dX2_makeOrder_13 rfl (lv_at hl 1 rfl) ?_
      obtain ⟨q14, hq14, hf⟩ := bnd_e hf
      refine gk0_i hS (gv_run (rest := []) S hG hW hS [.int t_4.2.1] (c_X2_nextBehind l Γ t_4.1 M t_4.2.1 hq14) pk_X2_nextBehind ml_X2_50 (Nat.le_of_ble_eq_true rfl) rfl rfl rfl rfl ⟨Nat.le_of_ble_eq_true rfl, Nat.le_of_ble_eq_true rfl⟩ rfl hl.1 rfl (Nat.le_of_ble_eq_true rfl) dX2_makeOrder_14 ⟨Nat.le_of_ble_eq_true rfl, Nat.le_of_ble_eq_true rfl⟩) (fun H locs hW hS => ?_)
      refine lv_istore_n (lv' := [(3, .int q14), (0, .ref (Γ.1 55)), (1, .int t_4.2.1), (2, .int t_4.2.2)]) hx hb dX2_makeOrder_17 rfl hl (by decide) rfl (fun ls hl => ?_)
      refine lv_aload_n hx hb dX2_makeOrder_18 rfl (lv_at hl 1 rfl) ?_
      refine get_X2_3 S hG hW fl_X2_24 dX2_makeOrder_19 ?_
      refine lv_iload_n hx hb dX2_makeOrder_22 rfl (lv_at hl 3 rfl) ?_
      refine lv_iload_n hx hb dX2_makeOrder_23 rfl (lv_at hl 0 rfl) ?_
      have g24 := ck_p hf
      have hf := ck_r hf
      refine ast_i S hG hW hS shk_59 lnk_59 g24 dX2_makeOrder_24 (fun H locs hW hS => ?_)
      refine lv_iload_n hx hb dX2_makeOrder_25 rfl (lv_at hl 2 rfl) ?_
      refine lv_iconst (v := (1 : Int32)) hx hb dX2_makeOrder_26 (by decide) ?_
      refine lv_iload_n hx hb dX2_makeOrder_27 rfl (lv_at hl 0 rfl) ?_
      refine lv_ishl hx hb dX2_makeOrder_28 ?_
      refine lv_ior hx hb dX2_makeOrder_29 ?_
      refine lv_topi (fun v30 ev30 => ?_)
      have hf := nm_v ev30 hf
      refine lv_istore_n (lv' := [(1, .int v30), (3, .int q14), (0, .ref (Γ.1 55)), (2, .int t_4.2.2)]) hx hb dX2_makeOrder_30 rfl hl (by decide) rfl (fun ls hl => ?_)
      refine lv_iinc (v := (t_4.2.2 + (1 : Int32))) (lv' := [(2, .int (t_4.2.2 + (1 : Int32))), (1, .int v30), (3, .int q14), (0, .ref (Γ.1 55))]) hx hb dX2_makeOrder_31 hl (k := 3) rfl rfl (by decide) rfl (fun ls hl => ?_)
      refine lv_goto (tgt := 4) hx hb dX2_makeOrder_34 (by decide) ?_
      exact kI1 _ (Option.some.inj hf).symm H locs ls hW hS (lv_sub hl [3, 1, 0] rfl)
  exact J_4 (C, (0 : Int32), (0 : Int32)) hf H locs ls hW hS (lv_sub hl [2, 1, 0] rfl)
noncomputable def fX2_atPlace (C : Mem) (a1 : Int32) : Option Int32 := chk (vp_in a1 16) (some (C 59 a1.toNatClampNeg))
abbrev rm_X2_atPlace : Room := { frames := 0, cells := 0, slots := 0, locals := 0 }
set_option maxRecDepth 100000 in
set_option maxHeartbeats 4000000 in
theorem c_X2_atPlace (l : Launch) (Γ : gx_G) (C M : Mem) (a1 : Int32) {y0 : Int32} (hf : fX2_atPlace C a1 = some y0) : Met l yX2_atPlace (.code yX2_atPlace cX2_atPlace 2 (some .int) :: TsG) rm_X2_atPlace (va_Pc [.ref (Γ.1 55), .int a1] (gx_P Γ C M)) (gx_Qi Γ y0 C M) 0 0 (gA Γ) := by
  refine gm_i (by decide) (Nat.le_of_ble_eq_true rfl) ?_
  intro p e s m args below meth c Q S hG hret ls H locs hl hW hS
  obtain ⟨hx, hb, hml, hown, hts⟩ := id S
  have hl : lv_has ls 2 [(0, .ref (Γ.1 55)), (1, .int a1)] := hl
  unfold fX2_atPlace at hf
  refine lv_aload_n hx hb dX2_atPlace_0 rfl (lv_at hl 0 rfl) ?_
  refine get_X2_3 S hG hW fl_X2_24 dX2_atPlace_1 ?_
  refine lv_iload_n hx hb dX2_atPlace_4 rfl (lv_at hl 1 rfl) ?_
  have g5 := ck_p hf
  have hf := ck_r hf
  refine ald_i S hG hW shk_59 lnk_59 g5 dX2_atPlace_5 ?_
  exact hret _ _ _ _ _ hW hS rfl (Option.some.inj hf) dX2_atPlace_6
noncomputable def fX2_covering_34 (C : Mem) (a1 : Int32) (t_4 : (Int32 × Int32)) (x2_34 : Int32) : Option ((Int32 × Int32) ⊕ Int32) := some (.inl (x2_34, (t_4.2 + (1 : Int32))))
noncomputable def fX2_covering_4 (C : Mem) (a1 : Int32) : (Int32 × Int32) → Option ((Int32 × Int32) ⊕ Int32) := fun t_4 => cnd ((C 55 4) ≤ t_4.2) (exR (some t_4.1)) (chk (vp_in t_4.2 16) (bnd (fX1_covered C (60 + 11 * t_4.2.toNatClampNeg)) fun q18 => cnd ((fX7_holds q18 a1) = (0 : Int32)) (fX2_covering_34 C a1 t_4 t_4.1) (nmv ((t_4.1 ||| ((1 : Int32) <<< (t_4.2 &&& 31)))) fun v33 => fX2_covering_34 C a1 t_4 v33)))
noncomputable def fX2_covering (C : Mem) (a1 : Int32) : Option Int32 := lp (fX2_covering_4 C a1) ((0 : Int32), (0 : Int32))
abbrev rm_X2_covering : Room := { frames := 1, cells := 0, slots := 0, locals := 22 }
set_option maxRecDepth 100000 in
set_option maxHeartbeats 4000000 in
theorem c_X2_covering (l : Launch) (Γ : gx_G) (C M : Mem) (a1 : Int32) {y0 : Int32} (hf : fX2_covering C a1 = some y0) : Met l yX2_covering (.code yX2_covering cX2_covering 4 (some .int) :: TsG) rm_X2_covering (va_Pc [.ref (Γ.1 55), .int a1] (gx_P Γ C M)) (gx_Qi Γ y0 C M) 0 0 (gA Γ) := by
  refine gm_i (by decide) (Nat.le_of_ble_eq_true rfl) ?_
  intro p e s m args below meth c Q S hG hret ls H locs hl hW hS
  obtain ⟨hx, hb, hml, hown, hts⟩ := id S
  have hl : lv_has ls 4 [(0, .ref (Γ.1 55)), (1, .int a1)] := hl
  unfold fX2_covering at hf
  refine lv_iconst (v := (0 : Int32)) hx hb dX2_covering_0 (by decide) ?_
  refine lv_istore_n (lv' := [(2, .int (0 : Int32)), (0, .ref (Γ.1 55)), (1, .int a1)]) hx hb dX2_covering_1 rfl hl (by decide) rfl (fun ls hl => ?_)
  refine lv_iconst (v := (0 : Int32)) hx hb dX2_covering_2 (by decide) ?_
  refine lv_istore_n (lv' := [(3, .int (0 : Int32)), (2, .int (0 : Int32)), (0, .ref (Γ.1 55)), (1, .int a1)]) hx hb dX2_covering_3 rfl hl (by decide) rfl (fun ls hl => ?_)
  have J_4 : ∀  (t_4 : Int32 × Int32), lp (fX2_covering_4 C a1) t_4 = some y0 → ∀ (H : Heap) (locs : List Loc) (ls : Array Slot), gx_W Γ C M H → va_S (gA Γ) s.heap H locs → lv_has ls 4 [(0, .ref (Γ.1 55)), (1, .int a1), (2, .int t_4.1), (3, .int t_4.2)] → W p l e rm_X2_covering s m args below meth c H locs 0 0 Q (F0 m 4 ls []) := by
    refine lp_ind (P := fun (t_4 : Int32 × Int32) => ∀ (H : Heap) (locs : List Loc) (ls : Array Slot), gx_W Γ C M H → va_S (gA Γ) s.heap H locs → lv_has ls 4 [(0, .ref (Γ.1 55)), (1, .int a1), (2, .int t_4.1), (3, .int t_4.2)] → W p l e rm_X2_covering s m args below meth c H locs 0 0 Q (F0 m 4 ls [])) ?_
    intro t_4 y1 hf kI1 kX1 H locs ls hW hS hl
    unfold fX2_covering_4 at hf
    refine lv_iload_n hx hb dX2_covering_4 rfl (lv_at hl 3 rfl) ?_
    refine lv_aload_n hx hb dX2_covering_5 rfl (lv_at hl 0 rfl) ?_
    refine get_X2_4 S hG hW fl_X2_30 dX2_covering_6 ?_
    refine lv_icmp_ge (tgt := 40) hx hb dX2_covering_9 (by decide) (fun c9 => ?_) (fun c9 => ?_)
    · have hf := cn_t c9 hf
      obtain ⟨z9, hf, ez⟩ := exR_e hf
      rw [kX1 _ ez] at hf
      refine lv_iload_n hx hb dX2_covering_40 rfl (lv_at hl 2 rfl) ?_
      exact hret _ _ _ _ _ hW hS rfl (Option.some.inj hf) dX2_covering_41
    · have hf := cn_f c9 hf
      refine lv_aload_n hx hb dX2_covering_12 rfl (lv_at hl 0 rfl) ?_
      refine get_X2_2 S hG hW fl_X2_20 dX2_covering_13 ?_
      refine lv_iload_n hx hb dX2_covering_16 rfl (lv_at hl 3 rfl) ?_
      have g17 := ck_p hf
      have hf := ck_r hf
      refine ald_globs S hG hW g17 dX2_covering_17 ?_
      obtain ⟨q18, hq18, hf⟩ := bnd_e hf
      refine gk0_i hS (gv_run (rest := []) S hG hW hS [] (c_X1_covered l Γ C M (sh_glob (in_lt g17)) hq18) pk_X1_covered ml_X2_38 (sh_lt9 (sh_glob (in_lt g17))) (cc_9 (sh_glob (in_lt g17)) _ _) rfl rfl rfl ⟨Nat.le_of_ble_eq_true rfl, Nat.le_of_ble_eq_true rfl⟩ rfl hl.1 rfl (Nat.le_of_ble_eq_true rfl) dX2_covering_18 ⟨Nat.le_of_ble_eq_true rfl, Nat.le_of_ble_eq_true rfl⟩) (fun H locs hW hS => ?_)
      refine lv_iload_n hx hb dX2_covering_21 rfl (lv_at hl 1 rfl) ?_
      refine gk0_i hS (gn_run (rest := []) S hG hW hS [.int q18, .int a1] (c_X7_holds l Γ C M q18 a1) pk_X7_holds nl_X2_42 rfl rfl ⟨Nat.le_of_ble_eq_true rfl, Nat.le_of_ble_eq_true rfl⟩ rfl hl.1 rfl (Nat.le_of_ble_eq_true rfl) dX2_covering_22 ⟨Nat.le_of_ble_eq_true rfl, Nat.le_of_ble_eq_true rfl⟩) (fun H locs hW hS => ?_)
      have J_34 : ∀ (x2_34 : Int32) , fX2_covering_34 C a1 t_4 x2_34 = some y1 → ∀ (H : Heap) (locs : List Loc) (ls : Array Slot), gx_W Γ C M H → va_S (gA Γ) s.heap H locs → lv_has ls 4 [(0, .ref (Γ.1 55)), (1, .int a1), (2, .int x2_34), (3, .int t_4.2)] → W p l e rm_X2_covering s m args below meth c H locs 0 0 Q (F0 m 34 ls []) := by
        intro x2_34 hf H locs ls hW hS hl
        unfold fX2_covering_34 at hf
        refine lv_iinc (v := (t_4.2 + (1 : Int32))) (lv' := [(3, .int (t_4.2 + (1 : Int32))), (0, .ref (Γ.1 55)), (1, .int a1), (2, .int x2_34)]) hx hb dX2_covering_34 hl (k := 3) rfl rfl (by decide) rfl (fun ls hl => ?_)
        refine lv_goto (tgt := 4) hx hb dX2_covering_37 (by decide) ?_
        exact kI1 _ (Option.some.inj hf).symm H locs ls hW hS (lv_sub hl [1, 2, 3, 0] rfl)
      refine lv_if_eq (tgt := 34) hx hb dX2_covering_25 (by decide) (fun c25 => ?_) (fun c25 => ?_)
      · have hf := cn_t c25 hf
        exact J_34 t_4.1 hf H locs ls hW hS (lv_sub hl [0, 1, 2, 3] rfl)
      · have hf := cn_f c25 hf
        refine lv_iload_n hx hb dX2_covering_28 rfl (lv_at hl 2 rfl) ?_
        refine lv_iconst (v := (1 : Int32)) hx hb dX2_covering_29 (by decide) ?_
        refine lv_iload_n hx hb dX2_covering_30 rfl (lv_at hl 3 rfl) ?_
        refine lv_ishl hx hb dX2_covering_31 ?_
        refine lv_ior hx hb dX2_covering_32 ?_
        refine lv_topi (fun v33 ev33 => ?_)
        have hf := nm_v ev33 hf
        refine lv_istore_n (lv' := [(2, .int v33), (0, .ref (Γ.1 55)), (1, .int a1), (3, .int t_4.2)]) hx hb dX2_covering_33 rfl hl (by decide) rfl (fun ls hl => ?_)
        exact J_34 v33 hf H locs ls hW hS (lv_sub hl [1, 2, 0, 3] rfl)
  exact J_4 ((0 : Int32), (0 : Int32)) hf H locs ls hW hS (lv_sub hl [2, 3, 1, 0] rfl)
noncomputable def fX2_downFrom_51 (C : Mem) (t_17 : (Int32 × Int32)) (t_6 : (Int32 × Int32)) : Option ((Int32 × Int32) ⊕ Int32) := some (.inl (t_17.1, (t_6.2 + (1 : Int32))))
noncomputable def fX2_downFrom_45 (C : Mem) (t_17 : (Int32 × Int32)) (t_6 : (Int32 × Int32)) (x2_45 : Int32) : Option ((Int32 × Int32) ⊕ ((Int32 × Int32) ⊕ Int32)) := some (.inl (x2_45, (t_17.2 + (1 : Int32))))
noncomputable def fX2_downFrom_17 (C : Mem) (t_6 : (Int32 × Int32)) : (Int32 × Int32) → Option ((Int32 × Int32) ⊕ ((Int32 × Int32) ⊕ Int32)) := fun t_17 => cnd ((C 55 4) ≤ t_17.2) (exR (fX2_downFrom_51 C t_17 t_6)) (cnd ((fX7_holds t_17.1 t_17.2) = (0 : Int32)) (fX2_downFrom_45 C t_17 t_6 t_17.1) (chk (vp_in t_17.2 16) (nmv ((t_17.1 ||| (C 57 t_17.2.toNatClampNeg))) fun v44 => fX2_downFrom_45 C t_17 t_6 v44)))
noncomputable def fX2_downFrom_6 (C : Mem) : (Int32 × Int32) → Option ((Int32 × Int32) ⊕ Int32) := fun t_6 => cnd ((C 55 4) ≤ t_6.2) (exR (some t_6.1)) (lp (fX2_downFrom_17 C t_6) (t_6.1, (0 : Int32)))
noncomputable def fX2_downFrom (C : Mem) (a1 : Int32) : Option Int32 := nmv (((1 : Int32) <<< (a1 &&& 31))) fun v3 => lp (fX2_downFrom_6 C) (v3, (0 : Int32))
abbrev rm_X2_downFrom : Room := { frames := 1, cells := 0, slots := 0, locals := 21 }
set_option maxRecDepth 100000 in
set_option maxHeartbeats 4000000 in
theorem c_X2_downFrom (l : Launch) (Γ : gx_G) (C M : Mem) (a1 : Int32) {y0 : Int32} (hf : fX2_downFrom C a1 = some y0) : Met l yX2_downFrom (.code yX2_downFrom cX2_downFrom 5 (some .int) :: TsG) rm_X2_downFrom (va_Pc [.ref (Γ.1 55), .int a1] (gx_P Γ C M)) (gx_Qi Γ y0 C M) 0 0 (gA Γ) := by
  refine gm_i (by decide) (Nat.le_of_ble_eq_true rfl) ?_
  intro p e s m args below meth c Q S hG hret ls H locs hl hW hS
  obtain ⟨hx, hb, hml, hown, hts⟩ := id S
  have hl : lv_has ls 5 [(0, .ref (Γ.1 55)), (1, .int a1)] := hl
  unfold fX2_downFrom at hf
  refine lv_iconst (v := (1 : Int32)) hx hb dX2_downFrom_0 (by decide) ?_
  refine lv_iload_n hx hb dX2_downFrom_1 rfl (lv_at hl 1 rfl) ?_
  refine lv_ishl hx hb dX2_downFrom_2 ?_
  refine lv_topi (fun v3 ev3 => ?_)
  have hf := nm_v ev3 hf
  refine lv_istore_n (lv' := [(2, .int v3), (0, .ref (Γ.1 55)), (1, .int a1)]) hx hb dX2_downFrom_3 rfl hl (by decide) rfl (fun ls hl => ?_)
  refine lv_iconst (v := (0 : Int32)) hx hb dX2_downFrom_4 (by decide) ?_
  refine lv_istore_n (lv' := [(3, .int (0 : Int32)), (2, .int v3), (0, .ref (Γ.1 55)), (1, .int a1)]) hx hb dX2_downFrom_5 rfl hl (by decide) rfl (fun ls hl => ?_)
  have J_6 : ∀  (t_6 : Int32 × Int32), lp (fX2_downFrom_6 C) t_6 = some y0 → ∀ (H : Heap) (locs : List Loc) (ls : Array Slot), gx_W Γ C M H → va_S (gA Γ) s.heap H locs → lv_has ls 5 [(0, .ref (Γ.1 55)), (2, .int t_6.1), (3, .int t_6.2)] → W p l e rm_X2_downFrom s m args below meth c H locs 0 0 Q (F0 m 6 ls []) := by
    refine lp_ind (P := fun (t_6 : Int32 × Int32) => ∀ (H : Heap) (locs : List Loc) (ls : Array Slot), gx_W Γ C M H → va_S (gA Γ) s.heap H locs → lv_has ls 5 [(0, .ref (Γ.1 55)), (2, .int t_6.1), (3, .int t_6.2)] → W p l e rm_X2_downFrom s m args below meth c H locs 0 0 Q (F0 m 6 ls [])) ?_
    intro t_6 y1 hf kI1 kX1 H locs ls hW hS hl
    unfold fX2_downFrom_6 at hf
    refine lv_iload_n hx hb dX2_downFrom_6 rfl (lv_at hl 2 rfl) ?_
    refine lv_aload_n hx hb dX2_downFrom_7 rfl (lv_at hl 0 rfl) ?_
    refine get_X2_4 S hG hW fl_X2_30 dX2_downFrom_8 ?_
    refine lv_icmp_ge (tgt := 57) hx hb dX2_downFrom_11 (by decide) (fun c11 => ?_) (fun c11 => ?_)
    · have hf := cn_t c11 hf
      obtain ⟨z11, hf, ez⟩ := exR_e hf
      rw [kX1 _ ez] at hf
      refine lv_iload_n hx hb dX2_downFrom_57 rfl (lv_at hl 1 rfl) ?_
      exact hret _ _ _ _ _ hW hS rfl (Option.some.inj hf) dX2_downFrom_58
    · have hf := cn_f c11 hf
      refine lv_iconst (v := (0 : Int32)) hx hb dX2_downFrom_14 (by decide) ?_
      refine lv_istore (lv' := [(4, .int (0 : Int32)), (0, .ref (Γ.1 55)), (2, .int t_6.1), (3, .int t_6.2)]) hx hb dX2_downFrom_15 hl (by decide) rfl (fun ls hl => ?_)
      have J_17 : ∀  (t_17 : Int32 × Int32), lp (fX2_downFrom_17 C t_6) t_17 = some y1 → ∀ (H : Heap) (locs : List Loc) (ls : Array Slot), gx_W Γ C M H → va_S (gA Γ) s.heap H locs → lv_has ls 5 [(0, .ref (Γ.1 55)), (2, .int t_17.1), (3, .int t_6.2), (4, .int t_17.2)] → W p l e rm_X2_downFrom s m args below meth c H locs 0 0 Q (F0 m 17 ls []) := by
        refine lp_ind (P := fun (t_17 : Int32 × Int32) => ∀ (H : Heap) (locs : List Loc) (ls : Array Slot), gx_W Γ C M H → va_S (gA Γ) s.heap H locs → lv_has ls 5 [(0, .ref (Γ.1 55)), (2, .int t_17.1), (3, .int t_6.2), (4, .int t_17.2)] → W p l e rm_X2_downFrom s m args below meth c H locs 0 0 Q (F0 m 17 ls [])) ?_
        intro t_17 y2 hf kI2 kX2 H locs ls hW hS hl
        unfold fX2_downFrom_17 at hf
        refine lv_iload hx hb dX2_downFrom_17 (lv_at hl 3 rfl) ?_
        refine lv_aload_n hx hb dX2_downFrom_19 rfl (lv_at hl 0 rfl) ?_
        refine get_X2_4 S hG hW fl_X2_30 dX2_downFrom_20 ?_
        have J_51 : fX2_downFrom_51 C t_17 t_6 = some y1 → ∀ (H : Heap) (locs : List Loc) (ls : Array Slot), gx_W Γ C M H → va_S (gA Γ) s.heap H locs → lv_has ls 5 [(0, .ref (Γ.1 55)), (2, .int t_17.1), (3, .int t_6.2)] → W p l e rm_X2_downFrom s m args below meth c H locs 0 0 Q (F0 m 51 ls []) := by
          intro  hf H locs ls hW hS hl
          unfold fX2_downFrom_51 at hf
          refine lv_iinc (v := (t_6.2 + (1 : Int32))) (lv' := [(3, .int (t_6.2 + (1 : Int32))), (0, .ref (Γ.1 55)), (2, .int t_17.1)]) hx hb dX2_downFrom_51 hl (k := 2) rfl rfl (by decide) rfl (fun ls hl => ?_)
          refine lv_goto (tgt := 6) hx hb dX2_downFrom_54 (by decide) ?_
          exact kI1 _ (Option.some.inj hf).symm H locs ls hW hS (lv_sub hl [1, 2, 0] rfl)
        refine lv_icmp_ge (tgt := 51) hx hb dX2_downFrom_23 (by decide) (fun c23 => ?_) (fun c23 => ?_)
        · have hf := cn_t c23 hf
          obtain ⟨z23, hf, ez⟩ := exR_e hf
          rw [kX2 _ ez] at hf
          exact J_51  hf H locs ls hW hS (lv_sub hl [0, 1, 2] rfl)
        · have hf := cn_f c23 hf
          refine lv_iload_n hx hb dX2_downFrom_26 rfl (lv_at hl 1 rfl) ?_
          refine lv_iload hx hb dX2_downFrom_27 (lv_at hl 3 rfl) ?_
          refine gk0_i hS (gn_run (rest := []) S hG hW hS [.int t_17.1, .int t_17.2] (c_X7_holds l Γ C M t_17.1 t_17.2) pk_X7_holds nl_X2_42 rfl rfl ⟨Nat.le_of_ble_eq_true rfl, Nat.le_of_ble_eq_true rfl⟩ rfl hl.1 rfl (Nat.le_of_ble_eq_true rfl) dX2_downFrom_29 ⟨Nat.le_of_ble_eq_true rfl, Nat.le_of_ble_eq_true rfl⟩) (fun H locs hW hS => ?_)
          have J_45 : ∀ (x2_45 : Int32) , fX2_downFrom_45 C t_17 t_6 x2_45 = some y2 → ∀ (H : Heap) (locs : List Loc) (ls : Array Slot), gx_W Γ C M H → va_S (gA Γ) s.heap H locs → lv_has ls 5 [(0, .ref (Γ.1 55)), (2, .int x2_45), (3, .int t_6.2), (4, .int t_17.2)] → W p l e rm_X2_downFrom s m args below meth c H locs 0 0 Q (F0 m 45 ls []) := by
            intro x2_45 hf H locs ls hW hS hl
            unfold fX2_downFrom_45 at hf
            refine lv_iinc (v := (t_17.2 + (1 : Int32))) (lv' := [(4, .int (t_17.2 + (1 : Int32))), (0, .ref (Γ.1 55)), (2, .int x2_45), (3, .int t_6.2)]) hx hb dX2_downFrom_45 hl (k := 3) rfl rfl (by decide) rfl (fun ls hl => ?_)
            refine lv_goto (tgt := 17) hx hb dX2_downFrom_48 (by decide) ?_
            exact kI2 _ (Option.some.inj hf).symm H locs ls hW hS (lv_sub hl [1, 2, 3, 0] rfl)
          refine lv_if_eq (tgt := 45) hx hb dX2_downFrom_32 (by decide) (fun c32 => ?_) (fun c32 => ?_)
          · have hf := cn_t c32 hf
            exact J_45 t_17.1 hf H locs ls hW hS (lv_sub hl [0, 1, 2, 3] rfl)
          · have hf := cn_f c32 hf
            refine lv_iload_n hx hb dX2_downFrom_35 rfl (lv_at hl 1 rfl) ?_
            refine lv_aload_n hx hb dX2_downFrom_36 rfl (lv_at hl 0 rfl) ?_
            refine get_X2_1 S hG hW fl_X2_15 dX2_downFrom_37 ?_
            refine lv_iload hx hb dX2_downFrom_40 (lv_at hl 3 rfl) ?_
            have g42 := ck_p hf
            have hf := ck_r hf
            refine ald_i S hG hW shk_57 lnk_57 g42 dX2_downFrom_42 ?_
            refine lv_ior hx hb dX2_downFrom_43 ?_
            refine lv_topi (fun v44 ev44 => ?_)
            have hf := nm_v ev44 hf
            refine lv_istore_n (lv' := [(2, .int v44), (0, .ref (Γ.1 55)), (3, .int t_6.2), (4, .int t_17.2)]) hx hb dX2_downFrom_44 rfl hl (by decide) rfl (fun ls hl => ?_)
            exact J_45 v44 hf H locs ls hW hS (lv_sub hl [1, 0, 2, 3] rfl)
      exact J_17 (t_6.1, (0 : Int32)) hf H locs ls hW hS (lv_sub hl [1, 2, 3, 0] rfl)
  exact J_6 (v3, (0 : Int32)) hf H locs ls hW hS (lv_sub hl [2, 1, 0] rfl)
noncomputable def fX2_reachingDown_28 (C : Mem) (a1 : Int32) (t_4 : (Int32 × Int32)) (x2_28 : Int32) : Option ((Int32 × Int32) ⊕ Int32) := some (.inl (x2_28, (t_4.2 + (1 : Int32))))
noncomputable def fX2_reachingDown_4 (C : Mem) (a1 : Int32) : (Int32 × Int32) → Option ((Int32 × Int32) ⊕ Int32) := fun t_4 => cnd ((C 55 4) ≤ t_4.2) (exR (some t_4.1)) (bnd (fX2_downFrom C t_4.2) fun q14 => cnd ((q14 &&& a1) = (0 : Int32)) (fX2_reachingDown_28 C a1 t_4 t_4.1) (nmv ((t_4.1 ||| ((1 : Int32) <<< (t_4.2 &&& 31)))) fun v27 => fX2_reachingDown_28 C a1 t_4 v27))
noncomputable def fX2_reachingDown (C : Mem) (a1 : Int32) : Option Int32 := lp (fX2_reachingDown_4 C a1) ((0 : Int32), (0 : Int32))
abbrev rm_X2_reachingDown : Room := { frames := 2, cells := 0, slots := 0, locals := 45 }
set_option maxRecDepth 100000 in
set_option maxHeartbeats 4000000 in
theorem c_X2_reachingDown (l : Launch) (Γ : gx_G) (C M : Mem) (a1 : Int32) {y0 : Int32} (hf : fX2_reachingDown C a1 = some y0) : Met l yX2_reachingDown (.code yX2_reachingDown cX2_reachingDown 4 (some .int) :: TsG) rm_X2_reachingDown (va_Pc [.ref (Γ.1 55), .int a1] (gx_P Γ C M)) (gx_Qi Γ y0 C M) 0 0 (gA Γ) := by
  refine gm_i (by decide) (Nat.le_of_ble_eq_true rfl) ?_
  intro p e s m args below meth c Q S hG hret ls H locs hl hW hS
  obtain ⟨hx, hb, hml, hown, hts⟩ := id S
  have hl : lv_has ls 4 [(0, .ref (Γ.1 55)), (1, .int a1)] := hl
  unfold fX2_reachingDown at hf
  refine lv_iconst (v := (0 : Int32)) hx hb dX2_reachingDown_0 (by decide) ?_
  refine lv_istore_n (lv' := [(2, .int (0 : Int32)), (0, .ref (Γ.1 55)), (1, .int a1)]) hx hb dX2_reachingDown_1 rfl hl (by decide) rfl (fun ls hl => ?_)
  refine lv_iconst (v := (0 : Int32)) hx hb dX2_reachingDown_2 (by decide) ?_
  refine lv_istore_n (lv' := [(3, .int (0 : Int32)), (2, .int (0 : Int32)), (0, .ref (Γ.1 55)), (1, .int a1)]) hx hb dX2_reachingDown_3 rfl hl (by decide) rfl (fun ls hl => ?_)
  have J_4 : ∀  (t_4 : Int32 × Int32), lp (fX2_reachingDown_4 C a1) t_4 = some y0 → ∀ (H : Heap) (locs : List Loc) (ls : Array Slot), gx_W Γ C M H → va_S (gA Γ) s.heap H locs → lv_has ls 4 [(0, .ref (Γ.1 55)), (1, .int a1), (2, .int t_4.1), (3, .int t_4.2)] → W p l e rm_X2_reachingDown s m args below meth c H locs 0 0 Q (F0 m 4 ls []) := by
    refine lp_ind (P := fun (t_4 : Int32 × Int32) => ∀ (H : Heap) (locs : List Loc) (ls : Array Slot), gx_W Γ C M H → va_S (gA Γ) s.heap H locs → lv_has ls 4 [(0, .ref (Γ.1 55)), (1, .int a1), (2, .int t_4.1), (3, .int t_4.2)] → W p l e rm_X2_reachingDown s m args below meth c H locs 0 0 Q (F0 m 4 ls [])) ?_
    intro t_4 y1 hf kI1 kX1 H locs ls hW hS hl
    unfold fX2_reachingDown_4 at hf
    refine lv_iload_n hx hb dX2_reachingDown_4 rfl (lv_at hl 3 rfl) ?_
    refine lv_aload_n hx hb dX2_reachingDown_5 rfl (lv_at hl 0 rfl) ?_
    refine get_X2_4 S hG hW fl_X2_30 dX2_reachingDown_6 ?_
    refine lv_icmp_ge (tgt := 34) hx hb dX2_reachingDown_9 (by decide) (fun c9 => ?_) (fun c9 => ?_)
    · have hf := cn_t c9 hf
      obtain ⟨z9, hf, ez⟩ := exR_e hf
      rw [kX1 _ ez] at hf
      refine lv_iload_n hx hb dX2_reachingDown_34 rfl (lv_at hl 2 rfl) ?_
      exact hret _ _ _ _ _ hW hS rfl (Option.some.inj hf) dX2_reachingDown_35
    · have hf := cn_f c9 hf
      refine lv_aload_n hx hb dX2_reachingDown_12 rfl (lv_at hl 0 rfl) ?_
      refine lv_iload_n hx hb dX2_reachingDown_13 rfl (lv_at hl 3 rfl) ?_
      obtain ⟨q14, hq14, hf⟩ := bnd_e hf
      refine gk0_i hS (gv_run (rest := []) S hG hW hS [.int t_4.2] (c_X2_downFrom l Γ C M t_4.2 hq14) pk_X2_downFrom ml_X2_46 (Nat.le_of_ble_eq_true rfl) rfl rfl rfl rfl ⟨Nat.le_of_ble_eq_true rfl, Nat.le_of_ble_eq_true rfl⟩ rfl hl.1 rfl (Nat.le_of_ble_eq_true rfl) dX2_reachingDown_14 ⟨Nat.le_of_ble_eq_true rfl, Nat.le_of_ble_eq_true rfl⟩) (fun H locs hW hS => ?_)
      refine lv_iload_n hx hb dX2_reachingDown_17 rfl (lv_at hl 1 rfl) ?_
      refine lv_iand hx hb dX2_reachingDown_18 ?_
      have J_28 : ∀ (x2_28 : Int32) , fX2_reachingDown_28 C a1 t_4 x2_28 = some y1 → ∀ (H : Heap) (locs : List Loc) (ls : Array Slot), gx_W Γ C M H → va_S (gA Γ) s.heap H locs → lv_has ls 4 [(0, .ref (Γ.1 55)), (1, .int a1), (2, .int x2_28), (3, .int t_4.2)] → W p l e rm_X2_reachingDown s m args below meth c H locs 0 0 Q (F0 m 28 ls []) := by
        intro x2_28 hf H locs ls hW hS hl
        unfold fX2_reachingDown_28 at hf
        refine lv_iinc (v := (t_4.2 + (1 : Int32))) (lv' := [(3, .int (t_4.2 + (1 : Int32))), (0, .ref (Γ.1 55)), (1, .int a1), (2, .int x2_28)]) hx hb dX2_reachingDown_28 hl (k := 3) rfl rfl (by decide) rfl (fun ls hl => ?_)
        refine lv_goto (tgt := 4) hx hb dX2_reachingDown_31 (by decide) ?_
        exact kI1 _ (Option.some.inj hf).symm H locs ls hW hS (lv_sub hl [1, 2, 3, 0] rfl)
      refine lv_if_eq (tgt := 28) hx hb dX2_reachingDown_19 (by decide) (fun c19 => ?_) (fun c19 => ?_)
      · have hf := cn_t c19 hf
        exact J_28 t_4.1 hf H locs ls hW hS (lv_sub hl [0, 1, 2, 3] rfl)
      · have hf := cn_f c19 hf
        refine lv_iload_n hx hb dX2_reachingDown_22 rfl (lv_at hl 2 rfl) ?_
        refine lv_iconst (v := (1 : Int32)) hx hb dX2_reachingDown_23 (by decide) ?_
        refine lv_iload_n hx hb dX2_reachingDown_24 rfl (lv_at hl 3 rfl) ?_
        refine lv_ishl hx hb dX2_reachingDown_25 ?_
        refine lv_ior hx hb dX2_reachingDown_26 ?_
        refine lv_topi (fun v27 ev27 => ?_)
        have hf := nm_v ev27 hf
        refine lv_istore_n (lv' := [(2, .int v27), (0, .ref (Γ.1 55)), (1, .int a1), (3, .int t_4.2)]) hx hb dX2_reachingDown_27 rfl hl (by decide) rfl (fun ls hl => ?_)
        exact J_28 v27 hf H locs ls hW hS (lv_sub hl [1, 2, 0, 3] rfl)
  exact J_4 ((0 : Int32), (0 : Int32)) hf H locs ls hW hS (lv_sub hl [2, 3, 1, 0] rfl)
noncomputable def fX2_costOf (C : Mem) (a1 : Int32) : Option Int32 := chk (vp_in a1 16) (some (C 56 a1.toNatClampNeg))
abbrev rm_X2_costOf : Room := { frames := 0, cells := 0, slots := 0, locals := 0 }
set_option maxRecDepth 100000 in
set_option maxHeartbeats 4000000 in
theorem c_X2_costOf (l : Launch) (Γ : gx_G) (C M : Mem) (a1 : Int32) {y0 : Int32} (hf : fX2_costOf C a1 = some y0) : Met l yX2_costOf (.code yX2_costOf cX2_costOf 2 (some .int) :: TsG) rm_X2_costOf (va_Pc [.ref (Γ.1 55), .int a1] (gx_P Γ C M)) (gx_Qi Γ y0 C M) 0 0 (gA Γ) := by
  refine gm_i (by decide) (Nat.le_of_ble_eq_true rfl) ?_
  intro p e s m args below meth c Q S hG hret ls H locs hl hW hS
  obtain ⟨hx, hb, hml, hown, hts⟩ := id S
  have hl : lv_has ls 2 [(0, .ref (Γ.1 55)), (1, .int a1)] := hl
  unfold fX2_costOf at hf
  refine lv_aload_n hx hb dX2_costOf_0 rfl (lv_at hl 0 rfl) ?_
  refine get_X2_0 S hG hW fl_X2_9 dX2_costOf_1 ?_
  refine lv_iload_n hx hb dX2_costOf_4 rfl (lv_at hl 1 rfl) ?_
  have g5 := ck_p hf
  have hf := ck_r hf
  refine ald_i S hG hW shk_56 lnk_56 g5 dX2_costOf_5 ?_
  exact hret _ _ _ _ _ hW hS rfl (Option.some.inj hf) dX2_costOf_6
