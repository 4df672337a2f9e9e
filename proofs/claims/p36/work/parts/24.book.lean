noncomputable def fX3_fillRow_110 (q67 : Int32) (t_74 : (Mem × Int32)) (s0_110 : Int32) (s1_110 : Int32) : Option ((Mem × Int32) ⊕ Mem) := chk (vp_in s1_110 40) (some (.inl ((mset t_74.1 442 s1_110.toNatClampNeg s0_110), (t_74.2 + (1 : Int32)))))
noncomputable def fX3_fillRow_74 (q67 : Int32) : (Mem × Int32) → Option ((Mem × Int32) ⊕ Mem) := fun t_74 => cnd ((16 : Int32) ≤ t_74.2) (exR (some t_74.1)) (cnd ((fX7_holds q67 t_74.2) = (0 : Int32)) (fX3_fillRow_110 q67 t_74 (0 : Int32) ((24 : Int32) + t_74.2)) (chk (vp_in t_74.2 16) (fX3_fillRow_110 q67 t_74 (t_74.1 440 t_74.2.toNatClampNeg) ((24 : Int32) + t_74.2))))
noncomputable def fX3_fillRow_62 (a1 : Int32) (t_22 : (Mem × Int32)) : Option Mem := bnd (fX2_dependenciesOf t_22.1 a1) fun q67 => lp (fX3_fillRow_74 q67) (t_22.1, (0 : Int32))
noncomputable def fX3_fillRow_55 (a1 : Int32) (t_22 : (Mem × Int32)) (v19 : Int32) (s0_55 : Int32) (s1_55 : Int32) : Option ((Mem × Int32) ⊕ Mem) := chk (vp_in s1_55 40) (some (.inl ((mset t_22.1 442 s1_55.toNatClampNeg s0_55), (t_22.2 + (1 : Int32)))))
noncomputable def fX3_fillRow_22 (a1 : Int32) (v19 : Int32) : (Mem × Int32) → Option ((Mem × Int32) ⊕ Mem) := fun t_22 => cnd ((24 : Int32) ≤ t_22.2) (exR (fX3_fillRow_62 a1 t_22)) (cnd ((fX7_holds v19 t_22.2) = (0 : Int32)) (fX3_fillRow_55 a1 t_22 v19 (0 : Int32) t_22.2) (bnd (fX0_contentOf t_22.1 t_22.2) fun q46 => fX3_fillRow_55 a1 t_22 v19 (q46 + (1 : Int32)) t_22.2))
noncomputable def fX3_fillRow (C : Mem) (a1 : Int32) : Option Mem := bnd (fX2_globsOf C a1) fun q5 => bnd (fX1_covered C q5) fun q8 => nmv ((q8 &&& (fX0_present C))) fun v19 => lp (fX3_fillRow_22 a1 v19) (C, (0 : Int32))
abbrev rm_X3_fillRow : Room := { frames := 1, cells := 0, slots := 0, locals := 22 }
set_option maxRecDepth 100000 in
set_option maxHeartbeats 4000000 in
theorem c_X3_fillRow (l : Launch) (Γ : gx_G) (C M : Mem) (a1 : Int32) {y0 : Mem} (hf : fX3_fillRow C a1 = some y0) : Met l yX3_fillRow (.code yX3_fillRow cX3_fillRow 5 none :: TsG) rm_X3_fillRow (va_Pc [.ref (Γ.1 236), .int a1] (gx_P Γ C M)) (gx_Qv Γ y0 M) 0 0 (gA Γ) := by
  refine gm_v (by decide) (Nat.le_of_ble_eq_true rfl) ?_
  intro p e s m args below meth c Q S hG hret ls H locs hl hW hS
  obtain ⟨hx, hb, hml, hown, hts⟩ := id S
  have hl : lv_has ls 5 [(0, .ref (Γ.1 236)), (1, .int a1)] := hl
  unfold fX3_fillRow at hf
  refine lv_aload_n hx hb dX3_fillRow_0 rfl (lv_at hl 0 rfl) ?_
  refine get_X3_1 S hG hW fl_X3_33 dX3_fillRow_1 ?_
  refine lv_iload_n hx hb dX3_fillRow_4 rfl (lv_at hl 1 rfl) ?_
  obtain ⟨q5, hq5, hf⟩ := bnd_e hf
  refine gk0_r hS (gv_run (rest := []) S hG hW hS [.int a1] (c_X2_globsOf l Γ C M a1 hq5) pk_X2_globsOf ml_X3_84 (Nat.le_of_ble_eq_true rfl) rfl rfl rfl rfl ⟨Nat.le_of_ble_eq_true rfl, Nat.le_of_ble_eq_true rfl⟩ rfl hl.1 rfl (Nat.le_of_ble_eq_true rfl) dX3_fillRow_5 ⟨Nat.le_of_ble_eq_true rfl, Nat.le_of_ble_eq_true rfl⟩) (fun H locs hW hS => ?_)
  obtain ⟨q8, hq8, hf⟩ := bnd_e hf
  refine gk0_i hS (gv_run (rest := []) S hG hW hS [] (c_X1_covered l Γ C M (sr_X2_globsOf hq5) hq8) pk_X1_covered ml_X3_88 (sh_lt9 (sr_X2_globsOf hq5)) (cc_9 (sr_X2_globsOf hq5) _ _) rfl rfl rfl ⟨Nat.le_of_ble_eq_true rfl, Nat.le_of_ble_eq_true rfl⟩ rfl hl.1 rfl (Nat.le_of_ble_eq_true rfl) dX3_fillRow_8 ⟨Nat.le_of_ble_eq_true rfl, Nat.le_of_ble_eq_true rfl⟩) (fun H locs hW hS => ?_)
  refine lv_aload_n hx hb dX3_fillRow_11 rfl (lv_at hl 0 rfl) ?_
  refine get_X3_0 S hG hW fl_X3_29 dX3_fillRow_12 ?_
  refine gk0_i hS (gv_run (rest := [.int q8]) S hG hW hS [] (c_X0_present l Γ C M) pk_X0_present ml_X3_93 (Nat.le_of_ble_eq_true rfl) rfl rfl rfl rfl ⟨Nat.le_of_ble_eq_true rfl, Nat.le_of_ble_eq_true rfl⟩ rfl hl.1 rfl (Nat.le_of_ble_eq_true rfl) dX3_fillRow_15 ⟨Nat.le_of_ble_eq_true rfl, Nat.le_of_ble_eq_true rfl⟩) (fun H locs hW hS => ?_)
  refine lv_iand hx hb dX3_fillRow_18 ?_
  refine lv_topi (fun v19 ev19 => ?_)
  have hf := nm_v ev19 hf
  refine lv_istore_n (lv' := [(2, .int v19), (0, .ref (Γ.1 236)), (1, .int a1)]) hx hb dX3_fillRow_19 rfl hl (by decide) rfl (fun ls hl => ?_)
  refine lv_iconst (v := (0 : Int32)) hx hb dX3_fillRow_20 (by decide) ?_
  refine lv_istore_n (lv' := [(3, .int (0 : Int32)), (2, .int v19), (0, .ref (Γ.1 236)), (1, .int a1)]) hx hb dX3_fillRow_21 rfl hl (by decide) rfl (fun ls hl => ?_)
  have J_22 : ∀  (t_22 : Mem × Int32), lp (fX3_fillRow_22 a1 v19) t_22 = some y0 → ∀ (H : Heap) (locs : List Loc) (ls : Array Slot), gx_W Γ t_22.1 M H → va_S (gA Γ) s.heap H locs → lv_has ls 5 [(0, .ref (Γ.1 236)), (1, .int a1), (2, .int v19), (3, .int t_22.2)] → W p l e rm_X3_fillRow s m args below meth c H locs 0 0 Q (F0 m 22 ls []) := by
    refine lp_ind (P := fun (t_22 : Mem × Int32) => ∀ (H : Heap) (locs : List Loc) (ls : Array Slot), gx_W Γ t_22.1 M H → va_S (gA Γ) s.heap H locs → lv_has ls 5 [(0, .ref (Γ.1 236)), (1, .int a1), (2, .int v19), (3, .int t_22.2)] → W p l e rm_X3_fillRow s m args below meth c H locs 0 0 Q (F0 m 22 ls [])) ?_
    intro t_22 y1 hf kI1 kX1 H locs ls hW hS hl
    unfold fX3_fillRow_22 at hf
    refine lv_iload_n hx hb dX3_fillRow_22 rfl (lv_at hl 3 rfl) ?_
    refine lv_bipush (v := (24 : Int32)) hx hb dX3_fillRow_23 (by decide) ?_
    have J_62 : fX3_fillRow_62 a1 t_22 = some y0 → ∀ (H : Heap) (locs : List Loc) (ls : Array Slot), gx_W Γ t_22.1 M H → va_S (gA Γ) s.heap H locs → lv_has ls 5 [(0, .ref (Γ.1 236)), (1, .int a1)] → W p l e rm_X3_fillRow s m args below meth c H locs 0 0 Q (F0 m 62 ls []) := by
      intro  hf H locs ls hW hS hl
      unfold fX3_fillRow_62 at hf
      refine lv_aload_n hx hb dX3_fillRow_62 rfl (lv_at hl 0 rfl) ?_
      refine get_X3_1 S hG hW fl_X3_33 dX3_fillRow_63 ?_
      refine lv_iload_n hx hb dX3_fillRow_66 rfl (lv_at hl 1 rfl) ?_
      obtain ⟨q67, hq67, hf⟩ := bnd_e hf
      refine gk0_i hS (gv_run (rest := []) S hG hW hS [.int a1] (c_X2_dependenciesOf l Γ t_22.1 M a1 hq67) pk_X2_dependenciesOf ml_X3_78 (Nat.le_of_ble_eq_true rfl) rfl rfl rfl rfl ⟨Nat.le_of_ble_eq_true rfl, Nat.le_of_ble_eq_true rfl⟩ rfl hl.1 rfl (Nat.le_of_ble_eq_true rfl) dX3_fillRow_67 ⟨Nat.le_of_ble_eq_true rfl, Nat.le_of_ble_eq_true rfl⟩) (fun H locs hW hS => ?_)
      refine lv_istore_n (lv' := [(3, .int q67), (0, .ref (Γ.1 236)), (1, .int a1)]) hx hb dX3_fillRow_70 rfl hl (by decide) rfl (fun ls hl => ?_)
      refine lv_iconst (v := (0 : Int32)) hx hb dX3_fillRow_71 (by decide) ?_
      refine lv_istore (lv' := [(4, .int (0 : Int32)), (3, .int q67), (0, .ref (Γ.1 236)), (1, .int a1)]) hx hb dX3_fillRow_72 hl (by decide) rfl (fun ls hl => ?_)
      have J_74 : ∀  (t_74 : Mem × Int32), lp (fX3_fillRow_74 q67) t_74 = some y0 → ∀ (H : Heap) (locs : List Loc) (ls : Array Slot), gx_W Γ t_74.1 M H → va_S (gA Γ) s.heap H locs → lv_has ls 5 [(0, .ref (Γ.1 236)), (3, .int q67), (4, .int t_74.2)] → W p l e rm_X3_fillRow s m args below meth c H locs 0 0 Q (F0 m 74 ls []) := by
        refine lp_ind (P := fun (t_74 : Mem × Int32) => ∀ (H : Heap) (locs : List Loc) (ls : Array Slot), gx_W Γ t_74.1 M H → va_S (gA Γ) s.heap H locs → lv_has ls 5 [(0, .ref (Γ.1 236)), (3, .int q67), (4, .int t_74.2)] → W p l e rm_X3_fillRow s m args below meth c H locs 0 0 Q (F0 m 74 ls [])) ?_
        intro t_74 y1 hf kI1 kX1 H locs ls hW hS hl
        unfold fX3_fillRow_74 at hf
        refine lv_iload hx hb dX3_fillRow_74 (lv_at hl 2 rfl) ?_
        refine lv_bipush (v := (16 : Int32)) hx hb dX3_fillRow_76 (by decide) ?_
        refine lv_icmp_ge (tgt := 117) hx hb dX3_fillRow_78 (by decide) (fun c78 => ?_) (fun c78 => ?_)
        · have hf := cn_t c78 hf
          obtain ⟨z78, hf, ez⟩ := exR_e hf
          rw [kX1 _ ez] at hf
          have e9 := Option.some.inj hf
          subst e9
          exact hret _ _ _ _ hW hS dX3_fillRow_117
        · have hf := cn_f c78 hf
          refine lv_aload_n hx hb dX3_fillRow_81 rfl (lv_at hl 0 rfl) ?_
          refine get_X3_6 S hG hW fl_X3_26 dX3_fillRow_82 ?_
          refine lv_bipush (v := (24 : Int32)) hx hb dX3_fillRow_85 (by decide) ?_
          refine lv_iload hx hb dX3_fillRow_87 (lv_at hl 2 rfl) ?_
          refine lv_iadd hx hb dX3_fillRow_89 ?_
          refine lv_iload_n hx hb dX3_fillRow_90 rfl (lv_at hl 1 rfl) ?_
          refine lv_iload hx hb dX3_fillRow_91 (lv_at hl 2 rfl) ?_
          refine gk0_i hS (gn_run (rest := [.int ((24 : Int32) + t_74.2), .ref (Γ.1 442)]) S hG hW hS [.int q67, .int t_74.2] (c_X7_holds l Γ t_74.1 M q67 t_74.2) pk_X7_holds nl_X3_97 rfl rfl ⟨Nat.le_of_ble_eq_true rfl, Nat.le_of_ble_eq_true rfl⟩ rfl hl.1 rfl (Nat.le_of_ble_eq_true rfl) dX3_fillRow_93 ⟨Nat.le_of_ble_eq_true rfl, Nat.le_of_ble_eq_true rfl⟩) (fun H locs hW hS => ?_)
          have J_110 : ∀ (s0_110 : Int32) (s1_110 : Int32) , fX3_fillRow_110 q67 t_74 s0_110 s1_110 = some y1 → ∀ (H : Heap) (locs : List Loc) (ls : Array Slot), gx_W Γ t_74.1 M H → va_S (gA Γ) s.heap H locs → lv_has ls 5 [(0, .ref (Γ.1 236)), (3, .int q67), (4, .int t_74.2)] → W p l e rm_X3_fillRow s m args below meth c H locs 0 0 Q (F0 m 110 ls [.int s0_110, .int s1_110, .ref (Γ.1 442)]) := by
            intro s0_110 s1_110 hf H locs ls hW hS hl
            unfold fX3_fillRow_110 at hf
            have g110 := ck_p hf
            have hf := ck_r hf
            refine ast_i S hG hW hS shk_442 lnk_442 g110 dX3_fillRow_110 (fun H locs hW hS => ?_)
            refine lv_iinc (v := (t_74.2 + (1 : Int32))) (lv' := [(4, .int (t_74.2 + (1 : Int32))), (0, .ref (Γ.1 236)), (3, .int q67)]) hx hb dX3_fillRow_111 hl (k := 2) rfl rfl (by decide) rfl (fun ls hl => ?_)
            refine lv_goto (tgt := 74) hx hb dX3_fillRow_114 (by decide) ?_
            exact kI1 _ (Option.some.inj hf).symm H locs ls hW hS (lv_sub hl [1, 2, 0] rfl)
          refine lv_if_eq (tgt := 109) hx hb dX3_fillRow_96 (by decide) (fun c96 => ?_) (fun c96 => ?_)
          · have hf := cn_t c96 hf
            refine lv_iconst (v := (0 : Int32)) hx hb dX3_fillRow_109 (by decide) ?_
            exact J_110 (0 : Int32) ((24 : Int32) + t_74.2) hf H locs ls hW hS (lv_sub hl [0, 1, 2] rfl)
          · have hf := cn_f c96 hf
            refine lv_aload_n hx hb dX3_fillRow_99 rfl (lv_at hl 0 rfl) ?_
            refine get_X3_4 S hG hW fl_X3_20 dX3_fillRow_100 ?_
            refine lv_iload hx hb dX3_fillRow_103 (lv_at hl 2 rfl) ?_
            have g105 := ck_p hf
            have hf := ck_r hf
            refine ald_i S hG hW shk_440 lnk_440 g105 dX3_fillRow_105 ?_
            refine lv_goto (tgt := 110) hx hb dX3_fillRow_106 (by decide) ?_
            exact J_110 (t_74.1 440 t_74.2.toNatClampNeg) ((24 : Int32) + t_74.2) hf H locs ls hW hS (lv_sub hl [0, 1, 2] rfl)
      exact J_74 (t_22.1, (0 : Int32)) hf H locs ls hW hS (lv_sub hl [2, 1, 0] rfl)
    refine lv_icmp_ge (tgt := 62) hx hb dX3_fillRow_25 (by decide) (fun c25 => ?_) (fun c25 => ?_)
    · have hf := cn_t c25 hf
      obtain ⟨z25, hf, ez⟩ := exR_e hf
      rw [kX1 _ ez] at hf
      exact J_62  hf H locs ls hW hS (lv_sub hl [0, 1] rfl)
    · have hf := cn_f c25 hf
      refine lv_aload_n hx hb dX3_fillRow_28 rfl (lv_at hl 0 rfl) ?_
      refine get_X3_6 S hG hW fl_X3_26 dX3_fillRow_29 ?_
      refine lv_iload_n hx hb dX3_fillRow_32 rfl (lv_at hl 3 rfl) ?_
      refine lv_iload_n hx hb dX3_fillRow_33 rfl (lv_at hl 2 rfl) ?_
      refine lv_iload_n hx hb dX3_fillRow_34 rfl (lv_at hl 3 rfl) ?_
      refine gk0_i hS (gn_run (rest := [.int t_22.2, .ref (Γ.1 442)]) S hG hW hS [.int v19, .int t_22.2] (c_X7_holds l Γ t_22.1 M v19 t_22.2) pk_X7_holds nl_X3_97 rfl rfl ⟨Nat.le_of_ble_eq_true rfl, Nat.le_of_ble_eq_true rfl⟩ rfl hl.1 rfl (Nat.le_of_ble_eq_true rfl) dX3_fillRow_35 ⟨Nat.le_of_ble_eq_true rfl, Nat.le_of_ble_eq_true rfl⟩) (fun H locs hW hS => ?_)
      have J_55 : ∀ (s0_55 : Int32) (s1_55 : Int32) , fX3_fillRow_55 a1 t_22 v19 s0_55 s1_55 = some y1 → ∀ (H : Heap) (locs : List Loc) (ls : Array Slot), gx_W Γ t_22.1 M H → va_S (gA Γ) s.heap H locs → lv_has ls 5 [(0, .ref (Γ.1 236)), (1, .int a1), (2, .int v19), (3, .int t_22.2)] → W p l e rm_X3_fillRow s m args below meth c H locs 0 0 Q (F0 m 55 ls [.int s0_55, .int s1_55, .ref (Γ.1 442)]) := by
        intro s0_55 s1_55 hf H locs ls hW hS hl
        unfold fX3_fillRow_55 at hf
        have g55 := ck_p hf
        have hf := ck_r hf
        refine ast_i S hG hW hS shk_442 lnk_442 g55 dX3_fillRow_55 (fun H locs hW hS => ?_)
        refine lv_iinc (v := (t_22.2 + (1 : Int32))) (lv' := [(3, .int (t_22.2 + (1 : Int32))), (0, .ref (Γ.1 236)), (1, .int a1), (2, .int v19)]) hx hb dX3_fillRow_56 hl (k := 3) rfl rfl (by decide) rfl (fun ls hl => ?_)
        refine lv_goto (tgt := 22) hx hb dX3_fillRow_59 (by decide) ?_
        exact kI1 _ (Option.some.inj hf).symm H locs ls hW hS (lv_sub hl [1, 2, 3, 0] rfl)
      refine lv_if_eq (tgt := 54) hx hb dX3_fillRow_38 (by decide) (fun c38 => ?_) (fun c38 => ?_)
      · have hf := cn_t c38 hf
        refine lv_iconst (v := (0 : Int32)) hx hb dX3_fillRow_54 (by decide) ?_
        exact J_55 (0 : Int32) t_22.2 hf H locs ls hW hS (lv_sub hl [0, 1, 2, 3] rfl)
      · have hf := cn_f c38 hf
        refine lv_aload_n hx hb dX3_fillRow_41 rfl (lv_at hl 0 rfl) ?_
        refine get_X3_0 S hG hW fl_X3_29 dX3_fillRow_42 ?_
        refine lv_iload_n hx hb dX3_fillRow_45 rfl (lv_at hl 3 rfl) ?_
        obtain ⟨q46, hq46, hf⟩ := bnd_e hf
        refine gk0_i hS (gv_run (rest := [.int t_22.2, .ref (Γ.1 442)]) S hG hW hS [.int t_22.2] (c_X0_contentOf l Γ t_22.1 M t_22.2 hq46) pk_X0_contentOf ml_X3_100 (Nat.le_of_ble_eq_true rfl) rfl rfl rfl rfl ⟨Nat.le_of_ble_eq_true rfl, Nat.le_of_ble_eq_true rfl⟩ rfl hl.1 rfl (Nat.le_of_ble_eq_true rfl) dX3_fillRow_46 ⟨Nat.le_of_ble_eq_true rfl, Nat.le_of_ble_eq_true rfl⟩) (fun H locs hW hS => ?_)
        refine lv_iconst (v := (1 : Int32)) hx hb dX3_fillRow_49 (by decide) ?_
        refine lv_iadd hx hb dX3_fillRow_50 ?_
        refine lv_goto (tgt := 55) hx hb dX3_fillRow_51 (by decide) ?_
        exact J_55 (q46 + (1 : Int32)) t_22.2 hf H locs ls hW hS (lv_sub hl [0, 1, 2, 3] rfl)
  exact J_22 (C, (0 : Int32)) hf H locs ls hW hS (lv_sub hl [2, 3, 1, 0] rfl)
noncomputable def fX3_withoutKey_30 (C : Mem) (t_4 : (Int32 × Int32)) (x1_30 : Int32) : Option ((Int32 × Int32) ⊕ Int32) := some (.inl (x1_30, (t_4.2 + (1 : Int32))))
noncomputable def fX3_withoutKey_4 (C : Mem) : (Int32 × Int32) → Option ((Int32 × Int32) ⊕ Int32) := fun t_4 => cnd ((fX2_size C) ≤ t_4.2) (exR (some t_4.1)) (chk (vp_in t_4.2 16) (cnd ((C 440 t_4.2.toNatClampNeg) = (0 : Int32)) (nmv ((t_4.1 ||| ((1 : Int32) <<< (t_4.2 &&& 31)))) fun v29 => fX3_withoutKey_30 C t_4 v29) (fX3_withoutKey_30 C t_4 t_4.1)))
noncomputable def fX3_withoutKey (C : Mem) : Option Int32 := lp (fX3_withoutKey_4 C) ((0 : Int32), (0 : Int32))
abbrev rm_X3_withoutKey : Room := { frames := 1, cells := 0, slots := 0, locals := 20 }
set_option maxRecDepth 100000 in
set_option maxHeartbeats 4000000 in
theorem c_X3_withoutKey (l : Launch) (Γ : gx_G) (C M : Mem)  {y0 : Int32} (hf : fX3_withoutKey C = some y0) : Met l yX3_withoutKey (.code yX3_withoutKey cX3_withoutKey 3 (some .int) :: TsG) rm_X3_withoutKey (va_Pc [.ref (Γ.1 236)] (gx_P Γ C M)) (gx_Qi Γ y0 C M) 0 0 (gA Γ) := by
  refine gm_i (by decide) (Nat.le_of_ble_eq_true rfl) ?_
  intro p e s m args below meth c Q S hG hret ls H locs hl hW hS
  obtain ⟨hx, hb, hml, hown, hts⟩ := id S
  have hl : lv_has ls 3 [(0, .ref (Γ.1 236))] := hl
  unfold fX3_withoutKey at hf
  refine lv_iconst (v := (0 : Int32)) hx hb dX3_withoutKey_0 (by decide) ?_
  refine lv_istore_n (lv' := [(1, .int (0 : Int32)), (0, .ref (Γ.1 236))]) hx hb dX3_withoutKey_1 rfl hl (by decide) rfl (fun ls hl => ?_)
  refine lv_iconst (v := (0 : Int32)) hx hb dX3_withoutKey_2 (by decide) ?_
  refine lv_istore_n (lv' := [(2, .int (0 : Int32)), (1, .int (0 : Int32)), (0, .ref (Γ.1 236))]) hx hb dX3_withoutKey_3 rfl hl (by decide) rfl (fun ls hl => ?_)
  have J_4 : ∀  (t_4 : Int32 × Int32), lp (fX3_withoutKey_4 C) t_4 = some y0 → ∀ (H : Heap) (locs : List Loc) (ls : Array Slot), gx_W Γ C M H → va_S (gA Γ) s.heap H locs → lv_has ls 3 [(0, .ref (Γ.1 236)), (1, .int t_4.1), (2, .int t_4.2)] → W p l e rm_X3_withoutKey s m args below meth c H locs 0 0 Q (F0 m 4 ls []) := by
    refine lp_ind (P := fun (t_4 : Int32 × Int32) => ∀ (H : Heap) (locs : List Loc) (ls : Array Slot), gx_W Γ C M H → va_S (gA Γ) s.heap H locs → lv_has ls 3 [(0, .ref (Γ.1 236)), (1, .int t_4.1), (2, .int t_4.2)] → W p l e rm_X3_withoutKey s m args below meth c H locs 0 0 Q (F0 m 4 ls [])) ?_
    intro t_4 y1 hf kI1 kX1 H locs ls hW hS hl
    unfold fX3_withoutKey_4 at hf
    refine lv_iload_n hx hb dX3_withoutKey_4 rfl (lv_at hl 2 rfl) ?_
    refine lv_aload_n hx hb dX3_withoutKey_5 rfl (lv_at hl 0 rfl) ?_
    refine get_X3_1 S hG hW fl_X3_33 dX3_withoutKey_6 ?_
    refine gk0_i hS (gv_run (rest := [.int t_4.2]) S hG hW hS [] (c_X2_size l Γ C M) pk_X2_size ml_X3_46 (Nat.le_of_ble_eq_true rfl) rfl rfl rfl rfl ⟨Nat.le_of_ble_eq_true rfl, Nat.le_of_ble_eq_true rfl⟩ rfl hl.1 rfl (Nat.le_of_ble_eq_true rfl) dX3_withoutKey_9 ⟨Nat.le_of_ble_eq_true rfl, Nat.le_of_ble_eq_true rfl⟩) (fun H locs hW hS => ?_)
    refine lv_icmp_ge (tgt := 36) hx hb dX3_withoutKey_12 (by decide) (fun c12 => ?_) (fun c12 => ?_)
    · have hf := cn_t c12 hf
      obtain ⟨z12, hf, ez⟩ := exR_e hf
      rw [kX1 _ ez] at hf
      refine lv_iload_n hx hb dX3_withoutKey_36 rfl (lv_at hl 1 rfl) ?_
      exact hret _ _ _ _ _ hW hS rfl (Option.some.inj hf) dX3_withoutKey_37
    · have hf := cn_f c12 hf
      refine lv_aload_n hx hb dX3_withoutKey_15 rfl (lv_at hl 0 rfl) ?_
      refine get_X3_4 S hG hW fl_X3_20 dX3_withoutKey_16 ?_
      refine lv_iload_n hx hb dX3_withoutKey_19 rfl (lv_at hl 2 rfl) ?_
      have g20 := ck_p hf
      have hf := ck_r hf
      refine ald_i S hG hW shk_440 lnk_440 g20 dX3_withoutKey_20 ?_
      have J_30 : ∀ (x1_30 : Int32) , fX3_withoutKey_30 C t_4 x1_30 = some y1 → ∀ (H : Heap) (locs : List Loc) (ls : Array Slot), gx_W Γ C M H → va_S (gA Γ) s.heap H locs → lv_has ls 3 [(0, .ref (Γ.1 236)), (1, .int x1_30), (2, .int t_4.2)] → W p l e rm_X3_withoutKey s m args below meth c H locs 0 0 Q (F0 m 30 ls []) := by
        intro x1_30 hf H locs ls hW hS hl
        unfold fX3_withoutKey_30 at hf
        refine lv_iinc (v := (t_4.2 + (1 : Int32))) (lv' := [(2, .int (t_4.2 + (1 : Int32))), (0, .ref (Γ.1 236)), (1, .int x1_30)]) hx hb dX3_withoutKey_30 hl (k := 2) rfl rfl (by decide) rfl (fun ls hl => ?_)
        refine lv_goto (tgt := 4) hx hb dX3_withoutKey_33 (by decide) ?_
        exact kI1 _ (Option.some.inj hf).symm H locs ls hW hS (lv_sub hl [1, 2, 0] rfl)
      refine lv_if_ne (tgt := 30) hx hb dX3_withoutKey_21 (by decide) (fun c21 => ?_) (fun c21 => ?_)
      · have hf := cn_f c21 hf
        exact J_30 t_4.1 hf H locs ls hW hS (lv_sub hl [0, 1, 2] rfl)
      · have hf := cn_t c21 hf
        refine lv_iload_n hx hb dX3_withoutKey_24 rfl (lv_at hl 1 rfl) ?_
        refine lv_iconst (v := (1 : Int32)) hx hb dX3_withoutKey_25 (by decide) ?_
        refine lv_iload_n hx hb dX3_withoutKey_26 rfl (lv_at hl 2 rfl) ?_
        refine lv_ishl hx hb dX3_withoutKey_27 ?_
        refine lv_ior hx hb dX3_withoutKey_28 ?_
        refine lv_topi (fun v29 ev29 => ?_)
        have hf := nm_v ev29 hf
        refine lv_istore_n (lv' := [(1, .int v29), (0, .ref (Γ.1 236)), (2, .int t_4.2)]) hx hb dX3_withoutKey_29 rfl hl (by decide) rfl (fun ls hl => ?_)
        exact J_30 v29 hf H locs ls hW hS (lv_sub hl [1, 0, 2] rfl)
  exact J_4 ((0 : Int32), (0 : Int32)) hf H locs ls hW hS (lv_sub hl [2, 1, 0] rfl)
noncomputable def fX3_dependenciesHaveKeys (C : Mem) (a1 : Int32) : Option Int32 := bnd (fX2_dependenciesOf C a1) fun q5 => bnd (fX3_withoutKey C) fun q9 => cnd ((q5 &&& q9) = (0 : Int32)) (some (1 : Int32)) (some (0 : Int32))
abbrev rm_X3_dependenciesHaveKeys : Room := { frames := 2, cells := 0, slots := 0, locals := 42 }
set_option maxRecDepth 100000 in
set_option maxHeartbeats 4000000 in
theorem c_X3_dependenciesHaveKeys (l : Launch) (Γ : gx_G) (C M : Mem) (a1 : Int32) {y0 : Int32} (hf : fX3_dependenciesHaveKeys C a1 = some y0) : Met l yX3_dependenciesHaveKeys (.code yX3_dependenciesHaveKeys cX3_dependenciesHaveKeys 2 (some .boolean) :: TsG) rm_X3_dependenciesHaveKeys (va_Pc [.ref (Γ.1 236), .int a1] (gx_P Γ C M)) (gx_Qi Γ y0 C M) 0 0 (gA Γ) := by
  refine gm_i (by decide) (Nat.le_of_ble_eq_true rfl) ?_
  intro p e s m args below meth c Q S hG hret ls H locs hl hW hS
  obtain ⟨hx, hb, hml, hown, hts⟩ := id S
  have hl : lv_has ls 2 [(0, .ref (Γ.1 236)), (1, .int a1)] := hl
  unfold fX3_dependenciesHaveKeys at hf
  refine lv_aload_n hx hb dX3_dependenciesHaveKeys_0 rfl (lv_at hl 0 rfl) ?_
  refine get_X3_1 S hG hW fl_X3_33 dX3_dependenciesHaveKeys_1 ?_
  refine lv_iload_n hx hb dX3_dependenciesHaveKeys_4 rfl (lv_at hl 1 rfl) ?_
  obtain ⟨q5, hq5, hf⟩ := bnd_e hf
  refine gk0_i hS (gv_run (rest := []) S hG hW hS [.int a1] (c_X2_dependenciesOf l Γ C M a1 hq5) pk_X2_dependenciesOf ml_X3_78 (Nat.le_of_ble_eq_true rfl) rfl rfl rfl rfl ⟨Nat.le_of_ble_eq_true rfl, Nat.le_of_ble_eq_true rfl⟩ rfl hl.1 rfl (Nat.le_of_ble_eq_true rfl) dX3_dependenciesHaveKeys_5 ⟨Nat.le_of_ble_eq_true rfl, Nat.le_of_ble_eq_true rfl⟩) (fun H locs hW hS => ?_)
  refine lv_aload_n hx hb dX3_dependenciesHaveKeys_8 rfl (lv_at hl 0 rfl) ?_
  obtain ⟨q9, hq9, hf⟩ := bnd_e hf
  refine gk0_i hS (gv_run (rest := [.int q5]) S hG hW hS [] (c_X3_withoutKey l Γ C M hq9) pk_X3_withoutKey ml_X3_81 (Nat.le_of_ble_eq_true rfl) rfl rfl rfl rfl ⟨Nat.le_of_ble_eq_true rfl, Nat.le_of_ble_eq_true rfl⟩ rfl hl.1 rfl (Nat.le_of_ble_eq_true rfl) dX3_dependenciesHaveKeys_9 ⟨Nat.le_of_ble_eq_true rfl, Nat.le_of_ble_eq_true rfl⟩) (fun H locs hW hS => ?_)
  refine lv_iand hx hb dX3_dependenciesHaveKeys_12 ?_
  refine lv_if_ne (tgt := 20) hx hb dX3_dependenciesHaveKeys_13 (by decide) (fun c13 => ?_) (fun c13 => ?_)
  · have hf := cn_f c13 hf
    refine lv_iconst (v := (0 : Int32)) hx hb dX3_dependenciesHaveKeys_20 (by decide) ?_
    exact hret _ _ _ _ _ hW hS rfl (Option.some.inj hf) dX3_dependenciesHaveKeys_21
  · have hf := cn_t c13 hf
    refine lv_iconst (v := (1 : Int32)) hx hb dX3_dependenciesHaveKeys_16 (by decide) ?_
    refine lv_goto (tgt := 21) hx hb dX3_dependenciesHaveKeys_17 (by decide) ?_
    exact hret _ _ _ _ _ hW hS rfl (Option.some.inj hf) dX3_dependenciesHaveKeys_21
noncomputable def fX3_agrees_2 (C : Mem) (a1 : Int32) (a2 : Int32) : (Int32) → Option ((Int32) ⊕ Int32) := fun t_2 => cnd (a2 ≤ t_2) (exR (some (1 : Int32))) (chk (vp_in a1 201) (chk (vp_in t_2 40) (chk (vp_in t_2 40) (cnd ((C (238 + a1.toNatClampNeg) t_2.toNatClampNeg) = (C 442 t_2.toNatClampNeg)) (some (.inl (t_2 + (1 : Int32)))) (exR (some (0 : Int32)))))))
noncomputable def fX3_agrees (C : Mem) (a1 : Int32) (a2 : Int32) : Option Int32 := lp (fX3_agrees_2 C a1 a2) (0 : Int32)
abbrev rm_X3_agrees : Room := { frames := 0, cells := 0, slots := 0, locals := 0 }
set_option maxRecDepth 100000 in
set_option maxHeartbeats 4000000 in
theorem c_X3_agrees (l : Launch) (Γ : gx_G) (C M : Mem) (a1 : Int32) (a2 : Int32) {y0 : Int32} (hf : fX3_agrees C a1 a2 = some y0) : Met l yX3_agrees (.code yX3_agrees cX3_agrees 4 (some .boolean) :: TsG) rm_X3_agrees (va_Pc [.ref (Γ.1 236), .int a1, .int a2] (gx_P Γ C M)) (gx_Qi Γ y0 C M) 0 0 (gA Γ) := by
  refine gm_i (by decide) (Nat.le_of_ble_eq_true rfl) ?_
  intro p e s m args below meth c Q S hG hret ls H locs hl hW hS
  obtain ⟨hx, hb, hml, hown, hts⟩ := id S
  have hl : lv_has ls 4 [(0, .ref (Γ.1 236)), (1, .int a1), (2, .int a2)] := hl
  unfold fX3_agrees at hf
  refine lv_iconst (v := (0 : Int32)) hx hb dX3_agrees_0 (by decide) ?_
  refine lv_istore_n (lv' := [(3, .int (0 : Int32)), (0, .ref (Γ.1 236)), (1, .int a1), (2, .int a2)]) hx hb dX3_agrees_1 rfl hl (by decide) rfl (fun ls hl => ?_)
  have J_2 : ∀  (t_2 : Int32), lp (fX3_agrees_2 C a1 a2) t_2 = some y0 → ∀ (H : Heap) (locs : List Loc) (ls : Array Slot), gx_W Γ C M H → va_S (gA Γ) s.heap H locs → lv_has ls 4 [(0, .ref (Γ.1 236)), (1, .int a1), (2, .int a2), (3, .int t_2)] → W p l e rm_X3_agrees s m args below meth c H locs 0 0 Q (F0 m 2 ls []) := by
    refine lp_ind (P := fun (t_2 : Int32) => ∀ (H : Heap) (locs : List Loc) (ls : Array Slot), gx_W Γ C M H → va_S (gA Γ) s.heap H locs → lv_has ls 4 [(0, .ref (Γ.1 236)), (1, .int a1), (2, .int a2), (3, .int t_2)] → W p l e rm_X3_agrees s m args below meth c H locs 0 0 Q (F0 m 2 ls [])) ?_
    intro t_2 y1 hf kI1 kX1 H locs ls hW hS hl
    unfold fX3_agrees_2 at hf
    refine lv_iload_n hx hb dX3_agrees_2 rfl (lv_at hl 3 rfl) ?_
    refine lv_iload_n hx hb dX3_agrees_3 rfl (lv_at hl 2 rfl) ?_
    refine lv_icmp_ge (tgt := 32) hx hb dX3_agrees_4 (by decide) (fun c4 => ?_) (fun c4 => ?_)
    · have hf := cn_t c4 hf
      obtain ⟨z4, hf, ez⟩ := exR_e hf
      rw [kX1 _ ez] at hf
      refine lv_iconst (v := (1 : Int32)) hx hb dX3_agrees_32 (by decide) ?_
      exact hret _ _ _ _ _ hW hS rfl (Option.some.inj hf) dX3_agrees_33
    · have hf := cn_f c4 hf
      refine lv_aload_n hx hb dX3_agrees_7 rfl (lv_at hl 0 rfl) ?_
      refine get_X3_2 S hG hW fl_X3_13 dX3_agrees_8 ?_
      refine lv_iload_n hx hb dX3_agrees_11 rfl (lv_at hl 1 rfl) ?_
      have g12 := ck_p hf
      have hf := ck_r hf
      refine ald_rows S hG hW g12 dX3_agrees_12 ?_
      refine lv_iload_n hx hb dX3_agrees_13 rfl (lv_at hl 3 rfl) ?_
      have g14 := ck_p hf
      have hf := ck_r hf
      refine ald_i S hG hW (sh_row (in_lt g12)) (ln_row (in_lt g12)) g14 dX3_agrees_14 ?_
      refine lv_aload_n hx hb dX3_agrees_15 rfl (lv_at hl 0 rfl) ?_
      refine get_X3_6 S hG hW fl_X3_26 dX3_agrees_16 ?_
      refine lv_iload_n hx hb dX3_agrees_19 rfl (lv_at hl 3 rfl) ?_
      have g20 := ck_p hf
      have hf := ck_r hf
      refine ald_i S hG hW shk_442 lnk_442 g20 dX3_agrees_20 ?_
      refine lv_icmp_eq (tgt := 26) hx hb dX3_agrees_21 (by decide) (fun c21 => ?_) (fun c21 => ?_)
      · have hf := cn_t c21 hf
        refine lv_iinc (v := (t_2 + (1 : Int32))) (lv' := [(3, .int (t_2 + (1 : Int32))), (0, .ref (Γ.1 236)), (1, .int a1), (2, .int a2)]) hx hb dX3_agrees_26 hl (k := 3) rfl rfl (by decide) rfl (fun ls hl => ?_)
        refine lv_goto (tgt := 2) hx hb dX3_agrees_29 (by decide) ?_
        exact kI1 _ (Option.some.inj hf).symm H locs ls hW hS (lv_sub hl [1, 2, 3, 0] rfl)
      · have hf := cn_f c21 hf
        obtain ⟨z21, hf, ez⟩ := exR_e hf
        rw [kX1 _ ez] at hf
        refine lv_iconst (v := (0 : Int32)) hx hb dX3_agrees_24 (by decide) ?_
        exact hret _ _ _ _ _ hW hS rfl (Option.some.inj hf) dX3_agrees_25
  exact J_2 (0 : Int32) hf H locs ls hW hS (lv_sub hl [1, 2, 3, 0] rfl)
noncomputable def fX3_keyOfRow_32 (C : Mem) (a1 : Int32) (t_2 : (Int32)) : Option ((Int32) ⊕ Int32) := some (.inl (t_2 + (1 : Int32)))
noncomputable def fX3_keyOfRow_2 (C : Mem) (a1 : Int32) : (Int32) → Option ((Int32) ⊕ Int32) := fun t_2 => cnd ((C 236 7) < t_2) (exR (some (0 : Int32))) (chk (vp_in t_2 201) (cnd ((C 439 t_2.toNatClampNeg) = a1) (bnd (fX3_agrees C t_2 (40 : Int32)) fun q24 => cnd (q24 = (0 : Int32)) (fX3_keyOfRow_32 C a1 t_2) (exR (some t_2))) (fX3_keyOfRow_32 C a1 t_2)))
noncomputable def fX3_keyOfRow (C : Mem) (a1 : Int32) : Option Int32 := lp (fX3_keyOfRow_2 C a1) (1 : Int32)
abbrev rm_X3_keyOfRow : Room := { frames := 1, cells := 0, slots := 0, locals := 23 }
set_option maxRecDepth 100000 in
set_option maxHeartbeats 4000000 in
theorem c_X3_keyOfRow (l : Launch) (Γ : gx_G) (C M : Mem) (a1 : Int32) {y0 : Int32} (hf : fX3_keyOfRow C a1 = some y0) : Met l yX3_keyOfRow (.code yX3_keyOfRow cX3_keyOfRow 3 (some .int) :: TsG) rm_X3_keyOfRow (va_Pc [.ref (Γ.1 236), .int a1] (gx_P Γ C M)) (gx_Qi Γ y0 C M) 0 0 (gA Γ) := by
  refine gm_i (by decide) (Nat.le_of_ble_eq_true rfl) ?_
  intro p e s m args below meth c Q S hG hret ls H locs hl hW hS
  obtain ⟨hx, hb, hml, hown, hts⟩ := id S
  have hl : lv_has ls 3 [(0, .ref (Γ.1 236)), (1, .int a1)] := hl
  unfold fX3_keyOfRow at hf
  refine lv_iconst (v := (1 : Int32)) hx hb dX3_keyOfRow_0 (by decide) ?_
  refine lv_istore_n (lv' := [(2, .int (1 : Int32)), (0, .ref (Γ.1 236)), (1, .int a1)]) hx hb dX3_keyOfRow_1 rfl hl (by decide) rfl (fun ls hl => ?_)
  have J_2 : ∀  (t_2 : Int32), lp (fX3_keyOfRow_2 C a1) t_2 = some y0 → ∀ (H : Heap) (locs : List Loc) (ls : Array Slot), gx_W Γ C M H → va_S (gA Γ) s.heap H locs → lv_has ls 3 [(0, .ref (Γ.1 236)), (1, .int a1), (2, .int t_2)] → W p l e rm_X3_keyOfRow s m args below meth c H locs 0 0 Q (F0 m 2 ls []) := by
    refine lp_ind (P := fun (t_2 : Int32) => ∀ (H : Heap) (locs : List Loc) (ls : Array Slot), gx_W Γ C M H → va_S (gA Γ) s.heap H locs → lv_has ls 3 [(0, .ref (Γ.1 236)), (1, .int a1), (2, .int t_2)] → W p l e rm_X3_keyOfRow s m args below meth c H locs 0 0 Q (F0 m 2 ls [])) ?_
    intro t_2 y1 hf kI1 kX1 H locs ls hW hS hl
    unfold fX3_keyOfRow_2 at hf
    refine lv_iload_n hx hb dX3_keyOfRow_2 rfl (lv_at hl 2 rfl) ?_
    refine lv_aload_n hx hb dX3_keyOfRow_3 rfl (lv_at hl 0 rfl) ?_
    refine get_X3_7 S hG hW fl_X3_37 dX3_keyOfRow_4 ?_
    refine lv_icmp_gt (tgt := 38) hx hb dX3_keyOfRow_7 (by decide) (fun c7 => ?_) (fun c7 => ?_)
    · have hf := cn_t c7 hf
      obtain ⟨z7, hf, ez⟩ := exR_e hf
      rw [kX1 _ ez] at hf
      refine lv_iconst (v := (0 : Int32)) hx hb dX3_keyOfRow_38 (by decide) ?_
      exact hret _ _ _ _ _ hW hS rfl (Option.some.inj hf) dX3_keyOfRow_39
    · have hf := cn_f c7 hf
      refine lv_aload_n hx hb dX3_keyOfRow_10 rfl (lv_at hl 0 rfl) ?_
      refine get_X3_3 S hG hW fl_X3_16 dX3_keyOfRow_11 ?_
      refine lv_iload_n hx hb dX3_keyOfRow_14 rfl (lv_at hl 2 rfl) ?_
      have g15 := ck_p hf
      have hf := ck_r hf
      refine ald_i S hG hW shk_439 lnk_439 g15 dX3_keyOfRow_15 ?_
      refine lv_iload_n hx hb dX3_keyOfRow_16 rfl (lv_at hl 1 rfl) ?_
      have J_32 : fX3_keyOfRow_32 C a1 t_2 = some y1 → ∀ (H : Heap) (locs : List Loc) (ls : Array Slot), gx_W Γ C M H → va_S (gA Γ) s.heap H locs → lv_has ls 3 [(0, .ref (Γ.1 236)), (1, .int a1), (2, .int t_2)] → W p l e rm_X3_keyOfRow s m args below meth c H locs 0 0 Q (F0 m 32 ls []) := by
        intro  hf H locs ls hW hS hl
        unfold fX3_keyOfRow_32 at hf
        refine lv_iinc (v := (t_2 + (1 : Int32))) (lv' := [(2, .int (t_2 + (1 : Int32))), (0, .ref (Γ.1 236)), (1, .int a1)]) hx hb dX3_keyOfRow_32 hl (k := 2) rfl rfl (by decide) rfl (fun ls hl => ?_)
        refine lv_goto (tgt := 2) hx hb dX3_keyOfRow_35 (by decide) ?_
        exact kI1 _ (Option.some.inj hf).symm H locs ls hW hS (lv_sub hl [1, 2, 0] rfl)
      refine lv_icmp_ne (tgt := 32) hx hb dX3_keyOfRow_17 (by decide) (fun c17 => ?_) (fun c17 => ?_)
      · have hf := cn_f c17 hf
        exact J_32  hf H locs ls hW hS (lv_sub hl [0, 1, 2] rfl)
      · have hf := cn_t c17 hf
        refine lv_aload_n hx hb dX3_keyOfRow_20 rfl (lv_at hl 0 rfl) ?_
        refine lv_iload_n hx hb dX3_keyOfRow_21 rfl (lv_at hl 2 rfl) ?_
        refine lv_bipush (v := (40 : Int32)) hx hb dX3_keyOfRow_22 (by decide) ?_
        obtain ⟨q24, hq24, hf⟩ := bnd_e hf
        refine gk0_i hS (gv_run (rest := []) S hG hW hS [.int t_2, .int (40 : Int32)] (c_X3_agrees l Γ C M t_2 (40 : Int32) hq24) pk_X3_agrees ml_X3_61 (Nat.le_of_ble_eq_true rfl) rfl rfl rfl rfl ⟨Nat.le_of_ble_eq_true rfl, Nat.le_of_ble_eq_true rfl⟩ rfl hl.1 rfl (Nat.le_of_ble_eq_true rfl) dX3_keyOfRow_24 ⟨Nat.le_of_ble_eq_true rfl, Nat.le_of_ble_eq_true rfl⟩) (fun H locs hW hS => ?_)
        refine lv_if_eq (tgt := 32) hx hb dX3_keyOfRow_27 (by decide) (fun c27 => ?_) (fun c27 => ?_)
        · have hf := cn_t c27 hf
          exact J_32  hf H locs ls hW hS (lv_sub hl [0, 1, 2] rfl)
        · have hf := cn_f c27 hf
          obtain ⟨z27, hf, ez⟩ := exR_e hf
          rw [kX1 _ ez] at hf
          refine lv_iload_n hx hb dX3_keyOfRow_30 rfl (lv_at hl 2 rfl) ?_
          exact hret _ _ _ _ _ hW hS rfl (Option.some.inj hf) dX3_keyOfRow_31
  exact J_2 (1 : Int32) hf H locs ls hW hS (lv_sub hl [1, 2, 0] rfl)
noncomputable def fX3_lookUp_27 (q2 : Mem) (s0_27 : Int32) (s1_27 : Int32) : Option Mem := chk (vp_in s1_27 16) (some (mset q2 440 s1_27.toNatClampNeg s0_27))
noncomputable def fX3_lookUp (C : Mem) (a1 : Int32) : Option Mem := bnd (fX3_fillRow C a1) fun q2 => bnd (fX3_dependenciesHaveKeys q2 a1) fun q12 => cnd (q12 = (0 : Int32)) (fX3_lookUp_27 q2 (0 : Int32) a1) (bnd (fX3_keyOfRow q2 a1) fun q20 => fX3_lookUp_27 q2 q20 a1)
abbrev rm_X3_lookUp : Room := { frames := 3, cells := 0, slots := 0, locals := 63 }
set_option maxRecDepth 100000 in
set_option maxHeartbeats 4000000 in
theorem c_X3_lookUp (l : Launch) (Γ : gx_G) (C M : Mem) (a1 : Int32) {y0 : Mem} (hf : fX3_lookUp C a1 = some y0) : Met l yX3_lookUp (.code yX3_lookUp cX3_lookUp 2 none :: TsG) rm_X3_lookUp (va_Pc [.ref (Γ.1 236), .int a1] (gx_P Γ C M)) (gx_Qv Γ y0 M) 0 0 (gA Γ) := by
  refine gm_v (by decide) (Nat.le_of_ble_eq_true rfl) ?_
  intro p e s m args below meth c Q S hG hret ls H locs hl hW hS
  obtain ⟨hx, hb, hml, hown, hts⟩ := id S
  have hl : lv_has ls 2 [(0, .ref (Γ.1 236)), (1, .int a1)] := hl
  unfold fX3_lookUp at hf
  refine lv_aload_n hx hb dX3_lookUp_0 rfl (lv_at hl 0 rfl) ?_
  refine lv_iload_n hx hb dX3_lookUp_1 rfl (lv_at hl 1 rfl) ?_
  obtain ⟨q2, hq2, hf⟩ := bnd_e hf
  refine gk0_v hS (gv_run (rest := []) S hG hW hS [.int a1] (c_X3_fillRow l Γ C M a1 hq2) pk_X3_fillRow ml_X3_58 (Nat.le_of_ble_eq_true rfl) rfl rfl rfl rfl ⟨Nat.le_of_ble_eq_true rfl, Nat.le_of_ble_eq_true rfl⟩ rfl hl.1 rfl (Nat.le_of_ble_eq_true rfl) dX3_lookUp_2 ⟨Nat.le_of_ble_eq_true rfl, Nat.le_of_ble_eq_true rfl⟩) (fun H locs hW hS => ?_)
  refine lv_aload_n hx hb dX3_lookUp_5 rfl (lv_at hl 0 rfl) ?_
  refine get_X3_4 S hG hW fl_X3_20 dX3_lookUp_6 ?_
  refine lv_iload_n hx hb dX3_lookUp_9 rfl (lv_at hl 1 rfl) ?_
  refine lv_aload_n hx hb dX3_lookUp_10 rfl (lv_at hl 0 rfl) ?_
  refine lv_iload_n hx hb dX3_lookUp_11 rfl (lv_at hl 1 rfl) ?_
  obtain ⟨q12, hq12, hf⟩ := bnd_e hf
  refine gk0_i hS (gv_run (rest := [.int a1, .ref (Γ.1 440)]) S hG hW hS [.int a1] (c_X3_dependenciesHaveKeys l Γ q2 M a1 hq12) pk_X3_dependenciesHaveKeys ml_X3_71 (Nat.le_of_ble_eq_true rfl) rfl rfl rfl rfl ⟨Nat.le_of_ble_eq_true rfl, Nat.le_of_ble_eq_true rfl⟩ rfl hl.1 rfl (Nat.le_of_ble_eq_true rfl) dX3_lookUp_12 ⟨Nat.le_of_ble_eq_true rfl, Nat.le_of_ble_eq_true rfl⟩) (fun H locs hW hS => ?_)
  have J_27 : ∀ (s0_27 : Int32) (s1_27 : Int32) , fX3_lookUp_27 q2 s0_27 s1_27 = some y0 → ∀ (H : Heap) (locs : List Loc) (ls : Array Slot), gx_W Γ q2 M H → va_S (gA Γ) s.heap H locs → lv_has ls 2 [] → W p l e rm_X3_lookUp s m args below meth c H locs 0 0 Q (F0 m 27 ls [.int s0_27, .int s1_27, .ref (Γ.1 440)]) := by
    intro s0_27 s1_27 hf H locs ls hW hS hl
    unfold fX3_lookUp_27 at hf
    have g27 := ck_p hf
    have hf := ck_r hf
    refine ast_i S hG hW hS shk_440 lnk_440 g27 dX3_lookUp_27 (fun H locs hW hS => ?_)
    have e9 := Option.some.inj hf
    subst e9
    exact hret _ _ _ _ hW hS dX3_lookUp_28
  refine lv_if_eq (tgt := 26) hx hb dX3_lookUp_15 (by decide) (fun c15 => ?_) (fun c15 => ?_)
  · have hf := cn_t c15 hf
    refine lv_iconst (v := (0 : Int32)) hx hb dX3_lookUp_26 (by decide) ?_
    exact J_27 (0 : Int32) a1 hf H locs ls hW hS (lv_sub hl [] rfl)
  · have hf := cn_f c15 hf
    refine lv_aload_n hx hb dX3_lookUp_18 rfl (lv_at hl 0 rfl) ?_
    refine lv_iload_n hx hb dX3_lookUp_19 rfl (lv_at hl 1 rfl) ?_
    obtain ⟨q20, hq20, hf⟩ := bnd_e hf
    refine gk0_i hS (gv_run (rest := [.int a1, .ref (Γ.1 440)]) S hG hW hS [.int a1] (c_X3_keyOfRow l Γ q2 M a1 hq20) pk_X3_keyOfRow ml_X3_75 (Nat.le_of_ble_eq_true rfl) rfl rfl rfl rfl ⟨Nat.le_of_ble_eq_true rfl, Nat.le_of_ble_eq_true rfl⟩ rfl hl.1 rfl (Nat.le_of_ble_eq_true rfl) dX3_lookUp_20 ⟨Nat.le_of_ble_eq_true rfl, Nat.le_of_ble_eq_true rfl⟩) (fun H locs hW hS => ?_)
    refine lv_goto (tgt := 27) hx hb dX3_lookUp_23 (by decide) ?_
    exact J_27 q20 a1 hf H locs ls hW hS (lv_sub hl [] rfl)
noncomputable def fX3_lookUpAll_9  : (Mem × Int32) → Option ((Mem × Int32) ⊕ Mem) := fun t_9 => cnd ((fX2_size t_9.1) ≤ t_9.2) (exR (some t_9.1)) (bnd (fX2_atPlace t_9.1 t_9.2) fun q26 => bnd (fX3_lookUp t_9.1 q26) fun q29 => some (.inl (q29, (t_9.2 + (1 : Int32)))))
noncomputable def fX3_lookUpAll (C : Mem) : Option Mem := bnd (fX2_makeOrder C) fun q4 => lp (fX3_lookUpAll_9) (q4, (0 : Int32))
abbrev rm_X3_lookUpAll : Room := { frames := 4, cells := 0, slots := 0, locals := 88 }
set_option maxRecDepth 100000 in
set_option maxHeartbeats 4000000 in
theorem c_X3_lookUpAll (l : Launch) (Γ : gx_G) (C M : Mem)  {y0 : Mem} (hf : fX3_lookUpAll C = some y0) : Met l yX3_lookUpAll (.code yX3_lookUpAll cX3_lookUpAll 2 none :: TsG) rm_X3_lookUpAll (va_Pc [.ref (Γ.1 236)] (gx_P Γ C M)) (gx_Qv Γ y0 M) 0 0 (gA Γ) := by
  refine gm_v (by decide) (Nat.le_of_ble_eq_true rfl) ?_
  intro p e s m args below meth c Q S hG hret ls H locs hl hW hS
  obtain ⟨hx, hb, hml, hown, hts⟩ := id S
  have hl : lv_has ls 2 [(0, .ref (Γ.1 236))] := hl
  unfold fX3_lookUpAll at hf
  refine lv_aload_n hx hb dX3_lookUpAll_0 rfl (lv_at hl 0 rfl) ?_
  refine get_X3_1 S hG hW fl_X3_33 dX3_lookUpAll_1 ?_
  obtain ⟨q4, hq4, hf⟩ := bnd_e hf
  refine gk0_v hS (gv_run (rest := []) S hG hW hS [] (c_X2_makeOrder l Γ C M hq4) pk_X2_makeOrder ml_X3_41 (Nat.le_of_ble_eq_true rfl) rfl rfl rfl rfl ⟨Nat.le_of_ble_eq_true rfl, Nat.le_of_ble_eq_true rfl⟩ rfl hl.1 rfl (Nat.le_of_ble_eq_true rfl) dX3_lookUpAll_4 ⟨Nat.le_of_ble_eq_true rfl, Nat.le_of_ble_eq_true rfl⟩) (fun H locs hW hS => ?_)
  refine lv_iconst (v := (0 : Int32)) hx hb dX3_lookUpAll_7 (by decide) ?_
  refine lv_istore_n (lv' := [(1, .int (0 : Int32)), (0, .ref (Γ.1 236))]) hx hb dX3_lookUpAll_8 rfl hl (by decide) rfl (fun ls hl => ?_)
  have J_9 : ∀  (t_9 : Mem × Int32), lp (fX3_lookUpAll_9) t_9 = some y0 → ∀ (H : Heap) (locs : List Loc) (ls : Array Slot), gx_W Γ t_9.1 M H → va_S (gA Γ) s.heap H locs → lv_has ls 2 [(0, .ref (Γ.1 236)), (1, .int t_9.2)] → W p l e rm_X3_lookUpAll s m args below meth c H locs 0 0 Q (F0 m 9 ls []) := by
    refine lp_ind (P := fun (t_9 : Mem × Int32) => ∀ (H : Heap) (locs : List Loc) (ls : Array Slot), gx_W Γ t_9.1 M H → va_S (gA Γ) s.heap H locs → lv_has ls 2 [(0, .ref (Γ.1 236)), (1, .int t_9.2)] → W p l e rm_X3_lookUpAll s m args below meth c H locs 0 0 Q (F0 m 9 ls [])) ?_
    intro t_9 y1 hf kI1 kX1 H locs ls hW hS hl
    unfold fX3_lookUpAll_9 at hf
    refine lv_iload_n hx hb dX3_lookUpAll_9 rfl (lv_at hl 1 rfl) ?_
    refine lv_aload_n hx hb dX3_lookUpAll_10 rfl (lv_at hl 0 rfl) ?_
    refine get_X3_1 S hG hW fl_X3_33 dX3_lookUpAll_11 ?_
    refine gk0_i hS (gv_run (rest := [.int t_9.2]) S hG hW hS [] (c_X2_size l Γ t_9.1 M) pk_X2_size ml_X3_46 (Nat.le_of_ble_eq_true rfl) rfl rfl rfl rfl ⟨Nat.le_of_ble_eq_true rfl, Nat.le_of_ble_eq_true rfl⟩ rfl hl.1 rfl (Nat.le_of_ble_eq_true rfl) dX3_lookUpAll_14 ⟨Nat.le_of_ble_eq_true rfl, Nat.le_of_ble_eq_true rfl⟩) (fun H locs hW hS => ?_)
    refine lv_icmp_ge (tgt := 38) hx hb dX3_lookUpAll_17 (by decide) (fun c17 => ?_) (fun c17 => ?_)
    · have hf := cn_t c17 hf
      obtain ⟨z17, hf, ez⟩ := exR_e hf
      rw [kX1 _ ez] at hf
      have e9 := Option.some.inj hf
      subst e9
      exact hret _ _ _ _ hW hS dX3_lookUpAll_38
    · have hf := cn_f c17 hf
      refine lv_aload_n hx hb dX3_lookUpAll_20 rfl (lv_at hl 0 rfl) ?_
      refine lv_aload_n hx hb dX3_lookUpAll_21 rfl (lv_at hl 0 rfl) ?_
      refine get_X3_1 S hG hW fl_X3_33 dX3_lookUpAll_22 ?_
      refine lv_iload_n hx hb dX3_lookUpAll_25 rfl (lv_at hl 1 rfl) ?_
      obtain ⟨q26, hq26, hf⟩ := bnd_e hf
      refine gk0_i hS (gv_run (rest := [.ref (Γ.1 236)]) S hG hW hS [.int t_9.2] (c_X2_atPlace l Γ t_9.1 M t_9.2 hq26) pk_X2_atPlace ml_X3_50 (Nat.le_of_ble_eq_true rfl) rfl rfl rfl rfl ⟨Nat.le_of_ble_eq_true rfl, Nat.le_of_ble_eq_true rfl⟩ rfl hl.1 rfl (Nat.le_of_ble_eq_true rfl) dX3_lookUpAll_26 ⟨Nat.le_of_ble_eq_true rfl, Nat.le_of_ble_eq_true rfl⟩) (fun H locs hW hS => ?_)
      obtain ⟨q29, hq29, hf⟩ := bnd_e hf
      refine gk0_v hS (gv_run (rest := []) S hG hW hS [.int q26] (c_X3_lookUp l Γ t_9.1 M q26 hq29) pk_X3_lookUp ml_X3_54 (Nat.le_of_ble_eq_true rfl) rfl rfl rfl rfl ⟨Nat.le_of_ble_eq_true rfl, Nat.le_of_ble_eq_true rfl⟩ rfl hl.1 rfl (Nat.le_of_ble_eq_true rfl) dX3_lookUpAll_29 ⟨Nat.le_of_ble_eq_true rfl, Nat.le_of_ble_eq_true rfl⟩) (fun H locs hW hS => ?_)
      refine lv_iinc (v := (t_9.2 + (1 : Int32))) (lv' := [(1, .int (t_9.2 + (1 : Int32))), (0, .ref (Γ.1 236))]) hx hb dX3_lookUpAll_32 hl (k := 1) rfl rfl (by decide) rfl (fun ls hl => ?_)
      refine lv_goto (tgt := 9) hx hb dX3_lookUpAll_35 (by decide) ?_
      exact kI1 _ (Option.some.inj hf).symm H locs ls hW hS (lv_sub hl [1, 0] rfl)
  exact J_9 (q4, (0 : Int32)) hf H locs ls hW hS (lv_sub hl [1, 0] rfl)
noncomputable def fX3_keyNow (C : Mem) (a1 : Int32) : Option Int32 := chk (vp_in a1 16) (some (C 440 a1.toNatClampNeg))
abbrev rm_X3_keyNow : Room := { frames := 0, cells := 0, slots := 0, locals := 0 }
set_option maxRecDepth 100000 in
set_option maxHeartbeats 4000000 in
theorem c_X3_keyNow (l : Launch) (Γ : gx_G) (C M : Mem) (a1 : Int32) {y0 : Int32} (hf : fX3_keyNow C a1 = some y0) : Met l yX3_keyNow (.code yX3_keyNow cX3_keyNow 2 (some .int) :: TsG) rm_X3_keyNow (va_Pc [.ref (Γ.1 236), .int a1] (gx_P Γ C M)) (gx_Qi Γ y0 C M) 0 0 (gA Γ) := by
  refine gm_i (by decide) (Nat.le_of_ble_eq_true rfl) ?_
  intro p e s m args below meth c Q S hG hret ls H locs hl hW hS
  obtain ⟨hx, hb, hml, hown, hts⟩ := id S
  have hl : lv_has ls 2 [(0, .ref (Γ.1 236)), (1, .int a1)] := hl
  unfold fX3_keyNow at hf
  refine lv_aload_n hx hb dX3_keyNow_0 rfl (lv_at hl 0 rfl) ?_
  refine get_X3_4 S hG hW fl_X3_20 dX3_keyNow_1 ?_
  refine lv_iload_n hx hb dX3_keyNow_4 rfl (lv_at hl 1 rfl) ?_
  have g5 := ck_p hf
  have hf := ck_r hf
  refine ald_i S hG hW shk_440 lnk_440 g5 dX3_keyNow_5 ?_
  exact hret _ _ _ _ _ hW hS rfl (Option.some.inj hf) dX3_keyNow_6
noncomputable def fX3_hasRun (C : Mem) (a1 : Int32) : Option Int32 := chk (vp_in a1 16) (cnd ((C 441 a1.toNatClampNeg) = (0 : Int32)) (some (0 : Int32)) (some (1 : Int32)))
abbrev rm_X3_hasRun : Room := { frames := 0, cells := 0, slots := 0, locals := 0 }
set_option maxRecDepth 100000 in
set_option maxHeartbeats 4000000 in
theorem c_X3_hasRun (l : Launch) (Γ : gx_G) (C M : Mem) (a1 : Int32) {y0 : Int32} (hf : fX3_hasRun C a1 = some y0) : Met l yX3_hasRun (.code yX3_hasRun cX3_hasRun 2 (some .boolean) :: TsG) rm_X3_hasRun (va_Pc [.ref (Γ.1 236), .int a1] (gx_P Γ C M)) (gx_Qi Γ y0 C M) 0 0 (gA Γ) := by
  refine gm_i (by decide) (Nat.le_of_ble_eq_true rfl) ?_
  intro p e s m args below meth c Q S hG hret ls H locs hl hW hS
  obtain ⟨hx, hb, hml, hown, hts⟩ := id S
  have hl : lv_has ls 2 [(0, .ref (Γ.1 236)), (1, .int a1)] := hl
  unfold fX3_hasRun at hf
  refine lv_aload_n hx hb dX3_hasRun_0 rfl (lv_at hl 0 rfl) ?_
  refine get_X3_5 S hG hW fl_X3_23 dX3_hasRun_1 ?_
  refine lv_iload_n hx hb dX3_hasRun_4 rfl (lv_at hl 1 rfl) ?_
  have g5 := ck_p hf
  have hf := ck_r hf
  refine ald_i S hG hW shk_441 lnk_441 g5 dX3_hasRun_5 ?_
  refine lv_if_eq (tgt := 13) hx hb dX3_hasRun_6 (by decide) (fun c6 => ?_) (fun c6 => ?_)
  · have hf := cn_t c6 hf
    refine lv_iconst (v := (0 : Int32)) hx hb dX3_hasRun_13 (by decide) ?_
    exact hret _ _ _ _ _ hW hS rfl (Option.some.inj hf) dX3_hasRun_14
  · have hf := cn_f c6 hf
    refine lv_iconst (v := (1 : Int32)) hx hb dX3_hasRun_9 (by decide) ?_
    refine lv_goto (tgt := 14) hx hb dX3_hasRun_10 (by decide) ?_
    exact hret _ _ _ _ _ hW hS rfl (Option.some.inj hf) dX3_hasRun_14
noncomputable def fX3_hasLatestInputs (C : Mem) (a1 : Int32) : Option (Int32 × Mem) := bnd (fX3_fillRow C a1) fun q2 => chk (vp_in a1 16) (bnd (fX3_agrees q2 (q2 441 a1.toNatClampNeg) (24 : Int32)) fun q14 => chk (narrow .boolean (.int q14) = .int q14) (some (q14, q2)))
abbrev rm_X3_hasLatestInputs : Room := { frames := 2, cells := 0, slots := 0, locals := 46 }
set_option maxRecDepth 100000 in
set_option maxHeartbeats 4000000 in
theorem c_X3_hasLatestInputs (l : Launch) (Γ : gx_G) (C M : Mem) (a1 : Int32) {y0 : (Int32 × Mem)} (hf : fX3_hasLatestInputs C a1 = some y0) : Met l yX3_hasLatestInputs (.code yX3_hasLatestInputs cX3_hasLatestInputs 2 (some .boolean) :: TsG) rm_X3_hasLatestInputs (va_Pc [.ref (Γ.1 236), .int a1] (gx_P Γ C M)) (gx_Qi Γ y0.1 y0.2 M) 0 0 (gA Γ) := by
  refine gm_i (by decide) (Nat.le_of_ble_eq_true rfl) ?_
  intro p e s m args below meth c Q S hG hret ls H locs hl hW hS
  obtain ⟨hx, hb, hml, hown, hts⟩ := id S
  have hl : lv_has ls 2 [(0, .ref (Γ.1 236)), (1, .int a1)] := hl
  unfold fX3_hasLatestInputs at hf
  refine lv_aload_n hx hb dX3_hasLatestInputs_0 rfl (lv_at hl 0 rfl) ?_
  refine lv_iload_n hx hb dX3_hasLatestInputs_1 rfl (lv_at hl 1 rfl) ?_
  obtain ⟨q2, hq2, hf⟩ := bnd_e hf
  refine gk0_v hS (gv_run (rest := []) S hG hW hS [.int a1] (c_X3_fillRow l Γ C M a1 hq2) pk_X3_fillRow ml_X3_58 (Nat.le_of_ble_eq_true rfl) rfl rfl rfl rfl ⟨Nat.le_of_ble_eq_true rfl, Nat.le_of_ble_eq_true rfl⟩ rfl hl.1 rfl (Nat.le_of_ble_eq_true rfl) dX3_hasLatestInputs_2 ⟨Nat.le_of_ble_eq_true rfl, Nat.le_of_ble_eq_true rfl⟩) (fun H locs hW hS => ?_)
  refine lv_aload_n hx hb dX3_hasLatestInputs_5 rfl (lv_at hl 0 rfl) ?_
  refine lv_aload_n hx hb dX3_hasLatestInputs_6 rfl (lv_at hl 0 rfl) ?_
  refine get_X3_5 S hG hW fl_X3_23 dX3_hasLatestInputs_7 ?_
  refine lv_iload_n hx hb dX3_hasLatestInputs_10 rfl (lv_at hl 1 rfl) ?_
  have g11 := ck_p hf
  have hf := ck_r hf
  refine ald_i S hG hW shk_441 lnk_441 g11 dX3_hasLatestInputs_11 ?_
  refine lv_bipush (v := (24 : Int32)) hx hb dX3_hasLatestInputs_12 (by decide) ?_
  obtain ⟨q14, hq14, hf⟩ := bnd_e hf
  refine gk0_i hS (gv_run (rest := []) S hG hW hS [.int (q2 441 a1.toNatClampNeg), .int (24 : Int32)] (c_X3_agrees l Γ q2 M (q2 441 a1.toNatClampNeg) (24 : Int32) hq14) pk_X3_agrees ml_X3_61 (Nat.le_of_ble_eq_true rfl) rfl rfl rfl rfl ⟨Nat.le_of_ble_eq_true rfl, Nat.le_of_ble_eq_true rfl⟩ rfl hl.1 rfl (Nat.le_of_ble_eq_true rfl) dX3_hasLatestInputs_14 ⟨Nat.le_of_ble_eq_true rfl, Nat.le_of_ble_eq_true rfl⟩) (fun H locs hW hS => ?_)
  have n9 := ck_p hf
  have hf := ck_r hf
  have e9 := Option.some.inj hf
  subst e9
  exact hret _ _ _ _ _ hW hS n9 rfl dX3_hasLatestInputs_17
noncomputable def fX3_given (C : Mem) : Int32 := (C 236 7)
abbrev rm_X3_given : Room := { frames := 0, cells := 0, slots := 0, locals := 0 }
set_option maxRecDepth 100000 in
set_option maxHeartbeats 4000000 in
theorem c_X3_given (l : Launch) (Γ : gx_G) (C M : Mem)  : Met l yX3_given (.code yX3_given cX3_given 1 (some .int) :: TsG) rm_X3_given (va_Pc [.ref (Γ.1 236)] (gx_P Γ C M)) (gx_Qi Γ (fX3_given C) C M) 0 0 (gA Γ) := by
  refine gm_i (by decide) (Nat.le_of_ble_eq_true rfl) ?_
  intro p e s m args below meth c Q S hG hret ls H locs hl hW hS
  obtain ⟨hx, hb, hml, hown, hts⟩ := id S
  have hl : lv_has ls 1 [(0, .ref (Γ.1 236))] := hl
  generalize hy0 : fX3_given C = y0 at hret
  have hf := hy0
  unfold fX3_given at hf
  refine lv_aload_n hx hb dX3_given_0 rfl (lv_at hl 0 rfl) ?_
  refine get_X3_7 S hG hW fl_X3_37 dX3_given_1 ?_
  exact hret _ _ _ _ _ hW hS rfl hf dX3_given_4
noncomputable def fX3_give (C : Mem) (a1 : Int32) : Option (Int32 × Mem) := chk (vp_in ((mset C 236 7 ((C 236 7) + (1 : Int32))) 236 7) 201) (chk (vp_in ((mset (mset C 236 7 ((C 236 7) + (1 : Int32))) 439 ((mset C 236 7 ((C 236 7) + (1 : Int32))) 236 7).toNatClampNeg a1) 236 7) 201) (some (((mcpy (mset (mset C 236 7 ((C 236 7) + (1 : Int32))) 439 ((mset C 236 7 ((C 236 7) + (1 : Int32))) 236 7).toNatClampNeg a1) 442 (238 + ((mset (mset C 236 7 ((C 236 7) + (1 : Int32))) 439 ((mset C 236 7 ((C 236 7) + (1 : Int32))) 236 7).toNatClampNeg a1) 236 7).toNatClampNeg) (0 : Int32).toNatClampNeg (0 : Int32).toNatClampNeg (40 : Int32).toNatClampNeg) 236 7), (mcpy (mset (mset C 236 7 ((C 236 7) + (1 : Int32))) 439 ((mset C 236 7 ((C 236 7) + (1 : Int32))) 236 7).toNatClampNeg a1) 442 (238 + ((mset (mset C 236 7 ((C 236 7) + (1 : Int32))) 439 ((mset C 236 7 ((C 236 7) + (1 : Int32))) 236 7).toNatClampNeg a1) 236 7).toNatClampNeg) (0 : Int32).toNatClampNeg (0 : Int32).toNatClampNeg (40 : Int32).toNatClampNeg))))
abbrev rm_X3_give : Room := { frames := 1, cells := 0, slots := 0, locals := 48 }
set_option maxRecDepth 100000 in
set_option maxHeartbeats 4000000 in
theorem c_X3_give (l : Launch) (Γ : gx_G) (C M : Mem) (a1 : Int32) {y0 : (Int32 × Mem)} (hf : fX3_give C a1 = some y0) : Met l yX3_give (.code yX3_give cX3_give 2 (some .int) :: TsG) rm_X3_give (va_Pc [.ref (Γ.1 236), .int a1] (gx_P Γ C M)) (gx_Qi Γ y0.1 y0.2 M) 0 0 (gA Γ) := by
  refine gm_i (by decide) (Nat.le_of_ble_eq_true rfl) ?_
  intro p e s m args below meth c Q S hG hret ls H locs hl hW hS
  obtain ⟨hx, hb, hml, hown, hts⟩ := id S
  have hl : lv_has ls 2 [(0, .ref (Γ.1 236)), (1, .int a1)] := hl
  unfold fX3_give at hf
  refine lv_aload_n hx hb dX3_give_0 rfl (lv_at hl 0 rfl) ?_
  refine lv_dup hx hb dX3_give_1 rfl ?_
  refine get_X3_7 S hG hW fl_X3_37 dX3_give_2 ?_
  refine lv_iconst (v := (1 : Int32)) hx hb dX3_give_5 (by decide) ?_
  refine lv_iadd hx hb dX3_give_6 ?_
  refine put_X3_7 S hG hW hS fl_X3_37 dX3_give_7 (fun H locs hW hS => ?_)
  refine lv_aload_n hx hb dX3_give_10 rfl (lv_at hl 0 rfl) ?_
  refine get_X3_3 S hG hW fl_X3_16 dX3_give_11 ?_
  refine lv_aload_n hx hb dX3_give_14 rfl (lv_at hl 0 rfl) ?_
  refine get_X3_7 S hG hW fl_X3_37 dX3_give_15 ?_
  refine lv_iload_n hx hb dX3_give_18 rfl (lv_at hl 1 rfl) ?_
  have g19 := ck_p hf
  have hf := ck_r hf
  refine ast_i S hG hW hS shk_439 lnk_439 g19 dX3_give_19 (fun H locs hW hS => ?_)
  refine lv_aload_n hx hb dX3_give_20 rfl (lv_at hl 0 rfl) ?_
  refine get_X3_6 S hG hW fl_X3_26 dX3_give_21 ?_
  refine lv_iconst (v := (0 : Int32)) hx hb dX3_give_24 (by decide) ?_
  refine lv_aload_n hx hb dX3_give_25 rfl (lv_at hl 0 rfl) ?_
  refine get_X3_2 S hG hW fl_X3_13 dX3_give_26 ?_
  refine lv_aload_n hx hb dX3_give_29 rfl (lv_at hl 0 rfl) ?_
  refine get_X3_7 S hG hW fl_X3_37 dX3_give_30 ?_
  have g33 := ck_p hf
  have hf := ck_r hf
  refine ald_rows S hG hW g33 dX3_give_33 ?_
  refine lv_iconst (v := (0 : Int32)) hx hb dX3_give_34 (by decide) ?_
  refine lv_bipush (v := (40 : Int32)) hx hb dX3_give_35 (by decide) ?_
  refine cpy_i S hG hW hS hl.1 shk_442 lnk_442 (sh_row (in_lt g33)) (ln_row (in_lt g33)) (by decide) (by decide) (by decide) (by decide) (by decide) ml_X3_103 ac_nat ac_stat ac_ini (Nat.le_of_ble_eq_true rfl) (Nat.le_of_ble_eq_true rfl) dX3_give_37 (fun H locs hW hS => ?_)
  refine lv_aload_n hx hb dX3_give_40 rfl (lv_at hl 0 rfl) ?_
  refine get_X3_7 S hG hW fl_X3_37 dX3_give_41 ?_
  have e9 := Option.some.inj hf
  subst e9
  exact hret _ _ _ _ _ hW hS rfl rfl dX3_give_44
noncomputable def fX3_runOrFind_25 (a1 : Int32) (C_25 : Mem) : Option (Int32 × Mem) := chk (vp_in a1 16) (chk (vp_in a1 16) (chk (vp_in a1 16) (some (((mset C_25 441 a1.toNatClampNeg (C_25 440 a1.toNatClampNeg)) 440 a1.toNatClampNeg), (mset C_25 441 a1.toNatClampNeg (C_25 440 a1.toNatClampNeg))))))
noncomputable def fX3_runOrFind (C : Mem) (a1 : Int32) : Option (Int32 × Mem) := bnd (fX3_lookUp C a1) fun q2 => chk (vp_in a1 16) (cnd ((q2 440 a1.toNatClampNeg) = (0 : Int32)) (bnd (fX3_give q2 a1) fun q21 => chk (vp_in a1 16) (fX3_runOrFind_25 a1 (mset q21.2 440 a1.toNatClampNeg q21.1))) (fX3_runOrFind_25 a1 q2))
abbrev rm_X3_runOrFind : Room := { frames := 4, cells := 0, slots := 0, locals := 84 }
set_option maxRecDepth 100000 in
set_option maxHeartbeats 4000000 in
theorem c_X3_runOrFind (l : Launch) (Γ : gx_G) (C M : Mem) (a1 : Int32) {y0 : (Int32 × Mem)} (hf : fX3_runOrFind C a1 = some y0) : Met l yX3_runOrFind (.code yX3_runOrFind cX3_runOrFind 2 (some .int) :: TsG) rm_X3_runOrFind (va_Pc [.ref (Γ.1 236), .int a1] (gx_P Γ C M)) (gx_Qi Γ y0.1 y0.2 M) 0 0 (gA Γ) := by
  refine gm_i (by decide) (Nat.le_of_ble_eq_true rfl) ?_
  intro p e s m args below meth c Q S hG hret ls H locs hl hW hS
  obtain ⟨hx, hb, hml, hown, hts⟩ := id S
  have hl : lv_has ls 2 [(0, .ref (Γ.1 236)), (1, .int a1)] := hl
  unfold fX3_runOrFind at hf
  refine lv_aload_n hx hb dX3_runOrFind_0 rfl (lv_at hl 0 rfl) ?_
  refine lv_iload_n hx hb dX3_runOrFind_1 rfl (lv_at hl 1 rfl) ?_
  obtain ⟨q2, hq2, hf⟩ := bnd_e hf
  refine gk0_v hS (gv_run (rest := []) S hG hW hS [.int a1] (c_X3_lookUp l Γ C M a1 hq2) pk_X3_lookUp ml_X3_54 (Nat.le_of_ble_eq_true rfl) rfl rfl rfl rfl ⟨Nat.le_of_ble_eq_true rfl, Nat.le_of_ble_eq_true rfl⟩ rfl hl.1 rfl (Nat.le_of_ble_eq_true rfl) dX3_runOrFind_2 ⟨Nat.le_of_ble_eq_true rfl, Nat.le_of_ble_eq_true rfl⟩) (fun H locs hW hS => ?_)
  refine lv_aload_n hx hb dX3_runOrFind_5 rfl (lv_at hl 0 rfl) ?_
  refine get_X3_4 S hG hW fl_X3_20 dX3_runOrFind_6 ?_
  refine lv_iload_n hx hb dX3_runOrFind_9 rfl (lv_at hl 1 rfl) ?_
  have g10 := ck_p hf
  have hf := ck_r hf
  refine ald_i S hG hW shk_440 lnk_440 g10 dX3_runOrFind_10 ?_
  have J_25 : ∀ (C_25 : Mem) , fX3_runOrFind_25 a1 C_25 = some y0 → ∀ (H : Heap) (locs : List Loc) (ls : Array Slot), gx_W Γ C_25 M H → va_S (gA Γ) s.heap H locs → lv_has ls 2 [(0, .ref (Γ.1 236)), (1, .int a1)] → W p l e rm_X3_runOrFind s m args below meth c H locs 0 0 Q (F0 m 25 ls []) := by
    intro C_25 hf H locs ls hW hS hl
    unfold fX3_runOrFind_25 at hf
    refine lv_aload_n hx hb dX3_runOrFind_25 rfl (lv_at hl 0 rfl) ?_
    refine get_X3_5 S hG hW fl_X3_23 dX3_runOrFind_26 ?_
    refine lv_iload_n hx hb dX3_runOrFind_29 rfl (lv_at hl 1 rfl) ?_
    refine lv_aload_n hx hb dX3_runOrFind_30 rfl (lv_at hl 0 rfl) ?_
    refine get_X3_4 S hG hW fl_X3_20 dX3_runOrFind_31 ?_
    refine lv_iload_n hx hb dX3_runOrFind_34 rfl (lv_at hl 1 rfl) ?_
    have g35 := ck_p hf
    have hf := ck_r hf
    refine ald_i S hG hW shk_440 lnk_440 g35 dX3_runOrFind_35 ?_
    have g36 := ck_p hf
    have hf := ck_r hf
    refine ast_i S hG hW hS shk_441 lnk_441 g36 dX3_runOrFind_36 (fun H locs hW hS => ?_)
    refine lv_aload_n hx hb dX3_runOrFind_37 rfl (lv_at hl 0 rfl) ?_
    refine get_X3_4 S hG hW fl_X3_20 dX3_runOrFind_38 ?_
    refine lv_iload_n hx hb dX3_runOrFind_41 rfl (lv_at hl 1 rfl) ?_
    have g42 := ck_p hf
    have hf := ck_r hf
    refine ald_i S hG hW shk_440 lnk_440 g42 dX3_runOrFind_42 ?_
    have e9 := Option.some.inj hf
    subst e9
    exact hret _ _ _ _ _ hW hS rfl rfl dX3_runOrFind_43
  refine lv_if_ne (tgt := 25) hx hb dX3_runOrFind_11 (by decide) (fun c11 => ?_) (fun c11 => ?_)
  · have hf := cn_f c11 hf
    exact J_25 q2 hf H locs ls hW hS (lv_sub hl [0, 1] rfl)
  · have hf := cn_t c11 hf
    refine lv_aload_n hx hb dX3_runOrFind_14 rfl (lv_at hl 0 rfl) ?_
    refine get_X3_4 S hG hW fl_X3_20 dX3_runOrFind_15 ?_
    refine lv_iload_n hx hb dX3_runOrFind_18 rfl (lv_at hl 1 rfl) ?_
    refine lv_aload_n hx hb dX3_runOrFind_19 rfl (lv_at hl 0 rfl) ?_
    refine lv_iload_n hx hb dX3_runOrFind_20 rfl (lv_at hl 1 rfl) ?_
    obtain ⟨q21, hq21, hf⟩ := bnd_e hf
    refine gk0_i hS (gv_run (rest := [.int a1, .ref (Γ.1 440)]) S hG hW hS [.int a1] (c_X3_give l Γ q2 M a1 hq21) pk_X3_give ml_X3_65 (Nat.le_of_ble_eq_true rfl) rfl rfl rfl rfl ⟨Nat.le_of_ble_eq_true rfl, Nat.le_of_ble_eq_true rfl⟩ rfl hl.1 rfl (Nat.le_of_ble_eq_true rfl) dX3_runOrFind_21 ⟨Nat.le_of_ble_eq_true rfl, Nat.le_of_ble_eq_true rfl⟩) (fun H locs hW hS => ?_)
    have g24 := ck_p hf
    have hf := ck_r hf
    refine ast_i S hG hW hS shk_440 lnk_440 g24 dX3_runOrFind_24 (fun H locs hW hS => ?_)
    exact J_25 (mset q21.2 440 a1.toNatClampNeg q21.1) hf H locs ls hW hS (lv_sub hl [0, 1] rfl)
noncomputable def fX3_runOrFindAll_2  : (Mem × Int32) → Option ((Mem × Int32) ⊕ Mem) := fun t_2 => cnd ((fX2_size t_2.1) ≤ t_2.2) (exR (some t_2.1)) (bnd (fX2_atPlace t_2.1 t_2.2) fun q19 => bnd (fX3_runOrFind t_2.1 q19) fun q22 => some (.inl (q22.2, (t_2.2 + (1 : Int32)))))
noncomputable def fX3_runOrFindAll (C : Mem) : Option Mem := lp (fX3_runOrFindAll_2) (C, (0 : Int32))
abbrev rm_X3_runOrFindAll : Room := { frames := 5, cells := 0, slots := 0, locals := 105 }
set_option maxRecDepth 100000 in
set_option maxHeartbeats 4000000 in
theorem c_X3_runOrFindAll (l : Launch) (Γ : gx_G) (C M : Mem)  {y0 : Mem} (hf : fX3_runOrFindAll C = some y0) : Met l yX3_runOrFindAll (.code yX3_runOrFindAll cX3_runOrFindAll 2 none :: TsG) rm_X3_runOrFindAll (va_Pc [.ref (Γ.1 236)] (gx_P Γ C M)) (gx_Qv Γ y0 M) 0 0 (gA Γ) := by
  refine gm_v (by decide) (Nat.le_of_ble_eq_true rfl) ?_
  intro p e s m args below meth c Q S hG hret ls H locs hl hW hS
  obtain ⟨hx, hb, hml, hown, hts⟩ := id S
  have hl : lv_has ls 2 [(0, .ref (Γ.1 236))] := hl
  unfold fX3_runOrFindAll at hf
  refine lv_iconst (v := (0 : Int32)) hx hb dX3_runOrFindAll_0 (by decide) ?_
  refine lv_istore_n (lv' := [(1, .int (0 : Int32)), (0, .ref (Γ.1 236))]) hx hb dX3_runOrFindAll_1 rfl hl (by decide) rfl (fun ls hl => ?_)
  have J_2 : ∀  (t_2 : Mem × Int32), lp (fX3_runOrFindAll_2) t_2 = some y0 → ∀ (H : Heap) (locs : List Loc) (ls : Array Slot), gx_W Γ t_2.1 M H → va_S (gA Γ) s.heap H locs → lv_has ls 2 [(0, .ref (Γ.1 236)), (1, .int t_2.2)] → W p l e rm_X3_runOrFindAll s m args below meth c H locs 0 0 Q (F0 m 2 ls []) := by
    refine lp_ind (P := fun (t_2 : Mem × Int32) => ∀ (H : Heap) (locs : List Loc) (ls : Array Slot), gx_W Γ t_2.1 M H → va_S (gA Γ) s.heap H locs → lv_has ls 2 [(0, .ref (Γ.1 236)), (1, .int t_2.2)] → W p l e rm_X3_runOrFindAll s m args below meth c H locs 0 0 Q (F0 m 2 ls [])) ?_
    intro t_2 y1 hf kI1 kX1 H locs ls hW hS hl
    unfold fX3_runOrFindAll_2 at hf
    refine lv_iload_n hx hb dX3_runOrFindAll_2 rfl (lv_at hl 1 rfl) ?_
    refine lv_aload_n hx hb dX3_runOrFindAll_3 rfl (lv_at hl 0 rfl) ?_
    refine get_X3_1 S hG hW fl_X3_33 dX3_runOrFindAll_4 ?_
    refine gk0_i hS (gv_run (rest := [.int t_2.2]) S hG hW hS [] (c_X2_size l Γ t_2.1 M) pk_X2_size ml_X3_46 (Nat.le_of_ble_eq_true rfl) rfl rfl rfl rfl ⟨Nat.le_of_ble_eq_true rfl, Nat.le_of_ble_eq_true rfl⟩ rfl hl.1 rfl (Nat.le_of_ble_eq_true rfl) dX3_runOrFindAll_7 ⟨Nat.le_of_ble_eq_true rfl, Nat.le_of_ble_eq_true rfl⟩) (fun H locs hW hS => ?_)
    refine lv_icmp_ge (tgt := 32) hx hb dX3_runOrFindAll_10 (by decide) (fun c10 => ?_) (fun c10 => ?_)
    · have hf := cn_t c10 hf
      obtain ⟨z10, hf, ez⟩ := exR_e hf
      rw [kX1 _ ez] at hf
      have e9 := Option.some.inj hf
      subst e9
      exact hret _ _ _ _ hW hS dX3_runOrFindAll_32
    · have hf := cn_f c10 hf
      refine lv_aload_n hx hb dX3_runOrFindAll_13 rfl (lv_at hl 0 rfl) ?_
      refine lv_aload_n hx hb dX3_runOrFindAll_14 rfl (lv_at hl 0 rfl) ?_
      refine get_X3_1 S hG hW fl_X3_33 dX3_runOrFindAll_15 ?_
      refine lv_iload_n hx hb dX3_runOrFindAll_18 rfl (lv_at hl 1 rfl) ?_
      obtain ⟨q19, hq19, hf⟩ := bnd_e hf
      refine gk0_i hS (gv_run (rest := [.ref (Γ.1 236)]) S hG hW hS [.int t_2.2] (c_X2_atPlace l Γ t_2.1 M t_2.2 hq19) pk_X2_atPlace ml_X3_50 (Nat.le_of_ble_eq_true rfl) rfl rfl rfl rfl ⟨Nat.le_of_ble_eq_true rfl, Nat.le_of_ble_eq_true rfl⟩ rfl hl.1 rfl (Nat.le_of_ble_eq_true rfl) dX3_runOrFindAll_19 ⟨Nat.le_of_ble_eq_true rfl, Nat.le_of_ble_eq_true rfl⟩) (fun H locs hW hS => ?_)
      obtain ⟨q22, hq22, hf⟩ := bnd_e hf
      refine gk0_i hS (gv_run (rest := []) S hG hW hS [.int q19] (c_X3_runOrFind l Γ t_2.1 M q19 hq22) pk_X3_runOrFind ml_X3_68 (Nat.le_of_ble_eq_true rfl) rfl rfl rfl rfl ⟨Nat.le_of_ble_eq_true rfl, Nat.le_of_ble_eq_true rfl⟩ rfl hl.1 rfl (Nat.le_of_ble_eq_true rfl) dX3_runOrFindAll_22 ⟨Nat.le_of_ble_eq_true rfl, Nat.le_of_ble_eq_true rfl⟩) (fun H locs hW hS => ?_)
      refine lv_pop hx hb dX3_runOrFindAll_25 rfl ?_
      refine lv_iinc (v := (t_2.2 + (1 : Int32))) (lv' := [(1, .int (t_2.2 + (1 : Int32))), (0, .ref (Γ.1 236))]) hx hb dX3_runOrFindAll_26 hl (k := 1) rfl rfl (by decide) rfl (fun ls hl => ?_)
      refine lv_goto (tgt := 2) hx hb dX3_runOrFindAll_29 (by decide) ?_
      exact kI1 _ (Option.some.inj hf).symm H locs ls hW hS (lv_sub hl [1, 0] rfl)
  exact J_2 (C, (0 : Int32)) hf H locs ls hW hS (lv_sub hl [1, 0] rfl)
