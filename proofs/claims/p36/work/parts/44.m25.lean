noncomputable def gX5_dearest_48 (mC : RT) (ma2 : Nat) (mt_8 : (Nat × (Nat × Nat))) (mx3_48 : Nat) (mx4_48 : Nat) : Option ((Nat × (Nat × Nat)) ⊕ Nat) := (some (.inl (mx3_48, (mx4_48, (vadd mt_8.2.2 1)))))
theorem sX5_dearest_48 {x : Nat} (hx : x < 1000) {mC : RT} {C : Mem} (hC : (rm x) mC C) {ma2 : Nat} {a2 : Int32} (ha2 : (rv x) ma2 a2) {mt_8 : (Nat × (Nat × Nat))} {t_8 : (Int32 × (Int32 × Int32))} (ht_8 : (rp (rv x) (rp (rv x) (rv x))) mt_8 t_8) {mx3_48 : Nat} {x3_48 : Int32} (hx3_48 : (rv x) mx3_48 x3_48) {mx4_48 : Nat} {x4_48 : Int32} (hx4_48 : (rv x) mx4_48 x4_48) : RZ (RO (rs (rp (rv x) (rp (rv x) (rv x))) (rv x))) (gX5_dearest_48 mC ma2 mt_8 mx3_48 mx4_48) (fX5_dearest_48 C a2 t_8 x3_48 x4_48) := by
  unfold gX5_dearest_48 fX5_dearest_48
  exact rz_some (rs_l (rp_m hx3_48 (rp_m hx4_48 (vadd_s (rp_2 (rp_2 ht_8)) rl_1))))
noncomputable def gX5_dearest_8 (mC : RT) (ma2 : Nat) (mt_8 : (Nat × (Nat × Nat))) : Option ((Nat × (Nat × Nat)) ⊕ Nat) := (tst (vnot (vlt mt_8.2.2 (gX2_size mC))) (exM (some mt_8.1)) (tst (veq (gX7_holds ma2 mt_8.2.2) 0) (gX5_dearest_48 mC ma2 mt_8 mt_8.1 mt_8.2.1) (bdM (gX2_costOf mC mt_8.2.2) fun mq29_1 => (tst (vnot (vlt mt_8.2.1 mq29_1)) (gX5_dearest_48 mC ma2 mt_8 mt_8.1 mt_8.2.1) (bdM (gX2_costOf mC mt_8.2.2) fun mq43_2 => (gX5_dearest_48 mC ma2 mt_8 mt_8.2.2 mq43_2))))))
theorem sX5_dearest_8 {x : Nat} (hx : x < 1000) {mC : RT} {C : Mem} (hC : (rm x) mC C) {ma2 : Nat} {a2 : Int32} (ha2 : (rv x) ma2 a2) {mt_8 : (Nat × (Nat × Nat))} {t_8 : (Int32 × (Int32 × Int32))} (ht_8 : (rp (rv x) (rp (rv x) (rv x))) mt_8 t_8) : RZ (RO (rs (rp (rv x) (rp (rv x) (rv x))) (rv x))) (gX5_dearest_8 mC ma2 mt_8) (fX5_dearest_8 C a2 t_8) := by
  unfold gX5_dearest_8 fX5_dearest_8
  refine rz_tst (vle_s hx (sX2_size hx hC) (rp_2 (rp_2 ht_8))) ?_ ?_
  · refine rz_ex ?_
    exact rz_some (rp_1 ht_8)
  · refine rz_tst (veq_s hx (sX7_holds hx ha2 (rp_2 (rp_2 ht_8))) rl_0) ?_ ?_
    · exact (sX5_dearest_48 hx hC ha2 ht_8 (rp_1 ht_8) (rp_1 (rp_2 ht_8)))
    · refine rz_bnd (P := (rv x)) (sX2_costOf hx hC (rp_2 (rp_2 ht_8))) (fun mq29_1 q29_1 hq29_1 => ?_)
      refine rz_tst (vle_s hx hq29_1 (rp_1 (rp_2 ht_8))) ?_ ?_
      · exact (sX5_dearest_48 hx hC ha2 ht_8 (rp_1 ht_8) (rp_1 (rp_2 ht_8)))
      · refine rz_bnd (P := (rv x)) (sX2_costOf hx hC (rp_2 (rp_2 ht_8))) (fun mq43_2 q43_2 hq43_2 => ?_)
        exact (sX5_dearest_48 hx hC ha2 ht_8 (rp_2 (rp_2 ht_8)) hq43_2)
noncomputable def gX5_dearest (mC : RT) (ma2 : Nat) : Option Nat := (lpM (gX5_dearest_8 mC ma2) 300 (0, (0, 0)))
theorem sX5_dearest {x : Nat} (hx : x < 1000) {mC : RT} {C : Mem} (hC : (rm x) mC C) {ma2 : Nat} {a2 : Int32} (ha2 : (rv x) ma2 a2) : RZ (RO (rv x)) (gX5_dearest mC ma2) (fX5_dearest C a2) := by
  unfold gX5_dearest fX5_dearest
  exact rz_lp (PS := (rp (rv x) (rp (rv x) (rv x)))) (fun _ _ hs => sX5_dearest_8 hx hC ha2 hs) 300 (rp_m rl_0 (rp_m rl_0 rl_0))
noncomputable def gX5_lightest_26 (mC : RT) (ma1 : Nat) (mt_4 : (Nat × Nat)) (mx2_26 : Nat) : Option ((Nat × Nat) ⊕ Nat) := (some (.inl (mx2_26, (vadd mt_4.2 1))))
theorem sX5_lightest_26 {x : Nat} (hx : x < 1000) {mC : RT} {C : Mem} (hC : (rm x) mC C) {ma1 : Nat} {a1 : Int32} (ha1 : (rv x) ma1 a1) {mt_4 : (Nat × Nat)} {t_4 : (Int32 × Int32)} (ht_4 : (rp (rv x) (rv x)) mt_4 t_4) {mx2_26 : Nat} {x2_26 : Int32} (hx2_26 : (rv x) mx2_26 x2_26) : RZ (RO (rs (rp (rv x) (rv x)) (rv x))) (gX5_lightest_26 mC ma1 mt_4 mx2_26) (fX5_lightest_26 C a1 t_4 x2_26) := by
  unfold gX5_lightest_26 fX5_lightest_26
  exact rz_some (rs_l (rp_m hx2_26 (vadd_s (rp_2 ht_4) rl_1)))
noncomputable def gX5_lightest_4 (mC : RT) (ma1 : Nat) (mt_4 : (Nat × Nat)) : Option ((Nat × Nat) ⊕ Nat) := (tst (vnot (vlt mt_4.2 ma1)) (exM (some mt_4.1)) (ckM (vin mt_4.2 8) (ckM (vin mt_4.1 8) (tst (vnot (vlt (rd mC 444 mt_4.2) (rd mC 444 mt_4.1))) (gX5_lightest_26 mC ma1 mt_4 mt_4.1) (gX5_lightest_26 mC ma1 mt_4 mt_4.2)))))
theorem sX5_lightest_4 {x : Nat} (hx : x < 1000) {mC : RT} {C : Mem} (hC : (rm x) mC C) {ma1 : Nat} {a1 : Int32} (ha1 : (rv x) ma1 a1) {mt_4 : (Nat × Nat)} {t_4 : (Int32 × Int32)} (ht_4 : (rp (rv x) (rv x)) mt_4 t_4) : RZ (RO (rs (rp (rv x) (rv x)) (rv x))) (gX5_lightest_4 mC ma1 mt_4) (fX5_lightest_4 C a1 t_4) := by
  unfold gX5_lightest_4 fX5_lightest_4
  refine rz_tst (vle_s hx ha1 (rp_2 ht_4)) ?_ ?_
  · refine rz_ex ?_
    exact rz_some (rp_1 ht_4)
  · refine rz_in (x := x) (rp_2 ht_4) (fun e_1 => ?_)
    try rw [e_1]
    refine rz_in (x := x) (rp_1 ht_4) (fun e_2 => ?_)
    try rw [e_2]
    refine rz_tst (vle_s hx (rd_s hC _ _) (rd_s hC _ _)) ?_ ?_
    · exact (sX5_lightest_26 hx hC ha1 ht_4 (rp_1 ht_4))
    · exact (sX5_lightest_26 hx hC ha1 ht_4 (rp_2 ht_4))
noncomputable def gX5_lightest (mC : RT) (ma1 : Nat) : Option Nat := (lpM (gX5_lightest_4 mC ma1) 300 (0, 1))
theorem sX5_lightest {x : Nat} (hx : x < 1000) {mC : RT} {C : Mem} (hC : (rm x) mC C) {ma1 : Nat} {a1 : Int32} (ha1 : (rv x) ma1 a1) : RZ (RO (rv x)) (gX5_lightest mC ma1) (fX5_lightest C a1) := by
  unfold gX5_lightest fX5_lightest
  exact rz_lp (PS := (rp (rv x) (rv x))) (fun _ _ hs => sX5_lightest_4 hx hC ha1 hs) 300 (rp_m rl_0 rl_1)
noncomputable def gX5_over_25 (ma3 : Nat) (mt_25 : (RT × (Nat × Nat))) : Option ((RT × (Nat × Nat)) ⊕ RT) := (tst (vnot (vlt 0 mt_25.2.2)) (exM (some mt_25.1)) (bdM (gX5_dearest mt_25.1 mt_25.2.1) fun mq34_1 => (bdM (gX5_lightest mt_25.1 ma3) fun mq41_2 => (ckM (vin mq34_1 16) (ckM (vin mq41_2 8) (bdM (gX2_costOf (wr mt_25.1 445 mq34_1 mq41_2) mq34_1) fun mq66_5 => (ckM (vin mq41_2 8) (nmM (vand mt_25.2.1 (vxor (vshl 1 mq34_1) 4294967295)) fun mv80_7 => (some (.inl ((wr (wr mt_25.1 445 mq34_1 mq41_2) 444 mq41_2 (vadd (rd (wr mt_25.1 445 mq34_1 mq41_2) 444 mq41_2) mq66_5)), (mv80_7, (vadd mt_25.2.2 4294967295)))))))))))))
theorem sX5_over_25 {x : Nat} (hx : x < 1000) {ma3 : Nat} {a3 : Int32} (ha3 : (rv x) ma3 a3) {mt_25 : (RT × (Nat × Nat))} {t_25 : (Mem × (Int32 × Int32))} (ht_25 : (rp (rm x) (rp (rv x) (rv x))) mt_25 t_25) : RZ (RO (rs (rp (rm x) (rp (rv x) (rv x))) (rm x))) (gX5_over_25 ma3 mt_25) (fX5_over_25 a3 t_25) := by
  unfold gX5_over_25 fX5_over_25
  refine rz_tst (vle_s hx (rp_2 (rp_2 ht_25)) rl_0) ?_ ?_
  · refine rz_ex ?_
    exact rz_some (rp_1 ht_25)
  · refine rz_bnd (P := (rv x)) (sX5_dearest hx (rp_1 ht_25) (rp_1 (rp_2 ht_25))) (fun mq34_1 q34_1 hq34_1 => ?_)
    refine rz_bnd (P := (rv x)) (sX5_lightest hx (rp_1 ht_25) ha3) (fun mq41_2 q41_2 hq41_2 => ?_)
    refine rz_in (x := x) hq34_1 (fun e_3 => ?_)
    try rw [e_3]
    refine rz_in (x := x) hq41_2 (fun e_4 => ?_)
    try rw [e_4]
    refine rz_bnd (P := (rv x)) (sX2_costOf hx (wr_s (rp_1 ht_25) _ _ hq41_2) hq34_1) (fun mq66_5 q66_5 hq66_5 => ?_)
    refine rz_in (x := x) hq41_2 (fun e_6 => ?_)
    try rw [e_6]
    refine rz_nm (x := x) (vand_s (rp_1 (rp_2 ht_25)) (vxor_s (vshl_s rl_1 hq34_1) rl_m1)) (fun mv80_7 v80_7 hv80_7 => ?_)
    exact rz_some (rs_l (rp_m (wr_s (wr_s (rp_1 ht_25) _ _ hq41_2) _ _ (vadd_s (rd_s (wr_s (rp_1 ht_25) _ _ hq41_2) _ _) hq66_5)) (rp_m hv80_7 (vadd_s (rp_2 (rp_2 ht_25)) rl_m1))))
noncomputable def gX5_over (mC : RT) (ma2 : Nat) (ma3 : Nat) : Option RT := (bdM (gJ7_fill_53178 mC 444 0) fun mq5_1 => (bdM (gJ7_fill_53178 mq5_1 445 4294967295) fun mq13_2 => (nmM (gJ6_bitCount_0f7a4 ma2) fun mv23_3 => (lpM (gX5_over_25 ma3) 300 (mq13_2, (ma2, mv23_3))))))
theorem sX5_over {x : Nat} (hx : x < 1000) {mC : RT} {C : Mem} (hC : (rm x) mC C) {ma2 : Nat} {a2 : Int32} (ha2 : (rv x) ma2 a2) {ma3 : Nat} {a3 : Int32} (ha3 : (rv x) ma3 a3) : RZ (RO (rm x)) (gX5_over mC ma2 ma3) (fX5_over C a2 a3) := by
  unfold gX5_over fX5_over
  refine rz_bnd (P := (rm x)) (sJ7_fill_53178 hx hC rl_0) (fun mq5_1 q5_1 hq5_1 => ?_)
  refine rz_bnd (P := (rm x)) (sJ7_fill_53178 hx hq5_1 rl_m1) (fun mq13_2 q13_2 hq13_2 => ?_)
  refine rz_nm (x := x) (sJ6_bitCount_0f7a4 hx ha2) (fun mv23_3 v23_3 hv23_3 => ?_)
  exact rz_lp (PS := (rp (rm x) (rp (rv x) (rv x)))) (fun _ _ hs => sX5_over_25 hx ha3 hs) 300 (rp_m hq13_2 (rp_m ha2 hv23_3))
noncomputable def gX5_placeOf (mC : RT) (ma1 : Nat) : Option Nat := (ckM (vin ma1 16) (some (rd mC 445 ma1)))
theorem sX5_placeOf {x : Nat} (hx : x < 1000) {mC : RT} {C : Mem} (hC : (rm x) mC C) {ma1 : Nat} {a1 : Int32} (ha1 : (rv x) ma1 a1) : RZ (RO (rv x)) (gX5_placeOf mC ma1) (fX5_placeOf C a1) := by
  unfold gX5_placeOf fX5_placeOf
  refine rz_in (x := x) ha1 (fun e_1 => ?_)
  try rw [e_1]
  exact rz_some (rd_s hC _ _)
noncomputable def gX5_greatestLoad_4 (mC : RT) (mt_4 : (Nat × Nat)) : Option ((Nat × Nat) ⊕ Nat) := (tst (vnot (vlt mt_4.2 8)) (exM (some mt_4.1)) (ckM (vin mt_4.2 8) (nmM (tsv (vlt mt_4.1 (rd mC 444 mt_4.2)) (rd mC 444 mt_4.2) mt_4.1) fun mv20_2 => (some (.inl (mv20_2, (vadd mt_4.2 1)))))))
theorem sX5_greatestLoad_4 {x : Nat} (hx : x < 1000) {mC : RT} {C : Mem} (hC : (rm x) mC C) {mt_4 : (Nat × Nat)} {t_4 : (Int32 × Int32)} (ht_4 : (rp (rv x) (rv x)) mt_4 t_4) : RZ (RO (rs (rp (rv x) (rv x)) (rv x))) (gX5_greatestLoad_4 mC mt_4) (fX5_greatestLoad_4 C t_4) := by
  unfold gX5_greatestLoad_4 fX5_greatestLoad_4
  refine rz_tst (vle_s hx rl_8 (rp_2 ht_4)) ?_ ?_
  · refine rz_ex ?_
    exact rz_some (rp_1 ht_4)
  · refine rz_in (x := x) (rp_2 ht_4) (fun e_1 => ?_)
    try rw [e_1]
    refine rz_nm (x := x) (rv_ite (vlt_s hx (rp_1 ht_4) (rd_s hC _ _)) (rd_s hC _ _) (rp_1 ht_4)) (fun mv20_2 v20_2 hv20_2 => ?_)
    exact rz_some (rs_l (rp_m hv20_2 (vadd_s (rp_2 ht_4) rl_1)))
noncomputable def gX5_greatestLoad (mC : RT) : Option Nat := (lpM (gX5_greatestLoad_4 mC) 300 (0, 0))
theorem sX5_greatestLoad {x : Nat} (hx : x < 1000) {mC : RT} {C : Mem} (hC : (rm x) mC C) : RZ (RO (rv x)) (gX5_greatestLoad mC) (fX5_greatestLoad C) := by
  unfold gX5_greatestLoad fX5_greatestLoad
  exact rz_lp (PS := (rp (rv x) (rv x))) (fun _ _ hs => sX5_greatestLoad_4 hx hC hs) 300 (rp_m rl_0 rl_0)
noncomputable def gX4_meetFile (mC : RT) (ma1 : Nat) (p2 : Nat) : Option RT := (bdM (gX1_meetFile mC 447 ma1 p2) fun mq6_1 => (some mq6_1))
theorem sX4_meetFile {x : Nat} (hx : x < 1000) {mC : RT} {C : Mem} (hC : (rm x) mC C) {ma1 : Nat} {a1 : Int32} (ha1 : (rv x) ma1 a1) {p2 : Nat} : RZ (RO (rm x)) (gX4_meetFile mC ma1 p2) (fX4_meetFile C a1 p2) := by
  unfold gX4_meetFile fX4_meetFile
  refine rz_bnd (P := (rm x)) (sX1_meetFile hx hC ha1) (fun mq6_1 q6_1 hq6_1 => ?_)
  exact rz_some hq6_1
noncomputable def gX4_isFull (mC : RT) : Option Nat := (ckM (vbo (gX1_isFull mC 447)) (some (gX1_isFull mC 447)))
theorem sX4_isFull {x : Nat} (hx : x < 1000) {mC : RT} {C : Mem} (hC : (rm x) mC C) : RZ (RO (rv x)) (gX4_isFull mC) (fX4_isFull C) := by
  unfold gX4_isFull fX4_isFull
  refine rz_ck (vbo_s (x := x) (sX1_isFull hx hC)) ?_
  exact rz_some (sX1_isFull hx hC)
noncomputable def gX4_add (mC : RT) (p1 : Nat) (ma2 : Nat) (ma3 : Nat) : Option RT := (ckM (vin (gX1_size mC 447) 12) (bdM (gX1_add (wr mC 474 (gX1_size mC 447) ma3) 447 p1 ma2) fun mq19_2 => (some mq19_2)))
theorem sX4_add {x : Nat} (hx : x < 1000) {mC : RT} {C : Mem} (hC : (rm x) mC C) {p1 : Nat} {ma2 : Nat} {a2 : Int32} (ha2 : (rv x) ma2 a2) {ma3 : Nat} {a3 : Int32} (ha3 : (rv x) ma3 a3) : RZ (RO (rm x)) (gX4_add mC p1 ma2 ma3) (fX4_add C p1 a2 a3) := by
  unfold gX4_add fX4_add
  refine rz_in (x := x) (sX1_size hx hC) (fun e_1 => ?_)
  try rw [e_1]
  refine rz_bnd (P := (rm x)) (sX1_add hx (wr_s hC _ _ ha3) ha2) (fun mq19_2 q19_2 hq19_2 => ?_)
  exact rz_some hq19_2
noncomputable def gX4_size (mC : RT) : Nat := (gX1_size mC 447)
theorem sX4_size {x : Nat} (hx : x < 1000) {mC : RT} {C : Mem} (hC : (rm x) mC C) : rv x (gX4_size mC) (fX4_size C) := by
  unfold gX4_size fX4_size
  exact (sX1_size hx hC)
noncomputable def gX4_latestOwner (mC : RT) (ma1 : Nat) : Option Nat := (bdM (gX1_latestCovering mC 447 ma1) fun mq5_1 => (tst (veq mq5_1 4294967295) (some 4294967295) (ckM (vin mq5_1 12) (some (rd mC 474 mq5_1)))))
theorem sX4_latestOwner {x : Nat} (hx : x < 1000) {mC : RT} {C : Mem} (hC : (rm x) mC C) {ma1 : Nat} {a1 : Int32} (ha1 : (rv x) ma1 a1) : RZ (RO (rv x)) (gX4_latestOwner mC ma1) (fX4_latestOwner C a1) := by
  unfold gX4_latestOwner fX4_latestOwner
  refine rz_bnd (P := (rv x)) (sX1_latestCovering hx hC ha1) (fun mq5_1 q5_1 hq5_1 => ?_)
  refine rz_tst (veq_s hx hq5_1 rl_m1) ?_ ?_
  · exact rz_some rl_m1
  · refine rz_in (x := x) hq5_1 (fun e_2 => ?_)
    try rw [e_2]
    exact rz_some (rd_s hC _ _)
noncomputable def gX4_ownersOfAll_38 (mC : RT) (ma1 : Nat) (mt_4 : (Nat × Nat)) (mx2_38 : Nat) : Option ((Nat × Nat) ⊕ Nat) := (some (.inl (mx2_38, (vadd mt_4.2 1))))
theorem sX4_ownersOfAll_38 {x : Nat} (hx : x < 1000) {mC : RT} {C : Mem} (hC : (rm x) mC C) {ma1 : Nat} {a1 : Int32} (ha1 : (rv x) ma1 a1) {mt_4 : (Nat × Nat)} {t_4 : (Int32 × Int32)} (ht_4 : (rp (rv x) (rv x)) mt_4 t_4) {mx2_38 : Nat} {x2_38 : Int32} (hx2_38 : (rv x) mx2_38 x2_38) : RZ (RO (rs (rp (rv x) (rv x)) (rv x))) (gX4_ownersOfAll_38 mC ma1 mt_4 mx2_38) (fX4_ownersOfAll_38 C a1 t_4 x2_38) := by
  unfold gX4_ownersOfAll_38 fX4_ownersOfAll_38
  exact rz_some (rs_l (rp_m hx2_38 (vadd_s (rp_2 ht_4) rl_1)))
noncomputable def gX4_ownersOfAll_4 (mC : RT) (ma1 : Nat) (mt_4 : (Nat × Nat)) : Option ((Nat × Nat) ⊕ Nat) := (tst (vnot (vlt mt_4.2 24)) (exM (some mt_4.1)) (bdM (gX4_latestOwner mC mt_4.2) fun mq12_1 => (tst (veq (gX7_holds ma1 mt_4.2) 0) (gX4_ownersOfAll_38 mC ma1 mt_4 mt_4.1) (tst (veq mq12_1 4294967295) (gX4_ownersOfAll_38 mC ma1 mt_4 mt_4.1) (nmM (vor mt_4.1 (vshl 1 mq12_1)) fun mv37_2 => (gX4_ownersOfAll_38 mC ma1 mt_4 mv37_2))))))
theorem sX4_ownersOfAll_4 {x : Nat} (hx : x < 1000) {mC : RT} {C : Mem} (hC : (rm x) mC C) {ma1 : Nat} {a1 : Int32} (ha1 : (rv x) ma1 a1) {mt_4 : (Nat × Nat)} {t_4 : (Int32 × Int32)} (ht_4 : (rp (rv x) (rv x)) mt_4 t_4) : RZ (RO (rs (rp (rv x) (rv x)) (rv x))) (gX4_ownersOfAll_4 mC ma1 mt_4) (fX4_ownersOfAll_4 C a1 t_4) := by
  unfold gX4_ownersOfAll_4 fX4_ownersOfAll_4
  refine rz_tst (vle_s hx rl_24 (rp_2 ht_4)) ?_ ?_
  · refine rz_ex ?_
    exact rz_some (rp_1 ht_4)
  · refine rz_bnd (P := (rv x)) (sX4_latestOwner hx hC (rp_2 ht_4)) (fun mq12_1 q12_1 hq12_1 => ?_)
    refine rz_tst (veq_s hx (sX7_holds hx ha1 (rp_2 ht_4)) rl_0) ?_ ?_
    · exact (sX4_ownersOfAll_38 hx hC ha1 ht_4 (rp_1 ht_4))
    · refine rz_tst (veq_s hx hq12_1 rl_m1) ?_ ?_
      · exact (sX4_ownersOfAll_38 hx hC ha1 ht_4 (rp_1 ht_4))
      · refine rz_nm (x := x) (vor_s (rp_1 ht_4) (vshl_s rl_1 hq12_1)) (fun mv37_2 v37_2 hv37_2 => ?_)
        exact (sX4_ownersOfAll_38 hx hC ha1 ht_4 hv37_2)
noncomputable def gX4_ownersOfAll (mC : RT) (ma1 : Nat) : Option Nat := (lpM (gX4_ownersOfAll_4 mC ma1) 300 (0, 0))
theorem sX4_ownersOfAll {x : Nat} (hx : x < 1000) {mC : RT} {C : Mem} (hC : (rm x) mC C) {ma1 : Nat} {a1 : Int32} (ha1 : (rv x) ma1 a1) : RZ (RO (rv x)) (gX4_ownersOfAll mC ma1) (fX4_ownersOfAll C a1) := by
  unfold gX4_ownersOfAll fX4_ownersOfAll
  exact rz_lp (PS := (rp (rv x) (rv x))) (fun _ _ hs => sX4_ownersOfAll_4 hx hC ha1 hs) 300 (rp_m rl_0 rl_0)
