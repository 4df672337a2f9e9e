noncomputable def gJ6_bitCount_0f7a4 (ma1 : Nat) : Nat := (nmM (vsub ma1 (vand (vush ma1 1) 1431655765)) fun mv9_1 => (nmM (vadd (vand mv9_1 858993459) (vand (vush mv9_1 2) 858993459)) fun mv23_2 => (nmM (vand (vadd mv23_2 (vush mv23_2 4)) 252645135) fun mv33_3 => (nmM (vadd mv33_3 (vush mv33_3 8)) fun mv40_4 => (nmM (vadd mv40_4 (vush mv40_4 16)) fun mv47_5 => (vand mv47_5 63))))))
theorem sJ6_bitCount_0f7a4 {x : Nat} (hx : x < 1000) {ma1 : Nat} {a1 : Int32} (ha1 : (rv x) ma1 a1) : rv x (gJ6_bitCount_0f7a4 ma1) (fJ6_bitCount_0f7a4 a1) := by
  unfold gJ6_bitCount_0f7a4 fJ6_bitCount_0f7a4
  exact (rv_nm (x := x) (vsub_s ha1 (vand_s (vush_s ha1 (by decide) (by decide)) rl_1431655765)) (fun mv9_1 v9_1 hv9_1 => (rv_nm (x := x) (vadd_s (vand_s hv9_1 rl_858993459) (vand_s (vush_s hv9_1 (by decide) (by decide)) rl_858993459)) (fun mv23_2 v23_2 hv23_2 => (rv_nm (x := x) (vand_s (vadd_s hv23_2 (vush_s hv23_2 (by decide) (by decide))) rl_252645135) (fun mv33_3 v33_3 hv33_3 => (rv_nm (x := x) (vadd_s hv33_3 (vush_s hv33_3 (by decide) (by decide))) (fun mv40_4 v40_4 hv40_4 => (rv_nm (x := x) (vadd_s hv40_4 (vush_s hv40_4 (by decide) (by decide))) (fun mv47_5 v47_5 hv47_5 => (vand_s hv47_5 rl_63)))))))))))
noncomputable def gJ7_fill_53178_5 (ma2 : Nat) (p1 : Nat) (mv4 : Nat) (mt_5 : (RT × Nat)) : Option ((RT × Nat) ⊕ RT) := (tst (vnot (vlt mt_5.2 mv4)) (exM (some mt_5.1)) (ckM (vin mt_5.2 (ln p1)) (some (.inl ((wr mt_5.1 p1 mt_5.2 ma2), (vadd mt_5.2 1))))))
theorem sJ7_fill_53178_5 {x : Nat} (hx : x < 1000) {ma2 : Nat} {a2 : Int32} (ha2 : (rv x) ma2 a2) {p1 : Nat} {mv4 : Nat} {v4 : Int32} (hv4 : (rv x) mv4 v4) {mt_5 : (RT × Nat)} {t_5 : (Mem × Int32)} (ht_5 : (rp (rm x) (rv x)) mt_5 t_5) : RZ (RO (rs (rp (rm x) (rv x)) (rm x))) (gJ7_fill_53178_5 ma2 p1 mv4 mt_5) (fJ7_fill_53178_5 a2 p1 v4 t_5) := by
  unfold gJ7_fill_53178_5 fJ7_fill_53178_5
  refine rz_tst (vle_s hx hv4 (rp_2 ht_5)) ?_ ?_
  · refine rz_ex ?_
    exact rz_some (rp_1 ht_5)
  · refine rz_in (x := x) (rp_2 ht_5) (fun e_1 => ?_)
    try rw [e_1]
    exact rz_some (rs_l (rp_m (wr_s (rp_1 ht_5) _ _ ha2) (vadd_s (rp_2 ht_5) rl_1)))
noncomputable def gJ7_fill_53178 (mC : RT) (p1 : Nat) (ma2 : Nat) : Option RT := (nmM (ln p1) fun mv4_1 => (lpM (gJ7_fill_53178_5 ma2 p1 mv4_1) 300 (mC, 0)))
theorem sJ7_fill_53178 {x : Nat} (hx : x < 1000) {mC : RT} {C : Mem} (hC : (rm x) mC C) {p1 : Nat} {ma2 : Nat} {a2 : Int32} (ha2 : (rv x) ma2 a2) : RZ (RO (rm x)) (gJ7_fill_53178 mC p1 ma2) (fJ7_fill_53178 C p1 a2) := by
  unfold gJ7_fill_53178 fJ7_fill_53178
  refine rz_nm (x := x) (rv_nI (Nat.lt_of_le_of_lt (ln_le _) (by decide))) (fun mv4_1 v4_1 hv4_1 => ?_)
  exact rz_lp (PS := (rp (rm x) (rv x))) (fun _ _ hs => sJ7_fill_53178_5 hx ha2 hv4_1 hs) 300 (rp_m hC rl_0)
noncomputable def gX7_holds (ma1 : Nat) (ma2 : Nat) : Nat := (tsv (veq (vand (vshr ma1 ma2) 1) 1) 1 0)
theorem sX7_holds {x : Nat} (hx : x < 1000) {ma1 : Nat} {a1 : Int32} (ha1 : (rv x) ma1 a1) {ma2 : Nat} {a2 : Int32} (ha2 : (rv x) ma2 a2) : rv x (gX7_holds ma1 ma2) (fX7_holds a1 a2) := by
  unfold gX7_holds fX7_holds
  exact (rv_ts (veq_s hx (vand_s (vshr_s ha1 ha2) rl_1) rl_1) rl_1 rl_0)
noncomputable def gX7_isSign_30  : Nat := 1
theorem sX7_isSign_30 {x : Nat} (hx : x < 1000)  : rv x (gX7_isSign_30) (fX7_isSign_30) := by
  unfold gX7_isSign_30 fX7_isSign_30
  exact rl_1
noncomputable def gX7_isSign_12 (ma1 : Nat) : Nat := (tsv (veq ma1 47) gX7_isSign_30 (tsv (veq ma1 42) gX7_isSign_30 (tsv (veq ma1 63) gX7_isSign_30 0)))
theorem sX7_isSign_12 {x : Nat} (hx : x < 1000) {ma1 : Nat} {a1 : Int32} (ha1 : (rv x) ma1 a1) : rv x (gX7_isSign_12 ma1) (fX7_isSign_12 a1) := by
  unfold gX7_isSign_12 fX7_isSign_12
  exact (rv_ts (veq_s hx ha1 rl_47) (sX7_isSign_30 hx) (rv_ts (veq_s hx ha1 rl_42) (sX7_isSign_30 hx) (rv_ts (veq_s hx ha1 rl_63) (sX7_isSign_30 hx) rl_0)))
noncomputable def gX7_isSign (ma1 : Nat) : Nat := (tsv (vlt ma1 97) (gX7_isSign_12 ma1) (tsv (vnot (vlt 122 ma1)) gX7_isSign_30 (gX7_isSign_12 ma1)))
theorem sX7_isSign {x : Nat} (hx : x < 1000) {ma1 : Nat} {a1 : Int32} (ha1 : (rv x) ma1 a1) : rv x (gX7_isSign ma1) (fX7_isSign a1) := by
  unfold gX7_isSign fX7_isSign
  exact (rv_ts (vlt_s hx ha1 rl_97) (sX7_isSign_12 hx ha1) (rv_ts (vle_s hx ha1 rl_122) (sX7_isSign_30 hx) (sX7_isSign_12 hx ha1)))
noncomputable def gX6_size (mC : RT) (o : Nat) : Nat := (rd mC o 1)
theorem sX6_size {x : Nat} (hx : x < 1000) {mC : RT} {C : Mem} (hC : (rm x) mC C) {o : Nat} : rv x (gX6_size mC o) (fX6_size C o) := by
  unfold gX6_size fX6_size
  exact (rd_s hC _ _)
noncomputable def gX6_empty (mC : RT) (o : Nat) : Option RT := (some (wr mC o 1 0))
theorem sX6_empty {x : Nat} (hx : x < 1000) {mC : RT} {C : Mem} (hC : (rm x) mC C) {o : Nat} : RZ (RO (rm x)) (gX6_empty mC o) (fX6_empty C o) := by
  unfold gX6_empty fX6_empty
  exact rz_some (wr_s hC _ _ rl_0)
noncomputable def gX6_signAt_21 (mC : RT) : Option Nat := (some 47)
theorem sX6_signAt_21 {x : Nat} (hx : x < 1000) {mC : RT} {C : Mem} (hC : (rm x) mC C) : RZ (RO (rv x)) (gX6_signAt_21 mC) (fX6_signAt_21 C) := by
  unfold gX6_signAt_21 fX6_signAt_21
  exact rz_some rl_47
noncomputable def gX6_signAt (mC : RT) (o : Nat) (ma1 : Nat) : Option Nat := (tst (vlt ma1 0) (gX6_signAt_21 mC) (tst (vnot (vlt ma1 (rd mC o 1))) (gX6_signAt_21 mC) (ckM (vin ma1 24) (ckM (vch (rd mC (Nat.add o 1) ma1)) (some (rd mC (Nat.add o 1) ma1))))))
theorem sX6_signAt {x : Nat} (hx : x < 1000) {mC : RT} {C : Mem} (hC : (rm x) mC C) {o : Nat} {ma1 : Nat} {a1 : Int32} (ha1 : (rv x) ma1 a1) : RZ (RO (rv x)) (gX6_signAt mC o ma1) (fX6_signAt C o a1) := by
  unfold gX6_signAt fX6_signAt
  refine rz_tst (vlt_s hx ha1 rl_0) ?_ ?_
  · exact (sX6_signAt_21 hx hC)
  · refine rz_tst (vle_s hx (rd_s hC _ _) ha1) ?_ ?_
    · exact (sX6_signAt_21 hx hC)
    · refine rz_in (x := x) ha1 (fun e_1 => ?_)
      try rw [e_1]
      refine rz_ck (vch_s (x := x) (rd_s hC _ _)) ?_
      exact rz_some (rd_s hC _ _)
noncomputable def gX6_hasEmptySegment_34 (mC : RT) (o : Nat) (mt_2 : Nat) : Option (Nat ⊕ Nat) := (some (.inl (vadd mt_2 1)))
theorem sX6_hasEmptySegment_34 {x : Nat} (hx : x < 1000) {mC : RT} {C : Mem} (hC : (rm x) mC C) {o : Nat} {mt_2 : Nat} {t_2 : Int32} (ht_2 : (rv x) mt_2 t_2) : RZ (RO (rs (rv x) (rv x))) (gX6_hasEmptySegment_34 mC o mt_2) (fX6_hasEmptySegment_34 C o t_2) := by
  unfold gX6_hasEmptySegment_34 fX6_hasEmptySegment_34
  exact rz_some (rs_l (vadd_s ht_2 rl_1))
noncomputable def gX6_hasEmptySegment_2 (mC : RT) (o : Nat) (mt_2 : Nat) : Option (Nat ⊕ Nat) := (tst (vlt (rd mC o 1) mt_2) (exM (some 0)) (bdM (gX6_signAt mC o (vsub mt_2 1)) fun mq14_1 => (tst (veq mq14_1 47) (bdM (gX6_signAt mC o mt_2) fun mq24_2 => (tst (veq mq24_2 47) (exM (some 1)) (gX6_hasEmptySegment_34 mC o mt_2))) (gX6_hasEmptySegment_34 mC o mt_2))))
theorem sX6_hasEmptySegment_2 {x : Nat} (hx : x < 1000) {mC : RT} {C : Mem} (hC : (rm x) mC C) {o : Nat} {mt_2 : Nat} {t_2 : Int32} (ht_2 : (rv x) mt_2 t_2) : RZ (RO (rs (rv x) (rv x))) (gX6_hasEmptySegment_2 mC o mt_2) (fX6_hasEmptySegment_2 C o t_2) := by
  unfold gX6_hasEmptySegment_2 fX6_hasEmptySegment_2
  refine rz_tst (vlt_s hx (rd_s hC _ _) ht_2) ?_ ?_
  · refine rz_ex ?_
    exact rz_some rl_0
  · refine rz_bnd (P := (rv x)) (sX6_signAt hx hC (vsub_s ht_2 rl_1)) (fun mq14_1 q14_1 hq14_1 => ?_)
    refine rz_tst (veq_s hx hq14_1 rl_47) ?_ ?_
    · refine rz_bnd (P := (rv x)) (sX6_signAt hx hC ht_2) (fun mq24_2 q24_2 hq24_2 => ?_)
      refine rz_tst (veq_s hx hq24_2 rl_47) ?_ ?_
      · refine rz_ex ?_
        exact rz_some rl_1
      · exact (sX6_hasEmptySegment_34 hx hC ht_2)
    · exact (sX6_hasEmptySegment_34 hx hC ht_2)
noncomputable def gX6_hasEmptySegment (mC : RT) (o : Nat) : Option Nat := (lpM (gX6_hasEmptySegment_2 mC o) 300 0)
theorem sX6_hasEmptySegment {x : Nat} (hx : x < 1000) {mC : RT} {C : Mem} (hC : (rm x) mC C) {o : Nat} : RZ (RO (rv x)) (gX6_hasEmptySegment mC o) (fX6_hasEmptySegment C o) := by
  unfold gX6_hasEmptySegment fX6_hasEmptySegment
  exact rz_lp (PS := (rv x)) (fun _ _ hs => sX6_hasEmptySegment_2 hx hC hs) 300 rl_0
noncomputable def gX6_hasPathForm_40 (mC : RT) (o : Nat) : Option Nat := (bdM (gX6_hasEmptySegment mC o) fun mq41_1 => (tst (veq mq41_1 0) (some 1) (some 0)))
theorem sX6_hasPathForm_40 {x : Nat} (hx : x < 1000) {mC : RT} {C : Mem} (hC : (rm x) mC C) {o : Nat} : RZ (RO (rv x)) (gX6_hasPathForm_40 mC o) (fX6_hasPathForm_40 C o) := by
  unfold gX6_hasPathForm_40 fX6_hasPathForm_40
  refine rz_bnd (P := (rv x)) (sX6_hasEmptySegment hx hC) (fun mq41_1 q41_1 hq41_1 => ?_)
  refine rz_tst (veq_s hx hq41_1 rl_0) ?_ ?_
  · exact rz_some rl_1
  · exact rz_some rl_0
noncomputable def gX6_hasPathForm_32 (mC : RT) : Option Nat := (some 0)
theorem sX6_hasPathForm_32 {x : Nat} (hx : x < 1000) {mC : RT} {C : Mem} (hC : (rm x) mC C) : RZ (RO (rv x)) (gX6_hasPathForm_32 mC) (fX6_hasPathForm_32 C) := by
  unfold gX6_hasPathForm_32 fX6_hasPathForm_32
  exact rz_some rl_0
noncomputable def gX6_hasPathForm_2 (mC : RT) (o : Nat) (mt_2 : Nat) : Option (Nat ⊕ Nat) := (tst (vnot (vlt mt_2 (rd mC o 1))) (exM (gX6_hasPathForm_40 mC o)) (ckM (vin mt_2 24) (tst (veq (rd mC (Nat.add o 1) mt_2) 42) (exM (gX6_hasPathForm_32 mC)) (ckM (vin mt_2 24) (tst (veq (rd mC (Nat.add o 1) mt_2) 63) (exM (gX6_hasPathForm_32 mC)) (some (.inl (vadd mt_2 1))))))))
theorem sX6_hasPathForm_2 {x : Nat} (hx : x < 1000) {mC : RT} {C : Mem} (hC : (rm x) mC C) {o : Nat} {mt_2 : Nat} {t_2 : Int32} (ht_2 : (rv x) mt_2 t_2) : RZ (RO (rs (rv x) (rv x))) (gX6_hasPathForm_2 mC o mt_2) (fX6_hasPathForm_2 C o t_2) := by
  unfold gX6_hasPathForm_2 fX6_hasPathForm_2
  refine rz_tst (vle_s hx (rd_s hC _ _) ht_2) ?_ ?_
  · refine rz_ex ?_
    exact (sX6_hasPathForm_40 hx hC)
  · refine rz_in (x := x) ht_2 (fun e_1 => ?_)
    try rw [e_1]
    refine rz_tst (veq_s hx (rd_s hC _ _) rl_42) ?_ ?_
    · refine rz_ex ?_
      exact (sX6_hasPathForm_32 hx hC)
    · refine rz_in (x := x) ht_2 (fun e_2 => ?_)
      try rw [e_2]
      refine rz_tst (veq_s hx (rd_s hC _ _) rl_63) ?_ ?_
      · refine rz_ex ?_
        exact (sX6_hasPathForm_32 hx hC)
      · exact rz_some (rs_l (vadd_s ht_2 rl_1))
noncomputable def gX6_hasPathForm (mC : RT) (o : Nat) : Option Nat := (lpM (gX6_hasPathForm_2 mC o) 300 0)
theorem sX6_hasPathForm {x : Nat} (hx : x < 1000) {mC : RT} {C : Mem} (hC : (rm x) mC C) {o : Nat} : RZ (RO (rv x)) (gX6_hasPathForm mC o) (fX6_hasPathForm C o) := by
  unfold gX6_hasPathForm fX6_hasPathForm
  exact rz_lp (PS := (rv x)) (fun _ _ hs => sX6_hasPathForm_2 hx hC hs) 300 rl_0
noncomputable def gX6_isDoubleStar_26 (mC : RT) : Option Nat := (some 0)
theorem sX6_isDoubleStar_26 {x : Nat} (hx : x < 1000) {mC : RT} {C : Mem} (hC : (rm x) mC C) : RZ (RO (rv x)) (gX6_isDoubleStar_26 mC) (fX6_isDoubleStar_26 C) := by
  unfold gX6_isDoubleStar_26 fX6_isDoubleStar_26
  exact rz_some rl_0
noncomputable def gX6_isDoubleStar (mC : RT) (o : Nat) (ma1 : Nat) : Option Nat := (bdM (gX6_signAt mC o ma1) fun mq2_1 => (tst (veq mq2_1 42) (bdM (gX6_signAt mC o (vadd ma1 1)) fun mq14_2 => (tst (veq mq14_2 42) (some 1) (gX6_isDoubleStar_26 mC))) (gX6_isDoubleStar_26 mC)))
theorem sX6_isDoubleStar {x : Nat} (hx : x < 1000) {mC : RT} {C : Mem} (hC : (rm x) mC C) {o : Nat} {ma1 : Nat} {a1 : Int32} (ha1 : (rv x) ma1 a1) : RZ (RO (rv x)) (gX6_isDoubleStar mC o ma1) (fX6_isDoubleStar C o a1) := by
  unfold gX6_isDoubleStar fX6_isDoubleStar
  refine rz_bnd (P := (rv x)) (sX6_signAt hx hC ha1) (fun mq2_1 q2_1 hq2_1 => ?_)
  refine rz_tst (veq_s hx hq2_1 rl_42) ?_ ?_
  · refine rz_bnd (P := (rv x)) (sX6_signAt hx hC (vadd_s ha1 rl_1)) (fun mq14_2 q14_2 hq14_2 => ?_)
    refine rz_tst (veq_s hx hq14_2 rl_42) ?_ ?_
    · exact rz_some rl_1
    · exact (sX6_isDoubleStar_26 hx hC)
  · exact (sX6_isDoubleStar_26 hx hC)
noncomputable def gX6_hasGlobForm_50 (mC : RT) (o : Nat) : Option Nat := (bdM (gX6_hasEmptySegment mC o) fun mq51_1 => (tst (veq mq51_1 0) (some 1) (some 0)))
theorem sX6_hasGlobForm_50 {x : Nat} (hx : x < 1000) {mC : RT} {C : Mem} (hC : (rm x) mC C) {o : Nat} : RZ (RO (rv x)) (gX6_hasGlobForm_50 mC o) (fX6_hasGlobForm_50 C o) := by
  unfold gX6_hasGlobForm_50 fX6_hasGlobForm_50
  refine rz_bnd (P := (rv x)) (sX6_hasEmptySegment hx hC) (fun mq51_1 q51_1 hq51_1 => ?_)
  refine rz_tst (veq_s hx hq51_1 rl_0) ?_ ?_
  · exact rz_some rl_1
  · exact rz_some rl_0
noncomputable def gX6_hasGlobForm_44 (mC : RT) (o : Nat) (mt_2 : Nat) : Option (Nat ⊕ Nat) := (some (.inl (vadd mt_2 1)))
theorem sX6_hasGlobForm_44 {x : Nat} (hx : x < 1000) {mC : RT} {C : Mem} (hC : (rm x) mC C) {o : Nat} {mt_2 : Nat} {t_2 : Int32} (ht_2 : (rv x) mt_2 t_2) : RZ (RO (rs (rv x) (rv x))) (gX6_hasGlobForm_44 mC o mt_2) (fX6_hasGlobForm_44 C o t_2) := by
  unfold gX6_hasGlobForm_44 fX6_hasGlobForm_44
  exact rz_some (rs_l (vadd_s ht_2 rl_1))
noncomputable def gX6_hasGlobForm_42 (mC : RT) : Option Nat := (some 0)
theorem sX6_hasGlobForm_42 {x : Nat} (hx : x < 1000) {mC : RT} {C : Mem} (hC : (rm x) mC C) : RZ (RO (rv x)) (gX6_hasGlobForm_42 mC) (fX6_hasGlobForm_42 C) := by
  unfold gX6_hasGlobForm_42 fX6_hasGlobForm_42
  exact rz_some rl_0
noncomputable def gX6_hasGlobForm_2 (mC : RT) (o : Nat) (mt_2 : Nat) : Option (Nat ⊕ Nat) := (tst (vnot (vlt mt_2 (rd mC o 1))) (exM (gX6_hasGlobForm_50 mC o)) (bdM (gX6_isDoubleStar mC o mt_2) fun mq12_1 => (tst (veq mq12_1 0) (gX6_hasGlobForm_44 mC o mt_2) (bdM (gX6_signAt mC o (vsub mt_2 1)) fun mq22_2 => (tst (veq mq22_2 47) (bdM (gX6_signAt mC o (vadd mt_2 2)) fun mq34_3 => (tst (veq mq34_3 47) (gX6_hasGlobForm_44 mC o mt_2) (exM (gX6_hasGlobForm_42 mC)))) (exM (gX6_hasGlobForm_42 mC)))))))
theorem sX6_hasGlobForm_2 {x : Nat} (hx : x < 1000) {mC : RT} {C : Mem} (hC : (rm x) mC C) {o : Nat} {mt_2 : Nat} {t_2 : Int32} (ht_2 : (rv x) mt_2 t_2) : RZ (RO (rs (rv x) (rv x))) (gX6_hasGlobForm_2 mC o mt_2) (fX6_hasGlobForm_2 C o t_2) := by
  unfold gX6_hasGlobForm_2 fX6_hasGlobForm_2
  refine rz_tst (vle_s hx (rd_s hC _ _) ht_2) ?_ ?_
  · refine rz_ex ?_
    exact (sX6_hasGlobForm_50 hx hC)
  · refine rz_bnd (P := (rv x)) (sX6_isDoubleStar hx hC ht_2) (fun mq12_1 q12_1 hq12_1 => ?_)
    refine rz_tst (veq_s hx hq12_1 rl_0) ?_ ?_
    · exact (sX6_hasGlobForm_44 hx hC ht_2)
    · refine rz_bnd (P := (rv x)) (sX6_signAt hx hC (vsub_s ht_2 rl_1)) (fun mq22_2 q22_2 hq22_2 => ?_)
      refine rz_tst (veq_s hx hq22_2 rl_47) ?_ ?_
      · refine rz_bnd (P := (rv x)) (sX6_signAt hx hC (vadd_s ht_2 rl_2)) (fun mq34_3 q34_3 hq34_3 => ?_)
        refine rz_tst (veq_s hx hq34_3 rl_47) ?_ ?_
        · exact (sX6_hasGlobForm_44 hx hC ht_2)
        · refine rz_ex ?_
          exact (sX6_hasGlobForm_42 hx hC)
      · refine rz_ex ?_
        exact (sX6_hasGlobForm_42 hx hC)
noncomputable def gX6_hasGlobForm (mC : RT) (o : Nat) : Option Nat := (lpM (gX6_hasGlobForm_2 mC o) 300 0)
theorem sX6_hasGlobForm {x : Nat} (hx : x < 1000) {mC : RT} {C : Mem} (hC : (rm x) mC C) {o : Nat} : RZ (RO (rv x)) (gX6_hasGlobForm mC o) (fX6_hasGlobForm C o) := by
  unfold gX6_hasGlobForm fX6_hasGlobForm
  exact rz_lp (PS := (rv x)) (fun _ _ hs => sX6_hasGlobForm_2 hx hC hs) 300 rl_0
noncomputable def gX6_isFull (mC : RT) (o : Nat) : Nat := (tsv (vlt (rd mC o 1) 24) 0 1)
theorem sX6_isFull {x : Nat} (hx : x < 1000) {mC : RT} {C : Mem} (hC : (rm x) mC C) {o : Nat} : rv x (gX6_isFull mC o) (fX6_isFull C o) := by
  unfold gX6_isFull fX6_isFull
  exact (rv_ts (vlt_s hx (rd_s hC _ _) rl_24) rl_0 rl_1)
noncomputable def gX6_append (mC : RT) (o : Nat) (ma1 : Nat) : Option RT := (ckM (vin (rd mC o 1) 24) (some (wr (wr mC (Nat.add o 1) (rd mC o 1) (vnarc ma1)) o 1 (vadd (rd (wr mC (Nat.add o 1) (rd mC o 1) (vnarc ma1)) o 1) 1))))
theorem sX6_append {x : Nat} (hx : x < 1000) {mC : RT} {C : Mem} (hC : (rm x) mC C) {o : Nat} {ma1 : Nat} {a1 : Int32} (ha1 : (rv x) ma1 a1) : RZ (RO (rm x)) (gX6_append mC o ma1) (fX6_append C o a1) := by
  unfold gX6_append fX6_append
  refine rz_in (x := x) (rd_s hC _ _) (fun e_1 => ?_)
  try rw [e_1]
  exact rz_some (wr_s (wr_s hC _ _ (vnarc_s ha1)) _ _ (vadd_s (rd_s (wr_s hC _ _ (vnarc_s ha1)) _ _) rl_1))
noncomputable def gX6_isSameAs_15 (mC : RT) (o : Nat) (p1 : Nat) (mt_15 : Nat) : Option (Nat ⊕ Nat) := (tst (vnot (vlt mt_15 (rd mC o 1))) (exM (some 1)) (ckM (vin mt_15 24) (ckM (vin mt_15 24) (tst (veq (rd mC (Nat.add o 1) mt_15) (rd mC (Nat.add p1 1) mt_15)) (some (.inl (vadd mt_15 1))) (exM (some 0))))))
theorem sX6_isSameAs_15 {x : Nat} (hx : x < 1000) {mC : RT} {C : Mem} (hC : (rm x) mC C) {o : Nat} {p1 : Nat} {mt_15 : Nat} {t_15 : Int32} (ht_15 : (rv x) mt_15 t_15) : RZ (RO (rs (rv x) (rv x))) (gX6_isSameAs_15 mC o p1 mt_15) (fX6_isSameAs_15 C o p1 t_15) := by
  unfold gX6_isSameAs_15 fX6_isSameAs_15
  refine rz_tst (vle_s hx (rd_s hC _ _) ht_15) ?_ ?_
  · refine rz_ex ?_
    exact rz_some rl_1
  · refine rz_in (x := x) ht_15 (fun e_1 => ?_)
    try rw [e_1]
    refine rz_in (x := x) ht_15 (fun e_2 => ?_)
    try rw [e_2]
    refine rz_tst (veq_s hx (rd_s hC _ _) (rd_s hC _ _)) ?_ ?_
    · exact rz_some (rs_l (vadd_s ht_15 rl_1))
    · refine rz_ex ?_
      exact rz_some rl_0
noncomputable def gX6_isSameAs (mC : RT) (o : Nat) (p1 : Nat) : Option Nat := (tst (veq (rd mC o 1) (rd mC p1 1)) (lpM (gX6_isSameAs_15 mC o p1) 300 0) (some 0))
theorem sX6_isSameAs {x : Nat} (hx : x < 1000) {mC : RT} {C : Mem} (hC : (rm x) mC C) {o : Nat} {p1 : Nat} : RZ (RO (rv x)) (gX6_isSameAs mC o p1) (fX6_isSameAs C o p1) := by
  unfold gX6_isSameAs fX6_isSameAs
  refine rz_tst (veq_s hx (rd_s hC _ _) (rd_s hC _ _)) ?_ ?_
  · exact rz_lp (PS := (rv x)) (fun _ _ hs => sX6_isSameAs_15 hx hC hs) 300 rl_0
  · exact rz_some rl_0
noncomputable def gX6_copyFrom_10 (o : Nat) (p1 : Nat) (mt_10 : (RT × Nat)) : Option ((RT × Nat) ⊕ RT) := (tst (vnot (vlt mt_10.2 (rd mt_10.1 o 1))) (exM (some mt_10.1)) (ckM (vin mt_10.2 24) (ckM (vin mt_10.2 24) (some (.inl ((wr mt_10.1 (Nat.add o 1) mt_10.2 (vnarc (rd mt_10.1 (Nat.add p1 1) mt_10.2))), (vadd mt_10.2 1)))))))
theorem sX6_copyFrom_10 {x : Nat} (hx : x < 1000) {o : Nat} {p1 : Nat} {mt_10 : (RT × Nat)} {t_10 : (Mem × Int32)} (ht_10 : (rp (rm x) (rv x)) mt_10 t_10) : RZ (RO (rs (rp (rm x) (rv x)) (rm x))) (gX6_copyFrom_10 o p1 mt_10) (fX6_copyFrom_10 o p1 t_10) := by
  unfold gX6_copyFrom_10 fX6_copyFrom_10
  refine rz_tst (vle_s hx (rd_s (rp_1 ht_10) _ _) (rp_2 ht_10)) ?_ ?_
  · refine rz_ex ?_
    exact rz_some (rp_1 ht_10)
  · refine rz_in (x := x) (rp_2 ht_10) (fun e_1 => ?_)
    try rw [e_1]
    refine rz_in (x := x) (rp_2 ht_10) (fun e_2 => ?_)
    try rw [e_2]
    exact rz_some (rs_l (rp_m (wr_s (rp_1 ht_10) _ _ (vnarc_s (rd_s (rp_1 ht_10) _ _))) (vadd_s (rp_2 ht_10) rl_1)))
noncomputable def gX6_copyFrom (mC : RT) (o : Nat) (p1 : Nat) : Option RT := (lpM (gX6_copyFrom_10 o p1) 300 ((wr mC o 1 (rd mC p1 1)), 0))
theorem sX6_copyFrom {x : Nat} (hx : x < 1000) {mC : RT} {C : Mem} (hC : (rm x) mC C) {o : Nat} {p1 : Nat} : RZ (RO (rm x)) (gX6_copyFrom mC o p1) (fX6_copyFrom C o p1) := by
  unfold gX6_copyFrom fX6_copyFrom
  exact rz_lp (PS := (rp (rm x) (rv x))) (fun _ _ hs => sX6_copyFrom_10 hx hs) 300 (rp_m (wr_s hC _ _ (rd_s hC _ _)) rl_0)
noncomputable def gX6_startsFrom_61 (mC : RT) (ma1 : Nat) (o : Nat) (ms0_36 : Nat) (mt_7 : (Nat × (Nat × Nat))) (mx2_61 : Nat) : Option ((Nat × (Nat × Nat)) ⊕ Nat) := (some (.inl (mx2_61, (ms0_36, (vadd mt_7.2.2 1)))))
theorem sX6_startsFrom_61 {x : Nat} (hx : x < 1000) {mC : RT} {C : Mem} (hC : (rm x) mC C) {ma1 : Nat} {a1 : Int32} (ha1 : (rv x) ma1 a1) {o : Nat} {ms0_36 : Nat} {s0_36 : Int32} (hs0_36 : (rv x) ms0_36 s0_36) {mt_7 : (Nat × (Nat × Nat))} {t_7 : (Int32 × (Int32 × Int32))} (ht_7 : (rp (rv x) (rp (rv x) (rv x))) mt_7 t_7) {mx2_61 : Nat} {x2_61 : Int32} (hx2_61 : (rv x) mx2_61 x2_61) : RZ (RO (rs (rp (rv x) (rp (rv x) (rv x))) (rv x))) (gX6_startsFrom_61 mC ma1 o ms0_36 mt_7 mx2_61) (fX6_startsFrom_61 C a1 o s0_36 t_7 x2_61) := by
  unfold gX6_startsFrom_61 fX6_startsFrom_61
  exact rz_some (rs_l (rp_m hx2_61 (rp_m hs0_36 (vadd_s (rp_2 (rp_2 ht_7)) rl_1))))
noncomputable def gX6_startsFrom_36 (mC : RT) (ma1 : Nat) (o : Nat) (mt_7 : (Nat × (Nat × Nat))) (ms0_36 : Nat) : Option ((Nat × (Nat × Nat)) ⊕ Nat) := (tst (veq ms0_36 0) (gX6_startsFrom_61 mC ma1 o ms0_36 mt_7 mt_7.1) (bdM (gX6_signAt mC o (vsub mt_7.2.2 1)) fun mq46_1 => (tst (veq mq46_1 47) (nmM (vor mt_7.1 (vshl 1 mt_7.2.2)) fun mv60_2 => (gX6_startsFrom_61 mC ma1 o ms0_36 mt_7 mv60_2)) (gX6_startsFrom_61 mC ma1 o ms0_36 mt_7 mt_7.1))))
theorem sX6_startsFrom_36 {x : Nat} (hx : x < 1000) {mC : RT} {C : Mem} (hC : (rm x) mC C) {ma1 : Nat} {a1 : Int32} (ha1 : (rv x) ma1 a1) {o : Nat} {mt_7 : (Nat × (Nat × Nat))} {t_7 : (Int32 × (Int32 × Int32))} (ht_7 : (rp (rv x) (rp (rv x) (rv x))) mt_7 t_7) {ms0_36 : Nat} {s0_36 : Int32} (hs0_36 : (rv x) ms0_36 s0_36) : RZ (RO (rs (rp (rv x) (rp (rv x) (rv x))) (rv x))) (gX6_startsFrom_36 mC ma1 o mt_7 ms0_36) (fX6_startsFrom_36 C a1 o t_7 s0_36) := by
  unfold gX6_startsFrom_36 fX6_startsFrom_36
  refine rz_tst (veq_s hx hs0_36 rl_0) ?_ ?_
  · exact (sX6_startsFrom_61 hx hC ha1 hs0_36 ht_7 (rp_1 ht_7))
  · refine rz_bnd (P := (rv x)) (sX6_signAt hx hC (vsub_s (rp_2 (rp_2 ht_7)) rl_1)) (fun mq46_1 q46_1 hq46_1 => ?_)
    refine rz_tst (veq_s hx hq46_1 rl_47) ?_ ?_
    · refine rz_nm (x := x) (vor_s (rp_1 ht_7) (vshl_s rl_1 (rp_2 (rp_2 ht_7)))) (fun mv60_2 v60_2 hv60_2 => ?_)
      exact (sX6_startsFrom_61 hx hC ha1 hs0_36 ht_7 hv60_2)
    · exact (sX6_startsFrom_61 hx hC ha1 hs0_36 ht_7 (rp_1 ht_7))
noncomputable def gX6_startsFrom_31 (mC : RT) (ma1 : Nat) (o : Nat) (mt_7 : (Nat × (Nat × Nat))) : Option ((Nat × (Nat × Nat)) ⊕ Nat) := (gX6_startsFrom_36 mC ma1 o mt_7 1)
theorem sX6_startsFrom_31 {x : Nat} (hx : x < 1000) {mC : RT} {C : Mem} (hC : (rm x) mC C) {ma1 : Nat} {a1 : Int32} (ha1 : (rv x) ma1 a1) {o : Nat} {mt_7 : (Nat × (Nat × Nat))} {t_7 : (Int32 × (Int32 × Int32))} (ht_7 : (rp (rv x) (rp (rv x) (rv x))) mt_7 t_7) : RZ (RO (rs (rp (rv x) (rp (rv x) (rv x))) (rv x))) (gX6_startsFrom_31 mC ma1 o mt_7) (fX6_startsFrom_31 C a1 o t_7) := by
  unfold gX6_startsFrom_31 fX6_startsFrom_31
  exact (sX6_startsFrom_36 hx hC ha1 ht_7 rl_1)
noncomputable def gX6_startsFrom_7 (mC : RT) (ma1 : Nat) (o : Nat) (mt_7 : (Nat × (Nat × Nat))) : Option ((Nat × (Nat × Nat)) ⊕ Nat) := (tst (vlt (vadd (rd mC o 1) 1) mt_7.2.2) (exM (some mt_7.1)) (tst (veq mt_7.2.1 0) (tst (veq (gX7_holds ma1 mt_7.2.2) 0) (gX6_startsFrom_36 mC ma1 o mt_7 0) (gX6_startsFrom_31 mC ma1 o mt_7)) (gX6_startsFrom_31 mC ma1 o mt_7)))
theorem sX6_startsFrom_7 {x : Nat} (hx : x < 1000) {mC : RT} {C : Mem} (hC : (rm x) mC C) {ma1 : Nat} {a1 : Int32} (ha1 : (rv x) ma1 a1) {o : Nat} {mt_7 : (Nat × (Nat × Nat))} {t_7 : (Int32 × (Int32 × Int32))} (ht_7 : (rp (rv x) (rp (rv x) (rv x))) mt_7 t_7) : RZ (RO (rs (rp (rv x) (rp (rv x) (rv x))) (rv x))) (gX6_startsFrom_7 mC ma1 o mt_7) (fX6_startsFrom_7 C a1 o t_7) := by
  unfold gX6_startsFrom_7 fX6_startsFrom_7
  refine rz_tst (vlt_s hx (vadd_s (rd_s hC _ _) rl_1) (rp_2 (rp_2 ht_7))) ?_ ?_
  · refine rz_ex ?_
    exact rz_some (rp_1 ht_7)
  · refine rz_tst (veq_s hx (rp_1 (rp_2 ht_7)) rl_0) ?_ ?_
    · refine rz_tst (veq_s hx (sX7_holds hx ha1 (rp_2 (rp_2 ht_7))) rl_0) ?_ ?_
      · exact (sX6_startsFrom_36 hx hC ha1 ht_7 rl_0)
      · exact (sX6_startsFrom_31 hx hC ha1 ht_7)
    · exact (sX6_startsFrom_31 hx hC ha1 ht_7)
noncomputable def gX6_startsFrom (mC : RT) (o : Nat) (ma1 : Nat) : Option Nat := (lpM (gX6_startsFrom_7 mC ma1 o) 300 (0, (0, 0)))
theorem sX6_startsFrom {x : Nat} (hx : x < 1000) {mC : RT} {C : Mem} (hC : (rm x) mC C) {o : Nat} {ma1 : Nat} {a1 : Int32} (ha1 : (rv x) ma1 a1) : RZ (RO (rv x)) (gX6_startsFrom mC o ma1) (fX6_startsFrom C o a1) := by
  unfold gX6_startsFrom fX6_startsFrom
  exact rz_lp (PS := (rp (rv x) (rp (rv x) (rv x)))) (fun _ _ hs => sX6_startsFrom_7 hx hC ha1 hs) 300 (rp_m rl_0 (rp_m rl_0 rl_0))
noncomputable def gX6_overLetters_39 (mC : RT) (o : Nat) (mt_4 : (Nat × Nat)) (mx2_39 : Nat) : Option ((Nat × Nat) ⊕ Nat) := (some (.inl (mx2_39, (vadd mt_4.2 1))))
theorem sX6_overLetters_39 {x : Nat} (hx : x < 1000) {mC : RT} {C : Mem} (hC : (rm x) mC C) {o : Nat} {mt_4 : (Nat × Nat)} {t_4 : (Int32 × Int32)} (ht_4 : (rp (rv x) (rv x)) mt_4 t_4) {mx2_39 : Nat} {x2_39 : Int32} (hx2_39 : (rv x) mx2_39 x2_39) : RZ (RO (rs (rp (rv x) (rv x)) (rv x))) (gX6_overLetters_39 mC o mt_4 mx2_39) (fX6_overLetters_39 C o t_4 x2_39) := by
  unfold gX6_overLetters_39 fX6_overLetters_39
  exact rz_some (rs_l (rp_m hx2_39 (vadd_s (rp_2 ht_4) rl_1)))
noncomputable def gX6_overLetters_4 (mC : RT) (o : Nat) (mt_4 : (Nat × Nat)) : Option ((Nat × Nat) ⊕ Nat) := (tst (vnot (vlt mt_4.2 (rd mC o 1))) (exM (some mt_4.1)) (tst (veq (gX7_holds mt_4.1 mt_4.2) 0) (gX6_overLetters_39 mC o mt_4 mt_4.1) (ckM (vin mt_4.2 24) (tst (veq (rd mC (Nat.add o 1) mt_4.2) 47) (gX6_overLetters_39 mC o mt_4 mt_4.1) (nmM (vor mt_4.1 (vshl 1 (vadd mt_4.2 1))) fun mv38_2 => (gX6_overLetters_39 mC o mt_4 mv38_2))))))
theorem sX6_overLetters_4 {x : Nat} (hx : x < 1000) {mC : RT} {C : Mem} (hC : (rm x) mC C) {o : Nat} {mt_4 : (Nat × Nat)} {t_4 : (Int32 × Int32)} (ht_4 : (rp (rv x) (rv x)) mt_4 t_4) : RZ (RO (rs (rp (rv x) (rv x)) (rv x))) (gX6_overLetters_4 mC o mt_4) (fX6_overLetters_4 C o t_4) := by
  unfold gX6_overLetters_4 fX6_overLetters_4
  refine rz_tst (vle_s hx (rd_s hC _ _) (rp_2 ht_4)) ?_ ?_
  · refine rz_ex ?_
    exact rz_some (rp_1 ht_4)
  · refine rz_tst (veq_s hx (sX7_holds hx (rp_1 ht_4) (rp_2 ht_4)) rl_0) ?_ ?_
    · exact (sX6_overLetters_39 hx hC ht_4 (rp_1 ht_4))
    · refine rz_in (x := x) (rp_2 ht_4) (fun e_1 => ?_)
      try rw [e_1]
      refine rz_tst (veq_s hx (rd_s hC _ _) rl_47) ?_ ?_
      · exact (sX6_overLetters_39 hx hC ht_4 (rp_1 ht_4))
      · refine rz_nm (x := x) (vor_s (rp_1 ht_4) (vshl_s rl_1 (vadd_s (rp_2 ht_4) rl_1))) (fun mv38_2 v38_2 hv38_2 => ?_)
        exact (sX6_overLetters_39 hx hC ht_4 hv38_2)
noncomputable def gX6_overLetters (mC : RT) (o : Nat) (ma1 : Nat) : Option Nat := (lpM (gX6_overLetters_4 mC o) 300 (ma1, 0))
theorem sX6_overLetters {x : Nat} (hx : x < 1000) {mC : RT} {C : Mem} (hC : (rm x) mC C) {o : Nat} {ma1 : Nat} {a1 : Int32} (ha1 : (rv x) ma1 a1) : RZ (RO (rv x)) (gX6_overLetters mC o ma1) (fX6_overLetters C o a1) := by
  unfold gX6_overLetters fX6_overLetters
  exact rz_lp (PS := (rp (rv x) (rv x))) (fun _ _ hs => sX6_overLetters_4 hx hC hs) 300 (rp_m ha1 rl_0)
noncomputable def gX6_overSign_79 (mC : RT) (ma1 : Nat) (ma2 : Nat) (o : Nat) (mt_5 : (Nat × Nat)) (mx3_79 : Nat) : Option ((Nat × Nat) ⊕ Nat) := (some (.inl (mx3_79, (vadd mt_5.2 1))))
theorem sX6_overSign_79 {x : Nat} (hx : x < 1000) {mC : RT} {C : Mem} (hC : (rm x) mC C) {ma1 : Nat} {a1 : Int32} (ha1 : (rv x) ma1 a1) {ma2 : Nat} {a2 : Int32} (ha2 : (rv x) ma2 a2) {o : Nat} {mt_5 : (Nat × Nat)} {t_5 : (Int32 × Int32)} (ht_5 : (rp (rv x) (rv x)) mt_5 t_5) {mx3_79 : Nat} {x3_79 : Int32} (hx3_79 : (rv x) mx3_79 x3_79) : RZ (RO (rs (rp (rv x) (rv x)) (rv x))) (gX6_overSign_79 mC ma1 ma2 o mt_5 mx3_79) (fX6_overSign_79 C a1 a2 o t_5 x3_79) := by
  unfold gX6_overSign_79 fX6_overSign_79
  exact rz_some (rs_l (rp_m hx3_79 (vadd_s (rp_2 ht_5) rl_1)))
noncomputable def gX6_overSign_54 (mC : RT) (ma1 : Nat) (ma2 : Nat) (o : Nat) (mt_5 : (Nat × Nat)) (ms0_54 : Nat) : Option ((Nat × Nat) ⊕ Nat) := (tst (veq ms0_54 0) (gX6_overSign_79 mC ma1 ma2 o mt_5 mt_5.1) (tst (veq (gX7_holds ma1 mt_5.2) 0) (gX6_overSign_79 mC ma1 ma2 o mt_5 mt_5.1) (nmM (vor mt_5.1 (vshl 1 (vadd mt_5.2 1))) fun mv78_1 => (gX6_overSign_79 mC ma1 ma2 o mt_5 mv78_1))))
theorem sX6_overSign_54 {x : Nat} (hx : x < 1000) {mC : RT} {C : Mem} (hC : (rm x) mC C) {ma1 : Nat} {a1 : Int32} (ha1 : (rv x) ma1 a1) {ma2 : Nat} {a2 : Int32} (ha2 : (rv x) ma2 a2) {o : Nat} {mt_5 : (Nat × Nat)} {t_5 : (Int32 × Int32)} (ht_5 : (rp (rv x) (rv x)) mt_5 t_5) {ms0_54 : Nat} {s0_54 : Int32} (hs0_54 : (rv x) ms0_54 s0_54) : RZ (RO (rs (rp (rv x) (rv x)) (rv x))) (gX6_overSign_54 mC ma1 ma2 o mt_5 ms0_54) (fX6_overSign_54 C a1 a2 o t_5 s0_54) := by
  unfold gX6_overSign_54 fX6_overSign_54
  refine rz_tst (veq_s hx hs0_54 rl_0) ?_ ?_
  · exact (sX6_overSign_79 hx hC ha1 ha2 ht_5 (rp_1 ht_5))
  · refine rz_tst (veq_s hx (sX7_holds hx ha1 (rp_2 ht_5)) rl_0) ?_ ?_
    · exact (sX6_overSign_79 hx hC ha1 ha2 ht_5 (rp_1 ht_5))
    · refine rz_nm (x := x) (vor_s (rp_1 ht_5) (vshl_s rl_1 (vadd_s (rp_2 ht_5) rl_1))) (fun mv78_1 v78_1 hv78_1 => ?_)
      exact (sX6_overSign_79 hx hC ha1 ha2 ht_5 hv78_1)
noncomputable def gX6_overSign_5 (mC : RT) (ma1 : Nat) (ma2 : Nat) (o : Nat) (mt_5 : (Nat × Nat)) : Option ((Nat × Nat) ⊕ Nat) := (tst (vlt (rd mC o 1) mt_5.2) (exM (some mt_5.1)) (tst (veq ma2 63) (bdM (gX6_signAt mC o mt_5.2) fun mq23_1 => (tst (veq mq23_1 47) (gX6_overSign_54 mC ma1 ma2 o mt_5 0) (gX6_overSign_54 mC ma1 ma2 o mt_5 1))) (bdM (gX6_signAt mC o mt_5.2) fun mq42_2 => (tst (veq mq42_2 ma2) (gX6_overSign_54 mC ma1 ma2 o mt_5 1) (gX6_overSign_54 mC ma1 ma2 o mt_5 0)))))
theorem sX6_overSign_5 {x : Nat} (hx : x < 1000) {mC : RT} {C : Mem} (hC : (rm x) mC C) {ma1 : Nat} {a1 : Int32} (ha1 : (rv x) ma1 a1) {ma2 : Nat} {a2 : Int32} (ha2 : (rv x) ma2 a2) {o : Nat} {mt_5 : (Nat × Nat)} {t_5 : (Int32 × Int32)} (ht_5 : (rp (rv x) (rv x)) mt_5 t_5) : RZ (RO (rs (rp (rv x) (rv x)) (rv x))) (gX6_overSign_5 mC ma1 ma2 o mt_5) (fX6_overSign_5 C a1 a2 o t_5) := by
  unfold gX6_overSign_5 fX6_overSign_5
  refine rz_tst (vlt_s hx (rd_s hC _ _) (rp_2 ht_5)) ?_ ?_
  · refine rz_ex ?_
    exact rz_some (rp_1 ht_5)
  · refine rz_tst (veq_s hx ha2 rl_63) ?_ ?_
    · refine rz_bnd (P := (rv x)) (sX6_signAt hx hC (rp_2 ht_5)) (fun mq23_1 q23_1 hq23_1 => ?_)
      refine rz_tst (veq_s hx hq23_1 rl_47) ?_ ?_
      · exact (sX6_overSign_54 hx hC ha1 ha2 ht_5 rl_0)
      · exact (sX6_overSign_54 hx hC ha1 ha2 ht_5 rl_1)
    · refine rz_bnd (P := (rv x)) (sX6_signAt hx hC (rp_2 ht_5)) (fun mq42_2 q42_2 hq42_2 => ?_)
      refine rz_tst (veq_s hx hq42_2 ha2) ?_ ?_
      · exact (sX6_overSign_54 hx hC ha1 ha2 ht_5 rl_1)
      · exact (sX6_overSign_54 hx hC ha1 ha2 ht_5 rl_0)
noncomputable def gX6_overSign (mC : RT) (o : Nat) (ma1 : Nat) (ma2 : Nat) : Option Nat := (lpM (gX6_overSign_5 mC ma1 ma2 o) 300 (0, 0))
theorem sX6_overSign {x : Nat} (hx : x < 1000) {mC : RT} {C : Mem} (hC : (rm x) mC C) {o : Nat} {ma1 : Nat} {a1 : Int32} (ha1 : (rv x) ma1 a1) {ma2 : Nat} {a2 : Int32} (ha2 : (rv x) ma2 a2) : RZ (RO (rv x)) (gX6_overSign mC o ma1 ma2) (fX6_overSign C o a1 a2) := by
  unfold gX6_overSign fX6_overSign
  exact rz_lp (PS := (rp (rv x) (rv x))) (fun _ _ hs => sX6_overSign_5 hx hC ha1 ha2 hs) 300 (rp_m rl_0 rl_0)
noncomputable def gX6_covers_61 (mC : RT) (o : Nat) (p1 : Nat) (mt_4 : (Nat × Nat)) (ms0_61 : Nat) : Option ((Nat × Nat) ⊕ Nat) := (some (.inl (ms0_61, (vadd mt_4.2 1))))
theorem sX6_covers_61 {x : Nat} (hx : x < 1000) {mC : RT} {C : Mem} (hC : (rm x) mC C) {o : Nat} {p1 : Nat} {mt_4 : (Nat × Nat)} {t_4 : (Int32 × Int32)} (ht_4 : (rp (rv x) (rv x)) mt_4 t_4) {ms0_61 : Nat} {s0_61 : Int32} (hs0_61 : (rv x) ms0_61 s0_61) : RZ (RO (rs (rp (rv x) (rv x)) (rv x))) (gX6_covers_61 mC o p1 mt_4 ms0_61) (fX6_covers_61 C o p1 t_4 s0_61) := by
  unfold gX6_covers_61 fX6_covers_61
  exact rz_some (rs_l (rp_m hs0_61 (vadd_s (rp_2 ht_4) rl_1)))
noncomputable def gX6_covers_4 (mC : RT) (o : Nat) (p1 : Nat) (mt_4 : (Nat × Nat)) : Option ((Nat × Nat) ⊕ Nat) := (tst (vlt (rd mC o 1) mt_4.2) (exM (ckM (vbo (gX7_holds mt_4.1 (vadd (rd mC p1 1) 1))) (some (gX7_holds mt_4.1 (vadd (rd mC p1 1) 1))))) (bdM (gX6_isDoubleStar mC o mt_4.2) fun mq14_1 => (tst (veq mq14_1 0) (bdM (gX6_signAt mC o mt_4.2) fun mq34_2 => (tst (veq mq34_2 42) (bdM (gX6_overLetters mC p1 mt_4.1) fun mq48_3 => (gX6_covers_61 mC o p1 mt_4 mq48_3)) (bdM (gX6_overSign mC p1 mt_4.1 mq34_2) fun mq58_4 => (gX6_covers_61 mC o p1 mt_4 mq58_4)))) (bdM (gX6_startsFrom mC p1 mt_4.1) fun mq22_5 => (some (.inl (mq22_5, (vadd mt_4.2 3))))))))
theorem sX6_covers_4 {x : Nat} (hx : x < 1000) {mC : RT} {C : Mem} (hC : (rm x) mC C) {o : Nat} {p1 : Nat} {mt_4 : (Nat × Nat)} {t_4 : (Int32 × Int32)} (ht_4 : (rp (rv x) (rv x)) mt_4 t_4) : RZ (RO (rs (rp (rv x) (rv x)) (rv x))) (gX6_covers_4 mC o p1 mt_4) (fX6_covers_4 C o p1 t_4) := by
  unfold gX6_covers_4 fX6_covers_4
  refine rz_tst (vlt_s hx (rd_s hC _ _) (rp_2 ht_4)) ?_ ?_
  · refine rz_ex ?_
    refine rz_ck (vbo_s (x := x) (sX7_holds hx (rp_1 ht_4) (vadd_s (rd_s hC _ _) rl_1))) ?_
    exact rz_some (sX7_holds hx (rp_1 ht_4) (vadd_s (rd_s hC _ _) rl_1))
  · refine rz_bnd (P := (rv x)) (sX6_isDoubleStar hx hC (rp_2 ht_4)) (fun mq14_1 q14_1 hq14_1 => ?_)
    refine rz_tst (veq_s hx hq14_1 rl_0) ?_ ?_
    · refine rz_bnd (P := (rv x)) (sX6_signAt hx hC (rp_2 ht_4)) (fun mq34_2 q34_2 hq34_2 => ?_)
      refine rz_tst (veq_s hx hq34_2 rl_42) ?_ ?_
      · refine rz_bnd (P := (rv x)) (sX6_overLetters hx hC (rp_1 ht_4)) (fun mq48_3 q48_3 hq48_3 => ?_)
        exact (sX6_covers_61 hx hC ht_4 hq48_3)
      · refine rz_bnd (P := (rv x)) (sX6_overSign hx hC (rp_1 ht_4) hq34_2) (fun mq58_4 q58_4 hq58_4 => ?_)
        exact (sX6_covers_61 hx hC ht_4 hq58_4)
    · refine rz_bnd (P := (rv x)) (sX6_startsFrom hx hC (rp_1 ht_4)) (fun mq22_5 q22_5 hq22_5 => ?_)
      exact rz_some (rs_l (rp_m hq22_5 (vadd_s (rp_2 ht_4) rl_3)))
noncomputable def gX6_covers (mC : RT) (o : Nat) (p1 : Nat) : Option Nat := (lpM (gX6_covers_4 mC o p1) 300 (1, 0))
theorem sX6_covers {x : Nat} (hx : x < 1000) {mC : RT} {C : Mem} (hC : (rm x) mC C) {o : Nat} {p1 : Nat} : RZ (RO (rv x)) (gX6_covers mC o p1) (fX6_covers C o p1) := by
  unfold gX6_covers fX6_covers
  exact rz_lp (PS := (rp (rv x) (rv x))) (fun _ _ hs => sX6_covers_4 hx hC hs) 300 (rp_m rl_1 rl_0)
