noncomputable def gX0_numberOf_2 (mC : RT) (p1 : Nat) (mt_2 : Nat) : Option (Nat ⊕ Nat) := (tst (vnot (vlt mt_2 (rd mC 3 3))) (exM (some 4294967295)) (ckM (vin mt_2 24) (bdM (gX6_isSameAs mC (Nat.add 7 (Nat.mul 2 mt_2)) p1) fun mq17_2 => (tst (veq mq17_2 0) (some (.inl (vadd mt_2 1))) (exM (some mt_2))))))
theorem sX0_numberOf_2 {x : Nat} (hx : x < 1000) {mC : RT} {C : Mem} (hC : (rm x) mC C) {p1 : Nat} {mt_2 : Nat} {t_2 : Int32} (ht_2 : (rv x) mt_2 t_2) : RZ (RO (rs (rv x) (rv x))) (gX0_numberOf_2 mC p1 mt_2) (fX0_numberOf_2 C p1 t_2) := by
  unfold gX0_numberOf_2 fX0_numberOf_2
  refine rz_tst (vle_s hx (rd_s hC _ _) ht_2) ?_ ?_
  · refine rz_ex ?_
    exact rz_some rl_m1
  · refine rz_in (x := x) ht_2 (fun e_1 => ?_)
    try rw [e_1]
    refine rz_bnd (P := (rv x)) (sX6_isSameAs hx hC) (fun mq17_2 q17_2 hq17_2 => ?_)
    refine rz_tst (veq_s hx hq17_2 rl_0) ?_ ?_
    · exact rz_some (rs_l (vadd_s ht_2 rl_1))
    · refine rz_ex ?_
      exact rz_some ht_2
noncomputable def gX0_numberOf (mC : RT) (p1 : Nat) : Option Nat := (lpM (gX0_numberOf_2 mC p1) 300 0)
theorem sX0_numberOf {x : Nat} (hx : x < 1000) {mC : RT} {C : Mem} (hC : (rm x) mC C) {p1 : Nat} : RZ (RO (rv x)) (gX0_numberOf mC p1) (fX0_numberOf C p1) := by
  unfold gX0_numberOf fX0_numberOf
  exact rz_lp (PS := (rv x)) (fun _ _ hs => sX0_numberOf_2 hx hC hs) 300 rl_0
noncomputable def gX0_has_16 (mC : RT) : Nat := 0
theorem sX0_has_16 {x : Nat} (hx : x < 1000) {mC : RT} {C : Mem} (hC : (rm x) mC C) : rv x (gX0_has_16 mC) (fX0_has_16 C) := by
  unfold gX0_has_16 fX0_has_16
  exact rl_0
noncomputable def gX0_has (mC : RT) (ma1 : Nat) : Nat := (tsv (vlt ma1 0) (gX0_has_16 mC) (tsv (vnot (vlt ma1 (rd mC 3 3))) (gX0_has_16 mC) 1))
theorem sX0_has {x : Nat} (hx : x < 1000) {mC : RT} {C : Mem} (hC : (rm x) mC C) {ma1 : Nat} {a1 : Int32} (ha1 : (rv x) ma1 a1) : rv x (gX0_has mC ma1) (fX0_has C a1) := by
  unfold gX0_has fX0_has
  exact (rv_ts (vlt_s hx ha1 rl_0) (sX0_has_16 hx hC) (rv_ts (vle_s hx (rd_s hC _ _) ha1) (sX0_has_16 hx hC) rl_1))
noncomputable def gX0_isThere_23 (mC : RT) : Nat := 0
theorem sX0_isThere_23 {x : Nat} (hx : x < 1000) {mC : RT} {C : Mem} (hC : (rm x) mC C) : rv x (gX0_isThere_23 mC) (fX0_isThere_23 C) := by
  unfold gX0_isThere_23 fX0_isThere_23
  exact rl_0
noncomputable def gX0_isThere (mC : RT) (ma1 : Nat) : Nat := (tsv (veq (gX0_has mC ma1) 0) (gX0_isThere_23 mC) (tsv (veq (gX7_holds (rd mC 3 4) ma1) 0) (gX0_isThere_23 mC) 1))
theorem sX0_isThere {x : Nat} (hx : x < 1000) {mC : RT} {C : Mem} (hC : (rm x) mC C) {ma1 : Nat} {a1 : Int32} (ha1 : (rv x) ma1 a1) : rv x (gX0_isThere mC ma1) (fX0_isThere C a1) := by
  unfold gX0_isThere fX0_isThere
  exact (rv_ts (veq_s hx (sX0_has hx hC ha1) rl_0) (sX0_isThere_23 hx hC) (rv_ts (veq_s hx (sX7_holds hx (rd_s hC _ _) ha1) rl_0) (sX0_isThere_23 hx hC) rl_1))
noncomputable def gX0_isFull (mC : RT) : Nat := (tsv (vlt (rd mC 3 3) 24) 0 1)
theorem sX0_isFull {x : Nat} (hx : x < 1000) {mC : RT} {C : Mem} (hC : (rm x) mC C) : rv x (gX0_isFull mC) (fX0_isFull C) := by
  unfold gX0_isFull fX0_isFull
  exact (rv_ts (vlt_s hx (rd_s hC _ _) rl_24) rl_0 rl_1)
noncomputable def gX0_addPath (mC : RT) (p1 : Nat) : Option (Nat × RT) := (nmM (rd mC 3 3) fun mv4_1 => (ckM (vin mv4_1 24) (bdM (gX6_copyFrom mC (Nat.add 7 (Nat.mul 2 mv4_1)) p1) fun mq12_3 => (some (mv4_1, (wr mq12_3 3 3 (vadd (rd mq12_3 3 3) 1)))))))
theorem sX0_addPath {x : Nat} (hx : x < 1000) {mC : RT} {C : Mem} (hC : (rm x) mC C) {p1 : Nat} : RZ (RO (rp (rv x) (rm x))) (gX0_addPath mC p1) (fX0_addPath C p1) := by
  unfold gX0_addPath fX0_addPath
  refine rz_nm (x := x) (rd_s hC _ _) (fun mv4_1 v4_1 hv4_1 => ?_)
  refine rz_in (x := x) hv4_1 (fun e_2 => ?_)
  try rw [e_2]
  refine rz_bnd (P := (rm x)) (sX6_copyFrom hx hC) (fun mq12_3 q12_3 hq12_3 => ?_)
  exact rz_some (rp_m hv4_1 (wr_s hq12_3 _ _ (vadd_s (rd_s hq12_3 _ _) rl_1)))
noncomputable def gX0_put (mC : RT) (ma1 : Nat) (ma2 : Nat) : Option RT := (ckM (vin ma1 24) (some (wr (wr mC 5 ma1 ma2) 3 4 (vor (rd (wr mC 5 ma1 ma2) 3 4) (vshl 1 ma1)))))
theorem sX0_put {x : Nat} (hx : x < 1000) {mC : RT} {C : Mem} (hC : (rm x) mC C) {ma1 : Nat} {a1 : Int32} (ha1 : (rv x) ma1 a1) {ma2 : Nat} {a2 : Int32} (ha2 : (rv x) ma2 a2) : RZ (RO (rm x)) (gX0_put mC ma1 ma2) (fX0_put C a1 a2) := by
  unfold gX0_put fX0_put
  refine rz_in (x := x) ha1 (fun e_1 => ?_)
  try rw [e_1]
  exact rz_some (wr_s (wr_s hC _ _ ha2) _ _ (vor_s (rd_s (wr_s hC _ _ ha2) _ _) (vshl_s rl_1 ha1)))
noncomputable def gX0_contentOf (mC : RT) (ma1 : Nat) : Option Nat := (ckM (vin ma1 24) (some (rd mC 5 ma1)))
theorem sX0_contentOf {x : Nat} (hx : x < 1000) {mC : RT} {C : Mem} (hC : (rm x) mC C) {ma1 : Nat} {a1 : Int32} (ha1 : (rv x) ma1 a1) : RZ (RO (rv x)) (gX0_contentOf mC ma1) (fX0_contentOf C a1) := by
  unfold gX0_contentOf fX0_contentOf
  refine rz_in (x := x) ha1 (fun e_1 => ?_)
  try rw [e_1]
  exact rz_some (rd_s hC _ _)
noncomputable def gX0_remove (mC : RT) (ma1 : Nat) : Option RT := (some (wr mC 3 4 (vand (rd mC 3 4) (vxor (vshl 1 ma1) 4294967295))))
theorem sX0_remove {x : Nat} (hx : x < 1000) {mC : RT} {C : Mem} (hC : (rm x) mC C) {ma1 : Nat} {a1 : Int32} (ha1 : (rv x) ma1 a1) : RZ (RO (rm x)) (gX0_remove mC ma1) (fX0_remove C a1) := by
  unfold gX0_remove fX0_remove
  exact rz_some (wr_s hC _ _ (vand_s (rd_s hC _ _) (vxor_s (vshl_s rl_1 ha1) rl_m1)))
noncomputable def gX0_pathOf (mC : RT) (ma1 : Nat) : Option Nat := (ckM (vin ma1 24) (some (Nat.add 7 (Nat.mul 2 ma1))))
theorem sX0_pathOf {x : Nat} (hx : x < 1000) {mC : RT} {C : Mem} (hC : (rm x) mC C) {ma1 : Nat} {a1 : Int32} (ha1 : (rv x) ma1 a1) : RZ (RO (@Eq Nat)) (gX0_pathOf mC ma1) (fX0_pathOf C a1) := by
  unfold gX0_pathOf fX0_pathOf
  refine rz_in (x := x) ha1 (fun e_1 => ?_)
  try rw [e_1]
  exact rz_some (Eq.refl _)
noncomputable def gX0_coveredBy_31 (mC : RT) (p1 : Nat) (mt_4 : (Nat × Nat)) (mx2_31 : Nat) : Option ((Nat × Nat) ⊕ Nat) := (some (.inl (mx2_31, (vadd mt_4.2 1))))
theorem sX0_coveredBy_31 {x : Nat} (hx : x < 1000) {mC : RT} {C : Mem} (hC : (rm x) mC C) {p1 : Nat} {mt_4 : (Nat × Nat)} {t_4 : (Int32 × Int32)} (ht_4 : (rp (rv x) (rv x)) mt_4 t_4) {mx2_31 : Nat} {x2_31 : Int32} (hx2_31 : (rv x) mx2_31 x2_31) : RZ (RO (rs (rp (rv x) (rv x)) (rv x))) (gX0_coveredBy_31 mC p1 mt_4 mx2_31) (fX0_coveredBy_31 C p1 t_4 x2_31) := by
  unfold gX0_coveredBy_31 fX0_coveredBy_31
  exact rz_some (rs_l (rp_m hx2_31 (vadd_s (rp_2 ht_4) rl_1)))
noncomputable def gX0_coveredBy_4 (mC : RT) (p1 : Nat) (mt_4 : (Nat × Nat)) : Option ((Nat × Nat) ⊕ Nat) := (tst (vnot (vlt mt_4.2 (rd mC 3 3))) (exM (some mt_4.1)) (ckM (vin mt_4.2 24) (bdM (gX6_covers mC p1 (Nat.add 7 (Nat.mul 2 mt_4.2))) fun mq19_2 => (tst (veq mq19_2 0) (gX0_coveredBy_31 mC p1 mt_4 mt_4.1) (nmM (vor mt_4.1 (vshl 1 mt_4.2)) fun mv30_3 => (gX0_coveredBy_31 mC p1 mt_4 mv30_3))))))
theorem sX0_coveredBy_4 {x : Nat} (hx : x < 1000) {mC : RT} {C : Mem} (hC : (rm x) mC C) {p1 : Nat} {mt_4 : (Nat × Nat)} {t_4 : (Int32 × Int32)} (ht_4 : (rp (rv x) (rv x)) mt_4 t_4) : RZ (RO (rs (rp (rv x) (rv x)) (rv x))) (gX0_coveredBy_4 mC p1 mt_4) (fX0_coveredBy_4 C p1 t_4) := by
  unfold gX0_coveredBy_4 fX0_coveredBy_4
  refine rz_tst (vle_s hx (rd_s hC _ _) (rp_2 ht_4)) ?_ ?_
  · refine rz_ex ?_
    exact rz_some (rp_1 ht_4)
  · refine rz_in (x := x) (rp_2 ht_4) (fun e_1 => ?_)
    try rw [e_1]
    refine rz_bnd (P := (rv x)) (sX6_covers hx hC) (fun mq19_2 q19_2 hq19_2 => ?_)
    refine rz_tst (veq_s hx hq19_2 rl_0) ?_ ?_
    · exact (sX0_coveredBy_31 hx hC ht_4 (rp_1 ht_4))
    · refine rz_nm (x := x) (vor_s (rp_1 ht_4) (vshl_s rl_1 (rp_2 ht_4))) (fun mv30_3 v30_3 hv30_3 => ?_)
      exact (sX0_coveredBy_31 hx hC ht_4 hv30_3)
noncomputable def gX0_coveredBy (mC : RT) (p1 : Nat) : Option Nat := (lpM (gX0_coveredBy_4 mC p1) 300 (0, 0))
theorem sX0_coveredBy {x : Nat} (hx : x < 1000) {mC : RT} {C : Mem} (hC : (rm x) mC C) {p1 : Nat} : RZ (RO (rv x)) (gX0_coveredBy mC p1) (fX0_coveredBy C p1) := by
  unfold gX0_coveredBy fX0_coveredBy
  exact rz_lp (PS := (rp (rv x) (rv x))) (fun _ _ hs => sX0_coveredBy_4 hx hC hs) 300 (rp_m rl_0 rl_0)
noncomputable def gX0_present (mC : RT) : Nat := (rd mC 3 4)
theorem sX0_present {x : Nat} (hx : x < 1000) {mC : RT} {C : Mem} (hC : (rm x) mC C) : rv x (gX0_present mC) (fX0_present C) := by
  unfold gX0_present fX0_present
  exact (rd_s hC _ _)
noncomputable def gX0_sinceMark_57 (mC : RT) (mt_12 : (Nat × Nat)) (mx1_57 : Nat) : Option ((Nat × Nat) ⊕ Nat) := (some (.inl (mx1_57, (vadd mt_12.2 1))))
theorem sX0_sinceMark_57 {x : Nat} (hx : x < 1000) {mC : RT} {C : Mem} (hC : (rm x) mC C) {mt_12 : (Nat × Nat)} {t_12 : (Int32 × Int32)} (ht_12 : (rp (rv x) (rv x)) mt_12 t_12) {mx1_57 : Nat} {x1_57 : Int32} (hx1_57 : (rv x) mx1_57 x1_57) : RZ (RO (rs (rp (rv x) (rv x)) (rv x))) (gX0_sinceMark_57 mC mt_12 mx1_57) (fX0_sinceMark_57 C t_12 x1_57) := by
  unfold gX0_sinceMark_57 fX0_sinceMark_57
  exact rz_some (rs_l (rp_m hx1_57 (vadd_s (rp_2 ht_12) rl_1)))
noncomputable def gX0_sinceMark_12 (mC : RT) (mt_12 : (Nat × Nat)) : Option ((Nat × Nat) ⊕ Nat) := (tst (vnot (vlt mt_12.2 (rd mC 3 3))) (exM (some mt_12.1)) (tst (veq (gX7_holds (vand (rd mC 3 4) (rd mC 3 5)) mt_12.2) 0) (gX0_sinceMark_57 mC mt_12 mt_12.1) (ckM (vin mt_12.2 24) (ckM (vin mt_12.2 24) (tst (veq (rd mC 5 mt_12.2) (rd mC 6 mt_12.2)) (gX0_sinceMark_57 mC mt_12 mt_12.1) (nmM (vor mt_12.1 (vshl 1 mt_12.2)) fun mv56_3 => (gX0_sinceMark_57 mC mt_12 mv56_3)))))))
theorem sX0_sinceMark_12 {x : Nat} (hx : x < 1000) {mC : RT} {C : Mem} (hC : (rm x) mC C) {mt_12 : (Nat × Nat)} {t_12 : (Int32 × Int32)} (ht_12 : (rp (rv x) (rv x)) mt_12 t_12) : RZ (RO (rs (rp (rv x) (rv x)) (rv x))) (gX0_sinceMark_12 mC mt_12) (fX0_sinceMark_12 C t_12) := by
  unfold gX0_sinceMark_12 fX0_sinceMark_12
  refine rz_tst (vle_s hx (rd_s hC _ _) (rp_2 ht_12)) ?_ ?_
  · refine rz_ex ?_
    exact rz_some (rp_1 ht_12)
  · refine rz_tst (veq_s hx (sX7_holds hx (vand_s (rd_s hC _ _) (rd_s hC _ _)) (rp_2 ht_12)) rl_0) ?_ ?_
    · exact (sX0_sinceMark_57 hx hC ht_12 (rp_1 ht_12))
    · refine rz_in (x := x) (rp_2 ht_12) (fun e_1 => ?_)
      try rw [e_1]
      refine rz_in (x := x) (rp_2 ht_12) (fun e_2 => ?_)
      try rw [e_2]
      refine rz_tst (veq_s hx (rd_s hC _ _) (rd_s hC _ _)) ?_ ?_
      · exact (sX0_sinceMark_57 hx hC ht_12 (rp_1 ht_12))
      · refine rz_nm (x := x) (vor_s (rp_1 ht_12) (vshl_s rl_1 (rp_2 ht_12))) (fun mv56_3 v56_3 hv56_3 => ?_)
        exact (sX0_sinceMark_57 hx hC ht_12 hv56_3)
noncomputable def gX0_sinceMark (mC : RT) : Option Nat := (nmM (vxor (rd mC 3 4) (rd mC 3 5)) fun mv9_1 => (lpM (gX0_sinceMark_12 mC) 300 (mv9_1, 0)))
theorem sX0_sinceMark {x : Nat} (hx : x < 1000) {mC : RT} {C : Mem} (hC : (rm x) mC C) : RZ (RO (rv x)) (gX0_sinceMark mC) (fX0_sinceMark C) := by
  unfold gX0_sinceMark fX0_sinceMark
  refine rz_nm (x := x) (vxor_s (rd_s hC _ _) (rd_s hC _ _)) (fun mv9_1 v9_1 hv9_1 => ?_)
  exact rz_lp (PS := (rp (rv x) (rv x))) (fun _ _ hs => sX0_sinceMark_12 hx hC hs) 300 (rp_m hv9_1 rl_0)
noncomputable def gX0_keepMark (mC : RT) : Option RT := (some (cpM (wr mC 3 5 (rd mC 3 4)) 5 6 24))
theorem sX0_keepMark {x : Nat} (hx : x < 1000) {mC : RT} {C : Mem} (hC : (rm x) mC C) : RZ (RO (rm x)) (gX0_keepMark mC) (fX0_keepMark C) := by
  unfold gX0_keepMark fX0_keepMark
  exact rz_some (cpM_s (wr_s hC _ _ (rd_s hC _ _)) (by decide) _ 24 (by decide) (by decide) (by decide))
