noncomputable def gX1_meetFile_35 (ma1 : Nat) (o : Nat) (p2 : Nat) (mt_2 : (RT × Nat)) (mC_35 : RT) : Option ((RT × Nat) ⊕ RT) := (some (.inl (mC_35, (vadd mt_2.2 1))))
theorem sX1_meetFile_35 {x : Nat} (hx : x < 1000) {ma1 : Nat} {a1 : Int32} (ha1 : (rv x) ma1 a1) {o : Nat} {p2 : Nat} {mt_2 : (RT × Nat)} {t_2 : (Mem × Int32)} (ht_2 : (rp (rm x) (rv x)) mt_2 t_2) {mC_35 : RT} {C_35 : Mem} (hC_35 : (rm x) mC_35 C_35) : RZ (RO (rs (rp (rm x) (rv x)) (rm x))) (gX1_meetFile_35 ma1 o p2 mt_2 mC_35) (fX1_meetFile_35 a1 o p2 t_2 C_35) := by
  unfold gX1_meetFile_35 fX1_meetFile_35
  exact rz_some (rs_l (rp_m hC_35 (vadd_s (rp_2 ht_2) rl_1)))
noncomputable def gX1_meetFile_2 (ma1 : Nat) (o : Nat) (p2 : Nat) (mt_2 : (RT × Nat)) : Option ((RT × Nat) ⊕ RT) := (tst (vnot (vlt mt_2.2 (rd mt_2.1 o 3))) (exM (some mt_2.1)) (ckM (vin mt_2.2 (ln o)) (bdM (gX6_covers mt_2.1 (Nat.add (Nat.add o 3) (Nat.mul 2 mt_2.2)) p2) fun mq17_2 => (tst (veq mq17_2 0) (gX1_meetFile_35 ma1 o p2 mt_2 mt_2.1) (ckM (vin mt_2.2 (ln o)) (ckM (vin mt_2.2 (ln o)) (gX1_meetFile_35 ma1 o p2 mt_2 (wr mt_2.1 (Nat.add o 2) mt_2.2 (vor (rd mt_2.1 (Nat.add o 2) mt_2.2) (vshl 1 ma1))))))))))
theorem sX1_meetFile_2 {x : Nat} (hx : x < 1000) {ma1 : Nat} {a1 : Int32} (ha1 : (rv x) ma1 a1) {o : Nat} {p2 : Nat} {mt_2 : (RT × Nat)} {t_2 : (Mem × Int32)} (ht_2 : (rp (rm x) (rv x)) mt_2 t_2) : RZ (RO (rs (rp (rm x) (rv x)) (rm x))) (gX1_meetFile_2 ma1 o p2 mt_2) (fX1_meetFile_2 a1 o p2 t_2) := by
  unfold gX1_meetFile_2 fX1_meetFile_2
  refine rz_tst (vle_s hx (rd_s (rp_1 ht_2) _ _) (rp_2 ht_2)) ?_ ?_
  · refine rz_ex ?_
    exact rz_some (rp_1 ht_2)
  · refine rz_in (x := x) (rp_2 ht_2) (fun e_1 => ?_)
    try rw [e_1]
    refine rz_bnd (P := (rv x)) (sX6_covers hx (rp_1 ht_2)) (fun mq17_2 q17_2 hq17_2 => ?_)
    refine rz_tst (veq_s hx hq17_2 rl_0) ?_ ?_
    · exact (sX1_meetFile_35 hx ha1 ht_2 (rp_1 ht_2))
    · refine rz_in (x := x) (rp_2 ht_2) (fun e_3 => ?_)
      try rw [e_3]
      refine rz_in (x := x) (rp_2 ht_2) (fun e_4 => ?_)
      try rw [e_4]
      exact (sX1_meetFile_35 hx ha1 ht_2 (wr_s (rp_1 ht_2) _ _ (vor_s (rd_s (rp_1 ht_2) _ _) (vshl_s rl_1 ha1))))
noncomputable def gX1_meetFile (mC : RT) (o : Nat) (ma1 : Nat) (p2 : Nat) : Option RT := (lpM (gX1_meetFile_2 ma1 o p2) 300 (mC, 0))
theorem sX1_meetFile {x : Nat} (hx : x < 1000) {mC : RT} {C : Mem} (hC : (rm x) mC C) {o : Nat} {ma1 : Nat} {a1 : Int32} (ha1 : (rv x) ma1 a1) {p2 : Nat} : RZ (RO (rm x)) (gX1_meetFile mC o ma1 p2) (fX1_meetFile C o a1 p2) := by
  unfold gX1_meetFile fX1_meetFile
  exact rz_lp (PS := (rp (rm x) (rv x))) (fun _ _ hs => sX1_meetFile_2 hx ha1 hs) 300 (rp_m hC rl_0)
noncomputable def gX1_isFull (mC : RT) (o : Nat) : Nat := (tsv (vlt (rd mC o 3) (rd mC o 2)) 0 1)
theorem sX1_isFull {x : Nat} (hx : x < 1000) {mC : RT} {C : Mem} (hC : (rm x) mC C) {o : Nat} : rv x (gX1_isFull mC o) (fX1_isFull C o) := by
  unfold gX1_isFull fX1_isFull
  exact (rv_ts (vlt_s hx (rd_s hC _ _) (rd_s hC _ _)) rl_0 rl_1)
noncomputable def gX1_add (mC : RT) (o : Nat) (p1 : Nat) (ma2 : Nat) : Option RT := (ckM (vin (rd mC o 3) (ln o)) (bdM (gX6_copyFrom mC (Nat.add (Nat.add o 3) (Nat.mul 2 (rd mC o 3))) p1) fun mq10_2 => (ckM (vin (rd mq10_2 o 3) (ln o)) (some (wr (wr mq10_2 (Nat.add o 2) (rd mq10_2 o 3) ma2) o 3 (vadd (rd (wr mq10_2 (Nat.add o 2) (rd mq10_2 o 3) ma2) o 3) 1))))))
theorem sX1_add {x : Nat} (hx : x < 1000) {mC : RT} {C : Mem} (hC : (rm x) mC C) {o : Nat} {p1 : Nat} {ma2 : Nat} {a2 : Int32} (ha2 : (rv x) ma2 a2) : RZ (RO (rm x)) (gX1_add mC o p1 ma2) (fX1_add C o p1 a2) := by
  unfold gX1_add fX1_add
  refine rz_in (x := x) (rd_s hC _ _) (fun e_1 => ?_)
  try rw [e_1]
  refine rz_bnd (P := (rm x)) (sX6_copyFrom hx hC) (fun mq10_2 q10_2 hq10_2 => ?_)
  refine rz_in (x := x) (rd_s hq10_2 _ _) (fun e_3 => ?_)
  try rw [e_3]
  exact rz_some (wr_s (wr_s hq10_2 _ _ ha2) _ _ (vadd_s (rd_s (wr_s hq10_2 _ _ ha2) _ _) rl_1))
noncomputable def gX1_covered_4 (mC : RT) (o : Nat) (mt_4 : (Nat × Nat)) : Option ((Nat × Nat) ⊕ Nat) := (tst (vnot (vlt mt_4.2 (rd mC o 3))) (exM (some mt_4.1)) (ckM (vin mt_4.2 (ln o)) (nmM (vor mt_4.1 (rd mC (Nat.add o 2) mt_4.2)) fun mv20_2 => (some (.inl (mv20_2, (vadd mt_4.2 1)))))))
theorem sX1_covered_4 {x : Nat} (hx : x < 1000) {mC : RT} {C : Mem} (hC : (rm x) mC C) {o : Nat} {mt_4 : (Nat × Nat)} {t_4 : (Int32 × Int32)} (ht_4 : (rp (rv x) (rv x)) mt_4 t_4) : RZ (RO (rs (rp (rv x) (rv x)) (rv x))) (gX1_covered_4 mC o mt_4) (fX1_covered_4 C o t_4) := by
  unfold gX1_covered_4 fX1_covered_4
  refine rz_tst (vle_s hx (rd_s hC _ _) (rp_2 ht_4)) ?_ ?_
  · refine rz_ex ?_
    exact rz_some (rp_1 ht_4)
  · refine rz_in (x := x) (rp_2 ht_4) (fun e_1 => ?_)
    try rw [e_1]
    refine rz_nm (x := x) (vor_s (rp_1 ht_4) (rd_s hC _ _)) (fun mv20_2 v20_2 hv20_2 => ?_)
    exact rz_some (rs_l (rp_m hv20_2 (vadd_s (rp_2 ht_4) rl_1)))
noncomputable def gX1_covered (mC : RT) (o : Nat) : Option Nat := (lpM (gX1_covered_4 mC o) 300 (0, 0))
theorem sX1_covered {x : Nat} (hx : x < 1000) {mC : RT} {C : Mem} (hC : (rm x) mC C) {o : Nat} : RZ (RO (rv x)) (gX1_covered mC o) (fX1_covered C o) := by
  unfold gX1_covered fX1_covered
  exact rz_lp (PS := (rp (rv x) (rv x))) (fun _ _ hs => sX1_covered_4 hx hC hs) 300 (rp_m rl_0 rl_0)
noncomputable def gX1_size (mC : RT) (o : Nat) : Nat := (rd mC o 3)
theorem sX1_size {x : Nat} (hx : x < 1000) {mC : RT} {C : Mem} (hC : (rm x) mC C) {o : Nat} : rv x (gX1_size mC o) (fX1_size C o) := by
  unfold gX1_size fX1_size
  exact (rd_s hC _ _)
noncomputable def gX1_latestCovering_7 (mC : RT) (ma1 : Nat) (o : Nat) (mt_7 : Nat) : Option (Nat ⊕ Nat) := (tst (vlt mt_7 0) (exM (some 4294967295)) (ckM (vin mt_7 (ln o)) (tst (veq (gX7_holds (rd mC (Nat.add o 2) mt_7) ma1) 0) (some (.inl (vadd mt_7 4294967295))) (exM (some mt_7)))))
theorem sX1_latestCovering_7 {x : Nat} (hx : x < 1000) {mC : RT} {C : Mem} (hC : (rm x) mC C) {ma1 : Nat} {a1 : Int32} (ha1 : (rv x) ma1 a1) {o : Nat} {mt_7 : Nat} {t_7 : Int32} (ht_7 : (rv x) mt_7 t_7) : RZ (RO (rs (rv x) (rv x))) (gX1_latestCovering_7 mC ma1 o mt_7) (fX1_latestCovering_7 C a1 o t_7) := by
  unfold gX1_latestCovering_7 fX1_latestCovering_7
  refine rz_tst (vlt_s hx ht_7 rl_0) ?_ ?_
  · refine rz_ex ?_
    exact rz_some rl_m1
  · refine rz_in (x := x) ht_7 (fun e_1 => ?_)
    try rw [e_1]
    refine rz_tst (veq_s hx (sX7_holds hx (rd_s hC _ _) ha1) rl_0) ?_ ?_
    · exact rz_some (rs_l (vadd_s ht_7 rl_m1))
    · refine rz_ex ?_
      exact rz_some ht_7
noncomputable def gX1_latestCovering (mC : RT) (o : Nat) (ma1 : Nat) : Option Nat := (nmM (vsub (rd mC o 3) 1) fun mv6_1 => (lpM (gX1_latestCovering_7 mC ma1 o) 300 mv6_1))
theorem sX1_latestCovering {x : Nat} (hx : x < 1000) {mC : RT} {C : Mem} (hC : (rm x) mC C) {o : Nat} {ma1 : Nat} {a1 : Int32} (ha1 : (rv x) ma1 a1) : RZ (RO (rv x)) (gX1_latestCovering mC o ma1) (fX1_latestCovering C o a1) := by
  unfold gX1_latestCovering fX1_latestCovering
  refine rz_nm (x := x) (vsub_s (rd_s hC _ _) rl_1) (fun mv6_1 v6_1 hv6_1 => ?_)
  exact rz_lp (PS := (rv x)) (fun _ _ hs => sX1_latestCovering_7 hx hC ha1 hs) 300 hv6_1
