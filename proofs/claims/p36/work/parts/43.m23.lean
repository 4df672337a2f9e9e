noncomputable def gX2_meetFile_2 (ma1 : Nat) (p2 : Nat) (mt_2 : (RT × Nat)) : Option ((RT × Nat) ⊕ RT) := (tst (vnot (vlt mt_2.2 (rd mt_2.1 55 4))) (exM (some mt_2.1)) (ckM (vin mt_2.2 16) (bdM (gX1_meetFile mt_2.1 (Nat.add 60 (Nat.mul 11 mt_2.2)) ma1 p2) fun mq18_2 => (some (.inl (mq18_2, (vadd mt_2.2 1)))))))
theorem sX2_meetFile_2 {x : Nat} (hx : x < 1000) {ma1 : Nat} {a1 : Int32} (ha1 : (rv x) ma1 a1) {p2 : Nat} {mt_2 : (RT × Nat)} {t_2 : (Mem × Int32)} (ht_2 : (rp (rm x) (rv x)) mt_2 t_2) : RZ (RO (rs (rp (rm x) (rv x)) (rm x))) (gX2_meetFile_2 ma1 p2 mt_2) (fX2_meetFile_2 a1 p2 t_2) := by
  unfold gX2_meetFile_2 fX2_meetFile_2
  refine rz_tst (vle_s hx (rd_s (rp_1 ht_2) _ _) (rp_2 ht_2)) ?_ ?_
  · refine rz_ex ?_
    exact rz_some (rp_1 ht_2)
  · refine rz_in (x := x) (rp_2 ht_2) (fun e_1 => ?_)
    try rw [e_1]
    refine rz_bnd (P := (rm x)) (sX1_meetFile hx (rp_1 ht_2) ha1) (fun mq18_2 q18_2 hq18_2 => ?_)
    exact rz_some (rs_l (rp_m hq18_2 (vadd_s (rp_2 ht_2) rl_1)))
noncomputable def gX2_meetFile (mC : RT) (ma1 : Nat) (p2 : Nat) : Option RT := (lpM (gX2_meetFile_2 ma1 p2) 300 (mC, 0))
theorem sX2_meetFile {x : Nat} (hx : x < 1000) {mC : RT} {C : Mem} (hC : (rm x) mC C) {ma1 : Nat} {a1 : Int32} (ha1 : (rv x) ma1 a1) {p2 : Nat} : RZ (RO (rm x)) (gX2_meetFile mC ma1 p2) (fX2_meetFile C a1 p2) := by
  unfold gX2_meetFile fX2_meetFile
  exact rz_lp (PS := (rp (rm x) (rv x))) (fun _ _ hs => sX2_meetFile_2 hx ha1 hs) 300 (rp_m hC rl_0)
noncomputable def gX2_isFull (mC : RT) : Nat := (tsv (vlt (rd mC 55 4) 16) 0 1)
theorem sX2_isFull {x : Nat} (hx : x < 1000) {mC : RT} {C : Mem} (hC : (rm x) mC C) : rv x (gX2_isFull mC) (fX2_isFull C) := by
  unfold gX2_isFull fX2_isFull
  exact (rv_ts (vlt_s hx (rd_s hC _ _) rl_16) rl_0 rl_1)
noncomputable def gX2_add (mC : RT) (ma1 : Nat) : Option (Nat × RT) := (nmM (rd mC 55 4) fun mv4_1 => (ckM (vin mv4_1 16) (some (mv4_1, (wr (wr mC 56 mv4_1 ma1) 55 4 (vadd (rd (wr mC 56 mv4_1 ma1) 55 4) 1))))))
theorem sX2_add {x : Nat} (hx : x < 1000) {mC : RT} {C : Mem} (hC : (rm x) mC C) {ma1 : Nat} {a1 : Int32} (ha1 : (rv x) ma1 a1) : RZ (RO (rp (rv x) (rm x))) (gX2_add mC ma1) (fX2_add C a1) := by
  unfold gX2_add fX2_add
  refine rz_nm (x := x) (rd_s hC _ _) (fun mv4_1 v4_1 hv4_1 => ?_)
  refine rz_in (x := x) hv4_1 (fun e_2 => ?_)
  try rw [e_2]
  exact rz_some (rp_m hv4_1 (wr_s (wr_s hC _ _ ha1) _ _ (vadd_s (rd_s (wr_s hC _ _ ha1) _ _) rl_1)))
noncomputable def gX2_has_16 (mC : RT) : Nat := 0
theorem sX2_has_16 {x : Nat} (hx : x < 1000) {mC : RT} {C : Mem} (hC : (rm x) mC C) : rv x (gX2_has_16 mC) (fX2_has_16 C) := by
  unfold gX2_has_16 fX2_has_16
  exact rl_0
noncomputable def gX2_has (mC : RT) (ma1 : Nat) : Nat := (tsv (vlt ma1 0) (gX2_has_16 mC) (tsv (vnot (vlt ma1 (rd mC 55 4))) (gX2_has_16 mC) 1))
theorem sX2_has {x : Nat} (hx : x < 1000) {mC : RT} {C : Mem} (hC : (rm x) mC C) {ma1 : Nat} {a1 : Int32} (ha1 : (rv x) ma1 a1) : rv x (gX2_has mC ma1) (fX2_has C a1) := by
  unfold gX2_has fX2_has
  exact (rv_ts (vlt_s hx ha1 rl_0) (sX2_has_16 hx hC) (rv_ts (vle_s hx (rd_s hC _ _) ha1) (sX2_has_16 hx hC) rl_1))
noncomputable def gX2_globsOf (mC : RT) (ma1 : Nat) : Option Nat := (ckM (vin ma1 16) (some (Nat.add 60 (Nat.mul 11 ma1))))
theorem sX2_globsOf {x : Nat} (hx : x < 1000) {mC : RT} {C : Mem} (hC : (rm x) mC C) {ma1 : Nat} {a1 : Int32} (ha1 : (rv x) ma1 a1) : RZ (RO (@Eq Nat)) (gX2_globsOf mC ma1) (fX2_globsOf C a1) := by
  unfold gX2_globsOf fX2_globsOf
  refine rz_in (x := x) ha1 (fun e_1 => ?_)
  try rw [e_1]
  exact rz_some (Eq.refl _)
noncomputable def gX2_dependenciesOf (mC : RT) (ma1 : Nat) : Option Nat := (ckM (vin ma1 16) (some (rd mC 57 ma1)))
theorem sX2_dependenciesOf {x : Nat} (hx : x < 1000) {mC : RT} {C : Mem} (hC : (rm x) mC C) {ma1 : Nat} {a1 : Int32} (ha1 : (rv x) ma1 a1) : RZ (RO (rv x)) (gX2_dependenciesOf mC ma1) (fX2_dependenciesOf C a1) := by
  unfold gX2_dependenciesOf fX2_dependenciesOf
  refine rz_in (x := x) ha1 (fun e_1 => ?_)
  try rw [e_1]
  exact rz_some (rd_s hC _ _)
noncomputable def gX2_upFrom_49 (mC : RT) (mt_15 : (Nat × Nat)) (mt_4 : (Nat × Nat)) : Option ((Nat × Nat) ⊕ Nat) := (some (.inl (mt_15.1, (vadd mt_4.2 1))))
theorem sX2_upFrom_49 {x : Nat} (hx : x < 1000) {mC : RT} {C : Mem} (hC : (rm x) mC C) {mt_15 : (Nat × Nat)} {t_15 : (Int32 × Int32)} (ht_15 : (rp (rv x) (rv x)) mt_15 t_15) {mt_4 : (Nat × Nat)} {t_4 : (Int32 × Int32)} (ht_4 : (rp (rv x) (rv x)) mt_4 t_4) : RZ (RO (rs (rp (rv x) (rv x)) (rv x))) (gX2_upFrom_49 mC mt_15 mt_4) (fX2_upFrom_49 C t_15 t_4) := by
  unfold gX2_upFrom_49 fX2_upFrom_49
  exact rz_some (rs_l (rp_m (rp_1 ht_15) (vadd_s (rp_2 ht_4) rl_1)))
noncomputable def gX2_upFrom_43 (mC : RT) (mt_15 : (Nat × Nat)) (mt_4 : (Nat × Nat)) (mx2_43 : Nat) : Option ((Nat × Nat) ⊕ ((Nat × Nat) ⊕ Nat)) := (some (.inl (mx2_43, (vadd mt_15.2 1))))
theorem sX2_upFrom_43 {x : Nat} (hx : x < 1000) {mC : RT} {C : Mem} (hC : (rm x) mC C) {mt_15 : (Nat × Nat)} {t_15 : (Int32 × Int32)} (ht_15 : (rp (rv x) (rv x)) mt_15 t_15) {mt_4 : (Nat × Nat)} {t_4 : (Int32 × Int32)} (ht_4 : (rp (rv x) (rv x)) mt_4 t_4) {mx2_43 : Nat} {x2_43 : Int32} (hx2_43 : (rv x) mx2_43 x2_43) : RZ (RO (rs (rp (rv x) (rv x)) (rs (rp (rv x) (rv x)) (rv x)))) (gX2_upFrom_43 mC mt_15 mt_4 mx2_43) (fX2_upFrom_43 C t_15 t_4 x2_43) := by
  unfold gX2_upFrom_43 fX2_upFrom_43
  exact rz_some (rs_l (rp_m hx2_43 (vadd_s (rp_2 ht_15) rl_1)))
noncomputable def gX2_upFrom_15 (mC : RT) (mt_4 : (Nat × Nat)) (mt_15 : (Nat × Nat)) : Option ((Nat × Nat) ⊕ ((Nat × Nat) ⊕ Nat)) := (tst (vnot (vlt mt_15.2 (rd mC 55 4))) (exM (gX2_upFrom_49 mC mt_15 mt_4)) (ckM (vin mt_15.2 16) (tst (veq (vand (rd mC 57 mt_15.2) mt_15.1) 0) (gX2_upFrom_43 mC mt_15 mt_4 mt_15.1) (nmM (vor mt_15.1 (vshl 1 mt_15.2)) fun mv42_2 => (gX2_upFrom_43 mC mt_15 mt_4 mv42_2)))))
theorem sX2_upFrom_15 {x : Nat} (hx : x < 1000) {mC : RT} {C : Mem} (hC : (rm x) mC C) {mt_4 : (Nat × Nat)} {t_4 : (Int32 × Int32)} (ht_4 : (rp (rv x) (rv x)) mt_4 t_4) {mt_15 : (Nat × Nat)} {t_15 : (Int32 × Int32)} (ht_15 : (rp (rv x) (rv x)) mt_15 t_15) : RZ (RO (rs (rp (rv x) (rv x)) (rs (rp (rv x) (rv x)) (rv x)))) (gX2_upFrom_15 mC mt_4 mt_15) (fX2_upFrom_15 C t_4 t_15) := by
  unfold gX2_upFrom_15 fX2_upFrom_15
  refine rz_tst (vle_s hx (rd_s hC _ _) (rp_2 ht_15)) ?_ ?_
  · refine rz_ex ?_
    exact (sX2_upFrom_49 hx hC ht_15 ht_4)
  · refine rz_in (x := x) (rp_2 ht_15) (fun e_1 => ?_)
    try rw [e_1]
    refine rz_tst (veq_s hx (vand_s (rd_s hC _ _) (rp_1 ht_15)) rl_0) ?_ ?_
    · exact (sX2_upFrom_43 hx hC ht_15 ht_4 (rp_1 ht_15))
    · refine rz_nm (x := x) (vor_s (rp_1 ht_15) (vshl_s rl_1 (rp_2 ht_15))) (fun mv42_2 v42_2 hv42_2 => ?_)
      exact (sX2_upFrom_43 hx hC ht_15 ht_4 hv42_2)
noncomputable def gX2_upFrom_4 (mC : RT) (mt_4 : (Nat × Nat)) : Option ((Nat × Nat) ⊕ Nat) := (tst (vnot (vlt mt_4.2 (rd mC 55 4))) (exM (some mt_4.1)) (lpM (gX2_upFrom_15 mC mt_4) 300 (mt_4.1, 0)))
theorem sX2_upFrom_4 {x : Nat} (hx : x < 1000) {mC : RT} {C : Mem} (hC : (rm x) mC C) {mt_4 : (Nat × Nat)} {t_4 : (Int32 × Int32)} (ht_4 : (rp (rv x) (rv x)) mt_4 t_4) : RZ (RO (rs (rp (rv x) (rv x)) (rv x))) (gX2_upFrom_4 mC mt_4) (fX2_upFrom_4 C t_4) := by
  unfold gX2_upFrom_4 fX2_upFrom_4
  refine rz_tst (vle_s hx (rd_s hC _ _) (rp_2 ht_4)) ?_ ?_
  · refine rz_ex ?_
    exact rz_some (rp_1 ht_4)
  · exact rz_lp (PS := (rp (rv x) (rv x))) (fun _ _ hs => sX2_upFrom_15 hx hC ht_4 hs) 300 (rp_m (rp_1 ht_4) rl_0)
noncomputable def gX2_upFrom (mC : RT) (ma1 : Nat) : Option Nat := (lpM (gX2_upFrom_4 mC) 300 (ma1, 0))
theorem sX2_upFrom {x : Nat} (hx : x < 1000) {mC : RT} {C : Mem} (hC : (rm x) mC C) {ma1 : Nat} {a1 : Int32} (ha1 : (rv x) ma1 a1) : RZ (RO (rv x)) (gX2_upFrom mC ma1) (fX2_upFrom C a1) := by
  unfold gX2_upFrom fX2_upFrom
  exact rz_lp (PS := (rp (rv x) (rv x))) (fun _ _ hs => sX2_upFrom_4 hx hC hs) 300 (rp_m ha1 rl_0)
noncomputable def gX2_addDependency (mC : RT) (ma1 : Nat) (ma2 : Nat) : Option RT := (ckM (vin ma1 16) (ckM (vin ma1 16) (some (wr mC 57 ma1 (vor (rd mC 57 ma1) (vshl 1 ma2))))))
theorem sX2_addDependency {x : Nat} (hx : x < 1000) {mC : RT} {C : Mem} (hC : (rm x) mC C) {ma1 : Nat} {a1 : Int32} (ha1 : (rv x) ma1 a1) {ma2 : Nat} {a2 : Int32} (ha2 : (rv x) ma2 a2) : RZ (RO (rm x)) (gX2_addDependency mC ma1 ma2) (fX2_addDependency C a1 a2) := by
  unfold gX2_addDependency fX2_addDependency
  refine rz_in (x := x) ha1 (fun e_1 => ?_)
  try rw [e_1]
  refine rz_in (x := x) ha1 (fun e_2 => ?_)
  try rw [e_2]
  exact rz_some (wr_s hC _ _ (vor_s (rd_s hC _ _) (vshl_s rl_1 ha2)))
noncomputable def gX2_size (mC : RT) : Nat := (rd mC 55 4)
theorem sX2_size {x : Nat} (hx : x < 1000) {mC : RT} {C : Mem} (hC : (rm x) mC C) : rv x (gX2_size mC) (fX2_size C) := by
  unfold gX2_size fX2_size
  exact (rd_s hC _ _)
noncomputable def gX2_isNext_25 (mC : RT) : Option Nat := (some 0)
theorem sX2_isNext_25 {x : Nat} (hx : x < 1000) {mC : RT} {C : Mem} (hC : (rm x) mC C) : RZ (RO (rv x)) (gX2_isNext_25 mC) (fX2_isNext_25 C) := by
  unfold gX2_isNext_25 fX2_isNext_25
  exact rz_some rl_0
noncomputable def gX2_isNext (mC : RT) (ma1 : Nat) (ma2 : Nat) : Option Nat := (tst (veq (gX7_holds ma2 ma1) 0) (ckM (vin ma1 16) (tst (veq (vand (rd mC 57 ma1) (vxor ma2 4294967295)) 0) (some 1) (gX2_isNext_25 mC))) (gX2_isNext_25 mC))
theorem sX2_isNext {x : Nat} (hx : x < 1000) {mC : RT} {C : Mem} (hC : (rm x) mC C) {ma1 : Nat} {a1 : Int32} (ha1 : (rv x) ma1 a1) {ma2 : Nat} {a2 : Int32} (ha2 : (rv x) ma2 a2) : RZ (RO (rv x)) (gX2_isNext mC ma1 ma2) (fX2_isNext C a1 a2) := by
  unfold gX2_isNext fX2_isNext
  refine rz_tst (veq_s hx (sX7_holds hx ha2 ha1) rl_0) ?_ ?_
  · refine rz_in (x := x) ha1 (fun e_1 => ?_)
    try rw [e_1]
    refine rz_tst (veq_s hx (vand_s (rd_s hC _ _) (vxor_s ha2 rl_m1)) rl_0) ?_ ?_
    · exact rz_some rl_1
    · exact (sX2_isNext_25 hx hC)
  · exact (sX2_isNext_25 hx hC)
noncomputable def gX2_nextBehind_27 (mC : RT) (mt_2 : Nat) : Option Nat := (some mt_2)
theorem sX2_nextBehind_27 {x : Nat} (hx : x < 1000) {mC : RT} {C : Mem} (hC : (rm x) mC C) {mt_2 : Nat} {t_2 : Int32} (ht_2 : (rv x) mt_2 t_2) : RZ (RO (rv x)) (gX2_nextBehind_27 mC mt_2) (fX2_nextBehind_27 C t_2) := by
  unfold gX2_nextBehind_27 fX2_nextBehind_27
  exact rz_some ht_2
noncomputable def gX2_nextBehind_2 (mC : RT) (ma1 : Nat) (mt_2 : Nat) : Option (Nat ⊕ Nat) := (tst (vnot (vlt mt_2 (vsub (rd mC 55 4) 1))) (exM (gX2_nextBehind_27 mC mt_2)) (bdM (gX2_isNext mC mt_2 ma1) fun mq15_1 => (tst (veq mq15_1 0) (some (.inl (vadd mt_2 1))) (exM (gX2_nextBehind_27 mC mt_2)))))
theorem sX2_nextBehind_2 {x : Nat} (hx : x < 1000) {mC : RT} {C : Mem} (hC : (rm x) mC C) {ma1 : Nat} {a1 : Int32} (ha1 : (rv x) ma1 a1) {mt_2 : Nat} {t_2 : Int32} (ht_2 : (rv x) mt_2 t_2) : RZ (RO (rs (rv x) (rv x))) (gX2_nextBehind_2 mC ma1 mt_2) (fX2_nextBehind_2 C a1 t_2) := by
  unfold gX2_nextBehind_2 fX2_nextBehind_2
  refine rz_tst (vle_s hx (vsub_s (rd_s hC _ _) rl_1) ht_2) ?_ ?_
  · refine rz_ex ?_
    exact (sX2_nextBehind_27 hx hC ht_2)
  · refine rz_bnd (P := (rv x)) (sX2_isNext hx hC ht_2 ha1) (fun mq15_1 q15_1 hq15_1 => ?_)
    refine rz_tst (veq_s hx hq15_1 rl_0) ?_ ?_
    · exact rz_some (rs_l (vadd_s ht_2 rl_1))
    · refine rz_ex ?_
      exact (sX2_nextBehind_27 hx hC ht_2)
noncomputable def gX2_nextBehind (mC : RT) (ma1 : Nat) : Option Nat := (lpM (gX2_nextBehind_2 mC ma1) 300 0)
theorem sX2_nextBehind {x : Nat} (hx : x < 1000) {mC : RT} {C : Mem} (hC : (rm x) mC C) {ma1 : Nat} {a1 : Int32} (ha1 : (rv x) ma1 a1) : RZ (RO (rv x)) (gX2_nextBehind mC ma1) (fX2_nextBehind C a1) := by
  unfold gX2_nextBehind fX2_nextBehind
  exact rz_lp (PS := (rv x)) (fun _ _ hs => sX2_nextBehind_2 hx hC ha1 hs) 300 rl_0
noncomputable def gX2_makeOrder_4 (mt_4 : (RT × (Nat × Nat))) : Option ((RT × (Nat × Nat)) ⊕ RT) := (tst (vnot (vlt mt_4.2.2 (rd mt_4.1 55 4))) (exM (some mt_4.1)) (bdM (gX2_nextBehind mt_4.1 mt_4.2.1) fun mq14_1 => (ckM (vin mt_4.2.2 16) (nmM (vor mt_4.2.1 (vshl 1 mq14_1)) fun mv30_3 => (some (.inl ((wr mt_4.1 59 mt_4.2.2 mq14_1), (mv30_3, (vadd mt_4.2.2 1)))))))))
theorem sX2_makeOrder_4 {x : Nat} (hx : x < 1000) {mt_4 : (RT × (Nat × Nat))} {t_4 : (Mem × (Int32 × Int32))} (ht_4 : (rp (rm x) (rp (rv x) (rv x))) mt_4 t_4) : RZ (RO (rs (rp (rm x) (rp (rv x) (rv x))) (rm x))) (gX2_makeOrder_4 mt_4) (fX2_makeOrder_4 t_4) := by
  unfold gX2_makeOrder_4 fX2_makeOrder_4
  refine rz_tst (vle_s hx (rd_s (rp_1 ht_4) _ _) (rp_2 (rp_2 ht_4))) ?_ ?_
  · refine rz_ex ?_
    exact rz_some (rp_1 ht_4)
  · refine rz_bnd (P := (rv x)) (sX2_nextBehind hx (rp_1 ht_4) (rp_1 (rp_2 ht_4))) (fun mq14_1 q14_1 hq14_1 => ?_)
    refine rz_in (x := x) (rp_2 (rp_2 ht_4)) (fun e_2 => ?_)
    try rw [e_2]
    refine rz_nm (x := x) (vor_s (rp_1 (rp_2 ht_4)) (vshl_s rl_1 hq14_1)) (fun mv30_3 v30_3 hv30_3 => ?_)
    exact rz_some (rs_l (rp_m (wr_s (rp_1 ht_4) _ _ hq14_1) (rp_m hv30_3 (vadd_s (rp_2 (rp_2 ht_4)) rl_1))))
noncomputable def gX2_makeOrder (mC : RT) : Option RT := (lpM (gX2_makeOrder_4) 300 (mC, (0, 0)))
theorem sX2_makeOrder {x : Nat} (hx : x < 1000) {mC : RT} {C : Mem} (hC : (rm x) mC C) : RZ (RO (rm x)) (gX2_makeOrder mC) (fX2_makeOrder C) := by
  unfold gX2_makeOrder fX2_makeOrder
  exact rz_lp (PS := (rp (rm x) (rp (rv x) (rv x)))) (fun _ _ hs => sX2_makeOrder_4 hx hs) 300 (rp_m hC (rp_m rl_0 rl_0))
noncomputable def gX2_atPlace (mC : RT) (ma1 : Nat) : Option Nat := (ckM (vin ma1 16) (some (rd mC 59 ma1)))
theorem sX2_atPlace {x : Nat} (hx : x < 1000) {mC : RT} {C : Mem} (hC : (rm x) mC C) {ma1 : Nat} {a1 : Int32} (ha1 : (rv x) ma1 a1) : RZ (RO (rv x)) (gX2_atPlace mC ma1) (fX2_atPlace C a1) := by
  unfold gX2_atPlace fX2_atPlace
  refine rz_in (x := x) ha1 (fun e_1 => ?_)
  try rw [e_1]
  exact rz_some (rd_s hC _ _)
noncomputable def gX2_covering_34 (mC : RT) (ma1 : Nat) (mt_4 : (Nat × Nat)) (mx2_34 : Nat) : Option ((Nat × Nat) ⊕ Nat) := (some (.inl (mx2_34, (vadd mt_4.2 1))))
theorem sX2_covering_34 {x : Nat} (hx : x < 1000) {mC : RT} {C : Mem} (hC : (rm x) mC C) {ma1 : Nat} {a1 : Int32} (ha1 : (rv x) ma1 a1) {mt_4 : (Nat × Nat)} {t_4 : (Int32 × Int32)} (ht_4 : (rp (rv x) (rv x)) mt_4 t_4) {mx2_34 : Nat} {x2_34 : Int32} (hx2_34 : (rv x) mx2_34 x2_34) : RZ (RO (rs (rp (rv x) (rv x)) (rv x))) (gX2_covering_34 mC ma1 mt_4 mx2_34) (fX2_covering_34 C a1 t_4 x2_34) := by
  unfold gX2_covering_34 fX2_covering_34
  exact rz_some (rs_l (rp_m hx2_34 (vadd_s (rp_2 ht_4) rl_1)))
noncomputable def gX2_covering_4 (mC : RT) (ma1 : Nat) (mt_4 : (Nat × Nat)) : Option ((Nat × Nat) ⊕ Nat) := (tst (vnot (vlt mt_4.2 (rd mC 55 4))) (exM (some mt_4.1)) (ckM (vin mt_4.2 16) (bdM (gX1_covered mC (Nat.add 60 (Nat.mul 11 mt_4.2))) fun mq18_2 => (tst (veq (gX7_holds mq18_2 ma1) 0) (gX2_covering_34 mC ma1 mt_4 mt_4.1) (nmM (vor mt_4.1 (vshl 1 mt_4.2)) fun mv33_3 => (gX2_covering_34 mC ma1 mt_4 mv33_3))))))
theorem sX2_covering_4 {x : Nat} (hx : x < 1000) {mC : RT} {C : Mem} (hC : (rm x) mC C) {ma1 : Nat} {a1 : Int32} (ha1 : (rv x) ma1 a1) {mt_4 : (Nat × Nat)} {t_4 : (Int32 × Int32)} (ht_4 : (rp (rv x) (rv x)) mt_4 t_4) : RZ (RO (rs (rp (rv x) (rv x)) (rv x))) (gX2_covering_4 mC ma1 mt_4) (fX2_covering_4 C a1 t_4) := by
  unfold gX2_covering_4 fX2_covering_4
  refine rz_tst (vle_s hx (rd_s hC _ _) (rp_2 ht_4)) ?_ ?_
  · refine rz_ex ?_
    exact rz_some (rp_1 ht_4)
  · refine rz_in (x := x) (rp_2 ht_4) (fun e_1 => ?_)
    try rw [e_1]
    refine rz_bnd (P := (rv x)) (sX1_covered hx hC) (fun mq18_2 q18_2 hq18_2 => ?_)
    refine rz_tst (veq_s hx (sX7_holds hx hq18_2 ha1) rl_0) ?_ ?_
    · exact (sX2_covering_34 hx hC ha1 ht_4 (rp_1 ht_4))
    · refine rz_nm (x := x) (vor_s (rp_1 ht_4) (vshl_s rl_1 (rp_2 ht_4))) (fun mv33_3 v33_3 hv33_3 => ?_)
      exact (sX2_covering_34 hx hC ha1 ht_4 hv33_3)
noncomputable def gX2_covering (mC : RT) (ma1 : Nat) : Option Nat := (lpM (gX2_covering_4 mC ma1) 300 (0, 0))
theorem sX2_covering {x : Nat} (hx : x < 1000) {mC : RT} {C : Mem} (hC : (rm x) mC C) {ma1 : Nat} {a1 : Int32} (ha1 : (rv x) ma1 a1) : RZ (RO (rv x)) (gX2_covering mC ma1) (fX2_covering C a1) := by
  unfold gX2_covering fX2_covering
  exact rz_lp (PS := (rp (rv x) (rv x))) (fun _ _ hs => sX2_covering_4 hx hC ha1 hs) 300 (rp_m rl_0 rl_0)
noncomputable def gX2_downFrom_51 (mC : RT) (mt_17 : (Nat × Nat)) (mt_6 : (Nat × Nat)) : Option ((Nat × Nat) ⊕ Nat) := (some (.inl (mt_17.1, (vadd mt_6.2 1))))
theorem sX2_downFrom_51 {x : Nat} (hx : x < 1000) {mC : RT} {C : Mem} (hC : (rm x) mC C) {mt_17 : (Nat × Nat)} {t_17 : (Int32 × Int32)} (ht_17 : (rp (rv x) (rv x)) mt_17 t_17) {mt_6 : (Nat × Nat)} {t_6 : (Int32 × Int32)} (ht_6 : (rp (rv x) (rv x)) mt_6 t_6) : RZ (RO (rs (rp (rv x) (rv x)) (rv x))) (gX2_downFrom_51 mC mt_17 mt_6) (fX2_downFrom_51 C t_17 t_6) := by
  unfold gX2_downFrom_51 fX2_downFrom_51
  exact rz_some (rs_l (rp_m (rp_1 ht_17) (vadd_s (rp_2 ht_6) rl_1)))
noncomputable def gX2_downFrom_45 (mC : RT) (mt_17 : (Nat × Nat)) (mt_6 : (Nat × Nat)) (mx2_45 : Nat) : Option ((Nat × Nat) ⊕ ((Nat × Nat) ⊕ Nat)) := (some (.inl (mx2_45, (vadd mt_17.2 1))))
theorem sX2_downFrom_45 {x : Nat} (hx : x < 1000) {mC : RT} {C : Mem} (hC : (rm x) mC C) {mt_17 : (Nat × Nat)} {t_17 : (Int32 × Int32)} (ht_17 : (rp (rv x) (rv x)) mt_17 t_17) {mt_6 : (Nat × Nat)} {t_6 : (Int32 × Int32)} (ht_6 : (rp (rv x) (rv x)) mt_6 t_6) {mx2_45 : Nat} {x2_45 : Int32} (hx2_45 : (rv x) mx2_45 x2_45) : RZ (RO (rs (rp (rv x) (rv x)) (rs (rp (rv x) (rv x)) (rv x)))) (gX2_downFrom_45 mC mt_17 mt_6 mx2_45) (fX2_downFrom_45 C t_17 t_6 x2_45) := by
  unfold gX2_downFrom_45 fX2_downFrom_45
  exact rz_some (rs_l (rp_m hx2_45 (vadd_s (rp_2 ht_17) rl_1)))
noncomputable def gX2_downFrom_17 (mC : RT) (mt_6 : (Nat × Nat)) (mt_17 : (Nat × Nat)) : Option ((Nat × Nat) ⊕ ((Nat × Nat) ⊕ Nat)) := (tst (vnot (vlt mt_17.2 (rd mC 55 4))) (exM (gX2_downFrom_51 mC mt_17 mt_6)) (tst (veq (gX7_holds mt_17.1 mt_17.2) 0) (gX2_downFrom_45 mC mt_17 mt_6 mt_17.1) (ckM (vin mt_17.2 16) (nmM (vor mt_17.1 (rd mC 57 mt_17.2)) fun mv44_2 => (gX2_downFrom_45 mC mt_17 mt_6 mv44_2)))))
theorem sX2_downFrom_17 {x : Nat} (hx : x < 1000) {mC : RT} {C : Mem} (hC : (rm x) mC C) {mt_6 : (Nat × Nat)} {t_6 : (Int32 × Int32)} (ht_6 : (rp (rv x) (rv x)) mt_6 t_6) {mt_17 : (Nat × Nat)} {t_17 : (Int32 × Int32)} (ht_17 : (rp (rv x) (rv x)) mt_17 t_17) : RZ (RO (rs (rp (rv x) (rv x)) (rs (rp (rv x) (rv x)) (rv x)))) (gX2_downFrom_17 mC mt_6 mt_17) (fX2_downFrom_17 C t_6 t_17) := by
  unfold gX2_downFrom_17 fX2_downFrom_17
  refine rz_tst (vle_s hx (rd_s hC _ _) (rp_2 ht_17)) ?_ ?_
  · refine rz_ex ?_
    exact (sX2_downFrom_51 hx hC ht_17 ht_6)
  · refine rz_tst (veq_s hx (sX7_holds hx (rp_1 ht_17) (rp_2 ht_17)) rl_0) ?_ ?_
    · exact (sX2_downFrom_45 hx hC ht_17 ht_6 (rp_1 ht_17))
    · refine rz_in (x := x) (rp_2 ht_17) (fun e_1 => ?_)
      try rw [e_1]
      refine rz_nm (x := x) (vor_s (rp_1 ht_17) (rd_s hC _ _)) (fun mv44_2 v44_2 hv44_2 => ?_)
      exact (sX2_downFrom_45 hx hC ht_17 ht_6 hv44_2)
noncomputable def gX2_downFrom_6 (mC : RT) (mt_6 : (Nat × Nat)) : Option ((Nat × Nat) ⊕ Nat) := (tst (vnot (vlt mt_6.2 (rd mC 55 4))) (exM (some mt_6.1)) (lpM (gX2_downFrom_17 mC mt_6) 300 (mt_6.1, 0)))
theorem sX2_downFrom_6 {x : Nat} (hx : x < 1000) {mC : RT} {C : Mem} (hC : (rm x) mC C) {mt_6 : (Nat × Nat)} {t_6 : (Int32 × Int32)} (ht_6 : (rp (rv x) (rv x)) mt_6 t_6) : RZ (RO (rs (rp (rv x) (rv x)) (rv x))) (gX2_downFrom_6 mC mt_6) (fX2_downFrom_6 C t_6) := by
  unfold gX2_downFrom_6 fX2_downFrom_6
  refine rz_tst (vle_s hx (rd_s hC _ _) (rp_2 ht_6)) ?_ ?_
  · refine rz_ex ?_
    exact rz_some (rp_1 ht_6)
  · exact rz_lp (PS := (rp (rv x) (rv x))) (fun _ _ hs => sX2_downFrom_17 hx hC ht_6 hs) 300 (rp_m (rp_1 ht_6) rl_0)
noncomputable def gX2_downFrom (mC : RT) (ma1 : Nat) : Option Nat := (nmM (vshl 1 ma1) fun mv3_1 => (lpM (gX2_downFrom_6 mC) 300 (mv3_1, 0)))
theorem sX2_downFrom {x : Nat} (hx : x < 1000) {mC : RT} {C : Mem} (hC : (rm x) mC C) {ma1 : Nat} {a1 : Int32} (ha1 : (rv x) ma1 a1) : RZ (RO (rv x)) (gX2_downFrom mC ma1) (fX2_downFrom C a1) := by
  unfold gX2_downFrom fX2_downFrom
  refine rz_nm (x := x) (vshl_s rl_1 ha1) (fun mv3_1 v3_1 hv3_1 => ?_)
  exact rz_lp (PS := (rp (rv x) (rv x))) (fun _ _ hs => sX2_downFrom_6 hx hC hs) 300 (rp_m hv3_1 rl_0)
noncomputable def gX2_reachingDown_28 (mC : RT) (ma1 : Nat) (mt_4 : (Nat × Nat)) (mx2_28 : Nat) : Option ((Nat × Nat) ⊕ Nat) := (some (.inl (mx2_28, (vadd mt_4.2 1))))
theorem sX2_reachingDown_28 {x : Nat} (hx : x < 1000) {mC : RT} {C : Mem} (hC : (rm x) mC C) {ma1 : Nat} {a1 : Int32} (ha1 : (rv x) ma1 a1) {mt_4 : (Nat × Nat)} {t_4 : (Int32 × Int32)} (ht_4 : (rp (rv x) (rv x)) mt_4 t_4) {mx2_28 : Nat} {x2_28 : Int32} (hx2_28 : (rv x) mx2_28 x2_28) : RZ (RO (rs (rp (rv x) (rv x)) (rv x))) (gX2_reachingDown_28 mC ma1 mt_4 mx2_28) (fX2_reachingDown_28 C a1 t_4 x2_28) := by
  unfold gX2_reachingDown_28 fX2_reachingDown_28
  exact rz_some (rs_l (rp_m hx2_28 (vadd_s (rp_2 ht_4) rl_1)))
noncomputable def gX2_reachingDown_4 (mC : RT) (ma1 : Nat) (mt_4 : (Nat × Nat)) : Option ((Nat × Nat) ⊕ Nat) := (tst (vnot (vlt mt_4.2 (rd mC 55 4))) (exM (some mt_4.1)) (bdM (gX2_downFrom mC mt_4.2) fun mq14_1 => (tst (veq (vand mq14_1 ma1) 0) (gX2_reachingDown_28 mC ma1 mt_4 mt_4.1) (nmM (vor mt_4.1 (vshl 1 mt_4.2)) fun mv27_2 => (gX2_reachingDown_28 mC ma1 mt_4 mv27_2)))))
theorem sX2_reachingDown_4 {x : Nat} (hx : x < 1000) {mC : RT} {C : Mem} (hC : (rm x) mC C) {ma1 : Nat} {a1 : Int32} (ha1 : (rv x) ma1 a1) {mt_4 : (Nat × Nat)} {t_4 : (Int32 × Int32)} (ht_4 : (rp (rv x) (rv x)) mt_4 t_4) : RZ (RO (rs (rp (rv x) (rv x)) (rv x))) (gX2_reachingDown_4 mC ma1 mt_4) (fX2_reachingDown_4 C a1 t_4) := by
  unfold gX2_reachingDown_4 fX2_reachingDown_4
  refine rz_tst (vle_s hx (rd_s hC _ _) (rp_2 ht_4)) ?_ ?_
  · refine rz_ex ?_
    exact rz_some (rp_1 ht_4)
  · refine rz_bnd (P := (rv x)) (sX2_downFrom hx hC (rp_2 ht_4)) (fun mq14_1 q14_1 hq14_1 => ?_)
    refine rz_tst (veq_s hx (vand_s hq14_1 ha1) rl_0) ?_ ?_
    · exact (sX2_reachingDown_28 hx hC ha1 ht_4 (rp_1 ht_4))
    · refine rz_nm (x := x) (vor_s (rp_1 ht_4) (vshl_s rl_1 (rp_2 ht_4))) (fun mv27_2 v27_2 hv27_2 => ?_)
      exact (sX2_reachingDown_28 hx hC ha1 ht_4 hv27_2)
noncomputable def gX2_reachingDown (mC : RT) (ma1 : Nat) : Option Nat := (lpM (gX2_reachingDown_4 mC ma1) 300 (0, 0))
theorem sX2_reachingDown {x : Nat} (hx : x < 1000) {mC : RT} {C : Mem} (hC : (rm x) mC C) {ma1 : Nat} {a1 : Int32} (ha1 : (rv x) ma1 a1) : RZ (RO (rv x)) (gX2_reachingDown mC ma1) (fX2_reachingDown C a1) := by
  unfold gX2_reachingDown fX2_reachingDown
  exact rz_lp (PS := (rp (rv x) (rv x))) (fun _ _ hs => sX2_reachingDown_4 hx hC ha1 hs) 300 (rp_m rl_0 rl_0)
noncomputable def gX2_costOf (mC : RT) (ma1 : Nat) : Option Nat := (ckM (vin ma1 16) (some (rd mC 56 ma1)))
theorem sX2_costOf {x : Nat} (hx : x < 1000) {mC : RT} {C : Mem} (hC : (rm x) mC C) {ma1 : Nat} {a1 : Int32} (ha1 : (rv x) ma1 a1) : RZ (RO (rv x)) (gX2_costOf mC ma1) (fX2_costOf C a1) := by
  unfold gX2_costOf fX2_costOf
  refine rz_in (x := x) ha1 (fun e_1 => ?_)
  try rw [e_1]
  exact rz_some (rd_s hC _ _)
