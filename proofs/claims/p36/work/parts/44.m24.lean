noncomputable def gX3_fillRow_110 (mq67 : Nat) (mt_74 : (RT × Nat)) (ms0_110 : Nat) (ms1_110 : Nat) : Option ((RT × Nat) ⊕ RT) := (ckM (vin ms1_110 40) (some (.inl ((wr mt_74.1 442 ms1_110 ms0_110), (vadd mt_74.2 1)))))
theorem sX3_fillRow_110 {x : Nat} (hx : x < 1000) {mq67 : Nat} {q67 : Int32} (hq67 : (rv x) mq67 q67) {mt_74 : (RT × Nat)} {t_74 : (Mem × Int32)} (ht_74 : (rp (rm x) (rv x)) mt_74 t_74) {ms0_110 : Nat} {s0_110 : Int32} (hs0_110 : (rv x) ms0_110 s0_110) {ms1_110 : Nat} {s1_110 : Int32} (hs1_110 : (rv x) ms1_110 s1_110) : RZ (RO (rs (rp (rm x) (rv x)) (rm x))) (gX3_fillRow_110 mq67 mt_74 ms0_110 ms1_110) (fX3_fillRow_110 q67 t_74 s0_110 s1_110) := by
  unfold gX3_fillRow_110 fX3_fillRow_110
  refine rz_in (x := x) hs1_110 (fun e_1 => ?_)
  try rw [e_1]
  exact rz_some (rs_l (rp_m (wr_s (rp_1 ht_74) _ _ hs0_110) (vadd_s (rp_2 ht_74) rl_1)))
noncomputable def gX3_fillRow_74 (mq67 : Nat) (mt_74 : (RT × Nat)) : Option ((RT × Nat) ⊕ RT) := (tst (vnot (vlt mt_74.2 16)) (exM (some mt_74.1)) (tst (veq (gX7_holds mq67 mt_74.2) 0) (gX3_fillRow_110 mq67 mt_74 0 (vadd 24 mt_74.2)) (ckM (vin mt_74.2 16) (gX3_fillRow_110 mq67 mt_74 (rd mt_74.1 440 mt_74.2) (vadd 24 mt_74.2)))))
theorem sX3_fillRow_74 {x : Nat} (hx : x < 1000) {mq67 : Nat} {q67 : Int32} (hq67 : (rv x) mq67 q67) {mt_74 : (RT × Nat)} {t_74 : (Mem × Int32)} (ht_74 : (rp (rm x) (rv x)) mt_74 t_74) : RZ (RO (rs (rp (rm x) (rv x)) (rm x))) (gX3_fillRow_74 mq67 mt_74) (fX3_fillRow_74 q67 t_74) := by
  unfold gX3_fillRow_74 fX3_fillRow_74
  refine rz_tst (vle_s hx rl_16 (rp_2 ht_74)) ?_ ?_
  · refine rz_ex ?_
    exact rz_some (rp_1 ht_74)
  · refine rz_tst (veq_s hx (sX7_holds hx hq67 (rp_2 ht_74)) rl_0) ?_ ?_
    · exact (sX3_fillRow_110 hx hq67 ht_74 rl_0 (vadd_s rl_24 (rp_2 ht_74)))
    · refine rz_in (x := x) (rp_2 ht_74) (fun e_1 => ?_)
      try rw [e_1]
      exact (sX3_fillRow_110 hx hq67 ht_74 (rd_s (rp_1 ht_74) _ _) (vadd_s rl_24 (rp_2 ht_74)))
noncomputable def gX3_fillRow_62 (ma1 : Nat) (mt_22 : (RT × Nat)) : Option RT := (bdM (gX2_dependenciesOf mt_22.1 ma1) fun mq67_1 => (lpM (gX3_fillRow_74 mq67_1) 300 (mt_22.1, 0)))
theorem sX3_fillRow_62 {x : Nat} (hx : x < 1000) {ma1 : Nat} {a1 : Int32} (ha1 : (rv x) ma1 a1) {mt_22 : (RT × Nat)} {t_22 : (Mem × Int32)} (ht_22 : (rp (rm x) (rv x)) mt_22 t_22) : RZ (RO (rm x)) (gX3_fillRow_62 ma1 mt_22) (fX3_fillRow_62 a1 t_22) := by
  unfold gX3_fillRow_62 fX3_fillRow_62
  refine rz_bnd (P := (rv x)) (sX2_dependenciesOf hx (rp_1 ht_22) ha1) (fun mq67_1 q67_1 hq67_1 => ?_)
  exact rz_lp (PS := (rp (rm x) (rv x))) (fun _ _ hs => sX3_fillRow_74 hx hq67_1 hs) 300 (rp_m (rp_1 ht_22) rl_0)
noncomputable def gX3_fillRow_55 (ma1 : Nat) (mt_22 : (RT × Nat)) (mv19 : Nat) (ms0_55 : Nat) (ms1_55 : Nat) : Option ((RT × Nat) ⊕ RT) := (ckM (vin ms1_55 40) (some (.inl ((wr mt_22.1 442 ms1_55 ms0_55), (vadd mt_22.2 1)))))
theorem sX3_fillRow_55 {x : Nat} (hx : x < 1000) {ma1 : Nat} {a1 : Int32} (ha1 : (rv x) ma1 a1) {mt_22 : (RT × Nat)} {t_22 : (Mem × Int32)} (ht_22 : (rp (rm x) (rv x)) mt_22 t_22) {mv19 : Nat} {v19 : Int32} (hv19 : (rv x) mv19 v19) {ms0_55 : Nat} {s0_55 : Int32} (hs0_55 : (rv x) ms0_55 s0_55) {ms1_55 : Nat} {s1_55 : Int32} (hs1_55 : (rv x) ms1_55 s1_55) : RZ (RO (rs (rp (rm x) (rv x)) (rm x))) (gX3_fillRow_55 ma1 mt_22 mv19 ms0_55 ms1_55) (fX3_fillRow_55 a1 t_22 v19 s0_55 s1_55) := by
  unfold gX3_fillRow_55 fX3_fillRow_55
  refine rz_in (x := x) hs1_55 (fun e_1 => ?_)
  try rw [e_1]
  exact rz_some (rs_l (rp_m (wr_s (rp_1 ht_22) _ _ hs0_55) (vadd_s (rp_2 ht_22) rl_1)))
noncomputable def gX3_fillRow_22 (ma1 : Nat) (mv19 : Nat) (mt_22 : (RT × Nat)) : Option ((RT × Nat) ⊕ RT) := (tst (vnot (vlt mt_22.2 24)) (exM (gX3_fillRow_62 ma1 mt_22)) (tst (veq (gX7_holds mv19 mt_22.2) 0) (gX3_fillRow_55 ma1 mt_22 mv19 0 mt_22.2) (bdM (gX0_contentOf mt_22.1 mt_22.2) fun mq46_1 => (gX3_fillRow_55 ma1 mt_22 mv19 (vadd mq46_1 1) mt_22.2))))
theorem sX3_fillRow_22 {x : Nat} (hx : x < 1000) {ma1 : Nat} {a1 : Int32} (ha1 : (rv x) ma1 a1) {mv19 : Nat} {v19 : Int32} (hv19 : (rv x) mv19 v19) {mt_22 : (RT × Nat)} {t_22 : (Mem × Int32)} (ht_22 : (rp (rm x) (rv x)) mt_22 t_22) : RZ (RO (rs (rp (rm x) (rv x)) (rm x))) (gX3_fillRow_22 ma1 mv19 mt_22) (fX3_fillRow_22 a1 v19 t_22) := by
  unfold gX3_fillRow_22 fX3_fillRow_22
  refine rz_tst (vle_s hx rl_24 (rp_2 ht_22)) ?_ ?_
  · refine rz_ex ?_
    exact (sX3_fillRow_62 hx ha1 ht_22)
  · refine rz_tst (veq_s hx (sX7_holds hx hv19 (rp_2 ht_22)) rl_0) ?_ ?_
    · exact (sX3_fillRow_55 hx ha1 ht_22 hv19 rl_0 (rp_2 ht_22))
    · refine rz_bnd (P := (rv x)) (sX0_contentOf hx (rp_1 ht_22) (rp_2 ht_22)) (fun mq46_1 q46_1 hq46_1 => ?_)
      exact (sX3_fillRow_55 hx ha1 ht_22 hv19 (vadd_s hq46_1 rl_1) (rp_2 ht_22))
noncomputable def gX3_fillRow (mC : RT) (ma1 : Nat) : Option RT := (bdM (gX2_globsOf mC ma1) fun mq5_1 => (bdM (gX1_covered mC mq5_1) fun mq8_2 => (nmM (vand mq8_2 (gX0_present mC)) fun mv19_3 => (lpM (gX3_fillRow_22 ma1 mv19_3) 300 (mC, 0)))))
theorem sX3_fillRow {x : Nat} (hx : x < 1000) {mC : RT} {C : Mem} (hC : (rm x) mC C) {ma1 : Nat} {a1 : Int32} (ha1 : (rv x) ma1 a1) : RZ (RO (rm x)) (gX3_fillRow mC ma1) (fX3_fillRow C a1) := by
  unfold gX3_fillRow fX3_fillRow
  refine rz_bnd (P := @Eq Nat) (sX2_globsOf hx hC ha1) (fun mq5_1 q5_1 hq5_1 => ?_)
  subst hq5_1
  refine rz_bnd (P := (rv x)) (sX1_covered hx hC) (fun mq8_2 q8_2 hq8_2 => ?_)
  refine rz_nm (x := x) (vand_s hq8_2 (sX0_present hx hC)) (fun mv19_3 v19_3 hv19_3 => ?_)
  exact rz_lp (PS := (rp (rm x) (rv x))) (fun _ _ hs => sX3_fillRow_22 hx ha1 hv19_3 hs) 300 (rp_m hC rl_0)
noncomputable def gX3_withoutKey_30 (mC : RT) (mt_4 : (Nat × Nat)) (mx1_30 : Nat) : Option ((Nat × Nat) ⊕ Nat) := (some (.inl (mx1_30, (vadd mt_4.2 1))))
theorem sX3_withoutKey_30 {x : Nat} (hx : x < 1000) {mC : RT} {C : Mem} (hC : (rm x) mC C) {mt_4 : (Nat × Nat)} {t_4 : (Int32 × Int32)} (ht_4 : (rp (rv x) (rv x)) mt_4 t_4) {mx1_30 : Nat} {x1_30 : Int32} (hx1_30 : (rv x) mx1_30 x1_30) : RZ (RO (rs (rp (rv x) (rv x)) (rv x))) (gX3_withoutKey_30 mC mt_4 mx1_30) (fX3_withoutKey_30 C t_4 x1_30) := by
  unfold gX3_withoutKey_30 fX3_withoutKey_30
  exact rz_some (rs_l (rp_m hx1_30 (vadd_s (rp_2 ht_4) rl_1)))
noncomputable def gX3_withoutKey_4 (mC : RT) (mt_4 : (Nat × Nat)) : Option ((Nat × Nat) ⊕ Nat) := (tst (vnot (vlt mt_4.2 (gX2_size mC))) (exM (some mt_4.1)) (ckM (vin mt_4.2 16) (tst (veq (rd mC 440 mt_4.2) 0) (nmM (vor mt_4.1 (vshl 1 mt_4.2)) fun mv29_2 => (gX3_withoutKey_30 mC mt_4 mv29_2)) (gX3_withoutKey_30 mC mt_4 mt_4.1))))
theorem sX3_withoutKey_4 {x : Nat} (hx : x < 1000) {mC : RT} {C : Mem} (hC : (rm x) mC C) {mt_4 : (Nat × Nat)} {t_4 : (Int32 × Int32)} (ht_4 : (rp (rv x) (rv x)) mt_4 t_4) : RZ (RO (rs (rp (rv x) (rv x)) (rv x))) (gX3_withoutKey_4 mC mt_4) (fX3_withoutKey_4 C t_4) := by
  unfold gX3_withoutKey_4 fX3_withoutKey_4
  refine rz_tst (vle_s hx (sX2_size hx hC) (rp_2 ht_4)) ?_ ?_
  · refine rz_ex ?_
    exact rz_some (rp_1 ht_4)
  · refine rz_in (x := x) (rp_2 ht_4) (fun e_1 => ?_)
    try rw [e_1]
    refine rz_tst (veq_s hx (rd_s hC _ _) rl_0) ?_ ?_
    · refine rz_nm (x := x) (vor_s (rp_1 ht_4) (vshl_s rl_1 (rp_2 ht_4))) (fun mv29_2 v29_2 hv29_2 => ?_)
      exact (sX3_withoutKey_30 hx hC ht_4 hv29_2)
    · exact (sX3_withoutKey_30 hx hC ht_4 (rp_1 ht_4))
noncomputable def gX3_withoutKey (mC : RT) : Option Nat := (lpM (gX3_withoutKey_4 mC) 300 (0, 0))
theorem sX3_withoutKey {x : Nat} (hx : x < 1000) {mC : RT} {C : Mem} (hC : (rm x) mC C) : RZ (RO (rv x)) (gX3_withoutKey mC) (fX3_withoutKey C) := by
  unfold gX3_withoutKey fX3_withoutKey
  exact rz_lp (PS := (rp (rv x) (rv x))) (fun _ _ hs => sX3_withoutKey_4 hx hC hs) 300 (rp_m rl_0 rl_0)
noncomputable def gX3_dependenciesHaveKeys (mC : RT) (ma1 : Nat) : Option Nat := (bdM (gX2_dependenciesOf mC ma1) fun mq5_1 => (bdM (gX3_withoutKey mC) fun mq9_2 => (tst (veq (vand mq5_1 mq9_2) 0) (some 1) (some 0))))
theorem sX3_dependenciesHaveKeys {x : Nat} (hx : x < 1000) {mC : RT} {C : Mem} (hC : (rm x) mC C) {ma1 : Nat} {a1 : Int32} (ha1 : (rv x) ma1 a1) : RZ (RO (rv x)) (gX3_dependenciesHaveKeys mC ma1) (fX3_dependenciesHaveKeys C a1) := by
  unfold gX3_dependenciesHaveKeys fX3_dependenciesHaveKeys
  refine rz_bnd (P := (rv x)) (sX2_dependenciesOf hx hC ha1) (fun mq5_1 q5_1 hq5_1 => ?_)
  refine rz_bnd (P := (rv x)) (sX3_withoutKey hx hC) (fun mq9_2 q9_2 hq9_2 => ?_)
  refine rz_tst (veq_s hx (vand_s hq5_1 hq9_2) rl_0) ?_ ?_
  · exact rz_some rl_1
  · exact rz_some rl_0
noncomputable def gX3_agrees_2 (mC : RT) (ma1 : Nat) (ma2 : Nat) (mt_2 : Nat) : Option (Nat ⊕ Nat) := (tst (vnot (vlt mt_2 ma2)) (exM (some 1)) (ckM (vin ma1 201) (ckM (vin mt_2 40) (ckM (vin mt_2 40) (tst (veq (rd mC (Nat.add 238 ma1) mt_2) (rd mC 442 mt_2)) (some (.inl (vadd mt_2 1))) (exM (some 0)))))))
theorem sX3_agrees_2 {x : Nat} (hx : x < 1000) {mC : RT} {C : Mem} (hC : (rm x) mC C) {ma1 : Nat} {a1 : Int32} (ha1 : (rv x) ma1 a1) {ma2 : Nat} {a2 : Int32} (ha2 : (rv x) ma2 a2) {mt_2 : Nat} {t_2 : Int32} (ht_2 : (rv x) mt_2 t_2) : RZ (RO (rs (rv x) (rv x))) (gX3_agrees_2 mC ma1 ma2 mt_2) (fX3_agrees_2 C a1 a2 t_2) := by
  unfold gX3_agrees_2 fX3_agrees_2
  refine rz_tst (vle_s hx ha2 ht_2) ?_ ?_
  · refine rz_ex ?_
    exact rz_some rl_1
  · refine rz_in (x := x) ha1 (fun e_1 => ?_)
    try rw [e_1]
    refine rz_in (x := x) ht_2 (fun e_2 => ?_)
    try rw [e_2]
    refine rz_in (x := x) ht_2 (fun e_3 => ?_)
    try rw [e_3]
    refine rz_tst (veq_s hx (rd_s hC _ _) (rd_s hC _ _)) ?_ ?_
    · exact rz_some (rs_l (vadd_s ht_2 rl_1))
    · refine rz_ex ?_
      exact rz_some rl_0
noncomputable def gX3_agrees (mC : RT) (ma1 : Nat) (ma2 : Nat) : Option Nat := (lpM (gX3_agrees_2 mC ma1 ma2) 300 0)
theorem sX3_agrees {x : Nat} (hx : x < 1000) {mC : RT} {C : Mem} (hC : (rm x) mC C) {ma1 : Nat} {a1 : Int32} (ha1 : (rv x) ma1 a1) {ma2 : Nat} {a2 : Int32} (ha2 : (rv x) ma2 a2) : RZ (RO (rv x)) (gX3_agrees mC ma1 ma2) (fX3_agrees C a1 a2) := by
  unfold gX3_agrees fX3_agrees
  exact rz_lp (PS := (rv x)) (fun _ _ hs => sX3_agrees_2 hx hC ha1 ha2 hs) 300 rl_0
noncomputable def gX3_keyOfRow_32 (mC : RT) (ma1 : Nat) (mt_2 : Nat) : Option (Nat ⊕ Nat) := (some (.inl (vadd mt_2 1)))
theorem sX3_keyOfRow_32 {x : Nat} (hx : x < 1000) {mC : RT} {C : Mem} (hC : (rm x) mC C) {ma1 : Nat} {a1 : Int32} (ha1 : (rv x) ma1 a1) {mt_2 : Nat} {t_2 : Int32} (ht_2 : (rv x) mt_2 t_2) : RZ (RO (rs (rv x) (rv x))) (gX3_keyOfRow_32 mC ma1 mt_2) (fX3_keyOfRow_32 C a1 t_2) := by
  unfold gX3_keyOfRow_32 fX3_keyOfRow_32
  exact rz_some (rs_l (vadd_s ht_2 rl_1))
noncomputable def gX3_keyOfRow_2 (mC : RT) (ma1 : Nat) (mt_2 : Nat) : Option (Nat ⊕ Nat) := (tst (vlt (rd mC 236 7) mt_2) (exM (some 0)) (ckM (vin mt_2 201) (tst (veq (rd mC 439 mt_2) ma1) (bdM (gX3_agrees mC mt_2 40) fun mq24_2 => (tst (veq mq24_2 0) (gX3_keyOfRow_32 mC ma1 mt_2) (exM (some mt_2)))) (gX3_keyOfRow_32 mC ma1 mt_2))))
theorem sX3_keyOfRow_2 {x : Nat} (hx : x < 1000) {mC : RT} {C : Mem} (hC : (rm x) mC C) {ma1 : Nat} {a1 : Int32} (ha1 : (rv x) ma1 a1) {mt_2 : Nat} {t_2 : Int32} (ht_2 : (rv x) mt_2 t_2) : RZ (RO (rs (rv x) (rv x))) (gX3_keyOfRow_2 mC ma1 mt_2) (fX3_keyOfRow_2 C a1 t_2) := by
  unfold gX3_keyOfRow_2 fX3_keyOfRow_2
  refine rz_tst (vlt_s hx (rd_s hC _ _) ht_2) ?_ ?_
  · refine rz_ex ?_
    exact rz_some rl_0
  · refine rz_in (x := x) ht_2 (fun e_1 => ?_)
    try rw [e_1]
    refine rz_tst (veq_s hx (rd_s hC _ _) ha1) ?_ ?_
    · refine rz_bnd (P := (rv x)) (sX3_agrees hx hC ht_2 rl_40) (fun mq24_2 q24_2 hq24_2 => ?_)
      refine rz_tst (veq_s hx hq24_2 rl_0) ?_ ?_
      · exact (sX3_keyOfRow_32 hx hC ha1 ht_2)
      · refine rz_ex ?_
        exact rz_some ht_2
    · exact (sX3_keyOfRow_32 hx hC ha1 ht_2)
noncomputable def gX3_keyOfRow (mC : RT) (ma1 : Nat) : Option Nat := (lpM (gX3_keyOfRow_2 mC ma1) 300 1)
theorem sX3_keyOfRow {x : Nat} (hx : x < 1000) {mC : RT} {C : Mem} (hC : (rm x) mC C) {ma1 : Nat} {a1 : Int32} (ha1 : (rv x) ma1 a1) : RZ (RO (rv x)) (gX3_keyOfRow mC ma1) (fX3_keyOfRow C a1) := by
  unfold gX3_keyOfRow fX3_keyOfRow
  exact rz_lp (PS := (rv x)) (fun _ _ hs => sX3_keyOfRow_2 hx hC ha1 hs) 300 rl_1
noncomputable def gX3_lookUp_27 (mq2 : RT) (ms0_27 : Nat) (ms1_27 : Nat) : Option RT := (ckM (vin ms1_27 16) (some (wr mq2 440 ms1_27 ms0_27)))
theorem sX3_lookUp_27 {x : Nat} (hx : x < 1000) {mq2 : RT} {q2 : Mem} (hq2 : (rm x) mq2 q2) {ms0_27 : Nat} {s0_27 : Int32} (hs0_27 : (rv x) ms0_27 s0_27) {ms1_27 : Nat} {s1_27 : Int32} (hs1_27 : (rv x) ms1_27 s1_27) : RZ (RO (rm x)) (gX3_lookUp_27 mq2 ms0_27 ms1_27) (fX3_lookUp_27 q2 s0_27 s1_27) := by
  unfold gX3_lookUp_27 fX3_lookUp_27
  refine rz_in (x := x) hs1_27 (fun e_1 => ?_)
  try rw [e_1]
  exact rz_some (wr_s hq2 _ _ hs0_27)
noncomputable def gX3_lookUp (mC : RT) (ma1 : Nat) : Option RT := (bdM (gX3_fillRow mC ma1) fun mq2_1 => (bdM (gX3_dependenciesHaveKeys mq2_1 ma1) fun mq12_2 => (tst (veq mq12_2 0) (gX3_lookUp_27 mq2_1 0 ma1) (bdM (gX3_keyOfRow mq2_1 ma1) fun mq20_3 => (gX3_lookUp_27 mq2_1 mq20_3 ma1)))))
theorem sX3_lookUp {x : Nat} (hx : x < 1000) {mC : RT} {C : Mem} (hC : (rm x) mC C) {ma1 : Nat} {a1 : Int32} (ha1 : (rv x) ma1 a1) : RZ (RO (rm x)) (gX3_lookUp mC ma1) (fX3_lookUp C a1) := by
  unfold gX3_lookUp fX3_lookUp
  refine rz_bnd (P := (rm x)) (sX3_fillRow hx hC ha1) (fun mq2_1 q2_1 hq2_1 => ?_)
  refine rz_bnd (P := (rv x)) (sX3_dependenciesHaveKeys hx hq2_1 ha1) (fun mq12_2 q12_2 hq12_2 => ?_)
  refine rz_tst (veq_s hx hq12_2 rl_0) ?_ ?_
  · exact (sX3_lookUp_27 hx hq2_1 rl_0 ha1)
  · refine rz_bnd (P := (rv x)) (sX3_keyOfRow hx hq2_1 ha1) (fun mq20_3 q20_3 hq20_3 => ?_)
    exact (sX3_lookUp_27 hx hq2_1 hq20_3 ha1)
noncomputable def gX3_lookUpAll_9 (mt_9 : (RT × Nat)) : Option ((RT × Nat) ⊕ RT) := (tst (vnot (vlt mt_9.2 (gX2_size mt_9.1))) (exM (some mt_9.1)) (bdM (gX2_atPlace mt_9.1 mt_9.2) fun mq26_1 => (bdM (gX3_lookUp mt_9.1 mq26_1) fun mq29_2 => (some (.inl (mq29_2, (vadd mt_9.2 1)))))))
theorem sX3_lookUpAll_9 {x : Nat} (hx : x < 1000) {mt_9 : (RT × Nat)} {t_9 : (Mem × Int32)} (ht_9 : (rp (rm x) (rv x)) mt_9 t_9) : RZ (RO (rs (rp (rm x) (rv x)) (rm x))) (gX3_lookUpAll_9 mt_9) (fX3_lookUpAll_9 t_9) := by
  unfold gX3_lookUpAll_9 fX3_lookUpAll_9
  refine rz_tst (vle_s hx (sX2_size hx (rp_1 ht_9)) (rp_2 ht_9)) ?_ ?_
  · refine rz_ex ?_
    exact rz_some (rp_1 ht_9)
  · refine rz_bnd (P := (rv x)) (sX2_atPlace hx (rp_1 ht_9) (rp_2 ht_9)) (fun mq26_1 q26_1 hq26_1 => ?_)
    refine rz_bnd (P := (rm x)) (sX3_lookUp hx (rp_1 ht_9) hq26_1) (fun mq29_2 q29_2 hq29_2 => ?_)
    exact rz_some (rs_l (rp_m hq29_2 (vadd_s (rp_2 ht_9) rl_1)))
noncomputable def gX3_lookUpAll (mC : RT) : Option RT := (bdM (gX2_makeOrder mC) fun mq4_1 => (lpM (gX3_lookUpAll_9) 300 (mq4_1, 0)))
theorem sX3_lookUpAll {x : Nat} (hx : x < 1000) {mC : RT} {C : Mem} (hC : (rm x) mC C) : RZ (RO (rm x)) (gX3_lookUpAll mC) (fX3_lookUpAll C) := by
  unfold gX3_lookUpAll fX3_lookUpAll
  refine rz_bnd (P := (rm x)) (sX2_makeOrder hx hC) (fun mq4_1 q4_1 hq4_1 => ?_)
  exact rz_lp (PS := (rp (rm x) (rv x))) (fun _ _ hs => sX3_lookUpAll_9 hx hs) 300 (rp_m hq4_1 rl_0)
noncomputable def gX3_keyNow (mC : RT) (ma1 : Nat) : Option Nat := (ckM (vin ma1 16) (some (rd mC 440 ma1)))
theorem sX3_keyNow {x : Nat} (hx : x < 1000) {mC : RT} {C : Mem} (hC : (rm x) mC C) {ma1 : Nat} {a1 : Int32} (ha1 : (rv x) ma1 a1) : RZ (RO (rv x)) (gX3_keyNow mC ma1) (fX3_keyNow C a1) := by
  unfold gX3_keyNow fX3_keyNow
  refine rz_in (x := x) ha1 (fun e_1 => ?_)
  try rw [e_1]
  exact rz_some (rd_s hC _ _)
noncomputable def gX3_hasRun (mC : RT) (ma1 : Nat) : Option Nat := (ckM (vin ma1 16) (tst (veq (rd mC 441 ma1) 0) (some 0) (some 1)))
theorem sX3_hasRun {x : Nat} (hx : x < 1000) {mC : RT} {C : Mem} (hC : (rm x) mC C) {ma1 : Nat} {a1 : Int32} (ha1 : (rv x) ma1 a1) : RZ (RO (rv x)) (gX3_hasRun mC ma1) (fX3_hasRun C a1) := by
  unfold gX3_hasRun fX3_hasRun
  refine rz_in (x := x) ha1 (fun e_1 => ?_)
  try rw [e_1]
  refine rz_tst (veq_s hx (rd_s hC _ _) rl_0) ?_ ?_
  · exact rz_some rl_0
  · exact rz_some rl_1
noncomputable def gX3_hasLatestInputs (mC : RT) (ma1 : Nat) : Option (Nat × RT) := (bdM (gX3_fillRow mC ma1) fun mq2_1 => (ckM (vin ma1 16) (bdM (gX3_agrees mq2_1 (rd mq2_1 441 ma1) 24) fun mq14_3 => (ckM (vbo mq14_3) (some (mq14_3, mq2_1))))))
theorem sX3_hasLatestInputs {x : Nat} (hx : x < 1000) {mC : RT} {C : Mem} (hC : (rm x) mC C) {ma1 : Nat} {a1 : Int32} (ha1 : (rv x) ma1 a1) : RZ (RO (rp (rv x) (rm x))) (gX3_hasLatestInputs mC ma1) (fX3_hasLatestInputs C a1) := by
  unfold gX3_hasLatestInputs fX3_hasLatestInputs
  refine rz_bnd (P := (rm x)) (sX3_fillRow hx hC ha1) (fun mq2_1 q2_1 hq2_1 => ?_)
  refine rz_in (x := x) ha1 (fun e_2 => ?_)
  try rw [e_2]
  refine rz_bnd (P := (rv x)) (sX3_agrees hx hq2_1 (rd_s hq2_1 _ _) rl_24) (fun mq14_3 q14_3 hq14_3 => ?_)
  refine rz_ck (vbo_s (x := x) hq14_3) ?_
  exact rz_some (rp_m hq14_3 hq2_1)
noncomputable def gX3_given (mC : RT) : Nat := (rd mC 236 7)
theorem sX3_given {x : Nat} (hx : x < 1000) {mC : RT} {C : Mem} (hC : (rm x) mC C) : rv x (gX3_given mC) (fX3_given C) := by
  unfold gX3_given fX3_given
  exact (rd_s hC _ _)
noncomputable def gX3_give (mC : RT) (ma1 : Nat) : Option (Nat × RT) := (ckM (vin (rd (wr mC 236 7 (vadd (rd mC 236 7) 1)) 236 7) 201) (ckM (vin (rd (wr (wr mC 236 7 (vadd (rd mC 236 7) 1)) 439 (rd (wr mC 236 7 (vadd (rd mC 236 7) 1)) 236 7) ma1) 236 7) 201) (some ((rd (cpM (wr (wr mC 236 7 (vadd (rd mC 236 7) 1)) 439 (rd (wr mC 236 7 (vadd (rd mC 236 7) 1)) 236 7) ma1) 442 (Nat.add 238 (rd (wr (wr mC 236 7 (vadd (rd mC 236 7) 1)) 439 (rd (wr mC 236 7 (vadd (rd mC 236 7) 1)) 236 7) ma1) 236 7)) 40) 236 7), (cpM (wr (wr mC 236 7 (vadd (rd mC 236 7) 1)) 439 (rd (wr mC 236 7 (vadd (rd mC 236 7) 1)) 236 7) ma1) 442 (Nat.add 238 (rd (wr (wr mC 236 7 (vadd (rd mC 236 7) 1)) 439 (rd (wr mC 236 7 (vadd (rd mC 236 7) 1)) 236 7) ma1) 236 7)) 40)))))
theorem sX3_give {x : Nat} (hx : x < 1000) {mC : RT} {C : Mem} (hC : (rm x) mC C) {ma1 : Nat} {a1 : Int32} (ha1 : (rv x) ma1 a1) : RZ (RO (rp (rv x) (rm x))) (gX3_give mC ma1) (fX3_give C a1) := by
  unfold gX3_give fX3_give
  refine rz_in (x := x) (rd_s (wr_s hC _ _ (vadd_s (rd_s hC _ _) rl_1)) _ _) (fun e_1 => ?_)
  try rw [e_1]
  refine rz_in (x := x) (rd_s (wr_s (wr_s hC _ _ (vadd_s (rd_s hC _ _) rl_1)) _ _ ha1) _ _) (fun e_2 => ?_)
  try rw [e_2]
  exact rz_some (rp_m (rd_s (cpM_s (wr_s (wr_s hC _ _ (vadd_s (rd_s hC _ _) rl_1)) _ _ ha1) (by decide) _ 40 (by decide) (by decide) (by decide)) _ _) (cpM_s (wr_s (wr_s hC _ _ (vadd_s (rd_s hC _ _) rl_1)) _ _ ha1) (by decide) _ 40 (by decide) (by decide) (by decide)))
noncomputable def gX3_runOrFind_25 (ma1 : Nat) (mC_25 : RT) : Option (Nat × RT) := (ckM (vin ma1 16) (ckM (vin ma1 16) (ckM (vin ma1 16) (some ((rd (wr mC_25 441 ma1 (rd mC_25 440 ma1)) 440 ma1), (wr mC_25 441 ma1 (rd mC_25 440 ma1)))))))
theorem sX3_runOrFind_25 {x : Nat} (hx : x < 1000) {ma1 : Nat} {a1 : Int32} (ha1 : (rv x) ma1 a1) {mC_25 : RT} {C_25 : Mem} (hC_25 : (rm x) mC_25 C_25) : RZ (RO (rp (rv x) (rm x))) (gX3_runOrFind_25 ma1 mC_25) (fX3_runOrFind_25 a1 C_25) := by
  unfold gX3_runOrFind_25 fX3_runOrFind_25
  refine rz_in (x := x) ha1 (fun e_1 => ?_)
  try rw [e_1]
  refine rz_in (x := x) ha1 (fun e_2 => ?_)
  try rw [e_2]
  refine rz_in (x := x) ha1 (fun e_3 => ?_)
  try rw [e_3]
  exact rz_some (rp_m (rd_s (wr_s hC_25 _ _ (rd_s hC_25 _ _)) _ _) (wr_s hC_25 _ _ (rd_s hC_25 _ _)))
noncomputable def gX3_runOrFind (mC : RT) (ma1 : Nat) : Option (Nat × RT) := (bdM (gX3_lookUp mC ma1) fun mq2_1 => (ckM (vin ma1 16) (tst (veq (rd mq2_1 440 ma1) 0) (bdM (gX3_give mq2_1 ma1) fun mq21_3 => (ckM (vin ma1 16) (gX3_runOrFind_25 ma1 (wr mq21_3.2 440 ma1 mq21_3.1)))) (gX3_runOrFind_25 ma1 mq2_1))))
theorem sX3_runOrFind {x : Nat} (hx : x < 1000) {mC : RT} {C : Mem} (hC : (rm x) mC C) {ma1 : Nat} {a1 : Int32} (ha1 : (rv x) ma1 a1) : RZ (RO (rp (rv x) (rm x))) (gX3_runOrFind mC ma1) (fX3_runOrFind C a1) := by
  unfold gX3_runOrFind fX3_runOrFind
  refine rz_bnd (P := (rm x)) (sX3_lookUp hx hC ha1) (fun mq2_1 q2_1 hq2_1 => ?_)
  refine rz_in (x := x) ha1 (fun e_2 => ?_)
  try rw [e_2]
  refine rz_tst (veq_s hx (rd_s hq2_1 _ _) rl_0) ?_ ?_
  · refine rz_bnd (P := (rp (rv x) (rm x))) (sX3_give hx hq2_1 ha1) (fun mq21_3 q21_3 hq21_3 => ?_)
    refine rz_in (x := x) ha1 (fun e_4 => ?_)
    try rw [e_4]
    exact (sX3_runOrFind_25 hx ha1 (wr_s (rp_2 hq21_3) _ _ (rp_1 hq21_3)))
  · exact (sX3_runOrFind_25 hx ha1 hq2_1)
noncomputable def gX3_runOrFindAll_2 (mt_2 : (RT × Nat)) : Option ((RT × Nat) ⊕ RT) := (tst (vnot (vlt mt_2.2 (gX2_size mt_2.1))) (exM (some mt_2.1)) (bdM (gX2_atPlace mt_2.1 mt_2.2) fun mq19_1 => (bdM (gX3_runOrFind mt_2.1 mq19_1) fun mq22_2 => (some (.inl (mq22_2.2, (vadd mt_2.2 1)))))))
theorem sX3_runOrFindAll_2 {x : Nat} (hx : x < 1000) {mt_2 : (RT × Nat)} {t_2 : (Mem × Int32)} (ht_2 : (rp (rm x) (rv x)) mt_2 t_2) : RZ (RO (rs (rp (rm x) (rv x)) (rm x))) (gX3_runOrFindAll_2 mt_2) (fX3_runOrFindAll_2 t_2) := by
  unfold gX3_runOrFindAll_2 fX3_runOrFindAll_2
  refine rz_tst (vle_s hx (sX2_size hx (rp_1 ht_2)) (rp_2 ht_2)) ?_ ?_
  · refine rz_ex ?_
    exact rz_some (rp_1 ht_2)
  · refine rz_bnd (P := (rv x)) (sX2_atPlace hx (rp_1 ht_2) (rp_2 ht_2)) (fun mq19_1 q19_1 hq19_1 => ?_)
    refine rz_bnd (P := (rp (rv x) (rm x))) (sX3_runOrFind hx (rp_1 ht_2) hq19_1) (fun mq22_2 q22_2 hq22_2 => ?_)
    exact rz_some (rs_l (rp_m (rp_2 hq22_2) (vadd_s (rp_2 ht_2) rl_1)))
noncomputable def gX3_runOrFindAll (mC : RT) : Option RT := (lpM (gX3_runOrFindAll_2) 300 (mC, 0))
theorem sX3_runOrFindAll {x : Nat} (hx : x < 1000) {mC : RT} {C : Mem} (hC : (rm x) mC C) : RZ (RO (rm x)) (gX3_runOrFindAll mC) (fX3_runOrFindAll C) := by
  unfold gX3_runOrFindAll fX3_runOrFindAll
  exact rz_lp (PS := (rp (rm x) (rv x))) (fun _ _ hs => sX3_runOrFindAll_2 hx hs) 300 (rp_m hC rl_0)
