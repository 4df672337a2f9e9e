noncomputable def gL_add_16 (mC_16 : RT) : Option (Nat × RT) := (some (1, mC_16))
theorem sL_add_16 {x : Nat} (hx : x < 1000) {mC_16 : RT} {C_16 : Mem} (hC_16 : (rm x) mC_16 C_16) : RZ (RO (rp (rv x) (rm x))) (gL_add_16 mC_16) (fL_add_16 C_16) := by
  unfold gL_add_16 fL_add_16
  exact rz_some (rp_m rl_1 hC_16)
noncomputable def gL_add (mC : RT) (ma2 : Nat) : Option (Nat × RT) := (tst (veq ma2 46) (gL_add_16 mC) (bdM (gL_act mC 0 ma2 0) fun mq10_1 => (tst (vnot (vlt 0 mq10_1.1)) (some (0, mq10_1.2)) (gL_add_16 mq10_1.2))))
theorem sL_add {x : Nat} (hx : x < 1000) {mC : RT} {C : Mem} (hC : (rm x) mC C) {ma2 : Nat} {a2 : Int32} (ha2 : (rv x) ma2 a2) : RZ (RO (rp (rv x) (rm x))) (gL_add mC ma2) (fL_add C a2) := by
  unfold gL_add fL_add
  refine rz_tst (veq_s hx ha2 rl_46) ?_ ?_
  · exact (sL_add_16 hx hC)
  · refine rz_bnd (P := (rp (rv x) (rm x))) (sL_act hx hC rl_0 ha2 rl_0) (fun mq10_1 q10_1 hq10_1 => ?_)
    refine rz_tst (vle_s hx (rp_1 hq10_1) rl_0) ?_ ?_
    · exact rz_some (rp_m rl_0 (rp_2 hq10_1))
    · exact (sL_add_16 hx (rp_2 hq10_1))
noncomputable def gL_text_78 (mC_78 : RT) : Option (Nat × RT) := (some (0, mC_78))
theorem sL_text_78 {x : Nat} (hx : x < 1000) {mC_78 : RT} {C_78 : Mem} (hC_78 : (rm x) mC_78 C_78) : RZ (RO (rp (rv x) (rm x))) (gL_text_78 mC_78) (fL_text_78 C_78) := by
  unfold gL_text_78 fL_text_78
  exact rz_some (rp_m rl_0 hC_78)
noncomputable def gL_text (mC : RT) (ma2 : Nat) (ma3 : Nat) (ma4 : Nat) (ma5 : Nat) (ma6 : Nat) (ma7 : Nat) (ma8 : Nat) (ma9 : Nat) : Option (Nat × RT) := (bdM (gX7_clearText mC) fun mq1_1 => (bdM (gL_add mq1_1.2 ma2) fun mq7_2 => (tst (veq mq7_2.1 0) (gL_text_78 mq7_2.2) (bdM (gL_add mq7_2.2 ma3) fun mq15_3 => (tst (veq mq15_3.1 0) (gL_text_78 mq15_3.2) (bdM (gL_add mq15_3.2 ma4) fun mq23_4 => (tst (veq mq23_4.1 0) (gL_text_78 mq23_4.2) (bdM (gL_add mq23_4.2 ma5) fun mq32_5 => (tst (veq mq32_5.1 0) (gL_text_78 mq32_5.2) (bdM (gL_add mq32_5.2 ma6) fun mq41_6 => (tst (veq mq41_6.1 0) (gL_text_78 mq41_6.2) (bdM (gL_add mq41_6.2 ma7) fun mq50_7 => (tst (veq mq50_7.1 0) (gL_text_78 mq50_7.2) (bdM (gL_add mq50_7.2 ma8) fun mq59_8 => (tst (veq mq59_8.1 0) (gL_text_78 mq59_8.2) (bdM (gL_add mq59_8.2 ma9) fun mq68_9 => (tst (veq mq68_9.1 0) (gL_text_78 mq68_9.2) (some (1, mq68_9.2)))))))))))))))))))
theorem sL_text {x : Nat} (hx : x < 1000) {mC : RT} {C : Mem} (hC : (rm x) mC C) {ma2 : Nat} {a2 : Int32} (ha2 : (rv x) ma2 a2) {ma3 : Nat} {a3 : Int32} (ha3 : (rv x) ma3 a3) {ma4 : Nat} {a4 : Int32} (ha4 : (rv x) ma4 a4) {ma5 : Nat} {a5 : Int32} (ha5 : (rv x) ma5 a5) {ma6 : Nat} {a6 : Int32} (ha6 : (rv x) ma6 a6) {ma7 : Nat} {a7 : Int32} (ha7 : (rv x) ma7 a7) {ma8 : Nat} {a8 : Int32} (ha8 : (rv x) ma8 a8) {ma9 : Nat} {a9 : Int32} (ha9 : (rv x) ma9 a9) : RZ (RO (rp (rv x) (rm x))) (gL_text mC ma2 ma3 ma4 ma5 ma6 ma7 ma8 ma9) (fL_text C a2 a3 a4 a5 a6 a7 a8 a9) := by
  unfold gL_text fL_text
  refine rz_bnd (P := (rp (rv x) (rm x))) (sX7_clearText hx hC) (fun mq1_1 q1_1 hq1_1 => ?_)
  refine rz_bnd (P := (rp (rv x) (rm x))) (sL_add hx (rp_2 hq1_1) ha2) (fun mq7_2 q7_2 hq7_2 => ?_)
  refine rz_tst (veq_s hx (rp_1 hq7_2) rl_0) ?_ ?_
  · exact (sL_text_78 hx (rp_2 hq7_2))
  · refine rz_bnd (P := (rp (rv x) (rm x))) (sL_add hx (rp_2 hq7_2) ha3) (fun mq15_3 q15_3 hq15_3 => ?_)
    refine rz_tst (veq_s hx (rp_1 hq15_3) rl_0) ?_ ?_
    · exact (sL_text_78 hx (rp_2 hq15_3))
    · refine rz_bnd (P := (rp (rv x) (rm x))) (sL_add hx (rp_2 hq15_3) ha4) (fun mq23_4 q23_4 hq23_4 => ?_)
      refine rz_tst (veq_s hx (rp_1 hq23_4) rl_0) ?_ ?_
      · exact (sL_text_78 hx (rp_2 hq23_4))
      · refine rz_bnd (P := (rp (rv x) (rm x))) (sL_add hx (rp_2 hq23_4) ha5) (fun mq32_5 q32_5 hq32_5 => ?_)
        refine rz_tst (veq_s hx (rp_1 hq32_5) rl_0) ?_ ?_
        · exact (sL_text_78 hx (rp_2 hq32_5))
        · refine rz_bnd (P := (rp (rv x) (rm x))) (sL_add hx (rp_2 hq32_5) ha6) (fun mq41_6 q41_6 hq41_6 => ?_)
          refine rz_tst (veq_s hx (rp_1 hq41_6) rl_0) ?_ ?_
          · exact (sL_text_78 hx (rp_2 hq41_6))
          · refine rz_bnd (P := (rp (rv x) (rm x))) (sL_add hx (rp_2 hq41_6) ha7) (fun mq50_7 q50_7 hq50_7 => ?_)
            refine rz_tst (veq_s hx (rp_1 hq50_7) rl_0) ?_ ?_
            · exact (sL_text_78 hx (rp_2 hq50_7))
            · refine rz_bnd (P := (rp (rv x) (rm x))) (sL_add hx (rp_2 hq50_7) ha8) (fun mq59_8 q59_8 hq59_8 => ?_)
              refine rz_tst (veq_s hx (rp_1 hq59_8) rl_0) ?_ ?_
              · exact (sL_text_78 hx (rp_2 hq59_8))
              · refine rz_bnd (P := (rp (rv x) (rm x))) (sL_add hx (rp_2 hq59_8) ha9) (fun mq68_9 q68_9 hq68_9 => ?_)
                refine rz_tst (veq_s hx (rp_1 hq68_9) rl_0) ?_ ?_
                · exact (sL_text_78 hx (rp_2 hq68_9))
                · exact rz_some (rp_m rl_1 (rp_2 hq68_9))
noncomputable def gL_kind_24 (mC : RT) (ms0_24 : Nat) (ms1_24 : Nat) : Option Nat := (some (vadd ms1_24 ms0_24))
theorem sL_kind_24 {x : Nat} (hx : x < 1000) {mC : RT} {C : Mem} (hC : (rm x) mC C) {ms0_24 : Nat} {s0_24 : Int32} (hs0_24 : (rv x) ms0_24 s0_24) {ms1_24 : Nat} {s1_24 : Int32} (hs1_24 : (rv x) ms1_24 s1_24) : RZ (RO (rv x)) (gL_kind_24 mC ms0_24 ms1_24) (fL_kind_24 C s0_24 s1_24) := by
  unfold gL_kind_24 fL_kind_24
  exact rz_some (vadd_s hs1_24 hs0_24)
noncomputable def gL_kind_12 (mC : RT) (ms0_12 : Nat) : Option Nat := (bdM (gX7_isGlob mC) fun mq13_1 => (tst (veq mq13_1 0) (gL_kind_24 mC 0 ms0_12) (gL_kind_24 mC 2 ms0_12)))
theorem sL_kind_12 {x : Nat} (hx : x < 1000) {mC : RT} {C : Mem} (hC : (rm x) mC C) {ms0_12 : Nat} {s0_12 : Int32} (hs0_12 : (rv x) ms0_12 s0_12) : RZ (RO (rv x)) (gL_kind_12 mC ms0_12) (fL_kind_12 C s0_12) := by
  unfold gL_kind_12 fL_kind_12
  refine rz_bnd (P := (rv x)) (sX7_isGlob hx hC) (fun mq13_1 q13_1 hq13_1 => ?_)
  refine rz_tst (veq_s hx hq13_1 rl_0) ?_ ?_
  · exact (sL_kind_24 hx hC rl_0 hs0_12)
  · exact (sL_kind_24 hx hC rl_2 hs0_12)
noncomputable def gL_kind (mC : RT) : Option Nat := (bdM (gX7_isPath mC) fun mq1_1 => (tst (veq mq1_1 0) (gL_kind_12 mC 0) (gL_kind_12 mC 1)))
theorem sL_kind {x : Nat} (hx : x < 1000) {mC : RT} {C : Mem} (hC : (rm x) mC C) : RZ (RO (rv x)) (gL_kind mC) (fL_kind C) := by
  unfold gL_kind fL_kind
  refine rz_bnd (P := (rv x)) (sX7_isPath hx hC) (fun mq1_1 q1_1 hq1_1 => ?_)
  refine rz_tst (veq_s hx hq1_1 rl_0) ?_ ?_
  · exact (sL_kind_12 hx hC rl_0)
  · exact (sL_kind_12 hx hC rl_1)
noncomputable def gL_matched_28 (ma2 : Nat) (mt_4 : (RT × (Nat × Nat))) (mC_28 : RT) (ms0_28 : Nat) (ms1_28 : Nat) : Option ((RT × (Nat × Nat)) ⊕ (Nat × RT)) := (nmM (vor ms1_28 ms0_28) fun mv29_1 => (some (.inl (mC_28, (mv29_1, (vadd mt_4.2.2 1))))))
theorem sL_matched_28 {x : Nat} (hx : x < 1000) {ma2 : Nat} {a2 : Int32} (ha2 : (rv x) ma2 a2) {mt_4 : (RT × (Nat × Nat))} {t_4 : (Mem × (Int32 × Int32))} (ht_4 : (rp (rm x) (rp (rv x) (rv x))) mt_4 t_4) {mC_28 : RT} {C_28 : Mem} (hC_28 : (rm x) mC_28 C_28) {ms0_28 : Nat} {s0_28 : Int32} (hs0_28 : (rv x) ms0_28 s0_28) {ms1_28 : Nat} {s1_28 : Int32} (hs1_28 : (rv x) ms1_28 s1_28) : RZ (RO (rs (rp (rm x) (rp (rv x) (rv x))) (rp (rv x) (rm x)))) (gL_matched_28 ma2 mt_4 mC_28 ms0_28 ms1_28) (fL_matched_28 a2 t_4 C_28 s0_28 s1_28) := by
  unfold gL_matched_28 fL_matched_28
  refine rz_nm (x := x) (vor_s hs1_28 hs0_28) (fun mv29_1 v29_1 hv29_1 => ?_)
  exact rz_some (rs_l (rp_m hC_28 (rp_m hv29_1 (vadd_s (rp_2 (rp_2 ht_4)) rl_1))))
noncomputable def gL_matched_4 (ma2 : Nat) (mt_4 : (RT × (Nat × Nat))) : Option ((RT × (Nat × Nat)) ⊕ (Nat × RT)) := (tst (vnot (vlt mt_4.2.2 ma2)) (exM (some (mt_4.2.1, mt_4.1))) (bdM (gL_act mt_4.1 4 mt_4.2.2 0) fun mq14_1 => (tst (veq mq14_1.1 1) (gL_matched_28 ma2 mt_4 mq14_1.2 (vshl 1 mt_4.2.2) mt_4.2.1) (gL_matched_28 ma2 mt_4 mq14_1.2 0 mt_4.2.1))))
theorem sL_matched_4 {x : Nat} (hx : x < 1000) {ma2 : Nat} {a2 : Int32} (ha2 : (rv x) ma2 a2) {mt_4 : (RT × (Nat × Nat))} {t_4 : (Mem × (Int32 × Int32))} (ht_4 : (rp (rm x) (rp (rv x) (rv x))) mt_4 t_4) : RZ (RO (rs (rp (rm x) (rp (rv x) (rv x))) (rp (rv x) (rm x)))) (gL_matched_4 ma2 mt_4) (fL_matched_4 a2 t_4) := by
  unfold gL_matched_4 fL_matched_4
  refine rz_tst (vle_s hx ha2 (rp_2 (rp_2 ht_4))) ?_ ?_
  · refine rz_ex ?_
    exact rz_some (rp_m (rp_1 (rp_2 ht_4)) (rp_1 ht_4))
  · refine rz_bnd (P := (rp (rv x) (rm x))) (sL_act hx (rp_1 ht_4) rl_4 (rp_2 (rp_2 ht_4)) rl_0) (fun mq14_1 q14_1 hq14_1 => ?_)
    refine rz_tst (veq_s hx (rp_1 hq14_1) rl_1) ?_ ?_
    · exact (sL_matched_28 hx ha2 ht_4 (rp_2 hq14_1) (vshl_s rl_1 (rp_2 (rp_2 ht_4))) (rp_1 (rp_2 ht_4)))
    · exact (sL_matched_28 hx ha2 ht_4 (rp_2 hq14_1) rl_0 (rp_1 (rp_2 ht_4)))
noncomputable def gL_matched (mC : RT) (ma2 : Nat) : Option (Nat × RT) := (lpM (gL_matched_4 ma2) 300 (mC, (0, 0)))
theorem sL_matched {x : Nat} (hx : x < 1000) {mC : RT} {C : Mem} (hC : (rm x) mC C) {ma2 : Nat} {a2 : Int32} (ha2 : (rv x) ma2 a2) : RZ (RO (rp (rv x) (rm x))) (gL_matched mC ma2) (fL_matched C a2) := by
  unfold gL_matched fL_matched
  exact rz_lp (PS := (rp (rm x) (rp (rv x) (rv x)))) (fun _ _ hs => sL_matched_4 hx ha2 hs) 300 (rp_m hC (rp_m rl_0 rl_0))
noncomputable def gL_refuses_601 (mC_601 : RT) : Option (Nat × RT) := (some (0, mC_601))
theorem sL_refuses_601 {x : Nat} (hx : x < 1000) {mC_601 : RT} {C_601 : Mem} (hC_601 : (rm x) mC_601 C_601) : RZ (RO (rp (rv x) (rm x))) (gL_refuses_601 mC_601) (fL_refuses_601 C_601) := by
  unfold gL_refuses_601 fL_refuses_601
  exact rz_some (rp_m rl_0 hC_601)
noncomputable def gL_refuses_559 (mv14 : Nat) (mv4 : Nat) (mv9 : Nat) (mC_559 : RT) : Option (Nat × RT) := (tst (veq (gX7_files mC_559) mv4) (tst (veq (gX7_targets mC_559) mv9) (tst (veq (gX7_keys mC_559) mv14) (bdM (gX7_affectedBy mC_559 0) fun mq586_1 => (swM mq586_1 (fun mv586_2 => (bdM (gX7_affectedByGoingDown mC_559 0) fun mq591_3 => (swM mq591_3 (fun mv591_4 => (tst (veq mv586_2 mv591_4) (some (1, mC_559)) (gL_refuses_601 mC_559))) (fun u_5 => none)))) (fun u_6 => none))) (gL_refuses_601 mC_559)) (gL_refuses_601 mC_559)) (gL_refuses_601 mC_559))
theorem sL_refuses_559 {x : Nat} (hx : x < 1000) {mv14 : Nat} {v14 : Int32} (hv14 : (rv x) mv14 v14) {mv4 : Nat} {v4 : Int32} (hv4 : (rv x) mv4 v4) {mv9 : Nat} {v9 : Int32} (hv9 : (rv x) mv9 v9) {mC_559 : RT} {C_559 : Mem} (hC_559 : (rm x) mC_559 C_559) : RZ (RO (rp (rv x) (rm x))) (gL_refuses_559 mv14 mv4 mv9 mC_559) (fL_refuses_559 v14 v4 v9 C_559) := by
  unfold gL_refuses_559 fL_refuses_559
  refine rz_tst (veq_s hx (sX7_files hx hC_559) hv4) ?_ ?_
  · refine rz_tst (veq_s hx (sX7_targets hx hC_559) hv9) ?_ ?_
    · refine rz_tst (veq_s hx (sX7_keys hx hC_559) hv14) ?_ ?_
      · refine rz_bnd (P := (rs (rv x) (@Eq Nat))) (sX7_affectedBy hx hC_559 rl_0) (fun mq586_1 q586_1 hq586_1 => ?_)
        refine rz_sw (x := x) hq586_1 (fun mv586_2 v586_2 hv586_2 => ?_) (fun u_6 => ?_)
        · refine rz_bnd (P := (rs (rv x) (@Eq Nat))) (sX7_affectedByGoingDown hx hC_559 rl_0) (fun mq591_3 q591_3 hq591_3 => ?_)
          refine rz_sw (x := x) hq591_3 (fun mv591_4 v591_4 hv591_4 => ?_) (fun u_5 => ?_)
          · refine rz_tst (veq_s hx hv586_2 hv591_4) ?_ ?_
            · exact rz_some (rp_m rl_1 hC_559)
            · exact (sL_refuses_601 hx hC_559)
          · exact rz_none
        · exact rz_none
      · exact (sL_refuses_601 hx hC_559)
    · exact (sL_refuses_601 hx hC_559)
  · exact (sL_refuses_601 hx hC_559)
noncomputable def gL_refuses_553 (ma2 : Nat) (mt_23 : (RT × Nat)) (mv14 : Nat) (mv4 : Nat) (mv9 : Nat) (mC_553 : RT) : Option ((RT × Nat) ⊕ (Nat × RT)) := (some (.inl (mC_553, (vadd mt_23.2 1))))
theorem sL_refuses_553 {x : Nat} (hx : x < 1000) {ma2 : Nat} {a2 : Int32} (ha2 : (rv x) ma2 a2) {mt_23 : (RT × Nat)} {t_23 : (Mem × Int32)} (ht_23 : (rp (rm x) (rv x)) mt_23 t_23) {mv14 : Nat} {v14 : Int32} (hv14 : (rv x) mv14 v14) {mv4 : Nat} {v4 : Int32} (hv4 : (rv x) mv4 v4) {mv9 : Nat} {v9 : Int32} (hv9 : (rv x) mv9 v9) {mC_553 : RT} {C_553 : Mem} (hC_553 : (rm x) mC_553 C_553) : RZ (RO (rs (rp (rm x) (rv x)) (rp (rv x) (rm x)))) (gL_refuses_553 ma2 mt_23 mv14 mv4 mv9 mC_553) (fL_refuses_553 a2 t_23 v14 v4 v9 C_553) := by
  unfold gL_refuses_553 fL_refuses_553
  exact rz_some (rs_l (rp_m hC_553 (vadd_s (rp_2 ht_23) rl_1)))
noncomputable def gL_refuses_544 (ma2 : Nat) (mt_23 : (RT × Nat)) (mv14 : Nat) (mv4 : Nat) (mv9 : Nat) (mC_544 : RT) (ms0_544 : Nat) : Option ((RT × Nat) ⊕ (Nat × RT)) := (tst (veq ms0_544 0) (exM (some (0, mC_544))) (gL_refuses_553 ma2 mt_23 mv14 mv4 mv9 mC_544))
theorem sL_refuses_544 {x : Nat} (hx : x < 1000) {ma2 : Nat} {a2 : Int32} (ha2 : (rv x) ma2 a2) {mt_23 : (RT × Nat)} {t_23 : (Mem × Int32)} (ht_23 : (rp (rm x) (rv x)) mt_23 t_23) {mv14 : Nat} {v14 : Int32} (hv14 : (rv x) mv14 v14) {mv4 : Nat} {v4 : Int32} (hv4 : (rv x) mv4 v4) {mv9 : Nat} {v9 : Int32} (hv9 : (rv x) mv9 v9) {mC_544 : RT} {C_544 : Mem} (hC_544 : (rm x) mC_544 C_544) {ms0_544 : Nat} {s0_544 : Int32} (hs0_544 : (rv x) ms0_544 s0_544) : RZ (RO (rs (rp (rm x) (rv x)) (rp (rv x) (rm x)))) (gL_refuses_544 ma2 mt_23 mv14 mv4 mv9 mC_544 ms0_544) (fL_refuses_544 a2 t_23 v14 v4 v9 C_544 s0_544) := by
  unfold gL_refuses_544 fL_refuses_544
  refine rz_tst (veq_s hx hs0_544 rl_0) ?_ ?_
  · refine rz_ex ?_
    exact rz_some (rp_m rl_0 hC_544)
  · exact (sL_refuses_553 hx ha2 ht_23 hv14 hv4 hv9 hC_544)
noncomputable def gL_refuses_543 (ma2 : Nat) (mt_23 : (RT × Nat)) (mv14 : Nat) (mv4 : Nat) (mv9 : Nat) (mC_543 : RT) : Option ((RT × Nat) ⊕ (Nat × RT)) := (gL_refuses_544 ma2 mt_23 mv14 mv4 mv9 mC_543 0)
theorem sL_refuses_543 {x : Nat} (hx : x < 1000) {ma2 : Nat} {a2 : Int32} (ha2 : (rv x) ma2 a2) {mt_23 : (RT × Nat)} {t_23 : (Mem × Int32)} (ht_23 : (rp (rm x) (rv x)) mt_23 t_23) {mv14 : Nat} {v14 : Int32} (hv14 : (rv x) mv14 v14) {mv4 : Nat} {v4 : Int32} (hv4 : (rv x) mv4 v4) {mv9 : Nat} {v9 : Int32} (hv9 : (rv x) mv9 v9) {mC_543 : RT} {C_543 : Mem} (hC_543 : (rm x) mC_543 C_543) : RZ (RO (rs (rp (rm x) (rv x)) (rp (rv x) (rm x)))) (gL_refuses_543 ma2 mt_23 mv14 mv4 mv9 mC_543) (fL_refuses_543 a2 t_23 v14 v4 v9 C_543) := by
  unfold gL_refuses_543 fL_refuses_543
  exact (sL_refuses_544 hx ha2 ht_23 hv14 hv4 hv9 hC_543 rl_0)
noncomputable def gL_refuses_530 (ma2 : Nat) (mt_23 : (RT × Nat)) (mv14 : Nat) (mv4 : Nat) (mv9 : Nat) (mC_530 : RT) (ms0_530 : Nat) (ms1_530 : Nat) : Option ((RT × Nat) ⊕ (Nat × RT)) := (bdM (gL_act mC_530 ms1_530 ms0_530 0) fun mq531_1 => (tst (veq mq531_1.1 4294967264) (gL_refuses_544 ma2 mt_23 mv14 mv4 mv9 mq531_1.2 1) (gL_refuses_543 ma2 mt_23 mv14 mv4 mv9 mq531_1.2)))
theorem sL_refuses_530 {x : Nat} (hx : x < 1000) {ma2 : Nat} {a2 : Int32} (ha2 : (rv x) ma2 a2) {mt_23 : (RT × Nat)} {t_23 : (Mem × Int32)} (ht_23 : (rp (rm x) (rv x)) mt_23 t_23) {mv14 : Nat} {v14 : Int32} (hv14 : (rv x) mv14 v14) {mv4 : Nat} {v4 : Int32} (hv4 : (rv x) mv4 v4) {mv9 : Nat} {v9 : Int32} (hv9 : (rv x) mv9 v9) {mC_530 : RT} {C_530 : Mem} (hC_530 : (rm x) mC_530 C_530) {ms0_530 : Nat} {s0_530 : Int32} (hs0_530 : (rv x) ms0_530 s0_530) {ms1_530 : Nat} {s1_530 : Int32} (hs1_530 : (rv x) ms1_530 s1_530) : RZ (RO (rs (rp (rm x) (rv x)) (rp (rv x) (rm x)))) (gL_refuses_530 ma2 mt_23 mv14 mv4 mv9 mC_530 ms0_530 ms1_530) (fL_refuses_530 a2 t_23 v14 v4 v9 C_530 s0_530 s1_530) := by
  unfold gL_refuses_530 fL_refuses_530
  refine rz_bnd (P := (rp (rv x) (rm x))) (sL_act hx hC_530 hs1_530 hs0_530 rl_0) (fun mq531_1 q531_1 hq531_1 => ?_)
  refine rz_tst (veq_s hx (rp_1 hq531_1) rl_m32) ?_ ?_
  · exact (sL_refuses_544 hx ha2 ht_23 hv14 hv4 hv9 (rp_2 hq531_1) rl_1)
  · exact (sL_refuses_543 hx ha2 ht_23 hv14 hv4 hv9 (rp_2 hq531_1))
noncomputable def gL_refuses_475 (ma2 : Nat) (ms0_82 : Nat) (mt_23 : (RT × Nat)) (mt_436 : (RT × (Nat × Nat))) (mv14 : Nat) (mv4 : Nat) (mv9 : Nat) (mC_475 : RT) : Option ((RT × Nat) ⊕ (Nat × RT)) := (tst (veq mt_436.2.1 0) (gL_refuses_543 ma2 mt_23 mv14 mv4 mv9 mC_475) (bdM (gL_act mC_475 6 ms0_82 0) fun mq486_1 => (tst (veq mq486_1.1 4294967265) (tst (veq mt_23.2 0) (gL_refuses_530 ma2 mt_23 mv14 mv4 mv9 mq486_1.2 65 0) (tst (veq mt_23.2 1) (gL_refuses_530 ma2 mt_23 mv14 mv4 mv9 mq486_1.2 46 0) (tst (veq mt_23.2 2) (gL_refuses_530 ma2 mt_23 mv14 mv4 mv9 mq486_1.2 123 0) (gL_refuses_530 ma2 mt_23 mv14 mv4 mv9 mq486_1.2 48 0)))) (gL_refuses_543 ma2 mt_23 mv14 mv4 mv9 mq486_1.2))))
theorem sL_refuses_475 {x : Nat} (hx : x < 1000) {ma2 : Nat} {a2 : Int32} (ha2 : (rv x) ma2 a2) {ms0_82 : Nat} {s0_82 : Int32} (hs0_82 : (rv x) ms0_82 s0_82) {mt_23 : (RT × Nat)} {t_23 : (Mem × Int32)} (ht_23 : (rp (rm x) (rv x)) mt_23 t_23) {mt_436 : (RT × (Nat × Nat))} {t_436 : (Mem × (Int32 × Int32))} (ht_436 : (rp (rm x) (rp (rv x) (rv x))) mt_436 t_436) {mv14 : Nat} {v14 : Int32} (hv14 : (rv x) mv14 v14) {mv4 : Nat} {v4 : Int32} (hv4 : (rv x) mv4 v4) {mv9 : Nat} {v9 : Int32} (hv9 : (rv x) mv9 v9) {mC_475 : RT} {C_475 : Mem} (hC_475 : (rm x) mC_475 C_475) : RZ (RO (rs (rp (rm x) (rv x)) (rp (rv x) (rm x)))) (gL_refuses_475 ma2 ms0_82 mt_23 mt_436 mv14 mv4 mv9 mC_475) (fL_refuses_475 a2 s0_82 t_23 t_436 v14 v4 v9 C_475) := by
  unfold gL_refuses_475 fL_refuses_475
  refine rz_tst (veq_s hx (rp_1 (rp_2 ht_436)) rl_0) ?_ ?_
  · exact (sL_refuses_543 hx ha2 ht_23 hv14 hv4 hv9 hC_475)
  · refine rz_bnd (P := (rp (rv x) (rm x))) (sL_act hx hC_475 rl_6 hs0_82 rl_0) (fun mq486_1 q486_1 hq486_1 => ?_)
    refine rz_tst (veq_s hx (rp_1 hq486_1) rl_m31) ?_ ?_
    · refine rz_tst (veq_s hx (rp_2 ht_23) rl_0) ?_ ?_
      · exact (sL_refuses_530 hx ha2 ht_23 hv14 hv4 hv9 (rp_2 hq486_1) rl_65 rl_0)
      · refine rz_tst (veq_s hx (rp_2 ht_23) rl_1) ?_ ?_
        · exact (sL_refuses_530 hx ha2 ht_23 hv14 hv4 hv9 (rp_2 hq486_1) rl_46 rl_0)
        · refine rz_tst (veq_s hx (rp_2 ht_23) rl_2) ?_ ?_
          · exact (sL_refuses_530 hx ha2 ht_23 hv14 hv4 hv9 (rp_2 hq486_1) rl_123 rl_0)
          · exact (sL_refuses_530 hx ha2 ht_23 hv14 hv4 hv9 (rp_2 hq486_1) rl_48 rl_0)
    · exact (sL_refuses_543 hx ha2 ht_23 hv14 hv4 hv9 (rp_2 hq486_1))
noncomputable def gL_refuses_467 (ma2 : Nat) (ms0_82 : Nat) (mt_23 : (RT × Nat)) (mt_436 : (RT × (Nat × Nat))) (mv14 : Nat) (mv4 : Nat) (mv9 : Nat) (mC_467 : RT) (ms0_467 : Nat) : Option ((RT × (Nat × Nat)) ⊕ ((RT × Nat) ⊕ (Nat × RT))) := (some (.inl (mC_467, (ms0_467, (vadd mt_436.2.2 1)))))
theorem sL_refuses_467 {x : Nat} (hx : x < 1000) {ma2 : Nat} {a2 : Int32} (ha2 : (rv x) ma2 a2) {ms0_82 : Nat} {s0_82 : Int32} (hs0_82 : (rv x) ms0_82 s0_82) {mt_23 : (RT × Nat)} {t_23 : (Mem × Int32)} (ht_23 : (rp (rm x) (rv x)) mt_23 t_23) {mt_436 : (RT × (Nat × Nat))} {t_436 : (Mem × (Int32 × Int32))} (ht_436 : (rp (rm x) (rp (rv x) (rv x))) mt_436 t_436) {mv14 : Nat} {v14 : Int32} (hv14 : (rv x) mv14 v14) {mv4 : Nat} {v4 : Int32} (hv4 : (rv x) mv4 v4) {mv9 : Nat} {v9 : Int32} (hv9 : (rv x) mv9 v9) {mC_467 : RT} {C_467 : Mem} (hC_467 : (rm x) mC_467 C_467) {ms0_467 : Nat} {s0_467 : Int32} (hs0_467 : (rv x) ms0_467 s0_467) : RZ (RO (rs (rp (rm x) (rp (rv x) (rv x))) (rs (rp (rm x) (rv x)) (rp (rv x) (rm x))))) (gL_refuses_467 ma2 ms0_82 mt_23 mt_436 mv14 mv4 mv9 mC_467 ms0_467) (fL_refuses_467 a2 s0_82 t_23 t_436 v14 v4 v9 C_467 s0_467) := by
  unfold gL_refuses_467 fL_refuses_467
  exact rz_some (rs_l (rp_m hC_467 (rp_m hs0_467 (vadd_s (rp_2 (rp_2 ht_436)) rl_1))))
noncomputable def gL_refuses_466 (ma2 : Nat) (ms0_82 : Nat) (mt_23 : (RT × Nat)) (mt_436 : (RT × (Nat × Nat))) (mv14 : Nat) (mv4 : Nat) (mv9 : Nat) (mC_466 : RT) : Option ((RT × (Nat × Nat)) ⊕ ((RT × Nat) ⊕ (Nat × RT))) := (gL_refuses_467 ma2 ms0_82 mt_23 mt_436 mv14 mv4 mv9 mC_466 0)
theorem sL_refuses_466 {x : Nat} (hx : x < 1000) {ma2 : Nat} {a2 : Int32} (ha2 : (rv x) ma2 a2) {ms0_82 : Nat} {s0_82 : Int32} (hs0_82 : (rv x) ms0_82 s0_82) {mt_23 : (RT × Nat)} {t_23 : (Mem × Int32)} (ht_23 : (rp (rm x) (rv x)) mt_23 t_23) {mt_436 : (RT × (Nat × Nat))} {t_436 : (Mem × (Int32 × Int32))} (ht_436 : (rp (rm x) (rp (rv x) (rv x))) mt_436 t_436) {mv14 : Nat} {v14 : Int32} (hv14 : (rv x) mv14 v14) {mv4 : Nat} {v4 : Int32} (hv4 : (rv x) mv4 v4) {mv9 : Nat} {v9 : Int32} (hv9 : (rv x) mv9 v9) {mC_466 : RT} {C_466 : Mem} (hC_466 : (rm x) mC_466 C_466) : RZ (RO (rs (rp (rm x) (rp (rv x) (rv x))) (rs (rp (rm x) (rv x)) (rp (rv x) (rm x))))) (gL_refuses_466 ma2 ms0_82 mt_23 mt_436 mv14 mv4 mv9 mC_466) (fL_refuses_466 a2 s0_82 t_23 t_436 v14 v4 v9 C_466) := by
  unfold gL_refuses_466 fL_refuses_466
  exact (sL_refuses_467 hx ha2 hs0_82 ht_23 ht_436 hv14 hv4 hv9 hC_466 rl_0)
noncomputable def gL_refuses_436 (ma2 : Nat) (ms0_82 : Nat) (mt_23 : (RT × Nat)) (mv14 : Nat) (mv4 : Nat) (mv9 : Nat) (mt_436 : (RT × (Nat × Nat))) : Option ((RT × (Nat × Nat)) ⊕ ((RT × Nat) ⊕ (Nat × RT))) := (tst (vnot (vlt mt_436.2.2 16)) (exM (gL_refuses_475 ma2 ms0_82 mt_23 mt_436 mv14 mv4 mv9 mt_436.1)) (tst (veq mt_436.2.1 0) (gL_refuses_466 ma2 ms0_82 mt_23 mt_436 mv14 mv4 mv9 mt_436.1) (bdM (gL_act mt_436.1 mt_436.2.2 ms0_82 0) fun mq454_1 => (tst (veq mq454_1.1 4294967265) (gL_refuses_467 ma2 ms0_82 mt_23 mt_436 mv14 mv4 mv9 mq454_1.2 1) (gL_refuses_466 ma2 ms0_82 mt_23 mt_436 mv14 mv4 mv9 mq454_1.2)))))
theorem sL_refuses_436 {x : Nat} (hx : x < 1000) {ma2 : Nat} {a2 : Int32} (ha2 : (rv x) ma2 a2) {ms0_82 : Nat} {s0_82 : Int32} (hs0_82 : (rv x) ms0_82 s0_82) {mt_23 : (RT × Nat)} {t_23 : (Mem × Int32)} (ht_23 : (rp (rm x) (rv x)) mt_23 t_23) {mv14 : Nat} {v14 : Int32} (hv14 : (rv x) mv14 v14) {mv4 : Nat} {v4 : Int32} (hv4 : (rv x) mv4 v4) {mv9 : Nat} {v9 : Int32} (hv9 : (rv x) mv9 v9) {mt_436 : (RT × (Nat × Nat))} {t_436 : (Mem × (Int32 × Int32))} (ht_436 : (rp (rm x) (rp (rv x) (rv x))) mt_436 t_436) : RZ (RO (rs (rp (rm x) (rp (rv x) (rv x))) (rs (rp (rm x) (rv x)) (rp (rv x) (rm x))))) (gL_refuses_436 ma2 ms0_82 mt_23 mv14 mv4 mv9 mt_436) (fL_refuses_436 a2 s0_82 t_23 v14 v4 v9 t_436) := by
  unfold gL_refuses_436 fL_refuses_436
  refine rz_tst (vle_s hx rl_16 (rp_2 (rp_2 ht_436))) ?_ ?_
  · refine rz_ex ?_
    exact (sL_refuses_475 hx ha2 hs0_82 ht_23 ht_436 hv14 hv4 hv9 (rp_1 ht_436))
  · refine rz_tst (veq_s hx (rp_1 (rp_2 ht_436)) rl_0) ?_ ?_
    · exact (sL_refuses_466 hx ha2 hs0_82 ht_23 ht_436 hv14 hv4 hv9 (rp_1 ht_436))
    · refine rz_bnd (P := (rp (rv x) (rm x))) (sL_act hx (rp_1 ht_436) (rp_2 (rp_2 ht_436)) hs0_82 rl_0) (fun mq454_1 q454_1 hq454_1 => ?_)
      refine rz_tst (veq_s hx (rp_1 hq454_1) rl_m31) ?_ ?_
      · exact (sL_refuses_467 hx ha2 hs0_82 ht_23 ht_436 hv14 hv4 hv9 (rp_2 hq454_1) rl_1)
      · exact (sL_refuses_466 hx ha2 hs0_82 ht_23 ht_436 hv14 hv4 hv9 (rp_2 hq454_1))
noncomputable def gL_refuses_432 (ma2 : Nat) (ms0_82 : Nat) (mt_23 : (RT × Nat)) (mt_393 : (RT × (Nat × Nat))) (mv14 : Nat) (mv4 : Nat) (mv9 : Nat) (mC_432 : RT) : Option ((RT × Nat) ⊕ (Nat × RT)) := (lpM (gL_refuses_436 ma2 ms0_82 mt_23 mv14 mv4 mv9) 300 (mC_432, (mt_393.2.1, 13)))
theorem sL_refuses_432 {x : Nat} (hx : x < 1000) {ma2 : Nat} {a2 : Int32} (ha2 : (rv x) ma2 a2) {ms0_82 : Nat} {s0_82 : Int32} (hs0_82 : (rv x) ms0_82 s0_82) {mt_23 : (RT × Nat)} {t_23 : (Mem × Int32)} (ht_23 : (rp (rm x) (rv x)) mt_23 t_23) {mt_393 : (RT × (Nat × Nat))} {t_393 : (Mem × (Int32 × Int32))} (ht_393 : (rp (rm x) (rp (rv x) (rv x))) mt_393 t_393) {mv14 : Nat} {v14 : Int32} (hv14 : (rv x) mv14 v14) {mv4 : Nat} {v4 : Int32} (hv4 : (rv x) mv4 v4) {mv9 : Nat} {v9 : Int32} (hv9 : (rv x) mv9 v9) {mC_432 : RT} {C_432 : Mem} (hC_432 : (rm x) mC_432 C_432) : RZ (RO (rs (rp (rm x) (rv x)) (rp (rv x) (rm x)))) (gL_refuses_432 ma2 ms0_82 mt_23 mt_393 mv14 mv4 mv9 mC_432) (fL_refuses_432 a2 s0_82 t_23 t_393 v14 v4 v9 C_432) := by
  unfold gL_refuses_432 fL_refuses_432
  exact rz_lp (PS := (rp (rm x) (rp (rv x) (rv x)))) (fun _ _ hs => sL_refuses_436 hx ha2 hs0_82 ht_23 hv14 hv4 hv9 hs) 300 (rp_m hC_432 (rp_m (rp_1 (rp_2 ht_393)) rl_13))
noncomputable def gL_refuses_424 (ma2 : Nat) (ms0_82 : Nat) (mt_23 : (RT × Nat)) (mt_393 : (RT × (Nat × Nat))) (mv14 : Nat) (mv4 : Nat) (mv9 : Nat) (mC_424 : RT) (ms0_424 : Nat) : Option ((RT × (Nat × Nat)) ⊕ ((RT × Nat) ⊕ (Nat × RT))) := (some (.inl (mC_424, (ms0_424, (vadd mt_393.2.2 1)))))
theorem sL_refuses_424 {x : Nat} (hx : x < 1000) {ma2 : Nat} {a2 : Int32} (ha2 : (rv x) ma2 a2) {ms0_82 : Nat} {s0_82 : Int32} (hs0_82 : (rv x) ms0_82 s0_82) {mt_23 : (RT × Nat)} {t_23 : (Mem × Int32)} (ht_23 : (rp (rm x) (rv x)) mt_23 t_23) {mt_393 : (RT × (Nat × Nat))} {t_393 : (Mem × (Int32 × Int32))} (ht_393 : (rp (rm x) (rp (rv x) (rv x))) mt_393 t_393) {mv14 : Nat} {v14 : Int32} (hv14 : (rv x) mv14 v14) {mv4 : Nat} {v4 : Int32} (hv4 : (rv x) mv4 v4) {mv9 : Nat} {v9 : Int32} (hv9 : (rv x) mv9 v9) {mC_424 : RT} {C_424 : Mem} (hC_424 : (rm x) mC_424 C_424) {ms0_424 : Nat} {s0_424 : Int32} (hs0_424 : (rv x) ms0_424 s0_424) : RZ (RO (rs (rp (rm x) (rp (rv x) (rv x))) (rs (rp (rm x) (rv x)) (rp (rv x) (rm x))))) (gL_refuses_424 ma2 ms0_82 mt_23 mt_393 mv14 mv4 mv9 mC_424 ms0_424) (fL_refuses_424 a2 s0_82 t_23 t_393 v14 v4 v9 C_424 s0_424) := by
  unfold gL_refuses_424 fL_refuses_424
  exact rz_some (rs_l (rp_m hC_424 (rp_m hs0_424 (vadd_s (rp_2 (rp_2 ht_393)) rl_1))))
noncomputable def gL_refuses_423 (ma2 : Nat) (ms0_82 : Nat) (mt_23 : (RT × Nat)) (mt_393 : (RT × (Nat × Nat))) (mv14 : Nat) (mv4 : Nat) (mv9 : Nat) (mC_423 : RT) : Option ((RT × (Nat × Nat)) ⊕ ((RT × Nat) ⊕ (Nat × RT))) := (gL_refuses_424 ma2 ms0_82 mt_23 mt_393 mv14 mv4 mv9 mC_423 0)
theorem sL_refuses_423 {x : Nat} (hx : x < 1000) {ma2 : Nat} {a2 : Int32} (ha2 : (rv x) ma2 a2) {ms0_82 : Nat} {s0_82 : Int32} (hs0_82 : (rv x) ms0_82 s0_82) {mt_23 : (RT × Nat)} {t_23 : (Mem × Int32)} (ht_23 : (rp (rm x) (rv x)) mt_23 t_23) {mt_393 : (RT × (Nat × Nat))} {t_393 : (Mem × (Int32 × Int32))} (ht_393 : (rp (rm x) (rp (rv x) (rv x))) mt_393 t_393) {mv14 : Nat} {v14 : Int32} (hv14 : (rv x) mv14 v14) {mv4 : Nat} {v4 : Int32} (hv4 : (rv x) mv4 v4) {mv9 : Nat} {v9 : Int32} (hv9 : (rv x) mv9 v9) {mC_423 : RT} {C_423 : Mem} (hC_423 : (rm x) mC_423 C_423) : RZ (RO (rs (rp (rm x) (rp (rv x) (rv x))) (rs (rp (rm x) (rv x)) (rp (rv x) (rm x))))) (gL_refuses_423 ma2 ms0_82 mt_23 mt_393 mv14 mv4 mv9 mC_423) (fL_refuses_423 a2 s0_82 t_23 t_393 v14 v4 v9 C_423) := by
  unfold gL_refuses_423 fL_refuses_423
  exact (sL_refuses_424 hx ha2 hs0_82 ht_23 ht_393 hv14 hv4 hv9 hC_423 rl_0)
noncomputable def gL_refuses_393 (ma2 : Nat) (ms0_82 : Nat) (mt_23 : (RT × Nat)) (mv14 : Nat) (mv4 : Nat) (mv9 : Nat) (mt_393 : (RT × (Nat × Nat))) : Option ((RT × (Nat × Nat)) ⊕ ((RT × Nat) ⊕ (Nat × RT))) := (tst (vnot (vlt mt_393.2.2 11)) (exM (gL_refuses_432 ma2 ms0_82 mt_23 mt_393 mv14 mv4 mv9 mt_393.1)) (tst (veq mt_393.2.1 0) (gL_refuses_423 ma2 ms0_82 mt_23 mt_393 mv14 mv4 mv9 mt_393.1) (bdM (gL_act mt_393.1 mt_393.2.2 ms0_82 0) fun mq411_1 => (tst (veq mq411_1.1 4294967265) (gL_refuses_424 ma2 ms0_82 mt_23 mt_393 mv14 mv4 mv9 mq411_1.2 1) (gL_refuses_423 ma2 ms0_82 mt_23 mt_393 mv14 mv4 mv9 mq411_1.2)))))
theorem sL_refuses_393 {x : Nat} (hx : x < 1000) {ma2 : Nat} {a2 : Int32} (ha2 : (rv x) ma2 a2) {ms0_82 : Nat} {s0_82 : Int32} (hs0_82 : (rv x) ms0_82 s0_82) {mt_23 : (RT × Nat)} {t_23 : (Mem × Int32)} (ht_23 : (rp (rm x) (rv x)) mt_23 t_23) {mv14 : Nat} {v14 : Int32} (hv14 : (rv x) mv14 v14) {mv4 : Nat} {v4 : Int32} (hv4 : (rv x) mv4 v4) {mv9 : Nat} {v9 : Int32} (hv9 : (rv x) mv9 v9) {mt_393 : (RT × (Nat × Nat))} {t_393 : (Mem × (Int32 × Int32))} (ht_393 : (rp (rm x) (rp (rv x) (rv x))) mt_393 t_393) : RZ (RO (rs (rp (rm x) (rp (rv x) (rv x))) (rs (rp (rm x) (rv x)) (rp (rv x) (rm x))))) (gL_refuses_393 ma2 ms0_82 mt_23 mv14 mv4 mv9 mt_393) (fL_refuses_393 a2 s0_82 t_23 v14 v4 v9 t_393) := by
  unfold gL_refuses_393 fL_refuses_393
  refine rz_tst (vle_s hx rl_11 (rp_2 (rp_2 ht_393))) ?_ ?_
  · refine rz_ex ?_
    exact (sL_refuses_432 hx ha2 hs0_82 ht_23 ht_393 hv14 hv4 hv9 (rp_1 ht_393))
  · refine rz_tst (veq_s hx (rp_1 (rp_2 ht_393)) rl_0) ?_ ?_
    · exact (sL_refuses_423 hx ha2 hs0_82 ht_23 ht_393 hv14 hv4 hv9 (rp_1 ht_393))
    · refine rz_bnd (P := (rp (rv x) (rm x))) (sL_act hx (rp_1 ht_393) (rp_2 (rp_2 ht_393)) hs0_82 rl_0) (fun mq411_1 q411_1 hq411_1 => ?_)
      refine rz_tst (veq_s hx (rp_1 hq411_1) rl_m31) ?_ ?_
      · exact (sL_refuses_424 hx ha2 hs0_82 ht_23 ht_393 hv14 hv4 hv9 (rp_2 hq411_1) rl_1)
      · exact (sL_refuses_423 hx ha2 hs0_82 ht_23 ht_393 hv14 hv4 hv9 (rp_2 hq411_1))
noncomputable def gL_refuses_387 (ma2 : Nat) (ms0_82 : Nat) (mt_23 : (RT × Nat)) (mv14 : Nat) (mv4 : Nat) (mv9 : Nat) (mC_387 : RT) (ms0_387 : Nat) : Option ((RT × Nat) ⊕ (Nat × RT)) := (lpM (gL_refuses_393 ma2 ms0_82 mt_23 mv14 mv4 mv9) 300 (mC_387, (ms0_387, 8)))
theorem sL_refuses_387 {x : Nat} (hx : x < 1000) {ma2 : Nat} {a2 : Int32} (ha2 : (rv x) ma2 a2) {ms0_82 : Nat} {s0_82 : Int32} (hs0_82 : (rv x) ms0_82 s0_82) {mt_23 : (RT × Nat)} {t_23 : (Mem × Int32)} (ht_23 : (rp (rm x) (rv x)) mt_23 t_23) {mv14 : Nat} {v14 : Int32} (hv14 : (rv x) mv14 v14) {mv4 : Nat} {v4 : Int32} (hv4 : (rv x) mv4 v4) {mv9 : Nat} {v9 : Int32} (hv9 : (rv x) mv9 v9) {mC_387 : RT} {C_387 : Mem} (hC_387 : (rm x) mC_387 C_387) {ms0_387 : Nat} {s0_387 : Int32} (hs0_387 : (rv x) ms0_387 s0_387) : RZ (RO (rs (rp (rm x) (rv x)) (rp (rv x) (rm x)))) (gL_refuses_387 ma2 ms0_82 mt_23 mv14 mv4 mv9 mC_387 ms0_387) (fL_refuses_387 a2 s0_82 t_23 v14 v4 v9 C_387 s0_387) := by
  unfold gL_refuses_387 fL_refuses_387
  exact rz_lp (PS := (rp (rm x) (rp (rv x) (rv x)))) (fun _ _ hs => sL_refuses_393 hx ha2 hs0_82 ht_23 hv14 hv4 hv9 hs) 300 (rp_m hC_387 (rp_m hs0_387 rl_8))
noncomputable def gL_refuses_386 (ma2 : Nat) (ms0_82 : Nat) (mt_23 : (RT × Nat)) (mv14 : Nat) (mv4 : Nat) (mv9 : Nat) (mC_386 : RT) : Option ((RT × Nat) ⊕ (Nat × RT)) := (gL_refuses_387 ma2 ms0_82 mt_23 mv14 mv4 mv9 mC_386 0)
theorem sL_refuses_386 {x : Nat} (hx : x < 1000) {ma2 : Nat} {a2 : Int32} (ha2 : (rv x) ma2 a2) {ms0_82 : Nat} {s0_82 : Int32} (hs0_82 : (rv x) ms0_82 s0_82) {mt_23 : (RT × Nat)} {t_23 : (Mem × Int32)} (ht_23 : (rp (rm x) (rv x)) mt_23 t_23) {mv14 : Nat} {v14 : Int32} (hv14 : (rv x) mv14 v14) {mv4 : Nat} {v4 : Int32} (hv4 : (rv x) mv4 v4) {mv9 : Nat} {v9 : Int32} (hv9 : (rv x) mv9 v9) {mC_386 : RT} {C_386 : Mem} (hC_386 : (rm x) mC_386 C_386) : RZ (RO (rs (rp (rm x) (rv x)) (rp (rv x) (rm x)))) (gL_refuses_386 ma2 ms0_82 mt_23 mv14 mv4 mv9 mC_386) (fL_refuses_386 a2 s0_82 t_23 v14 v4 v9 C_386) := by
  unfold gL_refuses_386 fL_refuses_386
  exact (sL_refuses_387 hx ha2 hs0_82 ht_23 hv14 hv4 hv9 hC_386 rl_0)
noncomputable def gL_refuses_373 (ma2 : Nat) (ms0_82 : Nat) (mt_23 : (RT × Nat)) (mv14 : Nat) (mv4 : Nat) (mv9 : Nat) (mC_373 : RT) (ms0_373 : Nat) (ms1_373 : Nat) : Option ((RT × Nat) ⊕ (Nat × RT)) := (bdM (gL_act mC_373 ms1_373 ms0_373 0) fun mq374_1 => (tst (veq mq374_1.1 4294967265) (gL_refuses_387 ma2 ms0_82 mt_23 mv14 mv4 mv9 mq374_1.2 1) (gL_refuses_386 ma2 ms0_82 mt_23 mv14 mv4 mv9 mq374_1.2)))
theorem sL_refuses_373 {x : Nat} (hx : x < 1000) {ma2 : Nat} {a2 : Int32} (ha2 : (rv x) ma2 a2) {ms0_82 : Nat} {s0_82 : Int32} (hs0_82 : (rv x) ms0_82 s0_82) {mt_23 : (RT × Nat)} {t_23 : (Mem × Int32)} (ht_23 : (rp (rm x) (rv x)) mt_23 t_23) {mv14 : Nat} {v14 : Int32} (hv14 : (rv x) mv14 v14) {mv4 : Nat} {v4 : Int32} (hv4 : (rv x) mv4 v4) {mv9 : Nat} {v9 : Int32} (hv9 : (rv x) mv9 v9) {mC_373 : RT} {C_373 : Mem} (hC_373 : (rm x) mC_373 C_373) {ms0_373 : Nat} {s0_373 : Int32} (hs0_373 : (rv x) ms0_373 s0_373) {ms1_373 : Nat} {s1_373 : Int32} (hs1_373 : (rv x) ms1_373 s1_373) : RZ (RO (rs (rp (rm x) (rv x)) (rp (rv x) (rm x)))) (gL_refuses_373 ma2 ms0_82 mt_23 mv14 mv4 mv9 mC_373 ms0_373 ms1_373) (fL_refuses_373 a2 s0_82 t_23 v14 v4 v9 C_373 s0_373 s1_373) := by
  unfold gL_refuses_373 fL_refuses_373
  refine rz_bnd (P := (rp (rv x) (rm x))) (sL_act hx hC_373 hs1_373 hs0_373 rl_0) (fun mq374_1 q374_1 hq374_1 => ?_)
  refine rz_tst (veq_s hx (rp_1 hq374_1) rl_m31) ?_ ?_
  · exact (sL_refuses_387 hx ha2 hs0_82 ht_23 hv14 hv4 hv9 (rp_2 hq374_1) rl_1)
  · exact (sL_refuses_386 hx ha2 hs0_82 ht_23 hv14 hv4 hv9 (rp_2 hq374_1))
noncomputable def gL_refuses_348 (ma2 : Nat) (ms0_54 : Nat) (ms0_82 : Nat) (mt_23 : (RT × Nat)) (mv14 : Nat) (mv4 : Nat) (mv9 : Nat) (mC_348 : RT) (ms0_348 : Nat) (ms1_348 : Nat) : Option ((RT × Nat) ⊕ (Nat × RT)) := (bdM (gL_act mC_348 ms1_348 ms0_348 0) fun mq349_1 => (tst (veq mq349_1.1 4294967264) (tst (veq mt_23.2 1) (gL_refuses_373 ma2 ms0_82 mt_23 mv14 mv4 mv9 mq349_1.2 8 20) (gL_refuses_373 ma2 ms0_82 mt_23 mv14 mv4 mv9 mq349_1.2 ms0_54 20)) (gL_refuses_386 ma2 ms0_82 mt_23 mv14 mv4 mv9 mq349_1.2)))
theorem sL_refuses_348 {x : Nat} (hx : x < 1000) {ma2 : Nat} {a2 : Int32} (ha2 : (rv x) ma2 a2) {ms0_54 : Nat} {s0_54 : Int32} (hs0_54 : (rv x) ms0_54 s0_54) {ms0_82 : Nat} {s0_82 : Int32} (hs0_82 : (rv x) ms0_82 s0_82) {mt_23 : (RT × Nat)} {t_23 : (Mem × Int32)} (ht_23 : (rp (rm x) (rv x)) mt_23 t_23) {mv14 : Nat} {v14 : Int32} (hv14 : (rv x) mv14 v14) {mv4 : Nat} {v4 : Int32} (hv4 : (rv x) mv4 v4) {mv9 : Nat} {v9 : Int32} (hv9 : (rv x) mv9 v9) {mC_348 : RT} {C_348 : Mem} (hC_348 : (rm x) mC_348 C_348) {ms0_348 : Nat} {s0_348 : Int32} (hs0_348 : (rv x) ms0_348 s0_348) {ms1_348 : Nat} {s1_348 : Int32} (hs1_348 : (rv x) ms1_348 s1_348) : RZ (RO (rs (rp (rm x) (rv x)) (rp (rv x) (rm x)))) (gL_refuses_348 ma2 ms0_54 ms0_82 mt_23 mv14 mv4 mv9 mC_348 ms0_348 ms1_348) (fL_refuses_348 a2 s0_54 s0_82 t_23 v14 v4 v9 C_348 s0_348 s1_348) := by
  unfold gL_refuses_348 fL_refuses_348
  refine rz_bnd (P := (rp (rv x) (rm x))) (sL_act hx hC_348 hs1_348 hs0_348 rl_0) (fun mq349_1 q349_1 hq349_1 => ?_)
  refine rz_tst (veq_s hx (rp_1 hq349_1) rl_m32) ?_ ?_
  · refine rz_tst (veq_s hx (rp_2 ht_23) rl_1) ?_ ?_
    · exact (sL_refuses_373 hx ha2 hs0_82 ht_23 hv14 hv4 hv9 (rp_2 hq349_1) rl_8 rl_20)
    · exact (sL_refuses_373 hx ha2 hs0_82 ht_23 hv14 hv4 hv9 (rp_2 hq349_1) hs0_54 rl_20)
  · exact (sL_refuses_386 hx ha2 hs0_82 ht_23 hv14 hv4 hv9 (rp_2 hq349_1))
noncomputable def gL_refuses_201 (ma2 : Nat) (ms0_122 : Nat) (ms0_54 : Nat) (ms0_68 : Nat) (ms0_82 : Nat) (mt_23 : (RT × Nat)) (mv14 : Nat) (mv4 : Nat) (mv9 : Nat) (mC_201 : RT) (ms0_201 : Nat) (ms1_201 : Nat) : Option ((RT × Nat) ⊕ (Nat × RT)) := (bdM (gL_act mC_201 ms1_201 ms0_201 0) fun mq202_1 => (tst (veq mq202_1.1 4294967264) (bdM (gL_act mq202_1.2 7 ms0_82 0) fun mq216_2 => (tst (veq mq216_2.1 4294967265) (bdM (gL_act mq216_2.2 7 0 ms0_82) fun mq230_3 => (tst (veq mq230_3.1 4294967265) (bdM (gL_act mq230_3.2 11 ms0_68 0) fun mq244_4 => (tst (veq mq244_4.1 4294967265) (bdM (gL_act mq244_4.2 12 ms0_68 0) fun mq258_5 => (tst (veq mq258_5.1 4294967265) (bdM (gL_act mq258_5.2 21 ms0_68 0) fun mq272_6 => (tst (veq mq272_6.1 4294967265) (bdM (gL_act mq272_6.2 17 ms0_82 0) fun mq286_7 => (tst (veq mq286_7.1 4294967265) (bdM (gL_act mq286_7.2 17 0 ms0_122) fun mq300_8 => (tst (veq mq300_8.1 4294967264) (bdM (gL_act mq300_8.2 18 ms0_122 0) fun mq314_9 => (tst (veq mq314_9.1 4294967264) (tst (veq mt_23.2 0) (gL_refuses_348 ma2 ms0_54 ms0_82 mt_23 mv14 mv4 mv9 mq314_9.2 0 19) (tst (veq mt_23.2 1) (gL_refuses_348 ma2 ms0_54 ms0_82 mt_23 mv14 mv4 mv9 mq314_9.2 16001 19) (gL_refuses_348 ma2 ms0_54 ms0_82 mt_23 mv14 mv4 mv9 mq314_9.2 ms0_54 19))) (gL_refuses_386 ma2 ms0_82 mt_23 mv14 mv4 mv9 mq314_9.2))) (gL_refuses_386 ma2 ms0_82 mt_23 mv14 mv4 mv9 mq300_8.2))) (gL_refuses_386 ma2 ms0_82 mt_23 mv14 mv4 mv9 mq286_7.2))) (gL_refuses_386 ma2 ms0_82 mt_23 mv14 mv4 mv9 mq272_6.2))) (gL_refuses_386 ma2 ms0_82 mt_23 mv14 mv4 mv9 mq258_5.2))) (gL_refuses_386 ma2 ms0_82 mt_23 mv14 mv4 mv9 mq244_4.2))) (gL_refuses_386 ma2 ms0_82 mt_23 mv14 mv4 mv9 mq230_3.2))) (gL_refuses_386 ma2 ms0_82 mt_23 mv14 mv4 mv9 mq216_2.2))) (gL_refuses_386 ma2 ms0_82 mt_23 mv14 mv4 mv9 mq202_1.2)))
theorem sL_refuses_201 {x : Nat} (hx : x < 1000) {ma2 : Nat} {a2 : Int32} (ha2 : (rv x) ma2 a2) {ms0_122 : Nat} {s0_122 : Int32} (hs0_122 : (rv x) ms0_122 s0_122) {ms0_54 : Nat} {s0_54 : Int32} (hs0_54 : (rv x) ms0_54 s0_54) {ms0_68 : Nat} {s0_68 : Int32} (hs0_68 : (rv x) ms0_68 s0_68) {ms0_82 : Nat} {s0_82 : Int32} (hs0_82 : (rv x) ms0_82 s0_82) {mt_23 : (RT × Nat)} {t_23 : (Mem × Int32)} (ht_23 : (rp (rm x) (rv x)) mt_23 t_23) {mv14 : Nat} {v14 : Int32} (hv14 : (rv x) mv14 v14) {mv4 : Nat} {v4 : Int32} (hv4 : (rv x) mv4 v4) {mv9 : Nat} {v9 : Int32} (hv9 : (rv x) mv9 v9) {mC_201 : RT} {C_201 : Mem} (hC_201 : (rm x) mC_201 C_201) {ms0_201 : Nat} {s0_201 : Int32} (hs0_201 : (rv x) ms0_201 s0_201) {ms1_201 : Nat} {s1_201 : Int32} (hs1_201 : (rv x) ms1_201 s1_201) : RZ (RO (rs (rp (rm x) (rv x)) (rp (rv x) (rm x)))) (gL_refuses_201 ma2 ms0_122 ms0_54 ms0_68 ms0_82 mt_23 mv14 mv4 mv9 mC_201 ms0_201 ms1_201) (fL_refuses_201 a2 s0_122 s0_54 s0_68 s0_82 t_23 v14 v4 v9 C_201 s0_201 s1_201) := by
  unfold gL_refuses_201 fL_refuses_201
  refine rz_bnd (P := (rp (rv x) (rm x))) (sL_act hx hC_201 hs1_201 hs0_201 rl_0) (fun mq202_1 q202_1 hq202_1 => ?_)
  refine rz_tst (veq_s hx (rp_1 hq202_1) rl_m32) ?_ ?_
  · refine rz_bnd (P := (rp (rv x) (rm x))) (sL_act hx (rp_2 hq202_1) rl_7 hs0_82 rl_0) (fun mq216_2 q216_2 hq216_2 => ?_)
    refine rz_tst (veq_s hx (rp_1 hq216_2) rl_m31) ?_ ?_
    · refine rz_bnd (P := (rp (rv x) (rm x))) (sL_act hx (rp_2 hq216_2) rl_7 rl_0 hs0_82) (fun mq230_3 q230_3 hq230_3 => ?_)
      refine rz_tst (veq_s hx (rp_1 hq230_3) rl_m31) ?_ ?_
      · refine rz_bnd (P := (rp (rv x) (rm x))) (sL_act hx (rp_2 hq230_3) rl_11 hs0_68 rl_0) (fun mq244_4 q244_4 hq244_4 => ?_)
        refine rz_tst (veq_s hx (rp_1 hq244_4) rl_m31) ?_ ?_
        · refine rz_bnd (P := (rp (rv x) (rm x))) (sL_act hx (rp_2 hq244_4) rl_12 hs0_68 rl_0) (fun mq258_5 q258_5 hq258_5 => ?_)
          refine rz_tst (veq_s hx (rp_1 hq258_5) rl_m31) ?_ ?_
          · refine rz_bnd (P := (rp (rv x) (rm x))) (sL_act hx (rp_2 hq258_5) rl_21 hs0_68 rl_0) (fun mq272_6 q272_6 hq272_6 => ?_)
            refine rz_tst (veq_s hx (rp_1 hq272_6) rl_m31) ?_ ?_
            · refine rz_bnd (P := (rp (rv x) (rm x))) (sL_act hx (rp_2 hq272_6) rl_17 hs0_82 rl_0) (fun mq286_7 q286_7 hq286_7 => ?_)
              refine rz_tst (veq_s hx (rp_1 hq286_7) rl_m31) ?_ ?_
              · refine rz_bnd (P := (rp (rv x) (rm x))) (sL_act hx (rp_2 hq286_7) rl_17 rl_0 hs0_122) (fun mq300_8 q300_8 hq300_8 => ?_)
                refine rz_tst (veq_s hx (rp_1 hq300_8) rl_m32) ?_ ?_
                · refine rz_bnd (P := (rp (rv x) (rm x))) (sL_act hx (rp_2 hq300_8) rl_18 hs0_122 rl_0) (fun mq314_9 q314_9 hq314_9 => ?_)
                  refine rz_tst (veq_s hx (rp_1 hq314_9) rl_m32) ?_ ?_
                  · refine rz_tst (veq_s hx (rp_2 ht_23) rl_0) ?_ ?_
                    · exact (sL_refuses_348 hx ha2 hs0_54 hs0_82 ht_23 hv14 hv4 hv9 (rp_2 hq314_9) rl_0 rl_19)
                    · refine rz_tst (veq_s hx (rp_2 ht_23) rl_1) ?_ ?_
                      · exact (sL_refuses_348 hx ha2 hs0_54 hs0_82 ht_23 hv14 hv4 hv9 (rp_2 hq314_9) rl_16001 rl_19)
                      · exact (sL_refuses_348 hx ha2 hs0_54 hs0_82 ht_23 hv14 hv4 hv9 (rp_2 hq314_9) hs0_54 rl_19)
                  · exact (sL_refuses_386 hx ha2 hs0_82 ht_23 hv14 hv4 hv9 (rp_2 hq314_9))
                · exact (sL_refuses_386 hx ha2 hs0_82 ht_23 hv14 hv4 hv9 (rp_2 hq300_8))
              · exact (sL_refuses_386 hx ha2 hs0_82 ht_23 hv14 hv4 hv9 (rp_2 hq286_7))
            · exact (sL_refuses_386 hx ha2 hs0_82 ht_23 hv14 hv4 hv9 (rp_2 hq272_6))
          · exact (sL_refuses_386 hx ha2 hs0_82 ht_23 hv14 hv4 hv9 (rp_2 hq258_5))
        · exact (sL_refuses_386 hx ha2 hs0_82 ht_23 hv14 hv4 hv9 (rp_2 hq244_4))
      · exact (sL_refuses_386 hx ha2 hs0_82 ht_23 hv14 hv4 hv9 (rp_2 hq230_3))
    · exact (sL_refuses_386 hx ha2 hs0_82 ht_23 hv14 hv4 hv9 (rp_2 hq216_2))
  · exact (sL_refuses_386 hx ha2 hs0_82 ht_23 hv14 hv4 hv9 (rp_2 hq202_1))
noncomputable def gL_refuses_122 (ma2 : Nat) (ms0_54 : Nat) (ms0_68 : Nat) (ms0_82 : Nat) (ms0_98 : Nat) (mt_23 : (RT × Nat)) (mv14 : Nat) (mv4 : Nat) (mv9 : Nat) (mC_122 : RT) (ms0_122 : Nat) : Option ((RT × Nat) ⊕ (Nat × RT)) := (bdM (gL_act mC_122 1 ms0_98 0) fun mq129_1 => (tst (veq mq129_1.1 4294967264) (bdM (gL_act mq129_1.2 2 ms0_68 4294967295) fun mq142_2 => (tst (veq mq142_2.1 4294967265) (bdM (gL_act mq142_2.2 3 ms0_68 0) fun mq155_3 => (tst (veq mq155_3.1 4294967265) (bdM (gL_act mq155_3.2 4 ms0_68 0) fun mq168_4 => (tst (veq mq168_4.1 4294967265) (tst (veq mt_23.2 0) (gL_refuses_201 ma2 ms0_122 ms0_54 ms0_68 ms0_82 mt_23 mv14 mv4 mv9 mq168_4.2 0 5) (tst (veq mt_23.2 1) (gL_refuses_201 ma2 ms0_122 ms0_54 ms0_68 ms0_82 mt_23 mv14 mv4 mv9 mq168_4.2 1001 5) (gL_refuses_201 ma2 ms0_122 ms0_54 ms0_68 ms0_82 mt_23 mv14 mv4 mv9 mq168_4.2 ms0_54 5))) (gL_refuses_386 ma2 ms0_82 mt_23 mv14 mv4 mv9 mq168_4.2))) (gL_refuses_386 ma2 ms0_82 mt_23 mv14 mv4 mv9 mq155_3.2))) (gL_refuses_386 ma2 ms0_82 mt_23 mv14 mv4 mv9 mq142_2.2))) (gL_refuses_386 ma2 ms0_82 mt_23 mv14 mv4 mv9 mq129_1.2)))
theorem sL_refuses_122 {x : Nat} (hx : x < 1000) {ma2 : Nat} {a2 : Int32} (ha2 : (rv x) ma2 a2) {ms0_54 : Nat} {s0_54 : Int32} (hs0_54 : (rv x) ms0_54 s0_54) {ms0_68 : Nat} {s0_68 : Int32} (hs0_68 : (rv x) ms0_68 s0_68) {ms0_82 : Nat} {s0_82 : Int32} (hs0_82 : (rv x) ms0_82 s0_82) {ms0_98 : Nat} {s0_98 : Int32} (hs0_98 : (rv x) ms0_98 s0_98) {mt_23 : (RT × Nat)} {t_23 : (Mem × Int32)} (ht_23 : (rp (rm x) (rv x)) mt_23 t_23) {mv14 : Nat} {v14 : Int32} (hv14 : (rv x) mv14 v14) {mv4 : Nat} {v4 : Int32} (hv4 : (rv x) mv4 v4) {mv9 : Nat} {v9 : Int32} (hv9 : (rv x) mv9 v9) {mC_122 : RT} {C_122 : Mem} (hC_122 : (rm x) mC_122 C_122) {ms0_122 : Nat} {s0_122 : Int32} (hs0_122 : (rv x) ms0_122 s0_122) : RZ (RO (rs (rp (rm x) (rv x)) (rp (rv x) (rm x)))) (gL_refuses_122 ma2 ms0_54 ms0_68 ms0_82 ms0_98 mt_23 mv14 mv4 mv9 mC_122 ms0_122) (fL_refuses_122 a2 s0_54 s0_68 s0_82 s0_98 t_23 v14 v4 v9 C_122 s0_122) := by
  unfold gL_refuses_122 fL_refuses_122
  refine rz_bnd (P := (rp (rv x) (rm x))) (sL_act hx hC_122 rl_1 hs0_98 rl_0) (fun mq129_1 q129_1 hq129_1 => ?_)
  refine rz_tst (veq_s hx (rp_1 hq129_1) rl_m32) ?_ ?_
  · refine rz_bnd (P := (rp (rv x) (rm x))) (sL_act hx (rp_2 hq129_1) rl_2 hs0_68 rl_m1) (fun mq142_2 q142_2 hq142_2 => ?_)
    refine rz_tst (veq_s hx (rp_1 hq142_2) rl_m31) ?_ ?_
    · refine rz_bnd (P := (rp (rv x) (rm x))) (sL_act hx (rp_2 hq142_2) rl_3 hs0_68 rl_0) (fun mq155_3 q155_3 hq155_3 => ?_)
      refine rz_tst (veq_s hx (rp_1 hq155_3) rl_m31) ?_ ?_
      · refine rz_bnd (P := (rp (rv x) (rm x))) (sL_act hx (rp_2 hq155_3) rl_4 hs0_68 rl_0) (fun mq168_4 q168_4 hq168_4 => ?_)
        refine rz_tst (veq_s hx (rp_1 hq168_4) rl_m31) ?_ ?_
        · refine rz_tst (veq_s hx (rp_2 ht_23) rl_0) ?_ ?_
          · exact (sL_refuses_201 hx ha2 hs0_122 hs0_54 hs0_68 hs0_82 ht_23 hv14 hv4 hv9 (rp_2 hq168_4) rl_0 rl_5)
          · refine rz_tst (veq_s hx (rp_2 ht_23) rl_1) ?_ ?_
            · exact (sL_refuses_201 hx ha2 hs0_122 hs0_54 hs0_68 hs0_82 ht_23 hv14 hv4 hv9 (rp_2 hq168_4) rl_1001 rl_5)
            · exact (sL_refuses_201 hx ha2 hs0_122 hs0_54 hs0_68 hs0_82 ht_23 hv14 hv4 hv9 (rp_2 hq168_4) hs0_54 rl_5)
        · exact (sL_refuses_386 hx ha2 hs0_82 ht_23 hv14 hv4 hv9 (rp_2 hq168_4))
      · exact (sL_refuses_386 hx ha2 hs0_82 ht_23 hv14 hv4 hv9 (rp_2 hq155_3))
    · exact (sL_refuses_386 hx ha2 hs0_82 ht_23 hv14 hv4 hv9 (rp_2 hq142_2))
  · exact (sL_refuses_386 hx ha2 hs0_82 ht_23 hv14 hv4 hv9 (rp_2 hq129_1))
noncomputable def gL_refuses_98 (ma2 : Nat) (ms0_54 : Nat) (ms0_68 : Nat) (ms0_82 : Nat) (mt_23 : (RT × Nat)) (mv14 : Nat) (mv4 : Nat) (mv9 : Nat) (mC_98 : RT) (ms0_98 : Nat) : Option ((RT × Nat) ⊕ (Nat × RT)) := (tst (veq mt_23.2 0) (gL_refuses_122 ma2 ms0_54 ms0_68 ms0_82 ms0_98 mt_23 mv14 mv4 mv9 mC_98 0) (tst (veq mt_23.2 1) (gL_refuses_122 ma2 ms0_54 ms0_68 ms0_82 ms0_98 mt_23 mv14 mv4 mv9 mC_98 9) (gL_refuses_122 ma2 ms0_54 ms0_68 ms0_82 ms0_98 mt_23 mv14 mv4 mv9 mC_98 ms0_54)))
theorem sL_refuses_98 {x : Nat} (hx : x < 1000) {ma2 : Nat} {a2 : Int32} (ha2 : (rv x) ma2 a2) {ms0_54 : Nat} {s0_54 : Int32} (hs0_54 : (rv x) ms0_54 s0_54) {ms0_68 : Nat} {s0_68 : Int32} (hs0_68 : (rv x) ms0_68 s0_68) {ms0_82 : Nat} {s0_82 : Int32} (hs0_82 : (rv x) ms0_82 s0_82) {mt_23 : (RT × Nat)} {t_23 : (Mem × Int32)} (ht_23 : (rp (rm x) (rv x)) mt_23 t_23) {mv14 : Nat} {v14 : Int32} (hv14 : (rv x) mv14 v14) {mv4 : Nat} {v4 : Int32} (hv4 : (rv x) mv4 v4) {mv9 : Nat} {v9 : Int32} (hv9 : (rv x) mv9 v9) {mC_98 : RT} {C_98 : Mem} (hC_98 : (rm x) mC_98 C_98) {ms0_98 : Nat} {s0_98 : Int32} (hs0_98 : (rv x) ms0_98 s0_98) : RZ (RO (rs (rp (rm x) (rv x)) (rp (rv x) (rm x)))) (gL_refuses_98 ma2 ms0_54 ms0_68 ms0_82 mt_23 mv14 mv4 mv9 mC_98 ms0_98) (fL_refuses_98 a2 s0_54 s0_68 s0_82 t_23 v14 v4 v9 C_98 s0_98) := by
  unfold gL_refuses_98 fL_refuses_98
  refine rz_tst (veq_s hx (rp_2 ht_23) rl_0) ?_ ?_
  · exact (sL_refuses_122 hx ha2 hs0_54 hs0_68 hs0_82 hs0_98 ht_23 hv14 hv4 hv9 hC_98 rl_0)
  · refine rz_tst (veq_s hx (rp_2 ht_23) rl_1) ?_ ?_
    · exact (sL_refuses_122 hx ha2 hs0_54 hs0_68 hs0_82 hs0_98 ht_23 hv14 hv4 hv9 hC_98 rl_9)
    · exact (sL_refuses_122 hx ha2 hs0_54 hs0_68 hs0_82 hs0_98 ht_23 hv14 hv4 hv9 hC_98 hs0_54)
noncomputable def gL_refuses_82 (ma2 : Nat) (ms0_54 : Nat) (ms0_68 : Nat) (mt_23 : (RT × Nat)) (mv14 : Nat) (mv4 : Nat) (mv9 : Nat) (mC_82 : RT) (ms0_82 : Nat) : Option ((RT × Nat) ⊕ (Nat × RT)) := (tst (veq mt_23.2 1) (gL_refuses_98 ma2 ms0_54 ms0_68 ms0_82 mt_23 mv14 mv4 mv9 mC_82 10000) (gL_refuses_98 ma2 ms0_54 ms0_68 ms0_82 mt_23 mv14 mv4 mv9 mC_82 ms0_54))
theorem sL_refuses_82 {x : Nat} (hx : x < 1000) {ma2 : Nat} {a2 : Int32} (ha2 : (rv x) ma2 a2) {ms0_54 : Nat} {s0_54 : Int32} (hs0_54 : (rv x) ms0_54 s0_54) {ms0_68 : Nat} {s0_68 : Int32} (hs0_68 : (rv x) ms0_68 s0_68) {mt_23 : (RT × Nat)} {t_23 : (Mem × Int32)} (ht_23 : (rp (rm x) (rv x)) mt_23 t_23) {mv14 : Nat} {v14 : Int32} (hv14 : (rv x) mv14 v14) {mv4 : Nat} {v4 : Int32} (hv4 : (rv x) mv4 v4) {mv9 : Nat} {v9 : Int32} (hv9 : (rv x) mv9 v9) {mC_82 : RT} {C_82 : Mem} (hC_82 : (rm x) mC_82 C_82) {ms0_82 : Nat} {s0_82 : Int32} (hs0_82 : (rv x) ms0_82 s0_82) : RZ (RO (rs (rp (rm x) (rv x)) (rp (rv x) (rm x)))) (gL_refuses_82 ma2 ms0_54 ms0_68 mt_23 mv14 mv4 mv9 mC_82 ms0_82) (fL_refuses_82 a2 s0_54 s0_68 t_23 v14 v4 v9 C_82 s0_82) := by
  unfold gL_refuses_82 fL_refuses_82
  refine rz_tst (veq_s hx (rp_2 ht_23) rl_1) ?_ ?_
  · exact (sL_refuses_98 hx ha2 hs0_54 hs0_68 hs0_82 ht_23 hv14 hv4 hv9 hC_82 rl_10000)
  · exact (sL_refuses_98 hx ha2 hs0_54 hs0_68 hs0_82 ht_23 hv14 hv4 hv9 hC_82 hs0_54)
noncomputable def gL_refuses_68 (ma2 : Nat) (ms0_54 : Nat) (mt_23 : (RT × Nat)) (mv14 : Nat) (mv4 : Nat) (mv9 : Nat) (mC_68 : RT) (ms0_68 : Nat) : Option ((RT × Nat) ⊕ (Nat × RT)) := (tst (veq mt_23.2 1) (gL_refuses_82 ma2 ms0_54 ms0_68 mt_23 mv14 mv4 mv9 mC_68 mv9) (gL_refuses_82 ma2 ms0_54 ms0_68 mt_23 mv14 mv4 mv9 mC_68 ms0_54))
theorem sL_refuses_68 {x : Nat} (hx : x < 1000) {ma2 : Nat} {a2 : Int32} (ha2 : (rv x) ma2 a2) {ms0_54 : Nat} {s0_54 : Int32} (hs0_54 : (rv x) ms0_54 s0_54) {mt_23 : (RT × Nat)} {t_23 : (Mem × Int32)} (ht_23 : (rp (rm x) (rv x)) mt_23 t_23) {mv14 : Nat} {v14 : Int32} (hv14 : (rv x) mv14 v14) {mv4 : Nat} {v4 : Int32} (hv4 : (rv x) mv4 v4) {mv9 : Nat} {v9 : Int32} (hv9 : (rv x) mv9 v9) {mC_68 : RT} {C_68 : Mem} (hC_68 : (rm x) mC_68 C_68) {ms0_68 : Nat} {s0_68 : Int32} (hs0_68 : (rv x) ms0_68 s0_68) : RZ (RO (rs (rp (rm x) (rv x)) (rp (rv x) (rm x)))) (gL_refuses_68 ma2 ms0_54 mt_23 mv14 mv4 mv9 mC_68 ms0_68) (fL_refuses_68 a2 s0_54 t_23 v14 v4 v9 C_68 s0_68) := by
  unfold gL_refuses_68 fL_refuses_68
  refine rz_tst (veq_s hx (rp_2 ht_23) rl_1) ?_ ?_
  · exact (sL_refuses_82 hx ha2 hs0_54 hs0_68 ht_23 hv14 hv4 hv9 hC_68 hv9)
  · exact (sL_refuses_82 hx ha2 hs0_54 hs0_68 ht_23 hv14 hv4 hv9 hC_68 hs0_54)
noncomputable def gL_refuses_54 (ma2 : Nat) (mt_23 : (RT × Nat)) (mv14 : Nat) (mv4 : Nat) (mv9 : Nat) (mC_54 : RT) (ms0_54 : Nat) : Option ((RT × Nat) ⊕ (Nat × RT)) := (tst (veq mt_23.2 1) (gL_refuses_68 ma2 ms0_54 mt_23 mv14 mv4 mv9 mC_54 ma2) (gL_refuses_68 ma2 ms0_54 mt_23 mv14 mv4 mv9 mC_54 ms0_54))
theorem sL_refuses_54 {x : Nat} (hx : x < 1000) {ma2 : Nat} {a2 : Int32} (ha2 : (rv x) ma2 a2) {mt_23 : (RT × Nat)} {t_23 : (Mem × Int32)} (ht_23 : (rp (rm x) (rv x)) mt_23 t_23) {mv14 : Nat} {v14 : Int32} (hv14 : (rv x) mv14 v14) {mv4 : Nat} {v4 : Int32} (hv4 : (rv x) mv4 v4) {mv9 : Nat} {v9 : Int32} (hv9 : (rv x) mv9 v9) {mC_54 : RT} {C_54 : Mem} (hC_54 : (rm x) mC_54 C_54) {ms0_54 : Nat} {s0_54 : Int32} (hs0_54 : (rv x) ms0_54 s0_54) : RZ (RO (rs (rp (rm x) (rv x)) (rp (rv x) (rm x)))) (gL_refuses_54 ma2 mt_23 mv14 mv4 mv9 mC_54 ms0_54) (fL_refuses_54 a2 t_23 v14 v4 v9 C_54 s0_54) := by
  unfold gL_refuses_54 fL_refuses_54
  refine rz_tst (veq_s hx (rp_2 ht_23) rl_1) ?_ ?_
  · exact (sL_refuses_68 hx ha2 hs0_54 ht_23 hv14 hv4 hv9 hC_54 ha2)
  · exact (sL_refuses_68 hx ha2 hs0_54 ht_23 hv14 hv4 hv9 hC_54 hs0_54)
noncomputable def gL_refuses_23 (ma2 : Nat) (mv14 : Nat) (mv4 : Nat) (mv9 : Nat) (mt_23 : (RT × Nat)) : Option ((RT × Nat) ⊕ (Nat × RT)) := (tst (vnot (vlt mt_23.2 4)) (exM (gL_refuses_559 mv14 mv4 mv9 mt_23.1)) (tst (veq mt_23.2 0) (gL_refuses_54 ma2 mt_23 mv14 mv4 mv9 mt_23.1 4294967295) (tst (veq mt_23.2 2) (gL_refuses_54 ma2 mt_23 mv14 mv4 mv9 mt_23.1 2147483647) (gL_refuses_54 ma2 mt_23 mv14 mv4 mv9 mt_23.1 (vsub (vneg 2147483647) 1)))))
theorem sL_refuses_23 {x : Nat} (hx : x < 1000) {ma2 : Nat} {a2 : Int32} (ha2 : (rv x) ma2 a2) {mv14 : Nat} {v14 : Int32} (hv14 : (rv x) mv14 v14) {mv4 : Nat} {v4 : Int32} (hv4 : (rv x) mv4 v4) {mv9 : Nat} {v9 : Int32} (hv9 : (rv x) mv9 v9) {mt_23 : (RT × Nat)} {t_23 : (Mem × Int32)} (ht_23 : (rp (rm x) (rv x)) mt_23 t_23) : RZ (RO (rs (rp (rm x) (rv x)) (rp (rv x) (rm x)))) (gL_refuses_23 ma2 mv14 mv4 mv9 mt_23) (fL_refuses_23 a2 v14 v4 v9 t_23) := by
  unfold gL_refuses_23 fL_refuses_23
  refine rz_tst (vle_s hx rl_4 (rp_2 ht_23)) ?_ ?_
  · refine rz_ex ?_
    exact (sL_refuses_559 hx hv14 hv4 hv9 (rp_1 ht_23))
  · refine rz_tst (veq_s hx (rp_2 ht_23) rl_0) ?_ ?_
    · exact (sL_refuses_54 hx ha2 ht_23 hv14 hv4 hv9 (rp_1 ht_23) rl_m1)
    · refine rz_tst (veq_s hx (rp_2 ht_23) rl_2) ?_ ?_
      · exact (sL_refuses_54 hx ha2 ht_23 hv14 hv4 hv9 (rp_1 ht_23) rl_2147483647)
      · exact (sL_refuses_54 hx ha2 ht_23 hv14 hv4 hv9 (rp_1 ht_23) (vsub_s (vneg_s rl_2147483647) rl_1))
noncomputable def gL_refuses (mC : RT) (ma2 : Nat) : Option (Nat × RT) := (nmM (gX7_files mC) fun mv4_1 => (nmM (gX7_targets mC) fun mv9_2 => (nmM (gX7_keys mC) fun mv14_3 => (lpM (gL_refuses_23 ma2 mv14_3 mv4_1 mv9_2) 300 (mC, 0)))))
theorem sL_refuses {x : Nat} (hx : x < 1000) {mC : RT} {C : Mem} (hC : (rm x) mC C) {ma2 : Nat} {a2 : Int32} (ha2 : (rv x) ma2 a2) : RZ (RO (rp (rv x) (rm x))) (gL_refuses mC ma2) (fL_refuses C a2) := by
  unfold gL_refuses fL_refuses
  refine rz_nm (x := x) (sX7_files hx hC) (fun mv4_1 v4_1 hv4_1 => ?_)
  refine rz_nm (x := x) (sX7_targets hx hC) (fun mv9_2 v9_2 hv9_2 => ?_)
  refine rz_nm (x := x) (sX7_keys hx hC) (fun mv14_3 v14_3 hv14_3 => ?_)
  exact rz_lp (PS := (rp (rm x) (rv x))) (fun _ _ hs => sL_refuses_23 hx ha2 hv14_3 hv4_1 hv9_2 hs) 300 (rp_m hC rl_0)
