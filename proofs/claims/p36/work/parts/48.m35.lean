noncomputable def gL_runs_1178 (mC_1178 : RT) : Option Nat := (some 0)
theorem sL_runs_1178 {x : Nat} (hx : x < 1000) {mC_1178 : RT} {C_1178 : Mem} (hC_1178 : (rm x) mC_1178 C_1178) : RZ (RO (rv x)) (gL_runs_1178 mC_1178) (fL_runs_1178 C_1178) := by
  unfold gL_runs_1178 fL_runs_1178
  exact rz_some rl_0
noncomputable def gL_runs_1144 (mC_1144 : RT) : Option Nat := (bdM (gL_act mC_1144 6 0 0) fun mq1149_1 => (tst (veq mq1149_1.1 4294967263) (bdM (gX7_needed mq1149_1.2) fun mq1158_2 => (tst (veq mq1158_2.1 14) (bdM (gL_refuses mq1158_2.2 3) fun mq1168_3 => (tst (veq mq1168_3.1 0) (gL_runs_1178 mq1168_3.2) (some 1))) (gL_runs_1178 mq1158_2.2))) (gL_runs_1178 mq1149_1.2)))
theorem sL_runs_1144 {x : Nat} (hx : x < 1000) {mC_1144 : RT} {C_1144 : Mem} (hC_1144 : (rm x) mC_1144 C_1144) : RZ (RO (rv x)) (gL_runs_1144 mC_1144) (fL_runs_1144 C_1144) := by
  unfold gL_runs_1144 fL_runs_1144
  refine rz_bnd (P := (rp (rv x) (rm x))) (sL_act hx hC_1144 rl_6 rl_0 rl_0) (fun mq1149_1 q1149_1 hq1149_1 => ?_)
  refine rz_tst (veq_s hx (rp_1 hq1149_1) rl_m33) ?_ ?_
  · refine rz_bnd (P := (rp (rv x) (rm x))) (sX7_needed hx (rp_2 hq1149_1)) (fun mq1158_2 q1158_2 hq1158_2 => ?_)
    refine rz_tst (veq_s hx (rp_1 hq1158_2) rl_14) ?_ ?_
    · refine rz_bnd (P := (rp (rv x) (rm x))) (sL_refuses hx (rp_2 hq1158_2) rl_3) (fun mq1168_3 q1168_3 hq1168_3 => ?_)
      refine rz_tst (veq_s hx (rp_1 hq1168_3) rl_0) ?_ ?_
      · exact (sL_runs_1178 hx (rp_2 hq1168_3))
      · exact rz_some rl_1
    · exact (sL_runs_1178 hx (rp_2 hq1158_2))
  · exact (sL_runs_1178 hx (rp_2 hq1149_1))
noncomputable def gL_runs_1138 (mt_1122 : (RT × Nat)) (mC_1138 : RT) : Option ((RT × Nat) ⊕ Nat) := (some (.inl (mC_1138, (vadd mt_1122.2 1))))
theorem sL_runs_1138 {x : Nat} (hx : x < 1000) {mt_1122 : (RT × Nat)} {t_1122 : (Mem × Int32)} (ht_1122 : (rp (rm x) (rv x)) mt_1122 t_1122) {mC_1138 : RT} {C_1138 : Mem} (hC_1138 : (rm x) mC_1138 C_1138) : RZ (RO (rs (rp (rm x) (rv x)) (rv x))) (gL_runs_1138 mt_1122 mC_1138) (fL_runs_1138 t_1122 C_1138) := by
  unfold gL_runs_1138 fL_runs_1138
  exact rz_some (rs_l (rp_m hC_1138 (vadd_s (rp_2 ht_1122) rl_1)))
noncomputable def gL_runs_1122 (mt_1122 : (RT × Nat)) : Option ((RT × Nat) ⊕ Nat) := (tst (vnot (vlt mt_1122.2 5)) (exM (gL_runs_1144 mt_1122.1)) (bdM (gX7_addGlob mt_1122.1 0) fun mq1129_1 => (swM mq1129_1.1 (fun mv1129_2 => (tst (veq mv1129_2 1) (gL_runs_1138 mt_1122 mq1129_1.2) (exM (some 0)))) (fun u_3 => none))))
theorem sL_runs_1122 {x : Nat} (hx : x < 1000) {mt_1122 : (RT × Nat)} {t_1122 : (Mem × Int32)} (ht_1122 : (rp (rm x) (rv x)) mt_1122 t_1122) : RZ (RO (rs (rp (rm x) (rv x)) (rv x))) (gL_runs_1122 mt_1122) (fL_runs_1122 t_1122) := by
  unfold gL_runs_1122 fL_runs_1122
  refine rz_tst (vle_s hx rl_5 (rp_2 ht_1122)) ?_ ?_
  · refine rz_ex ?_
    exact (sL_runs_1144 hx (rp_1 ht_1122))
  · refine rz_bnd (P := (rp (rs (rv x) (@Eq Nat)) (rm x))) (sX7_addGlob hx (rp_1 ht_1122) rl_0) (fun mq1129_1 q1129_1 hq1129_1 => ?_)
    refine rz_sw (x := x) (rp_1 hq1129_1) (fun mv1129_2 v1129_2 hv1129_2 => ?_) (fun u_3 => ?_)
    · refine rz_tst (veq_s hx hv1129_2 rl_1) ?_ ?_
      · exact (sL_runs_1138 hx ht_1122 (rp_2 hq1129_1))
      · refine rz_ex ?_
        exact rz_some rl_0
    · exact rz_none
noncomputable def gL_runs_1120 (mC_1120 : RT) : Option Nat := (lpM (gL_runs_1122) 300 (mC_1120, 2))
theorem sL_runs_1120 {x : Nat} (hx : x < 1000) {mC_1120 : RT} {C_1120 : Mem} (hC_1120 : (rm x) mC_1120 C_1120) : RZ (RO (rv x)) (gL_runs_1120 mC_1120) (fL_runs_1120 C_1120) := by
  unfold gL_runs_1120 fL_runs_1120
  exact rz_lp (PS := (rp (rm x) (rv x))) (fun _ _ hs => sL_runs_1122 hx hs) 300 (rp_m hC_1120 rl_2)
noncomputable def gL_runs_1118 (mC_1118 : RT) : Option Nat := (some 0)
theorem sL_runs_1118 {x : Nat} (hx : x < 1000) {mC_1118 : RT} {C_1118 : Mem} (hC_1118 : (rm x) mC_1118 C_1118) : RZ (RO (rv x)) (gL_runs_1118 mC_1118) (fL_runs_1118 C_1118) := by
  unfold gL_runs_1118 fL_runs_1118
  exact rz_some rl_0
noncomputable def gL_runs_878 (mC_878 : RT) : Option Nat := (bdM (gX7_ownerOf mC_878 0) fun mq880_1 => (swM mq880_1 (fun mv880_2 => (tst (veq mv880_2 4294967295) (bdM (gL_text mC_878 42 42 46 46 46 46 46 46) fun mq904_3 => (tst (veq mq904_3.1 0) (gL_runs_1118 mq904_3.2) (bdM (gX7_addRule mq904_3.2 3) fun mq912_4 => (swM mq912_4.1 (fun mv912_5 => (tst (veq mv912_5 1) (bdM (gL_text mq912_4.2 97 47 63 46 46 46 46 46) fun mq936_6 => (tst (veq mq936_6.1 0) (gL_runs_1118 mq936_6.2) (bdM (gX7_addRule mq936_6.2 5) fun mq944_7 => (swM mq944_7.1 (fun mv944_8 => (tst (veq mv944_8 2) (bdM (gX7_ownerOf mq944_7.2 2) fun mq953_9 => (swM mq953_9 (fun mv953_10 => (tst (veq mv953_10 3) (bdM (gX7_ownerOf mq944_7.2 1) fun mq962_11 => (swM mq962_11 (fun mv962_12 => (tst (veq mv962_12 5) (bdM (gX7_changed mq944_7.2) fun mq970_13 => (tst (veq mq970_13 5) (bdM (gX7_reviewers mq944_7.2) fun mq978_14 => (tst (veq mq978_14 40) (bdM (gX7_mark mq944_7.2) fun mq987_15 => (tst (veq mq987_15.1 2) (bdM (gX7_changed mq987_15.2) fun mq995_16 => (tst (veq mq995_16 0) (bdM (gX7_reviewers mq987_15.2) fun mq1002_17 => (tst (veq mq1002_17 0) (bdM (gX7_edit mq987_15.2 2 4) fun mq1011_18 => (swM mq1011_18.1 (fun mv1011_19 => (tst (veq mv1011_19 4) (bdM (gX7_changed mq1011_18.2) fun mq1019_20 => (tst (veq mq1019_20 0) (bdM (gX7_edit mq1011_18.2 2 8) fun mq1029_21 => (swM mq1029_21.1 (fun mv1029_22 => (tst (veq mv1029_22 4) (bdM (gX7_changed mq1029_21.2) fun mq1037_23 => (tst (veq mq1037_23 4) (bdM (gX7_reviewers mq1029_21.2) fun mq1045_24 => (tst (veq mq1045_24 8) (bdM (gX7_delete mq1029_21.2 0) fun mq1055_25 => (swM mq1055_25.1 (fun mv1055_26 => (tst (veq mv1055_26 1) (bdM (gX7_changed mq1055_25.2) fun mq1063_27 => (tst (veq mq1063_27 5) (bdM (gX7_reviewers mq1055_25.2) fun mq1071_28 => (tst (veq mq1071_28 40) (bdM (gL_text mq1055_25.2 97 47 98 46 46 46 46 46) fun mq1096_29 => (tst (veq mq1096_29.1 0) (gL_runs_1118 mq1096_29.2) (bdM (gX7_addFile mq1096_29.2 1) fun mq1104_30 => (swM mq1104_30.1 (fun mv1104_31 => (tst (veq mv1104_31 0) (bdM (gX7_changed mq1104_30.2) fun mq1111_32 => (tst (veq mq1111_32 4) (gL_runs_1120 mq1104_30.2) (gL_runs_1118 mq1104_30.2))) (gL_runs_1118 mq1104_30.2))) (fun u_33 => none))))) (gL_runs_1118 mq1055_25.2))) (gL_runs_1118 mq1055_25.2))) (gL_runs_1118 mq1055_25.2))) (fun u_34 => none))) (gL_runs_1118 mq1029_21.2))) (gL_runs_1118 mq1029_21.2))) (gL_runs_1118 mq1029_21.2))) (fun u_35 => none))) (gL_runs_1118 mq1011_18.2))) (gL_runs_1118 mq1011_18.2))) (fun u_36 => none))) (gL_runs_1118 mq987_15.2))) (gL_runs_1118 mq987_15.2))) (gL_runs_1118 mq987_15.2))) (gL_runs_1118 mq944_7.2))) (gL_runs_1118 mq944_7.2))) (gL_runs_1118 mq944_7.2))) (fun u_37 => none))) (gL_runs_1118 mq944_7.2))) (fun u_38 => none))) (gL_runs_1118 mq944_7.2))) (fun u_39 => none))))) (gL_runs_1118 mq912_4.2))) (fun u_40 => none))))) (gL_runs_1118 mC_878))) (fun u_41 => none)))
theorem sL_runs_878 {x : Nat} (hx : x < 1000) {mC_878 : RT} {C_878 : Mem} (hC_878 : (rm x) mC_878 C_878) : RZ (RO (rv x)) (gL_runs_878 mC_878) (fL_runs_878 C_878) := by
  unfold gL_runs_878 fL_runs_878
  refine rz_bnd (P := (rs (rv x) (@Eq Nat))) (sX7_ownerOf hx hC_878 rl_0) (fun mq880_1 q880_1 hq880_1 => ?_)
  refine rz_sw (x := x) hq880_1 (fun mv880_2 v880_2 hv880_2 => ?_) (fun u_41 => ?_)
  · refine rz_tst (veq_s hx hv880_2 rl_m1) ?_ ?_
    · refine rz_bnd (P := (rp (rv x) (rm x))) (sL_text hx hC_878 rl_42 rl_42 rl_46 rl_46 rl_46 rl_46 rl_46 rl_46) (fun mq904_3 q904_3 hq904_3 => ?_)
      refine rz_tst (veq_s hx (rp_1 hq904_3) rl_0) ?_ ?_
      · exact (sL_runs_1118 hx (rp_2 hq904_3))
      · refine rz_bnd (P := (rp (rs (rv x) (@Eq Nat)) (rm x))) (sX7_addRule hx (rp_2 hq904_3) rl_3) (fun mq912_4 q912_4 hq912_4 => ?_)
        refine rz_sw (x := x) (rp_1 hq912_4) (fun mv912_5 v912_5 hv912_5 => ?_) (fun u_40 => ?_)
        · refine rz_tst (veq_s hx hv912_5 rl_1) ?_ ?_
          · refine rz_bnd (P := (rp (rv x) (rm x))) (sL_text hx (rp_2 hq912_4) rl_97 rl_47 rl_63 rl_46 rl_46 rl_46 rl_46 rl_46) (fun mq936_6 q936_6 hq936_6 => ?_)
            refine rz_tst (veq_s hx (rp_1 hq936_6) rl_0) ?_ ?_
            · exact (sL_runs_1118 hx (rp_2 hq936_6))
            · refine rz_bnd (P := (rp (rs (rv x) (@Eq Nat)) (rm x))) (sX7_addRule hx (rp_2 hq936_6) rl_5) (fun mq944_7 q944_7 hq944_7 => ?_)
              refine rz_sw (x := x) (rp_1 hq944_7) (fun mv944_8 v944_8 hv944_8 => ?_) (fun u_39 => ?_)
              · refine rz_tst (veq_s hx hv944_8 rl_2) ?_ ?_
                · refine rz_bnd (P := (rs (rv x) (@Eq Nat))) (sX7_ownerOf hx (rp_2 hq944_7) rl_2) (fun mq953_9 q953_9 hq953_9 => ?_)
                  refine rz_sw (x := x) hq953_9 (fun mv953_10 v953_10 hv953_10 => ?_) (fun u_38 => ?_)
                  · refine rz_tst (veq_s hx hv953_10 rl_3) ?_ ?_
                    · refine rz_bnd (P := (rs (rv x) (@Eq Nat))) (sX7_ownerOf hx (rp_2 hq944_7) rl_1) (fun mq962_11 q962_11 hq962_11 => ?_)
                      refine rz_sw (x := x) hq962_11 (fun mv962_12 v962_12 hv962_12 => ?_) (fun u_37 => ?_)
                      · refine rz_tst (veq_s hx hv962_12 rl_5) ?_ ?_
                        · refine rz_bnd (P := (rv x)) (sX7_changed hx (rp_2 hq944_7)) (fun mq970_13 q970_13 hq970_13 => ?_)
                          refine rz_tst (veq_s hx hq970_13 rl_5) ?_ ?_
                          · refine rz_bnd (P := (rv x)) (sX7_reviewers hx (rp_2 hq944_7)) (fun mq978_14 q978_14 hq978_14 => ?_)
                            refine rz_tst (veq_s hx hq978_14 rl_40) ?_ ?_
                            · refine rz_bnd (P := (rp (rv x) (rm x))) (sX7_mark hx (rp_2 hq944_7)) (fun mq987_15 q987_15 hq987_15 => ?_)
                              refine rz_tst (veq_s hx (rp_1 hq987_15) rl_2) ?_ ?_
                              · refine rz_bnd (P := (rv x)) (sX7_changed hx (rp_2 hq987_15)) (fun mq995_16 q995_16 hq995_16 => ?_)
                                refine rz_tst (veq_s hx hq995_16 rl_0) ?_ ?_
                                · refine rz_bnd (P := (rv x)) (sX7_reviewers hx (rp_2 hq987_15)) (fun mq1002_17 q1002_17 hq1002_17 => ?_)
                                  refine rz_tst (veq_s hx hq1002_17 rl_0) ?_ ?_
                                  · refine rz_bnd (P := (rp (rs (rv x) (@Eq Nat)) (rm x))) (sX7_edit hx (rp_2 hq987_15) rl_2 rl_4) (fun mq1011_18 q1011_18 hq1011_18 => ?_)
                                    refine rz_sw (x := x) (rp_1 hq1011_18) (fun mv1011_19 v1011_19 hv1011_19 => ?_) (fun u_36 => ?_)
                                    · refine rz_tst (veq_s hx hv1011_19 rl_4) ?_ ?_
                                      · refine rz_bnd (P := (rv x)) (sX7_changed hx (rp_2 hq1011_18)) (fun mq1019_20 q1019_20 hq1019_20 => ?_)
                                        refine rz_tst (veq_s hx hq1019_20 rl_0) ?_ ?_
                                        · refine rz_bnd (P := (rp (rs (rv x) (@Eq Nat)) (rm x))) (sX7_edit hx (rp_2 hq1011_18) rl_2 rl_8) (fun mq1029_21 q1029_21 hq1029_21 => ?_)
                                          refine rz_sw (x := x) (rp_1 hq1029_21) (fun mv1029_22 v1029_22 hv1029_22 => ?_) (fun u_35 => ?_)
                                          · refine rz_tst (veq_s hx hv1029_22 rl_4) ?_ ?_
                                            · refine rz_bnd (P := (rv x)) (sX7_changed hx (rp_2 hq1029_21)) (fun mq1037_23 q1037_23 hq1037_23 => ?_)
                                              refine rz_tst (veq_s hx hq1037_23 rl_4) ?_ ?_
                                              · refine rz_bnd (P := (rv x)) (sX7_reviewers hx (rp_2 hq1029_21)) (fun mq1045_24 q1045_24 hq1045_24 => ?_)
                                                refine rz_tst (veq_s hx hq1045_24 rl_8) ?_ ?_
                                                · refine rz_bnd (P := (rp (rs (rv x) (@Eq Nat)) (rm x))) (sX7_delete hx (rp_2 hq1029_21) rl_0) (fun mq1055_25 q1055_25 hq1055_25 => ?_)
                                                  refine rz_sw (x := x) (rp_1 hq1055_25) (fun mv1055_26 v1055_26 hv1055_26 => ?_) (fun u_34 => ?_)
                                                  · refine rz_tst (veq_s hx hv1055_26 rl_1) ?_ ?_
                                                    · refine rz_bnd (P := (rv x)) (sX7_changed hx (rp_2 hq1055_25)) (fun mq1063_27 q1063_27 hq1063_27 => ?_)
                                                      refine rz_tst (veq_s hx hq1063_27 rl_5) ?_ ?_
                                                      · refine rz_bnd (P := (rv x)) (sX7_reviewers hx (rp_2 hq1055_25)) (fun mq1071_28 q1071_28 hq1071_28 => ?_)
                                                        refine rz_tst (veq_s hx hq1071_28 rl_40) ?_ ?_
                                                        · refine rz_bnd (P := (rp (rv x) (rm x))) (sL_text hx (rp_2 hq1055_25) rl_97 rl_47 rl_98 rl_46 rl_46 rl_46 rl_46 rl_46) (fun mq1096_29 q1096_29 hq1096_29 => ?_)
                                                          refine rz_tst (veq_s hx (rp_1 hq1096_29) rl_0) ?_ ?_
                                                          · exact (sL_runs_1118 hx (rp_2 hq1096_29))
                                                          · refine rz_bnd (P := (rp (rs (rv x) (@Eq Nat)) (rm x))) (sX7_addFile hx (rp_2 hq1096_29) rl_1) (fun mq1104_30 q1104_30 hq1104_30 => ?_)
                                                            refine rz_sw (x := x) (rp_1 hq1104_30) (fun mv1104_31 v1104_31 hv1104_31 => ?_) (fun u_33 => ?_)
                                                            · refine rz_tst (veq_s hx hv1104_31 rl_0) ?_ ?_
                                                              · refine rz_bnd (P := (rv x)) (sX7_changed hx (rp_2 hq1104_30)) (fun mq1111_32 q1111_32 hq1111_32 => ?_)
                                                                refine rz_tst (veq_s hx hq1111_32 rl_4) ?_ ?_
                                                                · exact (sL_runs_1120 hx (rp_2 hq1104_30))
                                                                · exact (sL_runs_1118 hx (rp_2 hq1104_30))
                                                              · exact (sL_runs_1118 hx (rp_2 hq1104_30))
                                                            · exact rz_none
                                                        · exact (sL_runs_1118 hx (rp_2 hq1055_25))
                                                      · exact (sL_runs_1118 hx (rp_2 hq1055_25))
                                                    · exact (sL_runs_1118 hx (rp_2 hq1055_25))
                                                  · exact rz_none
                                                · exact (sL_runs_1118 hx (rp_2 hq1029_21))
                                              · exact (sL_runs_1118 hx (rp_2 hq1029_21))
                                            · exact (sL_runs_1118 hx (rp_2 hq1029_21))
                                          · exact rz_none
                                        · exact (sL_runs_1118 hx (rp_2 hq1011_18))
                                      · exact (sL_runs_1118 hx (rp_2 hq1011_18))
                                    · exact rz_none
                                  · exact (sL_runs_1118 hx (rp_2 hq987_15))
                                · exact (sL_runs_1118 hx (rp_2 hq987_15))
                              · exact (sL_runs_1118 hx (rp_2 hq987_15))
                            · exact (sL_runs_1118 hx (rp_2 hq944_7))
                          · exact (sL_runs_1118 hx (rp_2 hq944_7))
                        · exact (sL_runs_1118 hx (rp_2 hq944_7))
                      · exact rz_none
                    · exact (sL_runs_1118 hx (rp_2 hq944_7))
                  · exact rz_none
                · exact (sL_runs_1118 hx (rp_2 hq944_7))
              · exact rz_none
          · exact (sL_runs_1118 hx (rp_2 hq912_4))
        · exact rz_none
    · exact (sL_runs_1118 hx hC_878)
  · exact rz_none
noncomputable def hL_runs_878 (mC_878 : RT) : Option RT := (bdM (gX7_ownerOf mC_878 0) fun mq880_1 => (swM mq880_1 (fun mv880_2 => (tst (veq mv880_2 4294967295) (bdM (gL_text mC_878 42 42 46 46 46 46 46 46) fun mq904_3 => (tst (veq mq904_3.1 0) none (bdM (gX7_addRule mq904_3.2 3) fun mq912_4 => (swM mq912_4.1 (fun mv912_5 => (tst (veq mv912_5 1) (bdM (gL_text mq912_4.2 97 47 63 46 46 46 46 46) fun mq936_6 => (tst (veq mq936_6.1 0) none (bdM (gX7_addRule mq936_6.2 5) fun mq944_7 => (swM mq944_7.1 (fun mv944_8 => (tst (veq mv944_8 2) (bdM (gX7_ownerOf mq944_7.2 2) fun mq953_9 => (swM mq953_9 (fun mv953_10 => (tst (veq mv953_10 3) (bdM (gX7_ownerOf mq944_7.2 1) fun mq962_11 => (swM mq962_11 (fun mv962_12 => (tst (veq mv962_12 5) (bdM (gX7_changed mq944_7.2) fun mq970_13 => (tst (veq mq970_13 5) (bdM (gX7_reviewers mq944_7.2) fun mq978_14 => (tst (veq mq978_14 40) (bdM (gX7_mark mq944_7.2) fun mq987_15 => (tst (veq mq987_15.1 2) (bdM (gX7_changed mq987_15.2) fun mq995_16 => (tst (veq mq995_16 0) (bdM (gX7_reviewers mq987_15.2) fun mq1002_17 => (tst (veq mq1002_17 0) (bdM (gX7_edit mq987_15.2 2 4) fun mq1011_18 => (swM mq1011_18.1 (fun mv1011_19 => (tst (veq mv1011_19 4) (bdM (gX7_changed mq1011_18.2) fun mq1019_20 => (tst (veq mq1019_20 0) (bdM (gX7_edit mq1011_18.2 2 8) fun mq1029_21 => (swM mq1029_21.1 (fun mv1029_22 => (tst (veq mv1029_22 4) (bdM (gX7_changed mq1029_21.2) fun mq1037_23 => (tst (veq mq1037_23 4) (bdM (gX7_reviewers mq1029_21.2) fun mq1045_24 => (tst (veq mq1045_24 8) (bdM (gX7_delete mq1029_21.2 0) fun mq1055_25 => (swM mq1055_25.1 (fun mv1055_26 => (tst (veq mv1055_26 1) (bdM (gX7_changed mq1055_25.2) fun mq1063_27 => (tst (veq mq1063_27 5) (bdM (gX7_reviewers mq1055_25.2) fun mq1071_28 => (tst (veq mq1071_28 40) (bdM (gL_text mq1055_25.2 97 47 98 46 46 46 46 46) fun mq1096_29 => (tst (veq mq1096_29.1 0) none (bdM (gX7_addFile mq1096_29.2 1) fun mq1104_30 => (swM mq1104_30.1 (fun mv1104_31 => (tst (veq mv1104_31 0) (bdM (gX7_changed mq1104_30.2) fun mq1111_32 => (tst (veq mq1111_32 4) (some mq1104_30.2) none)) none)) (fun u_33 => none))))) none)) none)) none)) (fun u_34 => none))) none)) none)) none)) (fun u_35 => none))) none)) none)) (fun u_36 => none))) none)) none)) none)) none)) none)) none)) (fun u_37 => none))) none)) (fun u_38 => none))) none)) (fun u_39 => none))))) none)) (fun u_40 => none))))) none)) (fun u_41 => none)))
theorem tL_runs_878 {x : Nat} (hx : x < 1000) {mC_878 : RT} {C_878 : Mem} (hC_878 : (rm x) mC_878 C_878) : RZ (Zex x (fun C => fL_runs_1120 C)) (hL_runs_878 mC_878) (fL_runs_878 C_878) := by
  unfold hL_runs_878 fL_runs_878
  refine rz_bnd (P := (rs (rv x) (@Eq Nat))) (sX7_ownerOf hx hC_878 rl_0) (fun mq880_1 q880_1 hq880_1 => ?_)
  refine rz_sw (x := x) hq880_1 (fun mv880_2 v880_2 hv880_2 => ?_) (fun u_41 => ?_)
  · refine rz_tst (veq_s hx hv880_2 rl_m1) ?_ ?_
    · refine rz_bnd (P := (rp (rv x) (rm x))) (sL_text hx hC_878 rl_42 rl_42 rl_46 rl_46 rl_46 rl_46 rl_46 rl_46) (fun mq904_3 q904_3 hq904_3 => ?_)
      refine rz_tst (veq_s hx (rp_1 hq904_3) rl_0) ?_ ?_
      · exact rz_none
      · refine rz_bnd (P := (rp (rs (rv x) (@Eq Nat)) (rm x))) (sX7_addRule hx (rp_2 hq904_3) rl_3) (fun mq912_4 q912_4 hq912_4 => ?_)
        refine rz_sw (x := x) (rp_1 hq912_4) (fun mv912_5 v912_5 hv912_5 => ?_) (fun u_40 => ?_)
        · refine rz_tst (veq_s hx hv912_5 rl_1) ?_ ?_
          · refine rz_bnd (P := (rp (rv x) (rm x))) (sL_text hx (rp_2 hq912_4) rl_97 rl_47 rl_63 rl_46 rl_46 rl_46 rl_46 rl_46) (fun mq936_6 q936_6 hq936_6 => ?_)
            refine rz_tst (veq_s hx (rp_1 hq936_6) rl_0) ?_ ?_
            · exact rz_none
            · refine rz_bnd (P := (rp (rs (rv x) (@Eq Nat)) (rm x))) (sX7_addRule hx (rp_2 hq936_6) rl_5) (fun mq944_7 q944_7 hq944_7 => ?_)
              refine rz_sw (x := x) (rp_1 hq944_7) (fun mv944_8 v944_8 hv944_8 => ?_) (fun u_39 => ?_)
              · refine rz_tst (veq_s hx hv944_8 rl_2) ?_ ?_
                · refine rz_bnd (P := (rs (rv x) (@Eq Nat))) (sX7_ownerOf hx (rp_2 hq944_7) rl_2) (fun mq953_9 q953_9 hq953_9 => ?_)
                  refine rz_sw (x := x) hq953_9 (fun mv953_10 v953_10 hv953_10 => ?_) (fun u_38 => ?_)
                  · refine rz_tst (veq_s hx hv953_10 rl_3) ?_ ?_
                    · refine rz_bnd (P := (rs (rv x) (@Eq Nat))) (sX7_ownerOf hx (rp_2 hq944_7) rl_1) (fun mq962_11 q962_11 hq962_11 => ?_)
                      refine rz_sw (x := x) hq962_11 (fun mv962_12 v962_12 hv962_12 => ?_) (fun u_37 => ?_)
                      · refine rz_tst (veq_s hx hv962_12 rl_5) ?_ ?_
                        · refine rz_bnd (P := (rv x)) (sX7_changed hx (rp_2 hq944_7)) (fun mq970_13 q970_13 hq970_13 => ?_)
                          refine rz_tst (veq_s hx hq970_13 rl_5) ?_ ?_
                          · refine rz_bnd (P := (rv x)) (sX7_reviewers hx (rp_2 hq944_7)) (fun mq978_14 q978_14 hq978_14 => ?_)
                            refine rz_tst (veq_s hx hq978_14 rl_40) ?_ ?_
                            · refine rz_bnd (P := (rp (rv x) (rm x))) (sX7_mark hx (rp_2 hq944_7)) (fun mq987_15 q987_15 hq987_15 => ?_)
                              refine rz_tst (veq_s hx (rp_1 hq987_15) rl_2) ?_ ?_
                              · refine rz_bnd (P := (rv x)) (sX7_changed hx (rp_2 hq987_15)) (fun mq995_16 q995_16 hq995_16 => ?_)
                                refine rz_tst (veq_s hx hq995_16 rl_0) ?_ ?_
                                · refine rz_bnd (P := (rv x)) (sX7_reviewers hx (rp_2 hq987_15)) (fun mq1002_17 q1002_17 hq1002_17 => ?_)
                                  refine rz_tst (veq_s hx hq1002_17 rl_0) ?_ ?_
                                  · refine rz_bnd (P := (rp (rs (rv x) (@Eq Nat)) (rm x))) (sX7_edit hx (rp_2 hq987_15) rl_2 rl_4) (fun mq1011_18 q1011_18 hq1011_18 => ?_)
                                    refine rz_sw (x := x) (rp_1 hq1011_18) (fun mv1011_19 v1011_19 hv1011_19 => ?_) (fun u_36 => ?_)
                                    · refine rz_tst (veq_s hx hv1011_19 rl_4) ?_ ?_
                                      · refine rz_bnd (P := (rv x)) (sX7_changed hx (rp_2 hq1011_18)) (fun mq1019_20 q1019_20 hq1019_20 => ?_)
                                        refine rz_tst (veq_s hx hq1019_20 rl_0) ?_ ?_
                                        · refine rz_bnd (P := (rp (rs (rv x) (@Eq Nat)) (rm x))) (sX7_edit hx (rp_2 hq1011_18) rl_2 rl_8) (fun mq1029_21 q1029_21 hq1029_21 => ?_)
                                          refine rz_sw (x := x) (rp_1 hq1029_21) (fun mv1029_22 v1029_22 hv1029_22 => ?_) (fun u_35 => ?_)
                                          · refine rz_tst (veq_s hx hv1029_22 rl_4) ?_ ?_
                                            · refine rz_bnd (P := (rv x)) (sX7_changed hx (rp_2 hq1029_21)) (fun mq1037_23 q1037_23 hq1037_23 => ?_)
                                              refine rz_tst (veq_s hx hq1037_23 rl_4) ?_ ?_
                                              · refine rz_bnd (P := (rv x)) (sX7_reviewers hx (rp_2 hq1029_21)) (fun mq1045_24 q1045_24 hq1045_24 => ?_)
                                                refine rz_tst (veq_s hx hq1045_24 rl_8) ?_ ?_
                                                · refine rz_bnd (P := (rp (rs (rv x) (@Eq Nat)) (rm x))) (sX7_delete hx (rp_2 hq1029_21) rl_0) (fun mq1055_25 q1055_25 hq1055_25 => ?_)
                                                  refine rz_sw (x := x) (rp_1 hq1055_25) (fun mv1055_26 v1055_26 hv1055_26 => ?_) (fun u_34 => ?_)
                                                  · refine rz_tst (veq_s hx hv1055_26 rl_1) ?_ ?_
                                                    · refine rz_bnd (P := (rv x)) (sX7_changed hx (rp_2 hq1055_25)) (fun mq1063_27 q1063_27 hq1063_27 => ?_)
                                                      refine rz_tst (veq_s hx hq1063_27 rl_5) ?_ ?_
                                                      · refine rz_bnd (P := (rv x)) (sX7_reviewers hx (rp_2 hq1055_25)) (fun mq1071_28 q1071_28 hq1071_28 => ?_)
                                                        refine rz_tst (veq_s hx hq1071_28 rl_40) ?_ ?_
                                                        · refine rz_bnd (P := (rp (rv x) (rm x))) (sL_text hx (rp_2 hq1055_25) rl_97 rl_47 rl_98 rl_46 rl_46 rl_46 rl_46 rl_46) (fun mq1096_29 q1096_29 hq1096_29 => ?_)
                                                          refine rz_tst (veq_s hx (rp_1 hq1096_29) rl_0) ?_ ?_
                                                          · exact rz_none
                                                          · refine rz_bnd (P := (rp (rs (rv x) (@Eq Nat)) (rm x))) (sX7_addFile hx (rp_2 hq1096_29) rl_1) (fun mq1104_30 q1104_30 hq1104_30 => ?_)
                                                            refine rz_sw (x := x) (rp_1 hq1104_30) (fun mv1104_31 v1104_31 hv1104_31 => ?_) (fun u_33 => ?_)
                                                            · refine rz_tst (veq_s hx hv1104_31 rl_0) ?_ ?_
                                                              · refine rz_bnd (P := (rv x)) (sX7_changed hx (rp_2 hq1104_30)) (fun mq1111_32 q1111_32 hq1111_32 => ?_)
                                                                refine rz_tst (veq_s hx hq1111_32 rl_4) ?_ ?_
                                                                · exact rz_out (rp_2 hq1104_30)
                                                                · exact rz_none
                                                              · exact rz_none
                                                            · exact rz_none
                                                        · exact rz_none
                                                      · exact rz_none
                                                    · exact rz_none
                                                  · exact rz_none
                                                · exact rz_none
                                              · exact rz_none
                                            · exact rz_none
                                          · exact rz_none
                                        · exact rz_none
                                      · exact rz_none
                                    · exact rz_none
                                  · exact rz_none
                                · exact rz_none
                              · exact rz_none
                            · exact rz_none
                          · exact rz_none
                        · exact rz_none
                      · exact rz_none
                    · exact rz_none
                  · exact rz_none
                · exact rz_none
              · exact rz_none
          · exact rz_none
        · exact rz_none
    · exact rz_none
  · exact rz_none
noncomputable def gL_runs_876 (mC_876 : RT) : Option Nat := (some 0)
theorem sL_runs_876 {x : Nat} (hx : x < 1000) {mC_876 : RT} {C_876 : Mem} (hC_876 : (rm x) mC_876 C_876) : RZ (RO (rv x)) (gL_runs_876 mC_876) (fL_runs_876 C_876) := by
  unfold gL_runs_876 fL_runs_876
  exact rz_some rl_0
noncomputable def gL_runs_686 (mC_686 : RT) : Option Nat := (bdM (gX7_shardOf mC_686 3 2) fun mq689_1 => (swM mq689_1.1 (fun mv689_2 => (tst (veq mv689_2 0) (bdM (gX7_shardOf mq689_1.2 2 2) fun mq698_3 => (swM mq698_3.1 (fun mv698_4 => (tst (veq mv698_4 1) (bdM (gX7_shardOf mq698_3.2 0 2) fun mq708_5 => (swM mq708_5.1 (fun mv708_6 => (tst (veq mv708_6 1) (bdM (gX7_shardOf mq708_5.2 1 2) fun mq718_7 => (swM mq718_7.1 (fun mv718_8 => (tst (veq mv718_8 4294967295) (bdM (gX7_longestShard mq718_7.2 1) fun mq727_9 => (swM mq727_9.1 (fun mv727_10 => (tst (veq mv727_10 60) (bdM (gX7_longestShard mq727_9.2 2) fun mq737_11 => (swM mq737_11.1 (fun mv737_12 => (tst (veq mv737_12 30) (bdM (gX7_longestShard mq737_11.2 8) fun mq748_13 => (swM mq748_13.1 (fun mv748_14 => (tst (veq mv748_14 30) (bdM (gX7_shardsFor mq748_13.2 30) fun mq759_15 => (swM mq759_15.1 (fun mv759_16 => (tst (veq mv759_16 2) (bdM (gX7_shardsFor mq759_15.2 29) fun mq769_17 => (swM mq769_17.1 (fun mv769_18 => (tst (veq mv769_18 4294967295) (bdM (gX7_shardsFor mq769_17.2 60) fun mq779_19 => (swM mq779_19.1 (fun mv779_20 => (tst (veq mv779_20 1) (bdM (gX7_shardsFor mq779_19.2 59) fun mq789_21 => (swM mq789_21.1 (fun mv789_22 => (tst (veq mv789_22 2) (bdM (gX7_runAll mq789_21.2) fun mq797_23 => (swM mq797_23.1 (fun mv797_24 => (tst (veq mv797_24 3) (tst (veq (gX7_keys mq797_23.2) 10) (bdM (gX7_longestShard mq797_23.2 3) fun mq815_25 => (swM mq815_25.1 (fun mv815_26 => (tst (veq mv815_26 0) (bdM (gX7_shardsFor mq815_25.2 1) fun mq823_27 => (swM mq823_27.1 (fun mv823_28 => (tst (veq mv823_28 1) (bdM (gX7_depend mq823_27.2 3 1) fun mq833_29 => (swM mq833_29.1 (fun mv833_30 => (tst (veq mv833_30 2) (bdM (gX7_whyRun mq833_29.2 3) fun mq842_31 => (swM mq842_31.1 (fun mv842_32 => (tst (veq mv842_32 3) (bdM (gX7_needed mq842_31.2) fun mq850_33 => (tst (veq mq850_33.1 8) (bdM (gX7_run mq850_33.2 3) fun mq860_34 => (swM mq860_34.1 (fun mv860_35 => (tst (veq mv860_35 11) (bdM (gL_refuses mq860_34.2 3) fun mq870_36 => (tst (veq mq870_36.1 0) (gL_runs_876 mq870_36.2) (gL_runs_878 mq870_36.2))) (gL_runs_876 mq860_34.2))) (fun u_37 => none))) (gL_runs_876 mq850_33.2))) (gL_runs_876 mq842_31.2))) (fun u_38 => none))) (gL_runs_876 mq833_29.2))) (fun u_39 => none))) (gL_runs_876 mq823_27.2))) (fun u_40 => none))) (gL_runs_876 mq815_25.2))) (fun u_41 => none))) (gL_runs_876 mq797_23.2)) (gL_runs_876 mq797_23.2))) (fun u_42 => none))) (gL_runs_876 mq789_21.2))) (fun u_43 => none))) (gL_runs_876 mq779_19.2))) (fun u_44 => none))) (gL_runs_876 mq769_17.2))) (fun u_45 => none))) (gL_runs_876 mq759_15.2))) (fun u_46 => none))) (gL_runs_876 mq748_13.2))) (fun u_47 => none))) (gL_runs_876 mq737_11.2))) (fun u_48 => none))) (gL_runs_876 mq727_9.2))) (fun u_49 => none))) (gL_runs_876 mq718_7.2))) (fun u_50 => none))) (gL_runs_876 mq708_5.2))) (fun u_51 => none))) (gL_runs_876 mq698_3.2))) (fun u_52 => none))) (gL_runs_876 mq689_1.2))) (fun u_53 => none)))
theorem sL_runs_686 {x : Nat} (hx : x < 1000) {mC_686 : RT} {C_686 : Mem} (hC_686 : (rm x) mC_686 C_686) : RZ (RO (rv x)) (gL_runs_686 mC_686) (fL_runs_686 C_686) := by
  unfold gL_runs_686 fL_runs_686
  refine rz_bnd (P := (rp (rs (rv x) (@Eq Nat)) (rm x))) (sX7_shardOf hx hC_686 rl_3 rl_2) (fun mq689_1 q689_1 hq689_1 => ?_)
  refine rz_sw (x := x) (rp_1 hq689_1) (fun mv689_2 v689_2 hv689_2 => ?_) (fun u_53 => ?_)
  · refine rz_tst (veq_s hx hv689_2 rl_0) ?_ ?_
    · refine rz_bnd (P := (rp (rs (rv x) (@Eq Nat)) (rm x))) (sX7_shardOf hx (rp_2 hq689_1) rl_2 rl_2) (fun mq698_3 q698_3 hq698_3 => ?_)
      refine rz_sw (x := x) (rp_1 hq698_3) (fun mv698_4 v698_4 hv698_4 => ?_) (fun u_52 => ?_)
      · refine rz_tst (veq_s hx hv698_4 rl_1) ?_ ?_
        · refine rz_bnd (P := (rp (rs (rv x) (@Eq Nat)) (rm x))) (sX7_shardOf hx (rp_2 hq698_3) rl_0 rl_2) (fun mq708_5 q708_5 hq708_5 => ?_)
          refine rz_sw (x := x) (rp_1 hq708_5) (fun mv708_6 v708_6 hv708_6 => ?_) (fun u_51 => ?_)
          · refine rz_tst (veq_s hx hv708_6 rl_1) ?_ ?_
            · refine rz_bnd (P := (rp (rs (rv x) (@Eq Nat)) (rm x))) (sX7_shardOf hx (rp_2 hq708_5) rl_1 rl_2) (fun mq718_7 q718_7 hq718_7 => ?_)
              refine rz_sw (x := x) (rp_1 hq718_7) (fun mv718_8 v718_8 hv718_8 => ?_) (fun u_50 => ?_)
              · refine rz_tst (veq_s hx hv718_8 rl_m1) ?_ ?_
                · refine rz_bnd (P := (rp (rs (rv x) (@Eq Nat)) (rm x))) (sX7_longestShard hx (rp_2 hq718_7) rl_1) (fun mq727_9 q727_9 hq727_9 => ?_)
                  refine rz_sw (x := x) (rp_1 hq727_9) (fun mv727_10 v727_10 hv727_10 => ?_) (fun u_49 => ?_)
                  · refine rz_tst (veq_s hx hv727_10 rl_60) ?_ ?_
                    · refine rz_bnd (P := (rp (rs (rv x) (@Eq Nat)) (rm x))) (sX7_longestShard hx (rp_2 hq727_9) rl_2) (fun mq737_11 q737_11 hq737_11 => ?_)
                      refine rz_sw (x := x) (rp_1 hq737_11) (fun mv737_12 v737_12 hv737_12 => ?_) (fun u_48 => ?_)
                      · refine rz_tst (veq_s hx hv737_12 rl_30) ?_ ?_
                        · refine rz_bnd (P := (rp (rs (rv x) (@Eq Nat)) (rm x))) (sX7_longestShard hx (rp_2 hq737_11) rl_8) (fun mq748_13 q748_13 hq748_13 => ?_)
                          refine rz_sw (x := x) (rp_1 hq748_13) (fun mv748_14 v748_14 hv748_14 => ?_) (fun u_47 => ?_)
                          · refine rz_tst (veq_s hx hv748_14 rl_30) ?_ ?_
                            · refine rz_bnd (P := (rp (rs (rv x) (@Eq Nat)) (rm x))) (sX7_shardsFor hx (rp_2 hq748_13) rl_30) (fun mq759_15 q759_15 hq759_15 => ?_)
                              refine rz_sw (x := x) (rp_1 hq759_15) (fun mv759_16 v759_16 hv759_16 => ?_) (fun u_46 => ?_)
                              · refine rz_tst (veq_s hx hv759_16 rl_2) ?_ ?_
                                · refine rz_bnd (P := (rp (rs (rv x) (@Eq Nat)) (rm x))) (sX7_shardsFor hx (rp_2 hq759_15) rl_29) (fun mq769_17 q769_17 hq769_17 => ?_)
                                  refine rz_sw (x := x) (rp_1 hq769_17) (fun mv769_18 v769_18 hv769_18 => ?_) (fun u_45 => ?_)
                                  · refine rz_tst (veq_s hx hv769_18 rl_m1) ?_ ?_
                                    · refine rz_bnd (P := (rp (rs (rv x) (@Eq Nat)) (rm x))) (sX7_shardsFor hx (rp_2 hq769_17) rl_60) (fun mq779_19 q779_19 hq779_19 => ?_)
                                      refine rz_sw (x := x) (rp_1 hq779_19) (fun mv779_20 v779_20 hv779_20 => ?_) (fun u_44 => ?_)
                                      · refine rz_tst (veq_s hx hv779_20 rl_1) ?_ ?_
                                        · refine rz_bnd (P := (rp (rs (rv x) (@Eq Nat)) (rm x))) (sX7_shardsFor hx (rp_2 hq779_19) rl_59) (fun mq789_21 q789_21 hq789_21 => ?_)
                                          refine rz_sw (x := x) (rp_1 hq789_21) (fun mv789_22 v789_22 hv789_22 => ?_) (fun u_43 => ?_)
                                          · refine rz_tst (veq_s hx hv789_22 rl_2) ?_ ?_
                                            · refine rz_bnd (P := (rp (rs (rv x) (@Eq Nat)) (rm x))) (sX7_runAll hx (rp_2 hq789_21)) (fun mq797_23 q797_23 hq797_23 => ?_)
                                              refine rz_sw (x := x) (rp_1 hq797_23) (fun mv797_24 v797_24 hv797_24 => ?_) (fun u_42 => ?_)
                                              · refine rz_tst (veq_s hx hv797_24 rl_3) ?_ ?_
                                                · refine rz_tst (veq_s hx (sX7_keys hx (rp_2 hq797_23)) rl_10) ?_ ?_
                                                  · refine rz_bnd (P := (rp (rs (rv x) (@Eq Nat)) (rm x))) (sX7_longestShard hx (rp_2 hq797_23) rl_3) (fun mq815_25 q815_25 hq815_25 => ?_)
                                                    refine rz_sw (x := x) (rp_1 hq815_25) (fun mv815_26 v815_26 hv815_26 => ?_) (fun u_41 => ?_)
                                                    · refine rz_tst (veq_s hx hv815_26 rl_0) ?_ ?_
                                                      · refine rz_bnd (P := (rp (rs (rv x) (@Eq Nat)) (rm x))) (sX7_shardsFor hx (rp_2 hq815_25) rl_1) (fun mq823_27 q823_27 hq823_27 => ?_)
                                                        refine rz_sw (x := x) (rp_1 hq823_27) (fun mv823_28 v823_28 hv823_28 => ?_) (fun u_40 => ?_)
                                                        · refine rz_tst (veq_s hx hv823_28 rl_1) ?_ ?_
                                                          · refine rz_bnd (P := (rp (rs (rv x) (@Eq Nat)) (rm x))) (sX7_depend hx (rp_2 hq823_27) rl_3 rl_1) (fun mq833_29 q833_29 hq833_29 => ?_)
                                                            refine rz_sw (x := x) (rp_1 hq833_29) (fun mv833_30 v833_30 hv833_30 => ?_) (fun u_39 => ?_)
                                                            · refine rz_tst (veq_s hx hv833_30 rl_2) ?_ ?_
                                                              · refine rz_bnd (P := (rp (rs (rv x) (@Eq Nat)) (rm x))) (sX7_whyRun hx (rp_2 hq833_29) rl_3) (fun mq842_31 q842_31 hq842_31 => ?_)
                                                                refine rz_sw (x := x) (rp_1 hq842_31) (fun mv842_32 v842_32 hv842_32 => ?_) (fun u_38 => ?_)
                                                                · refine rz_tst (veq_s hx hv842_32 rl_3) ?_ ?_
                                                                  · refine rz_bnd (P := (rp (rv x) (rm x))) (sX7_needed hx (rp_2 hq842_31)) (fun mq850_33 q850_33 hq850_33 => ?_)
                                                                    refine rz_tst (veq_s hx (rp_1 hq850_33) rl_8) ?_ ?_
                                                                    · refine rz_bnd (P := (rp (rs (rv x) (@Eq Nat)) (rm x))) (sX7_run hx (rp_2 hq850_33) rl_3) (fun mq860_34 q860_34 hq860_34 => ?_)
                                                                      refine rz_sw (x := x) (rp_1 hq860_34) (fun mv860_35 v860_35 hv860_35 => ?_) (fun u_37 => ?_)
                                                                      · refine rz_tst (veq_s hx hv860_35 rl_11) ?_ ?_
                                                                        · refine rz_bnd (P := (rp (rv x) (rm x))) (sL_refuses hx (rp_2 hq860_34) rl_3) (fun mq870_36 q870_36 hq870_36 => ?_)
                                                                          refine rz_tst (veq_s hx (rp_1 hq870_36) rl_0) ?_ ?_
                                                                          · exact (sL_runs_876 hx (rp_2 hq870_36))
                                                                          · exact (sL_runs_878 hx (rp_2 hq870_36))
                                                                        · exact (sL_runs_876 hx (rp_2 hq860_34))
                                                                      · exact rz_none
                                                                    · exact (sL_runs_876 hx (rp_2 hq850_33))
                                                                  · exact (sL_runs_876 hx (rp_2 hq842_31))
                                                                · exact rz_none
                                                              · exact (sL_runs_876 hx (rp_2 hq833_29))
                                                            · exact rz_none
                                                          · exact (sL_runs_876 hx (rp_2 hq823_27))
                                                        · exact rz_none
                                                      · exact (sL_runs_876 hx (rp_2 hq815_25))
                                                    · exact rz_none
                                                  · exact (sL_runs_876 hx (rp_2 hq797_23))
                                                · exact (sL_runs_876 hx (rp_2 hq797_23))
                                              · exact rz_none
                                            · exact (sL_runs_876 hx (rp_2 hq789_21))
                                          · exact rz_none
                                        · exact (sL_runs_876 hx (rp_2 hq779_19))
                                      · exact rz_none
                                    · exact (sL_runs_876 hx (rp_2 hq769_17))
                                  · exact rz_none
                                · exact (sL_runs_876 hx (rp_2 hq759_15))
                              · exact rz_none
                            · exact (sL_runs_876 hx (rp_2 hq748_13))
                          · exact rz_none
                        · exact (sL_runs_876 hx (rp_2 hq737_11))
                      · exact rz_none
                    · exact (sL_runs_876 hx (rp_2 hq727_9))
                  · exact rz_none
                · exact (sL_runs_876 hx (rp_2 hq718_7))
              · exact rz_none
            · exact (sL_runs_876 hx (rp_2 hq708_5))
          · exact rz_none
        · exact (sL_runs_876 hx (rp_2 hq698_3))
      · exact rz_none
    · exact (sL_runs_876 hx (rp_2 hq689_1))
  · exact rz_none
noncomputable def hL_runs_686 (mC_686 : RT) : Option RT := (bdM (gX7_shardOf mC_686 3 2) fun mq689_1 => (swM mq689_1.1 (fun mv689_2 => (tst (veq mv689_2 0) (bdM (gX7_shardOf mq689_1.2 2 2) fun mq698_3 => (swM mq698_3.1 (fun mv698_4 => (tst (veq mv698_4 1) (bdM (gX7_shardOf mq698_3.2 0 2) fun mq708_5 => (swM mq708_5.1 (fun mv708_6 => (tst (veq mv708_6 1) (bdM (gX7_shardOf mq708_5.2 1 2) fun mq718_7 => (swM mq718_7.1 (fun mv718_8 => (tst (veq mv718_8 4294967295) (bdM (gX7_longestShard mq718_7.2 1) fun mq727_9 => (swM mq727_9.1 (fun mv727_10 => (tst (veq mv727_10 60) (bdM (gX7_longestShard mq727_9.2 2) fun mq737_11 => (swM mq737_11.1 (fun mv737_12 => (tst (veq mv737_12 30) (bdM (gX7_longestShard mq737_11.2 8) fun mq748_13 => (swM mq748_13.1 (fun mv748_14 => (tst (veq mv748_14 30) (bdM (gX7_shardsFor mq748_13.2 30) fun mq759_15 => (swM mq759_15.1 (fun mv759_16 => (tst (veq mv759_16 2) (bdM (gX7_shardsFor mq759_15.2 29) fun mq769_17 => (swM mq769_17.1 (fun mv769_18 => (tst (veq mv769_18 4294967295) (bdM (gX7_shardsFor mq769_17.2 60) fun mq779_19 => (swM mq779_19.1 (fun mv779_20 => (tst (veq mv779_20 1) (bdM (gX7_shardsFor mq779_19.2 59) fun mq789_21 => (swM mq789_21.1 (fun mv789_22 => (tst (veq mv789_22 2) (bdM (gX7_runAll mq789_21.2) fun mq797_23 => (swM mq797_23.1 (fun mv797_24 => (tst (veq mv797_24 3) (tst (veq (gX7_keys mq797_23.2) 10) (bdM (gX7_longestShard mq797_23.2 3) fun mq815_25 => (swM mq815_25.1 (fun mv815_26 => (tst (veq mv815_26 0) (bdM (gX7_shardsFor mq815_25.2 1) fun mq823_27 => (swM mq823_27.1 (fun mv823_28 => (tst (veq mv823_28 1) (bdM (gX7_depend mq823_27.2 3 1) fun mq833_29 => (swM mq833_29.1 (fun mv833_30 => (tst (veq mv833_30 2) (bdM (gX7_whyRun mq833_29.2 3) fun mq842_31 => (swM mq842_31.1 (fun mv842_32 => (tst (veq mv842_32 3) (bdM (gX7_needed mq842_31.2) fun mq850_33 => (tst (veq mq850_33.1 8) (bdM (gX7_run mq850_33.2 3) fun mq860_34 => (swM mq860_34.1 (fun mv860_35 => (tst (veq mv860_35 11) (bdM (gL_refuses mq860_34.2 3) fun mq870_36 => (tst (veq mq870_36.1 0) none (some mq870_36.2))) none)) (fun u_37 => none))) none)) none)) (fun u_38 => none))) none)) (fun u_39 => none))) none)) (fun u_40 => none))) none)) (fun u_41 => none))) none) none)) (fun u_42 => none))) none)) (fun u_43 => none))) none)) (fun u_44 => none))) none)) (fun u_45 => none))) none)) (fun u_46 => none))) none)) (fun u_47 => none))) none)) (fun u_48 => none))) none)) (fun u_49 => none))) none)) (fun u_50 => none))) none)) (fun u_51 => none))) none)) (fun u_52 => none))) none)) (fun u_53 => none)))
theorem tL_runs_686 {x : Nat} (hx : x < 1000) {mC_686 : RT} {C_686 : Mem} (hC_686 : (rm x) mC_686 C_686) : RZ (Zex x (fun C => fL_runs_878 C)) (hL_runs_686 mC_686) (fL_runs_686 C_686) := by
  unfold hL_runs_686 fL_runs_686
  refine rz_bnd (P := (rp (rs (rv x) (@Eq Nat)) (rm x))) (sX7_shardOf hx hC_686 rl_3 rl_2) (fun mq689_1 q689_1 hq689_1 => ?_)
  refine rz_sw (x := x) (rp_1 hq689_1) (fun mv689_2 v689_2 hv689_2 => ?_) (fun u_53 => ?_)
  · refine rz_tst (veq_s hx hv689_2 rl_0) ?_ ?_
    · refine rz_bnd (P := (rp (rs (rv x) (@Eq Nat)) (rm x))) (sX7_shardOf hx (rp_2 hq689_1) rl_2 rl_2) (fun mq698_3 q698_3 hq698_3 => ?_)
      refine rz_sw (x := x) (rp_1 hq698_3) (fun mv698_4 v698_4 hv698_4 => ?_) (fun u_52 => ?_)
      · refine rz_tst (veq_s hx hv698_4 rl_1) ?_ ?_
        · refine rz_bnd (P := (rp (rs (rv x) (@Eq Nat)) (rm x))) (sX7_shardOf hx (rp_2 hq698_3) rl_0 rl_2) (fun mq708_5 q708_5 hq708_5 => ?_)
          refine rz_sw (x := x) (rp_1 hq708_5) (fun mv708_6 v708_6 hv708_6 => ?_) (fun u_51 => ?_)
          · refine rz_tst (veq_s hx hv708_6 rl_1) ?_ ?_
            · refine rz_bnd (P := (rp (rs (rv x) (@Eq Nat)) (rm x))) (sX7_shardOf hx (rp_2 hq708_5) rl_1 rl_2) (fun mq718_7 q718_7 hq718_7 => ?_)
              refine rz_sw (x := x) (rp_1 hq718_7) (fun mv718_8 v718_8 hv718_8 => ?_) (fun u_50 => ?_)
              · refine rz_tst (veq_s hx hv718_8 rl_m1) ?_ ?_
                · refine rz_bnd (P := (rp (rs (rv x) (@Eq Nat)) (rm x))) (sX7_longestShard hx (rp_2 hq718_7) rl_1) (fun mq727_9 q727_9 hq727_9 => ?_)
                  refine rz_sw (x := x) (rp_1 hq727_9) (fun mv727_10 v727_10 hv727_10 => ?_) (fun u_49 => ?_)
                  · refine rz_tst (veq_s hx hv727_10 rl_60) ?_ ?_
                    · refine rz_bnd (P := (rp (rs (rv x) (@Eq Nat)) (rm x))) (sX7_longestShard hx (rp_2 hq727_9) rl_2) (fun mq737_11 q737_11 hq737_11 => ?_)
                      refine rz_sw (x := x) (rp_1 hq737_11) (fun mv737_12 v737_12 hv737_12 => ?_) (fun u_48 => ?_)
                      · refine rz_tst (veq_s hx hv737_12 rl_30) ?_ ?_
                        · refine rz_bnd (P := (rp (rs (rv x) (@Eq Nat)) (rm x))) (sX7_longestShard hx (rp_2 hq737_11) rl_8) (fun mq748_13 q748_13 hq748_13 => ?_)
                          refine rz_sw (x := x) (rp_1 hq748_13) (fun mv748_14 v748_14 hv748_14 => ?_) (fun u_47 => ?_)
                          · refine rz_tst (veq_s hx hv748_14 rl_30) ?_ ?_
                            · refine rz_bnd (P := (rp (rs (rv x) (@Eq Nat)) (rm x))) (sX7_shardsFor hx (rp_2 hq748_13) rl_30) (fun mq759_15 q759_15 hq759_15 => ?_)
                              refine rz_sw (x := x) (rp_1 hq759_15) (fun mv759_16 v759_16 hv759_16 => ?_) (fun u_46 => ?_)
                              · refine rz_tst (veq_s hx hv759_16 rl_2) ?_ ?_
                                · refine rz_bnd (P := (rp (rs (rv x) (@Eq Nat)) (rm x))) (sX7_shardsFor hx (rp_2 hq759_15) rl_29) (fun mq769_17 q769_17 hq769_17 => ?_)
                                  refine rz_sw (x := x) (rp_1 hq769_17) (fun mv769_18 v769_18 hv769_18 => ?_) (fun u_45 => ?_)
                                  · refine rz_tst (veq_s hx hv769_18 rl_m1) ?_ ?_
                                    · refine rz_bnd (P := (rp (rs (rv x) (@Eq Nat)) (rm x))) (sX7_shardsFor hx (rp_2 hq769_17) rl_60) (fun mq779_19 q779_19 hq779_19 => ?_)
                                      refine rz_sw (x := x) (rp_1 hq779_19) (fun mv779_20 v779_20 hv779_20 => ?_) (fun u_44 => ?_)
                                      · refine rz_tst (veq_s hx hv779_20 rl_1) ?_ ?_
                                        · refine rz_bnd (P := (rp (rs (rv x) (@Eq Nat)) (rm x))) (sX7_shardsFor hx (rp_2 hq779_19) rl_59) (fun mq789_21 q789_21 hq789_21 => ?_)
                                          refine rz_sw (x := x) (rp_1 hq789_21) (fun mv789_22 v789_22 hv789_22 => ?_) (fun u_43 => ?_)
                                          · refine rz_tst (veq_s hx hv789_22 rl_2) ?_ ?_
                                            · refine rz_bnd (P := (rp (rs (rv x) (@Eq Nat)) (rm x))) (sX7_runAll hx (rp_2 hq789_21)) (fun mq797_23 q797_23 hq797_23 => ?_)
                                              refine rz_sw (x := x) (rp_1 hq797_23) (fun mv797_24 v797_24 hv797_24 => ?_) (fun u_42 => ?_)
                                              · refine rz_tst (veq_s hx hv797_24 rl_3) ?_ ?_
                                                · refine rz_tst (veq_s hx (sX7_keys hx (rp_2 hq797_23)) rl_10) ?_ ?_
                                                  · refine rz_bnd (P := (rp (rs (rv x) (@Eq Nat)) (rm x))) (sX7_longestShard hx (rp_2 hq797_23) rl_3) (fun mq815_25 q815_25 hq815_25 => ?_)
                                                    refine rz_sw (x := x) (rp_1 hq815_25) (fun mv815_26 v815_26 hv815_26 => ?_) (fun u_41 => ?_)
                                                    · refine rz_tst (veq_s hx hv815_26 rl_0) ?_ ?_
                                                      · refine rz_bnd (P := (rp (rs (rv x) (@Eq Nat)) (rm x))) (sX7_shardsFor hx (rp_2 hq815_25) rl_1) (fun mq823_27 q823_27 hq823_27 => ?_)
                                                        refine rz_sw (x := x) (rp_1 hq823_27) (fun mv823_28 v823_28 hv823_28 => ?_) (fun u_40 => ?_)
                                                        · refine rz_tst (veq_s hx hv823_28 rl_1) ?_ ?_
                                                          · refine rz_bnd (P := (rp (rs (rv x) (@Eq Nat)) (rm x))) (sX7_depend hx (rp_2 hq823_27) rl_3 rl_1) (fun mq833_29 q833_29 hq833_29 => ?_)
                                                            refine rz_sw (x := x) (rp_1 hq833_29) (fun mv833_30 v833_30 hv833_30 => ?_) (fun u_39 => ?_)
                                                            · refine rz_tst (veq_s hx hv833_30 rl_2) ?_ ?_
                                                              · refine rz_bnd (P := (rp (rs (rv x) (@Eq Nat)) (rm x))) (sX7_whyRun hx (rp_2 hq833_29) rl_3) (fun mq842_31 q842_31 hq842_31 => ?_)
                                                                refine rz_sw (x := x) (rp_1 hq842_31) (fun mv842_32 v842_32 hv842_32 => ?_) (fun u_38 => ?_)
                                                                · refine rz_tst (veq_s hx hv842_32 rl_3) ?_ ?_
                                                                  · refine rz_bnd (P := (rp (rv x) (rm x))) (sX7_needed hx (rp_2 hq842_31)) (fun mq850_33 q850_33 hq850_33 => ?_)
                                                                    refine rz_tst (veq_s hx (rp_1 hq850_33) rl_8) ?_ ?_
                                                                    · refine rz_bnd (P := (rp (rs (rv x) (@Eq Nat)) (rm x))) (sX7_run hx (rp_2 hq850_33) rl_3) (fun mq860_34 q860_34 hq860_34 => ?_)
                                                                      refine rz_sw (x := x) (rp_1 hq860_34) (fun mv860_35 v860_35 hv860_35 => ?_) (fun u_37 => ?_)
                                                                      · refine rz_tst (veq_s hx hv860_35 rl_11) ?_ ?_
                                                                        · refine rz_bnd (P := (rp (rv x) (rm x))) (sL_refuses hx (rp_2 hq860_34) rl_3) (fun mq870_36 q870_36 hq870_36 => ?_)
                                                                          refine rz_tst (veq_s hx (rp_1 hq870_36) rl_0) ?_ ?_
                                                                          · exact rz_none
                                                                          · exact rz_out (rp_2 hq870_36)
                                                                        · exact rz_none
                                                                      · exact rz_none
                                                                    · exact rz_none
                                                                  · exact rz_none
                                                                · exact rz_none
                                                              · exact rz_none
                                                            · exact rz_none
                                                          · exact rz_none
                                                        · exact rz_none
                                                      · exact rz_none
                                                    · exact rz_none
                                                  · exact rz_none
                                                · exact rz_none
                                              · exact rz_none
                                            · exact rz_none
                                          · exact rz_none
                                        · exact rz_none
                                      · exact rz_none
                                    · exact rz_none
                                  · exact rz_none
                                · exact rz_none
                              · exact rz_none
                            · exact rz_none
                          · exact rz_none
                        · exact rz_none
                      · exact rz_none
                    · exact rz_none
                  · exact rz_none
                · exact rz_none
              · exact rz_none
            · exact rz_none
          · exact rz_none
        · exact rz_none
      · exact rz_none
    · exact rz_none
  · exact rz_none
noncomputable def gL_runs_684 (mC_684 : RT) : Option Nat := (some 0)
theorem sL_runs_684 {x : Nat} (hx : x < 1000) {mC_684 : RT} {C_684 : Mem} (hC_684 : (rm x) mC_684 C_684) : RZ (RO (rv x)) (gL_runs_684 mC_684) (fL_runs_684 C_684) := by
  unfold gL_runs_684 fL_runs_684
  exact rz_some rl_0
noncomputable def gL_runs_489 (mC_489 : RT) : Option Nat := (bdM (gX7_edit mC_489 0 7) fun mq493_1 => (swM mq493_1.1 (fun mv493_2 => (tst (veq mv493_2 1) (bdM (gX7_needed mq493_1.2) fun mq501_3 => (tst (veq mq501_3.1 13) (bdM (gX7_whyRun mq501_3.2 0) fun mq511_4 => (swM mq511_4.1 (fun mv511_5 => (tst (veq mv511_5 2) (bdM (gX7_whyRun mq511_4.2 2) fun mq520_6 => (swM mq520_6.1 (fun mv520_7 => (tst (veq mv520_7 3) (bdM (gX7_whyRun mq520_6.2 3) fun mq529_8 => (swM mq529_8.1 (fun mv529_9 => (tst (veq mv529_9 3) (bdM (gX7_edit mq529_8.2 0 1) fun mq539_10 => (swM mq539_10.1 (fun mv539_11 => (tst (veq mv539_11 7) (bdM (gX7_needed mq539_10.2) fun mq548_12 => (tst (veq mq548_12.1 0) (bdM (gX7_edit mq548_12.2 0 7) fun mq558_13 => (swM mq558_13.1 (fun mv558_14 => (tst (veq mv558_14 1) (bdM (gX7_run mq558_13.2 0) fun mq567_15 => (swM mq567_15.1 (fun mv567_16 => (tst (veq mv567_16 5) (bdM (gX7_keyOf mq567_15.2 2) fun mq576_17 => (swM mq576_17.1 (fun mv576_18 => (tst (veq mv576_18 0) (bdM (gX7_run mq576_17.2 2) fun mq584_19 => (swM mq584_19.1 (fun mv584_20 => (tst (veq mv584_20 6) (bdM (gX7_run mq584_19.2 3) fun mq594_21 => (swM mq594_21.1 (fun mv594_22 => (tst (veq mv594_22 7) (bdM (gX7_edit mq594_21.2 0 1) fun mq605_23 => (swM mq605_23.1 (fun mv605_24 => (tst (veq mv605_24 7) (bdM (gX7_keyOf mq605_23.2 0) fun mq615_25 => (swM mq615_25.1 (fun mv615_26 => (tst (veq mv615_26 1) (bdM (gX7_keyOf mq615_25.2 2) fun mq624_27 => (swM mq624_27.1 (fun mv624_28 => (tst (veq mv624_28 3) (bdM (gX7_keyOf mq624_27.2 3) fun mq633_29 => (swM mq633_29.1 (fun mv633_30 => (tst (veq mv633_30 4) (bdM (gX7_needed mq633_29.2) fun mq641_31 => (tst (veq mq641_31.1 0) (bdM (gX7_delete mq641_31.2 1) fun mq649_32 => (swM mq649_32.1 (fun mv649_33 => (tst (veq mv649_33 3) (bdM (gX7_inputs mq649_32.2 0) fun mq658_34 => (swM mq658_34 (fun mv658_35 => (tst (veq mv658_35 1) (bdM (gX7_whyRun mq649_32.2 0) fun mq667_36 => (swM mq667_36.1 (fun mv667_37 => (tst (veq mv667_37 2) (bdM (gX7_affectedBy mq667_36.2 1) fun mq676_38 => (swM mq676_38 (fun mv676_39 => (tst (veq mv676_39 13) (gL_runs_686 mq667_36.2) (gL_runs_684 mq667_36.2))) (fun u_40 => none))) (gL_runs_684 mq667_36.2))) (fun u_41 => none))) (gL_runs_684 mq649_32.2))) (fun u_42 => none))) (gL_runs_684 mq649_32.2))) (fun u_43 => none))) (gL_runs_684 mq641_31.2))) (gL_runs_684 mq633_29.2))) (fun u_44 => none))) (gL_runs_684 mq624_27.2))) (fun u_45 => none))) (gL_runs_684 mq615_25.2))) (fun u_46 => none))) (gL_runs_684 mq605_23.2))) (fun u_47 => none))) (gL_runs_684 mq594_21.2))) (fun u_48 => none))) (gL_runs_684 mq584_19.2))) (fun u_49 => none))) (gL_runs_684 mq576_17.2))) (fun u_50 => none))) (gL_runs_684 mq567_15.2))) (fun u_51 => none))) (gL_runs_684 mq558_13.2))) (fun u_52 => none))) (gL_runs_684 mq548_12.2))) (gL_runs_684 mq539_10.2))) (fun u_53 => none))) (gL_runs_684 mq529_8.2))) (fun u_54 => none))) (gL_runs_684 mq520_6.2))) (fun u_55 => none))) (gL_runs_684 mq511_4.2))) (fun u_56 => none))) (gL_runs_684 mq501_3.2))) (gL_runs_684 mq493_1.2))) (fun u_57 => none)))
theorem sL_runs_489 {x : Nat} (hx : x < 1000) {mC_489 : RT} {C_489 : Mem} (hC_489 : (rm x) mC_489 C_489) : RZ (RO (rv x)) (gL_runs_489 mC_489) (fL_runs_489 C_489) := by
  unfold gL_runs_489 fL_runs_489
  refine rz_bnd (P := (rp (rs (rv x) (@Eq Nat)) (rm x))) (sX7_edit hx hC_489 rl_0 rl_7) (fun mq493_1 q493_1 hq493_1 => ?_)
  refine rz_sw (x := x) (rp_1 hq493_1) (fun mv493_2 v493_2 hv493_2 => ?_) (fun u_57 => ?_)
  · refine rz_tst (veq_s hx hv493_2 rl_1) ?_ ?_
    · refine rz_bnd (P := (rp (rv x) (rm x))) (sX7_needed hx (rp_2 hq493_1)) (fun mq501_3 q501_3 hq501_3 => ?_)
      refine rz_tst (veq_s hx (rp_1 hq501_3) rl_13) ?_ ?_
      · refine rz_bnd (P := (rp (rs (rv x) (@Eq Nat)) (rm x))) (sX7_whyRun hx (rp_2 hq501_3) rl_0) (fun mq511_4 q511_4 hq511_4 => ?_)
        refine rz_sw (x := x) (rp_1 hq511_4) (fun mv511_5 v511_5 hv511_5 => ?_) (fun u_56 => ?_)
        · refine rz_tst (veq_s hx hv511_5 rl_2) ?_ ?_
          · refine rz_bnd (P := (rp (rs (rv x) (@Eq Nat)) (rm x))) (sX7_whyRun hx (rp_2 hq511_4) rl_2) (fun mq520_6 q520_6 hq520_6 => ?_)
            refine rz_sw (x := x) (rp_1 hq520_6) (fun mv520_7 v520_7 hv520_7 => ?_) (fun u_55 => ?_)
            · refine rz_tst (veq_s hx hv520_7 rl_3) ?_ ?_
              · refine rz_bnd (P := (rp (rs (rv x) (@Eq Nat)) (rm x))) (sX7_whyRun hx (rp_2 hq520_6) rl_3) (fun mq529_8 q529_8 hq529_8 => ?_)
                refine rz_sw (x := x) (rp_1 hq529_8) (fun mv529_9 v529_9 hv529_9 => ?_) (fun u_54 => ?_)
                · refine rz_tst (veq_s hx hv529_9 rl_3) ?_ ?_
                  · refine rz_bnd (P := (rp (rs (rv x) (@Eq Nat)) (rm x))) (sX7_edit hx (rp_2 hq529_8) rl_0 rl_1) (fun mq539_10 q539_10 hq539_10 => ?_)
                    refine rz_sw (x := x) (rp_1 hq539_10) (fun mv539_11 v539_11 hv539_11 => ?_) (fun u_53 => ?_)
                    · refine rz_tst (veq_s hx hv539_11 rl_7) ?_ ?_
                      · refine rz_bnd (P := (rp (rv x) (rm x))) (sX7_needed hx (rp_2 hq539_10)) (fun mq548_12 q548_12 hq548_12 => ?_)
                        refine rz_tst (veq_s hx (rp_1 hq548_12) rl_0) ?_ ?_
                        · refine rz_bnd (P := (rp (rs (rv x) (@Eq Nat)) (rm x))) (sX7_edit hx (rp_2 hq548_12) rl_0 rl_7) (fun mq558_13 q558_13 hq558_13 => ?_)
                          refine rz_sw (x := x) (rp_1 hq558_13) (fun mv558_14 v558_14 hv558_14 => ?_) (fun u_52 => ?_)
                          · refine rz_tst (veq_s hx hv558_14 rl_1) ?_ ?_
                            · refine rz_bnd (P := (rp (rs (rv x) (@Eq Nat)) (rm x))) (sX7_run hx (rp_2 hq558_13) rl_0) (fun mq567_15 q567_15 hq567_15 => ?_)
                              refine rz_sw (x := x) (rp_1 hq567_15) (fun mv567_16 v567_16 hv567_16 => ?_) (fun u_51 => ?_)
                              · refine rz_tst (veq_s hx hv567_16 rl_5) ?_ ?_
                                · refine rz_bnd (P := (rp (rs (rv x) (@Eq Nat)) (rm x))) (sX7_keyOf hx (rp_2 hq567_15) rl_2) (fun mq576_17 q576_17 hq576_17 => ?_)
                                  refine rz_sw (x := x) (rp_1 hq576_17) (fun mv576_18 v576_18 hv576_18 => ?_) (fun u_50 => ?_)
                                  · refine rz_tst (veq_s hx hv576_18 rl_0) ?_ ?_
                                    · refine rz_bnd (P := (rp (rs (rv x) (@Eq Nat)) (rm x))) (sX7_run hx (rp_2 hq576_17) rl_2) (fun mq584_19 q584_19 hq584_19 => ?_)
                                      refine rz_sw (x := x) (rp_1 hq584_19) (fun mv584_20 v584_20 hv584_20 => ?_) (fun u_49 => ?_)
                                      · refine rz_tst (veq_s hx hv584_20 rl_6) ?_ ?_
                                        · refine rz_bnd (P := (rp (rs (rv x) (@Eq Nat)) (rm x))) (sX7_run hx (rp_2 hq584_19) rl_3) (fun mq594_21 q594_21 hq594_21 => ?_)
                                          refine rz_sw (x := x) (rp_1 hq594_21) (fun mv594_22 v594_22 hv594_22 => ?_) (fun u_48 => ?_)
                                          · refine rz_tst (veq_s hx hv594_22 rl_7) ?_ ?_
                                            · refine rz_bnd (P := (rp (rs (rv x) (@Eq Nat)) (rm x))) (sX7_edit hx (rp_2 hq594_21) rl_0 rl_1) (fun mq605_23 q605_23 hq605_23 => ?_)
                                              refine rz_sw (x := x) (rp_1 hq605_23) (fun mv605_24 v605_24 hv605_24 => ?_) (fun u_47 => ?_)
                                              · refine rz_tst (veq_s hx hv605_24 rl_7) ?_ ?_
                                                · refine rz_bnd (P := (rp (rs (rv x) (@Eq Nat)) (rm x))) (sX7_keyOf hx (rp_2 hq605_23) rl_0) (fun mq615_25 q615_25 hq615_25 => ?_)
                                                  refine rz_sw (x := x) (rp_1 hq615_25) (fun mv615_26 v615_26 hv615_26 => ?_) (fun u_46 => ?_)
                                                  · refine rz_tst (veq_s hx hv615_26 rl_1) ?_ ?_
                                                    · refine rz_bnd (P := (rp (rs (rv x) (@Eq Nat)) (rm x))) (sX7_keyOf hx (rp_2 hq615_25) rl_2) (fun mq624_27 q624_27 hq624_27 => ?_)
                                                      refine rz_sw (x := x) (rp_1 hq624_27) (fun mv624_28 v624_28 hv624_28 => ?_) (fun u_45 => ?_)
                                                      · refine rz_tst (veq_s hx hv624_28 rl_3) ?_ ?_
                                                        · refine rz_bnd (P := (rp (rs (rv x) (@Eq Nat)) (rm x))) (sX7_keyOf hx (rp_2 hq624_27) rl_3) (fun mq633_29 q633_29 hq633_29 => ?_)
                                                          refine rz_sw (x := x) (rp_1 hq633_29) (fun mv633_30 v633_30 hv633_30 => ?_) (fun u_44 => ?_)
                                                          · refine rz_tst (veq_s hx hv633_30 rl_4) ?_ ?_
                                                            · refine rz_bnd (P := (rp (rv x) (rm x))) (sX7_needed hx (rp_2 hq633_29)) (fun mq641_31 q641_31 hq641_31 => ?_)
                                                              refine rz_tst (veq_s hx (rp_1 hq641_31) rl_0) ?_ ?_
                                                              · refine rz_bnd (P := (rp (rs (rv x) (@Eq Nat)) (rm x))) (sX7_delete hx (rp_2 hq641_31) rl_1) (fun mq649_32 q649_32 hq649_32 => ?_)
                                                                refine rz_sw (x := x) (rp_1 hq649_32) (fun mv649_33 v649_33 hv649_33 => ?_) (fun u_43 => ?_)
                                                                · refine rz_tst (veq_s hx hv649_33 rl_3) ?_ ?_
                                                                  · refine rz_bnd (P := (rs (rv x) (@Eq Nat))) (sX7_inputs hx (rp_2 hq649_32) rl_0) (fun mq658_34 q658_34 hq658_34 => ?_)
                                                                    refine rz_sw (x := x) hq658_34 (fun mv658_35 v658_35 hv658_35 => ?_) (fun u_42 => ?_)
                                                                    · refine rz_tst (veq_s hx hv658_35 rl_1) ?_ ?_
                                                                      · refine rz_bnd (P := (rp (rs (rv x) (@Eq Nat)) (rm x))) (sX7_whyRun hx (rp_2 hq649_32) rl_0) (fun mq667_36 q667_36 hq667_36 => ?_)
                                                                        refine rz_sw (x := x) (rp_1 hq667_36) (fun mv667_37 v667_37 hv667_37 => ?_) (fun u_41 => ?_)
                                                                        · refine rz_tst (veq_s hx hv667_37 rl_2) ?_ ?_
                                                                          · refine rz_bnd (P := (rs (rv x) (@Eq Nat))) (sX7_affectedBy hx (rp_2 hq667_36) rl_1) (fun mq676_38 q676_38 hq676_38 => ?_)
                                                                            refine rz_sw (x := x) hq676_38 (fun mv676_39 v676_39 hv676_39 => ?_) (fun u_40 => ?_)
                                                                            · refine rz_tst (veq_s hx hv676_39 rl_13) ?_ ?_
                                                                              · exact (sL_runs_686 hx (rp_2 hq667_36))
                                                                              · exact (sL_runs_684 hx (rp_2 hq667_36))
                                                                            · exact rz_none
                                                                          · exact (sL_runs_684 hx (rp_2 hq667_36))
                                                                        · exact rz_none
                                                                      · exact (sL_runs_684 hx (rp_2 hq649_32))
                                                                    · exact rz_none
                                                                  · exact (sL_runs_684 hx (rp_2 hq649_32))
                                                                · exact rz_none
                                                              · exact (sL_runs_684 hx (rp_2 hq641_31))
                                                            · exact (sL_runs_684 hx (rp_2 hq633_29))
                                                          · exact rz_none
                                                        · exact (sL_runs_684 hx (rp_2 hq624_27))
                                                      · exact rz_none
                                                    · exact (sL_runs_684 hx (rp_2 hq615_25))
                                                  · exact rz_none
                                                · exact (sL_runs_684 hx (rp_2 hq605_23))
                                              · exact rz_none
                                            · exact (sL_runs_684 hx (rp_2 hq594_21))
                                          · exact rz_none
                                        · exact (sL_runs_684 hx (rp_2 hq584_19))
                                      · exact rz_none
                                    · exact (sL_runs_684 hx (rp_2 hq576_17))
                                  · exact rz_none
                                · exact (sL_runs_684 hx (rp_2 hq567_15))
                              · exact rz_none
                            · exact (sL_runs_684 hx (rp_2 hq558_13))
                          · exact rz_none
                        · exact (sL_runs_684 hx (rp_2 hq548_12))
                      · exact (sL_runs_684 hx (rp_2 hq539_10))
                    · exact rz_none
                  · exact (sL_runs_684 hx (rp_2 hq529_8))
                · exact rz_none
              · exact (sL_runs_684 hx (rp_2 hq520_6))
            · exact rz_none
          · exact (sL_runs_684 hx (rp_2 hq511_4))
        · exact rz_none
      · exact (sL_runs_684 hx (rp_2 hq501_3))
    · exact (sL_runs_684 hx (rp_2 hq493_1))
  · exact rz_none
noncomputable def hL_runs_489 (mC_489 : RT) : Option RT := (bdM (gX7_edit mC_489 0 7) fun mq493_1 => (swM mq493_1.1 (fun mv493_2 => (tst (veq mv493_2 1) (bdM (gX7_needed mq493_1.2) fun mq501_3 => (tst (veq mq501_3.1 13) (bdM (gX7_whyRun mq501_3.2 0) fun mq511_4 => (swM mq511_4.1 (fun mv511_5 => (tst (veq mv511_5 2) (bdM (gX7_whyRun mq511_4.2 2) fun mq520_6 => (swM mq520_6.1 (fun mv520_7 => (tst (veq mv520_7 3) (bdM (gX7_whyRun mq520_6.2 3) fun mq529_8 => (swM mq529_8.1 (fun mv529_9 => (tst (veq mv529_9 3) (bdM (gX7_edit mq529_8.2 0 1) fun mq539_10 => (swM mq539_10.1 (fun mv539_11 => (tst (veq mv539_11 7) (bdM (gX7_needed mq539_10.2) fun mq548_12 => (tst (veq mq548_12.1 0) (bdM (gX7_edit mq548_12.2 0 7) fun mq558_13 => (swM mq558_13.1 (fun mv558_14 => (tst (veq mv558_14 1) (bdM (gX7_run mq558_13.2 0) fun mq567_15 => (swM mq567_15.1 (fun mv567_16 => (tst (veq mv567_16 5) (bdM (gX7_keyOf mq567_15.2 2) fun mq576_17 => (swM mq576_17.1 (fun mv576_18 => (tst (veq mv576_18 0) (bdM (gX7_run mq576_17.2 2) fun mq584_19 => (swM mq584_19.1 (fun mv584_20 => (tst (veq mv584_20 6) (bdM (gX7_run mq584_19.2 3) fun mq594_21 => (swM mq594_21.1 (fun mv594_22 => (tst (veq mv594_22 7) (bdM (gX7_edit mq594_21.2 0 1) fun mq605_23 => (swM mq605_23.1 (fun mv605_24 => (tst (veq mv605_24 7) (bdM (gX7_keyOf mq605_23.2 0) fun mq615_25 => (swM mq615_25.1 (fun mv615_26 => (tst (veq mv615_26 1) (bdM (gX7_keyOf mq615_25.2 2) fun mq624_27 => (swM mq624_27.1 (fun mv624_28 => (tst (veq mv624_28 3) (bdM (gX7_keyOf mq624_27.2 3) fun mq633_29 => (swM mq633_29.1 (fun mv633_30 => (tst (veq mv633_30 4) (bdM (gX7_needed mq633_29.2) fun mq641_31 => (tst (veq mq641_31.1 0) (bdM (gX7_delete mq641_31.2 1) fun mq649_32 => (swM mq649_32.1 (fun mv649_33 => (tst (veq mv649_33 3) (bdM (gX7_inputs mq649_32.2 0) fun mq658_34 => (swM mq658_34 (fun mv658_35 => (tst (veq mv658_35 1) (bdM (gX7_whyRun mq649_32.2 0) fun mq667_36 => (swM mq667_36.1 (fun mv667_37 => (tst (veq mv667_37 2) (bdM (gX7_affectedBy mq667_36.2 1) fun mq676_38 => (swM mq676_38 (fun mv676_39 => (tst (veq mv676_39 13) (some mq667_36.2) none)) (fun u_40 => none))) none)) (fun u_41 => none))) none)) (fun u_42 => none))) none)) (fun u_43 => none))) none)) none)) (fun u_44 => none))) none)) (fun u_45 => none))) none)) (fun u_46 => none))) none)) (fun u_47 => none))) none)) (fun u_48 => none))) none)) (fun u_49 => none))) none)) (fun u_50 => none))) none)) (fun u_51 => none))) none)) (fun u_52 => none))) none)) none)) (fun u_53 => none))) none)) (fun u_54 => none))) none)) (fun u_55 => none))) none)) (fun u_56 => none))) none)) none)) (fun u_57 => none)))
theorem tL_runs_489 {x : Nat} (hx : x < 1000) {mC_489 : RT} {C_489 : Mem} (hC_489 : (rm x) mC_489 C_489) : RZ (Zex x (fun C => fL_runs_686 C)) (hL_runs_489 mC_489) (fL_runs_489 C_489) := by
  unfold hL_runs_489 fL_runs_489
  refine rz_bnd (P := (rp (rs (rv x) (@Eq Nat)) (rm x))) (sX7_edit hx hC_489 rl_0 rl_7) (fun mq493_1 q493_1 hq493_1 => ?_)
  refine rz_sw (x := x) (rp_1 hq493_1) (fun mv493_2 v493_2 hv493_2 => ?_) (fun u_57 => ?_)
  · refine rz_tst (veq_s hx hv493_2 rl_1) ?_ ?_
    · refine rz_bnd (P := (rp (rv x) (rm x))) (sX7_needed hx (rp_2 hq493_1)) (fun mq501_3 q501_3 hq501_3 => ?_)
      refine rz_tst (veq_s hx (rp_1 hq501_3) rl_13) ?_ ?_
      · refine rz_bnd (P := (rp (rs (rv x) (@Eq Nat)) (rm x))) (sX7_whyRun hx (rp_2 hq501_3) rl_0) (fun mq511_4 q511_4 hq511_4 => ?_)
        refine rz_sw (x := x) (rp_1 hq511_4) (fun mv511_5 v511_5 hv511_5 => ?_) (fun u_56 => ?_)
        · refine rz_tst (veq_s hx hv511_5 rl_2) ?_ ?_
          · refine rz_bnd (P := (rp (rs (rv x) (@Eq Nat)) (rm x))) (sX7_whyRun hx (rp_2 hq511_4) rl_2) (fun mq520_6 q520_6 hq520_6 => ?_)
            refine rz_sw (x := x) (rp_1 hq520_6) (fun mv520_7 v520_7 hv520_7 => ?_) (fun u_55 => ?_)
            · refine rz_tst (veq_s hx hv520_7 rl_3) ?_ ?_
              · refine rz_bnd (P := (rp (rs (rv x) (@Eq Nat)) (rm x))) (sX7_whyRun hx (rp_2 hq520_6) rl_3) (fun mq529_8 q529_8 hq529_8 => ?_)
                refine rz_sw (x := x) (rp_1 hq529_8) (fun mv529_9 v529_9 hv529_9 => ?_) (fun u_54 => ?_)
                · refine rz_tst (veq_s hx hv529_9 rl_3) ?_ ?_
                  · refine rz_bnd (P := (rp (rs (rv x) (@Eq Nat)) (rm x))) (sX7_edit hx (rp_2 hq529_8) rl_0 rl_1) (fun mq539_10 q539_10 hq539_10 => ?_)
                    refine rz_sw (x := x) (rp_1 hq539_10) (fun mv539_11 v539_11 hv539_11 => ?_) (fun u_53 => ?_)
                    · refine rz_tst (veq_s hx hv539_11 rl_7) ?_ ?_
                      · refine rz_bnd (P := (rp (rv x) (rm x))) (sX7_needed hx (rp_2 hq539_10)) (fun mq548_12 q548_12 hq548_12 => ?_)
                        refine rz_tst (veq_s hx (rp_1 hq548_12) rl_0) ?_ ?_
                        · refine rz_bnd (P := (rp (rs (rv x) (@Eq Nat)) (rm x))) (sX7_edit hx (rp_2 hq548_12) rl_0 rl_7) (fun mq558_13 q558_13 hq558_13 => ?_)
                          refine rz_sw (x := x) (rp_1 hq558_13) (fun mv558_14 v558_14 hv558_14 => ?_) (fun u_52 => ?_)
                          · refine rz_tst (veq_s hx hv558_14 rl_1) ?_ ?_
                            · refine rz_bnd (P := (rp (rs (rv x) (@Eq Nat)) (rm x))) (sX7_run hx (rp_2 hq558_13) rl_0) (fun mq567_15 q567_15 hq567_15 => ?_)
                              refine rz_sw (x := x) (rp_1 hq567_15) (fun mv567_16 v567_16 hv567_16 => ?_) (fun u_51 => ?_)
                              · refine rz_tst (veq_s hx hv567_16 rl_5) ?_ ?_
                                · refine rz_bnd (P := (rp (rs (rv x) (@Eq Nat)) (rm x))) (sX7_keyOf hx (rp_2 hq567_15) rl_2) (fun mq576_17 q576_17 hq576_17 => ?_)
                                  refine rz_sw (x := x) (rp_1 hq576_17) (fun mv576_18 v576_18 hv576_18 => ?_) (fun u_50 => ?_)
                                  · refine rz_tst (veq_s hx hv576_18 rl_0) ?_ ?_
                                    · refine rz_bnd (P := (rp (rs (rv x) (@Eq Nat)) (rm x))) (sX7_run hx (rp_2 hq576_17) rl_2) (fun mq584_19 q584_19 hq584_19 => ?_)
                                      refine rz_sw (x := x) (rp_1 hq584_19) (fun mv584_20 v584_20 hv584_20 => ?_) (fun u_49 => ?_)
                                      · refine rz_tst (veq_s hx hv584_20 rl_6) ?_ ?_
                                        · refine rz_bnd (P := (rp (rs (rv x) (@Eq Nat)) (rm x))) (sX7_run hx (rp_2 hq584_19) rl_3) (fun mq594_21 q594_21 hq594_21 => ?_)
                                          refine rz_sw (x := x) (rp_1 hq594_21) (fun mv594_22 v594_22 hv594_22 => ?_) (fun u_48 => ?_)
                                          · refine rz_tst (veq_s hx hv594_22 rl_7) ?_ ?_
                                            · refine rz_bnd (P := (rp (rs (rv x) (@Eq Nat)) (rm x))) (sX7_edit hx (rp_2 hq594_21) rl_0 rl_1) (fun mq605_23 q605_23 hq605_23 => ?_)
                                              refine rz_sw (x := x) (rp_1 hq605_23) (fun mv605_24 v605_24 hv605_24 => ?_) (fun u_47 => ?_)
                                              · refine rz_tst (veq_s hx hv605_24 rl_7) ?_ ?_
                                                · refine rz_bnd (P := (rp (rs (rv x) (@Eq Nat)) (rm x))) (sX7_keyOf hx (rp_2 hq605_23) rl_0) (fun mq615_25 q615_25 hq615_25 => ?_)
                                                  refine rz_sw (x := x) (rp_1 hq615_25) (fun mv615_26 v615_26 hv615_26 => ?_) (fun u_46 => ?_)
                                                  · refine rz_tst (veq_s hx hv615_26 rl_1) ?_ ?_
                                                    · refine rz_bnd (P := (rp (rs (rv x) (@Eq Nat)) (rm x))) (sX7_keyOf hx (rp_2 hq615_25) rl_2) (fun mq624_27 q624_27 hq624_27 => ?_)
                                                      refine rz_sw (x := x) (rp_1 hq624_27) (fun mv624_28 v624_28 hv624_28 => ?_) (fun u_45 => ?_)
                                                      · refine rz_tst (veq_s hx hv624_28 rl_3) ?_ ?_
                                                        · refine rz_bnd (P := (rp (rs (rv x) (@Eq Nat)) (rm x))) (sX7_keyOf hx (rp_2 hq624_27) rl_3) (fun mq633_29 q633_29 hq633_29 => ?_)
                                                          refine rz_sw (x := x) (rp_1 hq633_29) (fun mv633_30 v633_30 hv633_30 => ?_) (fun u_44 => ?_)
                                                          · refine rz_tst (veq_s hx hv633_30 rl_4) ?_ ?_
                                                            · refine rz_bnd (P := (rp (rv x) (rm x))) (sX7_needed hx (rp_2 hq633_29)) (fun mq641_31 q641_31 hq641_31 => ?_)
                                                              refine rz_tst (veq_s hx (rp_1 hq641_31) rl_0) ?_ ?_
                                                              · refine rz_bnd (P := (rp (rs (rv x) (@Eq Nat)) (rm x))) (sX7_delete hx (rp_2 hq641_31) rl_1) (fun mq649_32 q649_32 hq649_32 => ?_)
                                                                refine rz_sw (x := x) (rp_1 hq649_32) (fun mv649_33 v649_33 hv649_33 => ?_) (fun u_43 => ?_)
                                                                · refine rz_tst (veq_s hx hv649_33 rl_3) ?_ ?_
                                                                  · refine rz_bnd (P := (rs (rv x) (@Eq Nat))) (sX7_inputs hx (rp_2 hq649_32) rl_0) (fun mq658_34 q658_34 hq658_34 => ?_)
                                                                    refine rz_sw (x := x) hq658_34 (fun mv658_35 v658_35 hv658_35 => ?_) (fun u_42 => ?_)
                                                                    · refine rz_tst (veq_s hx hv658_35 rl_1) ?_ ?_
                                                                      · refine rz_bnd (P := (rp (rs (rv x) (@Eq Nat)) (rm x))) (sX7_whyRun hx (rp_2 hq649_32) rl_0) (fun mq667_36 q667_36 hq667_36 => ?_)
                                                                        refine rz_sw (x := x) (rp_1 hq667_36) (fun mv667_37 v667_37 hv667_37 => ?_) (fun u_41 => ?_)
                                                                        · refine rz_tst (veq_s hx hv667_37 rl_2) ?_ ?_
                                                                          · refine rz_bnd (P := (rs (rv x) (@Eq Nat))) (sX7_affectedBy hx (rp_2 hq667_36) rl_1) (fun mq676_38 q676_38 hq676_38 => ?_)
                                                                            refine rz_sw (x := x) hq676_38 (fun mv676_39 v676_39 hv676_39 => ?_) (fun u_40 => ?_)
                                                                            · refine rz_tst (veq_s hx hv676_39 rl_13) ?_ ?_
                                                                              · exact rz_out (rp_2 hq667_36)
                                                                              · exact rz_none
                                                                            · exact rz_none
                                                                          · exact rz_none
                                                                        · exact rz_none
                                                                      · exact rz_none
                                                                    · exact rz_none
                                                                  · exact rz_none
                                                                · exact rz_none
                                                              · exact rz_none
                                                            · exact rz_none
                                                          · exact rz_none
                                                        · exact rz_none
                                                      · exact rz_none
                                                    · exact rz_none
                                                  · exact rz_none
                                                · exact rz_none
                                              · exact rz_none
                                            · exact rz_none
                                          · exact rz_none
                                        · exact rz_none
                                      · exact rz_none
                                    · exact rz_none
                                  · exact rz_none
                                · exact rz_none
                              · exact rz_none
                            · exact rz_none
                          · exact rz_none
                        · exact rz_none
                      · exact rz_none
                    · exact rz_none
                  · exact rz_none
                · exact rz_none
              · exact rz_none
            · exact rz_none
          · exact rz_none
        · exact rz_none
      · exact rz_none
    · exact rz_none
  · exact rz_none
noncomputable def gL_runs_487 (mC_487 : RT) : Option Nat := (some 0)
theorem sL_runs_487 {x : Nat} (hx : x < 1000) {mC_487 : RT} {C_487 : Mem} (hC_487 : (rm x) mC_487 C_487) : RZ (RO (rv x)) (gL_runs_487 mC_487) (fL_runs_487 C_487) := by
  unfold gL_runs_487 fL_runs_487
  exact rz_some rl_0
noncomputable def gL_runs_254 (mC_254 : RT) : Option Nat := (bdM (gX7_above mC_254 0) fun mq256_1 => (swM mq256_1 (fun mv256_2 => (tst (veq mv256_2 12) (bdM (gX7_above mC_254 3) fun mq266_3 => (swM mq266_3 (fun mv266_4 => (tst (veq mv266_4 0) (bdM (gX7_orderAt mC_254 0) fun mq274_5 => (swM mq274_5.1 (fun mv274_6 => (tst (veq mv274_6 0) (bdM (gX7_orderAt mq274_5.2 3) fun mq282_7 => (swM mq282_7.1 (fun mv282_8 => (tst (veq mv282_8 3) (bdM (gX7_inputs mq282_7.2 0) fun mq291_9 => (swM mq291_9 (fun mv291_10 => (tst (veq mv291_10 3) (bdM (gX7_inputs mq282_7.2 1) fun mq300_11 => (swM mq300_11 (fun mv300_12 => (tst (veq mv300_12 4) (bdM (gX7_inputs mq282_7.2 2) fun mq309_13 => (swM mq309_13 (fun mv309_14 => (tst (veq mv309_14 0) (bdM (gX7_affectedBy mq282_7.2 0) fun mq317_15 => (swM mq317_15 (fun mv317_16 => (tst (veq mv317_16 13) (bdM (gX7_affectedBy mq282_7.2 2) fun mq327_17 => (swM mq327_17 (fun mv327_18 => (tst (veq mv327_18 14) (bdM (gX7_affectedByGoingDown mq282_7.2 1) fun mq337_19 => (swM mq337_19 (fun mv337_20 => (tst (veq mv337_20 13) (bdM (gX7_needed mq282_7.2) fun mq346_21 => (tst (veq mq346_21.1 15) (bdM (gX7_whyRun mq346_21.2 0) fun mq356_22 => (swM mq356_22.1 (fun mv356_23 => (tst (veq mv356_23 1) (bdM (gL_act mq356_22.2 15 2 0) fun mq368_24 => (tst (veq mq368_24.1 4294967263) (bdM (gX7_run mq368_24.2 0) fun mq378_25 => (swM mq378_25.1 (fun mv378_26 => (tst (veq mv378_26 1) (bdM (gX7_run mq378_25.2 0) fun mq387_27 => (swM mq387_27.1 (fun mv387_28 => (tst (veq mv387_28 1) (bdM (gX7_keyOf mq387_27.2 0) fun mq396_29 => (swM mq396_29.1 (fun mv396_30 => (tst (veq mv396_30 1) (bdM (gX7_run mq396_29.2 1) fun mq405_31 => (swM mq405_31.1 (fun mv405_32 => (tst (veq mv405_32 2) (bdM (gX7_run mq405_31.2 2) fun mq414_33 => (swM mq414_33.1 (fun mv414_34 => (tst (veq mv414_34 3) (bdM (gX7_needed mq414_33.2) fun mq422_35 => (tst (veq mq422_35.1 8) (bdM (gX7_whyRun mq422_35.2 3) fun mq432_36 => (swM mq432_36.1 (fun mv432_37 => (tst (veq mv432_37 1) (bdM (gX7_whyRun mq432_36.2 2) fun mq441_38 => (swM mq441_38.1 (fun mv441_39 => (tst (veq mv441_39 0) (bdM (gX7_runAll mq441_38.2) fun mq448_40 => (swM mq448_40.1 (fun mv448_41 => (tst (veq mv448_41 1) (bdM (gX7_keyOf mq448_40.2 3) fun mq457_42 => (swM mq457_42.1 (fun mv457_43 => (tst (veq mv457_43 4) (bdM (gX7_runAll mq457_42.2) fun mq465_44 => (swM mq465_44.1 (fun mv465_45 => (tst (veq mv465_45 0) (tst (veq (gX7_keys mq465_44.2) 4) (bdM (gL_refuses mq465_44.2 3) fun mq481_46 => (tst (veq mq481_46.1 0) (gL_runs_487 mq481_46.2) (gL_runs_489 mq481_46.2))) (gL_runs_487 mq465_44.2)) (gL_runs_487 mq465_44.2))) (fun u_47 => none))) (gL_runs_487 mq457_42.2))) (fun u_48 => none))) (gL_runs_487 mq448_40.2))) (fun u_49 => none))) (gL_runs_487 mq441_38.2))) (fun u_50 => none))) (gL_runs_487 mq432_36.2))) (fun u_51 => none))) (gL_runs_487 mq422_35.2))) (gL_runs_487 mq414_33.2))) (fun u_52 => none))) (gL_runs_487 mq405_31.2))) (fun u_53 => none))) (gL_runs_487 mq396_29.2))) (fun u_54 => none))) (gL_runs_487 mq387_27.2))) (fun u_55 => none))) (gL_runs_487 mq378_25.2))) (fun u_56 => none))) (gL_runs_487 mq368_24.2))) (gL_runs_487 mq356_22.2))) (fun u_57 => none))) (gL_runs_487 mq346_21.2))) (gL_runs_487 mq282_7.2))) (fun u_58 => none))) (gL_runs_487 mq282_7.2))) (fun u_59 => none))) (gL_runs_487 mq282_7.2))) (fun u_60 => none))) (gL_runs_487 mq282_7.2))) (fun u_61 => none))) (gL_runs_487 mq282_7.2))) (fun u_62 => none))) (gL_runs_487 mq282_7.2))) (fun u_63 => none))) (gL_runs_487 mq282_7.2))) (fun u_64 => none))) (gL_runs_487 mq274_5.2))) (fun u_65 => none))) (gL_runs_487 mC_254))) (fun u_66 => none))) (gL_runs_487 mC_254))) (fun u_67 => none)))
theorem sL_runs_254 {x : Nat} (hx : x < 1000) {mC_254 : RT} {C_254 : Mem} (hC_254 : (rm x) mC_254 C_254) : RZ (RO (rv x)) (gL_runs_254 mC_254) (fL_runs_254 C_254) := by
  unfold gL_runs_254 fL_runs_254
  refine rz_bnd (P := (rs (rv x) (@Eq Nat))) (sX7_above hx hC_254 rl_0) (fun mq256_1 q256_1 hq256_1 => ?_)
  refine rz_sw (x := x) hq256_1 (fun mv256_2 v256_2 hv256_2 => ?_) (fun u_67 => ?_)
  · refine rz_tst (veq_s hx hv256_2 rl_12) ?_ ?_
    · refine rz_bnd (P := (rs (rv x) (@Eq Nat))) (sX7_above hx hC_254 rl_3) (fun mq266_3 q266_3 hq266_3 => ?_)
      refine rz_sw (x := x) hq266_3 (fun mv266_4 v266_4 hv266_4 => ?_) (fun u_66 => ?_)
      · refine rz_tst (veq_s hx hv266_4 rl_0) ?_ ?_
        · refine rz_bnd (P := (rp (rs (rv x) (@Eq Nat)) (rm x))) (sX7_orderAt hx hC_254 rl_0) (fun mq274_5 q274_5 hq274_5 => ?_)
          refine rz_sw (x := x) (rp_1 hq274_5) (fun mv274_6 v274_6 hv274_6 => ?_) (fun u_65 => ?_)
          · refine rz_tst (veq_s hx hv274_6 rl_0) ?_ ?_
            · refine rz_bnd (P := (rp (rs (rv x) (@Eq Nat)) (rm x))) (sX7_orderAt hx (rp_2 hq274_5) rl_3) (fun mq282_7 q282_7 hq282_7 => ?_)
              refine rz_sw (x := x) (rp_1 hq282_7) (fun mv282_8 v282_8 hv282_8 => ?_) (fun u_64 => ?_)
              · refine rz_tst (veq_s hx hv282_8 rl_3) ?_ ?_
                · refine rz_bnd (P := (rs (rv x) (@Eq Nat))) (sX7_inputs hx (rp_2 hq282_7) rl_0) (fun mq291_9 q291_9 hq291_9 => ?_)
                  refine rz_sw (x := x) hq291_9 (fun mv291_10 v291_10 hv291_10 => ?_) (fun u_63 => ?_)
                  · refine rz_tst (veq_s hx hv291_10 rl_3) ?_ ?_
                    · refine rz_bnd (P := (rs (rv x) (@Eq Nat))) (sX7_inputs hx (rp_2 hq282_7) rl_1) (fun mq300_11 q300_11 hq300_11 => ?_)
                      refine rz_sw (x := x) hq300_11 (fun mv300_12 v300_12 hv300_12 => ?_) (fun u_62 => ?_)
                      · refine rz_tst (veq_s hx hv300_12 rl_4) ?_ ?_
                        · refine rz_bnd (P := (rs (rv x) (@Eq Nat))) (sX7_inputs hx (rp_2 hq282_7) rl_2) (fun mq309_13 q309_13 hq309_13 => ?_)
                          refine rz_sw (x := x) hq309_13 (fun mv309_14 v309_14 hv309_14 => ?_) (fun u_61 => ?_)
                          · refine rz_tst (veq_s hx hv309_14 rl_0) ?_ ?_
                            · refine rz_bnd (P := (rs (rv x) (@Eq Nat))) (sX7_affectedBy hx (rp_2 hq282_7) rl_0) (fun mq317_15 q317_15 hq317_15 => ?_)
                              refine rz_sw (x := x) hq317_15 (fun mv317_16 v317_16 hv317_16 => ?_) (fun u_60 => ?_)
                              · refine rz_tst (veq_s hx hv317_16 rl_13) ?_ ?_
                                · refine rz_bnd (P := (rs (rv x) (@Eq Nat))) (sX7_affectedBy hx (rp_2 hq282_7) rl_2) (fun mq327_17 q327_17 hq327_17 => ?_)
                                  refine rz_sw (x := x) hq327_17 (fun mv327_18 v327_18 hv327_18 => ?_) (fun u_59 => ?_)
                                  · refine rz_tst (veq_s hx hv327_18 rl_14) ?_ ?_
                                    · refine rz_bnd (P := (rs (rv x) (@Eq Nat))) (sX7_affectedByGoingDown hx (rp_2 hq282_7) rl_1) (fun mq337_19 q337_19 hq337_19 => ?_)
                                      refine rz_sw (x := x) hq337_19 (fun mv337_20 v337_20 hv337_20 => ?_) (fun u_58 => ?_)
                                      · refine rz_tst (veq_s hx hv337_20 rl_13) ?_ ?_
                                        · refine rz_bnd (P := (rp (rv x) (rm x))) (sX7_needed hx (rp_2 hq282_7)) (fun mq346_21 q346_21 hq346_21 => ?_)
                                          refine rz_tst (veq_s hx (rp_1 hq346_21) rl_15) ?_ ?_
                                          · refine rz_bnd (P := (rp (rs (rv x) (@Eq Nat)) (rm x))) (sX7_whyRun hx (rp_2 hq346_21) rl_0) (fun mq356_22 q356_22 hq356_22 => ?_)
                                            refine rz_sw (x := x) (rp_1 hq356_22) (fun mv356_23 v356_23 hv356_23 => ?_) (fun u_57 => ?_)
                                            · refine rz_tst (veq_s hx hv356_23 rl_1) ?_ ?_
                                              · refine rz_bnd (P := (rp (rv x) (rm x))) (sL_act hx (rp_2 hq356_22) rl_15 rl_2 rl_0) (fun mq368_24 q368_24 hq368_24 => ?_)
                                                refine rz_tst (veq_s hx (rp_1 hq368_24) rl_m33) ?_ ?_
                                                · refine rz_bnd (P := (rp (rs (rv x) (@Eq Nat)) (rm x))) (sX7_run hx (rp_2 hq368_24) rl_0) (fun mq378_25 q378_25 hq378_25 => ?_)
                                                  refine rz_sw (x := x) (rp_1 hq378_25) (fun mv378_26 v378_26 hv378_26 => ?_) (fun u_56 => ?_)
                                                  · refine rz_tst (veq_s hx hv378_26 rl_1) ?_ ?_
                                                    · refine rz_bnd (P := (rp (rs (rv x) (@Eq Nat)) (rm x))) (sX7_run hx (rp_2 hq378_25) rl_0) (fun mq387_27 q387_27 hq387_27 => ?_)
                                                      refine rz_sw (x := x) (rp_1 hq387_27) (fun mv387_28 v387_28 hv387_28 => ?_) (fun u_55 => ?_)
                                                      · refine rz_tst (veq_s hx hv387_28 rl_1) ?_ ?_
                                                        · refine rz_bnd (P := (rp (rs (rv x) (@Eq Nat)) (rm x))) (sX7_keyOf hx (rp_2 hq387_27) rl_0) (fun mq396_29 q396_29 hq396_29 => ?_)
                                                          refine rz_sw (x := x) (rp_1 hq396_29) (fun mv396_30 v396_30 hv396_30 => ?_) (fun u_54 => ?_)
                                                          · refine rz_tst (veq_s hx hv396_30 rl_1) ?_ ?_
                                                            · refine rz_bnd (P := (rp (rs (rv x) (@Eq Nat)) (rm x))) (sX7_run hx (rp_2 hq396_29) rl_1) (fun mq405_31 q405_31 hq405_31 => ?_)
                                                              refine rz_sw (x := x) (rp_1 hq405_31) (fun mv405_32 v405_32 hv405_32 => ?_) (fun u_53 => ?_)
                                                              · refine rz_tst (veq_s hx hv405_32 rl_2) ?_ ?_
                                                                · refine rz_bnd (P := (rp (rs (rv x) (@Eq Nat)) (rm x))) (sX7_run hx (rp_2 hq405_31) rl_2) (fun mq414_33 q414_33 hq414_33 => ?_)
                                                                  refine rz_sw (x := x) (rp_1 hq414_33) (fun mv414_34 v414_34 hv414_34 => ?_) (fun u_52 => ?_)
                                                                  · refine rz_tst (veq_s hx hv414_34 rl_3) ?_ ?_
                                                                    · refine rz_bnd (P := (rp (rv x) (rm x))) (sX7_needed hx (rp_2 hq414_33)) (fun mq422_35 q422_35 hq422_35 => ?_)
                                                                      refine rz_tst (veq_s hx (rp_1 hq422_35) rl_8) ?_ ?_
                                                                      · refine rz_bnd (P := (rp (rs (rv x) (@Eq Nat)) (rm x))) (sX7_whyRun hx (rp_2 hq422_35) rl_3) (fun mq432_36 q432_36 hq432_36 => ?_)
                                                                        refine rz_sw (x := x) (rp_1 hq432_36) (fun mv432_37 v432_37 hv432_37 => ?_) (fun u_51 => ?_)
                                                                        · refine rz_tst (veq_s hx hv432_37 rl_1) ?_ ?_
                                                                          · refine rz_bnd (P := (rp (rs (rv x) (@Eq Nat)) (rm x))) (sX7_whyRun hx (rp_2 hq432_36) rl_2) (fun mq441_38 q441_38 hq441_38 => ?_)
                                                                            refine rz_sw (x := x) (rp_1 hq441_38) (fun mv441_39 v441_39 hv441_39 => ?_) (fun u_50 => ?_)
                                                                            · refine rz_tst (veq_s hx hv441_39 rl_0) ?_ ?_
                                                                              · refine rz_bnd (P := (rp (rs (rv x) (@Eq Nat)) (rm x))) (sX7_runAll hx (rp_2 hq441_38)) (fun mq448_40 q448_40 hq448_40 => ?_)
                                                                                refine rz_sw (x := x) (rp_1 hq448_40) (fun mv448_41 v448_41 hv448_41 => ?_) (fun u_49 => ?_)
                                                                                · refine rz_tst (veq_s hx hv448_41 rl_1) ?_ ?_
                                                                                  · refine rz_bnd (P := (rp (rs (rv x) (@Eq Nat)) (rm x))) (sX7_keyOf hx (rp_2 hq448_40) rl_3) (fun mq457_42 q457_42 hq457_42 => ?_)
                                                                                    refine rz_sw (x := x) (rp_1 hq457_42) (fun mv457_43 v457_43 hv457_43 => ?_) (fun u_48 => ?_)
                                                                                    · refine rz_tst (veq_s hx hv457_43 rl_4) ?_ ?_
                                                                                      · refine rz_bnd (P := (rp (rs (rv x) (@Eq Nat)) (rm x))) (sX7_runAll hx (rp_2 hq457_42)) (fun mq465_44 q465_44 hq465_44 => ?_)
                                                                                        refine rz_sw (x := x) (rp_1 hq465_44) (fun mv465_45 v465_45 hv465_45 => ?_) (fun u_47 => ?_)
                                                                                        · refine rz_tst (veq_s hx hv465_45 rl_0) ?_ ?_
                                                                                          · refine rz_tst (veq_s hx (sX7_keys hx (rp_2 hq465_44)) rl_4) ?_ ?_
                                                                                            · refine rz_bnd (P := (rp (rv x) (rm x))) (sL_refuses hx (rp_2 hq465_44) rl_3) (fun mq481_46 q481_46 hq481_46 => ?_)
                                                                                              refine rz_tst (veq_s hx (rp_1 hq481_46) rl_0) ?_ ?_
                                                                                              · exact (sL_runs_487 hx (rp_2 hq481_46))
                                                                                              · exact (sL_runs_489 hx (rp_2 hq481_46))
                                                                                            · exact (sL_runs_487 hx (rp_2 hq465_44))
                                                                                          · exact (sL_runs_487 hx (rp_2 hq465_44))
                                                                                        · exact rz_none
                                                                                      · exact (sL_runs_487 hx (rp_2 hq457_42))
                                                                                    · exact rz_none
                                                                                  · exact (sL_runs_487 hx (rp_2 hq448_40))
                                                                                · exact rz_none
                                                                              · exact (sL_runs_487 hx (rp_2 hq441_38))
                                                                            · exact rz_none
                                                                          · exact (sL_runs_487 hx (rp_2 hq432_36))
                                                                        · exact rz_none
                                                                      · exact (sL_runs_487 hx (rp_2 hq422_35))
                                                                    · exact (sL_runs_487 hx (rp_2 hq414_33))
                                                                  · exact rz_none
                                                                · exact (sL_runs_487 hx (rp_2 hq405_31))
                                                              · exact rz_none
                                                            · exact (sL_runs_487 hx (rp_2 hq396_29))
                                                          · exact rz_none
                                                        · exact (sL_runs_487 hx (rp_2 hq387_27))
                                                      · exact rz_none
                                                    · exact (sL_runs_487 hx (rp_2 hq378_25))
                                                  · exact rz_none
                                                · exact (sL_runs_487 hx (rp_2 hq368_24))
                                              · exact (sL_runs_487 hx (rp_2 hq356_22))
                                            · exact rz_none
                                          · exact (sL_runs_487 hx (rp_2 hq346_21))
                                        · exact (sL_runs_487 hx (rp_2 hq282_7))
                                      · exact rz_none
                                    · exact (sL_runs_487 hx (rp_2 hq282_7))
                                  · exact rz_none
                                · exact (sL_runs_487 hx (rp_2 hq282_7))
                              · exact rz_none
                            · exact (sL_runs_487 hx (rp_2 hq282_7))
                          · exact rz_none
                        · exact (sL_runs_487 hx (rp_2 hq282_7))
                      · exact rz_none
                    · exact (sL_runs_487 hx (rp_2 hq282_7))
                  · exact rz_none
                · exact (sL_runs_487 hx (rp_2 hq282_7))
              · exact rz_none
            · exact (sL_runs_487 hx (rp_2 hq274_5))
          · exact rz_none
        · exact (sL_runs_487 hx hC_254)
      · exact rz_none
    · exact (sL_runs_487 hx hC_254)
  · exact rz_none
noncomputable def hL_runs_254 (mC_254 : RT) : Option RT := (bdM (gX7_above mC_254 0) fun mq256_1 => (swM mq256_1 (fun mv256_2 => (tst (veq mv256_2 12) (bdM (gX7_above mC_254 3) fun mq266_3 => (swM mq266_3 (fun mv266_4 => (tst (veq mv266_4 0) (bdM (gX7_orderAt mC_254 0) fun mq274_5 => (swM mq274_5.1 (fun mv274_6 => (tst (veq mv274_6 0) (bdM (gX7_orderAt mq274_5.2 3) fun mq282_7 => (swM mq282_7.1 (fun mv282_8 => (tst (veq mv282_8 3) (bdM (gX7_inputs mq282_7.2 0) fun mq291_9 => (swM mq291_9 (fun mv291_10 => (tst (veq mv291_10 3) (bdM (gX7_inputs mq282_7.2 1) fun mq300_11 => (swM mq300_11 (fun mv300_12 => (tst (veq mv300_12 4) (bdM (gX7_inputs mq282_7.2 2) fun mq309_13 => (swM mq309_13 (fun mv309_14 => (tst (veq mv309_14 0) (bdM (gX7_affectedBy mq282_7.2 0) fun mq317_15 => (swM mq317_15 (fun mv317_16 => (tst (veq mv317_16 13) (bdM (gX7_affectedBy mq282_7.2 2) fun mq327_17 => (swM mq327_17 (fun mv327_18 => (tst (veq mv327_18 14) (bdM (gX7_affectedByGoingDown mq282_7.2 1) fun mq337_19 => (swM mq337_19 (fun mv337_20 => (tst (veq mv337_20 13) (bdM (gX7_needed mq282_7.2) fun mq346_21 => (tst (veq mq346_21.1 15) (bdM (gX7_whyRun mq346_21.2 0) fun mq356_22 => (swM mq356_22.1 (fun mv356_23 => (tst (veq mv356_23 1) (bdM (gL_act mq356_22.2 15 2 0) fun mq368_24 => (tst (veq mq368_24.1 4294967263) (bdM (gX7_run mq368_24.2 0) fun mq378_25 => (swM mq378_25.1 (fun mv378_26 => (tst (veq mv378_26 1) (bdM (gX7_run mq378_25.2 0) fun mq387_27 => (swM mq387_27.1 (fun mv387_28 => (tst (veq mv387_28 1) (bdM (gX7_keyOf mq387_27.2 0) fun mq396_29 => (swM mq396_29.1 (fun mv396_30 => (tst (veq mv396_30 1) (bdM (gX7_run mq396_29.2 1) fun mq405_31 => (swM mq405_31.1 (fun mv405_32 => (tst (veq mv405_32 2) (bdM (gX7_run mq405_31.2 2) fun mq414_33 => (swM mq414_33.1 (fun mv414_34 => (tst (veq mv414_34 3) (bdM (gX7_needed mq414_33.2) fun mq422_35 => (tst (veq mq422_35.1 8) (bdM (gX7_whyRun mq422_35.2 3) fun mq432_36 => (swM mq432_36.1 (fun mv432_37 => (tst (veq mv432_37 1) (bdM (gX7_whyRun mq432_36.2 2) fun mq441_38 => (swM mq441_38.1 (fun mv441_39 => (tst (veq mv441_39 0) (bdM (gX7_runAll mq441_38.2) fun mq448_40 => (swM mq448_40.1 (fun mv448_41 => (tst (veq mv448_41 1) (bdM (gX7_keyOf mq448_40.2 3) fun mq457_42 => (swM mq457_42.1 (fun mv457_43 => (tst (veq mv457_43 4) (bdM (gX7_runAll mq457_42.2) fun mq465_44 => (swM mq465_44.1 (fun mv465_45 => (tst (veq mv465_45 0) (tst (veq (gX7_keys mq465_44.2) 4) (bdM (gL_refuses mq465_44.2 3) fun mq481_46 => (tst (veq mq481_46.1 0) none (some mq481_46.2))) none) none)) (fun u_47 => none))) none)) (fun u_48 => none))) none)) (fun u_49 => none))) none)) (fun u_50 => none))) none)) (fun u_51 => none))) none)) none)) (fun u_52 => none))) none)) (fun u_53 => none))) none)) (fun u_54 => none))) none)) (fun u_55 => none))) none)) (fun u_56 => none))) none)) none)) (fun u_57 => none))) none)) none)) (fun u_58 => none))) none)) (fun u_59 => none))) none)) (fun u_60 => none))) none)) (fun u_61 => none))) none)) (fun u_62 => none))) none)) (fun u_63 => none))) none)) (fun u_64 => none))) none)) (fun u_65 => none))) none)) (fun u_66 => none))) none)) (fun u_67 => none)))
theorem tL_runs_254 {x : Nat} (hx : x < 1000) {mC_254 : RT} {C_254 : Mem} (hC_254 : (rm x) mC_254 C_254) : RZ (Zex x (fun C => fL_runs_489 C)) (hL_runs_254 mC_254) (fL_runs_254 C_254) := by
  unfold hL_runs_254 fL_runs_254
  refine rz_bnd (P := (rs (rv x) (@Eq Nat))) (sX7_above hx hC_254 rl_0) (fun mq256_1 q256_1 hq256_1 => ?_)
  refine rz_sw (x := x) hq256_1 (fun mv256_2 v256_2 hv256_2 => ?_) (fun u_67 => ?_)
  · refine rz_tst (veq_s hx hv256_2 rl_12) ?_ ?_
    · refine rz_bnd (P := (rs (rv x) (@Eq Nat))) (sX7_above hx hC_254 rl_3) (fun mq266_3 q266_3 hq266_3 => ?_)
      refine rz_sw (x := x) hq266_3 (fun mv266_4 v266_4 hv266_4 => ?_) (fun u_66 => ?_)
      · refine rz_tst (veq_s hx hv266_4 rl_0) ?_ ?_
        · refine rz_bnd (P := (rp (rs (rv x) (@Eq Nat)) (rm x))) (sX7_orderAt hx hC_254 rl_0) (fun mq274_5 q274_5 hq274_5 => ?_)
          refine rz_sw (x := x) (rp_1 hq274_5) (fun mv274_6 v274_6 hv274_6 => ?_) (fun u_65 => ?_)
          · refine rz_tst (veq_s hx hv274_6 rl_0) ?_ ?_
            · refine rz_bnd (P := (rp (rs (rv x) (@Eq Nat)) (rm x))) (sX7_orderAt hx (rp_2 hq274_5) rl_3) (fun mq282_7 q282_7 hq282_7 => ?_)
              refine rz_sw (x := x) (rp_1 hq282_7) (fun mv282_8 v282_8 hv282_8 => ?_) (fun u_64 => ?_)
              · refine rz_tst (veq_s hx hv282_8 rl_3) ?_ ?_
                · refine rz_bnd (P := (rs (rv x) (@Eq Nat))) (sX7_inputs hx (rp_2 hq282_7) rl_0) (fun mq291_9 q291_9 hq291_9 => ?_)
                  refine rz_sw (x := x) hq291_9 (fun mv291_10 v291_10 hv291_10 => ?_) (fun u_63 => ?_)
                  · refine rz_tst (veq_s hx hv291_10 rl_3) ?_ ?_
                    · refine rz_bnd (P := (rs (rv x) (@Eq Nat))) (sX7_inputs hx (rp_2 hq282_7) rl_1) (fun mq300_11 q300_11 hq300_11 => ?_)
                      refine rz_sw (x := x) hq300_11 (fun mv300_12 v300_12 hv300_12 => ?_) (fun u_62 => ?_)
                      · refine rz_tst (veq_s hx hv300_12 rl_4) ?_ ?_
                        · refine rz_bnd (P := (rs (rv x) (@Eq Nat))) (sX7_inputs hx (rp_2 hq282_7) rl_2) (fun mq309_13 q309_13 hq309_13 => ?_)
                          refine rz_sw (x := x) hq309_13 (fun mv309_14 v309_14 hv309_14 => ?_) (fun u_61 => ?_)
                          · refine rz_tst (veq_s hx hv309_14 rl_0) ?_ ?_
                            · refine rz_bnd (P := (rs (rv x) (@Eq Nat))) (sX7_affectedBy hx (rp_2 hq282_7) rl_0) (fun mq317_15 q317_15 hq317_15 => ?_)
                              refine rz_sw (x := x) hq317_15 (fun mv317_16 v317_16 hv317_16 => ?_) (fun u_60 => ?_)
                              · refine rz_tst (veq_s hx hv317_16 rl_13) ?_ ?_
                                · refine rz_bnd (P := (rs (rv x) (@Eq Nat))) (sX7_affectedBy hx (rp_2 hq282_7) rl_2) (fun mq327_17 q327_17 hq327_17 => ?_)
                                  refine rz_sw (x := x) hq327_17 (fun mv327_18 v327_18 hv327_18 => ?_) (fun u_59 => ?_)
                                  · refine rz_tst (veq_s hx hv327_18 rl_14) ?_ ?_
                                    · refine rz_bnd (P := (rs (rv x) (@Eq Nat))) (sX7_affectedByGoingDown hx (rp_2 hq282_7) rl_1) (fun mq337_19 q337_19 hq337_19 => ?_)
                                      refine rz_sw (x := x) hq337_19 (fun mv337_20 v337_20 hv337_20 => ?_) (fun u_58 => ?_)
                                      · refine rz_tst (veq_s hx hv337_20 rl_13) ?_ ?_
                                        · refine rz_bnd (P := (rp (rv x) (rm x))) (sX7_needed hx (rp_2 hq282_7)) (fun mq346_21 q346_21 hq346_21 => ?_)
                                          refine rz_tst (veq_s hx (rp_1 hq346_21) rl_15) ?_ ?_
                                          · refine rz_bnd (P := (rp (rs (rv x) (@Eq Nat)) (rm x))) (sX7_whyRun hx (rp_2 hq346_21) rl_0) (fun mq356_22 q356_22 hq356_22 => ?_)
                                            refine rz_sw (x := x) (rp_1 hq356_22) (fun mv356_23 v356_23 hv356_23 => ?_) (fun u_57 => ?_)
                                            · refine rz_tst (veq_s hx hv356_23 rl_1) ?_ ?_
                                              · refine rz_bnd (P := (rp (rv x) (rm x))) (sL_act hx (rp_2 hq356_22) rl_15 rl_2 rl_0) (fun mq368_24 q368_24 hq368_24 => ?_)
                                                refine rz_tst (veq_s hx (rp_1 hq368_24) rl_m33) ?_ ?_
                                                · refine rz_bnd (P := (rp (rs (rv x) (@Eq Nat)) (rm x))) (sX7_run hx (rp_2 hq368_24) rl_0) (fun mq378_25 q378_25 hq378_25 => ?_)
                                                  refine rz_sw (x := x) (rp_1 hq378_25) (fun mv378_26 v378_26 hv378_26 => ?_) (fun u_56 => ?_)
                                                  · refine rz_tst (veq_s hx hv378_26 rl_1) ?_ ?_
                                                    · refine rz_bnd (P := (rp (rs (rv x) (@Eq Nat)) (rm x))) (sX7_run hx (rp_2 hq378_25) rl_0) (fun mq387_27 q387_27 hq387_27 => ?_)
                                                      refine rz_sw (x := x) (rp_1 hq387_27) (fun mv387_28 v387_28 hv387_28 => ?_) (fun u_55 => ?_)
                                                      · refine rz_tst (veq_s hx hv387_28 rl_1) ?_ ?_
                                                        · refine rz_bnd (P := (rp (rs (rv x) (@Eq Nat)) (rm x))) (sX7_keyOf hx (rp_2 hq387_27) rl_0) (fun mq396_29 q396_29 hq396_29 => ?_)
                                                          refine rz_sw (x := x) (rp_1 hq396_29) (fun mv396_30 v396_30 hv396_30 => ?_) (fun u_54 => ?_)
                                                          · refine rz_tst (veq_s hx hv396_30 rl_1) ?_ ?_
                                                            · refine rz_bnd (P := (rp (rs (rv x) (@Eq Nat)) (rm x))) (sX7_run hx (rp_2 hq396_29) rl_1) (fun mq405_31 q405_31 hq405_31 => ?_)
                                                              refine rz_sw (x := x) (rp_1 hq405_31) (fun mv405_32 v405_32 hv405_32 => ?_) (fun u_53 => ?_)
                                                              · refine rz_tst (veq_s hx hv405_32 rl_2) ?_ ?_
                                                                · refine rz_bnd (P := (rp (rs (rv x) (@Eq Nat)) (rm x))) (sX7_run hx (rp_2 hq405_31) rl_2) (fun mq414_33 q414_33 hq414_33 => ?_)
                                                                  refine rz_sw (x := x) (rp_1 hq414_33) (fun mv414_34 v414_34 hv414_34 => ?_) (fun u_52 => ?_)
                                                                  · refine rz_tst (veq_s hx hv414_34 rl_3) ?_ ?_
                                                                    · refine rz_bnd (P := (rp (rv x) (rm x))) (sX7_needed hx (rp_2 hq414_33)) (fun mq422_35 q422_35 hq422_35 => ?_)
                                                                      refine rz_tst (veq_s hx (rp_1 hq422_35) rl_8) ?_ ?_
                                                                      · refine rz_bnd (P := (rp (rs (rv x) (@Eq Nat)) (rm x))) (sX7_whyRun hx (rp_2 hq422_35) rl_3) (fun mq432_36 q432_36 hq432_36 => ?_)
                                                                        refine rz_sw (x := x) (rp_1 hq432_36) (fun mv432_37 v432_37 hv432_37 => ?_) (fun u_51 => ?_)
                                                                        · refine rz_tst (veq_s hx hv432_37 rl_1) ?_ ?_
                                                                          · refine rz_bnd (P := (rp (rs (rv x) (@Eq Nat)) (rm x))) (sX7_whyRun hx (rp_2 hq432_36) rl_2) (fun mq441_38 q441_38 hq441_38 => ?_)
                                                                            refine rz_sw (x := x) (rp_1 hq441_38) (fun mv441_39 v441_39 hv441_39 => ?_) (fun u_50 => ?_)
                                                                            · refine rz_tst (veq_s hx hv441_39 rl_0) ?_ ?_
                                                                              · refine rz_bnd (P := (rp (rs (rv x) (@Eq Nat)) (rm x))) (sX7_runAll hx (rp_2 hq441_38)) (fun mq448_40 q448_40 hq448_40 => ?_)
                                                                                refine rz_sw (x := x) (rp_1 hq448_40) (fun mv448_41 v448_41 hv448_41 => ?_) (fun u_49 => ?_)
                                                                                · refine rz_tst (veq_s hx hv448_41 rl_1) ?_ ?_
                                                                                  · refine rz_bnd (P := (rp (rs (rv x) (@Eq Nat)) (rm x))) (sX7_keyOf hx (rp_2 hq448_40) rl_3) (fun mq457_42 q457_42 hq457_42 => ?_)
                                                                                    refine rz_sw (x := x) (rp_1 hq457_42) (fun mv457_43 v457_43 hv457_43 => ?_) (fun u_48 => ?_)
                                                                                    · refine rz_tst (veq_s hx hv457_43 rl_4) ?_ ?_
                                                                                      · refine rz_bnd (P := (rp (rs (rv x) (@Eq Nat)) (rm x))) (sX7_runAll hx (rp_2 hq457_42)) (fun mq465_44 q465_44 hq465_44 => ?_)
                                                                                        refine rz_sw (x := x) (rp_1 hq465_44) (fun mv465_45 v465_45 hv465_45 => ?_) (fun u_47 => ?_)
                                                                                        · refine rz_tst (veq_s hx hv465_45 rl_0) ?_ ?_
                                                                                          · refine rz_tst (veq_s hx (sX7_keys hx (rp_2 hq465_44)) rl_4) ?_ ?_
                                                                                            · refine rz_bnd (P := (rp (rv x) (rm x))) (sL_refuses hx (rp_2 hq465_44) rl_3) (fun mq481_46 q481_46 hq481_46 => ?_)
                                                                                              refine rz_tst (veq_s hx (rp_1 hq481_46) rl_0) ?_ ?_
                                                                                              · exact rz_none
                                                                                              · exact rz_out (rp_2 hq481_46)
                                                                                            · exact rz_none
                                                                                          · exact rz_none
                                                                                        · exact rz_none
                                                                                      · exact rz_none
                                                                                    · exact rz_none
                                                                                  · exact rz_none
                                                                                · exact rz_none
                                                                              · exact rz_none
                                                                            · exact rz_none
                                                                          · exact rz_none
                                                                        · exact rz_none
                                                                      · exact rz_none
                                                                    · exact rz_none
                                                                  · exact rz_none
                                                                · exact rz_none
                                                              · exact rz_none
                                                            · exact rz_none
                                                          · exact rz_none
                                                        · exact rz_none
                                                      · exact rz_none
                                                    · exact rz_none
                                                  · exact rz_none
                                                · exact rz_none
                                              · exact rz_none
                                            · exact rz_none
                                          · exact rz_none
                                        · exact rz_none
                                      · exact rz_none
                                    · exact rz_none
                                  · exact rz_none
                                · exact rz_none
                              · exact rz_none
                            · exact rz_none
                          · exact rz_none
                        · exact rz_none
                      · exact rz_none
                    · exact rz_none
                  · exact rz_none
                · exact rz_none
              · exact rz_none
            · exact rz_none
          · exact rz_none
        · exact rz_none
      · exact rz_none
    · exact rz_none
  · exact rz_none
noncomputable def gL_runs_252 (mC_252 : RT) : Option Nat := (some 0)
theorem sL_runs_252 {x : Nat} (hx : x < 1000) {mC_252 : RT} {C_252 : Mem} (hC_252 : (rm x) mC_252 C_252) : RZ (RO (rv x)) (gL_runs_252 mC_252) (fL_runs_252 C_252) := by
  unfold gL_runs_252 fL_runs_252
  exact rz_some rl_0
noncomputable def gL_runs  : Option Nat := (bdM (gL_text R0 97 47 98 46 46 46 46 46) fun mq25_1 => (tst (veq mq25_1.1 0) (gL_runs_252 mq25_1.2) (bdM (gX7_addFile mq25_1.2 1) fun mq33_2 => (swM mq33_2.1 (fun mv33_3 => (tst (veq mv33_3 0) (bdM (gL_text mq33_2.2 97 47 99 46 46 46 46 46) fun mq56_4 => (tst (veq mq56_4.1 0) (gL_runs_252 mq56_4.2) (bdM (gX7_addFile mq56_4.2 3) fun mq64_5 => (swM mq64_5.1 (fun mv64_6 => (tst (veq mv64_6 1) (bdM (gL_text mq64_5.2 101 46 46 46 46 46 46 46) fun mq88_7 => (tst (veq mq88_7.1 0) (gL_runs_252 mq88_7.2) (bdM (gX7_addFile mq88_7.2 4) fun mq96_8 => (swM mq96_8.1 (fun mv96_9 => (tst (veq mv96_9 2) (bdM (gX7_addTarget mq96_8.2 10) fun mq106_10 => (swM mq106_10.1 (fun mv106_11 => (tst (veq mv106_11 0) (bdM (gX7_addTarget mq106_10.2 30) fun mq115_12 => (swM mq115_12.1 (fun mv115_13 => (tst (veq mv115_13 1) (bdM (gX7_addTarget mq115_12.2 20) fun mq125_14 => (swM mq125_14.1 (fun mv125_15 => (tst (veq mv125_15 2) (bdM (gX7_addTarget mq125_14.2 30) fun mq135_16 => (swM mq135_16.1 (fun mv135_17 => (tst (veq mv135_17 3) (bdM (gX7_addGlob mq135_16.2 1) fun mq144_18 => (swM mq144_18.1 (fun mv144_19 => (tst (veq mv144_19 1) (bdM (gL_text mq144_18.2 97 47 42 42 46 46 46 46) fun mq168_20 => (tst (veq mq168_20.1 0) (gL_runs_252 mq168_20.2) (bdM (gX7_addGlob mq168_20.2 0) fun mq176_21 => (swM mq176_21.1 (fun mv176_22 => (tst (veq mv176_22 2) (bdM (gX7_depend mq176_21.2 2 0) fun mq186_23 => (swM mq186_23.1 (fun mv186_24 => (tst (veq mv186_24 1) (bdM (gX7_depend mq186_23.2 2 1) fun mq196_25 => (swM mq196_25.1 (fun mv196_26 => (tst (veq mv196_26 2) (bdM (gX7_depend mq196_25.2 3 2) fun mq206_27 => (swM mq206_27.1 (fun mv206_28 => (tst (veq mv206_28 1) (bdM (gL_act mq206_27.2 7 0 3) fun mq218_29 => (tst (veq mq218_29.1 4294967263) (bdM (gL_act mq218_29.2 7 2 0) fun mq231_30 => (tst (veq mq231_30.1 4294967263) (bdM (gL_act mq231_30.2 7 1 1) fun mq244_31 => (tst (veq mq244_31.1 4294967263) (gL_runs_254 mq244_31.2) (gL_runs_252 mq244_31.2))) (gL_runs_252 mq231_30.2))) (gL_runs_252 mq218_29.2))) (gL_runs_252 mq206_27.2))) (fun u_32 => none))) (gL_runs_252 mq196_25.2))) (fun u_33 => none))) (gL_runs_252 mq186_23.2))) (fun u_34 => none))) (gL_runs_252 mq176_21.2))) (fun u_35 => none))))) (gL_runs_252 mq144_18.2))) (fun u_36 => none))) (gL_runs_252 mq135_16.2))) (fun u_37 => none))) (gL_runs_252 mq125_14.2))) (fun u_38 => none))) (gL_runs_252 mq115_12.2))) (fun u_39 => none))) (gL_runs_252 mq106_10.2))) (fun u_40 => none))) (gL_runs_252 mq96_8.2))) (fun u_41 => none))))) (gL_runs_252 mq64_5.2))) (fun u_42 => none))))) (gL_runs_252 mq33_2.2))) (fun u_43 => none)))))
theorem sL_runs {x : Nat} (hx : x < 1000)  : RZ (RO (rv x)) (gL_runs) (fL_runs) := by
  unfold gL_runs fL_runs
  refine rz_bnd (P := (rp (rv x) (rm x))) (sL_text hx R0_s rl_97 rl_47 rl_98 rl_46 rl_46 rl_46 rl_46 rl_46) (fun mq25_1 q25_1 hq25_1 => ?_)
  refine rz_tst (veq_s hx (rp_1 hq25_1) rl_0) ?_ ?_
  · exact (sL_runs_252 hx (rp_2 hq25_1))
  · refine rz_bnd (P := (rp (rs (rv x) (@Eq Nat)) (rm x))) (sX7_addFile hx (rp_2 hq25_1) rl_1) (fun mq33_2 q33_2 hq33_2 => ?_)
    refine rz_sw (x := x) (rp_1 hq33_2) (fun mv33_3 v33_3 hv33_3 => ?_) (fun u_43 => ?_)
    · refine rz_tst (veq_s hx hv33_3 rl_0) ?_ ?_
      · refine rz_bnd (P := (rp (rv x) (rm x))) (sL_text hx (rp_2 hq33_2) rl_97 rl_47 rl_99 rl_46 rl_46 rl_46 rl_46 rl_46) (fun mq56_4 q56_4 hq56_4 => ?_)
        refine rz_tst (veq_s hx (rp_1 hq56_4) rl_0) ?_ ?_
        · exact (sL_runs_252 hx (rp_2 hq56_4))
        · refine rz_bnd (P := (rp (rs (rv x) (@Eq Nat)) (rm x))) (sX7_addFile hx (rp_2 hq56_4) rl_3) (fun mq64_5 q64_5 hq64_5 => ?_)
          refine rz_sw (x := x) (rp_1 hq64_5) (fun mv64_6 v64_6 hv64_6 => ?_) (fun u_42 => ?_)
          · refine rz_tst (veq_s hx hv64_6 rl_1) ?_ ?_
            · refine rz_bnd (P := (rp (rv x) (rm x))) (sL_text hx (rp_2 hq64_5) rl_101 rl_46 rl_46 rl_46 rl_46 rl_46 rl_46 rl_46) (fun mq88_7 q88_7 hq88_7 => ?_)
              refine rz_tst (veq_s hx (rp_1 hq88_7) rl_0) ?_ ?_
              · exact (sL_runs_252 hx (rp_2 hq88_7))
              · refine rz_bnd (P := (rp (rs (rv x) (@Eq Nat)) (rm x))) (sX7_addFile hx (rp_2 hq88_7) rl_4) (fun mq96_8 q96_8 hq96_8 => ?_)
                refine rz_sw (x := x) (rp_1 hq96_8) (fun mv96_9 v96_9 hv96_9 => ?_) (fun u_41 => ?_)
                · refine rz_tst (veq_s hx hv96_9 rl_2) ?_ ?_
                  · refine rz_bnd (P := (rp (rs (rv x) (@Eq Nat)) (rm x))) (sX7_addTarget hx (rp_2 hq96_8) rl_10) (fun mq106_10 q106_10 hq106_10 => ?_)
                    refine rz_sw (x := x) (rp_1 hq106_10) (fun mv106_11 v106_11 hv106_11 => ?_) (fun u_40 => ?_)
                    · refine rz_tst (veq_s hx hv106_11 rl_0) ?_ ?_
                      · refine rz_bnd (P := (rp (rs (rv x) (@Eq Nat)) (rm x))) (sX7_addTarget hx (rp_2 hq106_10) rl_30) (fun mq115_12 q115_12 hq115_12 => ?_)
                        refine rz_sw (x := x) (rp_1 hq115_12) (fun mv115_13 v115_13 hv115_13 => ?_) (fun u_39 => ?_)
                        · refine rz_tst (veq_s hx hv115_13 rl_1) ?_ ?_
                          · refine rz_bnd (P := (rp (rs (rv x) (@Eq Nat)) (rm x))) (sX7_addTarget hx (rp_2 hq115_12) rl_20) (fun mq125_14 q125_14 hq125_14 => ?_)
                            refine rz_sw (x := x) (rp_1 hq125_14) (fun mv125_15 v125_15 hv125_15 => ?_) (fun u_38 => ?_)
                            · refine rz_tst (veq_s hx hv125_15 rl_2) ?_ ?_
                              · refine rz_bnd (P := (rp (rs (rv x) (@Eq Nat)) (rm x))) (sX7_addTarget hx (rp_2 hq125_14) rl_30) (fun mq135_16 q135_16 hq135_16 => ?_)
                                refine rz_sw (x := x) (rp_1 hq135_16) (fun mv135_17 v135_17 hv135_17 => ?_) (fun u_37 => ?_)
                                · refine rz_tst (veq_s hx hv135_17 rl_3) ?_ ?_
                                  · refine rz_bnd (P := (rp (rs (rv x) (@Eq Nat)) (rm x))) (sX7_addGlob hx (rp_2 hq135_16) rl_1) (fun mq144_18 q144_18 hq144_18 => ?_)
                                    refine rz_sw (x := x) (rp_1 hq144_18) (fun mv144_19 v144_19 hv144_19 => ?_) (fun u_36 => ?_)
                                    · refine rz_tst (veq_s hx hv144_19 rl_1) ?_ ?_
                                      · refine rz_bnd (P := (rp (rv x) (rm x))) (sL_text hx (rp_2 hq144_18) rl_97 rl_47 rl_42 rl_42 rl_46 rl_46 rl_46 rl_46) (fun mq168_20 q168_20 hq168_20 => ?_)
                                        refine rz_tst (veq_s hx (rp_1 hq168_20) rl_0) ?_ ?_
                                        · exact (sL_runs_252 hx (rp_2 hq168_20))
                                        · refine rz_bnd (P := (rp (rs (rv x) (@Eq Nat)) (rm x))) (sX7_addGlob hx (rp_2 hq168_20) rl_0) (fun mq176_21 q176_21 hq176_21 => ?_)
                                          refine rz_sw (x := x) (rp_1 hq176_21) (fun mv176_22 v176_22 hv176_22 => ?_) (fun u_35 => ?_)
                                          · refine rz_tst (veq_s hx hv176_22 rl_2) ?_ ?_
                                            · refine rz_bnd (P := (rp (rs (rv x) (@Eq Nat)) (rm x))) (sX7_depend hx (rp_2 hq176_21) rl_2 rl_0) (fun mq186_23 q186_23 hq186_23 => ?_)
                                              refine rz_sw (x := x) (rp_1 hq186_23) (fun mv186_24 v186_24 hv186_24 => ?_) (fun u_34 => ?_)
                                              · refine rz_tst (veq_s hx hv186_24 rl_1) ?_ ?_
                                                · refine rz_bnd (P := (rp (rs (rv x) (@Eq Nat)) (rm x))) (sX7_depend hx (rp_2 hq186_23) rl_2 rl_1) (fun mq196_25 q196_25 hq196_25 => ?_)
                                                  refine rz_sw (x := x) (rp_1 hq196_25) (fun mv196_26 v196_26 hv196_26 => ?_) (fun u_33 => ?_)
                                                  · refine rz_tst (veq_s hx hv196_26 rl_2) ?_ ?_
                                                    · refine rz_bnd (P := (rp (rs (rv x) (@Eq Nat)) (rm x))) (sX7_depend hx (rp_2 hq196_25) rl_3 rl_2) (fun mq206_27 q206_27 hq206_27 => ?_)
                                                      refine rz_sw (x := x) (rp_1 hq206_27) (fun mv206_28 v206_28 hv206_28 => ?_) (fun u_32 => ?_)
                                                      · refine rz_tst (veq_s hx hv206_28 rl_1) ?_ ?_
                                                        · refine rz_bnd (P := (rp (rv x) (rm x))) (sL_act hx (rp_2 hq206_27) rl_7 rl_0 rl_3) (fun mq218_29 q218_29 hq218_29 => ?_)
                                                          refine rz_tst (veq_s hx (rp_1 hq218_29) rl_m33) ?_ ?_
                                                          · refine rz_bnd (P := (rp (rv x) (rm x))) (sL_act hx (rp_2 hq218_29) rl_7 rl_2 rl_0) (fun mq231_30 q231_30 hq231_30 => ?_)
                                                            refine rz_tst (veq_s hx (rp_1 hq231_30) rl_m33) ?_ ?_
                                                            · refine rz_bnd (P := (rp (rv x) (rm x))) (sL_act hx (rp_2 hq231_30) rl_7 rl_1 rl_1) (fun mq244_31 q244_31 hq244_31 => ?_)
                                                              refine rz_tst (veq_s hx (rp_1 hq244_31) rl_m33) ?_ ?_
                                                              · exact (sL_runs_254 hx (rp_2 hq244_31))
                                                              · exact (sL_runs_252 hx (rp_2 hq244_31))
                                                            · exact (sL_runs_252 hx (rp_2 hq231_30))
                                                          · exact (sL_runs_252 hx (rp_2 hq218_29))
                                                        · exact (sL_runs_252 hx (rp_2 hq206_27))
                                                      · exact rz_none
                                                    · exact (sL_runs_252 hx (rp_2 hq196_25))
                                                  · exact rz_none
                                                · exact (sL_runs_252 hx (rp_2 hq186_23))
                                              · exact rz_none
                                            · exact (sL_runs_252 hx (rp_2 hq176_21))
                                          · exact rz_none
                                      · exact (sL_runs_252 hx (rp_2 hq144_18))
                                    · exact rz_none
                                  · exact (sL_runs_252 hx (rp_2 hq135_16))
                                · exact rz_none
                              · exact (sL_runs_252 hx (rp_2 hq125_14))
                            · exact rz_none
                          · exact (sL_runs_252 hx (rp_2 hq115_12))
                        · exact rz_none
                      · exact (sL_runs_252 hx (rp_2 hq106_10))
                    · exact rz_none
                  · exact (sL_runs_252 hx (rp_2 hq96_8))
                · exact rz_none
            · exact (sL_runs_252 hx (rp_2 hq64_5))
          · exact rz_none
      · exact (sL_runs_252 hx (rp_2 hq33_2))
    · exact rz_none
noncomputable def hL_runs  : Option RT := (bdM (gL_text R0 97 47 98 46 46 46 46 46) fun mq25_1 => (tst (veq mq25_1.1 0) none (bdM (gX7_addFile mq25_1.2 1) fun mq33_2 => (swM mq33_2.1 (fun mv33_3 => (tst (veq mv33_3 0) (bdM (gL_text mq33_2.2 97 47 99 46 46 46 46 46) fun mq56_4 => (tst (veq mq56_4.1 0) none (bdM (gX7_addFile mq56_4.2 3) fun mq64_5 => (swM mq64_5.1 (fun mv64_6 => (tst (veq mv64_6 1) (bdM (gL_text mq64_5.2 101 46 46 46 46 46 46 46) fun mq88_7 => (tst (veq mq88_7.1 0) none (bdM (gX7_addFile mq88_7.2 4) fun mq96_8 => (swM mq96_8.1 (fun mv96_9 => (tst (veq mv96_9 2) (bdM (gX7_addTarget mq96_8.2 10) fun mq106_10 => (swM mq106_10.1 (fun mv106_11 => (tst (veq mv106_11 0) (bdM (gX7_addTarget mq106_10.2 30) fun mq115_12 => (swM mq115_12.1 (fun mv115_13 => (tst (veq mv115_13 1) (bdM (gX7_addTarget mq115_12.2 20) fun mq125_14 => (swM mq125_14.1 (fun mv125_15 => (tst (veq mv125_15 2) (bdM (gX7_addTarget mq125_14.2 30) fun mq135_16 => (swM mq135_16.1 (fun mv135_17 => (tst (veq mv135_17 3) (bdM (gX7_addGlob mq135_16.2 1) fun mq144_18 => (swM mq144_18.1 (fun mv144_19 => (tst (veq mv144_19 1) (bdM (gL_text mq144_18.2 97 47 42 42 46 46 46 46) fun mq168_20 => (tst (veq mq168_20.1 0) none (bdM (gX7_addGlob mq168_20.2 0) fun mq176_21 => (swM mq176_21.1 (fun mv176_22 => (tst (veq mv176_22 2) (bdM (gX7_depend mq176_21.2 2 0) fun mq186_23 => (swM mq186_23.1 (fun mv186_24 => (tst (veq mv186_24 1) (bdM (gX7_depend mq186_23.2 2 1) fun mq196_25 => (swM mq196_25.1 (fun mv196_26 => (tst (veq mv196_26 2) (bdM (gX7_depend mq196_25.2 3 2) fun mq206_27 => (swM mq206_27.1 (fun mv206_28 => (tst (veq mv206_28 1) (bdM (gL_act mq206_27.2 7 0 3) fun mq218_29 => (tst (veq mq218_29.1 4294967263) (bdM (gL_act mq218_29.2 7 2 0) fun mq231_30 => (tst (veq mq231_30.1 4294967263) (bdM (gL_act mq231_30.2 7 1 1) fun mq244_31 => (tst (veq mq244_31.1 4294967263) (some mq244_31.2) none)) none)) none)) none)) (fun u_32 => none))) none)) (fun u_33 => none))) none)) (fun u_34 => none))) none)) (fun u_35 => none))))) none)) (fun u_36 => none))) none)) (fun u_37 => none))) none)) (fun u_38 => none))) none)) (fun u_39 => none))) none)) (fun u_40 => none))) none)) (fun u_41 => none))))) none)) (fun u_42 => none))))) none)) (fun u_43 => none)))))
theorem tL_runs {x : Nat} (hx : x < 1000)  : RZ (Zex x (fun C => fL_runs_254 C)) (hL_runs) (fL_runs) := by
  unfold hL_runs fL_runs
  refine rz_bnd (P := (rp (rv x) (rm x))) (sL_text hx R0_s rl_97 rl_47 rl_98 rl_46 rl_46 rl_46 rl_46 rl_46) (fun mq25_1 q25_1 hq25_1 => ?_)
  refine rz_tst (veq_s hx (rp_1 hq25_1) rl_0) ?_ ?_
  · exact rz_none
  · refine rz_bnd (P := (rp (rs (rv x) (@Eq Nat)) (rm x))) (sX7_addFile hx (rp_2 hq25_1) rl_1) (fun mq33_2 q33_2 hq33_2 => ?_)
    refine rz_sw (x := x) (rp_1 hq33_2) (fun mv33_3 v33_3 hv33_3 => ?_) (fun u_43 => ?_)
    · refine rz_tst (veq_s hx hv33_3 rl_0) ?_ ?_
      · refine rz_bnd (P := (rp (rv x) (rm x))) (sL_text hx (rp_2 hq33_2) rl_97 rl_47 rl_99 rl_46 rl_46 rl_46 rl_46 rl_46) (fun mq56_4 q56_4 hq56_4 => ?_)
        refine rz_tst (veq_s hx (rp_1 hq56_4) rl_0) ?_ ?_
        · exact rz_none
        · refine rz_bnd (P := (rp (rs (rv x) (@Eq Nat)) (rm x))) (sX7_addFile hx (rp_2 hq56_4) rl_3) (fun mq64_5 q64_5 hq64_5 => ?_)
          refine rz_sw (x := x) (rp_1 hq64_5) (fun mv64_6 v64_6 hv64_6 => ?_) (fun u_42 => ?_)
          · refine rz_tst (veq_s hx hv64_6 rl_1) ?_ ?_
            · refine rz_bnd (P := (rp (rv x) (rm x))) (sL_text hx (rp_2 hq64_5) rl_101 rl_46 rl_46 rl_46 rl_46 rl_46 rl_46 rl_46) (fun mq88_7 q88_7 hq88_7 => ?_)
              refine rz_tst (veq_s hx (rp_1 hq88_7) rl_0) ?_ ?_
              · exact rz_none
              · refine rz_bnd (P := (rp (rs (rv x) (@Eq Nat)) (rm x))) (sX7_addFile hx (rp_2 hq88_7) rl_4) (fun mq96_8 q96_8 hq96_8 => ?_)
                refine rz_sw (x := x) (rp_1 hq96_8) (fun mv96_9 v96_9 hv96_9 => ?_) (fun u_41 => ?_)
                · refine rz_tst (veq_s hx hv96_9 rl_2) ?_ ?_
                  · refine rz_bnd (P := (rp (rs (rv x) (@Eq Nat)) (rm x))) (sX7_addTarget hx (rp_2 hq96_8) rl_10) (fun mq106_10 q106_10 hq106_10 => ?_)
                    refine rz_sw (x := x) (rp_1 hq106_10) (fun mv106_11 v106_11 hv106_11 => ?_) (fun u_40 => ?_)
                    · refine rz_tst (veq_s hx hv106_11 rl_0) ?_ ?_
                      · refine rz_bnd (P := (rp (rs (rv x) (@Eq Nat)) (rm x))) (sX7_addTarget hx (rp_2 hq106_10) rl_30) (fun mq115_12 q115_12 hq115_12 => ?_)
                        refine rz_sw (x := x) (rp_1 hq115_12) (fun mv115_13 v115_13 hv115_13 => ?_) (fun u_39 => ?_)
                        · refine rz_tst (veq_s hx hv115_13 rl_1) ?_ ?_
                          · refine rz_bnd (P := (rp (rs (rv x) (@Eq Nat)) (rm x))) (sX7_addTarget hx (rp_2 hq115_12) rl_20) (fun mq125_14 q125_14 hq125_14 => ?_)
                            refine rz_sw (x := x) (rp_1 hq125_14) (fun mv125_15 v125_15 hv125_15 => ?_) (fun u_38 => ?_)
                            · refine rz_tst (veq_s hx hv125_15 rl_2) ?_ ?_
                              · refine rz_bnd (P := (rp (rs (rv x) (@Eq Nat)) (rm x))) (sX7_addTarget hx (rp_2 hq125_14) rl_30) (fun mq135_16 q135_16 hq135_16 => ?_)
                                refine rz_sw (x := x) (rp_1 hq135_16) (fun mv135_17 v135_17 hv135_17 => ?_) (fun u_37 => ?_)
                                · refine rz_tst (veq_s hx hv135_17 rl_3) ?_ ?_
                                  · refine rz_bnd (P := (rp (rs (rv x) (@Eq Nat)) (rm x))) (sX7_addGlob hx (rp_2 hq135_16) rl_1) (fun mq144_18 q144_18 hq144_18 => ?_)
                                    refine rz_sw (x := x) (rp_1 hq144_18) (fun mv144_19 v144_19 hv144_19 => ?_) (fun u_36 => ?_)
                                    · refine rz_tst (veq_s hx hv144_19 rl_1) ?_ ?_
                                      · refine rz_bnd (P := (rp (rv x) (rm x))) (sL_text hx (rp_2 hq144_18) rl_97 rl_47 rl_42 rl_42 rl_46 rl_46 rl_46 rl_46) (fun mq168_20 q168_20 hq168_20 => ?_)
                                        refine rz_tst (veq_s hx (rp_1 hq168_20) rl_0) ?_ ?_
                                        · exact rz_none
                                        · refine rz_bnd (P := (rp (rs (rv x) (@Eq Nat)) (rm x))) (sX7_addGlob hx (rp_2 hq168_20) rl_0) (fun mq176_21 q176_21 hq176_21 => ?_)
                                          refine rz_sw (x := x) (rp_1 hq176_21) (fun mv176_22 v176_22 hv176_22 => ?_) (fun u_35 => ?_)
                                          · refine rz_tst (veq_s hx hv176_22 rl_2) ?_ ?_
                                            · refine rz_bnd (P := (rp (rs (rv x) (@Eq Nat)) (rm x))) (sX7_depend hx (rp_2 hq176_21) rl_2 rl_0) (fun mq186_23 q186_23 hq186_23 => ?_)
                                              refine rz_sw (x := x) (rp_1 hq186_23) (fun mv186_24 v186_24 hv186_24 => ?_) (fun u_34 => ?_)
                                              · refine rz_tst (veq_s hx hv186_24 rl_1) ?_ ?_
                                                · refine rz_bnd (P := (rp (rs (rv x) (@Eq Nat)) (rm x))) (sX7_depend hx (rp_2 hq186_23) rl_2 rl_1) (fun mq196_25 q196_25 hq196_25 => ?_)
                                                  refine rz_sw (x := x) (rp_1 hq196_25) (fun mv196_26 v196_26 hv196_26 => ?_) (fun u_33 => ?_)
                                                  · refine rz_tst (veq_s hx hv196_26 rl_2) ?_ ?_
                                                    · refine rz_bnd (P := (rp (rs (rv x) (@Eq Nat)) (rm x))) (sX7_depend hx (rp_2 hq196_25) rl_3 rl_2) (fun mq206_27 q206_27 hq206_27 => ?_)
                                                      refine rz_sw (x := x) (rp_1 hq206_27) (fun mv206_28 v206_28 hv206_28 => ?_) (fun u_32 => ?_)
                                                      · refine rz_tst (veq_s hx hv206_28 rl_1) ?_ ?_
                                                        · refine rz_bnd (P := (rp (rv x) (rm x))) (sL_act hx (rp_2 hq206_27) rl_7 rl_0 rl_3) (fun mq218_29 q218_29 hq218_29 => ?_)
                                                          refine rz_tst (veq_s hx (rp_1 hq218_29) rl_m33) ?_ ?_
                                                          · refine rz_bnd (P := (rp (rv x) (rm x))) (sL_act hx (rp_2 hq218_29) rl_7 rl_2 rl_0) (fun mq231_30 q231_30 hq231_30 => ?_)
                                                            refine rz_tst (veq_s hx (rp_1 hq231_30) rl_m33) ?_ ?_
                                                            · refine rz_bnd (P := (rp (rv x) (rm x))) (sL_act hx (rp_2 hq231_30) rl_7 rl_1 rl_1) (fun mq244_31 q244_31 hq244_31 => ?_)
                                                              refine rz_tst (veq_s hx (rp_1 hq244_31) rl_m33) ?_ ?_
                                                              · exact rz_out (rp_2 hq244_31)
                                                              · exact rz_none
                                                            · exact rz_none
                                                          · exact rz_none
                                                        · exact rz_none
                                                      · exact rz_none
                                                    · exact rz_none
                                                  · exact rz_none
                                                · exact rz_none
                                              · exact rz_none
                                            · exact rz_none
                                          · exact rz_none
                                      · exact rz_none
                                    · exact rz_none
                                  · exact rz_none
                                · exact rz_none
                              · exact rz_none
                            · exact rz_none
                          · exact rz_none
                        · exact rz_none
                      · exact rz_none
                    · exact rz_none
                  · exact rz_none
                · exact rz_none
            · exact rz_none
          · exact rz_none
      · exact rz_none
    · exact rz_none
