noncomputable def gctch (k : Nat) (mC : RT) : Option (Nat × RT) := (tst (vnq k 3) (some (4294967265, mC)) (tst (vnq k 1) (some (4294967264, mC)) (tst (vnq k 2) (some (4294967263, mC)) none)))
theorem sctch {x : Nat} (hx : x < 1000) {k : Nat} {mC : RT} {C : Mem} (hC : (rm x) mC C) : RZ (RO (rp (rv x) (rm x))) (gctch k mC) (ctch k C) := by
  unfold gctch ctch
  refine rz_tst (vnq_s _ _) ?_ ?_
  · exact rz_some (rp_m rl_m31 hC)
  · refine rz_tst (vnq_s _ _) ?_ ?_
    · exact rz_some (rp_m rl_m32 hC)
    · refine rz_tst (vnq_s _ _) ?_ ?_
      · exact rz_some (rp_m rl_m33 hC)
      · exact rz_none
noncomputable def gL_act (mC : RT) (ma2 : Nat) (ma3 : Nat) (ma4 : Nat) : Option (Nat × RT) := (tst (veq ma2 0) (bdM (gX7_type mC (vi2c ma3)) fun mq_1 => (swM mq_1.1 (fun mr_2 => (some (mr_2, mq_1.2))) (fun k_3 => (gctch k_3 mq_1.2)))) (tst (veq ma2 1) (bdM (gX7_addFile mC ma3) fun mq_4 => (swM mq_4.1 (fun mr_5 => (some (mr_5, mq_4.2))) (fun k_6 => (gctch k_6 mq_4.2)))) (tst (veq ma2 2) (bdM (gX7_edit mC ma3 ma4) fun mq_7 => (swM mq_7.1 (fun mr_8 => (some (mr_8, mq_7.2))) (fun k_9 => (gctch k_9 mq_7.2)))) (tst (veq ma2 3) (bdM (gX7_delete mC ma3) fun mq_10 => (swM mq_10.1 (fun mr_11 => (some (mr_11, mq_10.2))) (fun k_12 => (gctch k_12 mq_10.2)))) (tst (veq ma2 4) (bdM (gX7_matches mC ma3) fun mq_13 => (swM mq_13 (fun mr_14 => (tst (veq mr_14 0) (some (0, mC)) (some (1, mC)))) (fun k_15 => (gctch k_15 mC)))) (tst (veq ma2 5) (bdM (gX7_addTarget mC ma3) fun mq_16 => (swM mq_16.1 (fun mr_17 => (some (mr_17, mq_16.2))) (fun k_18 => (gctch k_18 mq_16.2)))) (tst (veq ma2 6) (bdM (gX7_addGlob mC ma3) fun mq_19 => (swM mq_19.1 (fun mr_20 => (some (mr_20, mq_19.2))) (fun k_21 => (gctch k_21 mq_19.2)))) (tst (veq ma2 7) (bdM (gX7_depend mC ma3 ma4) fun mq_22 => (swM mq_22.1 (fun mr_23 => (some (mr_23, mq_22.2))) (fun k_24 => (gctch k_24 mq_22.2)))) (tst (veq ma2 8) (bdM (gX7_inputs mC ma3) fun mq_25 => (swM mq_25 (fun mr_26 => (some (mr_26, mC))) (fun k_27 => (gctch k_27 mC)))) (tst (veq ma2 9) (bdM (gX7_above mC ma3) fun mq_28 => (swM mq_28 (fun mr_29 => (some (mr_29, mC))) (fun k_30 => (gctch k_30 mC)))) (tst (veq ma2 10) (bdM (gX7_orderAt mC ma3) fun mq_31 => (swM mq_31.1 (fun mr_32 => (some (mr_32, mq_31.2))) (fun k_33 => (gctch k_33 mq_31.2)))) (tst (veq ma2 11) (bdM (gX7_affectedBy mC ma3) fun mq_34 => (swM mq_34 (fun mr_35 => (some (mr_35, mC))) (fun k_36 => (gctch k_36 mC)))) (tst (veq ma2 12) (bdM (gX7_affectedByGoingDown mC ma3) fun mq_37 => (swM mq_37 (fun mr_38 => (some (mr_38, mC))) (fun k_39 => (gctch k_39 mC)))) (tst (veq ma2 13) (bdM (gX7_keyOf mC ma3) fun mq_40 => (swM mq_40.1 (fun mr_41 => (some (mr_41, mq_40.2))) (fun k_42 => (gctch k_42 mq_40.2)))) (tst (veq ma2 14) (bdM (gX7_whyRun mC ma3) fun mq_43 => (swM mq_43.1 (fun mr_44 => (some (mr_44, mq_43.2))) (fun k_45 => (gctch k_45 mq_43.2)))) (tst (veq ma2 15) (bdM (gX7_run mC ma3) fun mq_46 => (swM mq_46.1 (fun mr_47 => (some (mr_47, mq_46.2))) (fun k_48 => (gctch k_48 mq_46.2)))) (tst (veq ma2 16) (bdM (gX7_runAll mC) fun mq_49 => (swM mq_49.1 (fun mr_50 => (some (mr_50, mq_49.2))) (fun k_51 => (gctch k_51 mq_49.2)))) (tst (veq ma2 17) (bdM (gX7_shardOf mC ma3 ma4) fun mq_52 => (swM mq_52.1 (fun mr_53 => (some (mr_53, mq_52.2))) (fun k_54 => (gctch k_54 mq_52.2)))) (tst (veq ma2 18) (bdM (gX7_longestShard mC ma3) fun mq_55 => (swM mq_55.1 (fun mr_56 => (some (mr_56, mq_55.2))) (fun k_57 => (gctch k_57 mq_55.2)))) (tst (veq ma2 19) (bdM (gX7_shardsFor mC ma3) fun mq_58 => (swM mq_58.1 (fun mr_59 => (some (mr_59, mq_58.2))) (fun k_60 => (gctch k_60 mq_58.2)))) (tst (veq ma2 20) (bdM (gX7_addRule mC ma3) fun mq_61 => (swM mq_61.1 (fun mr_62 => (some (mr_62, mq_61.2))) (fun k_63 => (gctch k_63 mq_61.2)))) (bdM (gX7_ownerOf mC ma3) fun mq_64 => (swM mq_64 (fun mr_65 => (some (mr_65, mC))) (fun k_66 => (gctch k_66 mC)))))))))))))))))))))))))
theorem sL_act {x : Nat} (hx : x < 1000) {mC : RT} {C : Mem} (hC : (rm x) mC C) {ma2 : Nat} {a2 : Int32} (ha2 : (rv x) ma2 a2) {ma3 : Nat} {a3 : Int32} (ha3 : (rv x) ma3 a3) {ma4 : Nat} {a4 : Int32} (ha4 : (rv x) ma4 a4) : RZ (RO (rp (rv x) (rm x))) (gL_act mC ma2 ma3 ma4) (fL_act C a2 a3 a4) := by
  unfold gL_act fL_act
  refine rz_tst (veq_s hx ha2 rl_0) ?_ ?_
  · refine rz_bnd (P := (rp (rs (rv x) (@Eq Nat)) (rm x))) (sX7_type hx hC (vi2c_s ha3)) (fun mq_1 q_1 hq_1 => ?_)
    refine rz_sw (x := x) (rp_1 hq_1) (fun mr_2 r_2 hr_2 => ?_) (fun k_3 => ?_)
    · exact rz_some (rp_m hr_2 (rp_2 hq_1))
    · exact (sctch hx (rp_2 hq_1))
  · refine rz_tst (veq_s hx ha2 rl_1) ?_ ?_
    · refine rz_bnd (P := (rp (rs (rv x) (@Eq Nat)) (rm x))) (sX7_addFile hx hC ha3) (fun mq_4 q_4 hq_4 => ?_)
      refine rz_sw (x := x) (rp_1 hq_4) (fun mr_5 r_5 hr_5 => ?_) (fun k_6 => ?_)
      · exact rz_some (rp_m hr_5 (rp_2 hq_4))
      · exact (sctch hx (rp_2 hq_4))
    · refine rz_tst (veq_s hx ha2 rl_2) ?_ ?_
      · refine rz_bnd (P := (rp (rs (rv x) (@Eq Nat)) (rm x))) (sX7_edit hx hC ha3 ha4) (fun mq_7 q_7 hq_7 => ?_)
        refine rz_sw (x := x) (rp_1 hq_7) (fun mr_8 r_8 hr_8 => ?_) (fun k_9 => ?_)
        · exact rz_some (rp_m hr_8 (rp_2 hq_7))
        · exact (sctch hx (rp_2 hq_7))
      · refine rz_tst (veq_s hx ha2 rl_3) ?_ ?_
        · refine rz_bnd (P := (rp (rs (rv x) (@Eq Nat)) (rm x))) (sX7_delete hx hC ha3) (fun mq_10 q_10 hq_10 => ?_)
          refine rz_sw (x := x) (rp_1 hq_10) (fun mr_11 r_11 hr_11 => ?_) (fun k_12 => ?_)
          · exact rz_some (rp_m hr_11 (rp_2 hq_10))
          · exact (sctch hx (rp_2 hq_10))
        · refine rz_tst (veq_s hx ha2 rl_4) ?_ ?_
          · refine rz_bnd (P := (rs (rv x) (@Eq Nat))) (sX7_matches hx hC ha3) (fun mq_13 q_13 hq_13 => ?_)
            refine rz_sw (x := x) hq_13 (fun mr_14 r_14 hr_14 => ?_) (fun k_15 => ?_)
            · refine rz_tst (veq_s hx hr_14 rl_0) ?_ ?_
              · exact rz_some (rp_m rl_0 hC)
              · exact rz_some (rp_m rl_1 hC)
            · exact (sctch hx hC)
          · refine rz_tst (veq_s hx ha2 rl_5) ?_ ?_
            · refine rz_bnd (P := (rp (rs (rv x) (@Eq Nat)) (rm x))) (sX7_addTarget hx hC ha3) (fun mq_16 q_16 hq_16 => ?_)
              refine rz_sw (x := x) (rp_1 hq_16) (fun mr_17 r_17 hr_17 => ?_) (fun k_18 => ?_)
              · exact rz_some (rp_m hr_17 (rp_2 hq_16))
              · exact (sctch hx (rp_2 hq_16))
            · refine rz_tst (veq_s hx ha2 rl_6) ?_ ?_
              · refine rz_bnd (P := (rp (rs (rv x) (@Eq Nat)) (rm x))) (sX7_addGlob hx hC ha3) (fun mq_19 q_19 hq_19 => ?_)
                refine rz_sw (x := x) (rp_1 hq_19) (fun mr_20 r_20 hr_20 => ?_) (fun k_21 => ?_)
                · exact rz_some (rp_m hr_20 (rp_2 hq_19))
                · exact (sctch hx (rp_2 hq_19))
              · refine rz_tst (veq_s hx ha2 rl_7) ?_ ?_
                · refine rz_bnd (P := (rp (rs (rv x) (@Eq Nat)) (rm x))) (sX7_depend hx hC ha3 ha4) (fun mq_22 q_22 hq_22 => ?_)
                  refine rz_sw (x := x) (rp_1 hq_22) (fun mr_23 r_23 hr_23 => ?_) (fun k_24 => ?_)
                  · exact rz_some (rp_m hr_23 (rp_2 hq_22))
                  · exact (sctch hx (rp_2 hq_22))
                · refine rz_tst (veq_s hx ha2 rl_8) ?_ ?_
                  · refine rz_bnd (P := (rs (rv x) (@Eq Nat))) (sX7_inputs hx hC ha3) (fun mq_25 q_25 hq_25 => ?_)
                    refine rz_sw (x := x) hq_25 (fun mr_26 r_26 hr_26 => ?_) (fun k_27 => ?_)
                    · exact rz_some (rp_m hr_26 hC)
                    · exact (sctch hx hC)
                  · refine rz_tst (veq_s hx ha2 rl_9) ?_ ?_
                    · refine rz_bnd (P := (rs (rv x) (@Eq Nat))) (sX7_above hx hC ha3) (fun mq_28 q_28 hq_28 => ?_)
                      refine rz_sw (x := x) hq_28 (fun mr_29 r_29 hr_29 => ?_) (fun k_30 => ?_)
                      · exact rz_some (rp_m hr_29 hC)
                      · exact (sctch hx hC)
                    · refine rz_tst (veq_s hx ha2 rl_10) ?_ ?_
                      · refine rz_bnd (P := (rp (rs (rv x) (@Eq Nat)) (rm x))) (sX7_orderAt hx hC ha3) (fun mq_31 q_31 hq_31 => ?_)
                        refine rz_sw (x := x) (rp_1 hq_31) (fun mr_32 r_32 hr_32 => ?_) (fun k_33 => ?_)
                        · exact rz_some (rp_m hr_32 (rp_2 hq_31))
                        · exact (sctch hx (rp_2 hq_31))
                      · refine rz_tst (veq_s hx ha2 rl_11) ?_ ?_
                        · refine rz_bnd (P := (rs (rv x) (@Eq Nat))) (sX7_affectedBy hx hC ha3) (fun mq_34 q_34 hq_34 => ?_)
                          refine rz_sw (x := x) hq_34 (fun mr_35 r_35 hr_35 => ?_) (fun k_36 => ?_)
                          · exact rz_some (rp_m hr_35 hC)
                          · exact (sctch hx hC)
                        · refine rz_tst (veq_s hx ha2 rl_12) ?_ ?_
                          · refine rz_bnd (P := (rs (rv x) (@Eq Nat))) (sX7_affectedByGoingDown hx hC ha3) (fun mq_37 q_37 hq_37 => ?_)
                            refine rz_sw (x := x) hq_37 (fun mr_38 r_38 hr_38 => ?_) (fun k_39 => ?_)
                            · exact rz_some (rp_m hr_38 hC)
                            · exact (sctch hx hC)
                          · refine rz_tst (veq_s hx ha2 rl_13) ?_ ?_
                            · refine rz_bnd (P := (rp (rs (rv x) (@Eq Nat)) (rm x))) (sX7_keyOf hx hC ha3) (fun mq_40 q_40 hq_40 => ?_)
                              refine rz_sw (x := x) (rp_1 hq_40) (fun mr_41 r_41 hr_41 => ?_) (fun k_42 => ?_)
                              · exact rz_some (rp_m hr_41 (rp_2 hq_40))
                              · exact (sctch hx (rp_2 hq_40))
                            · refine rz_tst (veq_s hx ha2 rl_14) ?_ ?_
                              · refine rz_bnd (P := (rp (rs (rv x) (@Eq Nat)) (rm x))) (sX7_whyRun hx hC ha3) (fun mq_43 q_43 hq_43 => ?_)
                                refine rz_sw (x := x) (rp_1 hq_43) (fun mr_44 r_44 hr_44 => ?_) (fun k_45 => ?_)
                                · exact rz_some (rp_m hr_44 (rp_2 hq_43))
                                · exact (sctch hx (rp_2 hq_43))
                              · refine rz_tst (veq_s hx ha2 rl_15) ?_ ?_
                                · refine rz_bnd (P := (rp (rs (rv x) (@Eq Nat)) (rm x))) (sX7_run hx hC ha3) (fun mq_46 q_46 hq_46 => ?_)
                                  refine rz_sw (x := x) (rp_1 hq_46) (fun mr_47 r_47 hr_47 => ?_) (fun k_48 => ?_)
                                  · exact rz_some (rp_m hr_47 (rp_2 hq_46))
                                  · exact (sctch hx (rp_2 hq_46))
                                · refine rz_tst (veq_s hx ha2 rl_16) ?_ ?_
                                  · refine rz_bnd (P := (rp (rs (rv x) (@Eq Nat)) (rm x))) (sX7_runAll hx hC) (fun mq_49 q_49 hq_49 => ?_)
                                    refine rz_sw (x := x) (rp_1 hq_49) (fun mr_50 r_50 hr_50 => ?_) (fun k_51 => ?_)
                                    · exact rz_some (rp_m hr_50 (rp_2 hq_49))
                                    · exact (sctch hx (rp_2 hq_49))
                                  · refine rz_tst (veq_s hx ha2 rl_17) ?_ ?_
                                    · refine rz_bnd (P := (rp (rs (rv x) (@Eq Nat)) (rm x))) (sX7_shardOf hx hC ha3 ha4) (fun mq_52 q_52 hq_52 => ?_)
                                      refine rz_sw (x := x) (rp_1 hq_52) (fun mr_53 r_53 hr_53 => ?_) (fun k_54 => ?_)
                                      · exact rz_some (rp_m hr_53 (rp_2 hq_52))
                                      · exact (sctch hx (rp_2 hq_52))
                                    · refine rz_tst (veq_s hx ha2 rl_18) ?_ ?_
                                      · refine rz_bnd (P := (rp (rs (rv x) (@Eq Nat)) (rm x))) (sX7_longestShard hx hC ha3) (fun mq_55 q_55 hq_55 => ?_)
                                        refine rz_sw (x := x) (rp_1 hq_55) (fun mr_56 r_56 hr_56 => ?_) (fun k_57 => ?_)
                                        · exact rz_some (rp_m hr_56 (rp_2 hq_55))
                                        · exact (sctch hx (rp_2 hq_55))
                                      · refine rz_tst (veq_s hx ha2 rl_19) ?_ ?_
                                        · refine rz_bnd (P := (rp (rs (rv x) (@Eq Nat)) (rm x))) (sX7_shardsFor hx hC ha3) (fun mq_58 q_58 hq_58 => ?_)
                                          refine rz_sw (x := x) (rp_1 hq_58) (fun mr_59 r_59 hr_59 => ?_) (fun k_60 => ?_)
                                          · exact rz_some (rp_m hr_59 (rp_2 hq_58))
                                          · exact (sctch hx (rp_2 hq_58))
                                        · refine rz_tst (veq_s hx ha2 rl_20) ?_ ?_
                                          · refine rz_bnd (P := (rp (rs (rv x) (@Eq Nat)) (rm x))) (sX7_addRule hx hC ha3) (fun mq_61 q_61 hq_61 => ?_)
                                            refine rz_sw (x := x) (rp_1 hq_61) (fun mr_62 r_62 hr_62 => ?_) (fun k_63 => ?_)
                                            · exact rz_some (rp_m hr_62 (rp_2 hq_61))
                                            · exact (sctch hx (rp_2 hq_61))
                                          · refine rz_bnd (P := (rs (rv x) (@Eq Nat))) (sX7_ownerOf hx hC ha3) (fun mq_64 q_64 hq_64 => ?_)
                                            refine rz_sw (x := x) hq_64 (fun mr_65 r_65 hr_65 => ?_) (fun k_66 => ?_)
                                            · exact rz_some (rp_m hr_65 hC)
                                            · exact (sctch hx hC)
