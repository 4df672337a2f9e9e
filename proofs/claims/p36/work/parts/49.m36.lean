noncomputable def gL_bounds_351 (mC_351 : RT) : Option Nat := (some 0)
theorem sL_bounds_351 {x : Nat} (hx : x < 1000) {mC_351 : RT} {C_351 : Mem} (hC_351 : (rm x) mC_351 C_351) : RZ (RO (rv x)) (gL_bounds_351 mC_351) (fL_bounds_351 C_351) := by
  unfold gL_bounds_351 fL_bounds_351
  exact rz_some rl_0
noncomputable def gL_bounds_320 (mC_320 : RT) : Option Nat := (tst (veq (gX7_files mC_320) 16777215) (bdM (gX7_needed mC_320) fun mq330_1 => (tst (veq mq330_1.1 65534) (bdM (gL_refuses mq330_1.2 24) fun mq341_2 => (tst (veq mq341_2.1 0) (gL_bounds_351 mq341_2.2) (some 1))) (gL_bounds_351 mq330_1.2))) (gL_bounds_351 mC_320))
theorem sL_bounds_320 {x : Nat} (hx : x < 1000) {mC_320 : RT} {C_320 : Mem} (hC_320 : (rm x) mC_320 C_320) : RZ (RO (rv x)) (gL_bounds_320 mC_320) (fL_bounds_320 C_320) := by
  unfold gL_bounds_320 fL_bounds_320
  refine rz_tst (veq_s hx (sX7_files hx hC_320) rl_16777215) ?_ ?_
  · refine rz_bnd (P := (rp (rv x) (rm x))) (sX7_needed hx hC_320) (fun mq330_1 q330_1 hq330_1 => ?_)
    refine rz_tst (veq_s hx (rp_1 hq330_1) rl_65534) ?_ ?_
    · refine rz_bnd (P := (rp (rv x) (rm x))) (sL_refuses hx (rp_2 hq330_1) rl_24) (fun mq341_2 q341_2 hq341_2 => ?_)
      refine rz_tst (veq_s hx (rp_1 hq341_2) rl_0) ?_ ?_
      · exact (sL_bounds_351 hx (rp_2 hq341_2))
      · exact rz_some rl_1
    · exact (sL_bounds_351 hx (rp_2 hq330_1))
  · exact (sL_bounds_351 hx hC_320)
noncomputable def gL_bounds_314 (mt_194 : (RT × Nat)) (mC_314 : RT) : Option ((RT × Nat) ⊕ Nat) := (some (.inl (mC_314, (vadd mt_194.2 1))))
theorem sL_bounds_314 {x : Nat} (hx : x < 1000) {mt_194 : (RT × Nat)} {t_194 : (Mem × Int32)} (ht_194 : (rp (rm x) (rv x)) mt_194 t_194) {mC_314 : RT} {C_314 : Mem} (hC_314 : (rm x) mC_314 C_314) : RZ (RO (rs (rp (rm x) (rv x)) (rv x))) (gL_bounds_314 mt_194 mC_314) (fL_bounds_314 t_194 C_314) := by
  unfold gL_bounds_314 fL_bounds_314
  exact rz_some (rs_l (rp_m hC_314 (vadd_s (rp_2 ht_194) rl_1)))
noncomputable def gL_bounds_312 (mC_312 : RT) : Option Nat := (some 0)
theorem sL_bounds_312 {x : Nat} (hx : x < 1000) {mC_312 : RT} {C_312 : Mem} (hC_312 : (rm x) mC_312 C_312) : RZ (RO (rv x)) (gL_bounds_312 mC_312) (fL_bounds_312 C_312) := by
  unfold gL_bounds_312 fL_bounds_312
  exact rz_some rl_0
noncomputable def gL_bounds_309 (mt_194 : (RT × Nat)) (mC_309 : RT) (ms0_309 : Nat) (ms1_309 : Nat) : Option ((RT × Nat) ⊕ Nat) := (tst (veq ms1_309 ms0_309) (gL_bounds_314 mt_194 mC_309) (exM (gL_bounds_312 mC_309)))
theorem sL_bounds_309 {x : Nat} (hx : x < 1000) {mt_194 : (RT × Nat)} {t_194 : (Mem × Int32)} (ht_194 : (rp (rm x) (rv x)) mt_194 t_194) {mC_309 : RT} {C_309 : Mem} (hC_309 : (rm x) mC_309 C_309) {ms0_309 : Nat} {s0_309 : Int32} (hs0_309 : (rv x) ms0_309 s0_309) {ms1_309 : Nat} {s1_309 : Int32} (hs1_309 : (rv x) ms1_309 s1_309) : RZ (RO (rs (rp (rm x) (rv x)) (rv x))) (gL_bounds_309 mt_194 mC_309 ms0_309 ms1_309) (fL_bounds_309 t_194 C_309 s0_309 s1_309) := by
  unfold gL_bounds_309 fL_bounds_309
  refine rz_tst (veq_s hx hs1_309 hs0_309) ?_ ?_
  · exact (sL_bounds_314 hx ht_194 hC_309)
  · refine rz_ex ?_
    exact (sL_bounds_312 hx hC_309)
noncomputable def gL_bounds_283 (mt_194 : (RT × Nat)) (mC_283 : RT) (ms0_283 : Nat) (ms1_283 : Nat) : Option ((RT × Nat) ⊕ Nat) := (tst (veq ms1_283 ms0_283) (bdM (gL_act mC_283 20 (vrem mt_194.2 8) 0) fun mq294_1 => (tst (vnot (vlt mt_194.2 13)) (gL_bounds_309 mt_194 mq294_1.2 4294967263 mq294_1.1) (gL_bounds_309 mt_194 mq294_1.2 mt_194.2 mq294_1.1))) (exM (gL_bounds_312 mC_283)))
theorem sL_bounds_283 {x : Nat} (hx : x < 1000) {mt_194 : (RT × Nat)} {t_194 : (Mem × Int32)} (ht_194 : (rp (rm x) (rv x)) mt_194 t_194) {mC_283 : RT} {C_283 : Mem} (hC_283 : (rm x) mC_283 C_283) {ms0_283 : Nat} {s0_283 : Int32} (hs0_283 : (rv x) ms0_283 s0_283) {ms1_283 : Nat} {s1_283 : Int32} (hs1_283 : (rv x) ms1_283 s1_283) : RZ (RO (rs (rp (rm x) (rv x)) (rv x))) (gL_bounds_283 mt_194 mC_283 ms0_283 ms1_283) (fL_bounds_283 t_194 C_283 s0_283 s1_283) := by
  unfold gL_bounds_283 fL_bounds_283
  refine rz_tst (veq_s hx hs1_283 hs0_283) ?_ ?_
  · refine rz_bnd (P := (rp (rv x) (rm x))) (sL_act hx hC_283 rl_20 (vrem_s (rp_2 ht_194) (by decide) (by decide) (by decide)) rl_0) (fun mq294_1 q294_1 hq294_1 => ?_)
    refine rz_tst (vle_s hx rl_13 (rp_2 ht_194)) ?_ ?_
    · exact (sL_bounds_309 hx ht_194 (rp_2 hq294_1) rl_m33 (rp_1 hq294_1))
    · exact (sL_bounds_309 hx ht_194 (rp_2 hq294_1) (rp_2 ht_194) (rp_1 hq294_1))
  · refine rz_ex ?_
    exact (sL_bounds_312 hx hC_283)
noncomputable def gL_bounds_261 (mt_194 : (RT × Nat)) (mC_261 : RT) (ms0_261 : Nat) (ms1_261 : Nat) : Option ((RT × Nat) ⊕ Nat) := (tst (veq ms1_261 ms0_261) (bdM (gL_act mC_261 5 mt_194.2 0) fun mq268_1 => (tst (vnot (vlt mt_194.2 16)) (gL_bounds_283 mt_194 mq268_1.2 4294967263 mq268_1.1) (gL_bounds_283 mt_194 mq268_1.2 mt_194.2 mq268_1.1))) (exM (gL_bounds_312 mC_261)))
theorem sL_bounds_261 {x : Nat} (hx : x < 1000) {mt_194 : (RT × Nat)} {t_194 : (Mem × Int32)} (ht_194 : (rp (rm x) (rv x)) mt_194 t_194) {mC_261 : RT} {C_261 : Mem} (hC_261 : (rm x) mC_261 C_261) {ms0_261 : Nat} {s0_261 : Int32} (hs0_261 : (rv x) ms0_261 s0_261) {ms1_261 : Nat} {s1_261 : Int32} (hs1_261 : (rv x) ms1_261 s1_261) : RZ (RO (rs (rp (rm x) (rv x)) (rv x))) (gL_bounds_261 mt_194 mC_261 ms0_261 ms1_261) (fL_bounds_261 t_194 C_261 s0_261 s1_261) := by
  unfold gL_bounds_261 fL_bounds_261
  refine rz_tst (veq_s hx hs1_261 hs0_261) ?_ ?_
  · refine rz_bnd (P := (rp (rv x) (rm x))) (sL_act hx hC_261 rl_5 (rp_2 ht_194) rl_0) (fun mq268_1 q268_1 hq268_1 => ?_)
    refine rz_tst (vle_s hx rl_16 (rp_2 ht_194)) ?_ ?_
    · exact (sL_bounds_283 hx ht_194 (rp_2 hq268_1) rl_m33 (rp_1 hq268_1))
    · exact (sL_bounds_283 hx ht_194 (rp_2 hq268_1) (rp_2 ht_194) (rp_1 hq268_1))
  · refine rz_ex ?_
    exact (sL_bounds_312 hx hC_261)
noncomputable def gL_bounds_235 (mt_194 : (RT × Nat)) (mC_235 : RT) (ms0_235 : Nat) : Option ((RT × Nat) ⊕ Nat) := (bdM (gX7_type mC_235 ms0_235) fun mq235_1 => (swM mq235_1.1 (fun mv235_2 => (tst (veq mv235_2 2) (bdM (gL_act mq235_1.2 1 mt_194.2 0) fun mq246_3 => (tst (vnot (vlt mt_194.2 24)) (gL_bounds_261 mt_194 mq246_3.2 4294967263 mq246_3.1) (gL_bounds_261 mt_194 mq246_3.2 mt_194.2 mq246_3.1))) (exM (gL_bounds_312 mq235_1.2)))) (fun u_4 => none)))
theorem sL_bounds_235 {x : Nat} (hx : x < 1000) {mt_194 : (RT × Nat)} {t_194 : (Mem × Int32)} (ht_194 : (rp (rm x) (rv x)) mt_194 t_194) {mC_235 : RT} {C_235 : Mem} (hC_235 : (rm x) mC_235 C_235) {ms0_235 : Nat} {s0_235 : Int32} (hs0_235 : (rv x) ms0_235 s0_235) : RZ (RO (rs (rp (rm x) (rv x)) (rv x))) (gL_bounds_235 mt_194 mC_235 ms0_235) (fL_bounds_235 t_194 C_235 s0_235) := by
  unfold gL_bounds_235 fL_bounds_235
  refine rz_bnd (P := (rp (rs (rv x) (@Eq Nat)) (rm x))) (sX7_type hx hC_235 hs0_235) (fun mq235_1 q235_1 hq235_1 => ?_)
  refine rz_sw (x := x) (rp_1 hq235_1) (fun mv235_2 v235_2 hv235_2 => ?_) (fun u_4 => ?_)
  · refine rz_tst (veq_s hx hv235_2 rl_2) ?_ ?_
    · refine rz_bnd (P := (rp (rv x) (rm x))) (sL_act hx (rp_2 hq235_1) rl_1 (rp_2 ht_194) rl_0) (fun mq246_3 q246_3 hq246_3 => ?_)
      refine rz_tst (vle_s hx rl_24 (rp_2 ht_194)) ?_ ?_
      · exact (sL_bounds_261 hx ht_194 (rp_2 hq246_3) rl_m33 (rp_1 hq246_3))
      · exact (sL_bounds_261 hx ht_194 (rp_2 hq246_3) (rp_2 ht_194) (rp_1 hq246_3))
    · refine rz_ex ?_
      exact (sL_bounds_312 hx (rp_2 hq235_1))
  · exact rz_none
noncomputable def gL_bounds_194 (mt_194 : (RT × Nat)) : Option ((RT × Nat) ⊕ Nat) := (tst (vnot (vlt mt_194.2 25)) (exM (gL_bounds_320 mt_194.1)) (bdM (gX7_clearText mt_194.1) fun mq201_1 => (bdM (gX7_type mq201_1.2 (vi2c (vadd 97 (vrem mt_194.2 16)))) fun mq214_2 => (swM mq214_2.1 (fun mv214_3 => (tst (veq mv214_3 1) (tst (vnot (vlt mt_194.2 16)) (gL_bounds_235 mt_194 mq214_2.2 121) (gL_bounds_235 mt_194 mq214_2.2 120)) (exM (gL_bounds_312 mq214_2.2)))) (fun u_4 => none)))))
theorem sL_bounds_194 {x : Nat} (hx : x < 1000) {mt_194 : (RT × Nat)} {t_194 : (Mem × Int32)} (ht_194 : (rp (rm x) (rv x)) mt_194 t_194) : RZ (RO (rs (rp (rm x) (rv x)) (rv x))) (gL_bounds_194 mt_194) (fL_bounds_194 t_194) := by
  unfold gL_bounds_194 fL_bounds_194
  refine rz_tst (vle_s hx rl_25 (rp_2 ht_194)) ?_ ?_
  · refine rz_ex ?_
    exact (sL_bounds_320 hx (rp_1 ht_194))
  · refine rz_bnd (P := (rp (rv x) (rm x))) (sX7_clearText hx (rp_1 ht_194)) (fun mq201_1 q201_1 hq201_1 => ?_)
    refine rz_bnd (P := (rp (rs (rv x) (@Eq Nat)) (rm x))) (sX7_type hx (rp_2 hq201_1) (vi2c_s (vadd_s rl_97 (vrem_s (rp_2 ht_194) (by decide) (by decide) (by decide))))) (fun mq214_2 q214_2 hq214_2 => ?_)
    refine rz_sw (x := x) (rp_1 hq214_2) (fun mv214_3 v214_3 hv214_3 => ?_) (fun u_4 => ?_)
    · refine rz_tst (veq_s hx hv214_3 rl_1) ?_ ?_
      · refine rz_tst (vle_s hx rl_16 (rp_2 ht_194)) ?_ ?_
        · exact (sL_bounds_235 hx ht_194 (rp_2 hq214_2) rl_121)
        · exact (sL_bounds_235 hx ht_194 (rp_2 hq214_2) rl_120)
      · refine rz_ex ?_
        exact (sL_bounds_312 hx (rp_2 hq214_2))
    · exact rz_none
noncomputable def gL_bounds_192 (mC_192 : RT) : Option Nat := (lpM (gL_bounds_194) 300 (mC_192, 1))
theorem sL_bounds_192 {x : Nat} (hx : x < 1000) {mC_192 : RT} {C_192 : Mem} (hC_192 : (rm x) mC_192 C_192) : RZ (RO (rv x)) (gL_bounds_192 mC_192) (fL_bounds_192 C_192) := by
  unfold gL_bounds_192 fL_bounds_192
  exact rz_lp (PS := (rp (rm x) (rv x))) (fun _ _ hs => sL_bounds_194 hx hs) 300 (rp_m hC_192 rl_1)
noncomputable def gL_bounds_190 (mC_190 : RT) : Option Nat := (some 0)
theorem sL_bounds_190 {x : Nat} (hx : x < 1000) {mC_190 : RT} {C_190 : Mem} (hC_190 : (rm x) mC_190 C_190) : RZ (RO (rv x)) (gL_bounds_190 mC_190) (fL_bounds_190 C_190) := by
  unfold gL_bounds_190 fL_bounds_190
  exact rz_some rl_0
noncomputable def gL_bounds_105 (ma1 : Nat) (mC_105 : RT) : Option Nat := (bdM (gX7_edit mC_105 0 9999) fun mq110_1 => (swM mq110_1.1 (fun mv110_2 => (bdM (gL_act mq110_1.2 15 0 0) fun mq119_3 => (tst (veq mq119_3.1 4294967263) (bdM (gL_act mq119_3.2 16 0 0) fun mq132_4 => (tst (veq mq132_4.1 4294967263) (bdM (gX7_whyRun mq132_4.2 0) fun mq142_5 => (swM mq142_5.1 (fun mv142_6 => (tst (veq mv142_6 2) (tst (veq (gX7_keys mq142_5.2) 200) (bdM (gX7_edit mq142_5.2 0 (vadd ma1 6)) fun mq165_7 => (swM mq165_7.1 (fun mv165_8 => (tst (veq mv165_8 9999) (bdM (gX7_run mq165_7.2 0) fun mq176_9 => (swM mq176_9.1 (fun mv176_10 => (tst (veq mv176_10 3) (bdM (gX7_runAll mq176_9.2) fun mq184_11 => (swM mq184_11.1 (fun mv184_12 => (tst (veq mv184_12 0) (gL_bounds_192 mq184_11.2) (gL_bounds_190 mq184_11.2))) (fun u_13 => none))) (gL_bounds_190 mq176_9.2))) (fun u_14 => none))) (gL_bounds_190 mq165_7.2))) (fun u_15 => none))) (gL_bounds_190 mq142_5.2)) (gL_bounds_190 mq142_5.2))) (fun u_16 => none))) (gL_bounds_190 mq132_4.2))) (gL_bounds_190 mq119_3.2)))) (fun u_17 => none)))
theorem sL_bounds_105 {x : Nat} (hx : x < 1000) {ma1 : Nat} {a1 : Int32} (ha1 : (rv x) ma1 a1) {mC_105 : RT} {C_105 : Mem} (hC_105 : (rm x) mC_105 C_105) : RZ (RO (rv x)) (gL_bounds_105 ma1 mC_105) (fL_bounds_105 a1 C_105) := by
  unfold gL_bounds_105 fL_bounds_105
  refine rz_bnd (P := (rp (rs (rv x) (@Eq Nat)) (rm x))) (sX7_edit hx hC_105 rl_0 rl_9999) (fun mq110_1 q110_1 hq110_1 => ?_)
  refine rz_sw (x := x) (rp_1 hq110_1) (fun mv110_2 v110_2 hv110_2 => ?_) (fun u_17 => ?_)
  · refine rz_bnd (P := (rp (rv x) (rm x))) (sL_act hx (rp_2 hq110_1) rl_15 rl_0 rl_0) (fun mq119_3 q119_3 hq119_3 => ?_)
    refine rz_tst (veq_s hx (rp_1 hq119_3) rl_m33) ?_ ?_
    · refine rz_bnd (P := (rp (rv x) (rm x))) (sL_act hx (rp_2 hq119_3) rl_16 rl_0 rl_0) (fun mq132_4 q132_4 hq132_4 => ?_)
      refine rz_tst (veq_s hx (rp_1 hq132_4) rl_m33) ?_ ?_
      · refine rz_bnd (P := (rp (rs (rv x) (@Eq Nat)) (rm x))) (sX7_whyRun hx (rp_2 hq132_4) rl_0) (fun mq142_5 q142_5 hq142_5 => ?_)
        refine rz_sw (x := x) (rp_1 hq142_5) (fun mv142_6 v142_6 hv142_6 => ?_) (fun u_16 => ?_)
        · refine rz_tst (veq_s hx hv142_6 rl_2) ?_ ?_
          · refine rz_tst (veq_s hx (sX7_keys hx (rp_2 hq142_5)) rl_200) ?_ ?_
            · refine rz_bnd (P := (rp (rs (rv x) (@Eq Nat)) (rm x))) (sX7_edit hx (rp_2 hq142_5) rl_0 (vadd_s ha1 rl_6)) (fun mq165_7 q165_7 hq165_7 => ?_)
              refine rz_sw (x := x) (rp_1 hq165_7) (fun mv165_8 v165_8 hv165_8 => ?_) (fun u_15 => ?_)
              · refine rz_tst (veq_s hx hv165_8 rl_9999) ?_ ?_
                · refine rz_bnd (P := (rp (rs (rv x) (@Eq Nat)) (rm x))) (sX7_run hx (rp_2 hq165_7) rl_0) (fun mq176_9 q176_9 hq176_9 => ?_)
                  refine rz_sw (x := x) (rp_1 hq176_9) (fun mv176_10 v176_10 hv176_10 => ?_) (fun u_14 => ?_)
                  · refine rz_tst (veq_s hx hv176_10 rl_3) ?_ ?_
                    · refine rz_bnd (P := (rp (rs (rv x) (@Eq Nat)) (rm x))) (sX7_runAll hx (rp_2 hq176_9)) (fun mq184_11 q184_11 hq184_11 => ?_)
                      refine rz_sw (x := x) (rp_1 hq184_11) (fun mv184_12 v184_12 hv184_12 => ?_) (fun u_13 => ?_)
                      · refine rz_tst (veq_s hx hv184_12 rl_0) ?_ ?_
                        · exact (sL_bounds_192 hx (rp_2 hq184_11))
                        · exact (sL_bounds_190 hx (rp_2 hq184_11))
                      · exact rz_none
                    · exact (sL_bounds_190 hx (rp_2 hq176_9))
                  · exact rz_none
                · exact (sL_bounds_190 hx (rp_2 hq165_7))
              · exact rz_none
            · exact (sL_bounds_190 hx (rp_2 hq142_5))
          · exact (sL_bounds_190 hx (rp_2 hq142_5))
        · exact rz_none
      · exact (sL_bounds_190 hx (rp_2 hq132_4))
    · exact (sL_bounds_190 hx (rp_2 hq119_3))
  · exact rz_none
noncomputable def hL_bounds_105 (ma1 : Nat) (mC_105 : RT) : Option RT := (bdM (gX7_edit mC_105 0 9999) fun mq110_1 => (swM mq110_1.1 (fun mv110_2 => (bdM (gL_act mq110_1.2 15 0 0) fun mq119_3 => (tst (veq mq119_3.1 4294967263) (bdM (gL_act mq119_3.2 16 0 0) fun mq132_4 => (tst (veq mq132_4.1 4294967263) (bdM (gX7_whyRun mq132_4.2 0) fun mq142_5 => (swM mq142_5.1 (fun mv142_6 => (tst (veq mv142_6 2) (tst (veq (gX7_keys mq142_5.2) 200) (bdM (gX7_edit mq142_5.2 0 (vadd ma1 6)) fun mq165_7 => (swM mq165_7.1 (fun mv165_8 => (tst (veq mv165_8 9999) (bdM (gX7_run mq165_7.2 0) fun mq176_9 => (swM mq176_9.1 (fun mv176_10 => (tst (veq mv176_10 3) (bdM (gX7_runAll mq176_9.2) fun mq184_11 => (swM mq184_11.1 (fun mv184_12 => (tst (veq mv184_12 0) (some mq184_11.2) none)) (fun u_13 => none))) none)) (fun u_14 => none))) none)) (fun u_15 => none))) none) none)) (fun u_16 => none))) none)) none))) (fun u_17 => none)))
theorem tL_bounds_105 {x : Nat} (hx : x < 1000) {ma1 : Nat} {a1 : Int32} (ha1 : (rv x) ma1 a1) {mC_105 : RT} {C_105 : Mem} (hC_105 : (rm x) mC_105 C_105) : RZ (Zex x (fun C => fL_bounds_192 C)) (hL_bounds_105 ma1 mC_105) (fL_bounds_105 a1 C_105) := by
  unfold hL_bounds_105 fL_bounds_105
  refine rz_bnd (P := (rp (rs (rv x) (@Eq Nat)) (rm x))) (sX7_edit hx hC_105 rl_0 rl_9999) (fun mq110_1 q110_1 hq110_1 => ?_)
  refine rz_sw (x := x) (rp_1 hq110_1) (fun mv110_2 v110_2 hv110_2 => ?_) (fun u_17 => ?_)
  · refine rz_bnd (P := (rp (rv x) (rm x))) (sL_act hx (rp_2 hq110_1) rl_15 rl_0 rl_0) (fun mq119_3 q119_3 hq119_3 => ?_)
    refine rz_tst (veq_s hx (rp_1 hq119_3) rl_m33) ?_ ?_
    · refine rz_bnd (P := (rp (rv x) (rm x))) (sL_act hx (rp_2 hq119_3) rl_16 rl_0 rl_0) (fun mq132_4 q132_4 hq132_4 => ?_)
      refine rz_tst (veq_s hx (rp_1 hq132_4) rl_m33) ?_ ?_
      · refine rz_bnd (P := (rp (rs (rv x) (@Eq Nat)) (rm x))) (sX7_whyRun hx (rp_2 hq132_4) rl_0) (fun mq142_5 q142_5 hq142_5 => ?_)
        refine rz_sw (x := x) (rp_1 hq142_5) (fun mv142_6 v142_6 hv142_6 => ?_) (fun u_16 => ?_)
        · refine rz_tst (veq_s hx hv142_6 rl_2) ?_ ?_
          · refine rz_tst (veq_s hx (sX7_keys hx (rp_2 hq142_5)) rl_200) ?_ ?_
            · refine rz_bnd (P := (rp (rs (rv x) (@Eq Nat)) (rm x))) (sX7_edit hx (rp_2 hq142_5) rl_0 (vadd_s ha1 rl_6)) (fun mq165_7 q165_7 hq165_7 => ?_)
              refine rz_sw (x := x) (rp_1 hq165_7) (fun mv165_8 v165_8 hv165_8 => ?_) (fun u_15 => ?_)
              · refine rz_tst (veq_s hx hv165_8 rl_9999) ?_ ?_
                · refine rz_bnd (P := (rp (rs (rv x) (@Eq Nat)) (rm x))) (sX7_run hx (rp_2 hq165_7) rl_0) (fun mq176_9 q176_9 hq176_9 => ?_)
                  refine rz_sw (x := x) (rp_1 hq176_9) (fun mv176_10 v176_10 hv176_10 => ?_) (fun u_14 => ?_)
                  · refine rz_tst (veq_s hx hv176_10 rl_3) ?_ ?_
                    · refine rz_bnd (P := (rp (rs (rv x) (@Eq Nat)) (rm x))) (sX7_runAll hx (rp_2 hq176_9)) (fun mq184_11 q184_11 hq184_11 => ?_)
                      refine rz_sw (x := x) (rp_1 hq184_11) (fun mv184_12 v184_12 hv184_12 => ?_) (fun u_13 => ?_)
                      · refine rz_tst (veq_s hx hv184_12 rl_0) ?_ ?_
                        · exact rz_out (rp_2 hq184_11)
                        · exact rz_none
                      · exact rz_none
                    · exact rz_none
                  · exact rz_none
                · exact rz_none
              · exact rz_none
            · exact rz_none
          · exact rz_none
        · exact rz_none
      · exact rz_none
    · exact rz_none
  · exact rz_none
noncomputable def gL_bounds_99 (ma1 : Nat) (mt_60 : (RT × Nat)) (mC_99 : RT) : Option ((RT × Nat) ⊕ Nat) := (some (.inl (mC_99, (vadd mt_60.2 1))))
theorem sL_bounds_99 {x : Nat} (hx : x < 1000) {ma1 : Nat} {a1 : Int32} (ha1 : (rv x) ma1 a1) {mt_60 : (RT × Nat)} {t_60 : (Mem × Int32)} (ht_60 : (rp (rm x) (rv x)) mt_60 t_60) {mC_99 : RT} {C_99 : Mem} (hC_99 : (rm x) mC_99 C_99) : RZ (RO (rs (rp (rm x) (rv x)) (rv x))) (gL_bounds_99 ma1 mt_60 mC_99) (fL_bounds_99 a1 t_60 C_99) := by
  unfold gL_bounds_99 fL_bounds_99
  exact rz_some (rs_l (rp_m hC_99 (vadd_s (rp_2 ht_60) rl_1)))
noncomputable def gL_bounds_97 (mC_97 : RT) : Option Nat := (some 0)
theorem sL_bounds_97 {x : Nat} (hx : x < 1000) {mC_97 : RT} {C_97 : Mem} (hC_97 : (rm x) mC_97 C_97) : RZ (RO (rv x)) (gL_bounds_97 mC_97) (fL_bounds_97 C_97) := by
  unfold gL_bounds_97 fL_bounds_97
  exact rz_some rl_0
noncomputable def gL_bounds_60 (ma1 : Nat) (mt_60 : (RT × Nat)) : Option ((RT × Nat) ⊕ Nat) := (tst (vnot (vlt mt_60.2 200)) (exM (gL_bounds_105 ma1 mt_60.1)) (bdM (gX7_edit mt_60.1 0 (vadd (vmul 3 mt_60.2) ma1)) fun mq74_1 => (swM mq74_1.1 (fun mv74_2 => (bdM (gX7_keyOf mq74_1.2 0) fun mq80_3 => (swM mq80_3.1 (fun mv80_4 => (tst (veq mv80_4 0) (bdM (gX7_run mq80_3.2 0) fun mq88_5 => (swM mq88_5.1 (fun mv88_6 => (tst (veq mv88_6 (vadd mt_60.2 1)) (gL_bounds_99 ma1 mt_60 mq88_5.2) (exM (gL_bounds_97 mq88_5.2)))) (fun u_7 => none))) (exM (gL_bounds_97 mq80_3.2)))) (fun u_8 => none)))) (fun u_9 => none))))
theorem sL_bounds_60 {x : Nat} (hx : x < 1000) {ma1 : Nat} {a1 : Int32} (ha1 : (rv x) ma1 a1) {mt_60 : (RT × Nat)} {t_60 : (Mem × Int32)} (ht_60 : (rp (rm x) (rv x)) mt_60 t_60) : RZ (RO (rs (rp (rm x) (rv x)) (rv x))) (gL_bounds_60 ma1 mt_60) (fL_bounds_60 a1 t_60) := by
  unfold gL_bounds_60 fL_bounds_60
  refine rz_tst (vle_s hx rl_200 (rp_2 ht_60)) ?_ ?_
  · refine rz_ex ?_
    exact (sL_bounds_105 hx ha1 (rp_1 ht_60))
  · refine rz_bnd (P := (rp (rs (rv x) (@Eq Nat)) (rm x))) (sX7_edit hx (rp_1 ht_60) rl_0 (vadd_s (vmul_s rl_3 (rp_2 ht_60)) ha1)) (fun mq74_1 q74_1 hq74_1 => ?_)
    refine rz_sw (x := x) (rp_1 hq74_1) (fun mv74_2 v74_2 hv74_2 => ?_) (fun u_9 => ?_)
    · refine rz_bnd (P := (rp (rs (rv x) (@Eq Nat)) (rm x))) (sX7_keyOf hx (rp_2 hq74_1) rl_0) (fun mq80_3 q80_3 hq80_3 => ?_)
      refine rz_sw (x := x) (rp_1 hq80_3) (fun mv80_4 v80_4 hv80_4 => ?_) (fun u_8 => ?_)
      · refine rz_tst (veq_s hx hv80_4 rl_0) ?_ ?_
        · refine rz_bnd (P := (rp (rs (rv x) (@Eq Nat)) (rm x))) (sX7_run hx (rp_2 hq80_3) rl_0) (fun mq88_5 q88_5 hq88_5 => ?_)
          refine rz_sw (x := x) (rp_1 hq88_5) (fun mv88_6 v88_6 hv88_6 => ?_) (fun u_7 => ?_)
          · refine rz_tst (veq_s hx hv88_6 (vadd_s (rp_2 ht_60) rl_1)) ?_ ?_
            · exact (sL_bounds_99 hx ha1 ht_60 (rp_2 hq88_5))
            · refine rz_ex ?_
              exact (sL_bounds_97 hx (rp_2 hq88_5))
          · exact rz_none
        · refine rz_ex ?_
          exact (sL_bounds_97 hx (rp_2 hq80_3))
      · exact rz_none
    · exact rz_none
noncomputable def gL_bounds_58 (ma1 : Nat) (mC_58 : RT) : Option Nat := (lpM (gL_bounds_60 ma1) 300 (mC_58, 0))
theorem sL_bounds_58 {x : Nat} (hx : x < 1000) {ma1 : Nat} {a1 : Int32} (ha1 : (rv x) ma1 a1) {mC_58 : RT} {C_58 : Mem} (hC_58 : (rm x) mC_58 C_58) : RZ (RO (rv x)) (gL_bounds_58 ma1 mC_58) (fL_bounds_58 a1 C_58) := by
  unfold gL_bounds_58 fL_bounds_58
  exact rz_lp (PS := (rp (rm x) (rv x))) (fun _ _ hs => sL_bounds_60 hx ha1 hs) 300 (rp_m hC_58 rl_0)
noncomputable def gL_bounds_56 (mC_56 : RT) : Option Nat := (some 0)
theorem sL_bounds_56 {x : Nat} (hx : x < 1000) {mC_56 : RT} {C_56 : Mem} (hC_56 : (rm x) mC_56 C_56) : RZ (RO (rv x)) (gL_bounds_56 mC_56) (fL_bounds_56 C_56) := by
  unfold gL_bounds_56 fL_bounds_56
  exact rz_some rl_0
noncomputable def gL_bounds (ma1 : Nat) : Option Nat := (bdM (gL_text R0 113 46 46 46 46 46 46 46) fun mq25_1 => (tst (veq mq25_1.1 0) (gL_bounds_56 mq25_1.2) (bdM (gX7_addFile mq25_1.2 0) fun mq33_2 => (swM mq33_2.1 (fun mv33_3 => (tst (veq mv33_3 0) (bdM (gX7_addTarget mq33_2.2 1) fun mq41_4 => (swM mq41_4.1 (fun mv41_5 => (tst (veq mv41_5 0) (bdM (gX7_addGlob mq41_4.2 0) fun mq49_6 => (swM mq49_6.1 (fun mv49_7 => (tst (veq mv49_7 1) (gL_bounds_58 ma1 mq49_6.2) (gL_bounds_56 mq49_6.2))) (fun u_8 => none))) (gL_bounds_56 mq41_4.2))) (fun u_9 => none))) (gL_bounds_56 mq33_2.2))) (fun u_10 => none)))))
theorem sL_bounds {x : Nat} (hx : x < 1000) {ma1 : Nat} {a1 : Int32} (ha1 : (rv x) ma1 a1) : RZ (RO (rv x)) (gL_bounds ma1) (fL_bounds a1) := by
  unfold gL_bounds fL_bounds
  refine rz_bnd (P := (rp (rv x) (rm x))) (sL_text hx R0_s rl_113 rl_46 rl_46 rl_46 rl_46 rl_46 rl_46 rl_46) (fun mq25_1 q25_1 hq25_1 => ?_)
  refine rz_tst (veq_s hx (rp_1 hq25_1) rl_0) ?_ ?_
  · exact (sL_bounds_56 hx (rp_2 hq25_1))
  · refine rz_bnd (P := (rp (rs (rv x) (@Eq Nat)) (rm x))) (sX7_addFile hx (rp_2 hq25_1) rl_0) (fun mq33_2 q33_2 hq33_2 => ?_)
    refine rz_sw (x := x) (rp_1 hq33_2) (fun mv33_3 v33_3 hv33_3 => ?_) (fun u_10 => ?_)
    · refine rz_tst (veq_s hx hv33_3 rl_0) ?_ ?_
      · refine rz_bnd (P := (rp (rs (rv x) (@Eq Nat)) (rm x))) (sX7_addTarget hx (rp_2 hq33_2) rl_1) (fun mq41_4 q41_4 hq41_4 => ?_)
        refine rz_sw (x := x) (rp_1 hq41_4) (fun mv41_5 v41_5 hv41_5 => ?_) (fun u_9 => ?_)
        · refine rz_tst (veq_s hx hv41_5 rl_0) ?_ ?_
          · refine rz_bnd (P := (rp (rs (rv x) (@Eq Nat)) (rm x))) (sX7_addGlob hx (rp_2 hq41_4) rl_0) (fun mq49_6 q49_6 hq49_6 => ?_)
            refine rz_sw (x := x) (rp_1 hq49_6) (fun mv49_7 v49_7 hv49_7 => ?_) (fun u_8 => ?_)
            · refine rz_tst (veq_s hx hv49_7 rl_1) ?_ ?_
              · exact (sL_bounds_58 hx ha1 (rp_2 hq49_6))
              · exact (sL_bounds_56 hx (rp_2 hq49_6))
            · exact rz_none
          · exact (sL_bounds_56 hx (rp_2 hq41_4))
        · exact rz_none
      · exact (sL_bounds_56 hx (rp_2 hq33_2))
    · exact rz_none
noncomputable def hL_bounds (ma1 : Nat) : Option RT := (bdM (gL_text R0 113 46 46 46 46 46 46 46) fun mq25_1 => (tst (veq mq25_1.1 0) none (bdM (gX7_addFile mq25_1.2 0) fun mq33_2 => (swM mq33_2.1 (fun mv33_3 => (tst (veq mv33_3 0) (bdM (gX7_addTarget mq33_2.2 1) fun mq41_4 => (swM mq41_4.1 (fun mv41_5 => (tst (veq mv41_5 0) (bdM (gX7_addGlob mq41_4.2 0) fun mq49_6 => (swM mq49_6.1 (fun mv49_7 => (tst (veq mv49_7 1) (some mq49_6.2) none)) (fun u_8 => none))) none)) (fun u_9 => none))) none)) (fun u_10 => none)))))
theorem tL_bounds {x : Nat} (hx : x < 1000) {ma1 : Nat} {a1 : Int32} (ha1 : (rv x) ma1 a1) : RZ (Zex x (fun C => fL_bounds_58 a1 C)) (hL_bounds ma1) (fL_bounds a1) := by
  unfold hL_bounds fL_bounds
  refine rz_bnd (P := (rp (rv x) (rm x))) (sL_text hx R0_s rl_113 rl_46 rl_46 rl_46 rl_46 rl_46 rl_46 rl_46) (fun mq25_1 q25_1 hq25_1 => ?_)
  refine rz_tst (veq_s hx (rp_1 hq25_1) rl_0) ?_ ?_
  · exact rz_none
  · refine rz_bnd (P := (rp (rs (rv x) (@Eq Nat)) (rm x))) (sX7_addFile hx (rp_2 hq25_1) rl_0) (fun mq33_2 q33_2 hq33_2 => ?_)
    refine rz_sw (x := x) (rp_1 hq33_2) (fun mv33_3 v33_3 hv33_3 => ?_) (fun u_10 => ?_)
    · refine rz_tst (veq_s hx hv33_3 rl_0) ?_ ?_
      · refine rz_bnd (P := (rp (rs (rv x) (@Eq Nat)) (rm x))) (sX7_addTarget hx (rp_2 hq33_2) rl_1) (fun mq41_4 q41_4 hq41_4 => ?_)
        refine rz_sw (x := x) (rp_1 hq41_4) (fun mv41_5 v41_5 hv41_5 => ?_) (fun u_9 => ?_)
        · refine rz_tst (veq_s hx hv41_5 rl_0) ?_ ?_
          · refine rz_bnd (P := (rp (rs (rv x) (@Eq Nat)) (rm x))) (sX7_addGlob hx (rp_2 hq41_4) rl_0) (fun mq49_6 q49_6 hq49_6 => ?_)
            refine rz_sw (x := x) (rp_1 hq49_6) (fun mv49_7 v49_7 hv49_7 => ?_) (fun u_8 => ?_)
            · refine rz_tst (veq_s hx hv49_7 rl_1) ?_ ?_
              · exact rz_out (rp_2 hq49_6)
              · exact rz_none
            · exact rz_none
          · exact rz_none
        · exact rz_none
      · exact rz_none
    · exact rz_none
