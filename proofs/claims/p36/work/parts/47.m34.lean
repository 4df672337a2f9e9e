noncomputable def gL_globs_1026 (mC_1026 : RT) : Option Nat := (some 0)
theorem sL_globs_1026 {x : Nat} (hx : x < 1000) {mC_1026 : RT} {C_1026 : Mem} (hC_1026 : (rm x) mC_1026 C_1026) : RZ (RO (rv x)) (gL_globs_1026 mC_1026) (fL_globs_1026 C_1026) := by
  unfold gL_globs_1026 fL_globs_1026
  exact rz_some rl_0
noncomputable def gL_globs_987 (mC_987 : RT) : Option Nat := (bdM (gL_act mC_987 0 97 0) fun mq992_1 => (tst (veq mq992_1.1 4294967263) (bdM (gL_act mq992_1.2 0 65 0) fun mq1005_2 => (tst (veq mq1005_2.1 4294967264) (bdM (gX7_clearText mq1005_2.2) fun mq1014_3 => (tst (veq mq1014_3.1 24) (some 1) (gL_globs_1026 mq1014_3.2))) (gL_globs_1026 mq1005_2.2))) (gL_globs_1026 mq992_1.2)))
theorem sL_globs_987 {x : Nat} (hx : x < 1000) {mC_987 : RT} {C_987 : Mem} (hC_987 : (rm x) mC_987 C_987) : RZ (RO (rv x)) (gL_globs_987 mC_987) (fL_globs_987 C_987) := by
  unfold gL_globs_987 fL_globs_987
  refine rz_bnd (P := (rp (rv x) (rm x))) (sL_act hx hC_987 rl_0 rl_97 rl_0) (fun mq992_1 q992_1 hq992_1 => ?_)
  refine rz_tst (veq_s hx (rp_1 hq992_1) rl_m33) ?_ ?_
  · refine rz_bnd (P := (rp (rv x) (rm x))) (sL_act hx (rp_2 hq992_1) rl_0 rl_65 rl_0) (fun mq1005_2 q1005_2 hq1005_2 => ?_)
    refine rz_tst (veq_s hx (rp_1 hq1005_2) rl_m32) ?_ ?_
    · refine rz_bnd (P := (rp (rv x) (rm x))) (sX7_clearText hx (rp_2 hq1005_2)) (fun mq1014_3 q1014_3 hq1014_3 => ?_)
      refine rz_tst (veq_s hx (rp_1 hq1014_3) rl_24) ?_ ?_
      · exact rz_some rl_1
      · exact (sL_globs_1026 hx (rp_2 hq1014_3))
    · exact (sL_globs_1026 hx (rp_2 hq1005_2))
  · exact (sL_globs_1026 hx (rp_2 hq992_1))
noncomputable def gL_globs_981 (mt_932 : (RT × Nat)) (mC_981 : RT) : Option ((RT × Nat) ⊕ Nat) := (some (.inl (mC_981, (vadd mt_932.2 1))))
theorem sL_globs_981 {x : Nat} (hx : x < 1000) {mt_932 : (RT × Nat)} {t_932 : (Mem × Int32)} (ht_932 : (rp (rm x) (rv x)) mt_932 t_932) {mC_981 : RT} {C_981 : Mem} (hC_981 : (rm x) mC_981 C_981) : RZ (RO (rs (rp (rm x) (rv x)) (rv x))) (gL_globs_981 mt_932 mC_981) (fL_globs_981 t_932 C_981) := by
  unfold gL_globs_981 fL_globs_981
  exact rz_some (rs_l (rp_m hC_981 (vadd_s (rp_2 ht_932) rl_1)))
noncomputable def gL_globs_979 (mC_979 : RT) : Option Nat := (some 0)
theorem sL_globs_979 {x : Nat} (hx : x < 1000) {mC_979 : RT} {C_979 : Mem} (hC_979 : (rm x) mC_979 C_979) : RZ (RO (rv x)) (gL_globs_979 mC_979) (fL_globs_979 C_979) := by
  unfold gL_globs_979 fL_globs_979
  exact rz_some rl_0
noncomputable def gL_globs_976 (mt_932 : (RT × Nat)) (mC_976 : RT) (ms0_976 : Nat) (ms1_976 : Nat) : Option ((RT × Nat) ⊕ Nat) := (tst (veq ms1_976 ms0_976) (gL_globs_981 mt_932 mC_976) (exM (gL_globs_979 mC_976)))
theorem sL_globs_976 {x : Nat} (hx : x < 1000) {mt_932 : (RT × Nat)} {t_932 : (Mem × Int32)} (ht_932 : (rp (rm x) (rv x)) mt_932 t_932) {mC_976 : RT} {C_976 : Mem} (hC_976 : (rm x) mC_976 C_976) {ms0_976 : Nat} {s0_976 : Int32} (hs0_976 : (rv x) ms0_976 s0_976) {ms1_976 : Nat} {s1_976 : Int32} (hs1_976 : (rv x) ms1_976 s1_976) : RZ (RO (rs (rp (rm x) (rv x)) (rv x))) (gL_globs_976 mt_932 mC_976 ms0_976 ms1_976) (fL_globs_976 t_932 C_976 s0_976 s1_976) := by
  unfold gL_globs_976 fL_globs_976
  refine rz_tst (veq_s hx hs1_976 hs0_976) ?_ ?_
  · exact (sL_globs_981 hx ht_932 hC_976)
  · refine rz_ex ?_
    exact (sL_globs_979 hx hC_976)
noncomputable def gL_globs_952 (mt_932 : (RT × Nat)) (mC_952 : RT) (ms0_952 : Nat) : Option ((RT × Nat) ⊕ Nat) := (bdM (gX7_type mC_952 ms0_952) fun mq952_1 => (swM mq952_1.1 (fun mv952_2 => (tst (veq mv952_2 (vadd mt_932.2 1)) (bdM (gL_kind mq952_1.2) fun mq962_3 => (tst (veq (vrem mt_932.2 2) 0) (gL_globs_976 mt_932 mq952_1.2 3 mq962_3) (gL_globs_976 mt_932 mq952_1.2 0 mq962_3))) (exM (gL_globs_979 mq952_1.2)))) (fun u_4 => none)))
theorem sL_globs_952 {x : Nat} (hx : x < 1000) {mt_932 : (RT × Nat)} {t_932 : (Mem × Int32)} (ht_932 : (rp (rm x) (rv x)) mt_932 t_932) {mC_952 : RT} {C_952 : Mem} (hC_952 : (rm x) mC_952 C_952) {ms0_952 : Nat} {s0_952 : Int32} (hs0_952 : (rv x) ms0_952 s0_952) : RZ (RO (rs (rp (rm x) (rv x)) (rv x))) (gL_globs_952 mt_932 mC_952 ms0_952) (fL_globs_952 t_932 C_952 s0_952) := by
  unfold gL_globs_952 fL_globs_952
  refine rz_bnd (P := (rp (rs (rv x) (@Eq Nat)) (rm x))) (sX7_type hx hC_952 hs0_952) (fun mq952_1 q952_1 hq952_1 => ?_)
  refine rz_sw (x := x) (rp_1 hq952_1) (fun mv952_2 v952_2 hv952_2 => ?_) (fun u_4 => ?_)
  · refine rz_tst (veq_s hx hv952_2 (vadd_s (rp_2 ht_932) rl_1)) ?_ ?_
    · refine rz_bnd (P := (rv x)) (sL_kind hx (rp_2 hq952_1)) (fun mq962_3 q962_3 hq962_3 => ?_)
      refine rz_tst (veq_s hx (vrem_s (rp_2 ht_932) (by decide) (by decide) (by decide)) rl_0) ?_ ?_
      · exact (sL_globs_976 hx ht_932 (rp_2 hq952_1) rl_3 hq962_3)
      · exact (sL_globs_976 hx ht_932 (rp_2 hq952_1) rl_0 hq962_3)
    · refine rz_ex ?_
      exact (sL_globs_979 hx (rp_2 hq952_1))
  · exact rz_none
noncomputable def gL_globs_932 (mt_932 : (RT × Nat)) : Option ((RT × Nat) ⊕ Nat) := (tst (vnot (vlt mt_932.2 24)) (exM (gL_globs_987 mt_932.1)) (tst (veq (vrem mt_932.2 2) 0) (gL_globs_952 mt_932 mt_932.1 122) (gL_globs_952 mt_932 mt_932.1 47)))
theorem sL_globs_932 {x : Nat} (hx : x < 1000) {mt_932 : (RT × Nat)} {t_932 : (Mem × Int32)} (ht_932 : (rp (rm x) (rv x)) mt_932 t_932) : RZ (RO (rs (rp (rm x) (rv x)) (rv x))) (gL_globs_932 mt_932) (fL_globs_932 t_932) := by
  unfold gL_globs_932 fL_globs_932
  refine rz_tst (vle_s hx rl_24 (rp_2 ht_932)) ?_ ?_
  · refine rz_ex ?_
    exact (sL_globs_987 hx (rp_1 ht_932))
  · refine rz_tst (veq_s hx (vrem_s (rp_2 ht_932) (by decide) (by decide) (by decide)) rl_0) ?_ ?_
    · exact (sL_globs_952 hx ht_932 (rp_1 ht_932) rl_122)
    · exact (sL_globs_952 hx ht_932 (rp_1 ht_932) rl_47)
noncomputable def gL_globs_925 (mC_925 : RT) : Option Nat := (bdM (gX7_clearText mC_925) fun mq926_1 => (lpM (gL_globs_932) 300 (mq926_1.2, 0)))
theorem sL_globs_925 {x : Nat} (hx : x < 1000) {mC_925 : RT} {C_925 : Mem} (hC_925 : (rm x) mC_925 C_925) : RZ (RO (rv x)) (gL_globs_925 mC_925) (fL_globs_925 C_925) := by
  unfold gL_globs_925 fL_globs_925
  refine rz_bnd (P := (rp (rv x) (rm x))) (sX7_clearText hx hC_925) (fun mq926_1 q926_1 hq926_1 => ?_)
  exact rz_lp (PS := (rp (rm x) (rv x))) (fun _ _ hs => sL_globs_932 hx hs) 300 (rp_m (rp_2 hq926_1) rl_0)
noncomputable def gL_globs_923 (mC_923 : RT) : Option Nat := (some 0)
theorem sL_globs_923 {x : Nat} (hx : x < 1000) {mC_923 : RT} {C_923 : Mem} (hC_923 : (rm x) mC_923 C_923) : RZ (RO (rv x)) (gL_globs_923 mC_923) (fL_globs_923 C_923) := by
  unfold gL_globs_923 fL_globs_923
  exact rz_some rl_0
noncomputable def gL_globs_810 (mC_810 : RT) : Option Nat := (bdM (gX7_delete mC_810 2) fun mq812_1 => (swM mq812_1.1 (fun mv812_2 => (tst (veq mv812_2 4) (bdM (gL_act mq812_1.2 2 2 5) fun mq823_3 => (tst (veq mq823_3.1 4294967265) (bdM (gL_act mq823_3.2 3 2 0) fun mq835_4 => (tst (veq mq835_4.1 4294967265) (tst (veq (gX7_files mq835_4.2) 3) (bdM (gL_text mq835_4.2 101 46 46 46 46 46 46 46) fun mq868_5 => (tst (veq mq868_5.1 0) (gL_globs_923 mq868_5.2) (bdM (gX7_findFile mq868_5.2) fun mq875_6 => (tst (veq mq875_6 2) (bdM (gL_act mq868_5.2 4 2 0) fun mq886_7 => (tst (veq mq886_7.1 1) (bdM (gX7_addFile mq886_7.2 9) fun mq896_8 => (swM mq896_8.1 (fun mv896_9 => (tst (veq mv896_9 2) (bdM (gX7_edit mq896_8.2 2 5) fun mq906_10 => (swM mq906_10.1 (fun mv906_11 => (tst (veq mv906_11 9) (tst (veq (gX7_files mq906_10.2) 7) (gL_globs_925 mq906_10.2) (gL_globs_923 mq906_10.2)) (gL_globs_923 mq906_10.2))) (fun u_12 => none))) (gL_globs_923 mq896_8.2))) (fun u_13 => none))) (gL_globs_923 mq886_7.2))) (gL_globs_923 mq868_5.2))))) (gL_globs_923 mq835_4.2)) (gL_globs_923 mq835_4.2))) (gL_globs_923 mq823_3.2))) (gL_globs_923 mq812_1.2))) (fun u_14 => none)))
theorem sL_globs_810 {x : Nat} (hx : x < 1000) {mC_810 : RT} {C_810 : Mem} (hC_810 : (rm x) mC_810 C_810) : RZ (RO (rv x)) (gL_globs_810 mC_810) (fL_globs_810 C_810) := by
  unfold gL_globs_810 fL_globs_810
  refine rz_bnd (P := (rp (rs (rv x) (@Eq Nat)) (rm x))) (sX7_delete hx hC_810 rl_2) (fun mq812_1 q812_1 hq812_1 => ?_)
  refine rz_sw (x := x) (rp_1 hq812_1) (fun mv812_2 v812_2 hv812_2 => ?_) (fun u_14 => ?_)
  · refine rz_tst (veq_s hx hv812_2 rl_4) ?_ ?_
    · refine rz_bnd (P := (rp (rv x) (rm x))) (sL_act hx (rp_2 hq812_1) rl_2 rl_2 rl_5) (fun mq823_3 q823_3 hq823_3 => ?_)
      refine rz_tst (veq_s hx (rp_1 hq823_3) rl_m31) ?_ ?_
      · refine rz_bnd (P := (rp (rv x) (rm x))) (sL_act hx (rp_2 hq823_3) rl_3 rl_2 rl_0) (fun mq835_4 q835_4 hq835_4 => ?_)
        refine rz_tst (veq_s hx (rp_1 hq835_4) rl_m31) ?_ ?_
        · refine rz_tst (veq_s hx (sX7_files hx (rp_2 hq835_4)) rl_3) ?_ ?_
          · refine rz_bnd (P := (rp (rv x) (rm x))) (sL_text hx (rp_2 hq835_4) rl_101 rl_46 rl_46 rl_46 rl_46 rl_46 rl_46 rl_46) (fun mq868_5 q868_5 hq868_5 => ?_)
            refine rz_tst (veq_s hx (rp_1 hq868_5) rl_0) ?_ ?_
            · exact (sL_globs_923 hx (rp_2 hq868_5))
            · refine rz_bnd (P := (rv x)) (sX7_findFile hx (rp_2 hq868_5)) (fun mq875_6 q875_6 hq875_6 => ?_)
              refine rz_tst (veq_s hx hq875_6 rl_2) ?_ ?_
              · refine rz_bnd (P := (rp (rv x) (rm x))) (sL_act hx (rp_2 hq868_5) rl_4 rl_2 rl_0) (fun mq886_7 q886_7 hq886_7 => ?_)
                refine rz_tst (veq_s hx (rp_1 hq886_7) rl_1) ?_ ?_
                · refine rz_bnd (P := (rp (rs (rv x) (@Eq Nat)) (rm x))) (sX7_addFile hx (rp_2 hq886_7) rl_9) (fun mq896_8 q896_8 hq896_8 => ?_)
                  refine rz_sw (x := x) (rp_1 hq896_8) (fun mv896_9 v896_9 hv896_9 => ?_) (fun u_13 => ?_)
                  · refine rz_tst (veq_s hx hv896_9 rl_2) ?_ ?_
                    · refine rz_bnd (P := (rp (rs (rv x) (@Eq Nat)) (rm x))) (sX7_edit hx (rp_2 hq896_8) rl_2 rl_5) (fun mq906_10 q906_10 hq906_10 => ?_)
                      refine rz_sw (x := x) (rp_1 hq906_10) (fun mv906_11 v906_11 hv906_11 => ?_) (fun u_12 => ?_)
                      · refine rz_tst (veq_s hx hv906_11 rl_9) ?_ ?_
                        · refine rz_tst (veq_s hx (sX7_files hx (rp_2 hq906_10)) rl_7) ?_ ?_
                          · exact (sL_globs_925 hx (rp_2 hq906_10))
                          · exact (sL_globs_923 hx (rp_2 hq906_10))
                        · exact (sL_globs_923 hx (rp_2 hq906_10))
                      · exact rz_none
                    · exact (sL_globs_923 hx (rp_2 hq896_8))
                  · exact rz_none
                · exact (sL_globs_923 hx (rp_2 hq886_7))
              · exact (sL_globs_923 hx (rp_2 hq868_5))
          · exact (sL_globs_923 hx (rp_2 hq835_4))
        · exact (sL_globs_923 hx (rp_2 hq835_4))
      · exact (sL_globs_923 hx (rp_2 hq823_3))
    · exact (sL_globs_923 hx (rp_2 hq812_1))
  · exact rz_none
noncomputable def hL_globs_810 (mC_810 : RT) : Option RT := (bdM (gX7_delete mC_810 2) fun mq812_1 => (swM mq812_1.1 (fun mv812_2 => (tst (veq mv812_2 4) (bdM (gL_act mq812_1.2 2 2 5) fun mq823_3 => (tst (veq mq823_3.1 4294967265) (bdM (gL_act mq823_3.2 3 2 0) fun mq835_4 => (tst (veq mq835_4.1 4294967265) (tst (veq (gX7_files mq835_4.2) 3) (bdM (gL_text mq835_4.2 101 46 46 46 46 46 46 46) fun mq868_5 => (tst (veq mq868_5.1 0) none (bdM (gX7_findFile mq868_5.2) fun mq875_6 => (tst (veq mq875_6 2) (bdM (gL_act mq868_5.2 4 2 0) fun mq886_7 => (tst (veq mq886_7.1 1) (bdM (gX7_addFile mq886_7.2 9) fun mq896_8 => (swM mq896_8.1 (fun mv896_9 => (tst (veq mv896_9 2) (bdM (gX7_edit mq896_8.2 2 5) fun mq906_10 => (swM mq906_10.1 (fun mv906_11 => (tst (veq mv906_11 9) (tst (veq (gX7_files mq906_10.2) 7) (some mq906_10.2) none) none)) (fun u_12 => none))) none)) (fun u_13 => none))) none)) none)))) none) none)) none)) none)) (fun u_14 => none)))
theorem tL_globs_810 {x : Nat} (hx : x < 1000) {mC_810 : RT} {C_810 : Mem} (hC_810 : (rm x) mC_810 C_810) : RZ (Zex x (fun C => fL_globs_925 C)) (hL_globs_810 mC_810) (fL_globs_810 C_810) := by
  unfold hL_globs_810 fL_globs_810
  refine rz_bnd (P := (rp (rs (rv x) (@Eq Nat)) (rm x))) (sX7_delete hx hC_810 rl_2) (fun mq812_1 q812_1 hq812_1 => ?_)
  refine rz_sw (x := x) (rp_1 hq812_1) (fun mv812_2 v812_2 hv812_2 => ?_) (fun u_14 => ?_)
  · refine rz_tst (veq_s hx hv812_2 rl_4) ?_ ?_
    · refine rz_bnd (P := (rp (rv x) (rm x))) (sL_act hx (rp_2 hq812_1) rl_2 rl_2 rl_5) (fun mq823_3 q823_3 hq823_3 => ?_)
      refine rz_tst (veq_s hx (rp_1 hq823_3) rl_m31) ?_ ?_
      · refine rz_bnd (P := (rp (rv x) (rm x))) (sL_act hx (rp_2 hq823_3) rl_3 rl_2 rl_0) (fun mq835_4 q835_4 hq835_4 => ?_)
        refine rz_tst (veq_s hx (rp_1 hq835_4) rl_m31) ?_ ?_
        · refine rz_tst (veq_s hx (sX7_files hx (rp_2 hq835_4)) rl_3) ?_ ?_
          · refine rz_bnd (P := (rp (rv x) (rm x))) (sL_text hx (rp_2 hq835_4) rl_101 rl_46 rl_46 rl_46 rl_46 rl_46 rl_46 rl_46) (fun mq868_5 q868_5 hq868_5 => ?_)
            refine rz_tst (veq_s hx (rp_1 hq868_5) rl_0) ?_ ?_
            · exact rz_none
            · refine rz_bnd (P := (rv x)) (sX7_findFile hx (rp_2 hq868_5)) (fun mq875_6 q875_6 hq875_6 => ?_)
              refine rz_tst (veq_s hx hq875_6 rl_2) ?_ ?_
              · refine rz_bnd (P := (rp (rv x) (rm x))) (sL_act hx (rp_2 hq868_5) rl_4 rl_2 rl_0) (fun mq886_7 q886_7 hq886_7 => ?_)
                refine rz_tst (veq_s hx (rp_1 hq886_7) rl_1) ?_ ?_
                · refine rz_bnd (P := (rp (rs (rv x) (@Eq Nat)) (rm x))) (sX7_addFile hx (rp_2 hq886_7) rl_9) (fun mq896_8 q896_8 hq896_8 => ?_)
                  refine rz_sw (x := x) (rp_1 hq896_8) (fun mv896_9 v896_9 hv896_9 => ?_) (fun u_13 => ?_)
                  · refine rz_tst (veq_s hx hv896_9 rl_2) ?_ ?_
                    · refine rz_bnd (P := (rp (rs (rv x) (@Eq Nat)) (rm x))) (sX7_edit hx (rp_2 hq896_8) rl_2 rl_5) (fun mq906_10 q906_10 hq906_10 => ?_)
                      refine rz_sw (x := x) (rp_1 hq906_10) (fun mv906_11 v906_11 hv906_11 => ?_) (fun u_12 => ?_)
                      · refine rz_tst (veq_s hx hv906_11 rl_9) ?_ ?_
                        · refine rz_tst (veq_s hx (sX7_files hx (rp_2 hq906_10)) rl_7) ?_ ?_
                          · exact rz_out (rp_2 hq906_10)
                          · exact rz_none
                        · exact rz_none
                      · exact rz_none
                    · exact rz_none
                  · exact rz_none
                · exact rz_none
              · exact rz_none
          · exact rz_none
        · exact rz_none
      · exact rz_none
    · exact rz_none
  · exact rz_none
noncomputable def gL_globs_808 (mC_808 : RT) : Option Nat := (some 0)
theorem sL_globs_808 {x : Nat} (hx : x < 1000) {mC_808 : RT} {C_808 : Mem} (hC_808 : (rm x) mC_808 C_808) : RZ (RO (rv x)) (gL_globs_808 mC_808) (fL_globs_808 C_808) := by
  unfold gL_globs_808 fL_globs_808
  exact rz_some rl_0
noncomputable def gL_globs_452 (mC_452 : RT) : Option Nat := (bdM (gL_text mC_452 97 47 42 46 46 46 46 46) fun mq469_1 => (tst (veq mq469_1.1 0) (gL_globs_808 mq469_1.2) (bdM (gL_matched mq469_1.2 3) fun mq477_2 => (tst (veq mq477_2.1 1) (bdM (gL_text mq477_2.2 97 47 42 42 46 46 46 46) fun mq501_3 => (tst (veq mq501_3.1 0) (gL_globs_808 mq501_3.2) (bdM (gL_matched mq501_3.2 3) fun mq509_4 => (tst (veq mq509_4.1 3) (bdM (gL_text mq509_4.2 42 42 46 46 46 46 46 46) fun mq533_5 => (tst (veq mq533_5.1 0) (gL_globs_808 mq533_5.2) (bdM (gL_matched mq533_5.2 3) fun mq541_6 => (tst (veq mq541_6.1 7) (bdM (gL_text mq541_6.2 42 42 47 100 46 46 46 46) fun mq566_7 => (tst (veq mq566_7.1 0) (gL_globs_808 mq566_7.2) (bdM (gL_matched mq566_7.2 3) fun mq574_8 => (tst (veq mq574_8.1 2) (bdM (gL_text mq574_8.2 63 46 46 46 46 46 46 46) fun mq598_9 => (tst (veq mq598_9.1 0) (gL_globs_808 mq598_9.2) (bdM (gL_matched mq598_9.2 3) fun mq606_10 => (tst (veq mq606_10.1 4) (bdM (gL_text mq606_10.2 42 42 47 63 46 46 46 46) fun mq630_11 => (tst (veq mq630_11.1 0) (gL_globs_808 mq630_11.2) (bdM (gL_matched mq630_11.2 3) fun mq638_12 => (tst (veq mq638_12.1 7) (bdM (gL_text mq638_12.2 97 47 42 42 47 98 46 46) fun mq663_13 => (tst (veq mq663_13.1 0) (gL_globs_808 mq663_13.2) (bdM (gL_matched mq663_13.2 3) fun mq671_14 => (tst (veq mq671_14.1 1) (bdM (gL_text mq671_14.2 42 47 42 47 42 46 46 46) fun mq695_15 => (tst (veq mq695_15.1 0) (gL_globs_808 mq695_15.2) (bdM (gL_matched mq695_15.2 3) fun mq703_16 => (tst (veq mq703_16.1 2) (bdM (gL_text mq703_16.2 97 47 98 42 46 46 46 46) fun mq727_17 => (tst (veq mq727_17.1 0) (gL_globs_808 mq727_17.2) (bdM (gL_matched mq727_17.2 3) fun mq735_18 => (tst (veq mq735_18.1 1) (bdM (gL_text mq735_18.2 42 42 47 42 42 47 97 46) fun mq759_19 => (tst (veq mq759_19.1 0) (gL_globs_808 mq759_19.2) (bdM (gL_matched mq759_19.2 3) fun mq767_20 => (tst (veq mq767_20.1 0) (bdM (gL_text mq767_20.2 97 42 42 46 46 46 46 46) fun mq790_21 => (tst (veq mq790_21.1 0) (gL_globs_808 mq790_21.2) (bdM (gL_act mq790_21.2 4 0 0) fun mq800_22 => (tst (veq mq800_22.1 4294967263) (gL_globs_810 mq800_22.2) (gL_globs_808 mq800_22.2))))) (gL_globs_808 mq767_20.2))))) (gL_globs_808 mq735_18.2))))) (gL_globs_808 mq703_16.2))))) (gL_globs_808 mq671_14.2))))) (gL_globs_808 mq638_12.2))))) (gL_globs_808 mq606_10.2))))) (gL_globs_808 mq574_8.2))))) (gL_globs_808 mq541_6.2))))) (gL_globs_808 mq509_4.2))))) (gL_globs_808 mq477_2.2)))))
theorem sL_globs_452 {x : Nat} (hx : x < 1000) {mC_452 : RT} {C_452 : Mem} (hC_452 : (rm x) mC_452 C_452) : RZ (RO (rv x)) (gL_globs_452 mC_452) (fL_globs_452 C_452) := by
  unfold gL_globs_452 fL_globs_452
  refine rz_bnd (P := (rp (rv x) (rm x))) (sL_text hx hC_452 rl_97 rl_47 rl_42 rl_46 rl_46 rl_46 rl_46 rl_46) (fun mq469_1 q469_1 hq469_1 => ?_)
  refine rz_tst (veq_s hx (rp_1 hq469_1) rl_0) ?_ ?_
  · exact (sL_globs_808 hx (rp_2 hq469_1))
  · refine rz_bnd (P := (rp (rv x) (rm x))) (sL_matched hx (rp_2 hq469_1) rl_3) (fun mq477_2 q477_2 hq477_2 => ?_)
    refine rz_tst (veq_s hx (rp_1 hq477_2) rl_1) ?_ ?_
    · refine rz_bnd (P := (rp (rv x) (rm x))) (sL_text hx (rp_2 hq477_2) rl_97 rl_47 rl_42 rl_42 rl_46 rl_46 rl_46 rl_46) (fun mq501_3 q501_3 hq501_3 => ?_)
      refine rz_tst (veq_s hx (rp_1 hq501_3) rl_0) ?_ ?_
      · exact (sL_globs_808 hx (rp_2 hq501_3))
      · refine rz_bnd (P := (rp (rv x) (rm x))) (sL_matched hx (rp_2 hq501_3) rl_3) (fun mq509_4 q509_4 hq509_4 => ?_)
        refine rz_tst (veq_s hx (rp_1 hq509_4) rl_3) ?_ ?_
        · refine rz_bnd (P := (rp (rv x) (rm x))) (sL_text hx (rp_2 hq509_4) rl_42 rl_42 rl_46 rl_46 rl_46 rl_46 rl_46 rl_46) (fun mq533_5 q533_5 hq533_5 => ?_)
          refine rz_tst (veq_s hx (rp_1 hq533_5) rl_0) ?_ ?_
          · exact (sL_globs_808 hx (rp_2 hq533_5))
          · refine rz_bnd (P := (rp (rv x) (rm x))) (sL_matched hx (rp_2 hq533_5) rl_3) (fun mq541_6 q541_6 hq541_6 => ?_)
            refine rz_tst (veq_s hx (rp_1 hq541_6) rl_7) ?_ ?_
            · refine rz_bnd (P := (rp (rv x) (rm x))) (sL_text hx (rp_2 hq541_6) rl_42 rl_42 rl_47 rl_100 rl_46 rl_46 rl_46 rl_46) (fun mq566_7 q566_7 hq566_7 => ?_)
              refine rz_tst (veq_s hx (rp_1 hq566_7) rl_0) ?_ ?_
              · exact (sL_globs_808 hx (rp_2 hq566_7))
              · refine rz_bnd (P := (rp (rv x) (rm x))) (sL_matched hx (rp_2 hq566_7) rl_3) (fun mq574_8 q574_8 hq574_8 => ?_)
                refine rz_tst (veq_s hx (rp_1 hq574_8) rl_2) ?_ ?_
                · refine rz_bnd (P := (rp (rv x) (rm x))) (sL_text hx (rp_2 hq574_8) rl_63 rl_46 rl_46 rl_46 rl_46 rl_46 rl_46 rl_46) (fun mq598_9 q598_9 hq598_9 => ?_)
                  refine rz_tst (veq_s hx (rp_1 hq598_9) rl_0) ?_ ?_
                  · exact (sL_globs_808 hx (rp_2 hq598_9))
                  · refine rz_bnd (P := (rp (rv x) (rm x))) (sL_matched hx (rp_2 hq598_9) rl_3) (fun mq606_10 q606_10 hq606_10 => ?_)
                    refine rz_tst (veq_s hx (rp_1 hq606_10) rl_4) ?_ ?_
                    · refine rz_bnd (P := (rp (rv x) (rm x))) (sL_text hx (rp_2 hq606_10) rl_42 rl_42 rl_47 rl_63 rl_46 rl_46 rl_46 rl_46) (fun mq630_11 q630_11 hq630_11 => ?_)
                      refine rz_tst (veq_s hx (rp_1 hq630_11) rl_0) ?_ ?_
                      · exact (sL_globs_808 hx (rp_2 hq630_11))
                      · refine rz_bnd (P := (rp (rv x) (rm x))) (sL_matched hx (rp_2 hq630_11) rl_3) (fun mq638_12 q638_12 hq638_12 => ?_)
                        refine rz_tst (veq_s hx (rp_1 hq638_12) rl_7) ?_ ?_
                        · refine rz_bnd (P := (rp (rv x) (rm x))) (sL_text hx (rp_2 hq638_12) rl_97 rl_47 rl_42 rl_42 rl_47 rl_98 rl_46 rl_46) (fun mq663_13 q663_13 hq663_13 => ?_)
                          refine rz_tst (veq_s hx (rp_1 hq663_13) rl_0) ?_ ?_
                          · exact (sL_globs_808 hx (rp_2 hq663_13))
                          · refine rz_bnd (P := (rp (rv x) (rm x))) (sL_matched hx (rp_2 hq663_13) rl_3) (fun mq671_14 q671_14 hq671_14 => ?_)
                            refine rz_tst (veq_s hx (rp_1 hq671_14) rl_1) ?_ ?_
                            · refine rz_bnd (P := (rp (rv x) (rm x))) (sL_text hx (rp_2 hq671_14) rl_42 rl_47 rl_42 rl_47 rl_42 rl_46 rl_46 rl_46) (fun mq695_15 q695_15 hq695_15 => ?_)
                              refine rz_tst (veq_s hx (rp_1 hq695_15) rl_0) ?_ ?_
                              · exact (sL_globs_808 hx (rp_2 hq695_15))
                              · refine rz_bnd (P := (rp (rv x) (rm x))) (sL_matched hx (rp_2 hq695_15) rl_3) (fun mq703_16 q703_16 hq703_16 => ?_)
                                refine rz_tst (veq_s hx (rp_1 hq703_16) rl_2) ?_ ?_
                                · refine rz_bnd (P := (rp (rv x) (rm x))) (sL_text hx (rp_2 hq703_16) rl_97 rl_47 rl_98 rl_42 rl_46 rl_46 rl_46 rl_46) (fun mq727_17 q727_17 hq727_17 => ?_)
                                  refine rz_tst (veq_s hx (rp_1 hq727_17) rl_0) ?_ ?_
                                  · exact (sL_globs_808 hx (rp_2 hq727_17))
                                  · refine rz_bnd (P := (rp (rv x) (rm x))) (sL_matched hx (rp_2 hq727_17) rl_3) (fun mq735_18 q735_18 hq735_18 => ?_)
                                    refine rz_tst (veq_s hx (rp_1 hq735_18) rl_1) ?_ ?_
                                    · refine rz_bnd (P := (rp (rv x) (rm x))) (sL_text hx (rp_2 hq735_18) rl_42 rl_42 rl_47 rl_42 rl_42 rl_47 rl_97 rl_46) (fun mq759_19 q759_19 hq759_19 => ?_)
                                      refine rz_tst (veq_s hx (rp_1 hq759_19) rl_0) ?_ ?_
                                      · exact (sL_globs_808 hx (rp_2 hq759_19))
                                      · refine rz_bnd (P := (rp (rv x) (rm x))) (sL_matched hx (rp_2 hq759_19) rl_3) (fun mq767_20 q767_20 hq767_20 => ?_)
                                        refine rz_tst (veq_s hx (rp_1 hq767_20) rl_0) ?_ ?_
                                        · refine rz_bnd (P := (rp (rv x) (rm x))) (sL_text hx (rp_2 hq767_20) rl_97 rl_42 rl_42 rl_46 rl_46 rl_46 rl_46 rl_46) (fun mq790_21 q790_21 hq790_21 => ?_)
                                          refine rz_tst (veq_s hx (rp_1 hq790_21) rl_0) ?_ ?_
                                          · exact (sL_globs_808 hx (rp_2 hq790_21))
                                          · refine rz_bnd (P := (rp (rv x) (rm x))) (sL_act hx (rp_2 hq790_21) rl_4 rl_0 rl_0) (fun mq800_22 q800_22 hq800_22 => ?_)
                                            refine rz_tst (veq_s hx (rp_1 hq800_22) rl_m33) ?_ ?_
                                            · exact (sL_globs_810 hx (rp_2 hq800_22))
                                            · exact (sL_globs_808 hx (rp_2 hq800_22))
                                        · exact (sL_globs_808 hx (rp_2 hq767_20))
                                    · exact (sL_globs_808 hx (rp_2 hq735_18))
                                · exact (sL_globs_808 hx (rp_2 hq703_16))
                            · exact (sL_globs_808 hx (rp_2 hq671_14))
                        · exact (sL_globs_808 hx (rp_2 hq638_12))
                    · exact (sL_globs_808 hx (rp_2 hq606_10))
                · exact (sL_globs_808 hx (rp_2 hq574_8))
            · exact (sL_globs_808 hx (rp_2 hq541_6))
        · exact (sL_globs_808 hx (rp_2 hq509_4))
    · exact (sL_globs_808 hx (rp_2 hq477_2))
noncomputable def hL_globs_452 (mC_452 : RT) : Option RT := (bdM (gL_text mC_452 97 47 42 46 46 46 46 46) fun mq469_1 => (tst (veq mq469_1.1 0) none (bdM (gL_matched mq469_1.2 3) fun mq477_2 => (tst (veq mq477_2.1 1) (bdM (gL_text mq477_2.2 97 47 42 42 46 46 46 46) fun mq501_3 => (tst (veq mq501_3.1 0) none (bdM (gL_matched mq501_3.2 3) fun mq509_4 => (tst (veq mq509_4.1 3) (bdM (gL_text mq509_4.2 42 42 46 46 46 46 46 46) fun mq533_5 => (tst (veq mq533_5.1 0) none (bdM (gL_matched mq533_5.2 3) fun mq541_6 => (tst (veq mq541_6.1 7) (bdM (gL_text mq541_6.2 42 42 47 100 46 46 46 46) fun mq566_7 => (tst (veq mq566_7.1 0) none (bdM (gL_matched mq566_7.2 3) fun mq574_8 => (tst (veq mq574_8.1 2) (bdM (gL_text mq574_8.2 63 46 46 46 46 46 46 46) fun mq598_9 => (tst (veq mq598_9.1 0) none (bdM (gL_matched mq598_9.2 3) fun mq606_10 => (tst (veq mq606_10.1 4) (bdM (gL_text mq606_10.2 42 42 47 63 46 46 46 46) fun mq630_11 => (tst (veq mq630_11.1 0) none (bdM (gL_matched mq630_11.2 3) fun mq638_12 => (tst (veq mq638_12.1 7) (bdM (gL_text mq638_12.2 97 47 42 42 47 98 46 46) fun mq663_13 => (tst (veq mq663_13.1 0) none (bdM (gL_matched mq663_13.2 3) fun mq671_14 => (tst (veq mq671_14.1 1) (bdM (gL_text mq671_14.2 42 47 42 47 42 46 46 46) fun mq695_15 => (tst (veq mq695_15.1 0) none (bdM (gL_matched mq695_15.2 3) fun mq703_16 => (tst (veq mq703_16.1 2) (bdM (gL_text mq703_16.2 97 47 98 42 46 46 46 46) fun mq727_17 => (tst (veq mq727_17.1 0) none (bdM (gL_matched mq727_17.2 3) fun mq735_18 => (tst (veq mq735_18.1 1) (bdM (gL_text mq735_18.2 42 42 47 42 42 47 97 46) fun mq759_19 => (tst (veq mq759_19.1 0) none (bdM (gL_matched mq759_19.2 3) fun mq767_20 => (tst (veq mq767_20.1 0) (bdM (gL_text mq767_20.2 97 42 42 46 46 46 46 46) fun mq790_21 => (tst (veq mq790_21.1 0) none (bdM (gL_act mq790_21.2 4 0 0) fun mq800_22 => (tst (veq mq800_22.1 4294967263) (some mq800_22.2) none)))) none)))) none)))) none)))) none)))) none)))) none)))) none)))) none)))) none)))) none))))
theorem tL_globs_452 {x : Nat} (hx : x < 1000) {mC_452 : RT} {C_452 : Mem} (hC_452 : (rm x) mC_452 C_452) : RZ (Zex x (fun C => fL_globs_810 C)) (hL_globs_452 mC_452) (fL_globs_452 C_452) := by
  unfold hL_globs_452 fL_globs_452
  refine rz_bnd (P := (rp (rv x) (rm x))) (sL_text hx hC_452 rl_97 rl_47 rl_42 rl_46 rl_46 rl_46 rl_46 rl_46) (fun mq469_1 q469_1 hq469_1 => ?_)
  refine rz_tst (veq_s hx (rp_1 hq469_1) rl_0) ?_ ?_
  · exact rz_none
  · refine rz_bnd (P := (rp (rv x) (rm x))) (sL_matched hx (rp_2 hq469_1) rl_3) (fun mq477_2 q477_2 hq477_2 => ?_)
    refine rz_tst (veq_s hx (rp_1 hq477_2) rl_1) ?_ ?_
    · refine rz_bnd (P := (rp (rv x) (rm x))) (sL_text hx (rp_2 hq477_2) rl_97 rl_47 rl_42 rl_42 rl_46 rl_46 rl_46 rl_46) (fun mq501_3 q501_3 hq501_3 => ?_)
      refine rz_tst (veq_s hx (rp_1 hq501_3) rl_0) ?_ ?_
      · exact rz_none
      · refine rz_bnd (P := (rp (rv x) (rm x))) (sL_matched hx (rp_2 hq501_3) rl_3) (fun mq509_4 q509_4 hq509_4 => ?_)
        refine rz_tst (veq_s hx (rp_1 hq509_4) rl_3) ?_ ?_
        · refine rz_bnd (P := (rp (rv x) (rm x))) (sL_text hx (rp_2 hq509_4) rl_42 rl_42 rl_46 rl_46 rl_46 rl_46 rl_46 rl_46) (fun mq533_5 q533_5 hq533_5 => ?_)
          refine rz_tst (veq_s hx (rp_1 hq533_5) rl_0) ?_ ?_
          · exact rz_none
          · refine rz_bnd (P := (rp (rv x) (rm x))) (sL_matched hx (rp_2 hq533_5) rl_3) (fun mq541_6 q541_6 hq541_6 => ?_)
            refine rz_tst (veq_s hx (rp_1 hq541_6) rl_7) ?_ ?_
            · refine rz_bnd (P := (rp (rv x) (rm x))) (sL_text hx (rp_2 hq541_6) rl_42 rl_42 rl_47 rl_100 rl_46 rl_46 rl_46 rl_46) (fun mq566_7 q566_7 hq566_7 => ?_)
              refine rz_tst (veq_s hx (rp_1 hq566_7) rl_0) ?_ ?_
              · exact rz_none
              · refine rz_bnd (P := (rp (rv x) (rm x))) (sL_matched hx (rp_2 hq566_7) rl_3) (fun mq574_8 q574_8 hq574_8 => ?_)
                refine rz_tst (veq_s hx (rp_1 hq574_8) rl_2) ?_ ?_
                · refine rz_bnd (P := (rp (rv x) (rm x))) (sL_text hx (rp_2 hq574_8) rl_63 rl_46 rl_46 rl_46 rl_46 rl_46 rl_46 rl_46) (fun mq598_9 q598_9 hq598_9 => ?_)
                  refine rz_tst (veq_s hx (rp_1 hq598_9) rl_0) ?_ ?_
                  · exact rz_none
                  · refine rz_bnd (P := (rp (rv x) (rm x))) (sL_matched hx (rp_2 hq598_9) rl_3) (fun mq606_10 q606_10 hq606_10 => ?_)
                    refine rz_tst (veq_s hx (rp_1 hq606_10) rl_4) ?_ ?_
                    · refine rz_bnd (P := (rp (rv x) (rm x))) (sL_text hx (rp_2 hq606_10) rl_42 rl_42 rl_47 rl_63 rl_46 rl_46 rl_46 rl_46) (fun mq630_11 q630_11 hq630_11 => ?_)
                      refine rz_tst (veq_s hx (rp_1 hq630_11) rl_0) ?_ ?_
                      · exact rz_none
                      · refine rz_bnd (P := (rp (rv x) (rm x))) (sL_matched hx (rp_2 hq630_11) rl_3) (fun mq638_12 q638_12 hq638_12 => ?_)
                        refine rz_tst (veq_s hx (rp_1 hq638_12) rl_7) ?_ ?_
                        · refine rz_bnd (P := (rp (rv x) (rm x))) (sL_text hx (rp_2 hq638_12) rl_97 rl_47 rl_42 rl_42 rl_47 rl_98 rl_46 rl_46) (fun mq663_13 q663_13 hq663_13 => ?_)
                          refine rz_tst (veq_s hx (rp_1 hq663_13) rl_0) ?_ ?_
                          · exact rz_none
                          · refine rz_bnd (P := (rp (rv x) (rm x))) (sL_matched hx (rp_2 hq663_13) rl_3) (fun mq671_14 q671_14 hq671_14 => ?_)
                            refine rz_tst (veq_s hx (rp_1 hq671_14) rl_1) ?_ ?_
                            · refine rz_bnd (P := (rp (rv x) (rm x))) (sL_text hx (rp_2 hq671_14) rl_42 rl_47 rl_42 rl_47 rl_42 rl_46 rl_46 rl_46) (fun mq695_15 q695_15 hq695_15 => ?_)
                              refine rz_tst (veq_s hx (rp_1 hq695_15) rl_0) ?_ ?_
                              · exact rz_none
                              · refine rz_bnd (P := (rp (rv x) (rm x))) (sL_matched hx (rp_2 hq695_15) rl_3) (fun mq703_16 q703_16 hq703_16 => ?_)
                                refine rz_tst (veq_s hx (rp_1 hq703_16) rl_2) ?_ ?_
                                · refine rz_bnd (P := (rp (rv x) (rm x))) (sL_text hx (rp_2 hq703_16) rl_97 rl_47 rl_98 rl_42 rl_46 rl_46 rl_46 rl_46) (fun mq727_17 q727_17 hq727_17 => ?_)
                                  refine rz_tst (veq_s hx (rp_1 hq727_17) rl_0) ?_ ?_
                                  · exact rz_none
                                  · refine rz_bnd (P := (rp (rv x) (rm x))) (sL_matched hx (rp_2 hq727_17) rl_3) (fun mq735_18 q735_18 hq735_18 => ?_)
                                    refine rz_tst (veq_s hx (rp_1 hq735_18) rl_1) ?_ ?_
                                    · refine rz_bnd (P := (rp (rv x) (rm x))) (sL_text hx (rp_2 hq735_18) rl_42 rl_42 rl_47 rl_42 rl_42 rl_47 rl_97 rl_46) (fun mq759_19 q759_19 hq759_19 => ?_)
                                      refine rz_tst (veq_s hx (rp_1 hq759_19) rl_0) ?_ ?_
                                      · exact rz_none
                                      · refine rz_bnd (P := (rp (rv x) (rm x))) (sL_matched hx (rp_2 hq759_19) rl_3) (fun mq767_20 q767_20 hq767_20 => ?_)
                                        refine rz_tst (veq_s hx (rp_1 hq767_20) rl_0) ?_ ?_
                                        · refine rz_bnd (P := (rp (rv x) (rm x))) (sL_text hx (rp_2 hq767_20) rl_97 rl_42 rl_42 rl_46 rl_46 rl_46 rl_46 rl_46) (fun mq790_21 q790_21 hq790_21 => ?_)
                                          refine rz_tst (veq_s hx (rp_1 hq790_21) rl_0) ?_ ?_
                                          · exact rz_none
                                          · refine rz_bnd (P := (rp (rv x) (rm x))) (sL_act hx (rp_2 hq790_21) rl_4 rl_0 rl_0) (fun mq800_22 q800_22 hq800_22 => ?_)
                                            refine rz_tst (veq_s hx (rp_1 hq800_22) rl_m33) ?_ ?_
                                            · exact rz_out (rp_2 hq800_22)
                                            · exact rz_none
                                        · exact rz_none
                                    · exact rz_none
                                · exact rz_none
                            · exact rz_none
                        · exact rz_none
                    · exact rz_none
                · exact rz_none
            · exact rz_none
        · exact rz_none
    · exact rz_none
noncomputable def gL_globs_450 (mC_450 : RT) : Option Nat := (some 0)
theorem sL_globs_450 {x : Nat} (hx : x < 1000) {mC_450 : RT} {C_450 : Mem} (hC_450 : (rm x) mC_450 C_450) : RZ (RO (rv x)) (gL_globs_450 mC_450) (fL_globs_450 C_450) := by
  unfold gL_globs_450 fL_globs_450
  exact rz_some rl_0
noncomputable def gL_globs_310 (mC_310 : RT) : Option Nat := (bdM (gL_text mC_310 97 47 98 46 46 46 46 46) fun mq327_1 => (tst (veq mq327_1.1 0) (gL_globs_450 mq327_1.2) (bdM (gX7_findFile mq327_1.2) fun mq334_2 => (tst (veq mq334_2 4294967295) (bdM (gX7_addFile mq327_1.2 1) fun mq343_3 => (swM mq343_3.1 (fun mv343_4 => (tst (veq mv343_4 0) (bdM (gL_act mq343_3.2 1 2 0) fun mq353_5 => (tst (veq mq353_5.1 4294967263) (bdM (gX7_findFile mq353_5.2) fun mq362_6 => (tst (veq mq362_6 0) (bdM (gL_text mq353_5.2 97 47 99 47 100 46 46 46) fun mq385_7 => (tst (veq mq385_7.1 0) (gL_globs_450 mq385_7.2) (bdM (gX7_addFile mq385_7.2 3) fun mq393_8 => (swM mq393_8.1 (fun mv393_9 => (tst (veq mv393_9 1) (bdM (gL_text mq393_8.2 101 46 46 46 46 46 46 46) fun mq417_10 => (tst (veq mq417_10.1 0) (gL_globs_450 mq417_10.2) (bdM (gX7_addFile mq417_10.2 4) fun mq425_11 => (swM mq425_11.1 (fun mv425_12 => (tst (veq mv425_12 2) (tst (veq (gX7_files mq425_11.2) 7) (bdM (gX7_changed mq425_11.2) fun mq442_13 => (tst (veq mq442_13 7) (gL_globs_452 mq425_11.2) (gL_globs_450 mq425_11.2))) (gL_globs_450 mq425_11.2)) (gL_globs_450 mq425_11.2))) (fun u_14 => none))))) (gL_globs_450 mq393_8.2))) (fun u_15 => none))))) (gL_globs_450 mq353_5.2))) (gL_globs_450 mq353_5.2))) (gL_globs_450 mq343_3.2))) (fun u_16 => none))) (gL_globs_450 mq327_1.2)))))
theorem sL_globs_310 {x : Nat} (hx : x < 1000) {mC_310 : RT} {C_310 : Mem} (hC_310 : (rm x) mC_310 C_310) : RZ (RO (rv x)) (gL_globs_310 mC_310) (fL_globs_310 C_310) := by
  unfold gL_globs_310 fL_globs_310
  refine rz_bnd (P := (rp (rv x) (rm x))) (sL_text hx hC_310 rl_97 rl_47 rl_98 rl_46 rl_46 rl_46 rl_46 rl_46) (fun mq327_1 q327_1 hq327_1 => ?_)
  refine rz_tst (veq_s hx (rp_1 hq327_1) rl_0) ?_ ?_
  · exact (sL_globs_450 hx (rp_2 hq327_1))
  · refine rz_bnd (P := (rv x)) (sX7_findFile hx (rp_2 hq327_1)) (fun mq334_2 q334_2 hq334_2 => ?_)
    refine rz_tst (veq_s hx hq334_2 rl_m1) ?_ ?_
    · refine rz_bnd (P := (rp (rs (rv x) (@Eq Nat)) (rm x))) (sX7_addFile hx (rp_2 hq327_1) rl_1) (fun mq343_3 q343_3 hq343_3 => ?_)
      refine rz_sw (x := x) (rp_1 hq343_3) (fun mv343_4 v343_4 hv343_4 => ?_) (fun u_16 => ?_)
      · refine rz_tst (veq_s hx hv343_4 rl_0) ?_ ?_
        · refine rz_bnd (P := (rp (rv x) (rm x))) (sL_act hx (rp_2 hq343_3) rl_1 rl_2 rl_0) (fun mq353_5 q353_5 hq353_5 => ?_)
          refine rz_tst (veq_s hx (rp_1 hq353_5) rl_m33) ?_ ?_
          · refine rz_bnd (P := (rv x)) (sX7_findFile hx (rp_2 hq353_5)) (fun mq362_6 q362_6 hq362_6 => ?_)
            refine rz_tst (veq_s hx hq362_6 rl_0) ?_ ?_
            · refine rz_bnd (P := (rp (rv x) (rm x))) (sL_text hx (rp_2 hq353_5) rl_97 rl_47 rl_99 rl_47 rl_100 rl_46 rl_46 rl_46) (fun mq385_7 q385_7 hq385_7 => ?_)
              refine rz_tst (veq_s hx (rp_1 hq385_7) rl_0) ?_ ?_
              · exact (sL_globs_450 hx (rp_2 hq385_7))
              · refine rz_bnd (P := (rp (rs (rv x) (@Eq Nat)) (rm x))) (sX7_addFile hx (rp_2 hq385_7) rl_3) (fun mq393_8 q393_8 hq393_8 => ?_)
                refine rz_sw (x := x) (rp_1 hq393_8) (fun mv393_9 v393_9 hv393_9 => ?_) (fun u_15 => ?_)
                · refine rz_tst (veq_s hx hv393_9 rl_1) ?_ ?_
                  · refine rz_bnd (P := (rp (rv x) (rm x))) (sL_text hx (rp_2 hq393_8) rl_101 rl_46 rl_46 rl_46 rl_46 rl_46 rl_46 rl_46) (fun mq417_10 q417_10 hq417_10 => ?_)
                    refine rz_tst (veq_s hx (rp_1 hq417_10) rl_0) ?_ ?_
                    · exact (sL_globs_450 hx (rp_2 hq417_10))
                    · refine rz_bnd (P := (rp (rs (rv x) (@Eq Nat)) (rm x))) (sX7_addFile hx (rp_2 hq417_10) rl_4) (fun mq425_11 q425_11 hq425_11 => ?_)
                      refine rz_sw (x := x) (rp_1 hq425_11) (fun mv425_12 v425_12 hv425_12 => ?_) (fun u_14 => ?_)
                      · refine rz_tst (veq_s hx hv425_12 rl_2) ?_ ?_
                        · refine rz_tst (veq_s hx (sX7_files hx (rp_2 hq425_11)) rl_7) ?_ ?_
                          · refine rz_bnd (P := (rv x)) (sX7_changed hx (rp_2 hq425_11)) (fun mq442_13 q442_13 hq442_13 => ?_)
                            refine rz_tst (veq_s hx hq442_13 rl_7) ?_ ?_
                            · exact (sL_globs_452 hx (rp_2 hq425_11))
                            · exact (sL_globs_450 hx (rp_2 hq425_11))
                          · exact (sL_globs_450 hx (rp_2 hq425_11))
                        · exact (sL_globs_450 hx (rp_2 hq425_11))
                      · exact rz_none
                  · exact (sL_globs_450 hx (rp_2 hq393_8))
                · exact rz_none
            · exact (sL_globs_450 hx (rp_2 hq353_5))
          · exact (sL_globs_450 hx (rp_2 hq353_5))
        · exact (sL_globs_450 hx (rp_2 hq343_3))
      · exact rz_none
    · exact (sL_globs_450 hx (rp_2 hq327_1))
noncomputable def hL_globs_310 (mC_310 : RT) : Option RT := (bdM (gL_text mC_310 97 47 98 46 46 46 46 46) fun mq327_1 => (tst (veq mq327_1.1 0) none (bdM (gX7_findFile mq327_1.2) fun mq334_2 => (tst (veq mq334_2 4294967295) (bdM (gX7_addFile mq327_1.2 1) fun mq343_3 => (swM mq343_3.1 (fun mv343_4 => (tst (veq mv343_4 0) (bdM (gL_act mq343_3.2 1 2 0) fun mq353_5 => (tst (veq mq353_5.1 4294967263) (bdM (gX7_findFile mq353_5.2) fun mq362_6 => (tst (veq mq362_6 0) (bdM (gL_text mq353_5.2 97 47 99 47 100 46 46 46) fun mq385_7 => (tst (veq mq385_7.1 0) none (bdM (gX7_addFile mq385_7.2 3) fun mq393_8 => (swM mq393_8.1 (fun mv393_9 => (tst (veq mv393_9 1) (bdM (gL_text mq393_8.2 101 46 46 46 46 46 46 46) fun mq417_10 => (tst (veq mq417_10.1 0) none (bdM (gX7_addFile mq417_10.2 4) fun mq425_11 => (swM mq425_11.1 (fun mv425_12 => (tst (veq mv425_12 2) (tst (veq (gX7_files mq425_11.2) 7) (bdM (gX7_changed mq425_11.2) fun mq442_13 => (tst (veq mq442_13 7) (some mq425_11.2) none)) none) none)) (fun u_14 => none))))) none)) (fun u_15 => none))))) none)) none)) none)) (fun u_16 => none))) none))))
theorem tL_globs_310 {x : Nat} (hx : x < 1000) {mC_310 : RT} {C_310 : Mem} (hC_310 : (rm x) mC_310 C_310) : RZ (Zex x (fun C => fL_globs_452 C)) (hL_globs_310 mC_310) (fL_globs_310 C_310) := by
  unfold hL_globs_310 fL_globs_310
  refine rz_bnd (P := (rp (rv x) (rm x))) (sL_text hx hC_310 rl_97 rl_47 rl_98 rl_46 rl_46 rl_46 rl_46 rl_46) (fun mq327_1 q327_1 hq327_1 => ?_)
  refine rz_tst (veq_s hx (rp_1 hq327_1) rl_0) ?_ ?_
  · exact rz_none
  · refine rz_bnd (P := (rv x)) (sX7_findFile hx (rp_2 hq327_1)) (fun mq334_2 q334_2 hq334_2 => ?_)
    refine rz_tst (veq_s hx hq334_2 rl_m1) ?_ ?_
    · refine rz_bnd (P := (rp (rs (rv x) (@Eq Nat)) (rm x))) (sX7_addFile hx (rp_2 hq327_1) rl_1) (fun mq343_3 q343_3 hq343_3 => ?_)
      refine rz_sw (x := x) (rp_1 hq343_3) (fun mv343_4 v343_4 hv343_4 => ?_) (fun u_16 => ?_)
      · refine rz_tst (veq_s hx hv343_4 rl_0) ?_ ?_
        · refine rz_bnd (P := (rp (rv x) (rm x))) (sL_act hx (rp_2 hq343_3) rl_1 rl_2 rl_0) (fun mq353_5 q353_5 hq353_5 => ?_)
          refine rz_tst (veq_s hx (rp_1 hq353_5) rl_m33) ?_ ?_
          · refine rz_bnd (P := (rv x)) (sX7_findFile hx (rp_2 hq353_5)) (fun mq362_6 q362_6 hq362_6 => ?_)
            refine rz_tst (veq_s hx hq362_6 rl_0) ?_ ?_
            · refine rz_bnd (P := (rp (rv x) (rm x))) (sL_text hx (rp_2 hq353_5) rl_97 rl_47 rl_99 rl_47 rl_100 rl_46 rl_46 rl_46) (fun mq385_7 q385_7 hq385_7 => ?_)
              refine rz_tst (veq_s hx (rp_1 hq385_7) rl_0) ?_ ?_
              · exact rz_none
              · refine rz_bnd (P := (rp (rs (rv x) (@Eq Nat)) (rm x))) (sX7_addFile hx (rp_2 hq385_7) rl_3) (fun mq393_8 q393_8 hq393_8 => ?_)
                refine rz_sw (x := x) (rp_1 hq393_8) (fun mv393_9 v393_9 hv393_9 => ?_) (fun u_15 => ?_)
                · refine rz_tst (veq_s hx hv393_9 rl_1) ?_ ?_
                  · refine rz_bnd (P := (rp (rv x) (rm x))) (sL_text hx (rp_2 hq393_8) rl_101 rl_46 rl_46 rl_46 rl_46 rl_46 rl_46 rl_46) (fun mq417_10 q417_10 hq417_10 => ?_)
                    refine rz_tst (veq_s hx (rp_1 hq417_10) rl_0) ?_ ?_
                    · exact rz_none
                    · refine rz_bnd (P := (rp (rs (rv x) (@Eq Nat)) (rm x))) (sX7_addFile hx (rp_2 hq417_10) rl_4) (fun mq425_11 q425_11 hq425_11 => ?_)
                      refine rz_sw (x := x) (rp_1 hq425_11) (fun mv425_12 v425_12 hv425_12 => ?_) (fun u_14 => ?_)
                      · refine rz_tst (veq_s hx hv425_12 rl_2) ?_ ?_
                        · refine rz_tst (veq_s hx (sX7_files hx (rp_2 hq425_11)) rl_7) ?_ ?_
                          · refine rz_bnd (P := (rv x)) (sX7_changed hx (rp_2 hq425_11)) (fun mq442_13 q442_13 hq442_13 => ?_)
                            refine rz_tst (veq_s hx hq442_13 rl_7) ?_ ?_
                            · exact rz_out (rp_2 hq425_11)
                            · exact rz_none
                          · exact rz_none
                        · exact rz_none
                      · exact rz_none
                  · exact rz_none
                · exact rz_none
            · exact rz_none
          · exact rz_none
        · exact rz_none
      · exact rz_none
    · exact rz_none
noncomputable def gL_globs_308 (mC_308 : RT) : Option Nat := (some 0)
theorem sL_globs_308 {x : Nat} (hx : x < 1000) {mC_308 : RT} {C_308 : Mem} (hC_308 : (rm x) mC_308 C_308) : RZ (RO (rv x)) (gL_globs_308 mC_308) (fL_globs_308 C_308) := by
  unfold gL_globs_308 fL_globs_308
  exact rz_some rl_0
noncomputable def gL_globs_157 (mC_157 : RT) : Option Nat := (bdM (gL_text mC_157 97 42 46 46 46 46 46 46) fun mq174_1 => (tst (veq mq174_1.1 0) (gL_globs_308 mq174_1.2) (bdM (gL_kind mq174_1.2) fun mq181_2 => (tst (veq mq181_2 2) (bdM (gL_act mq174_1.2 1 5 0) fun mq192_3 => (tst (veq mq192_3.1 4294967264) (bdM (gL_text mq192_3.2 97 42 42 46 46 46 46 46) fun mq217_4 => (tst (veq mq217_4.1 0) (gL_globs_308 mq217_4.2) (bdM (gL_kind mq217_4.2) fun mq224_5 => (tst (veq mq224_5 0) (bdM (gL_text mq217_4.2 42 42 42 46 46 46 46 46) fun mq247_6 => (tst (veq mq247_6.1 0) (gL_globs_308 mq247_6.2) (bdM (gL_kind mq247_6.2) fun mq254_7 => (tst (veq mq254_7 0) (bdM (gL_text mq247_6.2 42 97 42 47 42 42 46 46) fun mq277_8 => (tst (veq mq277_8.1 0) (gL_globs_308 mq277_8.2) (bdM (gL_kind mq277_8.2) fun mq284_9 => (tst (veq mq284_9 2) (bdM (gX7_clearText mq277_8.2) fun mq292_10 => (tst (veq mq292_10.1 6) (bdM (gX7_findFile mq292_10.2) fun mq301_11 => (tst (veq mq301_11 4294967295) (gL_globs_310 mq292_10.2) (gL_globs_308 mq292_10.2))) (gL_globs_308 mq292_10.2))) (gL_globs_308 mq277_8.2))))) (gL_globs_308 mq247_6.2))))) (gL_globs_308 mq217_4.2))))) (gL_globs_308 mq192_3.2))) (gL_globs_308 mq174_1.2)))))
theorem sL_globs_157 {x : Nat} (hx : x < 1000) {mC_157 : RT} {C_157 : Mem} (hC_157 : (rm x) mC_157 C_157) : RZ (RO (rv x)) (gL_globs_157 mC_157) (fL_globs_157 C_157) := by
  unfold gL_globs_157 fL_globs_157
  refine rz_bnd (P := (rp (rv x) (rm x))) (sL_text hx hC_157 rl_97 rl_42 rl_46 rl_46 rl_46 rl_46 rl_46 rl_46) (fun mq174_1 q174_1 hq174_1 => ?_)
  refine rz_tst (veq_s hx (rp_1 hq174_1) rl_0) ?_ ?_
  · exact (sL_globs_308 hx (rp_2 hq174_1))
  · refine rz_bnd (P := (rv x)) (sL_kind hx (rp_2 hq174_1)) (fun mq181_2 q181_2 hq181_2 => ?_)
    refine rz_tst (veq_s hx hq181_2 rl_2) ?_ ?_
    · refine rz_bnd (P := (rp (rv x) (rm x))) (sL_act hx (rp_2 hq174_1) rl_1 rl_5 rl_0) (fun mq192_3 q192_3 hq192_3 => ?_)
      refine rz_tst (veq_s hx (rp_1 hq192_3) rl_m32) ?_ ?_
      · refine rz_bnd (P := (rp (rv x) (rm x))) (sL_text hx (rp_2 hq192_3) rl_97 rl_42 rl_42 rl_46 rl_46 rl_46 rl_46 rl_46) (fun mq217_4 q217_4 hq217_4 => ?_)
        refine rz_tst (veq_s hx (rp_1 hq217_4) rl_0) ?_ ?_
        · exact (sL_globs_308 hx (rp_2 hq217_4))
        · refine rz_bnd (P := (rv x)) (sL_kind hx (rp_2 hq217_4)) (fun mq224_5 q224_5 hq224_5 => ?_)
          refine rz_tst (veq_s hx hq224_5 rl_0) ?_ ?_
          · refine rz_bnd (P := (rp (rv x) (rm x))) (sL_text hx (rp_2 hq217_4) rl_42 rl_42 rl_42 rl_46 rl_46 rl_46 rl_46 rl_46) (fun mq247_6 q247_6 hq247_6 => ?_)
            refine rz_tst (veq_s hx (rp_1 hq247_6) rl_0) ?_ ?_
            · exact (sL_globs_308 hx (rp_2 hq247_6))
            · refine rz_bnd (P := (rv x)) (sL_kind hx (rp_2 hq247_6)) (fun mq254_7 q254_7 hq254_7 => ?_)
              refine rz_tst (veq_s hx hq254_7 rl_0) ?_ ?_
              · refine rz_bnd (P := (rp (rv x) (rm x))) (sL_text hx (rp_2 hq247_6) rl_42 rl_97 rl_42 rl_47 rl_42 rl_42 rl_46 rl_46) (fun mq277_8 q277_8 hq277_8 => ?_)
                refine rz_tst (veq_s hx (rp_1 hq277_8) rl_0) ?_ ?_
                · exact (sL_globs_308 hx (rp_2 hq277_8))
                · refine rz_bnd (P := (rv x)) (sL_kind hx (rp_2 hq277_8)) (fun mq284_9 q284_9 hq284_9 => ?_)
                  refine rz_tst (veq_s hx hq284_9 rl_2) ?_ ?_
                  · refine rz_bnd (P := (rp (rv x) (rm x))) (sX7_clearText hx (rp_2 hq277_8)) (fun mq292_10 q292_10 hq292_10 => ?_)
                    refine rz_tst (veq_s hx (rp_1 hq292_10) rl_6) ?_ ?_
                    · refine rz_bnd (P := (rv x)) (sX7_findFile hx (rp_2 hq292_10)) (fun mq301_11 q301_11 hq301_11 => ?_)
                      refine rz_tst (veq_s hx hq301_11 rl_m1) ?_ ?_
                      · exact (sL_globs_310 hx (rp_2 hq292_10))
                      · exact (sL_globs_308 hx (rp_2 hq292_10))
                    · exact (sL_globs_308 hx (rp_2 hq292_10))
                  · exact (sL_globs_308 hx (rp_2 hq277_8))
              · exact (sL_globs_308 hx (rp_2 hq247_6))
          · exact (sL_globs_308 hx (rp_2 hq217_4))
      · exact (sL_globs_308 hx (rp_2 hq192_3))
    · exact (sL_globs_308 hx (rp_2 hq174_1))
noncomputable def hL_globs_157 (mC_157 : RT) : Option RT := (bdM (gL_text mC_157 97 42 46 46 46 46 46 46) fun mq174_1 => (tst (veq mq174_1.1 0) none (bdM (gL_kind mq174_1.2) fun mq181_2 => (tst (veq mq181_2 2) (bdM (gL_act mq174_1.2 1 5 0) fun mq192_3 => (tst (veq mq192_3.1 4294967264) (bdM (gL_text mq192_3.2 97 42 42 46 46 46 46 46) fun mq217_4 => (tst (veq mq217_4.1 0) none (bdM (gL_kind mq217_4.2) fun mq224_5 => (tst (veq mq224_5 0) (bdM (gL_text mq217_4.2 42 42 42 46 46 46 46 46) fun mq247_6 => (tst (veq mq247_6.1 0) none (bdM (gL_kind mq247_6.2) fun mq254_7 => (tst (veq mq254_7 0) (bdM (gL_text mq247_6.2 42 97 42 47 42 42 46 46) fun mq277_8 => (tst (veq mq277_8.1 0) none (bdM (gL_kind mq277_8.2) fun mq284_9 => (tst (veq mq284_9 2) (bdM (gX7_clearText mq277_8.2) fun mq292_10 => (tst (veq mq292_10.1 6) (bdM (gX7_findFile mq292_10.2) fun mq301_11 => (tst (veq mq301_11 4294967295) (some mq292_10.2) none)) none)) none)))) none)))) none)))) none)) none))))
theorem tL_globs_157 {x : Nat} (hx : x < 1000) {mC_157 : RT} {C_157 : Mem} (hC_157 : (rm x) mC_157 C_157) : RZ (Zex x (fun C => fL_globs_310 C)) (hL_globs_157 mC_157) (fL_globs_157 C_157) := by
  unfold hL_globs_157 fL_globs_157
  refine rz_bnd (P := (rp (rv x) (rm x))) (sL_text hx hC_157 rl_97 rl_42 rl_46 rl_46 rl_46 rl_46 rl_46 rl_46) (fun mq174_1 q174_1 hq174_1 => ?_)
  refine rz_tst (veq_s hx (rp_1 hq174_1) rl_0) ?_ ?_
  · exact rz_none
  · refine rz_bnd (P := (rv x)) (sL_kind hx (rp_2 hq174_1)) (fun mq181_2 q181_2 hq181_2 => ?_)
    refine rz_tst (veq_s hx hq181_2 rl_2) ?_ ?_
    · refine rz_bnd (P := (rp (rv x) (rm x))) (sL_act hx (rp_2 hq174_1) rl_1 rl_5 rl_0) (fun mq192_3 q192_3 hq192_3 => ?_)
      refine rz_tst (veq_s hx (rp_1 hq192_3) rl_m32) ?_ ?_
      · refine rz_bnd (P := (rp (rv x) (rm x))) (sL_text hx (rp_2 hq192_3) rl_97 rl_42 rl_42 rl_46 rl_46 rl_46 rl_46 rl_46) (fun mq217_4 q217_4 hq217_4 => ?_)
        refine rz_tst (veq_s hx (rp_1 hq217_4) rl_0) ?_ ?_
        · exact rz_none
        · refine rz_bnd (P := (rv x)) (sL_kind hx (rp_2 hq217_4)) (fun mq224_5 q224_5 hq224_5 => ?_)
          refine rz_tst (veq_s hx hq224_5 rl_0) ?_ ?_
          · refine rz_bnd (P := (rp (rv x) (rm x))) (sL_text hx (rp_2 hq217_4) rl_42 rl_42 rl_42 rl_46 rl_46 rl_46 rl_46 rl_46) (fun mq247_6 q247_6 hq247_6 => ?_)
            refine rz_tst (veq_s hx (rp_1 hq247_6) rl_0) ?_ ?_
            · exact rz_none
            · refine rz_bnd (P := (rv x)) (sL_kind hx (rp_2 hq247_6)) (fun mq254_7 q254_7 hq254_7 => ?_)
              refine rz_tst (veq_s hx hq254_7 rl_0) ?_ ?_
              · refine rz_bnd (P := (rp (rv x) (rm x))) (sL_text hx (rp_2 hq247_6) rl_42 rl_97 rl_42 rl_47 rl_42 rl_42 rl_46 rl_46) (fun mq277_8 q277_8 hq277_8 => ?_)
                refine rz_tst (veq_s hx (rp_1 hq277_8) rl_0) ?_ ?_
                · exact rz_none
                · refine rz_bnd (P := (rv x)) (sL_kind hx (rp_2 hq277_8)) (fun mq284_9 q284_9 hq284_9 => ?_)
                  refine rz_tst (veq_s hx hq284_9 rl_2) ?_ ?_
                  · refine rz_bnd (P := (rp (rv x) (rm x))) (sX7_clearText hx (rp_2 hq277_8)) (fun mq292_10 q292_10 hq292_10 => ?_)
                    refine rz_tst (veq_s hx (rp_1 hq292_10) rl_6) ?_ ?_
                    · refine rz_bnd (P := (rv x)) (sX7_findFile hx (rp_2 hq292_10)) (fun mq301_11 q301_11 hq301_11 => ?_)
                      refine rz_tst (veq_s hx hq301_11 rl_m1) ?_ ?_
                      · exact rz_out (rp_2 hq292_10)
                      · exact rz_none
                    · exact rz_none
                  · exact rz_none
              · exact rz_none
          · exact rz_none
      · exact rz_none
    · exact rz_none
noncomputable def gL_globs_155 (mC_155 : RT) : Option Nat := (some 0)
theorem sL_globs_155 {x : Nat} (hx : x < 1000) {mC_155 : RT} {C_155 : Mem} (hC_155 : (rm x) mC_155 C_155) : RZ (RO (rv x)) (gL_globs_155 mC_155) (fL_globs_155 C_155) := by
  unfold gL_globs_155 fL_globs_155
  exact rz_some rl_0
noncomputable def gL_globs  : Option Nat := (bdM (gX7_clearText R0) fun mq9_1 => (tst (veq mq9_1.1 0) (bdM (gL_kind mq9_1.2) fun mq16_2 => (tst (veq mq16_2 0) (bdM (gL_text mq9_1.2 97 46 46 46 46 46 46 46) fun mq39_3 => (tst (veq mq39_3.1 0) (gL_globs_155 mq39_3.2) (bdM (gL_kind mq39_3.2) fun mq46_4 => (tst (veq mq46_4 3) (bdM (gL_text mq39_3.2 97 47 46 46 46 46 46 46) fun mq70_5 => (tst (veq mq70_5.1 0) (gL_globs_155 mq70_5.2) (bdM (gL_kind mq70_5.2) fun mq77_6 => (tst (veq mq77_6 0) (bdM (gL_act mq70_5.2 1 5 0) fun mq87_7 => (tst (veq mq87_7.1 4294967264) (bdM (gL_text mq87_7.2 47 97 46 46 46 46 46 46) fun mq112_8 => (tst (veq mq112_8.1 0) (gL_globs_155 mq112_8.2) (bdM (gL_kind mq112_8.2) fun mq119_9 => (tst (veq mq119_9 0) (bdM (gL_text mq112_8.2 97 47 47 98 46 46 46 46) fun mq142_10 => (tst (veq mq142_10.1 0) (gL_globs_155 mq142_10.2) (bdM (gL_kind mq142_10.2) fun mq149_11 => (tst (veq mq149_11 0) (gL_globs_157 mq142_10.2) (gL_globs_155 mq142_10.2))))) (gL_globs_155 mq112_8.2))))) (gL_globs_155 mq87_7.2))) (gL_globs_155 mq70_5.2))))) (gL_globs_155 mq39_3.2))))) (gL_globs_155 mq9_1.2))) (gL_globs_155 mq9_1.2)))
theorem sL_globs {x : Nat} (hx : x < 1000)  : RZ (RO (rv x)) (gL_globs) (fL_globs) := by
  unfold gL_globs fL_globs
  refine rz_bnd (P := (rp (rv x) (rm x))) (sX7_clearText hx R0_s) (fun mq9_1 q9_1 hq9_1 => ?_)
  refine rz_tst (veq_s hx (rp_1 hq9_1) rl_0) ?_ ?_
  · refine rz_bnd (P := (rv x)) (sL_kind hx (rp_2 hq9_1)) (fun mq16_2 q16_2 hq16_2 => ?_)
    refine rz_tst (veq_s hx hq16_2 rl_0) ?_ ?_
    · refine rz_bnd (P := (rp (rv x) (rm x))) (sL_text hx (rp_2 hq9_1) rl_97 rl_46 rl_46 rl_46 rl_46 rl_46 rl_46 rl_46) (fun mq39_3 q39_3 hq39_3 => ?_)
      refine rz_tst (veq_s hx (rp_1 hq39_3) rl_0) ?_ ?_
      · exact (sL_globs_155 hx (rp_2 hq39_3))
      · refine rz_bnd (P := (rv x)) (sL_kind hx (rp_2 hq39_3)) (fun mq46_4 q46_4 hq46_4 => ?_)
        refine rz_tst (veq_s hx hq46_4 rl_3) ?_ ?_
        · refine rz_bnd (P := (rp (rv x) (rm x))) (sL_text hx (rp_2 hq39_3) rl_97 rl_47 rl_46 rl_46 rl_46 rl_46 rl_46 rl_46) (fun mq70_5 q70_5 hq70_5 => ?_)
          refine rz_tst (veq_s hx (rp_1 hq70_5) rl_0) ?_ ?_
          · exact (sL_globs_155 hx (rp_2 hq70_5))
          · refine rz_bnd (P := (rv x)) (sL_kind hx (rp_2 hq70_5)) (fun mq77_6 q77_6 hq77_6 => ?_)
            refine rz_tst (veq_s hx hq77_6 rl_0) ?_ ?_
            · refine rz_bnd (P := (rp (rv x) (rm x))) (sL_act hx (rp_2 hq70_5) rl_1 rl_5 rl_0) (fun mq87_7 q87_7 hq87_7 => ?_)
              refine rz_tst (veq_s hx (rp_1 hq87_7) rl_m32) ?_ ?_
              · refine rz_bnd (P := (rp (rv x) (rm x))) (sL_text hx (rp_2 hq87_7) rl_47 rl_97 rl_46 rl_46 rl_46 rl_46 rl_46 rl_46) (fun mq112_8 q112_8 hq112_8 => ?_)
                refine rz_tst (veq_s hx (rp_1 hq112_8) rl_0) ?_ ?_
                · exact (sL_globs_155 hx (rp_2 hq112_8))
                · refine rz_bnd (P := (rv x)) (sL_kind hx (rp_2 hq112_8)) (fun mq119_9 q119_9 hq119_9 => ?_)
                  refine rz_tst (veq_s hx hq119_9 rl_0) ?_ ?_
                  · refine rz_bnd (P := (rp (rv x) (rm x))) (sL_text hx (rp_2 hq112_8) rl_97 rl_47 rl_47 rl_98 rl_46 rl_46 rl_46 rl_46) (fun mq142_10 q142_10 hq142_10 => ?_)
                    refine rz_tst (veq_s hx (rp_1 hq142_10) rl_0) ?_ ?_
                    · exact (sL_globs_155 hx (rp_2 hq142_10))
                    · refine rz_bnd (P := (rv x)) (sL_kind hx (rp_2 hq142_10)) (fun mq149_11 q149_11 hq149_11 => ?_)
                      refine rz_tst (veq_s hx hq149_11 rl_0) ?_ ?_
                      · exact (sL_globs_157 hx (rp_2 hq142_10))
                      · exact (sL_globs_155 hx (rp_2 hq142_10))
                  · exact (sL_globs_155 hx (rp_2 hq112_8))
              · exact (sL_globs_155 hx (rp_2 hq87_7))
            · exact (sL_globs_155 hx (rp_2 hq70_5))
        · exact (sL_globs_155 hx (rp_2 hq39_3))
    · exact (sL_globs_155 hx (rp_2 hq9_1))
  · exact (sL_globs_155 hx (rp_2 hq9_1))
noncomputable def hL_globs  : Option RT := (bdM (gX7_clearText R0) fun mq9_1 => (tst (veq mq9_1.1 0) (bdM (gL_kind mq9_1.2) fun mq16_2 => (tst (veq mq16_2 0) (bdM (gL_text mq9_1.2 97 46 46 46 46 46 46 46) fun mq39_3 => (tst (veq mq39_3.1 0) none (bdM (gL_kind mq39_3.2) fun mq46_4 => (tst (veq mq46_4 3) (bdM (gL_text mq39_3.2 97 47 46 46 46 46 46 46) fun mq70_5 => (tst (veq mq70_5.1 0) none (bdM (gL_kind mq70_5.2) fun mq77_6 => (tst (veq mq77_6 0) (bdM (gL_act mq70_5.2 1 5 0) fun mq87_7 => (tst (veq mq87_7.1 4294967264) (bdM (gL_text mq87_7.2 47 97 46 46 46 46 46 46) fun mq112_8 => (tst (veq mq112_8.1 0) none (bdM (gL_kind mq112_8.2) fun mq119_9 => (tst (veq mq119_9 0) (bdM (gL_text mq112_8.2 97 47 47 98 46 46 46 46) fun mq142_10 => (tst (veq mq142_10.1 0) none (bdM (gL_kind mq142_10.2) fun mq149_11 => (tst (veq mq149_11 0) (some mq142_10.2) none)))) none)))) none)) none)))) none)))) none)) none))
theorem tL_globs {x : Nat} (hx : x < 1000)  : RZ (Zex x (fun C => fL_globs_157 C)) (hL_globs) (fL_globs) := by
  unfold hL_globs fL_globs
  refine rz_bnd (P := (rp (rv x) (rm x))) (sX7_clearText hx R0_s) (fun mq9_1 q9_1 hq9_1 => ?_)
  refine rz_tst (veq_s hx (rp_1 hq9_1) rl_0) ?_ ?_
  · refine rz_bnd (P := (rv x)) (sL_kind hx (rp_2 hq9_1)) (fun mq16_2 q16_2 hq16_2 => ?_)
    refine rz_tst (veq_s hx hq16_2 rl_0) ?_ ?_
    · refine rz_bnd (P := (rp (rv x) (rm x))) (sL_text hx (rp_2 hq9_1) rl_97 rl_46 rl_46 rl_46 rl_46 rl_46 rl_46 rl_46) (fun mq39_3 q39_3 hq39_3 => ?_)
      refine rz_tst (veq_s hx (rp_1 hq39_3) rl_0) ?_ ?_
      · exact rz_none
      · refine rz_bnd (P := (rv x)) (sL_kind hx (rp_2 hq39_3)) (fun mq46_4 q46_4 hq46_4 => ?_)
        refine rz_tst (veq_s hx hq46_4 rl_3) ?_ ?_
        · refine rz_bnd (P := (rp (rv x) (rm x))) (sL_text hx (rp_2 hq39_3) rl_97 rl_47 rl_46 rl_46 rl_46 rl_46 rl_46 rl_46) (fun mq70_5 q70_5 hq70_5 => ?_)
          refine rz_tst (veq_s hx (rp_1 hq70_5) rl_0) ?_ ?_
          · exact rz_none
          · refine rz_bnd (P := (rv x)) (sL_kind hx (rp_2 hq70_5)) (fun mq77_6 q77_6 hq77_6 => ?_)
            refine rz_tst (veq_s hx hq77_6 rl_0) ?_ ?_
            · refine rz_bnd (P := (rp (rv x) (rm x))) (sL_act hx (rp_2 hq70_5) rl_1 rl_5 rl_0) (fun mq87_7 q87_7 hq87_7 => ?_)
              refine rz_tst (veq_s hx (rp_1 hq87_7) rl_m32) ?_ ?_
              · refine rz_bnd (P := (rp (rv x) (rm x))) (sL_text hx (rp_2 hq87_7) rl_47 rl_97 rl_46 rl_46 rl_46 rl_46 rl_46 rl_46) (fun mq112_8 q112_8 hq112_8 => ?_)
                refine rz_tst (veq_s hx (rp_1 hq112_8) rl_0) ?_ ?_
                · exact rz_none
                · refine rz_bnd (P := (rv x)) (sL_kind hx (rp_2 hq112_8)) (fun mq119_9 q119_9 hq119_9 => ?_)
                  refine rz_tst (veq_s hx hq119_9 rl_0) ?_ ?_
                  · refine rz_bnd (P := (rp (rv x) (rm x))) (sL_text hx (rp_2 hq112_8) rl_97 rl_47 rl_47 rl_98 rl_46 rl_46 rl_46 rl_46) (fun mq142_10 q142_10 hq142_10 => ?_)
                    refine rz_tst (veq_s hx (rp_1 hq142_10) rl_0) ?_ ?_
                    · exact rz_none
                    · refine rz_bnd (P := (rv x)) (sL_kind hx (rp_2 hq142_10)) (fun mq149_11 q149_11 hq149_11 => ?_)
                      refine rz_tst (veq_s hx hq149_11 rl_0) ?_ ?_
                      · exact rz_out (rp_2 hq142_10)
                      · exact rz_none
                  · exact rz_none
              · exact rz_none
            · exact rz_none
        · exact rz_none
    · exact rz_none
  · exact rz_none
