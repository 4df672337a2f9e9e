noncomputable def gX7_type (mC : RT) (ma1 : Nat) : Option ((Nat ⊕ Nat) × RT) := (tst (veq (gX7_isSign ma1) 0) (some ((.inr 1), mC)) (tst (veq (gX6_isFull mC 1) 0) (bdM (gX6_append mC 1 ma1) fun mq42_1 => (some ((.inl (gX6_size mq42_1 1)), mq42_1))) (some ((.inr 2), mC))))
theorem sX7_type {x : Nat} (hx : x < 1000) {mC : RT} {C : Mem} (hC : (rm x) mC C) {ma1 : Nat} {a1 : Int32} (ha1 : (rv x) ma1 a1) : RZ (RO (rp (rs (rv x) (@Eq Nat)) (rm x))) (gX7_type mC ma1) (fX7_type C a1) := by
  unfold gX7_type fX7_type
  refine rz_tst (veq_s hx (sX7_isSign hx ha1) rl_0) ?_ ?_
  · exact rz_some (rp_m (rs_r (Eq.refl _)) hC)
  · refine rz_tst (veq_s hx (sX6_isFull hx hC) rl_0) ?_ ?_
    · refine rz_bnd (P := (rm x)) (sX6_append hx hC ha1) (fun mq42_1 q42_1 hq42_1 => ?_)
      exact rz_some (rp_m (rs_l (sX6_size hx hq42_1)) hq42_1)
    · exact rz_some (rp_m (rs_r (Eq.refl _)) hC)
noncomputable def gX7_requireContent_11  : Option (Nat ⊕ Nat) := (some (.inr 1))
theorem sX7_requireContent_11 {x : Nat} (hx : x < 1000)  : RZ (RO (rs (rv x) (@Eq Nat))) (gX7_requireContent_11) (fX7_requireContent_11) := by
  unfold gX7_requireContent_11 fX7_requireContent_11
  exact rz_some (rs_r (Eq.refl _))
noncomputable def gX7_requireContent (ma1 : Nat) : Option (Nat ⊕ Nat) := (tst (vlt ma1 0) gX7_requireContent_11 (tst (vnot (vlt 9999 ma1)) (some (.inl 0)) gX7_requireContent_11))
theorem sX7_requireContent {x : Nat} (hx : x < 1000) {ma1 : Nat} {a1 : Int32} (ha1 : (rv x) ma1 a1) : RZ (RO (rs (rv x) (@Eq Nat))) (gX7_requireContent ma1) (fX7_requireContent a1) := by
  unfold gX7_requireContent fX7_requireContent
  refine rz_tst (vlt_s hx ha1 rl_0) ?_ ?_
  · exact (sX7_requireContent_11 hx)
  · refine rz_tst (vle_s hx ha1 rl_9999) ?_ ?_
    · exact rz_some (rs_l rl_0)
    · exact (sX7_requireContent_11 hx)
noncomputable def gX7_addFile_93 (ma1 : Nat) (mC_93 : RT) (mx2_93 : Nat) : Option ((Nat ⊕ Nat) × RT) := (bdM (gX0_put mC_93 mx2_93 ma1) fun mq99_1 => (some ((.inl mx2_93), mq99_1)))
theorem sX7_addFile_93 {x : Nat} (hx : x < 1000) {ma1 : Nat} {a1 : Int32} (ha1 : (rv x) ma1 a1) {mC_93 : RT} {C_93 : Mem} (hC_93 : (rm x) mC_93 C_93) {mx2_93 : Nat} {x2_93 : Int32} (hx2_93 : (rv x) mx2_93 x2_93) : RZ (RO (rp (rs (rv x) (@Eq Nat)) (rm x))) (gX7_addFile_93 ma1 mC_93 mx2_93) (fX7_addFile_93 a1 C_93 x2_93) := by
  unfold gX7_addFile_93 fX7_addFile_93
  refine rz_bnd (P := (rm x)) (sX0_put hx hC_93 hx2_93 ha1) (fun mq99_1 q99_1 hq99_1 => ?_)
  exact rz_some (rp_m (rs_l hx2_93) hq99_1)
noncomputable def gX7_addFile_83 (mC : RT) (ma1 : Nat) (mq33 : Nat) : Option ((Nat ⊕ Nat) × RT) := (tst (veq mq33 4294967295) (bdM (gX7_numberNewPath mC) fun mq89_1 => (gX7_addFile_93 ma1 mq89_1.2 mq89_1.1)) (gX7_addFile_93 ma1 mC mq33))
theorem sX7_addFile_83 {x : Nat} (hx : x < 1000) {mC : RT} {C : Mem} (hC : (rm x) mC C) {ma1 : Nat} {a1 : Int32} (ha1 : (rv x) ma1 a1) {mq33 : Nat} {q33 : Int32} (hq33 : (rv x) mq33 q33) : RZ (RO (rp (rs (rv x) (@Eq Nat)) (rm x))) (gX7_addFile_83 mC ma1 mq33) (fX7_addFile_83 C a1 q33) := by
  unfold gX7_addFile_83 fX7_addFile_83
  refine rz_tst (veq_s hx hq33 rl_m1) ?_ ?_
  · refine rz_bnd (P := (rp (rv x) (rm x))) (sX7_numberNewPath hx hC) (fun mq89_1 q89_1 hq89_1 => ?_)
    exact (sX7_addFile_93 hx ha1 (rp_2 hq89_1) (rp_1 hq89_1))
  · exact (sX7_addFile_93 hx ha1 hC hq33)
noncomputable def gX7_addFile (mC : RT) (ma1 : Nat) : Option ((Nat ⊕ Nat) × RT) := (bdM (gX7_requireContent ma1) fun mq2_1 => (swM mq2_1 (fun mu_2 => (bdM (gX6_hasPathForm mC 1) fun mq9_3 => (tst (veq mq9_3 0) (some ((.inr 1), mC)) (bdM (gX0_numberOf mC 1) fun mq33_4 => (tst (veq (gX0_isThere mC mq33_4) 0) (tst (veq mq33_4 4294967295) (tst (veq (gX0_isFull mC) 0) (gX7_addFile_83 mC ma1 mq33_4) (some ((.inr 2), mC))) (gX7_addFile_83 mC ma1 mq33_4)) (some ((.inr 2), mC))))))) (fun k_5 => (some ((.inr k_5), mC)))))
theorem sX7_addFile {x : Nat} (hx : x < 1000) {mC : RT} {C : Mem} (hC : (rm x) mC C) {ma1 : Nat} {a1 : Int32} (ha1 : (rv x) ma1 a1) : RZ (RO (rp (rs (rv x) (@Eq Nat)) (rm x))) (gX7_addFile mC ma1) (fX7_addFile C a1) := by
  unfold gX7_addFile fX7_addFile
  refine rz_bnd (P := (rs (rv x) (@Eq Nat))) (sX7_requireContent hx ha1) (fun mq2_1 q2_1 hq2_1 => ?_)
  refine rz_sw (x := x) hq2_1 (fun mu_2 u_2 hu_2 => ?_) (fun k_5 => ?_)
  · refine rz_bnd (P := (rv x)) (sX6_hasPathForm hx hC) (fun mq9_3 q9_3 hq9_3 => ?_)
    refine rz_tst (veq_s hx hq9_3 rl_0) ?_ ?_
    · exact rz_some (rp_m (rs_r (Eq.refl _)) hC)
    · refine rz_bnd (P := (rv x)) (sX0_numberOf hx hC) (fun mq33_4 q33_4 hq33_4 => ?_)
      refine rz_tst (veq_s hx (sX0_isThere hx hC hq33_4) rl_0) ?_ ?_
      · refine rz_tst (veq_s hx hq33_4 rl_m1) ?_ ?_
        · refine rz_tst (veq_s hx (sX0_isFull hx hC) rl_0) ?_ ?_
          · exact (sX7_addFile_83 hx hC ha1 hq33_4)
          · exact rz_some (rp_m (rs_r (Eq.refl _)) hC)
        · exact (sX7_addFile_83 hx hC ha1 hq33_4)
      · exact rz_some (rp_m (rs_r (Eq.refl _)) hC)
  · exact rz_some (rp_m (rs_r (Eq.refl _)) hC)
noncomputable def gX7_requireFileThere (mC : RT) (ma1 : Nat) : Option (Nat ⊕ Nat) := (tst (veq (gX0_isThere mC ma1) 0) (some (.inr 3)) (some (.inl 0)))
theorem sX7_requireFileThere {x : Nat} (hx : x < 1000) {mC : RT} {C : Mem} (hC : (rm x) mC C) {ma1 : Nat} {a1 : Int32} (ha1 : (rv x) ma1 a1) : RZ (RO (rs (rv x) (@Eq Nat))) (gX7_requireFileThere mC ma1) (fX7_requireFileThere C a1) := by
  unfold gX7_requireFileThere fX7_requireFileThere
  refine rz_tst (veq_s hx (sX0_isThere hx hC ha1) rl_0) ?_ ?_
  · exact rz_some (rs_r (Eq.refl _))
  · exact rz_some (rs_l rl_0)
noncomputable def gX7_edit (mC : RT) (ma1 : Nat) (ma2 : Nat) : Option ((Nat ⊕ Nat) × RT) := (bdM (gX7_requireFileThere mC ma1) fun mq2_1 => (swM mq2_1 (fun mu_2 => (bdM (gX7_requireContent ma2) fun mq7_3 => (swM mq7_3 (fun mu_4 => (bdM (gX0_contentOf mC ma1) fun mq15_5 => (bdM (gX0_put mC ma1 ma2) fun mq25_6 => (some ((.inl mq15_5), mq25_6))))) (fun k_7 => (some ((.inr k_7), mC)))))) (fun k_8 => (some ((.inr k_8), mC)))))
theorem sX7_edit {x : Nat} (hx : x < 1000) {mC : RT} {C : Mem} (hC : (rm x) mC C) {ma1 : Nat} {a1 : Int32} (ha1 : (rv x) ma1 a1) {ma2 : Nat} {a2 : Int32} (ha2 : (rv x) ma2 a2) : RZ (RO (rp (rs (rv x) (@Eq Nat)) (rm x))) (gX7_edit mC ma1 ma2) (fX7_edit C a1 a2) := by
  unfold gX7_edit fX7_edit
  refine rz_bnd (P := (rs (rv x) (@Eq Nat))) (sX7_requireFileThere hx hC ha1) (fun mq2_1 q2_1 hq2_1 => ?_)
  refine rz_sw (x := x) hq2_1 (fun mu_2 u_2 hu_2 => ?_) (fun k_8 => ?_)
  · refine rz_bnd (P := (rs (rv x) (@Eq Nat))) (sX7_requireContent hx ha2) (fun mq7_3 q7_3 hq7_3 => ?_)
    refine rz_sw (x := x) hq7_3 (fun mu_4 u_4 hu_4 => ?_) (fun k_7 => ?_)
    · refine rz_bnd (P := (rv x)) (sX0_contentOf hx hC ha1) (fun mq15_5 q15_5 hq15_5 => ?_)
      refine rz_bnd (P := (rm x)) (sX0_put hx hC ha1 ha2) (fun mq25_6 q25_6 hq25_6 => ?_)
      exact rz_some (rp_m (rs_l hq15_5) hq25_6)
    · exact rz_some (rp_m (rs_r (Eq.refl _)) hC)
  · exact rz_some (rp_m (rs_r (Eq.refl _)) hC)
noncomputable def gX7_delete (mC : RT) (ma1 : Nat) : Option ((Nat ⊕ Nat) × RT) := (bdM (gX7_requireFileThere mC ma1) fun mq2_1 => (swM mq2_1 (fun mu_2 => (bdM (gX0_remove mC ma1) fun mq10_3 => (bdM (gX0_contentOf mq10_3 ma1) fun mq18_4 => (some ((.inl mq18_4), mq10_3))))) (fun k_5 => (some ((.inr k_5), mC)))))
theorem sX7_delete {x : Nat} (hx : x < 1000) {mC : RT} {C : Mem} (hC : (rm x) mC C) {ma1 : Nat} {a1 : Int32} (ha1 : (rv x) ma1 a1) : RZ (RO (rp (rs (rv x) (@Eq Nat)) (rm x))) (gX7_delete mC ma1) (fX7_delete C a1) := by
  unfold gX7_delete fX7_delete
  refine rz_bnd (P := (rs (rv x) (@Eq Nat))) (sX7_requireFileThere hx hC ha1) (fun mq2_1 q2_1 hq2_1 => ?_)
  refine rz_sw (x := x) hq2_1 (fun mu_2 u_2 hu_2 => ?_) (fun k_5 => ?_)
  · refine rz_bnd (P := (rm x)) (sX0_remove hx hC ha1) (fun mq10_3 q10_3 hq10_3 => ?_)
    refine rz_bnd (P := (rv x)) (sX0_contentOf hx hq10_3 ha1) (fun mq18_4 q18_4 hq18_4 => ?_)
    exact rz_some (rp_m (rs_l hq18_4) hq10_3)
  · exact rz_some (rp_m (rs_r (Eq.refl _)) hC)
noncomputable def gX7_requireFile (mC : RT) (ma1 : Nat) : Option (Nat ⊕ Nat) := (tst (veq (gX0_has mC ma1) 0) (some (.inr 3)) (some (.inl 0)))
theorem sX7_requireFile {x : Nat} (hx : x < 1000) {mC : RT} {C : Mem} (hC : (rm x) mC C) {ma1 : Nat} {a1 : Int32} (ha1 : (rv x) ma1 a1) : RZ (RO (rs (rv x) (@Eq Nat))) (gX7_requireFile mC ma1) (fX7_requireFile C a1) := by
  unfold gX7_requireFile fX7_requireFile
  refine rz_tst (veq_s hx (sX0_has hx hC ha1) rl_0) ?_ ?_
  · exact rz_some (rs_r (Eq.refl _))
  · exact rz_some (rs_l rl_0)
noncomputable def gX7_matches (mC : RT) (ma1 : Nat) : Option (Nat ⊕ Nat) := (bdM (gX7_requireFile mC ma1) fun mq2_1 => (swM mq2_1 (fun mu_2 => (bdM (gX6_hasGlobForm mC 1) fun mq9_3 => (tst (veq mq9_3 0) (some (.inr 2)) (bdM (gX0_pathOf mC ma1) fun mq34_4 => (bdM (gX6_covers mC 1 mq34_4) fun mq37_5 => (ckM (vbo mq37_5) (some (.inl mq37_5)))))))) (fun k_6 => (some (.inr k_6)))))
theorem sX7_matches {x : Nat} (hx : x < 1000) {mC : RT} {C : Mem} (hC : (rm x) mC C) {ma1 : Nat} {a1 : Int32} (ha1 : (rv x) ma1 a1) : RZ (RO (rs (rv x) (@Eq Nat))) (gX7_matches mC ma1) (fX7_matches C a1) := by
  unfold gX7_matches fX7_matches
  refine rz_bnd (P := (rs (rv x) (@Eq Nat))) (sX7_requireFile hx hC ha1) (fun mq2_1 q2_1 hq2_1 => ?_)
  refine rz_sw (x := x) hq2_1 (fun mu_2 u_2 hu_2 => ?_) (fun k_6 => ?_)
  · refine rz_bnd (P := (rv x)) (sX6_hasGlobForm hx hC) (fun mq9_3 q9_3 hq9_3 => ?_)
    refine rz_tst (veq_s hx hq9_3 rl_0) ?_ ?_
    · exact rz_some (rs_r (Eq.refl _))
    · refine rz_bnd (P := @Eq Nat) (sX0_pathOf hx hC ha1) (fun mq34_4 q34_4 hq34_4 => ?_)
      subst hq34_4
      refine rz_bnd (P := (rv x)) (sX6_covers hx hC) (fun mq37_5 q37_5 hq37_5 => ?_)
      refine rz_ck (vbo_s (x := x) hq37_5) ?_
      exact rz_some (rs_l hq37_5)
  · exact rz_some (rs_r (Eq.refl _))
noncomputable def gX7_addTarget_12 (mC : RT) : Option ((Nat ⊕ Nat) × RT) := (some ((.inr 1), mC))
theorem sX7_addTarget_12 {x : Nat} (hx : x < 1000) {mC : RT} {C : Mem} (hC : (rm x) mC C) : RZ (RO (rp (rs (rv x) (@Eq Nat)) (rm x))) (gX7_addTarget_12 mC) (fX7_addTarget_12 C) := by
  unfold gX7_addTarget_12 fX7_addTarget_12
  exact rz_some (rp_m (rs_r (Eq.refl _)) hC)
noncomputable def gX7_addTarget (mC : RT) (ma1 : Nat) : Option ((Nat ⊕ Nat) × RT) := (tst (vlt ma1 1) (gX7_addTarget_12 mC) (tst (vnot (vlt 1000 ma1)) (tst (veq (gX2_isFull mC) 0) (bdM (gX2_add mC ma1) fun mq47_1 => (some ((.inl mq47_1.1), mq47_1.2))) (some ((.inr 2), mC))) (gX7_addTarget_12 mC)))
theorem sX7_addTarget {x : Nat} (hx : x < 1000) {mC : RT} {C : Mem} (hC : (rm x) mC C) {ma1 : Nat} {a1 : Int32} (ha1 : (rv x) ma1 a1) : RZ (RO (rp (rs (rv x) (@Eq Nat)) (rm x))) (gX7_addTarget mC ma1) (fX7_addTarget C a1) := by
  unfold gX7_addTarget fX7_addTarget
  refine rz_tst (vlt_s hx ha1 rl_1) ?_ ?_
  · exact (sX7_addTarget_12 hx hC)
  · refine rz_tst (vle_s hx ha1 rl_1000) ?_ ?_
    · refine rz_tst (veq_s hx (sX2_isFull hx hC) rl_0) ?_ ?_
      · refine rz_bnd (P := (rp (rv x) (rm x))) (sX2_add hx hC ha1) (fun mq47_1 q47_1 hq47_1 => ?_)
        exact rz_some (rp_m (rs_l (rp_1 hq47_1)) (rp_2 hq47_1))
      · exact rz_some (rp_m (rs_r (Eq.refl _)) hC)
    · exact (sX7_addTarget_12 hx hC)
noncomputable def gX7_requireTarget (mC : RT) (ma1 : Nat) : Option (Nat ⊕ Nat) := (tst (veq (gX2_has mC ma1) 0) (some (.inr 3)) (some (.inl 0)))
theorem sX7_requireTarget {x : Nat} (hx : x < 1000) {mC : RT} {C : Mem} (hC : (rm x) mC C) {ma1 : Nat} {a1 : Int32} (ha1 : (rv x) ma1 a1) : RZ (RO (rs (rv x) (@Eq Nat))) (gX7_requireTarget mC ma1) (fX7_requireTarget C a1) := by
  unfold gX7_requireTarget fX7_requireTarget
  refine rz_tst (veq_s hx (sX2_has hx hC ha1) rl_0) ?_ ?_
  · exact rz_some (rs_r (Eq.refl _))
  · exact rz_some (rs_l rl_0)
noncomputable def gX7_requireGlob (mC : RT) : Option (Nat ⊕ Nat) := (bdM (gX6_hasGlobForm mC 1) fun mq4_1 => (tst (veq mq4_1 0) (some (.inr 1)) (some (.inl 0))))
theorem sX7_requireGlob {x : Nat} (hx : x < 1000) {mC : RT} {C : Mem} (hC : (rm x) mC C) : RZ (RO (rs (rv x) (@Eq Nat))) (gX7_requireGlob mC) (fX7_requireGlob C) := by
  unfold gX7_requireGlob fX7_requireGlob
  refine rz_bnd (P := (rv x)) (sX6_hasGlobForm hx hC) (fun mq4_1 q4_1 hq4_1 => ?_)
  refine rz_tst (veq_s hx hq4_1 rl_0) ?_ ?_
  · exact rz_some (rs_r (Eq.refl _))
  · exact rz_some (rs_l rl_0)
noncomputable def gX7_addGlob (mC : RT) (ma1 : Nat) : Option ((Nat ⊕ Nat) × RT) := (bdM (gX7_requireTarget mC ma1) fun mq2_1 => (swM mq2_1 (fun mu_2 => (bdM (gX7_requireGlob mC) fun mq6_3 => (swM mq6_3 (fun mu_4 => (bdM (gX2_globsOf mC ma1) fun mq14_5 => (tst (veq (gX1_isFull mC mq14_5) 0) (bdM (gX0_coveredBy mC 1) fun mq48_6 => (bdM (gX1_add mC mq14_5 1 mq48_6) fun mq51_7 => (bdM (gX1_covered mq51_7 mq14_5) fun mq55_8 => (some ((.inl (gJ6_bitCount_0f7a4 (vand mq55_8 (gX0_present mq51_7)))), mq51_7))))) (some ((.inr 2), mC))))) (fun k_9 => (some ((.inr k_9), mC)))))) (fun k_10 => (some ((.inr k_10), mC)))))
theorem sX7_addGlob {x : Nat} (hx : x < 1000) {mC : RT} {C : Mem} (hC : (rm x) mC C) {ma1 : Nat} {a1 : Int32} (ha1 : (rv x) ma1 a1) : RZ (RO (rp (rs (rv x) (@Eq Nat)) (rm x))) (gX7_addGlob mC ma1) (fX7_addGlob C a1) := by
  unfold gX7_addGlob fX7_addGlob
  refine rz_bnd (P := (rs (rv x) (@Eq Nat))) (sX7_requireTarget hx hC ha1) (fun mq2_1 q2_1 hq2_1 => ?_)
  refine rz_sw (x := x) hq2_1 (fun mu_2 u_2 hu_2 => ?_) (fun k_10 => ?_)
  · refine rz_bnd (P := (rs (rv x) (@Eq Nat))) (sX7_requireGlob hx hC) (fun mq6_3 q6_3 hq6_3 => ?_)
    refine rz_sw (x := x) hq6_3 (fun mu_4 u_4 hu_4 => ?_) (fun k_9 => ?_)
    · refine rz_bnd (P := @Eq Nat) (sX2_globsOf hx hC ha1) (fun mq14_5 q14_5 hq14_5 => ?_)
      subst hq14_5
      refine rz_tst (veq_s hx (sX1_isFull hx hC) rl_0) ?_ ?_
      · refine rz_bnd (P := (rv x)) (sX0_coveredBy hx hC) (fun mq48_6 q48_6 hq48_6 => ?_)
        refine rz_bnd (P := (rm x)) (sX1_add hx hC hq48_6) (fun mq51_7 q51_7 hq51_7 => ?_)
        refine rz_bnd (P := (rv x)) (sX1_covered hx hq51_7) (fun mq55_8 q55_8 hq55_8 => ?_)
        exact rz_some (rp_m (rs_l (sJ6_bitCount_0f7a4 hx (vand_s hq55_8 (sX0_present hx hq51_7)))) hq51_7)
      · exact rz_some (rp_m (rs_r (Eq.refl _)) hC)
    · exact rz_some (rp_m (rs_r (Eq.refl _)) hC)
  · exact rz_some (rp_m (rs_r (Eq.refl _)) hC)
noncomputable def gX7_depend (mC : RT) (ma1 : Nat) (ma2 : Nat) : Option ((Nat ⊕ Nat) × RT) := (bdM (gX7_requireTarget mC ma1) fun mq2_1 => (swM mq2_1 (fun mu_2 => (bdM (gX7_requireTarget mC ma2) fun mq7_3 => (swM mq7_3 (fun mu_4 => (bdM (gX2_dependenciesOf mC ma1) fun mq15_5 => (tst (veq (gX7_holds mq15_5 ma2) 0) (bdM (gX2_upFrom mC (vshl 1 ma1)) fun mq42_6 => (tst (veq (gX7_holds mq42_6 ma2) 0) (bdM (gX2_addDependency mC ma1 ma2) fun mq68_7 => (bdM (gX2_dependenciesOf mq68_7 ma1) fun mq76_8 => (some ((.inl (gJ6_bitCount_0f7a4 mq76_8)), mq68_7)))) (some ((.inr 2), mC)))) (some ((.inr 2), mC))))) (fun k_9 => (some ((.inr k_9), mC)))))) (fun k_10 => (some ((.inr k_10), mC)))))
theorem sX7_depend {x : Nat} (hx : x < 1000) {mC : RT} {C : Mem} (hC : (rm x) mC C) {ma1 : Nat} {a1 : Int32} (ha1 : (rv x) ma1 a1) {ma2 : Nat} {a2 : Int32} (ha2 : (rv x) ma2 a2) : RZ (RO (rp (rs (rv x) (@Eq Nat)) (rm x))) (gX7_depend mC ma1 ma2) (fX7_depend C a1 a2) := by
  unfold gX7_depend fX7_depend
  refine rz_bnd (P := (rs (rv x) (@Eq Nat))) (sX7_requireTarget hx hC ha1) (fun mq2_1 q2_1 hq2_1 => ?_)
  refine rz_sw (x := x) hq2_1 (fun mu_2 u_2 hu_2 => ?_) (fun k_10 => ?_)
  · refine rz_bnd (P := (rs (rv x) (@Eq Nat))) (sX7_requireTarget hx hC ha2) (fun mq7_3 q7_3 hq7_3 => ?_)
    refine rz_sw (x := x) hq7_3 (fun mu_4 u_4 hu_4 => ?_) (fun k_9 => ?_)
    · refine rz_bnd (P := (rv x)) (sX2_dependenciesOf hx hC ha1) (fun mq15_5 q15_5 hq15_5 => ?_)
      refine rz_tst (veq_s hx (sX7_holds hx hq15_5 ha2) rl_0) ?_ ?_
      · refine rz_bnd (P := (rv x)) (sX2_upFrom hx hC (vshl_s rl_1 ha1)) (fun mq42_6 q42_6 hq42_6 => ?_)
        refine rz_tst (veq_s hx (sX7_holds hx hq42_6 ha2) rl_0) ?_ ?_
        · refine rz_bnd (P := (rm x)) (sX2_addDependency hx hC ha1 ha2) (fun mq68_7 q68_7 hq68_7 => ?_)
          refine rz_bnd (P := (rv x)) (sX2_dependenciesOf hx hq68_7 ha1) (fun mq76_8 q76_8 hq76_8 => ?_)
          exact rz_some (rp_m (rs_l (sJ6_bitCount_0f7a4 hx hq76_8)) hq68_7)
        · exact rz_some (rp_m (rs_r (Eq.refl _)) hC)
      · exact rz_some (rp_m (rs_r (Eq.refl _)) hC)
    · exact rz_some (rp_m (rs_r (Eq.refl _)) hC)
  · exact rz_some (rp_m (rs_r (Eq.refl _)) hC)
noncomputable def gX7_inputs (mC : RT) (ma1 : Nat) : Option (Nat ⊕ Nat) := (bdM (gX7_requireTarget mC ma1) fun mq2_1 => (swM mq2_1 (fun mu_2 => (bdM (gX2_globsOf mC ma1) fun mq10_3 => (bdM (gX1_covered mC mq10_3) fun mq13_4 => (some (.inl (vand mq13_4 (gX0_present mC))))))) (fun k_5 => (some (.inr k_5)))))
theorem sX7_inputs {x : Nat} (hx : x < 1000) {mC : RT} {C : Mem} (hC : (rm x) mC C) {ma1 : Nat} {a1 : Int32} (ha1 : (rv x) ma1 a1) : RZ (RO (rs (rv x) (@Eq Nat))) (gX7_inputs mC ma1) (fX7_inputs C a1) := by
  unfold gX7_inputs fX7_inputs
  refine rz_bnd (P := (rs (rv x) (@Eq Nat))) (sX7_requireTarget hx hC ha1) (fun mq2_1 q2_1 hq2_1 => ?_)
  refine rz_sw (x := x) hq2_1 (fun mu_2 u_2 hu_2 => ?_) (fun k_5 => ?_)
  · refine rz_bnd (P := @Eq Nat) (sX2_globsOf hx hC ha1) (fun mq10_3 q10_3 hq10_3 => ?_)
    subst hq10_3
    refine rz_bnd (P := (rv x)) (sX1_covered hx hC) (fun mq13_4 q13_4 hq13_4 => ?_)
    exact rz_some (rs_l (vand_s hq13_4 (sX0_present hx hC)))
  · exact rz_some (rs_r (Eq.refl _))
noncomputable def gX7_above (mC : RT) (ma1 : Nat) : Option (Nat ⊕ Nat) := (bdM (gX7_requireTarget mC ma1) fun mq2_1 => (swM mq2_1 (fun mu_2 => (nmM (vshl 1 ma1) fun mv8_3 => (bdM (gX2_upFrom mC mv8_3) fun mq14_4 => (some (.inl (vand mq14_4 (vxor mv8_3 4294967295))))))) (fun k_5 => (some (.inr k_5)))))
theorem sX7_above {x : Nat} (hx : x < 1000) {mC : RT} {C : Mem} (hC : (rm x) mC C) {ma1 : Nat} {a1 : Int32} (ha1 : (rv x) ma1 a1) : RZ (RO (rs (rv x) (@Eq Nat))) (gX7_above mC ma1) (fX7_above C a1) := by
  unfold gX7_above fX7_above
  refine rz_bnd (P := (rs (rv x) (@Eq Nat))) (sX7_requireTarget hx hC ha1) (fun mq2_1 q2_1 hq2_1 => ?_)
  refine rz_sw (x := x) hq2_1 (fun mu_2 u_2 hu_2 => ?_) (fun k_5 => ?_)
  · refine rz_nm (x := x) (vshl_s rl_1 ha1) (fun mv8_3 v8_3 hv8_3 => ?_)
    refine rz_bnd (P := (rv x)) (sX2_upFrom hx hC hv8_3) (fun mq14_4 q14_4 hq14_4 => ?_)
    exact rz_some (rs_l (vand_s hq14_4 (vxor_s hv8_3 rl_m1)))
  · exact rz_some (rs_r (Eq.refl _))
noncomputable def gX7_orderAt_15 (mC : RT) : Option ((Nat ⊕ Nat) × RT) := (some ((.inr 3), mC))
theorem sX7_orderAt_15 {x : Nat} (hx : x < 1000) {mC : RT} {C : Mem} (hC : (rm x) mC C) : RZ (RO (rp (rs (rv x) (@Eq Nat)) (rm x))) (gX7_orderAt_15 mC) (fX7_orderAt_15 C) := by
  unfold gX7_orderAt_15 fX7_orderAt_15
  exact rz_some (rp_m (rs_r (Eq.refl _)) hC)
noncomputable def gX7_orderAt (mC : RT) (ma1 : Nat) : Option ((Nat ⊕ Nat) × RT) := (tst (vlt ma1 0) (gX7_orderAt_15 mC) (tst (vlt ma1 (gX2_size mC)) (bdM (gX2_makeOrder mC) fun mq29_1 => (bdM (gX2_atPlace mq29_1 ma1) fun mq37_2 => (some ((.inl mq37_2), mq29_1)))) (gX7_orderAt_15 mC)))
theorem sX7_orderAt {x : Nat} (hx : x < 1000) {mC : RT} {C : Mem} (hC : (rm x) mC C) {ma1 : Nat} {a1 : Int32} (ha1 : (rv x) ma1 a1) : RZ (RO (rp (rs (rv x) (@Eq Nat)) (rm x))) (gX7_orderAt mC ma1) (fX7_orderAt C a1) := by
  unfold gX7_orderAt fX7_orderAt
  refine rz_tst (vlt_s hx ha1 rl_0) ?_ ?_
  · exact (sX7_orderAt_15 hx hC)
  · refine rz_tst (vlt_s hx ha1 (sX2_size hx hC)) ?_ ?_
    · refine rz_bnd (P := (rm x)) (sX2_makeOrder hx hC) (fun mq29_1 q29_1 hq29_1 => ?_)
      refine rz_bnd (P := (rv x)) (sX2_atPlace hx hq29_1 ha1) (fun mq37_2 q37_2 hq37_2 => ?_)
      exact rz_some (rp_m (rs_l hq37_2) hq29_1)
    · exact (sX7_orderAt_15 hx hC)
noncomputable def gX7_affectedBy (mC : RT) (ma1 : Nat) : Option (Nat ⊕ Nat) := (bdM (gX7_requireFile mC ma1) fun mq2_1 => (swM mq2_1 (fun mu_2 => (bdM (gX2_covering mC ma1) fun mq14_3 => (bdM (gX2_upFrom mC mq14_3) fun mq17_4 => (some (.inl mq17_4))))) (fun k_5 => (some (.inr k_5)))))
theorem sX7_affectedBy {x : Nat} (hx : x < 1000) {mC : RT} {C : Mem} (hC : (rm x) mC C) {ma1 : Nat} {a1 : Int32} (ha1 : (rv x) ma1 a1) : RZ (RO (rs (rv x) (@Eq Nat))) (gX7_affectedBy mC ma1) (fX7_affectedBy C a1) := by
  unfold gX7_affectedBy fX7_affectedBy
  refine rz_bnd (P := (rs (rv x) (@Eq Nat))) (sX7_requireFile hx hC ha1) (fun mq2_1 q2_1 hq2_1 => ?_)
  refine rz_sw (x := x) hq2_1 (fun mu_2 u_2 hu_2 => ?_) (fun k_5 => ?_)
  · refine rz_bnd (P := (rv x)) (sX2_covering hx hC ha1) (fun mq14_3 q14_3 hq14_3 => ?_)
    refine rz_bnd (P := (rv x)) (sX2_upFrom hx hC hq14_3) (fun mq17_4 q17_4 hq17_4 => ?_)
    exact rz_some (rs_l hq17_4)
  · exact rz_some (rs_r (Eq.refl _))
noncomputable def gX7_affectedByGoingDown (mC : RT) (ma1 : Nat) : Option (Nat ⊕ Nat) := (bdM (gX7_requireFile mC ma1) fun mq2_1 => (swM mq2_1 (fun mu_2 => (bdM (gX2_covering mC ma1) fun mq14_3 => (bdM (gX2_reachingDown mC mq14_3) fun mq17_4 => (some (.inl mq17_4))))) (fun k_5 => (some (.inr k_5)))))
theorem sX7_affectedByGoingDown {x : Nat} (hx : x < 1000) {mC : RT} {C : Mem} (hC : (rm x) mC C) {ma1 : Nat} {a1 : Int32} (ha1 : (rv x) ma1 a1) : RZ (RO (rs (rv x) (@Eq Nat))) (gX7_affectedByGoingDown mC ma1) (fX7_affectedByGoingDown C a1) := by
  unfold gX7_affectedByGoingDown fX7_affectedByGoingDown
  refine rz_bnd (P := (rs (rv x) (@Eq Nat))) (sX7_requireFile hx hC ha1) (fun mq2_1 q2_1 hq2_1 => ?_)
  refine rz_sw (x := x) hq2_1 (fun mu_2 u_2 hu_2 => ?_) (fun k_5 => ?_)
  · refine rz_bnd (P := (rv x)) (sX2_covering hx hC ha1) (fun mq14_3 q14_3 hq14_3 => ?_)
    refine rz_bnd (P := (rv x)) (sX2_reachingDown hx hC hq14_3) (fun mq17_4 q17_4 hq17_4 => ?_)
    exact rz_some (rs_l hq17_4)
  · exact rz_some (rs_r (Eq.refl _))
noncomputable def gX7_keyOf (mC : RT) (ma1 : Nat) : Option ((Nat ⊕ Nat) × RT) := (bdM (gX7_requireTarget mC ma1) fun mq2_1 => (swM mq2_1 (fun mu_2 => (bdM (gX3_lookUpAll mC) fun mq9_3 => (bdM (gX3_keyNow mq9_3 ma1) fun mq17_4 => (some ((.inl mq17_4), mq9_3))))) (fun k_5 => (some ((.inr k_5), mC)))))
theorem sX7_keyOf {x : Nat} (hx : x < 1000) {mC : RT} {C : Mem} (hC : (rm x) mC C) {ma1 : Nat} {a1 : Int32} (ha1 : (rv x) ma1 a1) : RZ (RO (rp (rs (rv x) (@Eq Nat)) (rm x))) (gX7_keyOf mC ma1) (fX7_keyOf C a1) := by
  unfold gX7_keyOf fX7_keyOf
  refine rz_bnd (P := (rs (rv x) (@Eq Nat))) (sX7_requireTarget hx hC ha1) (fun mq2_1 q2_1 hq2_1 => ?_)
  refine rz_sw (x := x) hq2_1 (fun mu_2 u_2 hu_2 => ?_) (fun k_5 => ?_)
  · refine rz_bnd (P := (rm x)) (sX3_lookUpAll hx hC) (fun mq9_3 q9_3 hq9_3 => ?_)
    refine rz_bnd (P := (rv x)) (sX3_keyNow hx hq9_3 ha1) (fun mq17_4 q17_4 hq17_4 => ?_)
    exact rz_some (rp_m (rs_l hq17_4) hq9_3)
  · exact rz_some (rp_m (rs_r (Eq.refl _)) hC)
noncomputable def gX7_whyRun (mC : RT) (ma1 : Nat) : Option ((Nat ⊕ Nat) × RT) := (bdM (gX7_requireTarget mC ma1) fun mq2_1 => (swM mq2_1 (fun mu_2 => (bdM (gX3_lookUpAll mC) fun mq9_3 => (bdM (gX3_keyNow mq9_3 ma1) fun mq17_4 => (tst (veq mq17_4 0) (bdM (gX3_hasRun mq9_3 ma1) fun mq30_5 => (tst (veq mq30_5 0) (some ((.inl 1), mq9_3)) (bdM (gX3_hasLatestInputs mq9_3 ma1) fun mq43_6 => (tst (veq mq43_6.1 0) (some ((.inl 2), mq43_6.2)) (some ((.inl 3), mq43_6.2)))))) (some ((.inl 0), mq9_3)))))) (fun k_7 => (some ((.inr k_7), mC)))))
theorem sX7_whyRun {x : Nat} (hx : x < 1000) {mC : RT} {C : Mem} (hC : (rm x) mC C) {ma1 : Nat} {a1 : Int32} (ha1 : (rv x) ma1 a1) : RZ (RO (rp (rs (rv x) (@Eq Nat)) (rm x))) (gX7_whyRun mC ma1) (fX7_whyRun C a1) := by
  unfold gX7_whyRun fX7_whyRun
  refine rz_bnd (P := (rs (rv x) (@Eq Nat))) (sX7_requireTarget hx hC ha1) (fun mq2_1 q2_1 hq2_1 => ?_)
  refine rz_sw (x := x) hq2_1 (fun mu_2 u_2 hu_2 => ?_) (fun k_7 => ?_)
  · refine rz_bnd (P := (rm x)) (sX3_lookUpAll hx hC) (fun mq9_3 q9_3 hq9_3 => ?_)
    refine rz_bnd (P := (rv x)) (sX3_keyNow hx hq9_3 ha1) (fun mq17_4 q17_4 hq17_4 => ?_)
    refine rz_tst (veq_s hx hq17_4 rl_0) ?_ ?_
    · refine rz_bnd (P := (rv x)) (sX3_hasRun hx hq9_3 ha1) (fun mq30_5 q30_5 hq30_5 => ?_)
      refine rz_tst (veq_s hx hq30_5 rl_0) ?_ ?_
      · exact rz_some (rp_m (rs_l rl_1) hq9_3)
      · refine rz_bnd (P := (rp (rv x) (rm x))) (sX3_hasLatestInputs hx hq9_3 ha1) (fun mq43_6 q43_6 hq43_6 => ?_)
        refine rz_tst (veq_s hx (rp_1 hq43_6) rl_0) ?_ ?_
        · exact rz_some (rp_m (rs_l rl_2) (rp_2 hq43_6))
        · exact rz_some (rp_m (rs_l rl_3) (rp_2 hq43_6))
    · exact rz_some (rp_m (rs_l rl_0) hq9_3)
  · exact rz_some (rp_m (rs_r (Eq.refl _)) hC)
noncomputable def gX7_run_75 (ma1 : Nat) (mq9 : RT) : Option ((Nat ⊕ Nat) × RT) := (bdM (gX3_runOrFind mq9 ma1) fun mq80_1 => (some ((.inl mq80_1.1), mq80_1.2)))
theorem sX7_run_75 {x : Nat} (hx : x < 1000) {ma1 : Nat} {a1 : Int32} (ha1 : (rv x) ma1 a1) {mq9 : RT} {q9 : Mem} (hq9 : (rm x) mq9 q9) : RZ (RO (rp (rs (rv x) (@Eq Nat)) (rm x))) (gX7_run_75 ma1 mq9) (fX7_run_75 a1 q9) := by
  unfold gX7_run_75 fX7_run_75
  refine rz_bnd (P := (rp (rv x) (rm x))) (sX3_runOrFind hx hq9 ha1) (fun mq80_1 q80_1 hq80_1 => ?_)
  exact rz_some (rp_m (rs_l (rp_1 hq80_1)) (rp_2 hq80_1))
noncomputable def gX7_run (mC : RT) (ma1 : Nat) : Option ((Nat ⊕ Nat) × RT) := (bdM (gX7_requireTarget mC ma1) fun mq2_1 => (swM mq2_1 (fun mu_2 => (bdM (gX3_lookUpAll mC) fun mq9_3 => (bdM (gX2_dependenciesOf mq9_3 ma1) fun mq17_4 => (bdM (gX3_withoutKey mq9_3) fun mq24_5 => (tst (veq (vand mq17_4 mq24_5) 0) (bdM (gX3_keyNow mq9_3 ma1) fun mq46_6 => (tst (veq mq46_6 0) (tst (vlt (gX3_given mq9_3) 200) (gX7_run_75 ma1 mq9_3) (some ((.inr 2), mq9_3))) (gX7_run_75 ma1 mq9_3))) (some ((.inr 2), mq9_3))))))) (fun k_7 => (some ((.inr k_7), mC)))))
theorem sX7_run {x : Nat} (hx : x < 1000) {mC : RT} {C : Mem} (hC : (rm x) mC C) {ma1 : Nat} {a1 : Int32} (ha1 : (rv x) ma1 a1) : RZ (RO (rp (rs (rv x) (@Eq Nat)) (rm x))) (gX7_run mC ma1) (fX7_run C a1) := by
  unfold gX7_run fX7_run
  refine rz_bnd (P := (rs (rv x) (@Eq Nat))) (sX7_requireTarget hx hC ha1) (fun mq2_1 q2_1 hq2_1 => ?_)
  refine rz_sw (x := x) hq2_1 (fun mu_2 u_2 hu_2 => ?_) (fun k_7 => ?_)
  · refine rz_bnd (P := (rm x)) (sX3_lookUpAll hx hC) (fun mq9_3 q9_3 hq9_3 => ?_)
    refine rz_bnd (P := (rv x)) (sX2_dependenciesOf hx hq9_3 ha1) (fun mq17_4 q17_4 hq17_4 => ?_)
    refine rz_bnd (P := (rv x)) (sX3_withoutKey hx hq9_3) (fun mq24_5 q24_5 hq24_5 => ?_)
    refine rz_tst (veq_s hx (vand_s hq17_4 hq24_5) rl_0) ?_ ?_
    · refine rz_bnd (P := (rv x)) (sX3_keyNow hx hq9_3 ha1) (fun mq46_6 q46_6 hq46_6 => ?_)
      refine rz_tst (veq_s hx hq46_6 rl_0) ?_ ?_
      · refine rz_tst (vlt_s hx (sX3_given hx hq9_3) rl_200) ?_ ?_
        · exact (sX7_run_75 hx ha1 hq9_3)
        · exact rz_some (rp_m (rs_r (Eq.refl _)) hq9_3)
      · exact (sX7_run_75 hx ha1 hq9_3)
    · exact rz_some (rp_m (rs_r (Eq.refl _)) hq9_3)
  · exact rz_some (rp_m (rs_r (Eq.refl _)) hC)
noncomputable def gX7_runAll (mC : RT) : Option ((Nat ⊕ Nat) × RT) := (bdM (gX3_lookUpAll mC) fun mq4_1 => (bdM (gX3_withoutKey mq4_1) fun mq11_2 => (nmM (gJ6_bitCount_0f7a4 mq11_2) fun mv17_3 => (tst (vnot (vlt 200 (vadd (gX3_given mq4_1) mv17_3))) (bdM (gX3_runOrFindAll mq4_1) fun mq47_4 => (some ((.inl mv17_3), mq47_4))) (some ((.inr 2), mq4_1))))))
theorem sX7_runAll {x : Nat} (hx : x < 1000) {mC : RT} {C : Mem} (hC : (rm x) mC C) : RZ (RO (rp (rs (rv x) (@Eq Nat)) (rm x))) (gX7_runAll mC) (fX7_runAll C) := by
  unfold gX7_runAll fX7_runAll
  refine rz_bnd (P := (rm x)) (sX3_lookUpAll hx hC) (fun mq4_1 q4_1 hq4_1 => ?_)
  refine rz_bnd (P := (rv x)) (sX3_withoutKey hx hq4_1) (fun mq11_2 q11_2 hq11_2 => ?_)
  refine rz_nm (x := x) (sJ6_bitCount_0f7a4 hx hq11_2) (fun mv17_3 v17_3 hv17_3 => ?_)
  refine rz_tst (vle_s hx (vadd_s (sX3_given hx hq4_1) hv17_3) rl_200) ?_ ?_
  · refine rz_bnd (P := (rm x)) (sX3_runOrFindAll hx hq4_1) (fun mq47_4 q47_4 hq47_4 => ?_)
    exact rz_some (rp_m (rs_l hv17_3) hq47_4)
  · exact rz_some (rp_m (rs_r (Eq.refl _)) hq4_1)
noncomputable def gX7_requireShards_11  : Option (Nat ⊕ Nat) := (some (.inr 1))
theorem sX7_requireShards_11 {x : Nat} (hx : x < 1000)  : RZ (RO (rs (rv x) (@Eq Nat))) (gX7_requireShards_11) (fX7_requireShards_11) := by
  unfold gX7_requireShards_11 fX7_requireShards_11
  exact rz_some (rs_r (Eq.refl _))
noncomputable def gX7_requireShards (ma1 : Nat) : Option (Nat ⊕ Nat) := (tst (vlt ma1 1) gX7_requireShards_11 (tst (vnot (vlt 8 ma1)) (some (.inl 0)) gX7_requireShards_11))
theorem sX7_requireShards {x : Nat} (hx : x < 1000) {ma1 : Nat} {a1 : Int32} (ha1 : (rv x) ma1 a1) : RZ (RO (rs (rv x) (@Eq Nat))) (gX7_requireShards ma1) (fX7_requireShards a1) := by
  unfold gX7_requireShards fX7_requireShards
  refine rz_tst (vlt_s hx ha1 rl_1) ?_ ?_
  · exact (sX7_requireShards_11 hx)
  · refine rz_tst (vle_s hx ha1 rl_8) ?_ ?_
    · exact rz_some (rs_l rl_0)
    · exact (sX7_requireShards_11 hx)
noncomputable def gX7_shardOf (mC : RT) (ma1 : Nat) (ma2 : Nat) : Option ((Nat ⊕ Nat) × RT) := (bdM (gX7_requireTarget mC ma1) fun mq2_1 => (swM mq2_1 (fun mu_2 => (bdM (gX7_requireShards ma2) fun mq7_3 => (swM mq7_3 (fun mu_4 => (bdM (gX3_lookUpAll mC) fun mq14_5 => (bdM (gX3_withoutKey mq14_5) fun mq29_6 => (bdM (gX5_over mq14_5 mq29_6 ma2) fun mq33_7 => (bdM (gX5_placeOf mq33_7 ma1) fun mq41_8 => (some ((.inl mq41_8), mq33_7))))))) (fun k_9 => (some ((.inr k_9), mC)))))) (fun k_10 => (some ((.inr k_10), mC)))))
theorem sX7_shardOf {x : Nat} (hx : x < 1000) {mC : RT} {C : Mem} (hC : (rm x) mC C) {ma1 : Nat} {a1 : Int32} (ha1 : (rv x) ma1 a1) {ma2 : Nat} {a2 : Int32} (ha2 : (rv x) ma2 a2) : RZ (RO (rp (rs (rv x) (@Eq Nat)) (rm x))) (gX7_shardOf mC ma1 ma2) (fX7_shardOf C a1 a2) := by
  unfold gX7_shardOf fX7_shardOf
  refine rz_bnd (P := (rs (rv x) (@Eq Nat))) (sX7_requireTarget hx hC ha1) (fun mq2_1 q2_1 hq2_1 => ?_)
  refine rz_sw (x := x) hq2_1 (fun mu_2 u_2 hu_2 => ?_) (fun k_10 => ?_)
  · refine rz_bnd (P := (rs (rv x) (@Eq Nat))) (sX7_requireShards hx ha2) (fun mq7_3 q7_3 hq7_3 => ?_)
    refine rz_sw (x := x) hq7_3 (fun mu_4 u_4 hu_4 => ?_) (fun k_9 => ?_)
    · refine rz_bnd (P := (rm x)) (sX3_lookUpAll hx hC) (fun mq14_5 q14_5 hq14_5 => ?_)
      refine rz_bnd (P := (rv x)) (sX3_withoutKey hx hq14_5) (fun mq29_6 q29_6 hq29_6 => ?_)
      refine rz_bnd (P := (rm x)) (sX5_over hx hq14_5 hq29_6 ha2) (fun mq33_7 q33_7 hq33_7 => ?_)
      refine rz_bnd (P := (rv x)) (sX5_placeOf hx hq33_7 ha1) (fun mq41_8 q41_8 hq41_8 => ?_)
      exact rz_some (rp_m (rs_l hq41_8) hq33_7)
    · exact rz_some (rp_m (rs_r (Eq.refl _)) hC)
  · exact rz_some (rp_m (rs_r (Eq.refl _)) hC)
noncomputable def gX7_longestShard (mC : RT) (ma1 : Nat) : Option ((Nat ⊕ Nat) × RT) := (bdM (gX7_requireShards ma1) fun mq2_1 => (swM mq2_1 (fun mu_2 => (bdM (gX3_lookUpAll mC) fun mq9_3 => (bdM (gX3_withoutKey mq9_3) fun mq24_4 => (bdM (gX5_over mq9_3 mq24_4 ma1) fun mq28_5 => (bdM (gX5_greatestLoad mq28_5) fun mq35_6 => (some ((.inl mq35_6), mq28_5))))))) (fun k_7 => (some ((.inr k_7), mC)))))
theorem sX7_longestShard {x : Nat} (hx : x < 1000) {mC : RT} {C : Mem} (hC : (rm x) mC C) {ma1 : Nat} {a1 : Int32} (ha1 : (rv x) ma1 a1) : RZ (RO (rp (rs (rv x) (@Eq Nat)) (rm x))) (gX7_longestShard mC ma1) (fX7_longestShard C a1) := by
  unfold gX7_longestShard fX7_longestShard
  refine rz_bnd (P := (rs (rv x) (@Eq Nat))) (sX7_requireShards hx ha1) (fun mq2_1 q2_1 hq2_1 => ?_)
  refine rz_sw (x := x) hq2_1 (fun mu_2 u_2 hu_2 => ?_) (fun k_7 => ?_)
  · refine rz_bnd (P := (rm x)) (sX3_lookUpAll hx hC) (fun mq9_3 q9_3 hq9_3 => ?_)
    refine rz_bnd (P := (rv x)) (sX3_withoutKey hx hq9_3) (fun mq24_4 q24_4 hq24_4 => ?_)
    refine rz_bnd (P := (rm x)) (sX5_over hx hq9_3 hq24_4 ha1) (fun mq28_5 q28_5 hq28_5 => ?_)
    refine rz_bnd (P := (rv x)) (sX5_greatestLoad hx hq28_5) (fun mq35_6 q35_6 hq35_6 => ?_)
    exact rz_some (rp_m (rs_l hq35_6) hq28_5)
  · exact rz_some (rp_m (rs_r (Eq.refl _)) hC)
noncomputable def gX7_shardsFor_32 (ma1 : Nat) (mt_32 : (RT × Nat)) : Option ((RT × Nat) ⊕ ((Nat ⊕ Nat) × RT)) := (tst (vlt 8 mt_32.2) (exM (some ((.inl 4294967295), mt_32.1))) (bdM (gX3_withoutKey mt_32.1) fun mq50_1 => (bdM (gX5_over mt_32.1 mq50_1 mt_32.2) fun mq54_2 => (bdM (gX5_greatestLoad mq54_2) fun mq61_3 => (tst (vlt ma1 mq61_3) (some (.inl (mq54_2, (vadd mt_32.2 1)))) (exM (some ((.inl mt_32.2), mq54_2))))))))
theorem sX7_shardsFor_32 {x : Nat} (hx : x < 1000) {ma1 : Nat} {a1 : Int32} (ha1 : (rv x) ma1 a1) {mt_32 : (RT × Nat)} {t_32 : (Mem × Int32)} (ht_32 : (rp (rm x) (rv x)) mt_32 t_32) : RZ (RO (rs (rp (rm x) (rv x)) (rp (rs (rv x) (@Eq Nat)) (rm x)))) (gX7_shardsFor_32 ma1 mt_32) (fX7_shardsFor_32 a1 t_32) := by
  unfold gX7_shardsFor_32 fX7_shardsFor_32
  refine rz_tst (vlt_s hx rl_8 (rp_2 ht_32)) ?_ ?_
  · refine rz_ex ?_
    exact rz_some (rp_m (rs_l rl_m1) (rp_1 ht_32))
  · refine rz_bnd (P := (rv x)) (sX3_withoutKey hx (rp_1 ht_32)) (fun mq50_1 q50_1 hq50_1 => ?_)
    refine rz_bnd (P := (rm x)) (sX5_over hx (rp_1 ht_32) hq50_1 (rp_2 ht_32)) (fun mq54_2 q54_2 hq54_2 => ?_)
    refine rz_bnd (P := (rv x)) (sX5_greatestLoad hx hq54_2) (fun mq61_3 q61_3 hq61_3 => ?_)
    refine rz_tst (vlt_s hx ha1 hq61_3) ?_ ?_
    · exact rz_some (rs_l (rp_m hq54_2 (vadd_s (rp_2 ht_32) rl_1)))
    · refine rz_ex ?_
      exact rz_some (rp_m (rs_l (rp_2 ht_32)) hq54_2)
noncomputable def gX7_shardsFor_12 (mC : RT) : Option ((Nat ⊕ Nat) × RT) := (some ((.inr 1), mC))
theorem sX7_shardsFor_12 {x : Nat} (hx : x < 1000) {mC : RT} {C : Mem} (hC : (rm x) mC C) : RZ (RO (rp (rs (rv x) (@Eq Nat)) (rm x))) (gX7_shardsFor_12 mC) (fX7_shardsFor_12 C) := by
  unfold gX7_shardsFor_12 fX7_shardsFor_12
  exact rz_some (rp_m (rs_r (Eq.refl _)) hC)
noncomputable def gX7_shardsFor (mC : RT) (ma1 : Nat) : Option ((Nat ⊕ Nat) × RT) := (tst (vlt ma1 1) (gX7_shardsFor_12 mC) (tst (vnot (vlt 16000 ma1)) (bdM (gX3_lookUpAll mC) fun mq27_1 => (lpM (gX7_shardsFor_32 ma1) 300 (mq27_1, 1))) (gX7_shardsFor_12 mC)))
theorem sX7_shardsFor {x : Nat} (hx : x < 1000) {mC : RT} {C : Mem} (hC : (rm x) mC C) {ma1 : Nat} {a1 : Int32} (ha1 : (rv x) ma1 a1) : RZ (RO (rp (rs (rv x) (@Eq Nat)) (rm x))) (gX7_shardsFor mC ma1) (fX7_shardsFor C a1) := by
  unfold gX7_shardsFor fX7_shardsFor
  refine rz_tst (vlt_s hx ha1 rl_1) ?_ ?_
  · exact (sX7_shardsFor_12 hx hC)
  · refine rz_tst (vle_s hx ha1 rl_16000) ?_ ?_
    · refine rz_bnd (P := (rm x)) (sX3_lookUpAll hx hC) (fun mq27_1 q27_1 hq27_1 => ?_)
      exact rz_lp (PS := (rp (rm x) (rv x))) (fun _ _ hs => sX7_shardsFor_32 hx ha1 hs) 300 (rp_m hq27_1 rl_1)
    · exact (sX7_shardsFor_12 hx hC)
noncomputable def gX7_addRule_10 (mC : RT) : Option ((Nat ⊕ Nat) × RT) := (some ((.inr 3), mC))
theorem sX7_addRule_10 {x : Nat} (hx : x < 1000) {mC : RT} {C : Mem} (hC : (rm x) mC C) : RZ (RO (rp (rs (rv x) (@Eq Nat)) (rm x))) (gX7_addRule_10 mC) (fX7_addRule_10 C) := by
  unfold gX7_addRule_10 fX7_addRule_10
  exact rz_some (rp_m (rs_r (Eq.refl _)) hC)
noncomputable def gX7_addRule (mC : RT) (ma1 : Nat) : Option ((Nat ⊕ Nat) × RT) := (tst (vlt ma1 0) (gX7_addRule_10 mC) (tst (vnot (vlt 7 ma1)) (bdM (gX7_requireGlob mC) fun mq22_1 => (swM mq22_1 (fun mu_2 => (bdM (gX4_isFull mC) fun mq29_3 => (tst (veq mq29_3 0) (bdM (gX0_coveredBy mC 1) fun mq62_4 => (bdM (gX4_add mC 1 mq62_4 ma1) fun mq66_5 => (some ((.inl (gX4_size mq66_5)), mq66_5)))) (some ((.inr 2), mC))))) (fun k_6 => (some ((.inr k_6), mC))))) (gX7_addRule_10 mC)))
theorem sX7_addRule {x : Nat} (hx : x < 1000) {mC : RT} {C : Mem} (hC : (rm x) mC C) {ma1 : Nat} {a1 : Int32} (ha1 : (rv x) ma1 a1) : RZ (RO (rp (rs (rv x) (@Eq Nat)) (rm x))) (gX7_addRule mC ma1) (fX7_addRule C a1) := by
  unfold gX7_addRule fX7_addRule
  refine rz_tst (vlt_s hx ha1 rl_0) ?_ ?_
  · exact (sX7_addRule_10 hx hC)
  · refine rz_tst (vle_s hx ha1 rl_7) ?_ ?_
    · refine rz_bnd (P := (rs (rv x) (@Eq Nat))) (sX7_requireGlob hx hC) (fun mq22_1 q22_1 hq22_1 => ?_)
      refine rz_sw (x := x) hq22_1 (fun mu_2 u_2 hu_2 => ?_) (fun k_6 => ?_)
      · refine rz_bnd (P := (rv x)) (sX4_isFull hx hC) (fun mq29_3 q29_3 hq29_3 => ?_)
        refine rz_tst (veq_s hx hq29_3 rl_0) ?_ ?_
        · refine rz_bnd (P := (rv x)) (sX0_coveredBy hx hC) (fun mq62_4 q62_4 hq62_4 => ?_)
          refine rz_bnd (P := (rm x)) (sX4_add hx hC hq62_4 ha1) (fun mq66_5 q66_5 hq66_5 => ?_)
          exact rz_some (rp_m (rs_l (sX4_size hx hq66_5)) hq66_5)
        · exact rz_some (rp_m (rs_r (Eq.refl _)) hC)
      · exact rz_some (rp_m (rs_r (Eq.refl _)) hC)
    · exact (sX7_addRule_10 hx hC)
noncomputable def gX7_ownerOf (mC : RT) (ma1 : Nat) : Option (Nat ⊕ Nat) := (bdM (gX7_requireFile mC ma1) fun mq2_1 => (swM mq2_1 (fun mu_2 => (bdM (gX4_latestOwner mC ma1) fun mq10_3 => (some (.inl mq10_3)))) (fun k_4 => (some (.inr k_4)))))
theorem sX7_ownerOf {x : Nat} (hx : x < 1000) {mC : RT} {C : Mem} (hC : (rm x) mC C) {ma1 : Nat} {a1 : Int32} (ha1 : (rv x) ma1 a1) : RZ (RO (rs (rv x) (@Eq Nat))) (gX7_ownerOf mC ma1) (fX7_ownerOf C a1) := by
  unfold gX7_ownerOf fX7_ownerOf
  refine rz_bnd (P := (rs (rv x) (@Eq Nat))) (sX7_requireFile hx hC ha1) (fun mq2_1 q2_1 hq2_1 => ?_)
  refine rz_sw (x := x) hq2_1 (fun mu_2 u_2 hu_2 => ?_) (fun k_4 => ?_)
  · refine rz_bnd (P := (rv x)) (sX4_latestOwner hx hC ha1) (fun mq10_3 q10_3 hq10_3 => ?_)
    exact rz_some (rs_l hq10_3)
  · exact rz_some (rs_r (Eq.refl _))
