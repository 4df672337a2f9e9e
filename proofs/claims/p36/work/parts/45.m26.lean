noncomputable def gX7_clearText (mC : RT) : Option (Nat × RT) := (nmM (gX6_size mC 1) fun mv7_1 => (bdM (gX6_empty mC 1) fun mq12_2 => (some (mv7_1, mq12_2))))
theorem sX7_clearText {x : Nat} (hx : x < 1000) {mC : RT} {C : Mem} (hC : (rm x) mC C) : RZ (RO (rp (rv x) (rm x))) (gX7_clearText mC) (fX7_clearText C) := by
  unfold gX7_clearText fX7_clearText
  refine rz_nm (x := x) (sX6_size hx hC) (fun mv7_1 v7_1 hv7_1 => ?_)
  refine rz_bnd (P := (rm x)) (sX6_empty hx hC) (fun mq12_2 q12_2 hq12_2 => ?_)
  exact rz_some (rp_m hv7_1 hq12_2)
noncomputable def gX7_isPath (mC : RT) : Option Nat := (bdM (gX6_hasPathForm mC 1) fun mq4_1 => (ckM (vbo mq4_1) (some mq4_1)))
theorem sX7_isPath {x : Nat} (hx : x < 1000) {mC : RT} {C : Mem} (hC : (rm x) mC C) : RZ (RO (rv x)) (gX7_isPath mC) (fX7_isPath C) := by
  unfold gX7_isPath fX7_isPath
  refine rz_bnd (P := (rv x)) (sX6_hasPathForm hx hC) (fun mq4_1 q4_1 hq4_1 => ?_)
  refine rz_ck (vbo_s (x := x) hq4_1) ?_
  exact rz_some hq4_1
noncomputable def gX7_isGlob (mC : RT) : Option Nat := (bdM (gX6_hasGlobForm mC 1) fun mq4_1 => (ckM (vbo mq4_1) (some mq4_1)))
theorem sX7_isGlob {x : Nat} (hx : x < 1000) {mC : RT} {C : Mem} (hC : (rm x) mC C) : RZ (RO (rv x)) (gX7_isGlob mC) (fX7_isGlob C) := by
  unfold gX7_isGlob fX7_isGlob
  refine rz_bnd (P := (rv x)) (sX6_hasGlobForm hx hC) (fun mq4_1 q4_1 hq4_1 => ?_)
  refine rz_ck (vbo_s (x := x) hq4_1) ?_
  exact rz_some hq4_1
noncomputable def gX7_numberNewPath (mC : RT) : Option (Nat × RT) := (bdM (gX0_addPath mC 1) fun mq8_1 => (bdM (gX2_meetFile mq8_1.2 mq8_1.1 1) fun mq21_2 => (bdM (gX4_meetFile mq21_2 mq8_1.1 1) fun mq33_3 => (some (mq8_1.1, mq33_3)))))
theorem sX7_numberNewPath {x : Nat} (hx : x < 1000) {mC : RT} {C : Mem} (hC : (rm x) mC C) : RZ (RO (rp (rv x) (rm x))) (gX7_numberNewPath mC) (fX7_numberNewPath C) := by
  unfold gX7_numberNewPath fX7_numberNewPath
  refine rz_bnd (P := (rp (rv x) (rm x))) (sX0_addPath hx hC) (fun mq8_1 q8_1 hq8_1 => ?_)
  refine rz_bnd (P := (rm x)) (sX2_meetFile hx (rp_2 hq8_1) (rp_1 hq8_1)) (fun mq21_2 q21_2 hq21_2 => ?_)
  refine rz_bnd (P := (rm x)) (sX4_meetFile hx hq21_2 (rp_1 hq8_1)) (fun mq33_3 q33_3 hq33_3 => ?_)
  exact rz_some (rp_m (rp_1 hq8_1) hq33_3)
noncomputable def gX7_findFile (mC : RT) : Option Nat := (bdM (gX0_numberOf mC 1) fun mq8_1 => (some mq8_1))
theorem sX7_findFile {x : Nat} (hx : x < 1000) {mC : RT} {C : Mem} (hC : (rm x) mC C) : RZ (RO (rv x)) (gX7_findFile mC) (fX7_findFile C) := by
  unfold gX7_findFile fX7_findFile
  refine rz_bnd (P := (rv x)) (sX0_numberOf hx hC) (fun mq8_1 q8_1 hq8_1 => ?_)
  exact rz_some hq8_1
noncomputable def gX7_files (mC : RT) : Nat := (gX0_present mC)
theorem sX7_files {x : Nat} (hx : x < 1000) {mC : RT} {C : Mem} (hC : (rm x) mC C) : rv x (gX7_files mC) (fX7_files C) := by
  unfold gX7_files fX7_files
  exact (sX0_present hx hC)
noncomputable def gX7_changed (mC : RT) : Option Nat := (bdM (gX0_sinceMark mC) fun mq4_1 => (some mq4_1))
theorem sX7_changed {x : Nat} (hx : x < 1000) {mC : RT} {C : Mem} (hC : (rm x) mC C) : RZ (RO (rv x)) (gX7_changed mC) (fX7_changed C) := by
  unfold gX7_changed fX7_changed
  refine rz_bnd (P := (rv x)) (sX0_sinceMark hx hC) (fun mq4_1 q4_1 hq4_1 => ?_)
  exact rz_some hq4_1
noncomputable def gX7_needed (mC : RT) : Option (Nat × RT) := (bdM (gX3_lookUpAll mC) fun mq4_1 => (bdM (gX3_withoutKey mq4_1) fun mq11_2 => (some (mq11_2, mq4_1))))
theorem sX7_needed {x : Nat} (hx : x < 1000) {mC : RT} {C : Mem} (hC : (rm x) mC C) : RZ (RO (rp (rv x) (rm x))) (gX7_needed mC) (fX7_needed C) := by
  unfold gX7_needed fX7_needed
  refine rz_bnd (P := (rm x)) (sX3_lookUpAll hx hC) (fun mq4_1 q4_1 hq4_1 => ?_)
  refine rz_bnd (P := (rv x)) (sX3_withoutKey hx hq4_1) (fun mq11_2 q11_2 hq11_2 => ?_)
  exact rz_some (rp_m hq11_2 hq4_1)
noncomputable def gX7_keys (mC : RT) : Nat := (gX3_given mC)
theorem sX7_keys {x : Nat} (hx : x < 1000) {mC : RT} {C : Mem} (hC : (rm x) mC C) : rv x (gX7_keys mC) (fX7_keys C) := by
  unfold gX7_keys fX7_keys
  exact (sX3_given hx hC)
noncomputable def gX7_targets (mC : RT) : Nat := (gX2_size mC)
theorem sX7_targets {x : Nat} (hx : x < 1000) {mC : RT} {C : Mem} (hC : (rm x) mC C) : rv x (gX7_targets mC) (fX7_targets C) := by
  unfold gX7_targets fX7_targets
  exact (sX2_size hx hC)
noncomputable def gX7_reviewers (mC : RT) : Option Nat := (bdM (gX0_sinceMark mC) fun mq8_1 => (bdM (gX4_ownersOfAll mC mq8_1) fun mq11_2 => (some mq11_2)))
theorem sX7_reviewers {x : Nat} (hx : x < 1000) {mC : RT} {C : Mem} (hC : (rm x) mC C) : RZ (RO (rv x)) (gX7_reviewers mC) (fX7_reviewers C) := by
  unfold gX7_reviewers fX7_reviewers
  refine rz_bnd (P := (rv x)) (sX0_sinceMark hx hC) (fun mq8_1 q8_1 hq8_1 => ?_)
  refine rz_bnd (P := (rv x)) (sX4_ownersOfAll hx hC hq8_1) (fun mq11_2 q11_2 hq11_2 => ?_)
  exact rz_some hq11_2
noncomputable def gX7_mark (mC : RT) : Option (Nat × RT) := (bdM (gX0_keepMark mC) fun mq4_1 => (some ((gJ6_bitCount_0f7a4 (gX0_present mq4_1)), mq4_1)))
theorem sX7_mark {x : Nat} (hx : x < 1000) {mC : RT} {C : Mem} (hC : (rm x) mC C) : RZ (RO (rp (rv x) (rm x))) (gX7_mark mC) (fX7_mark C) := by
  unfold gX7_mark fX7_mark
  refine rz_bnd (P := (rm x)) (sX0_keepMark hx hC) (fun mq4_1 q4_1 hq4_1 => ?_)
  exact rz_some (rp_m (sJ6_bitCount_0f7a4 hx (sX0_present hx hq4_1)) hq4_1)
