theorem sw33 {x : Int32} (h : ∀ k : Nat, k < 33 → ¬ x = nI k) : x.toInt < 0 ∨ 32 < x.toInt := by
  rcases Int.lt_or_le x.toInt 0 with a | a
  · exact Or.inl a
  · rcases Int.lt_or_le 32 x.toInt with b | b
    · exact Or.inr b
    · obtain ⟨j, hj, e⟩ := vp_in_of (x := x) (n := 33) (vp_in_iff.mpr ⟨a, by omega⟩) (by decide)
      exact absurd e (h j hj)
theorem law_i3 {x : Int32} {n : Nat} (h : x = nI (3 * n)) : x + (3 : Int32) = nI (3 * (n + 1)) := by
  rw [h]
  exact nI_add (3 * n) 3
theorem law_stp {L n : Nat} {x : Int32} (hL : L ≤ 1536) (hn : n ≤ 512) (c : x = nI (3 * n) ∧ ¬ (nI L - (3 : Int32)) < x) : 3 * n + 3 ≤ L := by
  obtain ⟨rfl, c⟩ := c
  rcases Nat.lt_or_ge L (3 * n + 3) with h | h
  · exfalso
    apply c
    show nI L - nI 3 < nI (3 * n)
    rw [Int32.lt_iff_toInt_lt, pk_sub_toInt (by omega) (by decide), nI_toInt (by omega)]
    omega
  · exact h
noncomputable def fL_law_1592 (L : Nat) (xs : Nat → Int32) (t_23 : (Mem × Mem × Int32)) (C_1592 : Mem) (M_1592 : Mem) : Option ((Mem × Mem × Int32) ⊕ Int32) := some (.inl (C_1592, M_1592, (t_23.2.2 + (3 : Int32))))
noncomputable def fL_law_1550 (L : Nat) (xs : Nat → Int32) (t_23 : (Mem × Mem × Int32)) (C_1550 : Mem) (M_1550 : Mem) : Option ((Mem × Mem × Int32) ⊕ Int32) := fL_law_1592 L xs t_23 C_1550 M_1550
noncomputable def fL_law_1494 (L : Nat) (xs : Nat → Int32) (t_23 : (Mem × Mem × Int32)) (C_1494 : Mem) (M_1494 : Mem) : Option ((Mem × Mem × Int32) ⊕ Int32) := fL_law_1592 L xs t_23 C_1494 M_1494
noncomputable def fL_law_1438 (L : Nat) (xs : Nat → Int32) (t_23 : (Mem × Mem × Int32)) (C_1438 : Mem) (M_1438 : Mem) : Option ((Mem × Mem × Int32) ⊕ Int32) := fL_law_1592 L xs t_23 C_1438 M_1438
noncomputable def fL_law_1382 (L : Nat) (xs : Nat → Int32) (t_23 : (Mem × Mem × Int32)) (C_1382 : Mem) (M_1382 : Mem) : Option ((Mem × Mem × Int32) ⊕ Int32) := fL_law_1592 L xs t_23 C_1382 M_1382
noncomputable def fL_law_1326 (L : Nat) (xs : Nat → Int32) (t_23 : (Mem × Mem × Int32)) (C_1326 : Mem) (M_1326 : Mem) : Option ((Mem × Mem × Int32) ⊕ Int32) := fL_law_1592 L xs t_23 C_1326 M_1326
noncomputable def fL_law_1245 (L : Nat) (xs : Nat → Int32) (t_23 : (Mem × Mem × Int32)) (C_1245 : Mem) (M_1245 : Mem) : Option ((Mem × Mem × Int32) ⊕ Int32) := fL_law_1592 L xs t_23 C_1245 M_1245
noncomputable def fL_law_1201 (L : Nat) (xs : Nat → Int32) (t_23 : (Mem × Mem × Int32)) (C_1201 : Mem) (M_1201 : Mem) : Option ((Mem × Mem × Int32) ⊕ Int32) := fL_law_1592 L xs t_23 C_1201 M_1201
noncomputable def fL_law_1145 (L : Nat) (xs : Nat → Int32) (t_23 : (Mem × Mem × Int32)) (C_1145 : Mem) (M_1145 : Mem) : Option ((Mem × Mem × Int32) ⊕ Int32) := fL_law_1592 L xs t_23 C_1145 M_1145
noncomputable def fL_law_1076 (L : Nat) (xs : Nat → Int32) (t_23 : (Mem × Mem × Int32)) (C_1076 : Mem) (M_1076 : Mem) : Option ((Mem × Mem × Int32) ⊕ Int32) := fL_law_1592 L xs t_23 C_1076 M_1076
noncomputable def fL_law_1020 (L : Nat) (xs : Nat → Int32) (t_23 : (Mem × Mem × Int32)) (C_1020 : Mem) (M_1020 : Mem) : Option ((Mem × Mem × Int32) ⊕ Int32) := fL_law_1592 L xs t_23 C_1020 M_1020
noncomputable def fL_law_964 (L : Nat) (xs : Nat → Int32) (t_23 : (Mem × Mem × Int32)) (C_964 : Mem) (M_964 : Mem) : Option ((Mem × Mem × Int32) ⊕ Int32) := fL_law_1592 L xs t_23 C_964 M_964
noncomputable def fL_law_908 (L : Nat) (xs : Nat → Int32) (t_23 : (Mem × Mem × Int32)) (C_908 : Mem) (M_908 : Mem) : Option ((Mem × Mem × Int32) ⊕ Int32) := fL_law_1592 L xs t_23 C_908 M_908
noncomputable def fL_law_852 (L : Nat) (xs : Nat → Int32) (t_23 : (Mem × Mem × Int32)) (C_852 : Mem) (M_852 : Mem) : Option ((Mem × Mem × Int32) ⊕ Int32) := fL_law_1592 L xs t_23 C_852 M_852
noncomputable def fL_law_796 (L : Nat) (xs : Nat → Int32) (t_23 : (Mem × Mem × Int32)) (C_796 : Mem) (M_796 : Mem) : Option ((Mem × Mem × Int32) ⊕ Int32) := fL_law_1592 L xs t_23 C_796 M_796
noncomputable def fL_law_727 (L : Nat) (xs : Nat → Int32) (t_23 : (Mem × Mem × Int32)) (C_727 : Mem) (M_727 : Mem) : Option ((Mem × Mem × Int32) ⊕ Int32) := fL_law_1592 L xs t_23 C_727 M_727
noncomputable def fL_law_659 (L : Nat) (xs : Nat → Int32) (t_23 : (Mem × Mem × Int32)) (C_659 : Mem) (M_659 : Mem) : Option ((Mem × Mem × Int32) ⊕ Int32) := fL_law_1592 L xs t_23 C_659 M_659
noncomputable def fL_law_603 (L : Nat) (xs : Nat → Int32) (t_23 : (Mem × Mem × Int32)) (C_603 : Mem) (M_603 : Mem) : Option ((Mem × Mem × Int32) ⊕ Int32) := fL_law_1592 L xs t_23 C_603 M_603
noncomputable def fL_law_547 (L : Nat) (xs : Nat → Int32) (t_23 : (Mem × Mem × Int32)) (C_547 : Mem) (M_547 : Mem) : Option ((Mem × Mem × Int32) ⊕ Int32) := fL_law_1592 L xs t_23 C_547 M_547
noncomputable def fL_law_541 (L : Nat) (xs : Nat → Int32) (t_23 : (Mem × Mem × Int32)) (C_541 : Mem) (M_541 : Mem) (s0_541 : Int64) (s1_541 : Int64) : Option ((Mem × Mem × Int32) ⊕ Int32) := cnd ((lg_cmp s1_541 s0_541) = (0 : Int32)) (fL_law_547 L xs t_23 C_541 M_541) (exR (some (0 : Int32)))
noncomputable def fL_law_471 (L : Nat) (xs : Nat → Int32) (t_23 : (Mem × Mem × Int32)) (C_471 : Mem) (M_471 : Mem) : Option ((Mem × Mem × Int32) ⊕ Int32) := fL_law_1592 L xs t_23 C_471 M_471
noncomputable def fL_law_415 (L : Nat) (xs : Nat → Int32) (t_23 : (Mem × Mem × Int32)) (C_415 : Mem) (M_415 : Mem) : Option ((Mem × Mem × Int32) ⊕ Int32) := fL_law_1592 L xs t_23 C_415 M_415
noncomputable def fL_law_334 (L : Nat) (xs : Nat → Int32) (t_23 : (Mem × Mem × Int32)) (C_334 : Mem) (M_334 : Mem) : Option ((Mem × Mem × Int32) ⊕ Int32) := fL_law_1592 L xs t_23 C_334 M_334
noncomputable def fL_law_239 (L : Nat) (xs : Nat → Int32) (t_23 : (Mem × Mem × Int32)) (C_239 : Mem) (M_239 : Mem) : Option ((Mem × Mem × Int32) ⊕ Int32) := fL_law_1592 L xs t_23 C_239 M_239
noncomputable def fL_law_23 (L : Nat) (xs : Nat → Int32) : (Mem × Mem × Int32) → Option ((Mem × Mem × Int32) ⊕ Int32) := fun t_23 => cnd (((nI L) - (3 : Int32)) < t_23.2.2) (exR (some (1 : Int32))) (chk (vp_in t_23.2.2 L) (cnd (((xs t_23.2.2.toNatClampNeg) &&& (63 : Int32)) = (0 : Int32)) (chk (vp_in (t_23.2.2 + (1 : Int32)) L) (bnd (fL_type t_23.1 t_23.2.1 (((xs (t_23.2.2 + (1 : Int32)).toNatClampNeg).toUInt32 % 65536).toInt32)) fun q193 => chk (vp_in (t_23.2.2 + (1 : Int32)) L) (bnd (fX8_type q193.2.2 (((xs (t_23.2.2 + (1 : Int32)).toNatClampNeg).toUInt32 % 65536).toInt32)) fun q206 => cnd ((fX8_thrown q206.2) = q193.1) (cnd (q193.1 = (0 : Int32)) (cnd ((lg_cmp ((q206.2 498 (0 : Int32).toNatClampNeg).toInt64) (q206.1.toInt64)) = (0 : Int32)) (fL_law_239 L xs t_23 q193.2.1 q206.2) (exR (some (0 : Int32)))) (fL_law_239 L xs t_23 q193.2.1 q206.2)) (exR (some (0 : Int32)))))) (cnd (((xs t_23.2.2.toNatClampNeg) &&& (63 : Int32)) = (1 : Int32)) (bnd (fX7_clearText t_23.1) fun q243 => bnd (fX8_clearText t_23.2.1) fun q247 => cnd (q243.1 = q247.1) (fL_law_1592 L xs t_23 q243.2 q247.2) (exR (some (0 : Int32)))) (cnd (((xs t_23.2.2.toNatClampNeg) &&& (63 : Int32)) = (2 : Int32)) (bnd (fX7_isPath t_23.1) fun q256 => bnd (fX8_isPath t_23.2.1) fun q260 => cnd (q256 = q260.1) (fL_law_1592 L xs t_23 t_23.1 q260.2) (exR (some (0 : Int32)))) (cnd (((xs t_23.2.2.toNatClampNeg) &&& (63 : Int32)) = (3 : Int32)) (bnd (fX7_isGlob t_23.1) fun q269 => bnd (fX8_isGlob t_23.2.1) fun q273 => cnd (q269 = q273.1) (fL_law_1592 L xs t_23 t_23.1 q273.2) (exR (some (0 : Int32)))) (cnd (((xs t_23.2.2.toNatClampNeg) &&& (63 : Int32)) = (4 : Int32)) (chk (vp_in (t_23.2.2 + (1 : Int32)) L) (bnd (fL_addFile t_23.1 t_23.2.1 (xs (t_23.2.2 + (1 : Int32)).toNatClampNeg)) fun q289 => chk (vp_in (t_23.2.2 + (1 : Int32)) L) (bnd (fX8_addFile q289.2.2 (xs (t_23.2.2 + (1 : Int32)).toNatClampNeg)) fun q301 => cnd ((fX8_thrown q301.2) = q289.1) (cnd (q289.1 = (0 : Int32)) (cnd ((lg_cmp ((q301.2 498 (0 : Int32).toNatClampNeg).toInt64) (q301.1.toInt64)) = (0 : Int32)) (fL_law_334 L xs t_23 q289.2.1 q301.2) (exR (some (0 : Int32)))) (fL_law_334 L xs t_23 q289.2.1 q301.2)) (exR (some (0 : Int32)))))) (cnd (((xs t_23.2.2.toNatClampNeg) &&& (63 : Int32)) = (5 : Int32)) (bnd (fX7_findFile t_23.1) fun q338 => bnd (fX8_findFile t_23.2.1) fun q342 => cnd (q338 = q342.1) (fL_law_1592 L xs t_23 t_23.1 q342.2) (exR (some (0 : Int32)))) (cnd (((xs t_23.2.2.toNatClampNeg) &&& (63 : Int32)) = (6 : Int32)) (chk (vp_in (t_23.2.2 + (1 : Int32)) L) (chk (vp_in (t_23.2.2 + (2 : Int32)) L) (bnd (fL_edit t_23.1 t_23.2.1 (xs (t_23.2.2 + (1 : Int32)).toNatClampNeg) (xs (t_23.2.2 + (2 : Int32)).toNatClampNeg)) fun q364 => chk (vp_in (t_23.2.2 + (1 : Int32)) L) (chk (vp_in (t_23.2.2 + (2 : Int32)) L) (bnd (fX8_edit q364.2.2 (xs (t_23.2.2 + (1 : Int32)).toNatClampNeg) (xs (t_23.2.2 + (2 : Int32)).toNatClampNeg)) fun q382 => cnd ((fX8_thrown q382.2) = q364.1) (cnd (q364.1 = (0 : Int32)) (cnd ((lg_cmp ((q382.2 498 (0 : Int32).toNatClampNeg).toInt64) (q382.1.toInt64)) = (0 : Int32)) (fL_law_415 L xs t_23 q364.2.1 q382.2) (exR (some (0 : Int32)))) (fL_law_415 L xs t_23 q364.2.1 q382.2)) (exR (some (0 : Int32)))))))) (cnd (((xs t_23.2.2.toNatClampNeg) &&& (63 : Int32)) = (7 : Int32)) (chk (vp_in (t_23.2.2 + (1 : Int32)) L) (bnd (fL_delete t_23.1 t_23.2.1 (xs (t_23.2.2 + (1 : Int32)).toNatClampNeg)) fun q426 => chk (vp_in (t_23.2.2 + (1 : Int32)) L) (bnd (fX8_delete q426.2.2 (xs (t_23.2.2 + (1 : Int32)).toNatClampNeg)) fun q438 => cnd ((fX8_thrown q438.2) = q426.1) (cnd (q426.1 = (0 : Int32)) (cnd ((lg_cmp ((q438.2 498 (0 : Int32).toNatClampNeg).toInt64) (q438.1.toInt64)) = (0 : Int32)) (fL_law_471 L xs t_23 q426.2.1 q438.2) (exR (some (0 : Int32)))) (fL_law_471 L xs t_23 q426.2.1 q438.2)) (exR (some (0 : Int32)))))) (cnd (((xs t_23.2.2.toNatClampNeg) &&& (63 : Int32)) = (8 : Int32)) (bnd (fX8_files t_23.2.1) fun q479 => cnd ((fX7_files t_23.1) = q479.1) (fL_law_1592 L xs t_23 t_23.1 q479.2) (exR (some (0 : Int32)))) (cnd (((xs t_23.2.2.toNatClampNeg) &&& (63 : Int32)) = (9 : Int32)) (chk (vp_in (t_23.2.2 + (1 : Int32)) L) (bnd (fL_matches t_23.1 t_23.2.1 (xs (t_23.2.2 + (1 : Int32)).toNatClampNeg)) fun q495 => chk (vp_in (t_23.2.2 + (1 : Int32)) L) (bnd (fX8_matches q495.2.2 (xs (t_23.2.2 + (1 : Int32)).toNatClampNeg)) fun q507 => cnd ((fX8_thrown q507.2) = q495.1) (cnd (q495.1 = (0 : Int32)) (cnd (q507.1 = (0 : Int32)) (fL_law_541 L xs t_23 q495.2.1 q507.2 (0 : Int64) ((q507.2 498 (0 : Int32).toNatClampNeg).toInt64)) (fL_law_541 L xs t_23 q495.2.1 q507.2 (1 : Int64) ((q507.2 498 (0 : Int32).toNatClampNeg).toInt64))) (fL_law_547 L xs t_23 q495.2.1 q507.2)) (exR (some (0 : Int32)))))) (cnd (((xs t_23.2.2.toNatClampNeg) &&& (63 : Int32)) = (10 : Int32)) (chk (vp_in (t_23.2.2 + (1 : Int32)) L) (bnd (fL_addTarget t_23.1 t_23.2.1 (xs (t_23.2.2 + (1 : Int32)).toNatClampNeg)) fun q558 => chk (vp_in (t_23.2.2 + (1 : Int32)) L) (bnd (fX8_addTarget q558.2.2 (xs (t_23.2.2 + (1 : Int32)).toNatClampNeg)) fun q570 => cnd ((fX8_thrown q570.2) = q558.1) (cnd (q558.1 = (0 : Int32)) (cnd ((lg_cmp ((q570.2 498 (0 : Int32).toNatClampNeg).toInt64) (q570.1.toInt64)) = (0 : Int32)) (fL_law_603 L xs t_23 q558.2.1 q570.2) (exR (some (0 : Int32)))) (fL_law_603 L xs t_23 q558.2.1 q570.2)) (exR (some (0 : Int32)))))) (cnd (((xs t_23.2.2.toNatClampNeg) &&& (63 : Int32)) = (11 : Int32)) (chk (vp_in (t_23.2.2 + (1 : Int32)) L) (bnd (fL_addGlob t_23.1 t_23.2.1 (xs (t_23.2.2 + (1 : Int32)).toNatClampNeg)) fun q614 => chk (vp_in (t_23.2.2 + (1 : Int32)) L) (bnd (fX8_addGlob q614.2.2 (xs (t_23.2.2 + (1 : Int32)).toNatClampNeg)) fun q626 => cnd ((fX8_thrown q626.2) = q614.1) (cnd (q614.1 = (0 : Int32)) (cnd ((lg_cmp ((q626.2 498 (0 : Int32).toNatClampNeg).toInt64) (q626.1.toInt64)) = (0 : Int32)) (fL_law_659 L xs t_23 q614.2.1 q626.2) (exR (some (0 : Int32)))) (fL_law_659 L xs t_23 q614.2.1 q626.2)) (exR (some (0 : Int32)))))) (cnd (((xs t_23.2.2.toNatClampNeg) &&& (63 : Int32)) = (12 : Int32)) (chk (vp_in (t_23.2.2 + (1 : Int32)) L) (chk (vp_in (t_23.2.2 + (2 : Int32)) L) (bnd (fL_depend t_23.1 t_23.2.1 (xs (t_23.2.2 + (1 : Int32)).toNatClampNeg) (xs (t_23.2.2 + (2 : Int32)).toNatClampNeg)) fun q676 => chk (vp_in (t_23.2.2 + (1 : Int32)) L) (chk (vp_in (t_23.2.2 + (2 : Int32)) L) (bnd (fX8_depend q676.2.2 (xs (t_23.2.2 + (1 : Int32)).toNatClampNeg) (xs (t_23.2.2 + (2 : Int32)).toNatClampNeg)) fun q694 => cnd ((fX8_thrown q694.2) = q676.1) (cnd (q676.1 = (0 : Int32)) (cnd ((lg_cmp ((q694.2 498 (0 : Int32).toNatClampNeg).toInt64) (q694.1.toInt64)) = (0 : Int32)) (fL_law_727 L xs t_23 q676.2.1 q694.2) (exR (some (0 : Int32)))) (fL_law_727 L xs t_23 q676.2.1 q694.2)) (exR (some (0 : Int32)))))))) (cnd (((xs t_23.2.2.toNatClampNeg) &&& (63 : Int32)) = (13 : Int32)) (bnd (fX8_targets t_23.2.1) fun q735 => cnd ((fX7_targets t_23.1) = q735.1) (fL_law_1592 L xs t_23 t_23.1 q735.2) (exR (some (0 : Int32)))) (cnd (((xs t_23.2.2.toNatClampNeg) &&& (63 : Int32)) = (14 : Int32)) (chk (vp_in (t_23.2.2 + (1 : Int32)) L) (bnd (fL_inputs t_23.1 t_23.2.1 (xs (t_23.2.2 + (1 : Int32)).toNatClampNeg)) fun q751 => chk (vp_in (t_23.2.2 + (1 : Int32)) L) (bnd (fX8_inputs q751.2.2 (xs (t_23.2.2 + (1 : Int32)).toNatClampNeg)) fun q763 => cnd ((fX8_thrown q763.2) = q751.1) (cnd (q751.1 = (0 : Int32)) (cnd ((lg_cmp ((q763.2 498 (0 : Int32).toNatClampNeg).toInt64) (q763.1.toInt64)) = (0 : Int32)) (fL_law_796 L xs t_23 q751.2.1 q763.2) (exR (some (0 : Int32)))) (fL_law_796 L xs t_23 q751.2.1 q763.2)) (exR (some (0 : Int32)))))) (cnd (((xs t_23.2.2.toNatClampNeg) &&& (63 : Int32)) = (15 : Int32)) (chk (vp_in (t_23.2.2 + (1 : Int32)) L) (bnd (fL_above t_23.1 t_23.2.1 (xs (t_23.2.2 + (1 : Int32)).toNatClampNeg)) fun q807 => chk (vp_in (t_23.2.2 + (1 : Int32)) L) (bnd (fX8_above q807.2.2 (xs (t_23.2.2 + (1 : Int32)).toNatClampNeg)) fun q819 => cnd ((fX8_thrown q819.2) = q807.1) (cnd (q807.1 = (0 : Int32)) (cnd ((lg_cmp ((q819.2 498 (0 : Int32).toNatClampNeg).toInt64) (q819.1.toInt64)) = (0 : Int32)) (fL_law_852 L xs t_23 q807.2.1 q819.2) (exR (some (0 : Int32)))) (fL_law_852 L xs t_23 q807.2.1 q819.2)) (exR (some (0 : Int32)))))) (cnd (((xs t_23.2.2.toNatClampNeg) &&& (63 : Int32)) = (16 : Int32)) (chk (vp_in (t_23.2.2 + (1 : Int32)) L) (bnd (fL_orderAt t_23.1 t_23.2.1 (xs (t_23.2.2 + (1 : Int32)).toNatClampNeg)) fun q863 => chk (vp_in (t_23.2.2 + (1 : Int32)) L) (bnd (fX8_orderAt q863.2.2 (xs (t_23.2.2 + (1 : Int32)).toNatClampNeg)) fun q875 => cnd ((fX8_thrown q875.2) = q863.1) (cnd (q863.1 = (0 : Int32)) (cnd ((lg_cmp ((q875.2 498 (0 : Int32).toNatClampNeg).toInt64) (q875.1.toInt64)) = (0 : Int32)) (fL_law_908 L xs t_23 q863.2.1 q875.2) (exR (some (0 : Int32)))) (fL_law_908 L xs t_23 q863.2.1 q875.2)) (exR (some (0 : Int32)))))) (cnd (((xs t_23.2.2.toNatClampNeg) &&& (63 : Int32)) = (17 : Int32)) (chk (vp_in (t_23.2.2 + (1 : Int32)) L) (bnd (fL_affectedBy t_23.1 t_23.2.1 (xs (t_23.2.2 + (1 : Int32)).toNatClampNeg)) fun q919 => chk (vp_in (t_23.2.2 + (1 : Int32)) L) (bnd (fX8_affectedBy q919.2.2 (xs (t_23.2.2 + (1 : Int32)).toNatClampNeg)) fun q931 => cnd ((fX8_thrown q931.2) = q919.1) (cnd (q919.1 = (0 : Int32)) (cnd ((lg_cmp ((q931.2 498 (0 : Int32).toNatClampNeg).toInt64) (q931.1.toInt64)) = (0 : Int32)) (fL_law_964 L xs t_23 q919.2.1 q931.2) (exR (some (0 : Int32)))) (fL_law_964 L xs t_23 q919.2.1 q931.2)) (exR (some (0 : Int32)))))) (cnd (((xs t_23.2.2.toNatClampNeg) &&& (63 : Int32)) = (18 : Int32)) (chk (vp_in (t_23.2.2 + (1 : Int32)) L) (bnd (fL_affectedByGoingDown t_23.1 t_23.2.1 (xs (t_23.2.2 + (1 : Int32)).toNatClampNeg)) fun q975 => chk (vp_in (t_23.2.2 + (1 : Int32)) L) (bnd (fX8_affectedByGoingDown q975.2.2 (xs (t_23.2.2 + (1 : Int32)).toNatClampNeg)) fun q987 => cnd ((fX8_thrown q987.2) = q975.1) (cnd (q975.1 = (0 : Int32)) (cnd ((lg_cmp ((q987.2 498 (0 : Int32).toNatClampNeg).toInt64) (q987.1.toInt64)) = (0 : Int32)) (fL_law_1020 L xs t_23 q975.2.1 q987.2) (exR (some (0 : Int32)))) (fL_law_1020 L xs t_23 q975.2.1 q987.2)) (exR (some (0 : Int32)))))) (cnd (((xs t_23.2.2.toNatClampNeg) &&& (63 : Int32)) = (19 : Int32)) (chk (vp_in (t_23.2.2 + (1 : Int32)) L) (bnd (fL_keyOf t_23.1 t_23.2.1 (xs (t_23.2.2 + (1 : Int32)).toNatClampNeg)) fun q1031 => chk (vp_in (t_23.2.2 + (1 : Int32)) L) (bnd (fX8_keyOf q1031.2.2 (xs (t_23.2.2 + (1 : Int32)).toNatClampNeg)) fun q1043 => cnd ((fX8_thrown q1043.2) = q1031.1) (cnd (q1031.1 = (0 : Int32)) (cnd ((lg_cmp ((q1043.2 498 (0 : Int32).toNatClampNeg).toInt64) (q1043.1.toInt64)) = (0 : Int32)) (fL_law_1076 L xs t_23 q1031.2.1 q1043.2) (exR (some (0 : Int32)))) (fL_law_1076 L xs t_23 q1031.2.1 q1043.2)) (exR (some (0 : Int32)))))) (cnd (((xs t_23.2.2.toNatClampNeg) &&& (63 : Int32)) = (20 : Int32)) (bnd (fX7_needed t_23.1) fun q1080 => bnd (fX8_needed t_23.2.1) fun q1084 => cnd (q1080.1 = q1084.1) (fL_law_1592 L xs t_23 q1080.2 q1084.2) (exR (some (0 : Int32)))) (cnd (((xs t_23.2.2.toNatClampNeg) &&& (63 : Int32)) = (21 : Int32)) (chk (vp_in (t_23.2.2 + (1 : Int32)) L) (bnd (fL_whyRun t_23.1 t_23.2.1 (xs (t_23.2.2 + (1 : Int32)).toNatClampNeg)) fun q1100 => chk (vp_in (t_23.2.2 + (1 : Int32)) L) (bnd (fX8_whyRun q1100.2.2 (xs (t_23.2.2 + (1 : Int32)).toNatClampNeg)) fun q1112 => cnd ((fX8_thrown q1112.2) = q1100.1) (cnd (q1100.1 = (0 : Int32)) (cnd ((lg_cmp ((q1112.2 498 (0 : Int32).toNatClampNeg).toInt64) (q1112.1.toInt64)) = (0 : Int32)) (fL_law_1145 L xs t_23 q1100.2.1 q1112.2) (exR (some (0 : Int32)))) (fL_law_1145 L xs t_23 q1100.2.1 q1112.2)) (exR (some (0 : Int32)))))) (cnd (((xs t_23.2.2.toNatClampNeg) &&& (63 : Int32)) = (22 : Int32)) (chk (vp_in (t_23.2.2 + (1 : Int32)) L) (bnd (fL_run t_23.1 t_23.2.1 (xs (t_23.2.2 + (1 : Int32)).toNatClampNeg)) fun q1156 => chk (vp_in (t_23.2.2 + (1 : Int32)) L) (bnd (fX8_run q1156.2.2 (xs (t_23.2.2 + (1 : Int32)).toNatClampNeg)) fun q1168 => cnd ((fX8_thrown q1168.2) = q1156.1) (cnd (q1156.1 = (0 : Int32)) (cnd ((lg_cmp ((q1168.2 498 (0 : Int32).toNatClampNeg).toInt64) (q1168.1.toInt64)) = (0 : Int32)) (fL_law_1201 L xs t_23 q1156.2.1 q1168.2) (exR (some (0 : Int32)))) (fL_law_1201 L xs t_23 q1156.2.1 q1168.2)) (exR (some (0 : Int32)))))) (cnd (((xs t_23.2.2.toNatClampNeg) &&& (63 : Int32)) = (23 : Int32)) (bnd (fL_runAll t_23.1 t_23.2.1) fun q1206 => bnd (fX8_runAll q1206.2.2) fun q1212 => cnd ((fX8_thrown q1212.2) = q1206.1) (cnd (q1206.1 = (0 : Int32)) (cnd ((lg_cmp ((q1212.2 498 (0 : Int32).toNatClampNeg).toInt64) (q1212.1.toInt64)) = (0 : Int32)) (fL_law_1245 L xs t_23 q1206.2.1 q1212.2) (exR (some (0 : Int32)))) (fL_law_1245 L xs t_23 q1206.2.1 q1212.2)) (exR (some (0 : Int32)))) (cnd (((xs t_23.2.2.toNatClampNeg) &&& (63 : Int32)) = (24 : Int32)) (bnd (fX8_keys t_23.2.1) fun q1253 => cnd ((fX7_keys t_23.1) = q1253.1) (fL_law_1592 L xs t_23 t_23.1 q1253.2) (exR (some (0 : Int32)))) (cnd (((xs t_23.2.2.toNatClampNeg) &&& (63 : Int32)) = (25 : Int32)) (chk (vp_in (t_23.2.2 + (1 : Int32)) L) (chk (vp_in (t_23.2.2 + (2 : Int32)) L) (bnd (fL_shardOf t_23.1 t_23.2.1 (xs (t_23.2.2 + (1 : Int32)).toNatClampNeg) (xs (t_23.2.2 + (2 : Int32)).toNatClampNeg)) fun q1275 => chk (vp_in (t_23.2.2 + (1 : Int32)) L) (chk (vp_in (t_23.2.2 + (2 : Int32)) L) (bnd (fX8_shardOf q1275.2.2 (xs (t_23.2.2 + (1 : Int32)).toNatClampNeg) (xs (t_23.2.2 + (2 : Int32)).toNatClampNeg)) fun q1293 => cnd ((fX8_thrown q1293.2) = q1275.1) (cnd (q1275.1 = (0 : Int32)) (cnd ((lg_cmp ((q1293.2 498 (0 : Int32).toNatClampNeg).toInt64) (q1293.1.toInt64)) = (0 : Int32)) (fL_law_1326 L xs t_23 q1275.2.1 q1293.2) (exR (some (0 : Int32)))) (fL_law_1326 L xs t_23 q1275.2.1 q1293.2)) (exR (some (0 : Int32)))))))) (cnd (((xs t_23.2.2.toNatClampNeg) &&& (63 : Int32)) = (26 : Int32)) (chk (vp_in (t_23.2.2 + (1 : Int32)) L) (bnd (fL_longestShard t_23.1 t_23.2.1 (xs (t_23.2.2 + (1 : Int32)).toNatClampNeg)) fun q1337 => chk (vp_in (t_23.2.2 + (1 : Int32)) L) (bnd (fX8_longestShard q1337.2.2 (xs (t_23.2.2 + (1 : Int32)).toNatClampNeg)) fun q1349 => cnd ((fX8_thrown q1349.2) = q1337.1) (cnd (q1337.1 = (0 : Int32)) (cnd ((lg_cmp ((q1349.2 498 (0 : Int32).toNatClampNeg).toInt64) (q1349.1.toInt64)) = (0 : Int32)) (fL_law_1382 L xs t_23 q1337.2.1 q1349.2) (exR (some (0 : Int32)))) (fL_law_1382 L xs t_23 q1337.2.1 q1349.2)) (exR (some (0 : Int32)))))) (cnd (((xs t_23.2.2.toNatClampNeg) &&& (63 : Int32)) = (27 : Int32)) (chk (vp_in (t_23.2.2 + (1 : Int32)) L) (bnd (fL_shardsFor t_23.1 t_23.2.1 (xs (t_23.2.2 + (1 : Int32)).toNatClampNeg)) fun q1393 => chk (vp_in (t_23.2.2 + (1 : Int32)) L) (bnd (fX8_shardsFor q1393.2.2 (xs (t_23.2.2 + (1 : Int32)).toNatClampNeg)) fun q1405 => cnd ((fX8_thrown q1405.2) = q1393.1) (cnd (q1393.1 = (0 : Int32)) (cnd ((lg_cmp ((q1405.2 498 (0 : Int32).toNatClampNeg).toInt64) (q1405.1.toInt64)) = (0 : Int32)) (fL_law_1438 L xs t_23 q1393.2.1 q1405.2) (exR (some (0 : Int32)))) (fL_law_1438 L xs t_23 q1393.2.1 q1405.2)) (exR (some (0 : Int32)))))) (cnd (((xs t_23.2.2.toNatClampNeg) &&& (63 : Int32)) = (28 : Int32)) (chk (vp_in (t_23.2.2 + (1 : Int32)) L) (bnd (fL_addRule t_23.1 t_23.2.1 (xs (t_23.2.2 + (1 : Int32)).toNatClampNeg)) fun q1449 => chk (vp_in (t_23.2.2 + (1 : Int32)) L) (bnd (fX8_addRule q1449.2.2 (xs (t_23.2.2 + (1 : Int32)).toNatClampNeg)) fun q1461 => cnd ((fX8_thrown q1461.2) = q1449.1) (cnd (q1449.1 = (0 : Int32)) (cnd ((lg_cmp ((q1461.2 498 (0 : Int32).toNatClampNeg).toInt64) (q1461.1.toInt64)) = (0 : Int32)) (fL_law_1494 L xs t_23 q1449.2.1 q1461.2) (exR (some (0 : Int32)))) (fL_law_1494 L xs t_23 q1449.2.1 q1461.2)) (exR (some (0 : Int32)))))) (cnd (((xs t_23.2.2.toNatClampNeg) &&& (63 : Int32)) = (29 : Int32)) (chk (vp_in (t_23.2.2 + (1 : Int32)) L) (bnd (fL_ownerOf t_23.1 t_23.2.1 (xs (t_23.2.2 + (1 : Int32)).toNatClampNeg)) fun q1505 => chk (vp_in (t_23.2.2 + (1 : Int32)) L) (bnd (fX8_ownerOf q1505.2.2 (xs (t_23.2.2 + (1 : Int32)).toNatClampNeg)) fun q1517 => cnd ((fX8_thrown q1517.2) = q1505.1) (cnd (q1505.1 = (0 : Int32)) (cnd ((lg_cmp ((q1517.2 498 (0 : Int32).toNatClampNeg).toInt64) (q1517.1.toInt64)) = (0 : Int32)) (fL_law_1550 L xs t_23 q1505.2.1 q1517.2) (exR (some (0 : Int32)))) (fL_law_1550 L xs t_23 q1505.2.1 q1517.2)) (exR (some (0 : Int32)))))) (cnd (((xs t_23.2.2.toNatClampNeg) &&& (63 : Int32)) = (30 : Int32)) (bnd (fX7_mark t_23.1) fun q1554 => bnd (fX8_mark t_23.2.1) fun q1558 => cnd (q1554.1 = q1558.1) (fL_law_1592 L xs t_23 q1554.2 q1558.2) (exR (some (0 : Int32)))) (cnd (((xs t_23.2.2.toNatClampNeg) &&& (63 : Int32)) = (31 : Int32)) (bnd (fX7_changed t_23.1) fun q1567 => bnd (fX8_changed t_23.2.1) fun q1571 => cnd (q1567 = q1571.1) (fL_law_1592 L xs t_23 t_23.1 q1571.2) (exR (some (0 : Int32)))) (cnd (((xs t_23.2.2.toNatClampNeg) &&& (63 : Int32)) = (32 : Int32)) (bnd (fX7_reviewers t_23.1) fun q1580 => bnd (fX8_reviewers t_23.2.1) fun q1584 => cnd (q1580 = q1584.1) (fL_law_1592 L xs t_23 t_23.1 q1584.2) (exR (some (0 : Int32)))) (fL_law_1592 L xs t_23 t_23.1 t_23.2.1)))))))))))))))))))))))))))))))))))
set_option maxRecDepth 100000 in
set_option maxHeartbeats 40000000 in
theorem law_loop {p : Program} {l : Launch} {e : Env} {s : State} {m : MethodId} {below : List Frame} {meth : Method} {c : Code} {Q : State → Prop} {Γ : gx_G} {b L : Nat} {xs : Nat → Int32} (hl0 : l.stackTraces = false) (hL : L ≤ 1536) (S : CallFix p m c code 7 s #[Value.ref b] TsG RL) (hG : gx_K Γ s) (hX : va_X b L xs s s.heap) (hbl : b < s.heap.size) (hbA : ¬ gA Γ b) (hret : ∀ (pc : Nat) (ls : Array Slot) (H : Heap) (locs : List Loc) (cs ss : Nat), va_S (gA Γ) s.heap H locs → cs ≤ 601024 → ss ≤ 7293034 → decode code pc = .ok (.ireturn, 1) → W p l e room_1 s m #[Value.ref b] below meth c H locs cs ss Q (F0 m pc ls [.int 1])) : ∀ (t_23 : Mem × Mem × Int32), lp (fL_law_23 L xs) t_23 = some (1 : Int32) → ∀ (n : Nat), t_23.2.2 = nI (3 * n) → n ≤ 512 → ∀ (cs ss : Nat), cs ≤ 1000 + 4 * n → ss ≤ 100000 + 24 * n → ∀ (H : Heap) (locs : List Loc) (ls : Array Slot), gx_W Γ t_23.1 t_23.2.1 H → va_S (gA Γ) s.heap H locs → lv_has ls 7 [(0, .ref b), (1, .ref (Γ.1 0)), (2, .ref (Γ.1 475)), (3, .ref (Γ.1 498)), (4, .int t_23.2.2)] → W p l e room_1 s m #[Value.ref b] below meth c H locs cs ss Q (F0 m 23 ls []) := by
  obtain ⟨hx, hb, hml, hown, hts⟩ := id S
  refine lp_ind (P := fun (t_23 : Mem × Mem × Int32) => ∀ (n : Nat), t_23.2.2 = nI (3 * n) → n ≤ 512 → ∀ (cs ss : Nat), cs ≤ 1000 + 4 * n → ss ≤ 100000 + 24 * n → ∀ (H : Heap) (locs : List Loc) (ls : Array Slot), gx_W Γ t_23.1 t_23.2.1 H → va_S (gA Γ) s.heap H locs → lv_has ls 7 [(0, .ref b), (1, .ref (Γ.1 0)), (2, .ref (Γ.1 475)), (3, .ref (Γ.1 498)), (4, .int t_23.2.2)] → W p l e room_1 s m #[Value.ref b] below meth c H locs cs ss Q (F0 m 23 ls [])) ?_
  intro t_23 y1 hf kI1 kX1 n en hn cs ss hcs hss H locs ls hW hS hl
  unfold fL_law_23 at hf
  refine lv_iload hx hb dL_law_23 (lv_at hl 4 rfl) ?_
  refine lv_aload_n hx hb dL_law_25 rfl (lv_at hl 0 rfl) ?_
  refine va_slen hx hb hX hbl hbA hS dL_law_26 ?_
  refine lv_iconst (v := (3 : Int32)) hx hb dL_law_27 (by decide) ?_
  refine lv_isub hx hb dL_law_28 ?_
  refine lv_icmp_gt (tgt := 1598) hx hb dL_law_29 (by decide) (fun c29 => ?_) (fun c29 => ?_)
  · have hf := cn_t c29 hf
    obtain ⟨z29, hf, ez⟩ := exR_e hf
    rw [kX1 _ ez] at hf
    refine lv_iconst (v := (1 : Int32)) hx hb dL_law_1598 (by decide) ?_
    exact hret _ _ _ _ _ _ hS (by omega) (by omega) dL_law_1599
  · have hf := cn_f c29 hf
    have c29n := And.intro en c29
    refine lv_aload_n hx hb dL_law_32 rfl (lv_at hl 0 rfl) ?_
    refine lv_iload hx hb dL_law_33 (lv_at hl 4 rfl) ?_
    have g35 := ck_p hf
    have hf := ck_r hf
    refine va_sld hx hb hX hbl hbA hS g35 dL_law_35 ?_
    refine lv_bipush (v := (63 : Int32)) hx hb dL_law_36 (by decide) ?_
    refine lv_iand hx hb dL_law_38 ?_
    have J_1592 : ∀ (C_1592 : Mem) (M_1592 : Mem), fL_law_1592 L xs t_23 C_1592 M_1592 = some y1 → ∀ (cs ss : Nat), cs ≤ 1003 + 4 * n → ss ≤ 100018 + 24 * n → ∀ (H : Heap) (locs : List Loc) (ls : Array Slot), gx_W Γ C_1592 M_1592 H → va_S (gA Γ) s.heap H locs → lv_has ls 7 [(0, .ref b), (1, .ref (Γ.1 0)), (2, .ref (Γ.1 475)), (3, .ref (Γ.1 498)), (4, .int t_23.2.2)] → W p l e room_1 s m #[Value.ref b] below meth c H locs cs ss Q (F0 m 1592 ls []) := by
      intro C_1592 M_1592 hf cs ss hcs hss H locs ls hW hS hl
      unfold fL_law_1592 at hf
      refine lv_iinc (v := (t_23.2.2 + (3 : Int32))) (lv' := [(4, .int (t_23.2.2 + (3 : Int32))), (0, .ref b), (1, .ref (Γ.1 0)), (2, .ref (Γ.1 475)), (3, .ref (Γ.1 498))]) hx hb dL_law_1592 hl (k := 4) rfl rfl (by decide) rfl (fun ls hl => ?_)
      refine lv_goto (tgt := 23) hx hb dL_law_1595 (by decide) ?_
      exact kI1 _ (Option.some.inj hf).symm (n + 1) (law_i3 en) (by have := law_stp hL hn c29n; omega) cs ss (by omega) (by omega) H locs ls hW hS (lv_sub hl [1, 2, 3, 4, 0] rfl)
    generalize esw : ((xs t_23.2.2.toNatClampNeg) &&& (63 : Int32)) = swx at hf ⊢
    by_cases w0 : swx = (0 : Int32)
    · have hf := cn_t w0 hf
      refine lv_tableIn (off := 145) (tgt := 184) hx hb dL_law_39 (by rw [w0]; decide) (by rw [w0]; decide) (by rw [w0]; decide) (by decide) ?_
      refine lv_aload_n hx hb dL_law_184 rfl (lv_at hl 1 rfl) ?_
      refine lv_aload_n hx hb dL_law_185 rfl (lv_at hl 0 rfl) ?_
      refine lv_iload hx hb dL_law_186 (lv_at hl 4 rfl) ?_
      refine lv_iconst (v := (1 : Int32)) hx hb dL_law_188 (by decide) ?_
      refine lv_iadd hx hb dL_law_189 ?_
      have g190 := ck_p hf
      have hf := ck_r hf
      refine va_sld hx hb hX hbl hbA hS g190 dL_law_190 ?_
      refine lv_i2c (v := ((xs (t_23.2.2 + (1 : Int32)).toNatClampNeg).toUInt32 % 65536).toInt32) hx hb dL_law_191 rfl ?_
      refine lv_aload_n hx hb dL_law_192 rfl (lv_at hl 3 rfl) ?_
      obtain ⟨q193, hq193, hf⟩ := bnd_e hf
      refine gk_i hS (gsw_run (rest := []) S hG hW hS [.ref (Γ.1 0), .int (((xs (t_23.2.2 + (1 : Int32)).toNatClampNeg).toUInt32 % 65536).toInt32), .ref (Γ.1 498)] (c_L_type l hl0 Γ t_23.1 t_23.2.1 (((xs (t_23.2.2 + (1 : Int32)).toNatClampNeg).toUInt32 % 65536).toInt32) hq193) pk_L_type ml_L_90 rfl rfl ⟨Nat.le_of_ble_eq_true rfl, Nat.le_of_ble_eq_true rfl⟩ rfl hl.1 rfl (Nat.le_of_ble_eq_true rfl) dL_law_193 ⟨by show cs + 1 ≤ 601024; omega, by show ss + 6 ≤ 7293034; omega⟩) (fun H locs hW hS => ?_)
      refine lv_istore (lv' := [(5, .int q193.1), (0, .ref b), (1, .ref (Γ.1 0)), (2, .ref (Γ.1 475)), (3, .ref (Γ.1 498)), (4, .int t_23.2.2)]) hx hb dL_law_196 hl (by decide) rfl (fun ls hl => ?_)
      refine lv_aload_n hx hb dL_law_198 rfl (lv_at hl 3 rfl) ?_
      refine lv_aload_n hx hb dL_law_199 rfl (lv_at hl 1 rfl) ?_
      refine lv_iload hx hb dL_law_200 (lv_at hl 5 rfl) ?_
      refine lv_iconst (v := (1 : Int32)) hx hb dL_law_202 (by decide) ?_
      refine lv_iadd hx hb dL_law_203 ?_
      have g204 := ck_p hf
      have hf := ck_r hf
      refine va_sld hx hb hX hbl hbA hS g204 dL_law_204 ?_
      refine lv_i2c (v := ((xs (t_23.2.2 + (1 : Int32)).toNatClampNeg).toUInt32 % 65536).toInt32) hx hb dL_law_205 rfl ?_
      obtain ⟨q206, hq206, hf⟩ := bnd_e hf
      refine gk0_i hS (gv_run (rest := []) S hG hW hS [.int (((xs (t_23.2.2 + (1 : Int32)).toNatClampNeg).toUInt32 % 65536).toInt32)] (c_X8_type l Γ q193.2.1 q193.2.2 (((xs (t_23.2.2 + (1 : Int32)).toNatClampNeg).toUInt32 % 65536).toInt32) hq206) pk_X8_type ml_L_95 (Nat.le_of_ble_eq_true rfl) rfl rfl rfl rfl ⟨Nat.le_of_ble_eq_true rfl, Nat.le_of_ble_eq_true rfl⟩ rfl hl.1 rfl (Nat.le_of_ble_eq_true rfl) dL_law_206 ⟨by show (cs + 1) + 0 ≤ 601024; omega, by show (ss + 6) + 0 ≤ 7293034; omega⟩) (fun H locs hW hS => ?_)
      refine lv_istore (lv' := [(6, .int q206.1), (5, .int q193.1), (0, .ref b), (1, .ref (Γ.1 0)), (2, .ref (Γ.1 475)), (3, .ref (Γ.1 498)), (4, .int t_23.2.2)]) hx hb dL_law_209 hl (by decide) rfl (fun ls hl => ?_)
      refine lv_aload_n hx hb dL_law_211 rfl (lv_at hl 4 rfl) ?_
      refine gk0_i hS (gv_run (rest := []) S hG hW hS [] (c_X8_thrown l Γ q193.2.1 q206.2) pk_X8_thrown ml_L_96 (Nat.le_of_ble_eq_true rfl) rfl rfl rfl rfl ⟨Nat.le_of_ble_eq_true rfl, Nat.le_of_ble_eq_true rfl⟩ rfl hl.1 rfl (Nat.le_of_ble_eq_true rfl) dL_law_212 ⟨by show (cs + 1) + 0 ≤ 601024; omega, by show (ss + 6) + 0 ≤ 7293034; omega⟩) (fun H locs hW hS => ?_)
      refine lv_iload hx hb dL_law_215 (lv_at hl 1 rfl) ?_
      refine lv_icmp_eq (tgt := 222) hx hb dL_law_217 (by decide) (fun c217 => ?_) (fun c217 => ?_)
      · have hf := cn_t c217 hf
        refine lv_iload hx hb dL_law_222 (lv_at hl 1 rfl) ?_
        have J_239 : ∀ (C_239 : Mem) (M_239 : Mem), fL_law_239 L xs t_23 C_239 M_239 = some y1 → ∀ (cs ss : Nat), cs ≤ 1003 + 4 * n → ss ≤ 100018 + 24 * n → ∀ (H : Heap) (locs : List Loc) (ls : Array Slot), gx_W Γ C_239 M_239 H → va_S (gA Γ) s.heap H locs → lv_has ls 7 [(0, .ref b), (1, .ref (Γ.1 0)), (2, .ref (Γ.1 475)), (3, .ref (Γ.1 498)), (4, .int t_23.2.2)] → W p l e room_1 s m #[Value.ref b] below meth c H locs cs ss Q (F0 m 239 ls []) := by
          intro C_239 M_239 hf cs ss hcs hss H locs ls hW hS hl
          unfold fL_law_239 at hf
          refine lv_goto (tgt := 1592) hx hb dL_law_239 (by decide) ?_
          exact J_1592 C_239 M_239 hf cs ss (by omega) (by omega) H locs ls hW hS (lv_sub hl [0, 1, 2, 3, 4] rfl)
        refine lv_if_ne (tgt := 239) hx hb dL_law_224 (by decide) (fun c224 => ?_) (fun c224 => ?_)
        · have hf := cn_f c224 hf
          exact J_239 q193.2.1 q206.2 hf (cs + 1) (ss + 6) (by omega) (by omega) H locs ls hW hS (lv_sub hl [2, 3, 4, 5, 6] rfl)
        · have hf := cn_t c224 hf
          refine lv_aload_n hx hb dL_law_227 rfl (lv_at hl 5 rfl) ?_
          refine lv_iconst (v := (0 : Int32)) hx hb dL_law_228 (by decide) ?_
          refine ald_out S hG hW in_01 dL_law_229 ?_
          refine lv_iload hx hb dL_law_230 (lv_at hl 0 rfl) ?_
          refine lv_i2l (v := q206.1.toInt64) hx hb dL_law_232 rfl ?_
          refine W.lcmp hx hb dL_law_233 ?_
          refine lv_if_eq (tgt := 239) hx hb dL_law_234 (by decide) (fun c234 => ?_) (fun c234 => ?_)
          · have hf := cn_t c234 hf
            exact J_239 q193.2.1 q206.2 hf (cs + 1) (ss + 6) (by omega) (by omega) H locs ls hW hS (lv_sub hl [2, 3, 4, 5, 6] rfl)
          · have hf := cn_f c234 hf
            obtain ⟨z234, hf, ez⟩ := exR_e hf
            rw [kX1 _ ez] at hf
            refine lv_iconst (v := (0 : Int32)) hx hb dL_law_237 (by decide) ?_
            exact absurd (Option.some.inj hf) (by decide)
      · have hf := cn_f c217 hf
        obtain ⟨z217, hf, ez⟩ := exR_e hf
        rw [kX1 _ ez] at hf
        refine lv_iconst (v := (0 : Int32)) hx hb dL_law_220 (by decide) ?_
        exact absurd (Option.some.inj hf) (by decide)
    · have hf := cn_f w0 hf
      by_cases w1 : swx = (1 : Int32)
      · have hf := cn_t w1 hf
        refine lv_tableIn (off := 203) (tgt := 242) hx hb dL_law_39 (by rw [w1]; decide) (by rw [w1]; decide) (by rw [w1]; decide) (by decide) ?_
        refine lv_aload_n hx hb dL_law_242 rfl (lv_at hl 1 rfl) ?_
        obtain ⟨q243, hq243, hf⟩ := bnd_e hf
        refine gk0_i hS (gv_run (rest := []) S hG hW hS [] (c_X7_clearText l Γ t_23.1 t_23.2.1 hq243) pk_X7_clearText ml_L_99 (Nat.le_of_ble_eq_true rfl) rfl rfl rfl rfl ⟨Nat.le_of_ble_eq_true rfl, Nat.le_of_ble_eq_true rfl⟩ rfl hl.1 rfl (Nat.le_of_ble_eq_true rfl) dL_law_243 ⟨by show cs + 0 ≤ 601024; omega, by show ss + 0 ≤ 7293034; omega⟩) (fun H locs hW hS => ?_)
        refine lv_aload_n hx hb dL_law_246 rfl (lv_at hl 2 rfl) ?_
        obtain ⟨q247, hq247, hf⟩ := bnd_e hf
        refine gk0_i hS (gv_run (rest := [.int q243.1]) S hG hW hS [] (c_X8_clearText l Γ q243.2 t_23.2.1 hq247) pk_X8_clearText ml_L_102 (Nat.le_of_ble_eq_true rfl) rfl rfl rfl rfl ⟨Nat.le_of_ble_eq_true rfl, Nat.le_of_ble_eq_true rfl⟩ rfl hl.1 rfl (Nat.le_of_ble_eq_true rfl) dL_law_247 ⟨by show cs + 0 ≤ 601024; omega, by show ss + 0 ≤ 7293034; omega⟩) (fun H locs hW hS => ?_)
        refine lv_icmp_eq (tgt := 1592) hx hb dL_law_250 (by decide) (fun c250 => ?_) (fun c250 => ?_)
        · have hf := cn_t c250 hf
          exact J_1592 q243.2 q247.2 hf cs ss (by omega) (by omega) H locs ls hW hS (lv_sub hl [0, 1, 2, 3, 4] rfl)
        · have hf := cn_f c250 hf
          obtain ⟨z250, hf, ez⟩ := exR_e hf
          rw [kX1 _ ez] at hf
          refine lv_iconst (v := (0 : Int32)) hx hb dL_law_253 (by decide) ?_
          exact absurd (Option.some.inj hf) (by decide)
      · have hf := cn_f w1 hf
        by_cases w2 : swx = (2 : Int32)
        · have hf := cn_t w2 hf
          refine lv_tableIn (off := 216) (tgt := 255) hx hb dL_law_39 (by rw [w2]; decide) (by rw [w2]; decide) (by rw [w2]; decide) (by decide) ?_
          refine lv_aload_n hx hb dL_law_255 rfl (lv_at hl 1 rfl) ?_
          obtain ⟨q256, hq256, hf⟩ := bnd_e hf
          refine gk0_i hS (gv_run (rest := []) S hG hW hS [] (c_X7_isPath l Γ t_23.1 t_23.2.1 hq256) pk_X7_isPath ml_L_103 (Nat.le_of_ble_eq_true rfl) rfl rfl rfl rfl ⟨Nat.le_of_ble_eq_true rfl, Nat.le_of_ble_eq_true rfl⟩ rfl hl.1 rfl (Nat.le_of_ble_eq_true rfl) dL_law_256 ⟨by show cs + 0 ≤ 601024; omega, by show ss + 0 ≤ 7293034; omega⟩) (fun H locs hW hS => ?_)
          refine lv_aload_n hx hb dL_law_259 rfl (lv_at hl 2 rfl) ?_
          obtain ⟨q260, hq260, hf⟩ := bnd_e hf
          refine gk0_i hS (gv_run (rest := [.int q256]) S hG hW hS [] (c_X8_isPath l Γ t_23.1 t_23.2.1 hq260) pk_X8_isPath ml_L_107 (Nat.le_of_ble_eq_true rfl) rfl rfl rfl rfl ⟨Nat.le_of_ble_eq_true rfl, Nat.le_of_ble_eq_true rfl⟩ rfl hl.1 rfl (Nat.le_of_ble_eq_true rfl) dL_law_260 ⟨by show cs + 0 ≤ 601024; omega, by show ss + 0 ≤ 7293034; omega⟩) (fun H locs hW hS => ?_)
          refine lv_icmp_eq (tgt := 1592) hx hb dL_law_263 (by decide) (fun c263 => ?_) (fun c263 => ?_)
          · have hf := cn_t c263 hf
            exact J_1592 t_23.1 q260.2 hf cs ss (by omega) (by omega) H locs ls hW hS (lv_sub hl [0, 1, 2, 3, 4] rfl)
          · have hf := cn_f c263 hf
            obtain ⟨z263, hf, ez⟩ := exR_e hf
            rw [kX1 _ ez] at hf
            refine lv_iconst (v := (0 : Int32)) hx hb dL_law_266 (by decide) ?_
            exact absurd (Option.some.inj hf) (by decide)
        · have hf := cn_f w2 hf
          by_cases w3 : swx = (3 : Int32)
          · have hf := cn_t w3 hf
            refine lv_tableIn (off := 229) (tgt := 268) hx hb dL_law_39 (by rw [w3]; decide) (by rw [w3]; decide) (by rw [w3]; decide) (by decide) ?_
            refine lv_aload_n hx hb dL_law_268 rfl (lv_at hl 1 rfl) ?_
            obtain ⟨q269, hq269, hf⟩ := bnd_e hf
            refine gk0_i hS (gv_run (rest := []) S hG hW hS [] (c_X7_isGlob l Γ t_23.1 t_23.2.1 hq269) pk_X7_isGlob ml_L_108 (Nat.le_of_ble_eq_true rfl) rfl rfl rfl rfl ⟨Nat.le_of_ble_eq_true rfl, Nat.le_of_ble_eq_true rfl⟩ rfl hl.1 rfl (Nat.le_of_ble_eq_true rfl) dL_law_269 ⟨by show cs + 0 ≤ 601024; omega, by show ss + 0 ≤ 7293034; omega⟩) (fun H locs hW hS => ?_)
            refine lv_aload_n hx hb dL_law_272 rfl (lv_at hl 2 rfl) ?_
            obtain ⟨q273, hq273, hf⟩ := bnd_e hf
            refine gk0_i hS (gv_run (rest := [.int q269]) S hG hW hS [] (c_X8_isGlob l Γ t_23.1 t_23.2.1 hq273) pk_X8_isGlob ml_L_111 (Nat.le_of_ble_eq_true rfl) rfl rfl rfl rfl ⟨Nat.le_of_ble_eq_true rfl, Nat.le_of_ble_eq_true rfl⟩ rfl hl.1 rfl (Nat.le_of_ble_eq_true rfl) dL_law_273 ⟨by show cs + 0 ≤ 601024; omega, by show ss + 0 ≤ 7293034; omega⟩) (fun H locs hW hS => ?_)
            refine lv_icmp_eq (tgt := 1592) hx hb dL_law_276 (by decide) (fun c276 => ?_) (fun c276 => ?_)
            · have hf := cn_t c276 hf
              exact J_1592 t_23.1 q273.2 hf cs ss (by omega) (by omega) H locs ls hW hS (lv_sub hl [0, 1, 2, 3, 4] rfl)
            · have hf := cn_f c276 hf
              obtain ⟨z276, hf, ez⟩ := exR_e hf
              rw [kX1 _ ez] at hf
              refine lv_iconst (v := (0 : Int32)) hx hb dL_law_279 (by decide) ?_
              exact absurd (Option.some.inj hf) (by decide)
          · have hf := cn_f w3 hf
            by_cases w4 : swx = (4 : Int32)
            · have hf := cn_t w4 hf
              refine lv_tableIn (off := 242) (tgt := 281) hx hb dL_law_39 (by rw [w4]; decide) (by rw [w4]; decide) (by rw [w4]; decide) (by decide) ?_
              refine lv_aload_n hx hb dL_law_281 rfl (lv_at hl 1 rfl) ?_
              refine lv_aload_n hx hb dL_law_282 rfl (lv_at hl 0 rfl) ?_
              refine lv_iload hx hb dL_law_283 (lv_at hl 4 rfl) ?_
              refine lv_iconst (v := (1 : Int32)) hx hb dL_law_285 (by decide) ?_
              refine lv_iadd hx hb dL_law_286 ?_
              have g287 := ck_p hf
              have hf := ck_r hf
              refine va_sld hx hb hX hbl hbA hS g287 dL_law_287 ?_
              refine lv_aload_n hx hb dL_law_288 rfl (lv_at hl 3 rfl) ?_
              obtain ⟨q289, hq289, hf⟩ := bnd_e hf
              refine gk_i hS (gsw_run (rest := []) S hG hW hS [.ref (Γ.1 0), .int (xs (t_23.2.2 + (1 : Int32)).toNatClampNeg), .ref (Γ.1 498)] (c_L_addFile l hl0 Γ t_23.1 t_23.2.1 (xs (t_23.2.2 + (1 : Int32)).toNatClampNeg) hq289) pk_L_addFile ml_L_112 rfl rfl ⟨Nat.le_of_ble_eq_true rfl, Nat.le_of_ble_eq_true rfl⟩ rfl hl.1 rfl (Nat.le_of_ble_eq_true rfl) dL_law_289 ⟨by show cs + 2 ≤ 601024; omega, by show ss + 12 ≤ 7293034; omega⟩) (fun H locs hW hS => ?_)
              refine lv_istore (lv' := [(5, .int q289.1), (0, .ref b), (1, .ref (Γ.1 0)), (2, .ref (Γ.1 475)), (3, .ref (Γ.1 498)), (4, .int t_23.2.2)]) hx hb dL_law_292 hl (by decide) rfl (fun ls hl => ?_)
              refine lv_aload_n hx hb dL_law_294 rfl (lv_at hl 3 rfl) ?_
              refine lv_aload_n hx hb dL_law_295 rfl (lv_at hl 1 rfl) ?_
              refine lv_iload hx hb dL_law_296 (lv_at hl 5 rfl) ?_
              refine lv_iconst (v := (1 : Int32)) hx hb dL_law_298 (by decide) ?_
              refine lv_iadd hx hb dL_law_299 ?_
              have g300 := ck_p hf
              have hf := ck_r hf
              refine va_sld hx hb hX hbl hbA hS g300 dL_law_300 ?_
              obtain ⟨q301, hq301, hf⟩ := bnd_e hf
              refine gk0_i hS (gv_run (rest := []) S hG hW hS [.int (xs (t_23.2.2 + (1 : Int32)).toNatClampNeg)] (c_X8_addFile l Γ q289.2.1 q289.2.2 (xs (t_23.2.2 + (1 : Int32)).toNatClampNeg) hq301) pk_X8_addFile ml_L_115 (Nat.le_of_ble_eq_true rfl) rfl rfl rfl rfl ⟨Nat.le_of_ble_eq_true rfl, Nat.le_of_ble_eq_true rfl⟩ rfl hl.1 rfl (Nat.le_of_ble_eq_true rfl) dL_law_301 ⟨by show (cs + 2) + 0 ≤ 601024; omega, by show (ss + 12) + 0 ≤ 7293034; omega⟩) (fun H locs hW hS => ?_)
              refine lv_istore (lv' := [(6, .int q301.1), (5, .int q289.1), (0, .ref b), (1, .ref (Γ.1 0)), (2, .ref (Γ.1 475)), (3, .ref (Γ.1 498)), (4, .int t_23.2.2)]) hx hb dL_law_304 hl (by decide) rfl (fun ls hl => ?_)
              refine lv_aload_n hx hb dL_law_306 rfl (lv_at hl 4 rfl) ?_
              refine gk0_i hS (gv_run (rest := []) S hG hW hS [] (c_X8_thrown l Γ q289.2.1 q301.2) pk_X8_thrown ml_L_96 (Nat.le_of_ble_eq_true rfl) rfl rfl rfl rfl ⟨Nat.le_of_ble_eq_true rfl, Nat.le_of_ble_eq_true rfl⟩ rfl hl.1 rfl (Nat.le_of_ble_eq_true rfl) dL_law_307 ⟨by show (cs + 2) + 0 ≤ 601024; omega, by show (ss + 12) + 0 ≤ 7293034; omega⟩) (fun H locs hW hS => ?_)
              refine lv_iload hx hb dL_law_310 (lv_at hl 1 rfl) ?_
              refine lv_icmp_eq (tgt := 317) hx hb dL_law_312 (by decide) (fun c312 => ?_) (fun c312 => ?_)
              · have hf := cn_t c312 hf
                refine lv_iload hx hb dL_law_317 (lv_at hl 1 rfl) ?_
                have J_334 : ∀ (C_334 : Mem) (M_334 : Mem), fL_law_334 L xs t_23 C_334 M_334 = some y1 → ∀ (cs ss : Nat), cs ≤ 1003 + 4 * n → ss ≤ 100018 + 24 * n → ∀ (H : Heap) (locs : List Loc) (ls : Array Slot), gx_W Γ C_334 M_334 H → va_S (gA Γ) s.heap H locs → lv_has ls 7 [(0, .ref b), (1, .ref (Γ.1 0)), (2, .ref (Γ.1 475)), (3, .ref (Γ.1 498)), (4, .int t_23.2.2)] → W p l e room_1 s m #[Value.ref b] below meth c H locs cs ss Q (F0 m 334 ls []) := by
                  intro C_334 M_334 hf cs ss hcs hss H locs ls hW hS hl
                  unfold fL_law_334 at hf
                  refine lv_goto (tgt := 1592) hx hb dL_law_334 (by decide) ?_
                  exact J_1592 C_334 M_334 hf cs ss (by omega) (by omega) H locs ls hW hS (lv_sub hl [0, 1, 2, 3, 4] rfl)
                refine lv_if_ne (tgt := 334) hx hb dL_law_319 (by decide) (fun c319 => ?_) (fun c319 => ?_)
                · have hf := cn_f c319 hf
                  exact J_334 q289.2.1 q301.2 hf (cs + 2) (ss + 12) (by omega) (by omega) H locs ls hW hS (lv_sub hl [2, 3, 4, 5, 6] rfl)
                · have hf := cn_t c319 hf
                  refine lv_aload_n hx hb dL_law_322 rfl (lv_at hl 5 rfl) ?_
                  refine lv_iconst (v := (0 : Int32)) hx hb dL_law_323 (by decide) ?_
                  refine ald_out S hG hW in_01 dL_law_324 ?_
                  refine lv_iload hx hb dL_law_325 (lv_at hl 0 rfl) ?_
                  refine lv_i2l (v := q301.1.toInt64) hx hb dL_law_327 rfl ?_
                  refine W.lcmp hx hb dL_law_328 ?_
                  refine lv_if_eq (tgt := 334) hx hb dL_law_329 (by decide) (fun c329 => ?_) (fun c329 => ?_)
                  · have hf := cn_t c329 hf
                    exact J_334 q289.2.1 q301.2 hf (cs + 2) (ss + 12) (by omega) (by omega) H locs ls hW hS (lv_sub hl [2, 3, 4, 5, 6] rfl)
                  · have hf := cn_f c329 hf
                    obtain ⟨z329, hf, ez⟩ := exR_e hf
                    rw [kX1 _ ez] at hf
                    refine lv_iconst (v := (0 : Int32)) hx hb dL_law_332 (by decide) ?_
                    exact absurd (Option.some.inj hf) (by decide)
              · have hf := cn_f c312 hf
                obtain ⟨z312, hf, ez⟩ := exR_e hf
                rw [kX1 _ ez] at hf
                refine lv_iconst (v := (0 : Int32)) hx hb dL_law_315 (by decide) ?_
                exact absurd (Option.some.inj hf) (by decide)
            · have hf := cn_f w4 hf
              by_cases w5 : swx = (5 : Int32)
              · have hf := cn_t w5 hf
                refine lv_tableIn (off := 298) (tgt := 337) hx hb dL_law_39 (by rw [w5]; decide) (by rw [w5]; decide) (by rw [w5]; decide) (by decide) ?_
                refine lv_aload_n hx hb dL_law_337 rfl (lv_at hl 1 rfl) ?_
                obtain ⟨q338, hq338, hf⟩ := bnd_e hf
                refine gk0_i hS (gv_run (rest := []) S hG hW hS [] (c_X7_findFile l Γ t_23.1 t_23.2.1 hq338) pk_X7_findFile ml_L_116 (Nat.le_of_ble_eq_true rfl) rfl rfl rfl rfl ⟨Nat.le_of_ble_eq_true rfl, Nat.le_of_ble_eq_true rfl⟩ rfl hl.1 rfl (Nat.le_of_ble_eq_true rfl) dL_law_338 ⟨by show cs + 0 ≤ 601024; omega, by show ss + 0 ≤ 7293034; omega⟩) (fun H locs hW hS => ?_)
                refine lv_aload_n hx hb dL_law_341 rfl (lv_at hl 2 rfl) ?_
                obtain ⟨q342, hq342, hf⟩ := bnd_e hf
                refine gk0_i hS (gv_run (rest := [.int q338]) S hG hW hS [] (c_X8_findFile l Γ t_23.1 t_23.2.1 hq342) pk_X8_findFile ml_L_119 (Nat.le_of_ble_eq_true rfl) rfl rfl rfl rfl ⟨Nat.le_of_ble_eq_true rfl, Nat.le_of_ble_eq_true rfl⟩ rfl hl.1 rfl (Nat.le_of_ble_eq_true rfl) dL_law_342 ⟨by show cs + 0 ≤ 601024; omega, by show ss + 0 ≤ 7293034; omega⟩) (fun H locs hW hS => ?_)
                refine lv_icmp_eq (tgt := 1592) hx hb dL_law_345 (by decide) (fun c345 => ?_) (fun c345 => ?_)
                · have hf := cn_t c345 hf
                  exact J_1592 t_23.1 q342.2 hf cs ss (by omega) (by omega) H locs ls hW hS (lv_sub hl [0, 1, 2, 3, 4] rfl)
                · have hf := cn_f c345 hf
                  obtain ⟨z345, hf, ez⟩ := exR_e hf
                  rw [kX1 _ ez] at hf
                  refine lv_iconst (v := (0 : Int32)) hx hb dL_law_348 (by decide) ?_
                  exact absurd (Option.some.inj hf) (by decide)
              · have hf := cn_f w5 hf
                by_cases w6 : swx = (6 : Int32)
                · have hf := cn_t w6 hf
                  refine lv_tableIn (off := 311) (tgt := 350) hx hb dL_law_39 (by rw [w6]; decide) (by rw [w6]; decide) (by rw [w6]; decide) (by decide) ?_
                  refine lv_aload_n hx hb dL_law_350 rfl (lv_at hl 1 rfl) ?_
                  refine lv_aload_n hx hb dL_law_351 rfl (lv_at hl 0 rfl) ?_
                  refine lv_iload hx hb dL_law_352 (lv_at hl 4 rfl) ?_
                  refine lv_iconst (v := (1 : Int32)) hx hb dL_law_354 (by decide) ?_
                  refine lv_iadd hx hb dL_law_355 ?_
                  have g356 := ck_p hf
                  have hf := ck_r hf
                  refine va_sld hx hb hX hbl hbA hS g356 dL_law_356 ?_
                  refine lv_aload_n hx hb dL_law_357 rfl (lv_at hl 0 rfl) ?_
                  refine lv_iload hx hb dL_law_358 (lv_at hl 4 rfl) ?_
                  refine lv_iconst (v := (2 : Int32)) hx hb dL_law_360 (by decide) ?_
                  refine lv_iadd hx hb dL_law_361 ?_
                  have g362 := ck_p hf
                  have hf := ck_r hf
                  refine va_sld hx hb hX hbl hbA hS g362 dL_law_362 ?_
                  refine lv_aload_n hx hb dL_law_363 rfl (lv_at hl 3 rfl) ?_
                  obtain ⟨q364, hq364, hf⟩ := bnd_e hf
                  refine gk_i hS (gsw_run (rest := []) S hG hW hS [.ref (Γ.1 0), .int (xs (t_23.2.2 + (1 : Int32)).toNatClampNeg), .int (xs (t_23.2.2 + (2 : Int32)).toNatClampNeg), .ref (Γ.1 498)] (c_L_edit l hl0 Γ t_23.1 t_23.2.1 (xs (t_23.2.2 + (1 : Int32)).toNatClampNeg) (xs (t_23.2.2 + (2 : Int32)).toNatClampNeg) hq364) pk_L_edit ml_L_120 rfl rfl ⟨Nat.le_of_ble_eq_true rfl, Nat.le_of_ble_eq_true rfl⟩ rfl hl.1 rfl (Nat.le_of_ble_eq_true rfl) dL_law_364 ⟨by show cs + 2 ≤ 601024; omega, by show ss + 12 ≤ 7293034; omega⟩) (fun H locs hW hS => ?_)
                  refine lv_istore (lv' := [(5, .int q364.1), (0, .ref b), (1, .ref (Γ.1 0)), (2, .ref (Γ.1 475)), (3, .ref (Γ.1 498)), (4, .int t_23.2.2)]) hx hb dL_law_367 hl (by decide) rfl (fun ls hl => ?_)
                  refine lv_aload_n hx hb dL_law_369 rfl (lv_at hl 3 rfl) ?_
                  refine lv_aload_n hx hb dL_law_370 rfl (lv_at hl 1 rfl) ?_
                  refine lv_iload hx hb dL_law_371 (lv_at hl 5 rfl) ?_
                  refine lv_iconst (v := (1 : Int32)) hx hb dL_law_373 (by decide) ?_
                  refine lv_iadd hx hb dL_law_374 ?_
                  have g375 := ck_p hf
                  have hf := ck_r hf
                  refine va_sld hx hb hX hbl hbA hS g375 dL_law_375 ?_
                  refine lv_aload_n hx hb dL_law_376 rfl (lv_at hl 1 rfl) ?_
                  refine lv_iload hx hb dL_law_377 (lv_at hl 5 rfl) ?_
                  refine lv_iconst (v := (2 : Int32)) hx hb dL_law_379 (by decide) ?_
                  refine lv_iadd hx hb dL_law_380 ?_
                  have g381 := ck_p hf
                  have hf := ck_r hf
                  refine va_sld hx hb hX hbl hbA hS g381 dL_law_381 ?_
                  obtain ⟨q382, hq382, hf⟩ := bnd_e hf
                  refine gk0_i hS (gv_run (rest := []) S hG hW hS [.int (xs (t_23.2.2 + (1 : Int32)).toNatClampNeg), .int (xs (t_23.2.2 + (2 : Int32)).toNatClampNeg)] (c_X8_edit l Γ q364.2.1 q364.2.2 (xs (t_23.2.2 + (1 : Int32)).toNatClampNeg) (xs (t_23.2.2 + (2 : Int32)).toNatClampNeg) hq382) pk_X8_edit ml_L_123 (Nat.le_of_ble_eq_true rfl) rfl rfl rfl rfl ⟨Nat.le_of_ble_eq_true rfl, Nat.le_of_ble_eq_true rfl⟩ rfl hl.1 rfl (Nat.le_of_ble_eq_true rfl) dL_law_382 ⟨by show (cs + 2) + 0 ≤ 601024; omega, by show (ss + 12) + 0 ≤ 7293034; omega⟩) (fun H locs hW hS => ?_)
                  refine lv_istore (lv' := [(6, .int q382.1), (5, .int q364.1), (0, .ref b), (1, .ref (Γ.1 0)), (2, .ref (Γ.1 475)), (3, .ref (Γ.1 498)), (4, .int t_23.2.2)]) hx hb dL_law_385 hl (by decide) rfl (fun ls hl => ?_)
                  refine lv_aload_n hx hb dL_law_387 rfl (lv_at hl 4 rfl) ?_
                  refine gk0_i hS (gv_run (rest := []) S hG hW hS [] (c_X8_thrown l Γ q364.2.1 q382.2) pk_X8_thrown ml_L_96 (Nat.le_of_ble_eq_true rfl) rfl rfl rfl rfl ⟨Nat.le_of_ble_eq_true rfl, Nat.le_of_ble_eq_true rfl⟩ rfl hl.1 rfl (Nat.le_of_ble_eq_true rfl) dL_law_388 ⟨by show (cs + 2) + 0 ≤ 601024; omega, by show (ss + 12) + 0 ≤ 7293034; omega⟩) (fun H locs hW hS => ?_)
                  refine lv_iload hx hb dL_law_391 (lv_at hl 1 rfl) ?_
                  refine lv_icmp_eq (tgt := 398) hx hb dL_law_393 (by decide) (fun c393 => ?_) (fun c393 => ?_)
                  · have hf := cn_t c393 hf
                    refine lv_iload hx hb dL_law_398 (lv_at hl 1 rfl) ?_
                    have J_415 : ∀ (C_415 : Mem) (M_415 : Mem), fL_law_415 L xs t_23 C_415 M_415 = some y1 → ∀ (cs ss : Nat), cs ≤ 1003 + 4 * n → ss ≤ 100018 + 24 * n → ∀ (H : Heap) (locs : List Loc) (ls : Array Slot), gx_W Γ C_415 M_415 H → va_S (gA Γ) s.heap H locs → lv_has ls 7 [(0, .ref b), (1, .ref (Γ.1 0)), (2, .ref (Γ.1 475)), (3, .ref (Γ.1 498)), (4, .int t_23.2.2)] → W p l e room_1 s m #[Value.ref b] below meth c H locs cs ss Q (F0 m 415 ls []) := by
                      intro C_415 M_415 hf cs ss hcs hss H locs ls hW hS hl
                      unfold fL_law_415 at hf
                      refine lv_goto (tgt := 1592) hx hb dL_law_415 (by decide) ?_
                      exact J_1592 C_415 M_415 hf cs ss (by omega) (by omega) H locs ls hW hS (lv_sub hl [0, 1, 2, 3, 4] rfl)
                    refine lv_if_ne (tgt := 415) hx hb dL_law_400 (by decide) (fun c400 => ?_) (fun c400 => ?_)
                    · have hf := cn_f c400 hf
                      exact J_415 q364.2.1 q382.2 hf (cs + 2) (ss + 12) (by omega) (by omega) H locs ls hW hS (lv_sub hl [2, 3, 4, 5, 6] rfl)
                    · have hf := cn_t c400 hf
                      refine lv_aload_n hx hb dL_law_403 rfl (lv_at hl 5 rfl) ?_
                      refine lv_iconst (v := (0 : Int32)) hx hb dL_law_404 (by decide) ?_
                      refine ald_out S hG hW in_01 dL_law_405 ?_
                      refine lv_iload hx hb dL_law_406 (lv_at hl 0 rfl) ?_
                      refine lv_i2l (v := q382.1.toInt64) hx hb dL_law_408 rfl ?_
                      refine W.lcmp hx hb dL_law_409 ?_
                      refine lv_if_eq (tgt := 415) hx hb dL_law_410 (by decide) (fun c410 => ?_) (fun c410 => ?_)
                      · have hf := cn_t c410 hf
                        exact J_415 q364.2.1 q382.2 hf (cs + 2) (ss + 12) (by omega) (by omega) H locs ls hW hS (lv_sub hl [2, 3, 4, 5, 6] rfl)
                      · have hf := cn_f c410 hf
                        obtain ⟨z410, hf, ez⟩ := exR_e hf
                        rw [kX1 _ ez] at hf
                        refine lv_iconst (v := (0 : Int32)) hx hb dL_law_413 (by decide) ?_
                        exact absurd (Option.some.inj hf) (by decide)
                  · have hf := cn_f c393 hf
                    obtain ⟨z393, hf, ez⟩ := exR_e hf
                    rw [kX1 _ ez] at hf
                    refine lv_iconst (v := (0 : Int32)) hx hb dL_law_396 (by decide) ?_
                    exact absurd (Option.some.inj hf) (by decide)
                · have hf := cn_f w6 hf
                  by_cases w7 : swx = (7 : Int32)
                  · have hf := cn_t w7 hf
                    refine lv_tableIn (off := 379) (tgt := 418) hx hb dL_law_39 (by rw [w7]; decide) (by rw [w7]; decide) (by rw [w7]; decide) (by decide) ?_
                    refine lv_aload_n hx hb dL_law_418 rfl (lv_at hl 1 rfl) ?_
                    refine lv_aload_n hx hb dL_law_419 rfl (lv_at hl 0 rfl) ?_
                    refine lv_iload hx hb dL_law_420 (lv_at hl 4 rfl) ?_
                    refine lv_iconst (v := (1 : Int32)) hx hb dL_law_422 (by decide) ?_
                    refine lv_iadd hx hb dL_law_423 ?_
                    have g424 := ck_p hf
                    have hf := ck_r hf
                    refine va_sld hx hb hX hbl hbA hS g424 dL_law_424 ?_
                    refine lv_aload_n hx hb dL_law_425 rfl (lv_at hl 3 rfl) ?_
                    obtain ⟨q426, hq426, hf⟩ := bnd_e hf
                    refine gk_i hS (gsw_run (rest := []) S hG hW hS [.ref (Γ.1 0), .int (xs (t_23.2.2 + (1 : Int32)).toNatClampNeg), .ref (Γ.1 498)] (c_L_delete l hl0 Γ t_23.1 t_23.2.1 (xs (t_23.2.2 + (1 : Int32)).toNatClampNeg) hq426) pk_L_delete ml_L_124 rfl rfl ⟨Nat.le_of_ble_eq_true rfl, Nat.le_of_ble_eq_true rfl⟩ rfl hl.1 rfl (Nat.le_of_ble_eq_true rfl) dL_law_426 ⟨by show cs + 1 ≤ 601024; omega, by show ss + 6 ≤ 7293034; omega⟩) (fun H locs hW hS => ?_)
                    refine lv_istore (lv' := [(5, .int q426.1), (0, .ref b), (1, .ref (Γ.1 0)), (2, .ref (Γ.1 475)), (3, .ref (Γ.1 498)), (4, .int t_23.2.2)]) hx hb dL_law_429 hl (by decide) rfl (fun ls hl => ?_)
                    refine lv_aload_n hx hb dL_law_431 rfl (lv_at hl 3 rfl) ?_
                    refine lv_aload_n hx hb dL_law_432 rfl (lv_at hl 1 rfl) ?_
                    refine lv_iload hx hb dL_law_433 (lv_at hl 5 rfl) ?_
                    refine lv_iconst (v := (1 : Int32)) hx hb dL_law_435 (by decide) ?_
                    refine lv_iadd hx hb dL_law_436 ?_
                    have g437 := ck_p hf
                    have hf := ck_r hf
                    refine va_sld hx hb hX hbl hbA hS g437 dL_law_437 ?_
                    obtain ⟨q438, hq438, hf⟩ := bnd_e hf
                    refine gk0_i hS (gv_run (rest := []) S hG hW hS [.int (xs (t_23.2.2 + (1 : Int32)).toNatClampNeg)] (c_X8_delete l Γ q426.2.1 q426.2.2 (xs (t_23.2.2 + (1 : Int32)).toNatClampNeg) hq438) pk_X8_delete ml_L_126 (Nat.le_of_ble_eq_true rfl) rfl rfl rfl rfl ⟨Nat.le_of_ble_eq_true rfl, Nat.le_of_ble_eq_true rfl⟩ rfl hl.1 rfl (Nat.le_of_ble_eq_true rfl) dL_law_438 ⟨by show (cs + 1) + 0 ≤ 601024; omega, by show (ss + 6) + 0 ≤ 7293034; omega⟩) (fun H locs hW hS => ?_)
                    refine lv_istore (lv' := [(6, .int q438.1), (5, .int q426.1), (0, .ref b), (1, .ref (Γ.1 0)), (2, .ref (Γ.1 475)), (3, .ref (Γ.1 498)), (4, .int t_23.2.2)]) hx hb dL_law_441 hl (by decide) rfl (fun ls hl => ?_)
                    refine lv_aload_n hx hb dL_law_443 rfl (lv_at hl 4 rfl) ?_
                    refine gk0_i hS (gv_run (rest := []) S hG hW hS [] (c_X8_thrown l Γ q426.2.1 q438.2) pk_X8_thrown ml_L_96 (Nat.le_of_ble_eq_true rfl) rfl rfl rfl rfl ⟨Nat.le_of_ble_eq_true rfl, Nat.le_of_ble_eq_true rfl⟩ rfl hl.1 rfl (Nat.le_of_ble_eq_true rfl) dL_law_444 ⟨by show (cs + 1) + 0 ≤ 601024; omega, by show (ss + 6) + 0 ≤ 7293034; omega⟩) (fun H locs hW hS => ?_)
                    refine lv_iload hx hb dL_law_447 (lv_at hl 1 rfl) ?_
                    refine lv_icmp_eq (tgt := 454) hx hb dL_law_449 (by decide) (fun c449 => ?_) (fun c449 => ?_)
                    · have hf := cn_t c449 hf
                      refine lv_iload hx hb dL_law_454 (lv_at hl 1 rfl) ?_
                      have J_471 : ∀ (C_471 : Mem) (M_471 : Mem), fL_law_471 L xs t_23 C_471 M_471 = some y1 → ∀ (cs ss : Nat), cs ≤ 1003 + 4 * n → ss ≤ 100018 + 24 * n → ∀ (H : Heap) (locs : List Loc) (ls : Array Slot), gx_W Γ C_471 M_471 H → va_S (gA Γ) s.heap H locs → lv_has ls 7 [(0, .ref b), (1, .ref (Γ.1 0)), (2, .ref (Γ.1 475)), (3, .ref (Γ.1 498)), (4, .int t_23.2.2)] → W p l e room_1 s m #[Value.ref b] below meth c H locs cs ss Q (F0 m 471 ls []) := by
                        intro C_471 M_471 hf cs ss hcs hss H locs ls hW hS hl
                        unfold fL_law_471 at hf
                        refine lv_goto (tgt := 1592) hx hb dL_law_471 (by decide) ?_
                        exact J_1592 C_471 M_471 hf cs ss (by omega) (by omega) H locs ls hW hS (lv_sub hl [0, 1, 2, 3, 4] rfl)
                      refine lv_if_ne (tgt := 471) hx hb dL_law_456 (by decide) (fun c456 => ?_) (fun c456 => ?_)
                      · have hf := cn_f c456 hf
                        exact J_471 q426.2.1 q438.2 hf (cs + 1) (ss + 6) (by omega) (by omega) H locs ls hW hS (lv_sub hl [2, 3, 4, 5, 6] rfl)
                      · have hf := cn_t c456 hf
                        refine lv_aload_n hx hb dL_law_459 rfl (lv_at hl 5 rfl) ?_
                        refine lv_iconst (v := (0 : Int32)) hx hb dL_law_460 (by decide) ?_
                        refine ald_out S hG hW in_01 dL_law_461 ?_
                        refine lv_iload hx hb dL_law_462 (lv_at hl 0 rfl) ?_
                        refine lv_i2l (v := q438.1.toInt64) hx hb dL_law_464 rfl ?_
                        refine W.lcmp hx hb dL_law_465 ?_
                        refine lv_if_eq (tgt := 471) hx hb dL_law_466 (by decide) (fun c466 => ?_) (fun c466 => ?_)
                        · have hf := cn_t c466 hf
                          exact J_471 q426.2.1 q438.2 hf (cs + 1) (ss + 6) (by omega) (by omega) H locs ls hW hS (lv_sub hl [2, 3, 4, 5, 6] rfl)
                        · have hf := cn_f c466 hf
                          obtain ⟨z466, hf, ez⟩ := exR_e hf
                          rw [kX1 _ ez] at hf
                          refine lv_iconst (v := (0 : Int32)) hx hb dL_law_469 (by decide) ?_
                          exact absurd (Option.some.inj hf) (by decide)
                    · have hf := cn_f c449 hf
                      obtain ⟨z449, hf, ez⟩ := exR_e hf
                      rw [kX1 _ ez] at hf
                      refine lv_iconst (v := (0 : Int32)) hx hb dL_law_452 (by decide) ?_
                      exact absurd (Option.some.inj hf) (by decide)
                  · have hf := cn_f w7 hf
                    by_cases w8 : swx = (8 : Int32)
                    · have hf := cn_t w8 hf
                      refine lv_tableIn (off := 435) (tgt := 474) hx hb dL_law_39 (by rw [w8]; decide) (by rw [w8]; decide) (by rw [w8]; decide) (by decide) ?_
                      refine lv_aload_n hx hb dL_law_474 rfl (lv_at hl 1 rfl) ?_
                      refine gk0_i hS (gv_run (rest := []) S hG hW hS [] (c_X7_files l Γ t_23.1 t_23.2.1) pk_X7_files ml_L_127 (Nat.le_of_ble_eq_true rfl) rfl rfl rfl rfl ⟨Nat.le_of_ble_eq_true rfl, Nat.le_of_ble_eq_true rfl⟩ rfl hl.1 rfl (Nat.le_of_ble_eq_true rfl) dL_law_475 ⟨by show cs + 0 ≤ 601024; omega, by show ss + 0 ≤ 7293034; omega⟩) (fun H locs hW hS => ?_)
                      refine lv_aload_n hx hb dL_law_478 rfl (lv_at hl 2 rfl) ?_
                      obtain ⟨q479, hq479, hf⟩ := bnd_e hf
                      refine gk0_i hS (gv_run (rest := [.int (fX7_files t_23.1)]) S hG hW hS [] (c_X8_files l Γ t_23.1 t_23.2.1 hq479) pk_X8_files ml_L_130 (Nat.le_of_ble_eq_true rfl) rfl rfl rfl rfl ⟨Nat.le_of_ble_eq_true rfl, Nat.le_of_ble_eq_true rfl⟩ rfl hl.1 rfl (Nat.le_of_ble_eq_true rfl) dL_law_479 ⟨by show cs + 0 ≤ 601024; omega, by show ss + 0 ≤ 7293034; omega⟩) (fun H locs hW hS => ?_)
                      refine lv_icmp_eq (tgt := 1592) hx hb dL_law_482 (by decide) (fun c482 => ?_) (fun c482 => ?_)
                      · have hf := cn_t c482 hf
                        exact J_1592 t_23.1 q479.2 hf cs ss (by omega) (by omega) H locs ls hW hS (lv_sub hl [0, 1, 2, 3, 4] rfl)
                      · have hf := cn_f c482 hf
                        obtain ⟨z482, hf, ez⟩ := exR_e hf
                        rw [kX1 _ ez] at hf
                        refine lv_iconst (v := (0 : Int32)) hx hb dL_law_485 (by decide) ?_
                        exact absurd (Option.some.inj hf) (by decide)
                    · have hf := cn_f w8 hf
                      by_cases w9 : swx = (9 : Int32)
                      · have hf := cn_t w9 hf
                        refine lv_tableIn (off := 448) (tgt := 487) hx hb dL_law_39 (by rw [w9]; decide) (by rw [w9]; decide) (by rw [w9]; decide) (by decide) ?_
                        refine lv_aload_n hx hb dL_law_487 rfl (lv_at hl 1 rfl) ?_
                        refine lv_aload_n hx hb dL_law_488 rfl (lv_at hl 0 rfl) ?_
                        refine lv_iload hx hb dL_law_489 (lv_at hl 4 rfl) ?_
                        refine lv_iconst (v := (1 : Int32)) hx hb dL_law_491 (by decide) ?_
                        refine lv_iadd hx hb dL_law_492 ?_
                        have g493 := ck_p hf
                        have hf := ck_r hf
                        refine va_sld hx hb hX hbl hbA hS g493 dL_law_493 ?_
                        refine lv_aload_n hx hb dL_law_494 rfl (lv_at hl 3 rfl) ?_
                        obtain ⟨q495, hq495, hf⟩ := bnd_e hf
                        refine gk_i hS (gsw_run (rest := []) S hG hW hS [.ref (Γ.1 0), .int (xs (t_23.2.2 + (1 : Int32)).toNatClampNeg), .ref (Γ.1 498)] (c_L_matches l hl0 Γ t_23.1 t_23.2.1 (xs (t_23.2.2 + (1 : Int32)).toNatClampNeg) hq495) pk_L_matches ml_L_131 rfl rfl ⟨Nat.le_of_ble_eq_true rfl, Nat.le_of_ble_eq_true rfl⟩ rfl hl.1 rfl (Nat.le_of_ble_eq_true rfl) dL_law_495 ⟨by show cs + 2 ≤ 601024; omega, by show ss + 12 ≤ 7293034; omega⟩) (fun H locs hW hS => ?_)
                        refine lv_istore (lv' := [(5, .int q495.1), (0, .ref b), (1, .ref (Γ.1 0)), (2, .ref (Γ.1 475)), (3, .ref (Γ.1 498)), (4, .int t_23.2.2)]) hx hb dL_law_498 hl (by decide) rfl (fun ls hl => ?_)
                        refine lv_aload_n hx hb dL_law_500 rfl (lv_at hl 3 rfl) ?_
                        refine lv_aload_n hx hb dL_law_501 rfl (lv_at hl 1 rfl) ?_
                        refine lv_iload hx hb dL_law_502 (lv_at hl 5 rfl) ?_
                        refine lv_iconst (v := (1 : Int32)) hx hb dL_law_504 (by decide) ?_
                        refine lv_iadd hx hb dL_law_505 ?_
                        have g506 := ck_p hf
                        have hf := ck_r hf
                        refine va_sld hx hb hX hbl hbA hS g506 dL_law_506 ?_
                        obtain ⟨q507, hq507, hf⟩ := bnd_e hf
                        refine gk0_i hS (gv_run (rest := []) S hG hW hS [.int (xs (t_23.2.2 + (1 : Int32)).toNatClampNeg)] (c_X8_matches l Γ q495.2.1 q495.2.2 (xs (t_23.2.2 + (1 : Int32)).toNatClampNeg) hq507) pk_X8_matches ml_L_133 (Nat.le_of_ble_eq_true rfl) rfl rfl rfl rfl ⟨Nat.le_of_ble_eq_true rfl, Nat.le_of_ble_eq_true rfl⟩ rfl hl.1 rfl (Nat.le_of_ble_eq_true rfl) dL_law_507 ⟨by show (cs + 2) + 0 ≤ 601024; omega, by show (ss + 12) + 0 ≤ 7293034; omega⟩) (fun H locs hW hS => ?_)
                        refine lv_istore (lv' := [(6, .int q507.1), (5, .int q495.1), (0, .ref b), (1, .ref (Γ.1 0)), (2, .ref (Γ.1 475)), (3, .ref (Γ.1 498)), (4, .int t_23.2.2)]) hx hb dL_law_510 hl (by decide) rfl (fun ls hl => ?_)
                        refine lv_aload_n hx hb dL_law_512 rfl (lv_at hl 4 rfl) ?_
                        refine gk0_i hS (gv_run (rest := []) S hG hW hS [] (c_X8_thrown l Γ q495.2.1 q507.2) pk_X8_thrown ml_L_96 (Nat.le_of_ble_eq_true rfl) rfl rfl rfl rfl ⟨Nat.le_of_ble_eq_true rfl, Nat.le_of_ble_eq_true rfl⟩ rfl hl.1 rfl (Nat.le_of_ble_eq_true rfl) dL_law_513 ⟨by show (cs + 2) + 0 ≤ 601024; omega, by show (ss + 12) + 0 ≤ 7293034; omega⟩) (fun H locs hW hS => ?_)
                        refine lv_iload hx hb dL_law_516 (lv_at hl 1 rfl) ?_
                        refine lv_icmp_eq (tgt := 523) hx hb dL_law_518 (by decide) (fun c518 => ?_) (fun c518 => ?_)
                        · have hf := cn_t c518 hf
                          refine lv_iload hx hb dL_law_523 (lv_at hl 1 rfl) ?_
                          have J_547 : ∀ (C_547 : Mem) (M_547 : Mem), fL_law_547 L xs t_23 C_547 M_547 = some y1 → ∀ (cs ss : Nat), cs ≤ 1003 + 4 * n → ss ≤ 100018 + 24 * n → ∀ (H : Heap) (locs : List Loc) (ls : Array Slot), gx_W Γ C_547 M_547 H → va_S (gA Γ) s.heap H locs → lv_has ls 7 [(0, .ref b), (1, .ref (Γ.1 0)), (2, .ref (Γ.1 475)), (3, .ref (Γ.1 498)), (4, .int t_23.2.2)] → W p l e room_1 s m #[Value.ref b] below meth c H locs cs ss Q (F0 m 547 ls []) := by
                            intro C_547 M_547 hf cs ss hcs hss H locs ls hW hS hl
                            unfold fL_law_547 at hf
                            refine lv_goto (tgt := 1592) hx hb dL_law_547 (by decide) ?_
                            exact J_1592 C_547 M_547 hf cs ss (by omega) (by omega) H locs ls hW hS (lv_sub hl [0, 1, 2, 3, 4] rfl)
                          refine lv_if_ne (tgt := 547) hx hb dL_law_525 (by decide) (fun c525 => ?_) (fun c525 => ?_)
                          · have hf := cn_f c525 hf
                            exact J_547 q495.2.1 q507.2 hf (cs + 2) (ss + 12) (by omega) (by omega) H locs ls hW hS (lv_sub hl [2, 3, 4, 5, 6] rfl)
                          · have hf := cn_t c525 hf
                            refine lv_aload_n hx hb dL_law_528 rfl (lv_at hl 5 rfl) ?_
                            refine lv_iconst (v := (0 : Int32)) hx hb dL_law_529 (by decide) ?_
                            refine ald_out S hG hW in_01 dL_law_530 ?_
                            refine lv_iload hx hb dL_law_531 (lv_at hl 0 rfl) ?_
                            have J_541 : ∀ (C_541 : Mem) (M_541 : Mem) (s0_541 : Int64) (s1_541 : Int64), fL_law_541 L xs t_23 C_541 M_541 s0_541 s1_541 = some y1 → ∀ (cs ss : Nat), cs ≤ 1003 + 4 * n → ss ≤ 100018 + 24 * n → ∀ (H : Heap) (locs : List Loc) (ls : Array Slot), gx_W Γ C_541 M_541 H → va_S (gA Γ) s.heap H locs → lv_has ls 7 [(0, .ref b), (1, .ref (Γ.1 0)), (2, .ref (Γ.1 475)), (3, .ref (Γ.1 498)), (4, .int t_23.2.2)] → W p l e room_1 s m #[Value.ref b] below meth c H locs cs ss Q (F0 m 541 ls [.long s0_541, .long s1_541]) := by
                              intro C_541 M_541 s0_541 s1_541 hf cs ss hcs hss H locs ls hW hS hl
                              unfold fL_law_541 at hf
                              refine W.lcmp hx hb dL_law_541 ?_
                              refine lv_if_eq (tgt := 547) hx hb dL_law_542 (by decide) (fun c542 => ?_) (fun c542 => ?_)
                              · have hf := cn_t c542 hf
                                exact J_547 C_541 M_541 hf cs ss (by omega) (by omega) H locs ls hW hS (lv_sub hl [0, 1, 2, 3, 4] rfl)
                              · have hf := cn_f c542 hf
                                obtain ⟨z542, hf, ez⟩ := exR_e hf
                                rw [kX1 _ ez] at hf
                                refine lv_iconst (v := (0 : Int32)) hx hb dL_law_545 (by decide) ?_
                                exact absurd (Option.some.inj hf) (by decide)
                            refine lv_if_eq (tgt := 540) hx hb dL_law_533 (by decide) (fun c533 => ?_) (fun c533 => ?_)
                            · have hf := cn_t c533 hf
                              refine lv_lconst (v := (0 : Int64)) hx hb dL_law_540 rfl ?_
                              exact J_541 q495.2.1 q507.2 (0 : Int64) ((q507.2 498 (0 : Int32).toNatClampNeg).toInt64) hf (cs + 2) (ss + 12) (by omega) (by omega) H locs ls hW hS (lv_sub hl [2, 3, 4, 5, 6] rfl)
                            · have hf := cn_f c533 hf
                              refine lv_lconst (v := (1 : Int64)) hx hb dL_law_536 rfl ?_
                              refine lv_goto (tgt := 541) hx hb dL_law_537 (by decide) ?_
                              exact J_541 q495.2.1 q507.2 (1 : Int64) ((q507.2 498 (0 : Int32).toNatClampNeg).toInt64) hf (cs + 2) (ss + 12) (by omega) (by omega) H locs ls hW hS (lv_sub hl [2, 3, 4, 5, 6] rfl)
                        · have hf := cn_f c518 hf
                          obtain ⟨z518, hf, ez⟩ := exR_e hf
                          rw [kX1 _ ez] at hf
                          refine lv_iconst (v := (0 : Int32)) hx hb dL_law_521 (by decide) ?_
                          exact absurd (Option.some.inj hf) (by decide)
                      · have hf := cn_f w9 hf
                        by_cases w10 : swx = (10 : Int32)
                        · have hf := cn_t w10 hf
                          refine lv_tableIn (off := 511) (tgt := 550) hx hb dL_law_39 (by rw [w10]; decide) (by rw [w10]; decide) (by rw [w10]; decide) (by decide) ?_
                          refine lv_aload_n hx hb dL_law_550 rfl (lv_at hl 1 rfl) ?_
                          refine lv_aload_n hx hb dL_law_551 rfl (lv_at hl 0 rfl) ?_
                          refine lv_iload hx hb dL_law_552 (lv_at hl 4 rfl) ?_
                          refine lv_iconst (v := (1 : Int32)) hx hb dL_law_554 (by decide) ?_
                          refine lv_iadd hx hb dL_law_555 ?_
                          have g556 := ck_p hf
                          have hf := ck_r hf
                          refine va_sld hx hb hX hbl hbA hS g556 dL_law_556 ?_
                          refine lv_aload_n hx hb dL_law_557 rfl (lv_at hl 3 rfl) ?_
                          obtain ⟨q558, hq558, hf⟩ := bnd_e hf
                          refine gk_i hS (gsw_run (rest := []) S hG hW hS [.ref (Γ.1 0), .int (xs (t_23.2.2 + (1 : Int32)).toNatClampNeg), .ref (Γ.1 498)] (c_L_addTarget l hl0 Γ t_23.1 t_23.2.1 (xs (t_23.2.2 + (1 : Int32)).toNatClampNeg) hq558) pk_L_addTarget ml_L_134 rfl rfl ⟨Nat.le_of_ble_eq_true rfl, Nat.le_of_ble_eq_true rfl⟩ rfl hl.1 rfl (Nat.le_of_ble_eq_true rfl) dL_law_558 ⟨by show cs + 1 ≤ 601024; omega, by show ss + 6 ≤ 7293034; omega⟩) (fun H locs hW hS => ?_)
                          refine lv_istore (lv' := [(5, .int q558.1), (0, .ref b), (1, .ref (Γ.1 0)), (2, .ref (Γ.1 475)), (3, .ref (Γ.1 498)), (4, .int t_23.2.2)]) hx hb dL_law_561 hl (by decide) rfl (fun ls hl => ?_)
                          refine lv_aload_n hx hb dL_law_563 rfl (lv_at hl 3 rfl) ?_
                          refine lv_aload_n hx hb dL_law_564 rfl (lv_at hl 1 rfl) ?_
                          refine lv_iload hx hb dL_law_565 (lv_at hl 5 rfl) ?_
                          refine lv_iconst (v := (1 : Int32)) hx hb dL_law_567 (by decide) ?_
                          refine lv_iadd hx hb dL_law_568 ?_
                          have g569 := ck_p hf
                          have hf := ck_r hf
                          refine va_sld hx hb hX hbl hbA hS g569 dL_law_569 ?_
                          obtain ⟨q570, hq570, hf⟩ := bnd_e hf
                          refine gk0_i hS (gv_run (rest := []) S hG hW hS [.int (xs (t_23.2.2 + (1 : Int32)).toNatClampNeg)] (c_X8_addTarget l Γ q558.2.1 q558.2.2 (xs (t_23.2.2 + (1 : Int32)).toNatClampNeg) hq570) pk_X8_addTarget ml_L_136 (Nat.le_of_ble_eq_true rfl) rfl rfl rfl rfl ⟨Nat.le_of_ble_eq_true rfl, Nat.le_of_ble_eq_true rfl⟩ rfl hl.1 rfl (Nat.le_of_ble_eq_true rfl) dL_law_570 ⟨by show (cs + 1) + 0 ≤ 601024; omega, by show (ss + 6) + 0 ≤ 7293034; omega⟩) (fun H locs hW hS => ?_)
                          refine lv_istore (lv' := [(6, .int q570.1), (5, .int q558.1), (0, .ref b), (1, .ref (Γ.1 0)), (2, .ref (Γ.1 475)), (3, .ref (Γ.1 498)), (4, .int t_23.2.2)]) hx hb dL_law_573 hl (by decide) rfl (fun ls hl => ?_)
                          refine lv_aload_n hx hb dL_law_575 rfl (lv_at hl 4 rfl) ?_
                          refine gk0_i hS (gv_run (rest := []) S hG hW hS [] (c_X8_thrown l Γ q558.2.1 q570.2) pk_X8_thrown ml_L_96 (Nat.le_of_ble_eq_true rfl) rfl rfl rfl rfl ⟨Nat.le_of_ble_eq_true rfl, Nat.le_of_ble_eq_true rfl⟩ rfl hl.1 rfl (Nat.le_of_ble_eq_true rfl) dL_law_576 ⟨by show (cs + 1) + 0 ≤ 601024; omega, by show (ss + 6) + 0 ≤ 7293034; omega⟩) (fun H locs hW hS => ?_)
                          refine lv_iload hx hb dL_law_579 (lv_at hl 1 rfl) ?_
                          refine lv_icmp_eq (tgt := 586) hx hb dL_law_581 (by decide) (fun c581 => ?_) (fun c581 => ?_)
                          · have hf := cn_t c581 hf
                            refine lv_iload hx hb dL_law_586 (lv_at hl 1 rfl) ?_
                            have J_603 : ∀ (C_603 : Mem) (M_603 : Mem), fL_law_603 L xs t_23 C_603 M_603 = some y1 → ∀ (cs ss : Nat), cs ≤ 1003 + 4 * n → ss ≤ 100018 + 24 * n → ∀ (H : Heap) (locs : List Loc) (ls : Array Slot), gx_W Γ C_603 M_603 H → va_S (gA Γ) s.heap H locs → lv_has ls 7 [(0, .ref b), (1, .ref (Γ.1 0)), (2, .ref (Γ.1 475)), (3, .ref (Γ.1 498)), (4, .int t_23.2.2)] → W p l e room_1 s m #[Value.ref b] below meth c H locs cs ss Q (F0 m 603 ls []) := by
                              intro C_603 M_603 hf cs ss hcs hss H locs ls hW hS hl
                              unfold fL_law_603 at hf
                              refine lv_goto (tgt := 1592) hx hb dL_law_603 (by decide) ?_
                              exact J_1592 C_603 M_603 hf cs ss (by omega) (by omega) H locs ls hW hS (lv_sub hl [0, 1, 2, 3, 4] rfl)
                            refine lv_if_ne (tgt := 603) hx hb dL_law_588 (by decide) (fun c588 => ?_) (fun c588 => ?_)
                            · have hf := cn_f c588 hf
                              exact J_603 q558.2.1 q570.2 hf (cs + 1) (ss + 6) (by omega) (by omega) H locs ls hW hS (lv_sub hl [2, 3, 4, 5, 6] rfl)
                            · have hf := cn_t c588 hf
                              refine lv_aload_n hx hb dL_law_591 rfl (lv_at hl 5 rfl) ?_
                              refine lv_iconst (v := (0 : Int32)) hx hb dL_law_592 (by decide) ?_
                              refine ald_out S hG hW in_01 dL_law_593 ?_
                              refine lv_iload hx hb dL_law_594 (lv_at hl 0 rfl) ?_
                              refine lv_i2l (v := q570.1.toInt64) hx hb dL_law_596 rfl ?_
                              refine W.lcmp hx hb dL_law_597 ?_
                              refine lv_if_eq (tgt := 603) hx hb dL_law_598 (by decide) (fun c598 => ?_) (fun c598 => ?_)
                              · have hf := cn_t c598 hf
                                exact J_603 q558.2.1 q570.2 hf (cs + 1) (ss + 6) (by omega) (by omega) H locs ls hW hS (lv_sub hl [2, 3, 4, 5, 6] rfl)
                              · have hf := cn_f c598 hf
                                obtain ⟨z598, hf, ez⟩ := exR_e hf
                                rw [kX1 _ ez] at hf
                                refine lv_iconst (v := (0 : Int32)) hx hb dL_law_601 (by decide) ?_
                                exact absurd (Option.some.inj hf) (by decide)
                          · have hf := cn_f c581 hf
                            obtain ⟨z581, hf, ez⟩ := exR_e hf
                            rw [kX1 _ ez] at hf
                            refine lv_iconst (v := (0 : Int32)) hx hb dL_law_584 (by decide) ?_
                            exact absurd (Option.some.inj hf) (by decide)
                        · have hf := cn_f w10 hf
                          by_cases w11 : swx = (11 : Int32)
                          · have hf := cn_t w11 hf
                            refine lv_tableIn (off := 567) (tgt := 606) hx hb dL_law_39 (by rw [w11]; decide) (by rw [w11]; decide) (by rw [w11]; decide) (by decide) ?_
                            refine lv_aload_n hx hb dL_law_606 rfl (lv_at hl 1 rfl) ?_
                            refine lv_aload_n hx hb dL_law_607 rfl (lv_at hl 0 rfl) ?_
                            refine lv_iload hx hb dL_law_608 (lv_at hl 4 rfl) ?_
                            refine lv_iconst (v := (1 : Int32)) hx hb dL_law_610 (by decide) ?_
                            refine lv_iadd hx hb dL_law_611 ?_
                            have g612 := ck_p hf
                            have hf := ck_r hf
                            refine va_sld hx hb hX hbl hbA hS g612 dL_law_612 ?_
                            refine lv_aload_n hx hb dL_law_613 rfl (lv_at hl 3 rfl) ?_
                            obtain ⟨q614, hq614, hf⟩ := bnd_e hf
                            refine gk_i hS (gsw_run (rest := []) S hG hW hS [.ref (Γ.1 0), .int (xs (t_23.2.2 + (1 : Int32)).toNatClampNeg), .ref (Γ.1 498)] (c_L_addGlob l hl0 Γ t_23.1 t_23.2.1 (xs (t_23.2.2 + (1 : Int32)).toNatClampNeg) hq614) pk_L_addGlob ml_L_137 rfl rfl ⟨Nat.le_of_ble_eq_true rfl, Nat.le_of_ble_eq_true rfl⟩ rfl hl.1 rfl (Nat.le_of_ble_eq_true rfl) dL_law_614 ⟨by show cs + 3 ≤ 601024; omega, by show ss + 18 ≤ 7293034; omega⟩) (fun H locs hW hS => ?_)
                            refine lv_istore (lv' := [(5, .int q614.1), (0, .ref b), (1, .ref (Γ.1 0)), (2, .ref (Γ.1 475)), (3, .ref (Γ.1 498)), (4, .int t_23.2.2)]) hx hb dL_law_617 hl (by decide) rfl (fun ls hl => ?_)
                            refine lv_aload_n hx hb dL_law_619 rfl (lv_at hl 3 rfl) ?_
                            refine lv_aload_n hx hb dL_law_620 rfl (lv_at hl 1 rfl) ?_
                            refine lv_iload hx hb dL_law_621 (lv_at hl 5 rfl) ?_
                            refine lv_iconst (v := (1 : Int32)) hx hb dL_law_623 (by decide) ?_
                            refine lv_iadd hx hb dL_law_624 ?_
                            have g625 := ck_p hf
                            have hf := ck_r hf
                            refine va_sld hx hb hX hbl hbA hS g625 dL_law_625 ?_
                            obtain ⟨q626, hq626, hf⟩ := bnd_e hf
                            refine gk0_i hS (gv_run (rest := []) S hG hW hS [.int (xs (t_23.2.2 + (1 : Int32)).toNatClampNeg)] (c_X8_addGlob l Γ q614.2.1 q614.2.2 (xs (t_23.2.2 + (1 : Int32)).toNatClampNeg) hq626) pk_X8_addGlob ml_L_139 (Nat.le_of_ble_eq_true rfl) rfl rfl rfl rfl ⟨Nat.le_of_ble_eq_true rfl, Nat.le_of_ble_eq_true rfl⟩ rfl hl.1 rfl (Nat.le_of_ble_eq_true rfl) dL_law_626 ⟨by show (cs + 3) + 0 ≤ 601024; omega, by show (ss + 18) + 0 ≤ 7293034; omega⟩) (fun H locs hW hS => ?_)
                            refine lv_istore (lv' := [(6, .int q626.1), (5, .int q614.1), (0, .ref b), (1, .ref (Γ.1 0)), (2, .ref (Γ.1 475)), (3, .ref (Γ.1 498)), (4, .int t_23.2.2)]) hx hb dL_law_629 hl (by decide) rfl (fun ls hl => ?_)
                            refine lv_aload_n hx hb dL_law_631 rfl (lv_at hl 4 rfl) ?_
                            refine gk0_i hS (gv_run (rest := []) S hG hW hS [] (c_X8_thrown l Γ q614.2.1 q626.2) pk_X8_thrown ml_L_96 (Nat.le_of_ble_eq_true rfl) rfl rfl rfl rfl ⟨Nat.le_of_ble_eq_true rfl, Nat.le_of_ble_eq_true rfl⟩ rfl hl.1 rfl (Nat.le_of_ble_eq_true rfl) dL_law_632 ⟨by show (cs + 3) + 0 ≤ 601024; omega, by show (ss + 18) + 0 ≤ 7293034; omega⟩) (fun H locs hW hS => ?_)
                            refine lv_iload hx hb dL_law_635 (lv_at hl 1 rfl) ?_
                            refine lv_icmp_eq (tgt := 642) hx hb dL_law_637 (by decide) (fun c637 => ?_) (fun c637 => ?_)
                            · have hf := cn_t c637 hf
                              refine lv_iload hx hb dL_law_642 (lv_at hl 1 rfl) ?_
                              have J_659 : ∀ (C_659 : Mem) (M_659 : Mem), fL_law_659 L xs t_23 C_659 M_659 = some y1 → ∀ (cs ss : Nat), cs ≤ 1003 + 4 * n → ss ≤ 100018 + 24 * n → ∀ (H : Heap) (locs : List Loc) (ls : Array Slot), gx_W Γ C_659 M_659 H → va_S (gA Γ) s.heap H locs → lv_has ls 7 [(0, .ref b), (1, .ref (Γ.1 0)), (2, .ref (Γ.1 475)), (3, .ref (Γ.1 498)), (4, .int t_23.2.2)] → W p l e room_1 s m #[Value.ref b] below meth c H locs cs ss Q (F0 m 659 ls []) := by
                                intro C_659 M_659 hf cs ss hcs hss H locs ls hW hS hl
                                unfold fL_law_659 at hf
                                refine lv_goto (tgt := 1592) hx hb dL_law_659 (by decide) ?_
                                exact J_1592 C_659 M_659 hf cs ss (by omega) (by omega) H locs ls hW hS (lv_sub hl [0, 1, 2, 3, 4] rfl)
                              refine lv_if_ne (tgt := 659) hx hb dL_law_644 (by decide) (fun c644 => ?_) (fun c644 => ?_)
                              · have hf := cn_f c644 hf
                                exact J_659 q614.2.1 q626.2 hf (cs + 3) (ss + 18) (by omega) (by omega) H locs ls hW hS (lv_sub hl [2, 3, 4, 5, 6] rfl)
                              · have hf := cn_t c644 hf
                                refine lv_aload_n hx hb dL_law_647 rfl (lv_at hl 5 rfl) ?_
                                refine lv_iconst (v := (0 : Int32)) hx hb dL_law_648 (by decide) ?_
                                refine ald_out S hG hW in_01 dL_law_649 ?_
                                refine lv_iload hx hb dL_law_650 (lv_at hl 0 rfl) ?_
                                refine lv_i2l (v := q626.1.toInt64) hx hb dL_law_652 rfl ?_
                                refine W.lcmp hx hb dL_law_653 ?_
                                refine lv_if_eq (tgt := 659) hx hb dL_law_654 (by decide) (fun c654 => ?_) (fun c654 => ?_)
                                · have hf := cn_t c654 hf
                                  exact J_659 q614.2.1 q626.2 hf (cs + 3) (ss + 18) (by omega) (by omega) H locs ls hW hS (lv_sub hl [2, 3, 4, 5, 6] rfl)
                                · have hf := cn_f c654 hf
                                  obtain ⟨z654, hf, ez⟩ := exR_e hf
                                  rw [kX1 _ ez] at hf
                                  refine lv_iconst (v := (0 : Int32)) hx hb dL_law_657 (by decide) ?_
                                  exact absurd (Option.some.inj hf) (by decide)
                            · have hf := cn_f c637 hf
                              obtain ⟨z637, hf, ez⟩ := exR_e hf
                              rw [kX1 _ ez] at hf
                              refine lv_iconst (v := (0 : Int32)) hx hb dL_law_640 (by decide) ?_
                              exact absurd (Option.some.inj hf) (by decide)
                          · have hf := cn_f w11 hf
                            by_cases w12 : swx = (12 : Int32)
                            · have hf := cn_t w12 hf
                              refine lv_tableIn (off := 623) (tgt := 662) hx hb dL_law_39 (by rw [w12]; decide) (by rw [w12]; decide) (by rw [w12]; decide) (by decide) ?_
                              refine lv_aload_n hx hb dL_law_662 rfl (lv_at hl 1 rfl) ?_
                              refine lv_aload_n hx hb dL_law_663 rfl (lv_at hl 0 rfl) ?_
                              refine lv_iload hx hb dL_law_664 (lv_at hl 4 rfl) ?_
                              refine lv_iconst (v := (1 : Int32)) hx hb dL_law_666 (by decide) ?_
                              refine lv_iadd hx hb dL_law_667 ?_
                              have g668 := ck_p hf
                              have hf := ck_r hf
                              refine va_sld hx hb hX hbl hbA hS g668 dL_law_668 ?_
                              refine lv_aload_n hx hb dL_law_669 rfl (lv_at hl 0 rfl) ?_
                              refine lv_iload hx hb dL_law_670 (lv_at hl 4 rfl) ?_
                              refine lv_iconst (v := (2 : Int32)) hx hb dL_law_672 (by decide) ?_
                              refine lv_iadd hx hb dL_law_673 ?_
                              have g674 := ck_p hf
                              have hf := ck_r hf
                              refine va_sld hx hb hX hbl hbA hS g674 dL_law_674 ?_
                              refine lv_aload_n hx hb dL_law_675 rfl (lv_at hl 3 rfl) ?_
                              obtain ⟨q676, hq676, hf⟩ := bnd_e hf
                              refine gk_i hS (gsw_run (rest := []) S hG hW hS [.ref (Γ.1 0), .int (xs (t_23.2.2 + (1 : Int32)).toNatClampNeg), .int (xs (t_23.2.2 + (2 : Int32)).toNatClampNeg), .ref (Γ.1 498)] (c_L_depend l hl0 Γ t_23.1 t_23.2.1 (xs (t_23.2.2 + (1 : Int32)).toNatClampNeg) (xs (t_23.2.2 + (2 : Int32)).toNatClampNeg) hq676) pk_L_depend ml_L_140 rfl rfl ⟨Nat.le_of_ble_eq_true rfl, Nat.le_of_ble_eq_true rfl⟩ rfl hl.1 rfl (Nat.le_of_ble_eq_true rfl) dL_law_676 ⟨by show cs + 3 ≤ 601024; omega, by show ss + 18 ≤ 7293034; omega⟩) (fun H locs hW hS => ?_)
                              refine lv_istore (lv' := [(5, .int q676.1), (0, .ref b), (1, .ref (Γ.1 0)), (2, .ref (Γ.1 475)), (3, .ref (Γ.1 498)), (4, .int t_23.2.2)]) hx hb dL_law_679 hl (by decide) rfl (fun ls hl => ?_)
                              refine lv_aload_n hx hb dL_law_681 rfl (lv_at hl 3 rfl) ?_
                              refine lv_aload_n hx hb dL_law_682 rfl (lv_at hl 1 rfl) ?_
                              refine lv_iload hx hb dL_law_683 (lv_at hl 5 rfl) ?_
                              refine lv_iconst (v := (1 : Int32)) hx hb dL_law_685 (by decide) ?_
                              refine lv_iadd hx hb dL_law_686 ?_
                              have g687 := ck_p hf
                              have hf := ck_r hf
                              refine va_sld hx hb hX hbl hbA hS g687 dL_law_687 ?_
                              refine lv_aload_n hx hb dL_law_688 rfl (lv_at hl 1 rfl) ?_
                              refine lv_iload hx hb dL_law_689 (lv_at hl 5 rfl) ?_
                              refine lv_iconst (v := (2 : Int32)) hx hb dL_law_691 (by decide) ?_
                              refine lv_iadd hx hb dL_law_692 ?_
                              have g693 := ck_p hf
                              have hf := ck_r hf
                              refine va_sld hx hb hX hbl hbA hS g693 dL_law_693 ?_
                              obtain ⟨q694, hq694, hf⟩ := bnd_e hf
                              refine gk0_i hS (gv_run (rest := []) S hG hW hS [.int (xs (t_23.2.2 + (1 : Int32)).toNatClampNeg), .int (xs (t_23.2.2 + (2 : Int32)).toNatClampNeg)] (c_X8_depend l Γ q676.2.1 q676.2.2 (xs (t_23.2.2 + (1 : Int32)).toNatClampNeg) (xs (t_23.2.2 + (2 : Int32)).toNatClampNeg) hq694) pk_X8_depend ml_L_142 (Nat.le_of_ble_eq_true rfl) rfl rfl rfl rfl ⟨Nat.le_of_ble_eq_true rfl, Nat.le_of_ble_eq_true rfl⟩ rfl hl.1 rfl (Nat.le_of_ble_eq_true rfl) dL_law_694 ⟨by show (cs + 3) + 0 ≤ 601024; omega, by show (ss + 18) + 0 ≤ 7293034; omega⟩) (fun H locs hW hS => ?_)
                              refine lv_istore (lv' := [(6, .int q694.1), (5, .int q676.1), (0, .ref b), (1, .ref (Γ.1 0)), (2, .ref (Γ.1 475)), (3, .ref (Γ.1 498)), (4, .int t_23.2.2)]) hx hb dL_law_697 hl (by decide) rfl (fun ls hl => ?_)
                              refine lv_aload_n hx hb dL_law_699 rfl (lv_at hl 4 rfl) ?_
                              refine gk0_i hS (gv_run (rest := []) S hG hW hS [] (c_X8_thrown l Γ q676.2.1 q694.2) pk_X8_thrown ml_L_96 (Nat.le_of_ble_eq_true rfl) rfl rfl rfl rfl ⟨Nat.le_of_ble_eq_true rfl, Nat.le_of_ble_eq_true rfl⟩ rfl hl.1 rfl (Nat.le_of_ble_eq_true rfl) dL_law_700 ⟨by show (cs + 3) + 0 ≤ 601024; omega, by show (ss + 18) + 0 ≤ 7293034; omega⟩) (fun H locs hW hS => ?_)
                              refine lv_iload hx hb dL_law_703 (lv_at hl 1 rfl) ?_
                              refine lv_icmp_eq (tgt := 710) hx hb dL_law_705 (by decide) (fun c705 => ?_) (fun c705 => ?_)
                              · have hf := cn_t c705 hf
                                refine lv_iload hx hb dL_law_710 (lv_at hl 1 rfl) ?_
                                have J_727 : ∀ (C_727 : Mem) (M_727 : Mem), fL_law_727 L xs t_23 C_727 M_727 = some y1 → ∀ (cs ss : Nat), cs ≤ 1003 + 4 * n → ss ≤ 100018 + 24 * n → ∀ (H : Heap) (locs : List Loc) (ls : Array Slot), gx_W Γ C_727 M_727 H → va_S (gA Γ) s.heap H locs → lv_has ls 7 [(0, .ref b), (1, .ref (Γ.1 0)), (2, .ref (Γ.1 475)), (3, .ref (Γ.1 498)), (4, .int t_23.2.2)] → W p l e room_1 s m #[Value.ref b] below meth c H locs cs ss Q (F0 m 727 ls []) := by
                                  intro C_727 M_727 hf cs ss hcs hss H locs ls hW hS hl
                                  unfold fL_law_727 at hf
                                  refine lv_goto (tgt := 1592) hx hb dL_law_727 (by decide) ?_
                                  exact J_1592 C_727 M_727 hf cs ss (by omega) (by omega) H locs ls hW hS (lv_sub hl [0, 1, 2, 3, 4] rfl)
                                refine lv_if_ne (tgt := 727) hx hb dL_law_712 (by decide) (fun c712 => ?_) (fun c712 => ?_)
                                · have hf := cn_f c712 hf
                                  exact J_727 q676.2.1 q694.2 hf (cs + 3) (ss + 18) (by omega) (by omega) H locs ls hW hS (lv_sub hl [2, 3, 4, 5, 6] rfl)
                                · have hf := cn_t c712 hf
                                  refine lv_aload_n hx hb dL_law_715 rfl (lv_at hl 5 rfl) ?_
                                  refine lv_iconst (v := (0 : Int32)) hx hb dL_law_716 (by decide) ?_
                                  refine ald_out S hG hW in_01 dL_law_717 ?_
                                  refine lv_iload hx hb dL_law_718 (lv_at hl 0 rfl) ?_
                                  refine lv_i2l (v := q694.1.toInt64) hx hb dL_law_720 rfl ?_
                                  refine W.lcmp hx hb dL_law_721 ?_
                                  refine lv_if_eq (tgt := 727) hx hb dL_law_722 (by decide) (fun c722 => ?_) (fun c722 => ?_)
                                  · have hf := cn_t c722 hf
                                    exact J_727 q676.2.1 q694.2 hf (cs + 3) (ss + 18) (by omega) (by omega) H locs ls hW hS (lv_sub hl [2, 3, 4, 5, 6] rfl)
                                  · have hf := cn_f c722 hf
                                    obtain ⟨z722, hf, ez⟩ := exR_e hf
                                    rw [kX1 _ ez] at hf
                                    refine lv_iconst (v := (0 : Int32)) hx hb dL_law_725 (by decide) ?_
                                    exact absurd (Option.some.inj hf) (by decide)
                              · have hf := cn_f c705 hf
                                obtain ⟨z705, hf, ez⟩ := exR_e hf
                                rw [kX1 _ ez] at hf
                                refine lv_iconst (v := (0 : Int32)) hx hb dL_law_708 (by decide) ?_
                                exact absurd (Option.some.inj hf) (by decide)
                            · have hf := cn_f w12 hf
                              by_cases w13 : swx = (13 : Int32)
                              · have hf := cn_t w13 hf
                                refine lv_tableIn (off := 691) (tgt := 730) hx hb dL_law_39 (by rw [w13]; decide) (by rw [w13]; decide) (by rw [w13]; decide) (by decide) ?_
                                refine lv_aload_n hx hb dL_law_730 rfl (lv_at hl 1 rfl) ?_
                                refine gk0_i hS (gv_run (rest := []) S hG hW hS [] (c_X7_targets l Γ t_23.1 t_23.2.1) pk_X7_targets ml_L_143 (Nat.le_of_ble_eq_true rfl) rfl rfl rfl rfl ⟨Nat.le_of_ble_eq_true rfl, Nat.le_of_ble_eq_true rfl⟩ rfl hl.1 rfl (Nat.le_of_ble_eq_true rfl) dL_law_731 ⟨by show cs + 0 ≤ 601024; omega, by show ss + 0 ≤ 7293034; omega⟩) (fun H locs hW hS => ?_)
                                refine lv_aload_n hx hb dL_law_734 rfl (lv_at hl 2 rfl) ?_
                                obtain ⟨q735, hq735, hf⟩ := bnd_e hf
                                refine gk0_i hS (gv_run (rest := [.int (fX7_targets t_23.1)]) S hG hW hS [] (c_X8_targets l Γ t_23.1 t_23.2.1 hq735) pk_X8_targets ml_L_146 (Nat.le_of_ble_eq_true rfl) rfl rfl rfl rfl ⟨Nat.le_of_ble_eq_true rfl, Nat.le_of_ble_eq_true rfl⟩ rfl hl.1 rfl (Nat.le_of_ble_eq_true rfl) dL_law_735 ⟨by show cs + 0 ≤ 601024; omega, by show ss + 0 ≤ 7293034; omega⟩) (fun H locs hW hS => ?_)
                                refine lv_icmp_eq (tgt := 1592) hx hb dL_law_738 (by decide) (fun c738 => ?_) (fun c738 => ?_)
                                · have hf := cn_t c738 hf
                                  exact J_1592 t_23.1 q735.2 hf cs ss (by omega) (by omega) H locs ls hW hS (lv_sub hl [0, 1, 2, 3, 4] rfl)
                                · have hf := cn_f c738 hf
                                  obtain ⟨z738, hf, ez⟩ := exR_e hf
                                  rw [kX1 _ ez] at hf
                                  refine lv_iconst (v := (0 : Int32)) hx hb dL_law_741 (by decide) ?_
                                  exact absurd (Option.some.inj hf) (by decide)
                              · have hf := cn_f w13 hf
                                by_cases w14 : swx = (14 : Int32)
                                · have hf := cn_t w14 hf
                                  refine lv_tableIn (off := 704) (tgt := 743) hx hb dL_law_39 (by rw [w14]; decide) (by rw [w14]; decide) (by rw [w14]; decide) (by decide) ?_
                                  refine lv_aload_n hx hb dL_law_743 rfl (lv_at hl 1 rfl) ?_
                                  refine lv_aload_n hx hb dL_law_744 rfl (lv_at hl 0 rfl) ?_
                                  refine lv_iload hx hb dL_law_745 (lv_at hl 4 rfl) ?_
                                  refine lv_iconst (v := (1 : Int32)) hx hb dL_law_747 (by decide) ?_
                                  refine lv_iadd hx hb dL_law_748 ?_
                                  have g749 := ck_p hf
                                  have hf := ck_r hf
                                  refine va_sld hx hb hX hbl hbA hS g749 dL_law_749 ?_
                                  refine lv_aload_n hx hb dL_law_750 rfl (lv_at hl 3 rfl) ?_
                                  obtain ⟨q751, hq751, hf⟩ := bnd_e hf
                                  refine gk_i hS (gsw_run (rest := []) S hG hW hS [.ref (Γ.1 0), .int (xs (t_23.2.2 + (1 : Int32)).toNatClampNeg), .ref (Γ.1 498)] (c_L_inputs l hl0 Γ t_23.1 t_23.2.1 (xs (t_23.2.2 + (1 : Int32)).toNatClampNeg) hq751) pk_L_inputs ml_L_147 rfl rfl ⟨Nat.le_of_ble_eq_true rfl, Nat.le_of_ble_eq_true rfl⟩ rfl hl.1 rfl (Nat.le_of_ble_eq_true rfl) dL_law_751 ⟨by show cs + 1 ≤ 601024; omega, by show ss + 6 ≤ 7293034; omega⟩) (fun H locs hW hS => ?_)
                                  refine lv_istore (lv' := [(5, .int q751.1), (0, .ref b), (1, .ref (Γ.1 0)), (2, .ref (Γ.1 475)), (3, .ref (Γ.1 498)), (4, .int t_23.2.2)]) hx hb dL_law_754 hl (by decide) rfl (fun ls hl => ?_)
                                  refine lv_aload_n hx hb dL_law_756 rfl (lv_at hl 3 rfl) ?_
                                  refine lv_aload_n hx hb dL_law_757 rfl (lv_at hl 1 rfl) ?_
                                  refine lv_iload hx hb dL_law_758 (lv_at hl 5 rfl) ?_
                                  refine lv_iconst (v := (1 : Int32)) hx hb dL_law_760 (by decide) ?_
                                  refine lv_iadd hx hb dL_law_761 ?_
                                  have g762 := ck_p hf
                                  have hf := ck_r hf
                                  refine va_sld hx hb hX hbl hbA hS g762 dL_law_762 ?_
                                  obtain ⟨q763, hq763, hf⟩ := bnd_e hf
                                  refine gk0_i hS (gv_run (rest := []) S hG hW hS [.int (xs (t_23.2.2 + (1 : Int32)).toNatClampNeg)] (c_X8_inputs l Γ q751.2.1 q751.2.2 (xs (t_23.2.2 + (1 : Int32)).toNatClampNeg) hq763) pk_X8_inputs ml_L_149 (Nat.le_of_ble_eq_true rfl) rfl rfl rfl rfl ⟨Nat.le_of_ble_eq_true rfl, Nat.le_of_ble_eq_true rfl⟩ rfl hl.1 rfl (Nat.le_of_ble_eq_true rfl) dL_law_763 ⟨by show (cs + 1) + 0 ≤ 601024; omega, by show (ss + 6) + 0 ≤ 7293034; omega⟩) (fun H locs hW hS => ?_)
                                  refine lv_istore (lv' := [(6, .int q763.1), (5, .int q751.1), (0, .ref b), (1, .ref (Γ.1 0)), (2, .ref (Γ.1 475)), (3, .ref (Γ.1 498)), (4, .int t_23.2.2)]) hx hb dL_law_766 hl (by decide) rfl (fun ls hl => ?_)
                                  refine lv_aload_n hx hb dL_law_768 rfl (lv_at hl 4 rfl) ?_
                                  refine gk0_i hS (gv_run (rest := []) S hG hW hS [] (c_X8_thrown l Γ q751.2.1 q763.2) pk_X8_thrown ml_L_96 (Nat.le_of_ble_eq_true rfl) rfl rfl rfl rfl ⟨Nat.le_of_ble_eq_true rfl, Nat.le_of_ble_eq_true rfl⟩ rfl hl.1 rfl (Nat.le_of_ble_eq_true rfl) dL_law_769 ⟨by show (cs + 1) + 0 ≤ 601024; omega, by show (ss + 6) + 0 ≤ 7293034; omega⟩) (fun H locs hW hS => ?_)
                                  refine lv_iload hx hb dL_law_772 (lv_at hl 1 rfl) ?_
                                  refine lv_icmp_eq (tgt := 779) hx hb dL_law_774 (by decide) (fun c774 => ?_) (fun c774 => ?_)
                                  · have hf := cn_t c774 hf
                                    refine lv_iload hx hb dL_law_779 (lv_at hl 1 rfl) ?_
                                    have J_796 : ∀ (C_796 : Mem) (M_796 : Mem), fL_law_796 L xs t_23 C_796 M_796 = some y1 → ∀ (cs ss : Nat), cs ≤ 1003 + 4 * n → ss ≤ 100018 + 24 * n → ∀ (H : Heap) (locs : List Loc) (ls : Array Slot), gx_W Γ C_796 M_796 H → va_S (gA Γ) s.heap H locs → lv_has ls 7 [(0, .ref b), (1, .ref (Γ.1 0)), (2, .ref (Γ.1 475)), (3, .ref (Γ.1 498)), (4, .int t_23.2.2)] → W p l e room_1 s m #[Value.ref b] below meth c H locs cs ss Q (F0 m 796 ls []) := by
                                      intro C_796 M_796 hf cs ss hcs hss H locs ls hW hS hl
                                      unfold fL_law_796 at hf
                                      refine lv_goto (tgt := 1592) hx hb dL_law_796 (by decide) ?_
                                      exact J_1592 C_796 M_796 hf cs ss (by omega) (by omega) H locs ls hW hS (lv_sub hl [0, 1, 2, 3, 4] rfl)
                                    refine lv_if_ne (tgt := 796) hx hb dL_law_781 (by decide) (fun c781 => ?_) (fun c781 => ?_)
                                    · have hf := cn_f c781 hf
                                      exact J_796 q751.2.1 q763.2 hf (cs + 1) (ss + 6) (by omega) (by omega) H locs ls hW hS (lv_sub hl [2, 3, 4, 5, 6] rfl)
                                    · have hf := cn_t c781 hf
                                      refine lv_aload_n hx hb dL_law_784 rfl (lv_at hl 5 rfl) ?_
                                      refine lv_iconst (v := (0 : Int32)) hx hb dL_law_785 (by decide) ?_
                                      refine ald_out S hG hW in_01 dL_law_786 ?_
                                      refine lv_iload hx hb dL_law_787 (lv_at hl 0 rfl) ?_
                                      refine lv_i2l (v := q763.1.toInt64) hx hb dL_law_789 rfl ?_
                                      refine W.lcmp hx hb dL_law_790 ?_
                                      refine lv_if_eq (tgt := 796) hx hb dL_law_791 (by decide) (fun c791 => ?_) (fun c791 => ?_)
                                      · have hf := cn_t c791 hf
                                        exact J_796 q751.2.1 q763.2 hf (cs + 1) (ss + 6) (by omega) (by omega) H locs ls hW hS (lv_sub hl [2, 3, 4, 5, 6] rfl)
                                      · have hf := cn_f c791 hf
                                        obtain ⟨z791, hf, ez⟩ := exR_e hf
                                        rw [kX1 _ ez] at hf
                                        refine lv_iconst (v := (0 : Int32)) hx hb dL_law_794 (by decide) ?_
                                        exact absurd (Option.some.inj hf) (by decide)
                                  · have hf := cn_f c774 hf
                                    obtain ⟨z774, hf, ez⟩ := exR_e hf
                                    rw [kX1 _ ez] at hf
                                    refine lv_iconst (v := (0 : Int32)) hx hb dL_law_777 (by decide) ?_
                                    exact absurd (Option.some.inj hf) (by decide)
                                · have hf := cn_f w14 hf
                                  by_cases w15 : swx = (15 : Int32)
                                  · have hf := cn_t w15 hf
                                    refine lv_tableIn (off := 760) (tgt := 799) hx hb dL_law_39 (by rw [w15]; decide) (by rw [w15]; decide) (by rw [w15]; decide) (by decide) ?_
                                    refine lv_aload_n hx hb dL_law_799 rfl (lv_at hl 1 rfl) ?_
                                    refine lv_aload_n hx hb dL_law_800 rfl (lv_at hl 0 rfl) ?_
                                    refine lv_iload hx hb dL_law_801 (lv_at hl 4 rfl) ?_
                                    refine lv_iconst (v := (1 : Int32)) hx hb dL_law_803 (by decide) ?_
                                    refine lv_iadd hx hb dL_law_804 ?_
                                    have g805 := ck_p hf
                                    have hf := ck_r hf
                                    refine va_sld hx hb hX hbl hbA hS g805 dL_law_805 ?_
                                    refine lv_aload_n hx hb dL_law_806 rfl (lv_at hl 3 rfl) ?_
                                    obtain ⟨q807, hq807, hf⟩ := bnd_e hf
                                    refine gk_i hS (gsw_run (rest := []) S hG hW hS [.ref (Γ.1 0), .int (xs (t_23.2.2 + (1 : Int32)).toNatClampNeg), .ref (Γ.1 498)] (c_L_above l hl0 Γ t_23.1 t_23.2.1 (xs (t_23.2.2 + (1 : Int32)).toNatClampNeg) hq807) pk_L_above ml_L_150 rfl rfl ⟨Nat.le_of_ble_eq_true rfl, Nat.le_of_ble_eq_true rfl⟩ rfl hl.1 rfl (Nat.le_of_ble_eq_true rfl) dL_law_807 ⟨by show cs + 1 ≤ 601024; omega, by show ss + 6 ≤ 7293034; omega⟩) (fun H locs hW hS => ?_)
                                    refine lv_istore (lv' := [(5, .int q807.1), (0, .ref b), (1, .ref (Γ.1 0)), (2, .ref (Γ.1 475)), (3, .ref (Γ.1 498)), (4, .int t_23.2.2)]) hx hb dL_law_810 hl (by decide) rfl (fun ls hl => ?_)
                                    refine lv_aload_n hx hb dL_law_812 rfl (lv_at hl 3 rfl) ?_
                                    refine lv_aload_n hx hb dL_law_813 rfl (lv_at hl 1 rfl) ?_
                                    refine lv_iload hx hb dL_law_814 (lv_at hl 5 rfl) ?_
                                    refine lv_iconst (v := (1 : Int32)) hx hb dL_law_816 (by decide) ?_
                                    refine lv_iadd hx hb dL_law_817 ?_
                                    have g818 := ck_p hf
                                    have hf := ck_r hf
                                    refine va_sld hx hb hX hbl hbA hS g818 dL_law_818 ?_
                                    obtain ⟨q819, hq819, hf⟩ := bnd_e hf
                                    refine gk0_i hS (gv_run (rest := []) S hG hW hS [.int (xs (t_23.2.2 + (1 : Int32)).toNatClampNeg)] (c_X8_above l Γ q807.2.1 q807.2.2 (xs (t_23.2.2 + (1 : Int32)).toNatClampNeg) hq819) pk_X8_above ml_L_152 (Nat.le_of_ble_eq_true rfl) rfl rfl rfl rfl ⟨Nat.le_of_ble_eq_true rfl, Nat.le_of_ble_eq_true rfl⟩ rfl hl.1 rfl (Nat.le_of_ble_eq_true rfl) dL_law_819 ⟨by show (cs + 1) + 0 ≤ 601024; omega, by show (ss + 6) + 0 ≤ 7293034; omega⟩) (fun H locs hW hS => ?_)
                                    refine lv_istore (lv' := [(6, .int q819.1), (5, .int q807.1), (0, .ref b), (1, .ref (Γ.1 0)), (2, .ref (Γ.1 475)), (3, .ref (Γ.1 498)), (4, .int t_23.2.2)]) hx hb dL_law_822 hl (by decide) rfl (fun ls hl => ?_)
                                    refine lv_aload_n hx hb dL_law_824 rfl (lv_at hl 4 rfl) ?_
                                    refine gk0_i hS (gv_run (rest := []) S hG hW hS [] (c_X8_thrown l Γ q807.2.1 q819.2) pk_X8_thrown ml_L_96 (Nat.le_of_ble_eq_true rfl) rfl rfl rfl rfl ⟨Nat.le_of_ble_eq_true rfl, Nat.le_of_ble_eq_true rfl⟩ rfl hl.1 rfl (Nat.le_of_ble_eq_true rfl) dL_law_825 ⟨by show (cs + 1) + 0 ≤ 601024; omega, by show (ss + 6) + 0 ≤ 7293034; omega⟩) (fun H locs hW hS => ?_)
                                    refine lv_iload hx hb dL_law_828 (lv_at hl 1 rfl) ?_
                                    refine lv_icmp_eq (tgt := 835) hx hb dL_law_830 (by decide) (fun c830 => ?_) (fun c830 => ?_)
                                    · have hf := cn_t c830 hf
                                      refine lv_iload hx hb dL_law_835 (lv_at hl 1 rfl) ?_
                                      have J_852 : ∀ (C_852 : Mem) (M_852 : Mem), fL_law_852 L xs t_23 C_852 M_852 = some y1 → ∀ (cs ss : Nat), cs ≤ 1003 + 4 * n → ss ≤ 100018 + 24 * n → ∀ (H : Heap) (locs : List Loc) (ls : Array Slot), gx_W Γ C_852 M_852 H → va_S (gA Γ) s.heap H locs → lv_has ls 7 [(0, .ref b), (1, .ref (Γ.1 0)), (2, .ref (Γ.1 475)), (3, .ref (Γ.1 498)), (4, .int t_23.2.2)] → W p l e room_1 s m #[Value.ref b] below meth c H locs cs ss Q (F0 m 852 ls []) := by
                                        intro C_852 M_852 hf cs ss hcs hss H locs ls hW hS hl
                                        unfold fL_law_852 at hf
                                        refine lv_goto (tgt := 1592) hx hb dL_law_852 (by decide) ?_
                                        exact J_1592 C_852 M_852 hf cs ss (by omega) (by omega) H locs ls hW hS (lv_sub hl [0, 1, 2, 3, 4] rfl)
                                      refine lv_if_ne (tgt := 852) hx hb dL_law_837 (by decide) (fun c837 => ?_) (fun c837 => ?_)
                                      · have hf := cn_f c837 hf
                                        exact J_852 q807.2.1 q819.2 hf (cs + 1) (ss + 6) (by omega) (by omega) H locs ls hW hS (lv_sub hl [2, 3, 4, 5, 6] rfl)
                                      · have hf := cn_t c837 hf
                                        refine lv_aload_n hx hb dL_law_840 rfl (lv_at hl 5 rfl) ?_
                                        refine lv_iconst (v := (0 : Int32)) hx hb dL_law_841 (by decide) ?_
                                        refine ald_out S hG hW in_01 dL_law_842 ?_
                                        refine lv_iload hx hb dL_law_843 (lv_at hl 0 rfl) ?_
                                        refine lv_i2l (v := q819.1.toInt64) hx hb dL_law_845 rfl ?_
                                        refine W.lcmp hx hb dL_law_846 ?_
                                        refine lv_if_eq (tgt := 852) hx hb dL_law_847 (by decide) (fun c847 => ?_) (fun c847 => ?_)
                                        · have hf := cn_t c847 hf
                                          exact J_852 q807.2.1 q819.2 hf (cs + 1) (ss + 6) (by omega) (by omega) H locs ls hW hS (lv_sub hl [2, 3, 4, 5, 6] rfl)
                                        · have hf := cn_f c847 hf
                                          obtain ⟨z847, hf, ez⟩ := exR_e hf
                                          rw [kX1 _ ez] at hf
                                          refine lv_iconst (v := (0 : Int32)) hx hb dL_law_850 (by decide) ?_
                                          exact absurd (Option.some.inj hf) (by decide)
                                    · have hf := cn_f c830 hf
                                      obtain ⟨z830, hf, ez⟩ := exR_e hf
                                      rw [kX1 _ ez] at hf
                                      refine lv_iconst (v := (0 : Int32)) hx hb dL_law_833 (by decide) ?_
                                      exact absurd (Option.some.inj hf) (by decide)
                                  · have hf := cn_f w15 hf
                                    by_cases w16 : swx = (16 : Int32)
                                    · have hf := cn_t w16 hf
                                      refine lv_tableIn (off := 816) (tgt := 855) hx hb dL_law_39 (by rw [w16]; decide) (by rw [w16]; decide) (by rw [w16]; decide) (by decide) ?_
                                      refine lv_aload_n hx hb dL_law_855 rfl (lv_at hl 1 rfl) ?_
                                      refine lv_aload_n hx hb dL_law_856 rfl (lv_at hl 0 rfl) ?_
                                      refine lv_iload hx hb dL_law_857 (lv_at hl 4 rfl) ?_
                                      refine lv_iconst (v := (1 : Int32)) hx hb dL_law_859 (by decide) ?_
                                      refine lv_iadd hx hb dL_law_860 ?_
                                      have g861 := ck_p hf
                                      have hf := ck_r hf
                                      refine va_sld hx hb hX hbl hbA hS g861 dL_law_861 ?_
                                      refine lv_aload_n hx hb dL_law_862 rfl (lv_at hl 3 rfl) ?_
                                      obtain ⟨q863, hq863, hf⟩ := bnd_e hf
                                      refine gk_i hS (gsw_run (rest := []) S hG hW hS [.ref (Γ.1 0), .int (xs (t_23.2.2 + (1 : Int32)).toNatClampNeg), .ref (Γ.1 498)] (c_L_orderAt l hl0 Γ t_23.1 t_23.2.1 (xs (t_23.2.2 + (1 : Int32)).toNatClampNeg) hq863) pk_L_orderAt ml_L_153 rfl rfl ⟨Nat.le_of_ble_eq_true rfl, Nat.le_of_ble_eq_true rfl⟩ rfl hl.1 rfl (Nat.le_of_ble_eq_true rfl) dL_law_863 ⟨by show cs + 1 ≤ 601024; omega, by show ss + 6 ≤ 7293034; omega⟩) (fun H locs hW hS => ?_)
                                      refine lv_istore (lv' := [(5, .int q863.1), (0, .ref b), (1, .ref (Γ.1 0)), (2, .ref (Γ.1 475)), (3, .ref (Γ.1 498)), (4, .int t_23.2.2)]) hx hb dL_law_866 hl (by decide) rfl (fun ls hl => ?_)
                                      refine lv_aload_n hx hb dL_law_868 rfl (lv_at hl 3 rfl) ?_
                                      refine lv_aload_n hx hb dL_law_869 rfl (lv_at hl 1 rfl) ?_
                                      refine lv_iload hx hb dL_law_870 (lv_at hl 5 rfl) ?_
                                      refine lv_iconst (v := (1 : Int32)) hx hb dL_law_872 (by decide) ?_
                                      refine lv_iadd hx hb dL_law_873 ?_
                                      have g874 := ck_p hf
                                      have hf := ck_r hf
                                      refine va_sld hx hb hX hbl hbA hS g874 dL_law_874 ?_
                                      obtain ⟨q875, hq875, hf⟩ := bnd_e hf
                                      refine gk0_i hS (gv_run (rest := []) S hG hW hS [.int (xs (t_23.2.2 + (1 : Int32)).toNatClampNeg)] (c_X8_orderAt l Γ q863.2.1 q863.2.2 (xs (t_23.2.2 + (1 : Int32)).toNatClampNeg) hq875) pk_X8_orderAt ml_L_155 (Nat.le_of_ble_eq_true rfl) rfl rfl rfl rfl ⟨Nat.le_of_ble_eq_true rfl, Nat.le_of_ble_eq_true rfl⟩ rfl hl.1 rfl (Nat.le_of_ble_eq_true rfl) dL_law_875 ⟨by show (cs + 1) + 0 ≤ 601024; omega, by show (ss + 6) + 0 ≤ 7293034; omega⟩) (fun H locs hW hS => ?_)
                                      refine lv_istore (lv' := [(6, .int q875.1), (5, .int q863.1), (0, .ref b), (1, .ref (Γ.1 0)), (2, .ref (Γ.1 475)), (3, .ref (Γ.1 498)), (4, .int t_23.2.2)]) hx hb dL_law_878 hl (by decide) rfl (fun ls hl => ?_)
                                      refine lv_aload_n hx hb dL_law_880 rfl (lv_at hl 4 rfl) ?_
                                      refine gk0_i hS (gv_run (rest := []) S hG hW hS [] (c_X8_thrown l Γ q863.2.1 q875.2) pk_X8_thrown ml_L_96 (Nat.le_of_ble_eq_true rfl) rfl rfl rfl rfl ⟨Nat.le_of_ble_eq_true rfl, Nat.le_of_ble_eq_true rfl⟩ rfl hl.1 rfl (Nat.le_of_ble_eq_true rfl) dL_law_881 ⟨by show (cs + 1) + 0 ≤ 601024; omega, by show (ss + 6) + 0 ≤ 7293034; omega⟩) (fun H locs hW hS => ?_)
                                      refine lv_iload hx hb dL_law_884 (lv_at hl 1 rfl) ?_
                                      refine lv_icmp_eq (tgt := 891) hx hb dL_law_886 (by decide) (fun c886 => ?_) (fun c886 => ?_)
                                      · have hf := cn_t c886 hf
                                        refine lv_iload hx hb dL_law_891 (lv_at hl 1 rfl) ?_
                                        have J_908 : ∀ (C_908 : Mem) (M_908 : Mem), fL_law_908 L xs t_23 C_908 M_908 = some y1 → ∀ (cs ss : Nat), cs ≤ 1003 + 4 * n → ss ≤ 100018 + 24 * n → ∀ (H : Heap) (locs : List Loc) (ls : Array Slot), gx_W Γ C_908 M_908 H → va_S (gA Γ) s.heap H locs → lv_has ls 7 [(0, .ref b), (1, .ref (Γ.1 0)), (2, .ref (Γ.1 475)), (3, .ref (Γ.1 498)), (4, .int t_23.2.2)] → W p l e room_1 s m #[Value.ref b] below meth c H locs cs ss Q (F0 m 908 ls []) := by
                                          intro C_908 M_908 hf cs ss hcs hss H locs ls hW hS hl
                                          unfold fL_law_908 at hf
                                          refine lv_goto (tgt := 1592) hx hb dL_law_908 (by decide) ?_
                                          exact J_1592 C_908 M_908 hf cs ss (by omega) (by omega) H locs ls hW hS (lv_sub hl [0, 1, 2, 3, 4] rfl)
                                        refine lv_if_ne (tgt := 908) hx hb dL_law_893 (by decide) (fun c893 => ?_) (fun c893 => ?_)
                                        · have hf := cn_f c893 hf
                                          exact J_908 q863.2.1 q875.2 hf (cs + 1) (ss + 6) (by omega) (by omega) H locs ls hW hS (lv_sub hl [2, 3, 4, 5, 6] rfl)
                                        · have hf := cn_t c893 hf
                                          refine lv_aload_n hx hb dL_law_896 rfl (lv_at hl 5 rfl) ?_
                                          refine lv_iconst (v := (0 : Int32)) hx hb dL_law_897 (by decide) ?_
                                          refine ald_out S hG hW in_01 dL_law_898 ?_
                                          refine lv_iload hx hb dL_law_899 (lv_at hl 0 rfl) ?_
                                          refine lv_i2l (v := q875.1.toInt64) hx hb dL_law_901 rfl ?_
                                          refine W.lcmp hx hb dL_law_902 ?_
                                          refine lv_if_eq (tgt := 908) hx hb dL_law_903 (by decide) (fun c903 => ?_) (fun c903 => ?_)
                                          · have hf := cn_t c903 hf
                                            exact J_908 q863.2.1 q875.2 hf (cs + 1) (ss + 6) (by omega) (by omega) H locs ls hW hS (lv_sub hl [2, 3, 4, 5, 6] rfl)
                                          · have hf := cn_f c903 hf
                                            obtain ⟨z903, hf, ez⟩ := exR_e hf
                                            rw [kX1 _ ez] at hf
                                            refine lv_iconst (v := (0 : Int32)) hx hb dL_law_906 (by decide) ?_
                                            exact absurd (Option.some.inj hf) (by decide)
                                      · have hf := cn_f c886 hf
                                        obtain ⟨z886, hf, ez⟩ := exR_e hf
                                        rw [kX1 _ ez] at hf
                                        refine lv_iconst (v := (0 : Int32)) hx hb dL_law_889 (by decide) ?_
                                        exact absurd (Option.some.inj hf) (by decide)
                                    · have hf := cn_f w16 hf
                                      by_cases w17 : swx = (17 : Int32)
                                      · have hf := cn_t w17 hf
                                        refine lv_tableIn (off := 872) (tgt := 911) hx hb dL_law_39 (by rw [w17]; decide) (by rw [w17]; decide) (by rw [w17]; decide) (by decide) ?_
                                        refine lv_aload_n hx hb dL_law_911 rfl (lv_at hl 1 rfl) ?_
                                        refine lv_aload_n hx hb dL_law_912 rfl (lv_at hl 0 rfl) ?_
                                        refine lv_iload hx hb dL_law_913 (lv_at hl 4 rfl) ?_
                                        refine lv_iconst (v := (1 : Int32)) hx hb dL_law_915 (by decide) ?_
                                        refine lv_iadd hx hb dL_law_916 ?_
                                        have g917 := ck_p hf
                                        have hf := ck_r hf
                                        refine va_sld hx hb hX hbl hbA hS g917 dL_law_917 ?_
                                        refine lv_aload_n hx hb dL_law_918 rfl (lv_at hl 3 rfl) ?_
                                        obtain ⟨q919, hq919, hf⟩ := bnd_e hf
                                        refine gk_i hS (gsw_run (rest := []) S hG hW hS [.ref (Γ.1 0), .int (xs (t_23.2.2 + (1 : Int32)).toNatClampNeg), .ref (Γ.1 498)] (c_L_affectedBy l hl0 Γ t_23.1 t_23.2.1 (xs (t_23.2.2 + (1 : Int32)).toNatClampNeg) hq919) pk_L_affectedBy ml_L_156 rfl rfl ⟨Nat.le_of_ble_eq_true rfl, Nat.le_of_ble_eq_true rfl⟩ rfl hl.1 rfl (Nat.le_of_ble_eq_true rfl) dL_law_919 ⟨by show cs + 1 ≤ 601024; omega, by show ss + 6 ≤ 7293034; omega⟩) (fun H locs hW hS => ?_)
                                        refine lv_istore (lv' := [(5, .int q919.1), (0, .ref b), (1, .ref (Γ.1 0)), (2, .ref (Γ.1 475)), (3, .ref (Γ.1 498)), (4, .int t_23.2.2)]) hx hb dL_law_922 hl (by decide) rfl (fun ls hl => ?_)
                                        refine lv_aload_n hx hb dL_law_924 rfl (lv_at hl 3 rfl) ?_
                                        refine lv_aload_n hx hb dL_law_925 rfl (lv_at hl 1 rfl) ?_
                                        refine lv_iload hx hb dL_law_926 (lv_at hl 5 rfl) ?_
                                        refine lv_iconst (v := (1 : Int32)) hx hb dL_law_928 (by decide) ?_
                                        refine lv_iadd hx hb dL_law_929 ?_
                                        have g930 := ck_p hf
                                        have hf := ck_r hf
                                        refine va_sld hx hb hX hbl hbA hS g930 dL_law_930 ?_
                                        obtain ⟨q931, hq931, hf⟩ := bnd_e hf
                                        refine gk0_i hS (gv_run (rest := []) S hG hW hS [.int (xs (t_23.2.2 + (1 : Int32)).toNatClampNeg)] (c_X8_affectedBy l Γ q919.2.1 q919.2.2 (xs (t_23.2.2 + (1 : Int32)).toNatClampNeg) hq931) pk_X8_affectedBy ml_L_158 (Nat.le_of_ble_eq_true rfl) rfl rfl rfl rfl ⟨Nat.le_of_ble_eq_true rfl, Nat.le_of_ble_eq_true rfl⟩ rfl hl.1 rfl (Nat.le_of_ble_eq_true rfl) dL_law_931 ⟨by show (cs + 1) + 0 ≤ 601024; omega, by show (ss + 6) + 0 ≤ 7293034; omega⟩) (fun H locs hW hS => ?_)
                                        refine lv_istore (lv' := [(6, .int q931.1), (5, .int q919.1), (0, .ref b), (1, .ref (Γ.1 0)), (2, .ref (Γ.1 475)), (3, .ref (Γ.1 498)), (4, .int t_23.2.2)]) hx hb dL_law_934 hl (by decide) rfl (fun ls hl => ?_)
                                        refine lv_aload_n hx hb dL_law_936 rfl (lv_at hl 4 rfl) ?_
                                        refine gk0_i hS (gv_run (rest := []) S hG hW hS [] (c_X8_thrown l Γ q919.2.1 q931.2) pk_X8_thrown ml_L_96 (Nat.le_of_ble_eq_true rfl) rfl rfl rfl rfl ⟨Nat.le_of_ble_eq_true rfl, Nat.le_of_ble_eq_true rfl⟩ rfl hl.1 rfl (Nat.le_of_ble_eq_true rfl) dL_law_937 ⟨by show (cs + 1) + 0 ≤ 601024; omega, by show (ss + 6) + 0 ≤ 7293034; omega⟩) (fun H locs hW hS => ?_)
                                        refine lv_iload hx hb dL_law_940 (lv_at hl 1 rfl) ?_
                                        refine lv_icmp_eq (tgt := 947) hx hb dL_law_942 (by decide) (fun c942 => ?_) (fun c942 => ?_)
                                        · have hf := cn_t c942 hf
                                          refine lv_iload hx hb dL_law_947 (lv_at hl 1 rfl) ?_
                                          have J_964 : ∀ (C_964 : Mem) (M_964 : Mem), fL_law_964 L xs t_23 C_964 M_964 = some y1 → ∀ (cs ss : Nat), cs ≤ 1003 + 4 * n → ss ≤ 100018 + 24 * n → ∀ (H : Heap) (locs : List Loc) (ls : Array Slot), gx_W Γ C_964 M_964 H → va_S (gA Γ) s.heap H locs → lv_has ls 7 [(0, .ref b), (1, .ref (Γ.1 0)), (2, .ref (Γ.1 475)), (3, .ref (Γ.1 498)), (4, .int t_23.2.2)] → W p l e room_1 s m #[Value.ref b] below meth c H locs cs ss Q (F0 m 964 ls []) := by
                                            intro C_964 M_964 hf cs ss hcs hss H locs ls hW hS hl
                                            unfold fL_law_964 at hf
                                            refine lv_goto (tgt := 1592) hx hb dL_law_964 (by decide) ?_
                                            exact J_1592 C_964 M_964 hf cs ss (by omega) (by omega) H locs ls hW hS (lv_sub hl [0, 1, 2, 3, 4] rfl)
                                          refine lv_if_ne (tgt := 964) hx hb dL_law_949 (by decide) (fun c949 => ?_) (fun c949 => ?_)
                                          · have hf := cn_f c949 hf
                                            exact J_964 q919.2.1 q931.2 hf (cs + 1) (ss + 6) (by omega) (by omega) H locs ls hW hS (lv_sub hl [2, 3, 4, 5, 6] rfl)
                                          · have hf := cn_t c949 hf
                                            refine lv_aload_n hx hb dL_law_952 rfl (lv_at hl 5 rfl) ?_
                                            refine lv_iconst (v := (0 : Int32)) hx hb dL_law_953 (by decide) ?_
                                            refine ald_out S hG hW in_01 dL_law_954 ?_
                                            refine lv_iload hx hb dL_law_955 (lv_at hl 0 rfl) ?_
                                            refine lv_i2l (v := q931.1.toInt64) hx hb dL_law_957 rfl ?_
                                            refine W.lcmp hx hb dL_law_958 ?_
                                            refine lv_if_eq (tgt := 964) hx hb dL_law_959 (by decide) (fun c959 => ?_) (fun c959 => ?_)
                                            · have hf := cn_t c959 hf
                                              exact J_964 q919.2.1 q931.2 hf (cs + 1) (ss + 6) (by omega) (by omega) H locs ls hW hS (lv_sub hl [2, 3, 4, 5, 6] rfl)
                                            · have hf := cn_f c959 hf
                                              obtain ⟨z959, hf, ez⟩ := exR_e hf
                                              rw [kX1 _ ez] at hf
                                              refine lv_iconst (v := (0 : Int32)) hx hb dL_law_962 (by decide) ?_
                                              exact absurd (Option.some.inj hf) (by decide)
                                        · have hf := cn_f c942 hf
                                          obtain ⟨z942, hf, ez⟩ := exR_e hf
                                          rw [kX1 _ ez] at hf
                                          refine lv_iconst (v := (0 : Int32)) hx hb dL_law_945 (by decide) ?_
                                          exact absurd (Option.some.inj hf) (by decide)
                                      · have hf := cn_f w17 hf
                                        by_cases w18 : swx = (18 : Int32)
                                        · have hf := cn_t w18 hf
                                          refine lv_tableIn (off := 928) (tgt := 967) hx hb dL_law_39 (by rw [w18]; decide) (by rw [w18]; decide) (by rw [w18]; decide) (by decide) ?_
                                          refine lv_aload_n hx hb dL_law_967 rfl (lv_at hl 1 rfl) ?_
                                          refine lv_aload_n hx hb dL_law_968 rfl (lv_at hl 0 rfl) ?_
                                          refine lv_iload hx hb dL_law_969 (lv_at hl 4 rfl) ?_
                                          refine lv_iconst (v := (1 : Int32)) hx hb dL_law_971 (by decide) ?_
                                          refine lv_iadd hx hb dL_law_972 ?_
                                          have g973 := ck_p hf
                                          have hf := ck_r hf
                                          refine va_sld hx hb hX hbl hbA hS g973 dL_law_973 ?_
                                          refine lv_aload_n hx hb dL_law_974 rfl (lv_at hl 3 rfl) ?_
                                          obtain ⟨q975, hq975, hf⟩ := bnd_e hf
                                          refine gk_i hS (gsw_run (rest := []) S hG hW hS [.ref (Γ.1 0), .int (xs (t_23.2.2 + (1 : Int32)).toNatClampNeg), .ref (Γ.1 498)] (c_L_affectedByGoingDown l hl0 Γ t_23.1 t_23.2.1 (xs (t_23.2.2 + (1 : Int32)).toNatClampNeg) hq975) pk_L_affectedByGoingDown ml_L_159 rfl rfl ⟨Nat.le_of_ble_eq_true rfl, Nat.le_of_ble_eq_true rfl⟩ rfl hl.1 rfl (Nat.le_of_ble_eq_true rfl) dL_law_975 ⟨by show cs + 1 ≤ 601024; omega, by show ss + 6 ≤ 7293034; omega⟩) (fun H locs hW hS => ?_)
                                          refine lv_istore (lv' := [(5, .int q975.1), (0, .ref b), (1, .ref (Γ.1 0)), (2, .ref (Γ.1 475)), (3, .ref (Γ.1 498)), (4, .int t_23.2.2)]) hx hb dL_law_978 hl (by decide) rfl (fun ls hl => ?_)
                                          refine lv_aload_n hx hb dL_law_980 rfl (lv_at hl 3 rfl) ?_
                                          refine lv_aload_n hx hb dL_law_981 rfl (lv_at hl 1 rfl) ?_
                                          refine lv_iload hx hb dL_law_982 (lv_at hl 5 rfl) ?_
                                          refine lv_iconst (v := (1 : Int32)) hx hb dL_law_984 (by decide) ?_
                                          refine lv_iadd hx hb dL_law_985 ?_
                                          have g986 := ck_p hf
                                          have hf := ck_r hf
                                          refine va_sld hx hb hX hbl hbA hS g986 dL_law_986 ?_
                                          obtain ⟨q987, hq987, hf⟩ := bnd_e hf
                                          refine gk0_i hS (gv_run (rest := []) S hG hW hS [.int (xs (t_23.2.2 + (1 : Int32)).toNatClampNeg)] (c_X8_affectedByGoingDown l Γ q975.2.1 q975.2.2 (xs (t_23.2.2 + (1 : Int32)).toNatClampNeg) hq987) pk_X8_affectedByGoingDown ml_L_161 (Nat.le_of_ble_eq_true rfl) rfl rfl rfl rfl ⟨Nat.le_of_ble_eq_true rfl, Nat.le_of_ble_eq_true rfl⟩ rfl hl.1 rfl (Nat.le_of_ble_eq_true rfl) dL_law_987 ⟨by show (cs + 1) + 0 ≤ 601024; omega, by show (ss + 6) + 0 ≤ 7293034; omega⟩) (fun H locs hW hS => ?_)
                                          refine lv_istore (lv' := [(6, .int q987.1), (5, .int q975.1), (0, .ref b), (1, .ref (Γ.1 0)), (2, .ref (Γ.1 475)), (3, .ref (Γ.1 498)), (4, .int t_23.2.2)]) hx hb dL_law_990 hl (by decide) rfl (fun ls hl => ?_)
                                          refine lv_aload_n hx hb dL_law_992 rfl (lv_at hl 4 rfl) ?_
                                          refine gk0_i hS (gv_run (rest := []) S hG hW hS [] (c_X8_thrown l Γ q975.2.1 q987.2) pk_X8_thrown ml_L_96 (Nat.le_of_ble_eq_true rfl) rfl rfl rfl rfl ⟨Nat.le_of_ble_eq_true rfl, Nat.le_of_ble_eq_true rfl⟩ rfl hl.1 rfl (Nat.le_of_ble_eq_true rfl) dL_law_993 ⟨by show (cs + 1) + 0 ≤ 601024; omega, by show (ss + 6) + 0 ≤ 7293034; omega⟩) (fun H locs hW hS => ?_)
                                          refine lv_iload hx hb dL_law_996 (lv_at hl 1 rfl) ?_
                                          refine lv_icmp_eq (tgt := 1003) hx hb dL_law_998 (by decide) (fun c998 => ?_) (fun c998 => ?_)
                                          · have hf := cn_t c998 hf
                                            refine lv_iload hx hb dL_law_1003 (lv_at hl 1 rfl) ?_
                                            have J_1020 : ∀ (C_1020 : Mem) (M_1020 : Mem), fL_law_1020 L xs t_23 C_1020 M_1020 = some y1 → ∀ (cs ss : Nat), cs ≤ 1003 + 4 * n → ss ≤ 100018 + 24 * n → ∀ (H : Heap) (locs : List Loc) (ls : Array Slot), gx_W Γ C_1020 M_1020 H → va_S (gA Γ) s.heap H locs → lv_has ls 7 [(0, .ref b), (1, .ref (Γ.1 0)), (2, .ref (Γ.1 475)), (3, .ref (Γ.1 498)), (4, .int t_23.2.2)] → W p l e room_1 s m #[Value.ref b] below meth c H locs cs ss Q (F0 m 1020 ls []) := by
                                              intro C_1020 M_1020 hf cs ss hcs hss H locs ls hW hS hl
                                              unfold fL_law_1020 at hf
                                              refine lv_goto (tgt := 1592) hx hb dL_law_1020 (by decide) ?_
                                              exact J_1592 C_1020 M_1020 hf cs ss (by omega) (by omega) H locs ls hW hS (lv_sub hl [0, 1, 2, 3, 4] rfl)
                                            refine lv_if_ne (tgt := 1020) hx hb dL_law_1005 (by decide) (fun c1005 => ?_) (fun c1005 => ?_)
                                            · have hf := cn_f c1005 hf
                                              exact J_1020 q975.2.1 q987.2 hf (cs + 1) (ss + 6) (by omega) (by omega) H locs ls hW hS (lv_sub hl [2, 3, 4, 5, 6] rfl)
                                            · have hf := cn_t c1005 hf
                                              refine lv_aload_n hx hb dL_law_1008 rfl (lv_at hl 5 rfl) ?_
                                              refine lv_iconst (v := (0 : Int32)) hx hb dL_law_1009 (by decide) ?_
                                              refine ald_out S hG hW in_01 dL_law_1010 ?_
                                              refine lv_iload hx hb dL_law_1011 (lv_at hl 0 rfl) ?_
                                              refine lv_i2l (v := q987.1.toInt64) hx hb dL_law_1013 rfl ?_
                                              refine W.lcmp hx hb dL_law_1014 ?_
                                              refine lv_if_eq (tgt := 1020) hx hb dL_law_1015 (by decide) (fun c1015 => ?_) (fun c1015 => ?_)
                                              · have hf := cn_t c1015 hf
                                                exact J_1020 q975.2.1 q987.2 hf (cs + 1) (ss + 6) (by omega) (by omega) H locs ls hW hS (lv_sub hl [2, 3, 4, 5, 6] rfl)
                                              · have hf := cn_f c1015 hf
                                                obtain ⟨z1015, hf, ez⟩ := exR_e hf
                                                rw [kX1 _ ez] at hf
                                                refine lv_iconst (v := (0 : Int32)) hx hb dL_law_1018 (by decide) ?_
                                                exact absurd (Option.some.inj hf) (by decide)
                                          · have hf := cn_f c998 hf
                                            obtain ⟨z998, hf, ez⟩ := exR_e hf
                                            rw [kX1 _ ez] at hf
                                            refine lv_iconst (v := (0 : Int32)) hx hb dL_law_1001 (by decide) ?_
                                            exact absurd (Option.some.inj hf) (by decide)
                                        · have hf := cn_f w18 hf
                                          by_cases w19 : swx = (19 : Int32)
                                          · have hf := cn_t w19 hf
                                            refine lv_tableIn (off := 984) (tgt := 1023) hx hb dL_law_39 (by rw [w19]; decide) (by rw [w19]; decide) (by rw [w19]; decide) (by decide) ?_
                                            refine lv_aload_n hx hb dL_law_1023 rfl (lv_at hl 1 rfl) ?_
                                            refine lv_aload_n hx hb dL_law_1024 rfl (lv_at hl 0 rfl) ?_
                                            refine lv_iload hx hb dL_law_1025 (lv_at hl 4 rfl) ?_
                                            refine lv_iconst (v := (1 : Int32)) hx hb dL_law_1027 (by decide) ?_
                                            refine lv_iadd hx hb dL_law_1028 ?_
                                            have g1029 := ck_p hf
                                            have hf := ck_r hf
                                            refine va_sld hx hb hX hbl hbA hS g1029 dL_law_1029 ?_
                                            refine lv_aload_n hx hb dL_law_1030 rfl (lv_at hl 3 rfl) ?_
                                            obtain ⟨q1031, hq1031, hf⟩ := bnd_e hf
                                            refine gk_i hS (gsw_run (rest := []) S hG hW hS [.ref (Γ.1 0), .int (xs (t_23.2.2 + (1 : Int32)).toNatClampNeg), .ref (Γ.1 498)] (c_L_keyOf l hl0 Γ t_23.1 t_23.2.1 (xs (t_23.2.2 + (1 : Int32)).toNatClampNeg) hq1031) pk_L_keyOf ml_L_162 rfl rfl ⟨Nat.le_of_ble_eq_true rfl, Nat.le_of_ble_eq_true rfl⟩ rfl hl.1 rfl (Nat.le_of_ble_eq_true rfl) dL_law_1031 ⟨by show cs + 1 ≤ 601024; omega, by show ss + 6 ≤ 7293034; omega⟩) (fun H locs hW hS => ?_)
                                            refine lv_istore (lv' := [(5, .int q1031.1), (0, .ref b), (1, .ref (Γ.1 0)), (2, .ref (Γ.1 475)), (3, .ref (Γ.1 498)), (4, .int t_23.2.2)]) hx hb dL_law_1034 hl (by decide) rfl (fun ls hl => ?_)
                                            refine lv_aload_n hx hb dL_law_1036 rfl (lv_at hl 3 rfl) ?_
                                            refine lv_aload_n hx hb dL_law_1037 rfl (lv_at hl 1 rfl) ?_
                                            refine lv_iload hx hb dL_law_1038 (lv_at hl 5 rfl) ?_
                                            refine lv_iconst (v := (1 : Int32)) hx hb dL_law_1040 (by decide) ?_
                                            refine lv_iadd hx hb dL_law_1041 ?_
                                            have g1042 := ck_p hf
                                            have hf := ck_r hf
                                            refine va_sld hx hb hX hbl hbA hS g1042 dL_law_1042 ?_
                                            obtain ⟨q1043, hq1043, hf⟩ := bnd_e hf
                                            refine gk0_i hS (gv_run (rest := []) S hG hW hS [.int (xs (t_23.2.2 + (1 : Int32)).toNatClampNeg)] (c_X8_keyOf l Γ q1031.2.1 q1031.2.2 (xs (t_23.2.2 + (1 : Int32)).toNatClampNeg) hq1043) pk_X8_keyOf ml_L_164 (Nat.le_of_ble_eq_true rfl) rfl rfl rfl rfl ⟨Nat.le_of_ble_eq_true rfl, Nat.le_of_ble_eq_true rfl⟩ rfl hl.1 rfl (Nat.le_of_ble_eq_true rfl) dL_law_1043 ⟨by show (cs + 1) + 0 ≤ 601024; omega, by show (ss + 6) + 0 ≤ 7293034; omega⟩) (fun H locs hW hS => ?_)
                                            refine lv_istore (lv' := [(6, .int q1043.1), (5, .int q1031.1), (0, .ref b), (1, .ref (Γ.1 0)), (2, .ref (Γ.1 475)), (3, .ref (Γ.1 498)), (4, .int t_23.2.2)]) hx hb dL_law_1046 hl (by decide) rfl (fun ls hl => ?_)
                                            refine lv_aload_n hx hb dL_law_1048 rfl (lv_at hl 4 rfl) ?_
                                            refine gk0_i hS (gv_run (rest := []) S hG hW hS [] (c_X8_thrown l Γ q1031.2.1 q1043.2) pk_X8_thrown ml_L_96 (Nat.le_of_ble_eq_true rfl) rfl rfl rfl rfl ⟨Nat.le_of_ble_eq_true rfl, Nat.le_of_ble_eq_true rfl⟩ rfl hl.1 rfl (Nat.le_of_ble_eq_true rfl) dL_law_1049 ⟨by show (cs + 1) + 0 ≤ 601024; omega, by show (ss + 6) + 0 ≤ 7293034; omega⟩) (fun H locs hW hS => ?_)
                                            refine lv_iload hx hb dL_law_1052 (lv_at hl 1 rfl) ?_
                                            refine lv_icmp_eq (tgt := 1059) hx hb dL_law_1054 (by decide) (fun c1054 => ?_) (fun c1054 => ?_)
                                            · have hf := cn_t c1054 hf
                                              refine lv_iload hx hb dL_law_1059 (lv_at hl 1 rfl) ?_
                                              have J_1076 : ∀ (C_1076 : Mem) (M_1076 : Mem), fL_law_1076 L xs t_23 C_1076 M_1076 = some y1 → ∀ (cs ss : Nat), cs ≤ 1003 + 4 * n → ss ≤ 100018 + 24 * n → ∀ (H : Heap) (locs : List Loc) (ls : Array Slot), gx_W Γ C_1076 M_1076 H → va_S (gA Γ) s.heap H locs → lv_has ls 7 [(0, .ref b), (1, .ref (Γ.1 0)), (2, .ref (Γ.1 475)), (3, .ref (Γ.1 498)), (4, .int t_23.2.2)] → W p l e room_1 s m #[Value.ref b] below meth c H locs cs ss Q (F0 m 1076 ls []) := by
                                                intro C_1076 M_1076 hf cs ss hcs hss H locs ls hW hS hl
                                                unfold fL_law_1076 at hf
                                                refine lv_goto (tgt := 1592) hx hb dL_law_1076 (by decide) ?_
                                                exact J_1592 C_1076 M_1076 hf cs ss (by omega) (by omega) H locs ls hW hS (lv_sub hl [0, 1, 2, 3, 4] rfl)
                                              refine lv_if_ne (tgt := 1076) hx hb dL_law_1061 (by decide) (fun c1061 => ?_) (fun c1061 => ?_)
                                              · have hf := cn_f c1061 hf
                                                exact J_1076 q1031.2.1 q1043.2 hf (cs + 1) (ss + 6) (by omega) (by omega) H locs ls hW hS (lv_sub hl [2, 3, 4, 5, 6] rfl)
                                              · have hf := cn_t c1061 hf
                                                refine lv_aload_n hx hb dL_law_1064 rfl (lv_at hl 5 rfl) ?_
                                                refine lv_iconst (v := (0 : Int32)) hx hb dL_law_1065 (by decide) ?_
                                                refine ald_out S hG hW in_01 dL_law_1066 ?_
                                                refine lv_iload hx hb dL_law_1067 (lv_at hl 0 rfl) ?_
                                                refine lv_i2l (v := q1043.1.toInt64) hx hb dL_law_1069 rfl ?_
                                                refine W.lcmp hx hb dL_law_1070 ?_
                                                refine lv_if_eq (tgt := 1076) hx hb dL_law_1071 (by decide) (fun c1071 => ?_) (fun c1071 => ?_)
                                                · have hf := cn_t c1071 hf
                                                  exact J_1076 q1031.2.1 q1043.2 hf (cs + 1) (ss + 6) (by omega) (by omega) H locs ls hW hS (lv_sub hl [2, 3, 4, 5, 6] rfl)
                                                · have hf := cn_f c1071 hf
                                                  obtain ⟨z1071, hf, ez⟩ := exR_e hf
                                                  rw [kX1 _ ez] at hf
                                                  refine lv_iconst (v := (0 : Int32)) hx hb dL_law_1074 (by decide) ?_
                                                  exact absurd (Option.some.inj hf) (by decide)
                                            · have hf := cn_f c1054 hf
                                              obtain ⟨z1054, hf, ez⟩ := exR_e hf
                                              rw [kX1 _ ez] at hf
                                              refine lv_iconst (v := (0 : Int32)) hx hb dL_law_1057 (by decide) ?_
                                              exact absurd (Option.some.inj hf) (by decide)
                                          · have hf := cn_f w19 hf
                                            by_cases w20 : swx = (20 : Int32)
                                            · have hf := cn_t w20 hf
                                              refine lv_tableIn (off := 1040) (tgt := 1079) hx hb dL_law_39 (by rw [w20]; decide) (by rw [w20]; decide) (by rw [w20]; decide) (by decide) ?_
                                              refine lv_aload_n hx hb dL_law_1079 rfl (lv_at hl 1 rfl) ?_
                                              obtain ⟨q1080, hq1080, hf⟩ := bnd_e hf
                                              refine gk0_i hS (gv_run (rest := []) S hG hW hS [] (c_X7_needed l Γ t_23.1 t_23.2.1 hq1080) pk_X7_needed ml_L_165 (Nat.le_of_ble_eq_true rfl) rfl rfl rfl rfl ⟨Nat.le_of_ble_eq_true rfl, Nat.le_of_ble_eq_true rfl⟩ rfl hl.1 rfl (Nat.le_of_ble_eq_true rfl) dL_law_1080 ⟨by show cs + 0 ≤ 601024; omega, by show ss + 0 ≤ 7293034; omega⟩) (fun H locs hW hS => ?_)
                                              refine lv_aload_n hx hb dL_law_1083 rfl (lv_at hl 2 rfl) ?_
                                              obtain ⟨q1084, hq1084, hf⟩ := bnd_e hf
                                              refine gk0_i hS (gv_run (rest := [.int q1080.1]) S hG hW hS [] (c_X8_needed l Γ q1080.2 t_23.2.1 hq1084) pk_X8_needed ml_L_168 (Nat.le_of_ble_eq_true rfl) rfl rfl rfl rfl ⟨Nat.le_of_ble_eq_true rfl, Nat.le_of_ble_eq_true rfl⟩ rfl hl.1 rfl (Nat.le_of_ble_eq_true rfl) dL_law_1084 ⟨by show cs + 0 ≤ 601024; omega, by show ss + 0 ≤ 7293034; omega⟩) (fun H locs hW hS => ?_)
                                              refine lv_icmp_eq (tgt := 1592) hx hb dL_law_1087 (by decide) (fun c1087 => ?_) (fun c1087 => ?_)
                                              · have hf := cn_t c1087 hf
                                                exact J_1592 q1080.2 q1084.2 hf cs ss (by omega) (by omega) H locs ls hW hS (lv_sub hl [0, 1, 2, 3, 4] rfl)
                                              · have hf := cn_f c1087 hf
                                                obtain ⟨z1087, hf, ez⟩ := exR_e hf
                                                rw [kX1 _ ez] at hf
                                                refine lv_iconst (v := (0 : Int32)) hx hb dL_law_1090 (by decide) ?_
                                                exact absurd (Option.some.inj hf) (by decide)
                                            · have hf := cn_f w20 hf
                                              by_cases w21 : swx = (21 : Int32)
                                              · have hf := cn_t w21 hf
                                                refine lv_tableIn (off := 1053) (tgt := 1092) hx hb dL_law_39 (by rw [w21]; decide) (by rw [w21]; decide) (by rw [w21]; decide) (by decide) ?_
                                                refine lv_aload_n hx hb dL_law_1092 rfl (lv_at hl 1 rfl) ?_
                                                refine lv_aload_n hx hb dL_law_1093 rfl (lv_at hl 0 rfl) ?_
                                                refine lv_iload hx hb dL_law_1094 (lv_at hl 4 rfl) ?_
                                                refine lv_iconst (v := (1 : Int32)) hx hb dL_law_1096 (by decide) ?_
                                                refine lv_iadd hx hb dL_law_1097 ?_
                                                have g1098 := ck_p hf
                                                have hf := ck_r hf
                                                refine va_sld hx hb hX hbl hbA hS g1098 dL_law_1098 ?_
                                                refine lv_aload_n hx hb dL_law_1099 rfl (lv_at hl 3 rfl) ?_
                                                obtain ⟨q1100, hq1100, hf⟩ := bnd_e hf
                                                refine gk_i hS (gsw_run (rest := []) S hG hW hS [.ref (Γ.1 0), .int (xs (t_23.2.2 + (1 : Int32)).toNatClampNeg), .ref (Γ.1 498)] (c_L_whyRun l hl0 Γ t_23.1 t_23.2.1 (xs (t_23.2.2 + (1 : Int32)).toNatClampNeg) hq1100) pk_L_whyRun ml_L_169 rfl rfl ⟨Nat.le_of_ble_eq_true rfl, Nat.le_of_ble_eq_true rfl⟩ rfl hl.1 rfl (Nat.le_of_ble_eq_true rfl) dL_law_1100 ⟨by show cs + 1 ≤ 601024; omega, by show ss + 6 ≤ 7293034; omega⟩) (fun H locs hW hS => ?_)
                                                refine lv_istore (lv' := [(5, .int q1100.1), (0, .ref b), (1, .ref (Γ.1 0)), (2, .ref (Γ.1 475)), (3, .ref (Γ.1 498)), (4, .int t_23.2.2)]) hx hb dL_law_1103 hl (by decide) rfl (fun ls hl => ?_)
                                                refine lv_aload_n hx hb dL_law_1105 rfl (lv_at hl 3 rfl) ?_
                                                refine lv_aload_n hx hb dL_law_1106 rfl (lv_at hl 1 rfl) ?_
                                                refine lv_iload hx hb dL_law_1107 (lv_at hl 5 rfl) ?_
                                                refine lv_iconst (v := (1 : Int32)) hx hb dL_law_1109 (by decide) ?_
                                                refine lv_iadd hx hb dL_law_1110 ?_
                                                have g1111 := ck_p hf
                                                have hf := ck_r hf
                                                refine va_sld hx hb hX hbl hbA hS g1111 dL_law_1111 ?_
                                                obtain ⟨q1112, hq1112, hf⟩ := bnd_e hf
                                                refine gk0_i hS (gv_run (rest := []) S hG hW hS [.int (xs (t_23.2.2 + (1 : Int32)).toNatClampNeg)] (c_X8_whyRun l Γ q1100.2.1 q1100.2.2 (xs (t_23.2.2 + (1 : Int32)).toNatClampNeg) hq1112) pk_X8_whyRun ml_L_171 (Nat.le_of_ble_eq_true rfl) rfl rfl rfl rfl ⟨Nat.le_of_ble_eq_true rfl, Nat.le_of_ble_eq_true rfl⟩ rfl hl.1 rfl (Nat.le_of_ble_eq_true rfl) dL_law_1112 ⟨by show (cs + 1) + 0 ≤ 601024; omega, by show (ss + 6) + 0 ≤ 7293034; omega⟩) (fun H locs hW hS => ?_)
                                                refine lv_istore (lv' := [(6, .int q1112.1), (5, .int q1100.1), (0, .ref b), (1, .ref (Γ.1 0)), (2, .ref (Γ.1 475)), (3, .ref (Γ.1 498)), (4, .int t_23.2.2)]) hx hb dL_law_1115 hl (by decide) rfl (fun ls hl => ?_)
                                                refine lv_aload_n hx hb dL_law_1117 rfl (lv_at hl 4 rfl) ?_
                                                refine gk0_i hS (gv_run (rest := []) S hG hW hS [] (c_X8_thrown l Γ q1100.2.1 q1112.2) pk_X8_thrown ml_L_96 (Nat.le_of_ble_eq_true rfl) rfl rfl rfl rfl ⟨Nat.le_of_ble_eq_true rfl, Nat.le_of_ble_eq_true rfl⟩ rfl hl.1 rfl (Nat.le_of_ble_eq_true rfl) dL_law_1118 ⟨by show (cs + 1) + 0 ≤ 601024; omega, by show (ss + 6) + 0 ≤ 7293034; omega⟩) (fun H locs hW hS => ?_)
                                                refine lv_iload hx hb dL_law_1121 (lv_at hl 1 rfl) ?_
                                                refine lv_icmp_eq (tgt := 1128) hx hb dL_law_1123 (by decide) (fun c1123 => ?_) (fun c1123 => ?_)
                                                · have hf := cn_t c1123 hf
                                                  refine lv_iload hx hb dL_law_1128 (lv_at hl 1 rfl) ?_
                                                  have J_1145 : ∀ (C_1145 : Mem) (M_1145 : Mem), fL_law_1145 L xs t_23 C_1145 M_1145 = some y1 → ∀ (cs ss : Nat), cs ≤ 1003 + 4 * n → ss ≤ 100018 + 24 * n → ∀ (H : Heap) (locs : List Loc) (ls : Array Slot), gx_W Γ C_1145 M_1145 H → va_S (gA Γ) s.heap H locs → lv_has ls 7 [(0, .ref b), (1, .ref (Γ.1 0)), (2, .ref (Γ.1 475)), (3, .ref (Γ.1 498)), (4, .int t_23.2.2)] → W p l e room_1 s m #[Value.ref b] below meth c H locs cs ss Q (F0 m 1145 ls []) := by
                                                    intro C_1145 M_1145 hf cs ss hcs hss H locs ls hW hS hl
                                                    unfold fL_law_1145 at hf
                                                    refine lv_goto (tgt := 1592) hx hb dL_law_1145 (by decide) ?_
                                                    exact J_1592 C_1145 M_1145 hf cs ss (by omega) (by omega) H locs ls hW hS (lv_sub hl [0, 1, 2, 3, 4] rfl)
                                                  refine lv_if_ne (tgt := 1145) hx hb dL_law_1130 (by decide) (fun c1130 => ?_) (fun c1130 => ?_)
                                                  · have hf := cn_f c1130 hf
                                                    exact J_1145 q1100.2.1 q1112.2 hf (cs + 1) (ss + 6) (by omega) (by omega) H locs ls hW hS (lv_sub hl [2, 3, 4, 5, 6] rfl)
                                                  · have hf := cn_t c1130 hf
                                                    refine lv_aload_n hx hb dL_law_1133 rfl (lv_at hl 5 rfl) ?_
                                                    refine lv_iconst (v := (0 : Int32)) hx hb dL_law_1134 (by decide) ?_
                                                    refine ald_out S hG hW in_01 dL_law_1135 ?_
                                                    refine lv_iload hx hb dL_law_1136 (lv_at hl 0 rfl) ?_
                                                    refine lv_i2l (v := q1112.1.toInt64) hx hb dL_law_1138 rfl ?_
                                                    refine W.lcmp hx hb dL_law_1139 ?_
                                                    refine lv_if_eq (tgt := 1145) hx hb dL_law_1140 (by decide) (fun c1140 => ?_) (fun c1140 => ?_)
                                                    · have hf := cn_t c1140 hf
                                                      exact J_1145 q1100.2.1 q1112.2 hf (cs + 1) (ss + 6) (by omega) (by omega) H locs ls hW hS (lv_sub hl [2, 3, 4, 5, 6] rfl)
                                                    · have hf := cn_f c1140 hf
                                                      obtain ⟨z1140, hf, ez⟩ := exR_e hf
                                                      rw [kX1 _ ez] at hf
                                                      refine lv_iconst (v := (0 : Int32)) hx hb dL_law_1143 (by decide) ?_
                                                      exact absurd (Option.some.inj hf) (by decide)
                                                · have hf := cn_f c1123 hf
                                                  obtain ⟨z1123, hf, ez⟩ := exR_e hf
                                                  rw [kX1 _ ez] at hf
                                                  refine lv_iconst (v := (0 : Int32)) hx hb dL_law_1126 (by decide) ?_
                                                  exact absurd (Option.some.inj hf) (by decide)
                                              · have hf := cn_f w21 hf
                                                by_cases w22 : swx = (22 : Int32)
                                                · have hf := cn_t w22 hf
                                                  refine lv_tableIn (off := 1109) (tgt := 1148) hx hb dL_law_39 (by rw [w22]; decide) (by rw [w22]; decide) (by rw [w22]; decide) (by decide) ?_
                                                  refine lv_aload_n hx hb dL_law_1148 rfl (lv_at hl 1 rfl) ?_
                                                  refine lv_aload_n hx hb dL_law_1149 rfl (lv_at hl 0 rfl) ?_
                                                  refine lv_iload hx hb dL_law_1150 (lv_at hl 4 rfl) ?_
                                                  refine lv_iconst (v := (1 : Int32)) hx hb dL_law_1152 (by decide) ?_
                                                  refine lv_iadd hx hb dL_law_1153 ?_
                                                  have g1154 := ck_p hf
                                                  have hf := ck_r hf
                                                  refine va_sld hx hb hX hbl hbA hS g1154 dL_law_1154 ?_
                                                  refine lv_aload_n hx hb dL_law_1155 rfl (lv_at hl 3 rfl) ?_
                                                  obtain ⟨q1156, hq1156, hf⟩ := bnd_e hf
                                                  refine gk_i hS (gsw_run (rest := []) S hG hW hS [.ref (Γ.1 0), .int (xs (t_23.2.2 + (1 : Int32)).toNatClampNeg), .ref (Γ.1 498)] (c_L_run l hl0 Γ t_23.1 t_23.2.1 (xs (t_23.2.2 + (1 : Int32)).toNatClampNeg) hq1156) pk_L_run ml_L_172 rfl rfl ⟨Nat.le_of_ble_eq_true rfl, Nat.le_of_ble_eq_true rfl⟩ rfl hl.1 rfl (Nat.le_of_ble_eq_true rfl) dL_law_1156 ⟨by show cs + 2 ≤ 601024; omega, by show ss + 12 ≤ 7293034; omega⟩) (fun H locs hW hS => ?_)
                                                  refine lv_istore (lv' := [(5, .int q1156.1), (0, .ref b), (1, .ref (Γ.1 0)), (2, .ref (Γ.1 475)), (3, .ref (Γ.1 498)), (4, .int t_23.2.2)]) hx hb dL_law_1159 hl (by decide) rfl (fun ls hl => ?_)
                                                  refine lv_aload_n hx hb dL_law_1161 rfl (lv_at hl 3 rfl) ?_
                                                  refine lv_aload_n hx hb dL_law_1162 rfl (lv_at hl 1 rfl) ?_
                                                  refine lv_iload hx hb dL_law_1163 (lv_at hl 5 rfl) ?_
                                                  refine lv_iconst (v := (1 : Int32)) hx hb dL_law_1165 (by decide) ?_
                                                  refine lv_iadd hx hb dL_law_1166 ?_
                                                  have g1167 := ck_p hf
                                                  have hf := ck_r hf
                                                  refine va_sld hx hb hX hbl hbA hS g1167 dL_law_1167 ?_
                                                  obtain ⟨q1168, hq1168, hf⟩ := bnd_e hf
                                                  refine gk0_i hS (gv_run (rest := []) S hG hW hS [.int (xs (t_23.2.2 + (1 : Int32)).toNatClampNeg)] (c_X8_run l Γ q1156.2.1 q1156.2.2 (xs (t_23.2.2 + (1 : Int32)).toNatClampNeg) hq1168) pk_X8_run ml_L_174 (Nat.le_of_ble_eq_true rfl) rfl rfl rfl rfl ⟨Nat.le_of_ble_eq_true rfl, Nat.le_of_ble_eq_true rfl⟩ rfl hl.1 rfl (Nat.le_of_ble_eq_true rfl) dL_law_1168 ⟨by show (cs + 2) + 0 ≤ 601024; omega, by show (ss + 12) + 0 ≤ 7293034; omega⟩) (fun H locs hW hS => ?_)
                                                  refine lv_istore (lv' := [(6, .int q1168.1), (5, .int q1156.1), (0, .ref b), (1, .ref (Γ.1 0)), (2, .ref (Γ.1 475)), (3, .ref (Γ.1 498)), (4, .int t_23.2.2)]) hx hb dL_law_1171 hl (by decide) rfl (fun ls hl => ?_)
                                                  refine lv_aload_n hx hb dL_law_1173 rfl (lv_at hl 4 rfl) ?_
                                                  refine gk0_i hS (gv_run (rest := []) S hG hW hS [] (c_X8_thrown l Γ q1156.2.1 q1168.2) pk_X8_thrown ml_L_96 (Nat.le_of_ble_eq_true rfl) rfl rfl rfl rfl ⟨Nat.le_of_ble_eq_true rfl, Nat.le_of_ble_eq_true rfl⟩ rfl hl.1 rfl (Nat.le_of_ble_eq_true rfl) dL_law_1174 ⟨by show (cs + 2) + 0 ≤ 601024; omega, by show (ss + 12) + 0 ≤ 7293034; omega⟩) (fun H locs hW hS => ?_)
                                                  refine lv_iload hx hb dL_law_1177 (lv_at hl 1 rfl) ?_
                                                  refine lv_icmp_eq (tgt := 1184) hx hb dL_law_1179 (by decide) (fun c1179 => ?_) (fun c1179 => ?_)
                                                  · have hf := cn_t c1179 hf
                                                    refine lv_iload hx hb dL_law_1184 (lv_at hl 1 rfl) ?_
                                                    have J_1201 : ∀ (C_1201 : Mem) (M_1201 : Mem), fL_law_1201 L xs t_23 C_1201 M_1201 = some y1 → ∀ (cs ss : Nat), cs ≤ 1003 + 4 * n → ss ≤ 100018 + 24 * n → ∀ (H : Heap) (locs : List Loc) (ls : Array Slot), gx_W Γ C_1201 M_1201 H → va_S (gA Γ) s.heap H locs → lv_has ls 7 [(0, .ref b), (1, .ref (Γ.1 0)), (2, .ref (Γ.1 475)), (3, .ref (Γ.1 498)), (4, .int t_23.2.2)] → W p l e room_1 s m #[Value.ref b] below meth c H locs cs ss Q (F0 m 1201 ls []) := by
                                                      intro C_1201 M_1201 hf cs ss hcs hss H locs ls hW hS hl
                                                      unfold fL_law_1201 at hf
                                                      refine lv_goto (tgt := 1592) hx hb dL_law_1201 (by decide) ?_
                                                      exact J_1592 C_1201 M_1201 hf cs ss (by omega) (by omega) H locs ls hW hS (lv_sub hl [0, 1, 2, 3, 4] rfl)
                                                    refine lv_if_ne (tgt := 1201) hx hb dL_law_1186 (by decide) (fun c1186 => ?_) (fun c1186 => ?_)
                                                    · have hf := cn_f c1186 hf
                                                      exact J_1201 q1156.2.1 q1168.2 hf (cs + 2) (ss + 12) (by omega) (by omega) H locs ls hW hS (lv_sub hl [2, 3, 4, 5, 6] rfl)
                                                    · have hf := cn_t c1186 hf
                                                      refine lv_aload_n hx hb dL_law_1189 rfl (lv_at hl 5 rfl) ?_
                                                      refine lv_iconst (v := (0 : Int32)) hx hb dL_law_1190 (by decide) ?_
                                                      refine ald_out S hG hW in_01 dL_law_1191 ?_
                                                      refine lv_iload hx hb dL_law_1192 (lv_at hl 0 rfl) ?_
                                                      refine lv_i2l (v := q1168.1.toInt64) hx hb dL_law_1194 rfl ?_
                                                      refine W.lcmp hx hb dL_law_1195 ?_
                                                      refine lv_if_eq (tgt := 1201) hx hb dL_law_1196 (by decide) (fun c1196 => ?_) (fun c1196 => ?_)
                                                      · have hf := cn_t c1196 hf
                                                        exact J_1201 q1156.2.1 q1168.2 hf (cs + 2) (ss + 12) (by omega) (by omega) H locs ls hW hS (lv_sub hl [2, 3, 4, 5, 6] rfl)
                                                      · have hf := cn_f c1196 hf
                                                        obtain ⟨z1196, hf, ez⟩ := exR_e hf
                                                        rw [kX1 _ ez] at hf
                                                        refine lv_iconst (v := (0 : Int32)) hx hb dL_law_1199 (by decide) ?_
                                                        exact absurd (Option.some.inj hf) (by decide)
                                                  · have hf := cn_f c1179 hf
                                                    obtain ⟨z1179, hf, ez⟩ := exR_e hf
                                                    rw [kX1 _ ez] at hf
                                                    refine lv_iconst (v := (0 : Int32)) hx hb dL_law_1182 (by decide) ?_
                                                    exact absurd (Option.some.inj hf) (by decide)
                                                · have hf := cn_f w22 hf
                                                  by_cases w23 : swx = (23 : Int32)
                                                  · have hf := cn_t w23 hf
                                                    refine lv_tableIn (off := 1165) (tgt := 1204) hx hb dL_law_39 (by rw [w23]; decide) (by rw [w23]; decide) (by rw [w23]; decide) (by decide) ?_
                                                    refine lv_aload_n hx hb dL_law_1204 rfl (lv_at hl 1 rfl) ?_
                                                    refine lv_aload_n hx hb dL_law_1205 rfl (lv_at hl 3 rfl) ?_
                                                    obtain ⟨q1206, hq1206, hf⟩ := bnd_e hf
                                                    refine gk_i hS (gsw_run (rest := []) S hG hW hS [.ref (Γ.1 0), .ref (Γ.1 498)] (c_L_runAll l hl0 Γ t_23.1 t_23.2.1 hq1206) pk_L_runAll ml_L_175 rfl rfl ⟨Nat.le_of_ble_eq_true rfl, Nat.le_of_ble_eq_true rfl⟩ rfl hl.1 rfl (Nat.le_of_ble_eq_true rfl) dL_law_1206 ⟨by show cs + 1 ≤ 601024; omega, by show ss + 6 ≤ 7293034; omega⟩) (fun H locs hW hS => ?_)
                                                    refine lv_istore (lv' := [(5, .int q1206.1), (0, .ref b), (1, .ref (Γ.1 0)), (2, .ref (Γ.1 475)), (3, .ref (Γ.1 498)), (4, .int t_23.2.2)]) hx hb dL_law_1209 hl (by decide) rfl (fun ls hl => ?_)
                                                    refine lv_aload_n hx hb dL_law_1211 rfl (lv_at hl 3 rfl) ?_
                                                    obtain ⟨q1212, hq1212, hf⟩ := bnd_e hf
                                                    refine gk0_i hS (gv_run (rest := []) S hG hW hS [] (c_X8_runAll l Γ q1206.2.1 q1206.2.2 hq1212) pk_X8_runAll ml_L_178 (Nat.le_of_ble_eq_true rfl) rfl rfl rfl rfl ⟨Nat.le_of_ble_eq_true rfl, Nat.le_of_ble_eq_true rfl⟩ rfl hl.1 rfl (Nat.le_of_ble_eq_true rfl) dL_law_1212 ⟨by show (cs + 1) + 0 ≤ 601024; omega, by show (ss + 6) + 0 ≤ 7293034; omega⟩) (fun H locs hW hS => ?_)
                                                    refine lv_istore (lv' := [(6, .int q1212.1), (5, .int q1206.1), (0, .ref b), (1, .ref (Γ.1 0)), (2, .ref (Γ.1 475)), (3, .ref (Γ.1 498)), (4, .int t_23.2.2)]) hx hb dL_law_1215 hl (by decide) rfl (fun ls hl => ?_)
                                                    refine lv_aload_n hx hb dL_law_1217 rfl (lv_at hl 4 rfl) ?_
                                                    refine gk0_i hS (gv_run (rest := []) S hG hW hS [] (c_X8_thrown l Γ q1206.2.1 q1212.2) pk_X8_thrown ml_L_96 (Nat.le_of_ble_eq_true rfl) rfl rfl rfl rfl ⟨Nat.le_of_ble_eq_true rfl, Nat.le_of_ble_eq_true rfl⟩ rfl hl.1 rfl (Nat.le_of_ble_eq_true rfl) dL_law_1218 ⟨by show (cs + 1) + 0 ≤ 601024; omega, by show (ss + 6) + 0 ≤ 7293034; omega⟩) (fun H locs hW hS => ?_)
                                                    refine lv_iload hx hb dL_law_1221 (lv_at hl 1 rfl) ?_
                                                    refine lv_icmp_eq (tgt := 1228) hx hb dL_law_1223 (by decide) (fun c1223 => ?_) (fun c1223 => ?_)
                                                    · have hf := cn_t c1223 hf
                                                      refine lv_iload hx hb dL_law_1228 (lv_at hl 1 rfl) ?_
                                                      have J_1245 : ∀ (C_1245 : Mem) (M_1245 : Mem), fL_law_1245 L xs t_23 C_1245 M_1245 = some y1 → ∀ (cs ss : Nat), cs ≤ 1003 + 4 * n → ss ≤ 100018 + 24 * n → ∀ (H : Heap) (locs : List Loc) (ls : Array Slot), gx_W Γ C_1245 M_1245 H → va_S (gA Γ) s.heap H locs → lv_has ls 7 [(0, .ref b), (1, .ref (Γ.1 0)), (2, .ref (Γ.1 475)), (3, .ref (Γ.1 498)), (4, .int t_23.2.2)] → W p l e room_1 s m #[Value.ref b] below meth c H locs cs ss Q (F0 m 1245 ls []) := by
                                                        intro C_1245 M_1245 hf cs ss hcs hss H locs ls hW hS hl
                                                        unfold fL_law_1245 at hf
                                                        refine lv_goto (tgt := 1592) hx hb dL_law_1245 (by decide) ?_
                                                        exact J_1592 C_1245 M_1245 hf cs ss (by omega) (by omega) H locs ls hW hS (lv_sub hl [0, 1, 2, 3, 4] rfl)
                                                      refine lv_if_ne (tgt := 1245) hx hb dL_law_1230 (by decide) (fun c1230 => ?_) (fun c1230 => ?_)
                                                      · have hf := cn_f c1230 hf
                                                        exact J_1245 q1206.2.1 q1212.2 hf (cs + 1) (ss + 6) (by omega) (by omega) H locs ls hW hS (lv_sub hl [2, 3, 4, 5, 6] rfl)
                                                      · have hf := cn_t c1230 hf
                                                        refine lv_aload_n hx hb dL_law_1233 rfl (lv_at hl 5 rfl) ?_
                                                        refine lv_iconst (v := (0 : Int32)) hx hb dL_law_1234 (by decide) ?_
                                                        refine ald_out S hG hW in_01 dL_law_1235 ?_
                                                        refine lv_iload hx hb dL_law_1236 (lv_at hl 0 rfl) ?_
                                                        refine lv_i2l (v := q1212.1.toInt64) hx hb dL_law_1238 rfl ?_
                                                        refine W.lcmp hx hb dL_law_1239 ?_
                                                        refine lv_if_eq (tgt := 1245) hx hb dL_law_1240 (by decide) (fun c1240 => ?_) (fun c1240 => ?_)
                                                        · have hf := cn_t c1240 hf
                                                          exact J_1245 q1206.2.1 q1212.2 hf (cs + 1) (ss + 6) (by omega) (by omega) H locs ls hW hS (lv_sub hl [2, 3, 4, 5, 6] rfl)
                                                        · have hf := cn_f c1240 hf
                                                          obtain ⟨z1240, hf, ez⟩ := exR_e hf
                                                          rw [kX1 _ ez] at hf
                                                          refine lv_iconst (v := (0 : Int32)) hx hb dL_law_1243 (by decide) ?_
                                                          exact absurd (Option.some.inj hf) (by decide)
                                                    · have hf := cn_f c1223 hf
                                                      obtain ⟨z1223, hf, ez⟩ := exR_e hf
                                                      rw [kX1 _ ez] at hf
                                                      refine lv_iconst (v := (0 : Int32)) hx hb dL_law_1226 (by decide) ?_
                                                      exact absurd (Option.some.inj hf) (by decide)
                                                  · have hf := cn_f w23 hf
                                                    by_cases w24 : swx = (24 : Int32)
                                                    · have hf := cn_t w24 hf
                                                      refine lv_tableIn (off := 1209) (tgt := 1248) hx hb dL_law_39 (by rw [w24]; decide) (by rw [w24]; decide) (by rw [w24]; decide) (by decide) ?_
                                                      refine lv_aload_n hx hb dL_law_1248 rfl (lv_at hl 1 rfl) ?_
                                                      refine gk0_i hS (gv_run (rest := []) S hG hW hS [] (c_X7_keys l Γ t_23.1 t_23.2.1) pk_X7_keys ml_L_179 (Nat.le_of_ble_eq_true rfl) rfl rfl rfl rfl ⟨Nat.le_of_ble_eq_true rfl, Nat.le_of_ble_eq_true rfl⟩ rfl hl.1 rfl (Nat.le_of_ble_eq_true rfl) dL_law_1249 ⟨by show cs + 0 ≤ 601024; omega, by show ss + 0 ≤ 7293034; omega⟩) (fun H locs hW hS => ?_)
                                                      refine lv_aload_n hx hb dL_law_1252 rfl (lv_at hl 2 rfl) ?_
                                                      obtain ⟨q1253, hq1253, hf⟩ := bnd_e hf
                                                      refine gk0_i hS (gv_run (rest := [.int (fX7_keys t_23.1)]) S hG hW hS [] (c_X8_keys l Γ t_23.1 t_23.2.1 hq1253) pk_X8_keys ml_L_182 (Nat.le_of_ble_eq_true rfl) rfl rfl rfl rfl ⟨Nat.le_of_ble_eq_true rfl, Nat.le_of_ble_eq_true rfl⟩ rfl hl.1 rfl (Nat.le_of_ble_eq_true rfl) dL_law_1253 ⟨by show cs + 0 ≤ 601024; omega, by show ss + 0 ≤ 7293034; omega⟩) (fun H locs hW hS => ?_)
                                                      refine lv_icmp_eq (tgt := 1592) hx hb dL_law_1256 (by decide) (fun c1256 => ?_) (fun c1256 => ?_)
                                                      · have hf := cn_t c1256 hf
                                                        exact J_1592 t_23.1 q1253.2 hf cs ss (by omega) (by omega) H locs ls hW hS (lv_sub hl [0, 1, 2, 3, 4] rfl)
                                                      · have hf := cn_f c1256 hf
                                                        obtain ⟨z1256, hf, ez⟩ := exR_e hf
                                                        rw [kX1 _ ez] at hf
                                                        refine lv_iconst (v := (0 : Int32)) hx hb dL_law_1259 (by decide) ?_
                                                        exact absurd (Option.some.inj hf) (by decide)
                                                    · have hf := cn_f w24 hf
                                                      by_cases w25 : swx = (25 : Int32)
                                                      · have hf := cn_t w25 hf
                                                        refine lv_tableIn (off := 1222) (tgt := 1261) hx hb dL_law_39 (by rw [w25]; decide) (by rw [w25]; decide) (by rw [w25]; decide) (by decide) ?_
                                                        refine lv_aload_n hx hb dL_law_1261 rfl (lv_at hl 1 rfl) ?_
                                                        refine lv_aload_n hx hb dL_law_1262 rfl (lv_at hl 0 rfl) ?_
                                                        refine lv_iload hx hb dL_law_1263 (lv_at hl 4 rfl) ?_
                                                        refine lv_iconst (v := (1 : Int32)) hx hb dL_law_1265 (by decide) ?_
                                                        refine lv_iadd hx hb dL_law_1266 ?_
                                                        have g1267 := ck_p hf
                                                        have hf := ck_r hf
                                                        refine va_sld hx hb hX hbl hbA hS g1267 dL_law_1267 ?_
                                                        refine lv_aload_n hx hb dL_law_1268 rfl (lv_at hl 0 rfl) ?_
                                                        refine lv_iload hx hb dL_law_1269 (lv_at hl 4 rfl) ?_
                                                        refine lv_iconst (v := (2 : Int32)) hx hb dL_law_1271 (by decide) ?_
                                                        refine lv_iadd hx hb dL_law_1272 ?_
                                                        have g1273 := ck_p hf
                                                        have hf := ck_r hf
                                                        refine va_sld hx hb hX hbl hbA hS g1273 dL_law_1273 ?_
                                                        refine lv_aload_n hx hb dL_law_1274 rfl (lv_at hl 3 rfl) ?_
                                                        obtain ⟨q1275, hq1275, hf⟩ := bnd_e hf
                                                        refine gk_i hS (gsw_run (rest := []) S hG hW hS [.ref (Γ.1 0), .int (xs (t_23.2.2 + (1 : Int32)).toNatClampNeg), .int (xs (t_23.2.2 + (2 : Int32)).toNatClampNeg), .ref (Γ.1 498)] (c_L_shardOf l hl0 Γ t_23.1 t_23.2.1 (xs (t_23.2.2 + (1 : Int32)).toNatClampNeg) (xs (t_23.2.2 + (2 : Int32)).toNatClampNeg) hq1275) pk_L_shardOf ml_L_183 rfl rfl ⟨Nat.le_of_ble_eq_true rfl, Nat.le_of_ble_eq_true rfl⟩ rfl hl.1 rfl (Nat.le_of_ble_eq_true rfl) dL_law_1275 ⟨by show cs + 2 ≤ 601024; omega, by show ss + 12 ≤ 7293034; omega⟩) (fun H locs hW hS => ?_)
                                                        refine lv_istore (lv' := [(5, .int q1275.1), (0, .ref b), (1, .ref (Γ.1 0)), (2, .ref (Γ.1 475)), (3, .ref (Γ.1 498)), (4, .int t_23.2.2)]) hx hb dL_law_1278 hl (by decide) rfl (fun ls hl => ?_)
                                                        refine lv_aload_n hx hb dL_law_1280 rfl (lv_at hl 3 rfl) ?_
                                                        refine lv_aload_n hx hb dL_law_1281 rfl (lv_at hl 1 rfl) ?_
                                                        refine lv_iload hx hb dL_law_1282 (lv_at hl 5 rfl) ?_
                                                        refine lv_iconst (v := (1 : Int32)) hx hb dL_law_1284 (by decide) ?_
                                                        refine lv_iadd hx hb dL_law_1285 ?_
                                                        have g1286 := ck_p hf
                                                        have hf := ck_r hf
                                                        refine va_sld hx hb hX hbl hbA hS g1286 dL_law_1286 ?_
                                                        refine lv_aload_n hx hb dL_law_1287 rfl (lv_at hl 1 rfl) ?_
                                                        refine lv_iload hx hb dL_law_1288 (lv_at hl 5 rfl) ?_
                                                        refine lv_iconst (v := (2 : Int32)) hx hb dL_law_1290 (by decide) ?_
                                                        refine lv_iadd hx hb dL_law_1291 ?_
                                                        have g1292 := ck_p hf
                                                        have hf := ck_r hf
                                                        refine va_sld hx hb hX hbl hbA hS g1292 dL_law_1292 ?_
                                                        obtain ⟨q1293, hq1293, hf⟩ := bnd_e hf
                                                        refine gk0_i hS (gv_run (rest := []) S hG hW hS [.int (xs (t_23.2.2 + (1 : Int32)).toNatClampNeg), .int (xs (t_23.2.2 + (2 : Int32)).toNatClampNeg)] (c_X8_shardOf l Γ q1275.2.1 q1275.2.2 (xs (t_23.2.2 + (1 : Int32)).toNatClampNeg) (xs (t_23.2.2 + (2 : Int32)).toNatClampNeg) hq1293) pk_X8_shardOf ml_L_185 (Nat.le_of_ble_eq_true rfl) rfl rfl rfl rfl ⟨Nat.le_of_ble_eq_true rfl, Nat.le_of_ble_eq_true rfl⟩ rfl hl.1 rfl (Nat.le_of_ble_eq_true rfl) dL_law_1293 ⟨by show (cs + 2) + 0 ≤ 601024; omega, by show (ss + 12) + 0 ≤ 7293034; omega⟩) (fun H locs hW hS => ?_)
                                                        refine lv_istore (lv' := [(6, .int q1293.1), (5, .int q1275.1), (0, .ref b), (1, .ref (Γ.1 0)), (2, .ref (Γ.1 475)), (3, .ref (Γ.1 498)), (4, .int t_23.2.2)]) hx hb dL_law_1296 hl (by decide) rfl (fun ls hl => ?_)
                                                        refine lv_aload_n hx hb dL_law_1298 rfl (lv_at hl 4 rfl) ?_
                                                        refine gk0_i hS (gv_run (rest := []) S hG hW hS [] (c_X8_thrown l Γ q1275.2.1 q1293.2) pk_X8_thrown ml_L_96 (Nat.le_of_ble_eq_true rfl) rfl rfl rfl rfl ⟨Nat.le_of_ble_eq_true rfl, Nat.le_of_ble_eq_true rfl⟩ rfl hl.1 rfl (Nat.le_of_ble_eq_true rfl) dL_law_1299 ⟨by show (cs + 2) + 0 ≤ 601024; omega, by show (ss + 12) + 0 ≤ 7293034; omega⟩) (fun H locs hW hS => ?_)
                                                        refine lv_iload hx hb dL_law_1302 (lv_at hl 1 rfl) ?_
                                                        refine lv_icmp_eq (tgt := 1309) hx hb dL_law_1304 (by decide) (fun c1304 => ?_) (fun c1304 => ?_)
                                                        · have hf := cn_t c1304 hf
                                                          refine lv_iload hx hb dL_law_1309 (lv_at hl 1 rfl) ?_
                                                          have J_1326 : ∀ (C_1326 : Mem) (M_1326 : Mem), fL_law_1326 L xs t_23 C_1326 M_1326 = some y1 → ∀ (cs ss : Nat), cs ≤ 1003 + 4 * n → ss ≤ 100018 + 24 * n → ∀ (H : Heap) (locs : List Loc) (ls : Array Slot), gx_W Γ C_1326 M_1326 H → va_S (gA Γ) s.heap H locs → lv_has ls 7 [(0, .ref b), (1, .ref (Γ.1 0)), (2, .ref (Γ.1 475)), (3, .ref (Γ.1 498)), (4, .int t_23.2.2)] → W p l e room_1 s m #[Value.ref b] below meth c H locs cs ss Q (F0 m 1326 ls []) := by
                                                            intro C_1326 M_1326 hf cs ss hcs hss H locs ls hW hS hl
                                                            unfold fL_law_1326 at hf
                                                            refine lv_goto (tgt := 1592) hx hb dL_law_1326 (by decide) ?_
                                                            exact J_1592 C_1326 M_1326 hf cs ss (by omega) (by omega) H locs ls hW hS (lv_sub hl [0, 1, 2, 3, 4] rfl)
                                                          refine lv_if_ne (tgt := 1326) hx hb dL_law_1311 (by decide) (fun c1311 => ?_) (fun c1311 => ?_)
                                                          · have hf := cn_f c1311 hf
                                                            exact J_1326 q1275.2.1 q1293.2 hf (cs + 2) (ss + 12) (by omega) (by omega) H locs ls hW hS (lv_sub hl [2, 3, 4, 5, 6] rfl)
                                                          · have hf := cn_t c1311 hf
                                                            refine lv_aload_n hx hb dL_law_1314 rfl (lv_at hl 5 rfl) ?_
                                                            refine lv_iconst (v := (0 : Int32)) hx hb dL_law_1315 (by decide) ?_
                                                            refine ald_out S hG hW in_01 dL_law_1316 ?_
                                                            refine lv_iload hx hb dL_law_1317 (lv_at hl 0 rfl) ?_
                                                            refine lv_i2l (v := q1293.1.toInt64) hx hb dL_law_1319 rfl ?_
                                                            refine W.lcmp hx hb dL_law_1320 ?_
                                                            refine lv_if_eq (tgt := 1326) hx hb dL_law_1321 (by decide) (fun c1321 => ?_) (fun c1321 => ?_)
                                                            · have hf := cn_t c1321 hf
                                                              exact J_1326 q1275.2.1 q1293.2 hf (cs + 2) (ss + 12) (by omega) (by omega) H locs ls hW hS (lv_sub hl [2, 3, 4, 5, 6] rfl)
                                                            · have hf := cn_f c1321 hf
                                                              obtain ⟨z1321, hf, ez⟩ := exR_e hf
                                                              rw [kX1 _ ez] at hf
                                                              refine lv_iconst (v := (0 : Int32)) hx hb dL_law_1324 (by decide) ?_
                                                              exact absurd (Option.some.inj hf) (by decide)
                                                        · have hf := cn_f c1304 hf
                                                          obtain ⟨z1304, hf, ez⟩ := exR_e hf
                                                          rw [kX1 _ ez] at hf
                                                          refine lv_iconst (v := (0 : Int32)) hx hb dL_law_1307 (by decide) ?_
                                                          exact absurd (Option.some.inj hf) (by decide)
                                                      · have hf := cn_f w25 hf
                                                        by_cases w26 : swx = (26 : Int32)
                                                        · have hf := cn_t w26 hf
                                                          refine lv_tableIn (off := 1290) (tgt := 1329) hx hb dL_law_39 (by rw [w26]; decide) (by rw [w26]; decide) (by rw [w26]; decide) (by decide) ?_
                                                          refine lv_aload_n hx hb dL_law_1329 rfl (lv_at hl 1 rfl) ?_
                                                          refine lv_aload_n hx hb dL_law_1330 rfl (lv_at hl 0 rfl) ?_
                                                          refine lv_iload hx hb dL_law_1331 (lv_at hl 4 rfl) ?_
                                                          refine lv_iconst (v := (1 : Int32)) hx hb dL_law_1333 (by decide) ?_
                                                          refine lv_iadd hx hb dL_law_1334 ?_
                                                          have g1335 := ck_p hf
                                                          have hf := ck_r hf
                                                          refine va_sld hx hb hX hbl hbA hS g1335 dL_law_1335 ?_
                                                          refine lv_aload_n hx hb dL_law_1336 rfl (lv_at hl 3 rfl) ?_
                                                          obtain ⟨q1337, hq1337, hf⟩ := bnd_e hf
                                                          refine gk_i hS (gsw_run (rest := []) S hG hW hS [.ref (Γ.1 0), .int (xs (t_23.2.2 + (1 : Int32)).toNatClampNeg), .ref (Γ.1 498)] (c_L_longestShard l hl0 Γ t_23.1 t_23.2.1 (xs (t_23.2.2 + (1 : Int32)).toNatClampNeg) hq1337) pk_L_longestShard ml_L_186 rfl rfl ⟨Nat.le_of_ble_eq_true rfl, Nat.le_of_ble_eq_true rfl⟩ rfl hl.1 rfl (Nat.le_of_ble_eq_true rfl) dL_law_1337 ⟨by show cs + 1 ≤ 601024; omega, by show ss + 6 ≤ 7293034; omega⟩) (fun H locs hW hS => ?_)
                                                          refine lv_istore (lv' := [(5, .int q1337.1), (0, .ref b), (1, .ref (Γ.1 0)), (2, .ref (Γ.1 475)), (3, .ref (Γ.1 498)), (4, .int t_23.2.2)]) hx hb dL_law_1340 hl (by decide) rfl (fun ls hl => ?_)
                                                          refine lv_aload_n hx hb dL_law_1342 rfl (lv_at hl 3 rfl) ?_
                                                          refine lv_aload_n hx hb dL_law_1343 rfl (lv_at hl 1 rfl) ?_
                                                          refine lv_iload hx hb dL_law_1344 (lv_at hl 5 rfl) ?_
                                                          refine lv_iconst (v := (1 : Int32)) hx hb dL_law_1346 (by decide) ?_
                                                          refine lv_iadd hx hb dL_law_1347 ?_
                                                          have g1348 := ck_p hf
                                                          have hf := ck_r hf
                                                          refine va_sld hx hb hX hbl hbA hS g1348 dL_law_1348 ?_
                                                          obtain ⟨q1349, hq1349, hf⟩ := bnd_e hf
                                                          refine gk0_i hS (gv_run (rest := []) S hG hW hS [.int (xs (t_23.2.2 + (1 : Int32)).toNatClampNeg)] (c_X8_longestShard l Γ q1337.2.1 q1337.2.2 (xs (t_23.2.2 + (1 : Int32)).toNatClampNeg) hq1349) pk_X8_longestShard ml_L_188 (Nat.le_of_ble_eq_true rfl) rfl rfl rfl rfl ⟨Nat.le_of_ble_eq_true rfl, Nat.le_of_ble_eq_true rfl⟩ rfl hl.1 rfl (Nat.le_of_ble_eq_true rfl) dL_law_1349 ⟨by show (cs + 1) + 0 ≤ 601024; omega, by show (ss + 6) + 0 ≤ 7293034; omega⟩) (fun H locs hW hS => ?_)
                                                          refine lv_istore (lv' := [(6, .int q1349.1), (5, .int q1337.1), (0, .ref b), (1, .ref (Γ.1 0)), (2, .ref (Γ.1 475)), (3, .ref (Γ.1 498)), (4, .int t_23.2.2)]) hx hb dL_law_1352 hl (by decide) rfl (fun ls hl => ?_)
                                                          refine lv_aload_n hx hb dL_law_1354 rfl (lv_at hl 4 rfl) ?_
                                                          refine gk0_i hS (gv_run (rest := []) S hG hW hS [] (c_X8_thrown l Γ q1337.2.1 q1349.2) pk_X8_thrown ml_L_96 (Nat.le_of_ble_eq_true rfl) rfl rfl rfl rfl ⟨Nat.le_of_ble_eq_true rfl, Nat.le_of_ble_eq_true rfl⟩ rfl hl.1 rfl (Nat.le_of_ble_eq_true rfl) dL_law_1355 ⟨by show (cs + 1) + 0 ≤ 601024; omega, by show (ss + 6) + 0 ≤ 7293034; omega⟩) (fun H locs hW hS => ?_)
                                                          refine lv_iload hx hb dL_law_1358 (lv_at hl 1 rfl) ?_
                                                          refine lv_icmp_eq (tgt := 1365) hx hb dL_law_1360 (by decide) (fun c1360 => ?_) (fun c1360 => ?_)
                                                          · have hf := cn_t c1360 hf
                                                            refine lv_iload hx hb dL_law_1365 (lv_at hl 1 rfl) ?_
                                                            have J_1382 : ∀ (C_1382 : Mem) (M_1382 : Mem), fL_law_1382 L xs t_23 C_1382 M_1382 = some y1 → ∀ (cs ss : Nat), cs ≤ 1003 + 4 * n → ss ≤ 100018 + 24 * n → ∀ (H : Heap) (locs : List Loc) (ls : Array Slot), gx_W Γ C_1382 M_1382 H → va_S (gA Γ) s.heap H locs → lv_has ls 7 [(0, .ref b), (1, .ref (Γ.1 0)), (2, .ref (Γ.1 475)), (3, .ref (Γ.1 498)), (4, .int t_23.2.2)] → W p l e room_1 s m #[Value.ref b] below meth c H locs cs ss Q (F0 m 1382 ls []) := by
                                                              intro C_1382 M_1382 hf cs ss hcs hss H locs ls hW hS hl
                                                              unfold fL_law_1382 at hf
                                                              refine lv_goto (tgt := 1592) hx hb dL_law_1382 (by decide) ?_
                                                              exact J_1592 C_1382 M_1382 hf cs ss (by omega) (by omega) H locs ls hW hS (lv_sub hl [0, 1, 2, 3, 4] rfl)
                                                            refine lv_if_ne (tgt := 1382) hx hb dL_law_1367 (by decide) (fun c1367 => ?_) (fun c1367 => ?_)
                                                            · have hf := cn_f c1367 hf
                                                              exact J_1382 q1337.2.1 q1349.2 hf (cs + 1) (ss + 6) (by omega) (by omega) H locs ls hW hS (lv_sub hl [2, 3, 4, 5, 6] rfl)
                                                            · have hf := cn_t c1367 hf
                                                              refine lv_aload_n hx hb dL_law_1370 rfl (lv_at hl 5 rfl) ?_
                                                              refine lv_iconst (v := (0 : Int32)) hx hb dL_law_1371 (by decide) ?_
                                                              refine ald_out S hG hW in_01 dL_law_1372 ?_
                                                              refine lv_iload hx hb dL_law_1373 (lv_at hl 0 rfl) ?_
                                                              refine lv_i2l (v := q1349.1.toInt64) hx hb dL_law_1375 rfl ?_
                                                              refine W.lcmp hx hb dL_law_1376 ?_
                                                              refine lv_if_eq (tgt := 1382) hx hb dL_law_1377 (by decide) (fun c1377 => ?_) (fun c1377 => ?_)
                                                              · have hf := cn_t c1377 hf
                                                                exact J_1382 q1337.2.1 q1349.2 hf (cs + 1) (ss + 6) (by omega) (by omega) H locs ls hW hS (lv_sub hl [2, 3, 4, 5, 6] rfl)
                                                              · have hf := cn_f c1377 hf
                                                                obtain ⟨z1377, hf, ez⟩ := exR_e hf
                                                                rw [kX1 _ ez] at hf
                                                                refine lv_iconst (v := (0 : Int32)) hx hb dL_law_1380 (by decide) ?_
                                                                exact absurd (Option.some.inj hf) (by decide)
                                                          · have hf := cn_f c1360 hf
                                                            obtain ⟨z1360, hf, ez⟩ := exR_e hf
                                                            rw [kX1 _ ez] at hf
                                                            refine lv_iconst (v := (0 : Int32)) hx hb dL_law_1363 (by decide) ?_
                                                            exact absurd (Option.some.inj hf) (by decide)
                                                        · have hf := cn_f w26 hf
                                                          by_cases w27 : swx = (27 : Int32)
                                                          · have hf := cn_t w27 hf
                                                            refine lv_tableIn (off := 1346) (tgt := 1385) hx hb dL_law_39 (by rw [w27]; decide) (by rw [w27]; decide) (by rw [w27]; decide) (by decide) ?_
                                                            refine lv_aload_n hx hb dL_law_1385 rfl (lv_at hl 1 rfl) ?_
                                                            refine lv_aload_n hx hb dL_law_1386 rfl (lv_at hl 0 rfl) ?_
                                                            refine lv_iload hx hb dL_law_1387 (lv_at hl 4 rfl) ?_
                                                            refine lv_iconst (v := (1 : Int32)) hx hb dL_law_1389 (by decide) ?_
                                                            refine lv_iadd hx hb dL_law_1390 ?_
                                                            have g1391 := ck_p hf
                                                            have hf := ck_r hf
                                                            refine va_sld hx hb hX hbl hbA hS g1391 dL_law_1391 ?_
                                                            refine lv_aload_n hx hb dL_law_1392 rfl (lv_at hl 3 rfl) ?_
                                                            obtain ⟨q1393, hq1393, hf⟩ := bnd_e hf
                                                            refine gk_i hS (gsw_run (rest := []) S hG hW hS [.ref (Γ.1 0), .int (xs (t_23.2.2 + (1 : Int32)).toNatClampNeg), .ref (Γ.1 498)] (c_L_shardsFor l hl0 Γ t_23.1 t_23.2.1 (xs (t_23.2.2 + (1 : Int32)).toNatClampNeg) hq1393) pk_L_shardsFor ml_L_189 rfl rfl ⟨Nat.le_of_ble_eq_true rfl, Nat.le_of_ble_eq_true rfl⟩ rfl hl.1 rfl (Nat.le_of_ble_eq_true rfl) dL_law_1393 ⟨by show cs + 1 ≤ 601024; omega, by show ss + 6 ≤ 7293034; omega⟩) (fun H locs hW hS => ?_)
                                                            refine lv_istore (lv' := [(5, .int q1393.1), (0, .ref b), (1, .ref (Γ.1 0)), (2, .ref (Γ.1 475)), (3, .ref (Γ.1 498)), (4, .int t_23.2.2)]) hx hb dL_law_1396 hl (by decide) rfl (fun ls hl => ?_)
                                                            refine lv_aload_n hx hb dL_law_1398 rfl (lv_at hl 3 rfl) ?_
                                                            refine lv_aload_n hx hb dL_law_1399 rfl (lv_at hl 1 rfl) ?_
                                                            refine lv_iload hx hb dL_law_1400 (lv_at hl 5 rfl) ?_
                                                            refine lv_iconst (v := (1 : Int32)) hx hb dL_law_1402 (by decide) ?_
                                                            refine lv_iadd hx hb dL_law_1403 ?_
                                                            have g1404 := ck_p hf
                                                            have hf := ck_r hf
                                                            refine va_sld hx hb hX hbl hbA hS g1404 dL_law_1404 ?_
                                                            obtain ⟨q1405, hq1405, hf⟩ := bnd_e hf
                                                            refine gk0_i hS (gv_run (rest := []) S hG hW hS [.int (xs (t_23.2.2 + (1 : Int32)).toNatClampNeg)] (c_X8_shardsFor l Γ q1393.2.1 q1393.2.2 (xs (t_23.2.2 + (1 : Int32)).toNatClampNeg) hq1405) pk_X8_shardsFor ml_L_191 (Nat.le_of_ble_eq_true rfl) rfl rfl rfl rfl ⟨Nat.le_of_ble_eq_true rfl, Nat.le_of_ble_eq_true rfl⟩ rfl hl.1 rfl (Nat.le_of_ble_eq_true rfl) dL_law_1405 ⟨by show (cs + 1) + 0 ≤ 601024; omega, by show (ss + 6) + 0 ≤ 7293034; omega⟩) (fun H locs hW hS => ?_)
                                                            refine lv_istore (lv' := [(6, .int q1405.1), (5, .int q1393.1), (0, .ref b), (1, .ref (Γ.1 0)), (2, .ref (Γ.1 475)), (3, .ref (Γ.1 498)), (4, .int t_23.2.2)]) hx hb dL_law_1408 hl (by decide) rfl (fun ls hl => ?_)
                                                            refine lv_aload_n hx hb dL_law_1410 rfl (lv_at hl 4 rfl) ?_
                                                            refine gk0_i hS (gv_run (rest := []) S hG hW hS [] (c_X8_thrown l Γ q1393.2.1 q1405.2) pk_X8_thrown ml_L_96 (Nat.le_of_ble_eq_true rfl) rfl rfl rfl rfl ⟨Nat.le_of_ble_eq_true rfl, Nat.le_of_ble_eq_true rfl⟩ rfl hl.1 rfl (Nat.le_of_ble_eq_true rfl) dL_law_1411 ⟨by show (cs + 1) + 0 ≤ 601024; omega, by show (ss + 6) + 0 ≤ 7293034; omega⟩) (fun H locs hW hS => ?_)
                                                            refine lv_iload hx hb dL_law_1414 (lv_at hl 1 rfl) ?_
                                                            refine lv_icmp_eq (tgt := 1421) hx hb dL_law_1416 (by decide) (fun c1416 => ?_) (fun c1416 => ?_)
                                                            · have hf := cn_t c1416 hf
                                                              refine lv_iload hx hb dL_law_1421 (lv_at hl 1 rfl) ?_
                                                              have J_1438 : ∀ (C_1438 : Mem) (M_1438 : Mem), fL_law_1438 L xs t_23 C_1438 M_1438 = some y1 → ∀ (cs ss : Nat), cs ≤ 1003 + 4 * n → ss ≤ 100018 + 24 * n → ∀ (H : Heap) (locs : List Loc) (ls : Array Slot), gx_W Γ C_1438 M_1438 H → va_S (gA Γ) s.heap H locs → lv_has ls 7 [(0, .ref b), (1, .ref (Γ.1 0)), (2, .ref (Γ.1 475)), (3, .ref (Γ.1 498)), (4, .int t_23.2.2)] → W p l e room_1 s m #[Value.ref b] below meth c H locs cs ss Q (F0 m 1438 ls []) := by
                                                                intro C_1438 M_1438 hf cs ss hcs hss H locs ls hW hS hl
                                                                unfold fL_law_1438 at hf
                                                                refine lv_goto (tgt := 1592) hx hb dL_law_1438 (by decide) ?_
                                                                exact J_1592 C_1438 M_1438 hf cs ss (by omega) (by omega) H locs ls hW hS (lv_sub hl [0, 1, 2, 3, 4] rfl)
                                                              refine lv_if_ne (tgt := 1438) hx hb dL_law_1423 (by decide) (fun c1423 => ?_) (fun c1423 => ?_)
                                                              · have hf := cn_f c1423 hf
                                                                exact J_1438 q1393.2.1 q1405.2 hf (cs + 1) (ss + 6) (by omega) (by omega) H locs ls hW hS (lv_sub hl [2, 3, 4, 5, 6] rfl)
                                                              · have hf := cn_t c1423 hf
                                                                refine lv_aload_n hx hb dL_law_1426 rfl (lv_at hl 5 rfl) ?_
                                                                refine lv_iconst (v := (0 : Int32)) hx hb dL_law_1427 (by decide) ?_
                                                                refine ald_out S hG hW in_01 dL_law_1428 ?_
                                                                refine lv_iload hx hb dL_law_1429 (lv_at hl 0 rfl) ?_
                                                                refine lv_i2l (v := q1405.1.toInt64) hx hb dL_law_1431 rfl ?_
                                                                refine W.lcmp hx hb dL_law_1432 ?_
                                                                refine lv_if_eq (tgt := 1438) hx hb dL_law_1433 (by decide) (fun c1433 => ?_) (fun c1433 => ?_)
                                                                · have hf := cn_t c1433 hf
                                                                  exact J_1438 q1393.2.1 q1405.2 hf (cs + 1) (ss + 6) (by omega) (by omega) H locs ls hW hS (lv_sub hl [2, 3, 4, 5, 6] rfl)
                                                                · have hf := cn_f c1433 hf
                                                                  obtain ⟨z1433, hf, ez⟩ := exR_e hf
                                                                  rw [kX1 _ ez] at hf
                                                                  refine lv_iconst (v := (0 : Int32)) hx hb dL_law_1436 (by decide) ?_
                                                                  exact absurd (Option.some.inj hf) (by decide)
                                                            · have hf := cn_f c1416 hf
                                                              obtain ⟨z1416, hf, ez⟩ := exR_e hf
                                                              rw [kX1 _ ez] at hf
                                                              refine lv_iconst (v := (0 : Int32)) hx hb dL_law_1419 (by decide) ?_
                                                              exact absurd (Option.some.inj hf) (by decide)
                                                          · have hf := cn_f w27 hf
                                                            by_cases w28 : swx = (28 : Int32)
                                                            · have hf := cn_t w28 hf
                                                              refine lv_tableIn (off := 1402) (tgt := 1441) hx hb dL_law_39 (by rw [w28]; decide) (by rw [w28]; decide) (by rw [w28]; decide) (by decide) ?_
                                                              refine lv_aload_n hx hb dL_law_1441 rfl (lv_at hl 1 rfl) ?_
                                                              refine lv_aload_n hx hb dL_law_1442 rfl (lv_at hl 0 rfl) ?_
                                                              refine lv_iload hx hb dL_law_1443 (lv_at hl 4 rfl) ?_
                                                              refine lv_iconst (v := (1 : Int32)) hx hb dL_law_1445 (by decide) ?_
                                                              refine lv_iadd hx hb dL_law_1446 ?_
                                                              have g1447 := ck_p hf
                                                              have hf := ck_r hf
                                                              refine va_sld hx hb hX hbl hbA hS g1447 dL_law_1447 ?_
                                                              refine lv_aload_n hx hb dL_law_1448 rfl (lv_at hl 3 rfl) ?_
                                                              obtain ⟨q1449, hq1449, hf⟩ := bnd_e hf
                                                              refine gk_i hS (gsw_run (rest := []) S hG hW hS [.ref (Γ.1 0), .int (xs (t_23.2.2 + (1 : Int32)).toNatClampNeg), .ref (Γ.1 498)] (c_L_addRule l hl0 Γ t_23.1 t_23.2.1 (xs (t_23.2.2 + (1 : Int32)).toNatClampNeg) hq1449) pk_L_addRule ml_L_192 rfl rfl ⟨Nat.le_of_ble_eq_true rfl, Nat.le_of_ble_eq_true rfl⟩ rfl hl.1 rfl (Nat.le_of_ble_eq_true rfl) dL_law_1449 ⟨by show cs + 2 ≤ 601024; omega, by show ss + 12 ≤ 7293034; omega⟩) (fun H locs hW hS => ?_)
                                                              refine lv_istore (lv' := [(5, .int q1449.1), (0, .ref b), (1, .ref (Γ.1 0)), (2, .ref (Γ.1 475)), (3, .ref (Γ.1 498)), (4, .int t_23.2.2)]) hx hb dL_law_1452 hl (by decide) rfl (fun ls hl => ?_)
                                                              refine lv_aload_n hx hb dL_law_1454 rfl (lv_at hl 3 rfl) ?_
                                                              refine lv_aload_n hx hb dL_law_1455 rfl (lv_at hl 1 rfl) ?_
                                                              refine lv_iload hx hb dL_law_1456 (lv_at hl 5 rfl) ?_
                                                              refine lv_iconst (v := (1 : Int32)) hx hb dL_law_1458 (by decide) ?_
                                                              refine lv_iadd hx hb dL_law_1459 ?_
                                                              have g1460 := ck_p hf
                                                              have hf := ck_r hf
                                                              refine va_sld hx hb hX hbl hbA hS g1460 dL_law_1460 ?_
                                                              obtain ⟨q1461, hq1461, hf⟩ := bnd_e hf
                                                              refine gk0_i hS (gv_run (rest := []) S hG hW hS [.int (xs (t_23.2.2 + (1 : Int32)).toNatClampNeg)] (c_X8_addRule l Γ q1449.2.1 q1449.2.2 (xs (t_23.2.2 + (1 : Int32)).toNatClampNeg) hq1461) pk_X8_addRule ml_L_194 (Nat.le_of_ble_eq_true rfl) rfl rfl rfl rfl ⟨Nat.le_of_ble_eq_true rfl, Nat.le_of_ble_eq_true rfl⟩ rfl hl.1 rfl (Nat.le_of_ble_eq_true rfl) dL_law_1461 ⟨by show (cs + 2) + 0 ≤ 601024; omega, by show (ss + 12) + 0 ≤ 7293034; omega⟩) (fun H locs hW hS => ?_)
                                                              refine lv_istore (lv' := [(6, .int q1461.1), (5, .int q1449.1), (0, .ref b), (1, .ref (Γ.1 0)), (2, .ref (Γ.1 475)), (3, .ref (Γ.1 498)), (4, .int t_23.2.2)]) hx hb dL_law_1464 hl (by decide) rfl (fun ls hl => ?_)
                                                              refine lv_aload_n hx hb dL_law_1466 rfl (lv_at hl 4 rfl) ?_
                                                              refine gk0_i hS (gv_run (rest := []) S hG hW hS [] (c_X8_thrown l Γ q1449.2.1 q1461.2) pk_X8_thrown ml_L_96 (Nat.le_of_ble_eq_true rfl) rfl rfl rfl rfl ⟨Nat.le_of_ble_eq_true rfl, Nat.le_of_ble_eq_true rfl⟩ rfl hl.1 rfl (Nat.le_of_ble_eq_true rfl) dL_law_1467 ⟨by show (cs + 2) + 0 ≤ 601024; omega, by show (ss + 12) + 0 ≤ 7293034; omega⟩) (fun H locs hW hS => ?_)
                                                              refine lv_iload hx hb dL_law_1470 (lv_at hl 1 rfl) ?_
                                                              refine lv_icmp_eq (tgt := 1477) hx hb dL_law_1472 (by decide) (fun c1472 => ?_) (fun c1472 => ?_)
                                                              · have hf := cn_t c1472 hf
                                                                refine lv_iload hx hb dL_law_1477 (lv_at hl 1 rfl) ?_
                                                                have J_1494 : ∀ (C_1494 : Mem) (M_1494 : Mem), fL_law_1494 L xs t_23 C_1494 M_1494 = some y1 → ∀ (cs ss : Nat), cs ≤ 1003 + 4 * n → ss ≤ 100018 + 24 * n → ∀ (H : Heap) (locs : List Loc) (ls : Array Slot), gx_W Γ C_1494 M_1494 H → va_S (gA Γ) s.heap H locs → lv_has ls 7 [(0, .ref b), (1, .ref (Γ.1 0)), (2, .ref (Γ.1 475)), (3, .ref (Γ.1 498)), (4, .int t_23.2.2)] → W p l e room_1 s m #[Value.ref b] below meth c H locs cs ss Q (F0 m 1494 ls []) := by
                                                                  intro C_1494 M_1494 hf cs ss hcs hss H locs ls hW hS hl
                                                                  unfold fL_law_1494 at hf
                                                                  refine lv_goto (tgt := 1592) hx hb dL_law_1494 (by decide) ?_
                                                                  exact J_1592 C_1494 M_1494 hf cs ss (by omega) (by omega) H locs ls hW hS (lv_sub hl [0, 1, 2, 3, 4] rfl)
                                                                refine lv_if_ne (tgt := 1494) hx hb dL_law_1479 (by decide) (fun c1479 => ?_) (fun c1479 => ?_)
                                                                · have hf := cn_f c1479 hf
                                                                  exact J_1494 q1449.2.1 q1461.2 hf (cs + 2) (ss + 12) (by omega) (by omega) H locs ls hW hS (lv_sub hl [2, 3, 4, 5, 6] rfl)
                                                                · have hf := cn_t c1479 hf
                                                                  refine lv_aload_n hx hb dL_law_1482 rfl (lv_at hl 5 rfl) ?_
                                                                  refine lv_iconst (v := (0 : Int32)) hx hb dL_law_1483 (by decide) ?_
                                                                  refine ald_out S hG hW in_01 dL_law_1484 ?_
                                                                  refine lv_iload hx hb dL_law_1485 (lv_at hl 0 rfl) ?_
                                                                  refine lv_i2l (v := q1461.1.toInt64) hx hb dL_law_1487 rfl ?_
                                                                  refine W.lcmp hx hb dL_law_1488 ?_
                                                                  refine lv_if_eq (tgt := 1494) hx hb dL_law_1489 (by decide) (fun c1489 => ?_) (fun c1489 => ?_)
                                                                  · have hf := cn_t c1489 hf
                                                                    exact J_1494 q1449.2.1 q1461.2 hf (cs + 2) (ss + 12) (by omega) (by omega) H locs ls hW hS (lv_sub hl [2, 3, 4, 5, 6] rfl)
                                                                  · have hf := cn_f c1489 hf
                                                                    obtain ⟨z1489, hf, ez⟩ := exR_e hf
                                                                    rw [kX1 _ ez] at hf
                                                                    refine lv_iconst (v := (0 : Int32)) hx hb dL_law_1492 (by decide) ?_
                                                                    exact absurd (Option.some.inj hf) (by decide)
                                                              · have hf := cn_f c1472 hf
                                                                obtain ⟨z1472, hf, ez⟩ := exR_e hf
                                                                rw [kX1 _ ez] at hf
                                                                refine lv_iconst (v := (0 : Int32)) hx hb dL_law_1475 (by decide) ?_
                                                                exact absurd (Option.some.inj hf) (by decide)
                                                            · have hf := cn_f w28 hf
                                                              by_cases w29 : swx = (29 : Int32)
                                                              · have hf := cn_t w29 hf
                                                                refine lv_tableIn (off := 1458) (tgt := 1497) hx hb dL_law_39 (by rw [w29]; decide) (by rw [w29]; decide) (by rw [w29]; decide) (by decide) ?_
                                                                refine lv_aload_n hx hb dL_law_1497 rfl (lv_at hl 1 rfl) ?_
                                                                refine lv_aload_n hx hb dL_law_1498 rfl (lv_at hl 0 rfl) ?_
                                                                refine lv_iload hx hb dL_law_1499 (lv_at hl 4 rfl) ?_
                                                                refine lv_iconst (v := (1 : Int32)) hx hb dL_law_1501 (by decide) ?_
                                                                refine lv_iadd hx hb dL_law_1502 ?_
                                                                have g1503 := ck_p hf
                                                                have hf := ck_r hf
                                                                refine va_sld hx hb hX hbl hbA hS g1503 dL_law_1503 ?_
                                                                refine lv_aload_n hx hb dL_law_1504 rfl (lv_at hl 3 rfl) ?_
                                                                obtain ⟨q1505, hq1505, hf⟩ := bnd_e hf
                                                                refine gk_i hS (gsw_run (rest := []) S hG hW hS [.ref (Γ.1 0), .int (xs (t_23.2.2 + (1 : Int32)).toNatClampNeg), .ref (Γ.1 498)] (c_L_ownerOf l hl0 Γ t_23.1 t_23.2.1 (xs (t_23.2.2 + (1 : Int32)).toNatClampNeg) hq1505) pk_L_ownerOf ml_L_195 rfl rfl ⟨Nat.le_of_ble_eq_true rfl, Nat.le_of_ble_eq_true rfl⟩ rfl hl.1 rfl (Nat.le_of_ble_eq_true rfl) dL_law_1505 ⟨by show cs + 1 ≤ 601024; omega, by show ss + 6 ≤ 7293034; omega⟩) (fun H locs hW hS => ?_)
                                                                refine lv_istore (lv' := [(5, .int q1505.1), (0, .ref b), (1, .ref (Γ.1 0)), (2, .ref (Γ.1 475)), (3, .ref (Γ.1 498)), (4, .int t_23.2.2)]) hx hb dL_law_1508 hl (by decide) rfl (fun ls hl => ?_)
                                                                refine lv_aload_n hx hb dL_law_1510 rfl (lv_at hl 3 rfl) ?_
                                                                refine lv_aload_n hx hb dL_law_1511 rfl (lv_at hl 1 rfl) ?_
                                                                refine lv_iload hx hb dL_law_1512 (lv_at hl 5 rfl) ?_
                                                                refine lv_iconst (v := (1 : Int32)) hx hb dL_law_1514 (by decide) ?_
                                                                refine lv_iadd hx hb dL_law_1515 ?_
                                                                have g1516 := ck_p hf
                                                                have hf := ck_r hf
                                                                refine va_sld hx hb hX hbl hbA hS g1516 dL_law_1516 ?_
                                                                obtain ⟨q1517, hq1517, hf⟩ := bnd_e hf
                                                                refine gk0_i hS (gv_run (rest := []) S hG hW hS [.int (xs (t_23.2.2 + (1 : Int32)).toNatClampNeg)] (c_X8_ownerOf l Γ q1505.2.1 q1505.2.2 (xs (t_23.2.2 + (1 : Int32)).toNatClampNeg) hq1517) pk_X8_ownerOf ml_L_197 (Nat.le_of_ble_eq_true rfl) rfl rfl rfl rfl ⟨Nat.le_of_ble_eq_true rfl, Nat.le_of_ble_eq_true rfl⟩ rfl hl.1 rfl (Nat.le_of_ble_eq_true rfl) dL_law_1517 ⟨by show (cs + 1) + 0 ≤ 601024; omega, by show (ss + 6) + 0 ≤ 7293034; omega⟩) (fun H locs hW hS => ?_)
                                                                refine lv_istore (lv' := [(6, .int q1517.1), (5, .int q1505.1), (0, .ref b), (1, .ref (Γ.1 0)), (2, .ref (Γ.1 475)), (3, .ref (Γ.1 498)), (4, .int t_23.2.2)]) hx hb dL_law_1520 hl (by decide) rfl (fun ls hl => ?_)
                                                                refine lv_aload_n hx hb dL_law_1522 rfl (lv_at hl 4 rfl) ?_
                                                                refine gk0_i hS (gv_run (rest := []) S hG hW hS [] (c_X8_thrown l Γ q1505.2.1 q1517.2) pk_X8_thrown ml_L_96 (Nat.le_of_ble_eq_true rfl) rfl rfl rfl rfl ⟨Nat.le_of_ble_eq_true rfl, Nat.le_of_ble_eq_true rfl⟩ rfl hl.1 rfl (Nat.le_of_ble_eq_true rfl) dL_law_1523 ⟨by show (cs + 1) + 0 ≤ 601024; omega, by show (ss + 6) + 0 ≤ 7293034; omega⟩) (fun H locs hW hS => ?_)
                                                                refine lv_iload hx hb dL_law_1526 (lv_at hl 1 rfl) ?_
                                                                refine lv_icmp_eq (tgt := 1533) hx hb dL_law_1528 (by decide) (fun c1528 => ?_) (fun c1528 => ?_)
                                                                · have hf := cn_t c1528 hf
                                                                  refine lv_iload hx hb dL_law_1533 (lv_at hl 1 rfl) ?_
                                                                  have J_1550 : ∀ (C_1550 : Mem) (M_1550 : Mem), fL_law_1550 L xs t_23 C_1550 M_1550 = some y1 → ∀ (cs ss : Nat), cs ≤ 1003 + 4 * n → ss ≤ 100018 + 24 * n → ∀ (H : Heap) (locs : List Loc) (ls : Array Slot), gx_W Γ C_1550 M_1550 H → va_S (gA Γ) s.heap H locs → lv_has ls 7 [(0, .ref b), (1, .ref (Γ.1 0)), (2, .ref (Γ.1 475)), (3, .ref (Γ.1 498)), (4, .int t_23.2.2)] → W p l e room_1 s m #[Value.ref b] below meth c H locs cs ss Q (F0 m 1550 ls []) := by
                                                                    intro C_1550 M_1550 hf cs ss hcs hss H locs ls hW hS hl
                                                                    unfold fL_law_1550 at hf
                                                                    refine lv_goto (tgt := 1592) hx hb dL_law_1550 (by decide) ?_
                                                                    exact J_1592 C_1550 M_1550 hf cs ss (by omega) (by omega) H locs ls hW hS (lv_sub hl [0, 1, 2, 3, 4] rfl)
                                                                  refine lv_if_ne (tgt := 1550) hx hb dL_law_1535 (by decide) (fun c1535 => ?_) (fun c1535 => ?_)
                                                                  · have hf := cn_f c1535 hf
                                                                    exact J_1550 q1505.2.1 q1517.2 hf (cs + 1) (ss + 6) (by omega) (by omega) H locs ls hW hS (lv_sub hl [2, 3, 4, 5, 6] rfl)
                                                                  · have hf := cn_t c1535 hf
                                                                    refine lv_aload_n hx hb dL_law_1538 rfl (lv_at hl 5 rfl) ?_
                                                                    refine lv_iconst (v := (0 : Int32)) hx hb dL_law_1539 (by decide) ?_
                                                                    refine ald_out S hG hW in_01 dL_law_1540 ?_
                                                                    refine lv_iload hx hb dL_law_1541 (lv_at hl 0 rfl) ?_
                                                                    refine lv_i2l (v := q1517.1.toInt64) hx hb dL_law_1543 rfl ?_
                                                                    refine W.lcmp hx hb dL_law_1544 ?_
                                                                    refine lv_if_eq (tgt := 1550) hx hb dL_law_1545 (by decide) (fun c1545 => ?_) (fun c1545 => ?_)
                                                                    · have hf := cn_t c1545 hf
                                                                      exact J_1550 q1505.2.1 q1517.2 hf (cs + 1) (ss + 6) (by omega) (by omega) H locs ls hW hS (lv_sub hl [2, 3, 4, 5, 6] rfl)
                                                                    · have hf := cn_f c1545 hf
                                                                      obtain ⟨z1545, hf, ez⟩ := exR_e hf
                                                                      rw [kX1 _ ez] at hf
                                                                      refine lv_iconst (v := (0 : Int32)) hx hb dL_law_1548 (by decide) ?_
                                                                      exact absurd (Option.some.inj hf) (by decide)
                                                                · have hf := cn_f c1528 hf
                                                                  obtain ⟨z1528, hf, ez⟩ := exR_e hf
                                                                  rw [kX1 _ ez] at hf
                                                                  refine lv_iconst (v := (0 : Int32)) hx hb dL_law_1531 (by decide) ?_
                                                                  exact absurd (Option.some.inj hf) (by decide)
                                                              · have hf := cn_f w29 hf
                                                                by_cases w30 : swx = (30 : Int32)
                                                                · have hf := cn_t w30 hf
                                                                  refine lv_tableIn (off := 1514) (tgt := 1553) hx hb dL_law_39 (by rw [w30]; decide) (by rw [w30]; decide) (by rw [w30]; decide) (by decide) ?_
                                                                  refine lv_aload_n hx hb dL_law_1553 rfl (lv_at hl 1 rfl) ?_
                                                                  obtain ⟨q1554, hq1554, hf⟩ := bnd_e hf
                                                                  refine gk0_i hS (gv_run (rest := []) S hG hW hS [] (c_X7_mark l Γ t_23.1 t_23.2.1 hq1554) pk_X7_mark ml_L_198 (Nat.le_of_ble_eq_true rfl) rfl rfl rfl rfl ⟨Nat.le_of_ble_eq_true rfl, Nat.le_of_ble_eq_true rfl⟩ rfl hl.1 rfl (Nat.le_of_ble_eq_true rfl) dL_law_1554 ⟨by show cs + 0 ≤ 601024; omega, by show ss + 0 ≤ 7293034; omega⟩) (fun H locs hW hS => ?_)
                                                                  refine lv_aload_n hx hb dL_law_1557 rfl (lv_at hl 2 rfl) ?_
                                                                  obtain ⟨q1558, hq1558, hf⟩ := bnd_e hf
                                                                  refine gk0_i hS (gv_run (rest := [.int q1554.1]) S hG hW hS [] (c_X8_mark l Γ q1554.2 t_23.2.1 hq1558) pk_X8_mark ml_L_201 (Nat.le_of_ble_eq_true rfl) rfl rfl rfl rfl ⟨Nat.le_of_ble_eq_true rfl, Nat.le_of_ble_eq_true rfl⟩ rfl hl.1 rfl (Nat.le_of_ble_eq_true rfl) dL_law_1558 ⟨by show cs + 0 ≤ 601024; omega, by show ss + 0 ≤ 7293034; omega⟩) (fun H locs hW hS => ?_)
                                                                  refine lv_icmp_eq (tgt := 1592) hx hb dL_law_1561 (by decide) (fun c1561 => ?_) (fun c1561 => ?_)
                                                                  · have hf := cn_t c1561 hf
                                                                    exact J_1592 q1554.2 q1558.2 hf cs ss (by omega) (by omega) H locs ls hW hS (lv_sub hl [0, 1, 2, 3, 4] rfl)
                                                                  · have hf := cn_f c1561 hf
                                                                    obtain ⟨z1561, hf, ez⟩ := exR_e hf
                                                                    rw [kX1 _ ez] at hf
                                                                    refine lv_iconst (v := (0 : Int32)) hx hb dL_law_1564 (by decide) ?_
                                                                    exact absurd (Option.some.inj hf) (by decide)
                                                                · have hf := cn_f w30 hf
                                                                  by_cases w31 : swx = (31 : Int32)
                                                                  · have hf := cn_t w31 hf
                                                                    refine lv_tableIn (off := 1527) (tgt := 1566) hx hb dL_law_39 (by rw [w31]; decide) (by rw [w31]; decide) (by rw [w31]; decide) (by decide) ?_
                                                                    refine lv_aload_n hx hb dL_law_1566 rfl (lv_at hl 1 rfl) ?_
                                                                    obtain ⟨q1567, hq1567, hf⟩ := bnd_e hf
                                                                    refine gk0_i hS (gv_run (rest := []) S hG hW hS [] (c_X7_changed l Γ t_23.1 t_23.2.1 hq1567) pk_X7_changed ml_L_202 (Nat.le_of_ble_eq_true rfl) rfl rfl rfl rfl ⟨Nat.le_of_ble_eq_true rfl, Nat.le_of_ble_eq_true rfl⟩ rfl hl.1 rfl (Nat.le_of_ble_eq_true rfl) dL_law_1567 ⟨by show cs + 0 ≤ 601024; omega, by show ss + 0 ≤ 7293034; omega⟩) (fun H locs hW hS => ?_)
                                                                    refine lv_aload_n hx hb dL_law_1570 rfl (lv_at hl 2 rfl) ?_
                                                                    obtain ⟨q1571, hq1571, hf⟩ := bnd_e hf
                                                                    refine gk0_i hS (gv_run (rest := [.int q1567]) S hG hW hS [] (c_X8_changed l Γ t_23.1 t_23.2.1 hq1571) pk_X8_changed ml_L_205 (Nat.le_of_ble_eq_true rfl) rfl rfl rfl rfl ⟨Nat.le_of_ble_eq_true rfl, Nat.le_of_ble_eq_true rfl⟩ rfl hl.1 rfl (Nat.le_of_ble_eq_true rfl) dL_law_1571 ⟨by show cs + 0 ≤ 601024; omega, by show ss + 0 ≤ 7293034; omega⟩) (fun H locs hW hS => ?_)
                                                                    refine lv_icmp_eq (tgt := 1592) hx hb dL_law_1574 (by decide) (fun c1574 => ?_) (fun c1574 => ?_)
                                                                    · have hf := cn_t c1574 hf
                                                                      exact J_1592 t_23.1 q1571.2 hf cs ss (by omega) (by omega) H locs ls hW hS (lv_sub hl [0, 1, 2, 3, 4] rfl)
                                                                    · have hf := cn_f c1574 hf
                                                                      obtain ⟨z1574, hf, ez⟩ := exR_e hf
                                                                      rw [kX1 _ ez] at hf
                                                                      refine lv_iconst (v := (0 : Int32)) hx hb dL_law_1577 (by decide) ?_
                                                                      exact absurd (Option.some.inj hf) (by decide)
                                                                  · have hf := cn_f w31 hf
                                                                    by_cases w32 : swx = (32 : Int32)
                                                                    · have hf := cn_t w32 hf
                                                                      refine lv_tableIn (off := 1540) (tgt := 1579) hx hb dL_law_39 (by rw [w32]; decide) (by rw [w32]; decide) (by rw [w32]; decide) (by decide) ?_
                                                                      refine lv_aload_n hx hb dL_law_1579 rfl (lv_at hl 1 rfl) ?_
                                                                      obtain ⟨q1580, hq1580, hf⟩ := bnd_e hf
                                                                      refine gk0_i hS (gv_run (rest := []) S hG hW hS [] (c_X7_reviewers l Γ t_23.1 t_23.2.1 hq1580) pk_X7_reviewers ml_L_206 (Nat.le_of_ble_eq_true rfl) rfl rfl rfl rfl ⟨Nat.le_of_ble_eq_true rfl, Nat.le_of_ble_eq_true rfl⟩ rfl hl.1 rfl (Nat.le_of_ble_eq_true rfl) dL_law_1580 ⟨by show cs + 0 ≤ 601024; omega, by show ss + 0 ≤ 7293034; omega⟩) (fun H locs hW hS => ?_)
                                                                      refine lv_aload_n hx hb dL_law_1583 rfl (lv_at hl 2 rfl) ?_
                                                                      obtain ⟨q1584, hq1584, hf⟩ := bnd_e hf
                                                                      refine gk0_i hS (gv_run (rest := [.int q1580]) S hG hW hS [] (c_X8_reviewers l Γ t_23.1 t_23.2.1 hq1584) pk_X8_reviewers ml_L_209 (Nat.le_of_ble_eq_true rfl) rfl rfl rfl rfl ⟨Nat.le_of_ble_eq_true rfl, Nat.le_of_ble_eq_true rfl⟩ rfl hl.1 rfl (Nat.le_of_ble_eq_true rfl) dL_law_1584 ⟨by show cs + 0 ≤ 601024; omega, by show ss + 0 ≤ 7293034; omega⟩) (fun H locs hW hS => ?_)
                                                                      refine lv_icmp_eq (tgt := 1592) hx hb dL_law_1587 (by decide) (fun c1587 => ?_) (fun c1587 => ?_)
                                                                      · have hf := cn_t c1587 hf
                                                                        exact J_1592 t_23.1 q1584.2 hf cs ss (by omega) (by omega) H locs ls hW hS (lv_sub hl [0, 1, 2, 3, 4] rfl)
                                                                      · have hf := cn_f c1587 hf
                                                                        obtain ⟨z1587, hf, ez⟩ := exR_e hf
                                                                        rw [kX1 _ ez] at hf
                                                                        refine lv_iconst (v := (0 : Int32)) hx hb dL_law_1590 (by decide) ?_
                                                                        exact absurd (Option.some.inj hf) (by decide)
                                                                    · have hf := cn_f w32 hf
                                                                      refine lv_tableOut (tgt := 1592) hx hb dL_law_39 (sw33 (fun k hk => by
                                                                          rcases (by omega : k = 0 ∨ k = 1 ∨ k = 2 ∨ k = 3 ∨ k = 4 ∨ k = 5 ∨ k = 6 ∨ k = 7 ∨ k = 8 ∨ k = 9 ∨ k = 10 ∨ k = 11 ∨ k = 12 ∨ k = 13 ∨ k = 14 ∨ k = 15 ∨ k = 16 ∨ k = 17 ∨ k = 18 ∨ k = 19 ∨ k = 20 ∨ k = 21 ∨ k = 22 ∨ k = 23 ∨ k = 24 ∨ k = 25 ∨ k = 26 ∨ k = 27 ∨ k = 28 ∨ k = 29 ∨ k = 30 ∨ k = 31 ∨ k = 32) with rfl | rfl | rfl | rfl | rfl | rfl | rfl | rfl | rfl | rfl | rfl | rfl | rfl | rfl | rfl | rfl | rfl | rfl | rfl | rfl | rfl | rfl | rfl | rfl | rfl | rfl | rfl | rfl | rfl | rfl | rfl | rfl | rfl
                                                                          · exact fun e => w0 (e.trans (by decide))
                                                                          · exact fun e => w1 (e.trans (by decide))
                                                                          · exact fun e => w2 (e.trans (by decide))
                                                                          · exact fun e => w3 (e.trans (by decide))
                                                                          · exact fun e => w4 (e.trans (by decide))
                                                                          · exact fun e => w5 (e.trans (by decide))
                                                                          · exact fun e => w6 (e.trans (by decide))
                                                                          · exact fun e => w7 (e.trans (by decide))
                                                                          · exact fun e => w8 (e.trans (by decide))
                                                                          · exact fun e => w9 (e.trans (by decide))
                                                                          · exact fun e => w10 (e.trans (by decide))
                                                                          · exact fun e => w11 (e.trans (by decide))
                                                                          · exact fun e => w12 (e.trans (by decide))
                                                                          · exact fun e => w13 (e.trans (by decide))
                                                                          · exact fun e => w14 (e.trans (by decide))
                                                                          · exact fun e => w15 (e.trans (by decide))
                                                                          · exact fun e => w16 (e.trans (by decide))
                                                                          · exact fun e => w17 (e.trans (by decide))
                                                                          · exact fun e => w18 (e.trans (by decide))
                                                                          · exact fun e => w19 (e.trans (by decide))
                                                                          · exact fun e => w20 (e.trans (by decide))
                                                                          · exact fun e => w21 (e.trans (by decide))
                                                                          · exact fun e => w22 (e.trans (by decide))
                                                                          · exact fun e => w23 (e.trans (by decide))
                                                                          · exact fun e => w24 (e.trans (by decide))
                                                                          · exact fun e => w25 (e.trans (by decide))
                                                                          · exact fun e => w26 (e.trans (by decide))
                                                                          · exact fun e => w27 (e.trans (by decide))
                                                                          · exact fun e => w28 (e.trans (by decide))
                                                                          · exact fun e => w29 (e.trans (by decide))
                                                                          · exact fun e => w30 (e.trans (by decide))
                                                                          · exact fun e => w31 (e.trans (by decide))
                                                                          · exact fun e => w32 (e.trans (by decide))
                                                                          )) (by decide) ?_
                                                                      exact J_1592 t_23.1 t_23.2.1 hf cs ss (by omega) (by omega) H locs ls hW hS (lv_sub hl [0, 1, 2, 3, 4] rfl)
