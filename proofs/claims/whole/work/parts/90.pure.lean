/-! the law: a round -/
theorem law_m {C M : Mem} {σ : Ab} {ou a i : Int32} {L : Nat} {xs : Nat → Int32} (w : WF σ) (r : RC C σ) (s : RM ou M σ) : Fin3 (bnd (fL_matches C M a) fun q495 => bnd (fX8_matches q495.2.2 a) fun q507 => cnd ((fX8_thrown q507.2) = q495.1) (cnd (q495.1 = (0 : Int32)) (cnd (q507.1 = (0 : Int32)) (fL_law_541 L xs (C, M, i) q495.2.1 q507.2 (0 : Int64) ((q507.2 498 (0 : Int32).toNatClampNeg).toInt64)) (fL_law_541 L xs (C, M, i) q495.2.1 q507.2 (1 : Int64) ((q507.2 498 (0 : Int32).toNatClampNeg).toInt64))) (fL_law_547 L xs (C, M, i) q495.2.1 q507.2)) (exR (some (0 : Int32)))) (i + 3) := by
  unfold fL_matches
  rcases op_matches w r s a with ⟨M', s', ⟨x, h1, h2, h3⟩ | ⟨k, x, h1, h2, h3, h4, h5⟩⟩
  · rcases op_matches w r (RM_out (r := cnd (x = (0 : Int32)) (0 : Int32) (1 : Int32)) s) a with ⟨M2, s2, ⟨y, g1, g2, g3⟩ | ⟨k, x, g1, g2, g3, g4, g5⟩⟩
    · rw [h1] at g1
      cases g1
      rw [h1, bnd_s]
      show Fin3 (bnd (fX8_matches (mset M 498 0 (cnd (x = (0 : Int32)) (0 : Int32) (1 : Int32))) a) _) _
      rw [g2, bnd_s]
      unfold fX8_thrown
      show Fin3 (cnd (M2 475 26 = 0) (cnd ((0 : Int32) = 0) (cnd (x = 0) (fL_law_541 L xs (C, M, i) C M2 0 (M2 498 0).toInt64) (fL_law_541 L xs (C, M, i) C M2 1 (M2 498 0).toInt64)) _) _) _
      rw [g3, cnd_t (p := nI 0 = 0) rfl, cnd_t (p := (0 : Int32) = 0) rfl, s2.o8]
      unfold fL_law_541
      by_cases c : x = 0
      · rw [cnd_t (p := x = 0) c, cnd_t (p := x = 0) c, cnd_t (show lg_cmp (Int32.toInt64 0) 0 = 0 by decide)]
        exact ⟨C, M2, rfl, σ, _, w, r, s2⟩
      · rw [cnd_f (p := x = 0) c, cnd_f (p := x = 0) c, cnd_t (show lg_cmp (Int32.toInt64 1) 1 = 0 by decide)]
        exact ⟨C, M2, rfl, σ, _, w, r, s2⟩
    · rw [h1] at g1
      cases g1
  · rw [h1, bnd_s]
    show Fin3 (bnd (cnd (k = 3) (some ((1 : Int32), C, M)) (cnd (k = 2) (some ((2 : Int32), C, M)) none)) _) _
    rw [cd_32 (fun v => some (v, C, M)) h4, bnd_s]
    show Fin3 (bnd (fX8_matches M a) _) _
    rw [h2, bnd_s]
    unfold fX8_thrown
    show Fin3 (cnd (M' 475 26 = nI (wr_32 k)) (cnd (nI (wr_32 k) = 0) _ (fL_law_547 L xs (C, M, i) C M')) _) _
    rw [h3, cnd_t rfl, cnd_f (by rw [li_0, nI_eq (by omega) (by omega)]; omega)]
    exact ⟨C, M', rfl, σ, ou, w, r, s'⟩
set_option maxHeartbeats 8000000 in
set_option maxRecDepth 100000 in
theorem law_step {L i : Nat} {xs : Nat → Int32} {C M : Mem} (hL : L ≤ 1536) (hi : i + 3 ≤ L) (g : Gd C M) : Fin3 (fL_law_23 L xs (C, M, nI i)) (nI i + 3) := by
  obtain ⟨σ, ou, w, r, s⟩ := g
  have k0 : vp_in (nI i) L := by rw [vp_nI (by omega)]; omega
  have k1 : vp_in (nI i + 1) L := by rw [li_1, nI_add, vp_nI (by omega)]; omega
  have k2 : vp_in (nI i + 2) L := by rw [li_2, nI_add, vp_nI (by omega)]; omega
  unfold fL_law_23
  simp only []
  refine F3_f (by rw [li_3, px_sub (by omega)]; exact nI_nlt (by omega) (by omega)) ?_
  refine F3_k k0 ?_
  refine F3_c (fun _ => ?_) (fun _ => ?_)
  · simp only [chk_t k1]
    obtain ⟨c, hc, e⟩ := chr_c (xs (nI i + 1).toNatClampNeg)
    rw [e]
    exact law_w (fun M => fX8_type M (nI c)) (fL_law_239 L xs (C, M, nI i)) (fun _ _ s => op_type w r s hc) s rfl (fun k q h => cd_12 (fun v => some (v, q.2, M)) h) (fun _ _ => rfl)
  refine F3_c (fun _ => ?_) (fun _ => ?_)
  · exact law_n (fL_law_1592 L xs (C, M, nI i)) (op_clear w r s) (fun _ _ => rfl)
  refine F3_c (fun _ => ?_) (fun _ => ?_)
  · exact law_q (fL_law_1592 L xs (C, M, nI i)) w r (op_isPath w r s) (fun _ _ => rfl)
  refine F3_c (fun _ => ?_) (fun _ => ?_)
  · exact law_q (fL_law_1592 L xs (C, M, nI i)) w r (op_isGlob w r s) (fun _ _ => rfl)
  refine F3_c (fun _ => ?_) (fun _ => ?_)
  · simp only [chk_t k1]
    exact law_w (fun M => fX8_addFile M (xs (nI i + 1).toNatClampNeg)) (fL_law_334 L xs (C, M, nI i)) (fun _ _ s => op_addFile w r s _) s rfl (fun k q h => cd_12 (fun v => some (v, q.2, M)) h) (fun _ _ => rfl)
  refine F3_c (fun _ => ?_) (fun _ => ?_)
  · exact law_q (fL_law_1592 L xs (C, M, nI i)) w r (op_find w r s) (fun _ _ => rfl)
  refine F3_c (fun _ => ?_) (fun _ => ?_)
  · simp only [chk_t k1, chk_t k2]
    exact law_w (fun M => fX8_edit M (xs (nI i + 1).toNatClampNeg) (xs (nI i + 2).toNatClampNeg)) (fL_law_415 L xs (C, M, nI i)) (fun _ _ s => op_edit w r s _ _) s rfl (fun k q h => cd_31 (fun v => some (v, q.2, M)) h) (fun _ _ => rfl)
  refine F3_c (fun _ => ?_) (fun _ => ?_)
  · simp only [chk_t k1]
    exact law_w (fun M => fX8_delete M (xs (nI i + 1).toNatClampNeg)) (fL_law_471 L xs (C, M, nI i)) (fun _ _ s => op_delete w r s _) s rfl (fun k q h => cd_3 (fun v => some (v, q.2, M)) h) (fun _ _ => rfl)
  refine F3_c (fun _ => ?_) (fun _ => ?_)
  · exact law_v (fL_law_1592 L xs (C, M, nI i)) w r (op_files w r s) (fun _ _ => rfl)
  refine F3_c (fun _ => ?_) (fun _ => ?_)
  · simp only [chk_t k1]
    exact law_m w r s
  refine F3_c (fun _ => ?_) (fun _ => ?_)
  · simp only [chk_t k1]
    exact law_w (fun M => fX8_addTarget M (xs (nI i + 1).toNatClampNeg)) (fL_law_603 L xs (C, M, nI i)) (fun _ _ s => op_addTarget w r s _) s rfl (fun k q h => cd_12 (fun v => some (v, q.2, M)) h) (fun _ _ => rfl)
  refine F3_c (fun _ => ?_) (fun _ => ?_)
  · simp only [chk_t k1]
    exact law_w (fun M => fX8_addGlob M (xs (nI i + 1).toNatClampNeg)) (fL_law_659 L xs (C, M, nI i)) (fun _ _ s => op_addGlob w r s _) s rfl (fun k q h => cd_312 (fun v => some (v, q.2, M)) h) (fun _ _ => rfl)
  refine F3_c (fun _ => ?_) (fun _ => ?_)
  · simp only [chk_t k1, chk_t k2]
    exact law_w (fun M => fX8_depend M (xs (nI i + 1).toNatClampNeg) (xs (nI i + 2).toNatClampNeg)) (fL_law_727 L xs (C, M, nI i)) (fun _ _ s => op_depend w r s _ _) s rfl (fun k q h => cd_32 (fun v => some (v, q.2, M)) h) (fun _ _ => rfl)
  refine F3_c (fun _ => ?_) (fun _ => ?_)
  · exact law_v (fL_law_1592 L xs (C, M, nI i)) w r (op_targets r s) (fun _ _ => rfl)
  refine F3_c (fun _ => ?_) (fun _ => ?_)
  · simp only [chk_t k1]
    exact law_r (fun M => fX8_inputs M (xs (nI i + 1).toNatClampNeg)) (fL_law_796 L xs (C, M, nI i)) w r (fun _ _ s => op_inputs w r s _) s rfl (fun k h => cd_3 (fun v => some (v, C, M)) h) (fun _ _ => rfl)
  refine F3_c (fun _ => ?_) (fun _ => ?_)
  · simp only [chk_t k1]
    exact law_r (fun M => fX8_above M (xs (nI i + 1).toNatClampNeg)) (fL_law_852 L xs (C, M, nI i)) w r (fun _ _ s => op_above w r s _) s rfl (fun k h => cd_3 (fun v => some (v, C, M)) h) (fun _ _ => rfl)
  refine F3_c (fun _ => ?_) (fun _ => ?_)
  · simp only [chk_t k1]
    exact law_w (fun M => fX8_orderAt M (xs (nI i + 1).toNatClampNeg)) (fL_law_908 L xs (C, M, nI i)) (fun _ _ s => op_orderAt w r s _) s rfl (fun k q h => cd_3 (fun v => some (v, q.2, M)) h) (fun _ _ => rfl)
  refine F3_c (fun _ => ?_) (fun _ => ?_)
  · simp only [chk_t k1]
    exact law_r (fun M => fX8_affectedBy M (xs (nI i + 1).toNatClampNeg)) (fL_law_964 L xs (C, M, nI i)) w r (fun _ _ s => op_affectedBy w r s _) s rfl (fun k h => cd_3 (fun v => some (v, C, M)) h) (fun _ _ => rfl)
  refine F3_c (fun _ => ?_) (fun _ => ?_)
  · simp only [chk_t k1]
    exact law_r (fun M => fX8_affectedByGoingDown M (xs (nI i + 1).toNatClampNeg)) (fL_law_1020 L xs (C, M, nI i)) w r (fun _ _ s => op_affectedDown w r s _) s rfl (fun k h => cd_3 (fun v => some (v, C, M)) h) (fun _ _ => rfl)
  refine F3_c (fun _ => ?_) (fun _ => ?_)
  · simp only [chk_t k1]
    exact law_w (fun M => fX8_keyOf M (xs (nI i + 1).toNatClampNeg)) (fL_law_1076 L xs (C, M, nI i)) (fun _ _ s => op_keyOf w r s _) s rfl (fun k q h => cd_3 (fun v => some (v, q.2, M)) h) (fun _ _ => rfl)
  refine F3_c (fun _ => ?_) (fun _ => ?_)
  · exact law_n (fL_law_1592 L xs (C, M, nI i)) (op_needed w r s) (fun _ _ => rfl)
  refine F3_c (fun _ => ?_) (fun _ => ?_)
  · simp only [chk_t k1]
    exact law_w (fun M => fX8_whyRun M (xs (nI i + 1).toNatClampNeg)) (fL_law_1145 L xs (C, M, nI i)) (fun _ _ s => op_whyRun w r s _) s rfl (fun k q h => cd_3 (fun v => some (v, q.2, M)) h) (fun _ _ => rfl)
  refine F3_c (fun _ => ?_) (fun _ => ?_)
  · simp only [chk_t k1]
    exact law_w (fun M => fX8_run M (xs (nI i + 1).toNatClampNeg)) (fL_law_1201 L xs (C, M, nI i)) (fun _ _ s => op_run w r s _) s rfl (fun k q h => cd_32 (fun v => some (v, q.2, M)) h) (fun _ _ => rfl)
  refine F3_c (fun _ => ?_) (fun _ => ?_)
  · exact law_w (fun M => fX8_runAll M) (fL_law_1245 L xs (C, M, nI i)) (fun _ _ s => op_runAll w r s) s rfl (fun k q h => cd_2 (fun v => some (v, q.2, M)) h) (fun _ _ => rfl)
  refine F3_c (fun _ => ?_) (fun _ => ?_)
  · exact law_v (fL_law_1592 L xs (C, M, nI i)) w r (op_keys r s) (fun _ _ => rfl)
  refine F3_c (fun _ => ?_) (fun _ => ?_)
  · simp only [chk_t k1, chk_t k2]
    exact law_w (fun M => fX8_shardOf M (xs (nI i + 1).toNatClampNeg) (xs (nI i + 2).toNatClampNeg)) (fL_law_1326 L xs (C, M, nI i)) (fun _ _ s => op_shardOf w r s _ _) s rfl (fun k q h => cd_31 (fun v => some (v, q.2, M)) h) (fun _ _ => rfl)
  refine F3_c (fun _ => ?_) (fun _ => ?_)
  · simp only [chk_t k1]
    exact law_w (fun M => fX8_longestShard M (xs (nI i + 1).toNatClampNeg)) (fL_law_1382 L xs (C, M, nI i)) (fun _ _ s => op_longestShard w r s _) s rfl (fun k q h => cd_1 (fun v => some (v, q.2, M)) h) (fun _ _ => rfl)
  refine F3_c (fun _ => ?_) (fun _ => ?_)
  · simp only [chk_t k1]
    exact law_w (fun M => fX8_shardsFor M (xs (nI i + 1).toNatClampNeg)) (fL_law_1438 L xs (C, M, nI i)) (fun _ _ s => op_shardsFor w r s _) s rfl (fun k q h => cd_1 (fun v => some (v, q.2, M)) h) (fun _ _ => rfl)
  refine F3_c (fun _ => ?_) (fun _ => ?_)
  · simp only [chk_t k1]
    exact law_w (fun M => fX8_addRule M (xs (nI i + 1).toNatClampNeg)) (fL_law_1494 L xs (C, M, nI i)) (fun _ _ s => op_addRule w r s _) s rfl (fun k q h => cd_312 (fun v => some (v, q.2, M)) h) (fun _ _ => rfl)
  refine F3_c (fun _ => ?_) (fun _ => ?_)
  · simp only [chk_t k1]
    exact law_r (fun M => fX8_ownerOf M (xs (nI i + 1).toNatClampNeg)) (fL_law_1550 L xs (C, M, nI i)) w r (fun _ _ s => op_ownerOf w r s _) s rfl (fun k h => cd_3 (fun v => some (v, C, M)) h) (fun _ _ => rfl)
  refine F3_c (fun _ => ?_) (fun _ => ?_)
  · exact law_n (fL_law_1592 L xs (C, M, nI i)) (op_mark w r s) (fun _ _ => rfl)
  refine F3_c (fun _ => ?_) (fun _ => ?_)
  · exact law_q (fL_law_1592 L xs (C, M, nI i)) w r (op_changed w r s) (fun _ _ => rfl)
  refine F3_c (fun _ => ?_) (fun _ => ?_)
  · exact law_q (fL_law_1592 L xs (C, M, nI i)) w r (op_reviewers w r s) (fun _ _ => rfl)
  exact ⟨C, M, rfl, σ, ou, w, r, s⟩
theorem lt_nI {a : Int32} {i : Nat} (h : a < 0) (hi : i < 2147483648) : a < nI i := by
  have h1 := nI_pos' (n := i) hi
  rw [Int32.lt_iff_toInt_lt] at *
  rw [Int32.le_iff_toInt_le] at h1
  omega
theorem law_pure {L : Nat} {xs : Nat → Int32} (hL : L ≤ 1536) : ∀ n i C M, L < i + n → i ≤ L + 3 → Gd C M → lp (fL_law_23 L xs) (C, M, nI i) = some (1 : Int32)
  | 0, i, C, M, h1, h2, g => by
    refine lp_exq ?_
    unfold fL_law_23
    by_cases c : L < 3
    · have e : nI L - 3 < 0 := (by decide +kernel : ∀ L, L < 3 → nI L - 3 < 0) L c
      rw [cnd_t]
      show nI L - 3 < nI i
      exact lt_nI e (by omega)
    · rw [cnd_t]
      show nI L - 3 < nI i
      rw [li_3, px_sub (by omega)]
      exact nI_lt (by omega) (by omega)
  | n + 1, i, C, M, h1, h2, g => by
    by_cases c : i + 3 ≤ L
    · obtain ⟨C', M', e, g'⟩ := law_step (xs := xs) hL c g
      rw [lp_go e, li_3, nI_add]
      exact law_pure hL n (i + 3) C' M' (by omega) (by omega) g'
    · refine lp_exq ?_
      unfold fL_law_23
      by_cases c2 : L < 3
      · have e : nI L - 3 < 0 := (by decide +kernel : ∀ L, L < 3 → nI L - 3 < 0) L c2
        rw [cnd_t]
        show nI L - 3 < nI i
        exact lt_nI e (by omega)
      · rw [cnd_t]
        show nI L - 3 < nI i
        rw [li_3, px_sub (by omega)]
        exact nI_lt (by omega) (by omega)
theorem pure_law {L : Nat} {xs : Nat → Int32} (hL : L ≤ 1536) : lp (fL_law_23 L xs) (C0m, M0m, (0 : Int32)) = some (1 : Int32) := law_pure hL (L + 1) 0 C0m M0m (by omega) (by omega) ⟨Ab0, nI 0, WF0, RC0, RM0⟩
