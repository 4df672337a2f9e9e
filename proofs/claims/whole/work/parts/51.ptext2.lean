variable {ou : Int32}
theorem sg_lt {c : Nat} (h : sg c) : c < 128 := by unfold sg at h; omega
theorem op_type {C M : Mem} {σ : Ab} (w : WF σ) (r : RC C σ) (s : RM ou M σ) {c : Nat} (hc : c < 65536) : Opp ou wr_12 (fX7_type C (nI c)) (fX8_type M (nI c)) := by
  have hn := r.tx.2.1
  rw [m_sign M hc]
  unfold fX7_type
  rw [c_sign hc]
  by_cases h1 : sg c
  · have hc2 := sg_lt h1
    simp only [li_0]
    rw [cnd_t h1, cnd_t h1, cnd_f (by decide)]
    by_cases h2 : σ.tn = 24
    · refine ⟨C, mset M 475 26 (nI 2), σ, w, r, RM_thr s, Or.inr ⟨2, nI 0, ?_, ?_, mset_eq, by decide, by decide⟩⟩
      · unfold fX6_isFull
        rw [r.tx.1, h2]
        simp (disch := omega) only [li_0, li_1, li_2, li_3, li_4, li_5, li_7, li_8, li_12, li_16, li_23, li_24, li_31, li_40, li_42, li_47, li_63, li_64, li_76, li_77, li_97, li_122, li_200, li_201, li_1000, li_1824, li_9999, li_16000, nI_add, nx_or, nx_and, pk_mul, nx_xor, nI_leI, nI_ltI, nI_eq, nI_clamp, vp_nI, px_sub, px_shl, px_shl2, px_shr2, px_bit, Bool.true_eq_false, Bool.false_eq_true, hol_0, hol_1, px_chr, chk, cnd_true, cnd_false, cnd_ite, bnd_s, nmv, exR, if_pos, if_neg, if_true, if_false, reduceIte, eq_self, not_true_eq_false, not_false_eq_true]
      · unfold fX8_type_35 fX8_type_62
        simp only [li_76]
        rw [nI_clamp (by decide), s.tx.1, h2]
        simp (disch := omega) only [li_0, li_1, li_2, li_3, li_4, li_5, li_7, li_8, li_12, li_16, li_23, li_24, li_31, li_40, li_42, li_47, li_63, li_64, li_76, li_77, li_97, li_122, li_200, li_201, li_1000, li_1824, li_9999, li_16000, nI_add, nx_or, nx_and, pk_mul, nx_xor, nI_leI, nI_ltI, nI_eq, nI_clamp, vp_nI, px_sub, px_shl, px_shl2, px_shr2, px_bit, Bool.true_eq_false, Bool.false_eq_true, hol_0, hol_1, px_chr, chk, cnd_true, cnd_false, cnd_ite, bnd_s, nmv, exR, if_pos, if_neg, if_true, if_false, reduceIte, eq_self, not_true_eq_false, not_false_eq_true, mset_eq]
    · refine ⟨mset (mset C 2 σ.tn (nI c)) 1 1 (nI (σ.tn + 1)), mset (mset (mset M 475 26 (nI 0)) 476 (1824 + σ.tn) (nI c)) 477 76 (nI (σ.tn + 1)), σ.txt (σ.tn + 1) (fun i => if i = σ.tn then c else σ.tf i), ?_, ?_, ?_, Or.inl ⟨nI (σ.tn + 1), ?_, ?_, ?_⟩⟩
      · refine WF_txt w ⟨by omega, fun j hj => ?_⟩
        by_cases q : j = σ.tn
        · simp only [q, if_true]; exact hc2
        · simp only [q, if_false]; exact (r.tx.2.2 j (by omega)).2
      · refine RC_txt r ⟨mset_eq, by omega, fun j hj => ?_⟩
        rw [mset_ne (by omega)]
        by_cases q : j = σ.tn
        · simp only [q, if_true]; exact ⟨mset_eq, hc2⟩
        · simp only [q, if_false]
          rw [mset_ne (by omega)]
          exact r.tx.2.2 j (by omega)
      · refine RM_txt w (RM_thr s) (by omega) ⟨mset_eq, by omega, fun j hj => ?_⟩
        rw [mset_ne (by omega)]
        by_cases q : j = σ.tn
        · simp only [q, if_true]; exact ⟨mset_eq, hc2⟩
        · simp only [q, if_false]
          rw [mset_ne (by omega), mset_ne (by omega)]
          exact s.tx.2.2 j (by omega)
      · unfold fX6_isFull fX6_append fX6_size
        rw [r.tx.1]
        simp (disch := omega) only [mset_ne]
        rw [r.tx.1]
        simp only [li_1, li_0, li_24]
        rw [nI_clamp (by omega), px_chr hc]
        simp (disch := omega) only [li_0, li_1, li_2, li_3, li_4, li_5, li_7, li_8, li_12, li_16, li_23, li_24, li_31, li_40, li_42, li_47, li_63, li_64, li_76, li_77, li_97, li_122, li_200, li_201, li_1000, li_1824, li_9999, li_16000, nI_add, nx_or, nx_and, pk_mul, nx_xor, nI_leI, nI_ltI, nI_eq, nI_clamp, vp_nI, px_sub, px_shl, px_shl2, px_shr2, px_bit, Bool.true_eq_false, Bool.false_eq_true, hol_0, hol_1, px_chr, chk, cnd_true, cnd_false, cnd_ite, bnd_s, nmv, exR, if_pos, if_neg, if_true, if_false, reduceIte, eq_self, not_true_eq_false, not_false_eq_true, mset_eq]
      · unfold fX8_type_35 fX8_type_62
        simp only [li_76, li_1824, li_0, li_24, li_1]
        rw [nI_clamp (by decide)]
        simp (disch := omega) only [mset_ne]
        rw [s.tx.1, nI_add, nI_clamp (by omega)]
        simp (disch := omega) only [li_0, li_1, li_2, li_3, li_4, li_5, li_7, li_8, li_12, li_16, li_23, li_24, li_31, li_40, li_42, li_47, li_63, li_64, li_76, li_77, li_97, li_122, li_200, li_201, li_1000, li_1824, li_9999, li_16000, nI_add, nx_or, nx_and, pk_mul, nx_xor, nI_leI, nI_ltI, nI_eq, nI_clamp, vp_nI, px_sub, px_shl, px_shl2, px_shr2, px_bit, Bool.true_eq_false, Bool.false_eq_true, hol_0, hol_1, px_chr, chk, cnd_true, cnd_false, cnd_ite, bnd_s, nmv, exR, if_pos, if_neg, if_true, if_false, reduceIte, eq_self, not_true_eq_false, not_false_eq_true, h2, mset_eq, mset_ne, show 1824 + σ.tn < 1848 by omega]
      · rw [mset_ne (by omega), mset_ne (by omega)]
        exact mset_eq
  · rw [cnd_f h1, cnd_f h1]
    simp only [li_0, cnd_true]
    refine ⟨C, mset M 475 26 (nI 1), σ, w, r, RM_thr s, Or.inr ⟨1, nI 0, rfl, ?_, mset_eq, by decide, by decide⟩⟩
    unfold fX8_type_35 fX8_type_62
    simp (disch := omega) only [li_0, li_1, li_2, li_3, li_4, li_5, li_7, li_8, li_12, li_16, li_23, li_24, li_31, li_40, li_42, li_47, li_63, li_64, li_76, li_77, li_97, li_122, li_200, li_201, li_1000, li_1824, li_9999, li_16000, nI_add, nx_or, nx_and, pk_mul, nx_xor, nI_leI, nI_ltI, nI_eq, nI_clamp, vp_nI, px_sub, px_shl, px_shl2, px_shr2, px_bit, Bool.true_eq_false, Bool.false_eq_true, hol_0, hol_1, px_chr, chk, cnd_true, cnd_false, cnd_ite, bnd_s, nmv, exR, if_pos, if_neg, if_true, if_false, reduceIte, eq_self, not_true_eq_false, not_false_eq_true, mset_eq]
theorem op_clear {C M : Mem} {σ : Ab} (w : WF σ) (r : RC C σ) (s : RM ou M σ) : Opn ou (fX7_clearText C) (fX8_clearText M) := by
  refine ⟨mset C 1 1 (nI 0), mset (mset M 475 26 (nI 0)) 477 76 (nI 0), σ.txt 0 (fun _ => 0), nI σ.tn, WF_txt w ⟨by decide, fun j hj => by omega⟩, RC_txl r ⟨mset_eq, by decide, fun j hj => by omega⟩, RM_txl w (RM_thr s) ⟨mset_eq, by decide, fun j hj => by omega⟩, ?_, ?_⟩
  · unfold fX7_clearText fX6_size fX6_empty
    rw [r.tx.1]
    rfl
  · unfold fX8_clearText
    simp only [li_76, li_0]
    rw [nI_clamp (by decide), mset_ne (by omega), s.tx.1]
    simp (disch := omega) only [li_0, li_1, li_2, li_3, li_4, li_5, li_7, li_8, li_12, li_16, li_23, li_24, li_31, li_40, li_42, li_47, li_63, li_64, li_76, li_77, li_97, li_122, li_200, li_201, li_1000, li_1824, li_9999, li_16000, nI_add, nx_or, nx_and, pk_mul, nx_xor, nI_leI, nI_ltI, nI_eq, nI_clamp, vp_nI, px_sub, px_shl, px_shl2, px_shr2, px_bit, Bool.true_eq_false, Bool.false_eq_true, hol_0, hol_1, px_chr, chk, cnd_true, cnd_false, cnd_ite, bnd_s, nmv, exR, if_pos, if_neg, if_true, if_false, reduceIte, eq_self, not_true_eq_false, not_false_eq_true]
theorem op_isPath {C M : Mem} {σ : Ab} (w : WF σ) (r : RC C σ) (s : RM ou M σ) : ∃ M' v, fX7_isPath C = some v ∧ fX8_isPath M = some (v, M') ∧ RM ou M' σ := by
  refine ⟨mset M 475 26 (nI 0), cnd (isP σ.tn σ.tf) (nI 1) (nI 0), ?_, ?_, RM_thr s⟩
  · unfold fX7_isPath
    rw [tx_path r.tx, bnd_s, chk_t (nb_cnd _)]
  · unfold fX8_isPath
    simp only [li_0]
    rw [mt_path (RM_thr s).tx, bnd_s, chk_t (nb_cnd _)]
theorem op_isGlob {C M : Mem} {σ : Ab} (w : WF σ) (r : RC C σ) (s : RM ou M σ) : ∃ M' v, fX7_isGlob C = some v ∧ fX8_isGlob M = some (v, M') ∧ RM ou M' σ := by
  refine ⟨mset M 475 26 (nI 0), cnd (isG σ.tn σ.tf) (nI 1) (nI 0), ?_, ?_, RM_thr s⟩
  · unfold fX7_isGlob
    rw [tx_glob r.tx, bnd_s, chk_t (nb_cnd _)]
  · unfold fX8_isGlob
    simp only [li_0]
    rw [mt_glob (RM_thr s).tx, bnd_s, chk_t (nb_cnd _)]
theorem op_find {C M : Mem} {σ : Ab} (w : WF σ) (r : RC C σ) (s : RM ou M σ) : ∃ M' v, fX7_findFile C = some v ∧ fX8_findFile M = some (v, M') ∧ RM ou M' σ := by
  refine ⟨mset M 475 26 (nI 0), nI (σ.fo σ.nf), ?_, ?_, RM_thr s⟩
  · unfold fX7_findFile
    rw [c_no w r, bnd_s]
  · unfold fX8_findFile
    simp only [li_0]
    rw [m_fo w (RM_thr s), bnd_s]
/-! files(), matches() -/
theorem m_in0 {a : Int32} (h : a < 0) (b : Int32) : fX8_isIn a 0 b = nI 0 := by
  unfold fX8_isIn fX8_isIn_14
  rw [cnd_t h]
  rfl
theorem m_in {a b : Nat} (ha : a < 2147483648) (hb : b < 2147483648) : fX8_isIn (nI a) 0 (nI b) = cnd (a ≤ b) (nI 1) (nI 0) := by
  unfold fX8_isIn fX8_isIn_14
  simp only [li_0, li_1]
  by_cases h : a ≤ b
  · rw [cnd_t h]
    simp (disch := omega) only [li_0, li_1, li_2, li_3, li_4, li_5, li_7, li_8, li_12, li_16, li_23, li_24, li_31, li_40, li_42, li_47, li_63, li_64, li_76, li_77, li_97, li_122, li_200, li_201, li_1000, li_1824, li_9999, li_16000, nI_add, nx_or, nx_and, pk_mul, nx_xor, nI_leI, nI_ltI, nI_eq, nI_clamp, vp_nI, px_sub, px_shl, px_shl2, px_shr2, px_bit, Bool.true_eq_false, Bool.false_eq_true, hol_0, hol_1, px_chr, chk, cnd_true, cnd_false, cnd_ite, bnd_s, nmv, exR, if_pos, if_neg, if_true, if_false, reduceIte, eq_self, not_true_eq_false, not_false_eq_true, show ¬ b < a by omega]
  · rw [cnd_f h]
    simp (disch := omega) only [li_0, li_1, li_2, li_3, li_4, li_5, li_7, li_8, li_12, li_16, li_23, li_24, li_31, li_40, li_42, li_47, li_63, li_64, li_76, li_77, li_97, li_122, li_200, li_201, li_1000, li_1824, li_9999, li_16000, nI_add, nx_or, nx_and, pk_mul, nx_xor, nI_leI, nI_ltI, nI_eq, nI_clamp, vp_nI, px_sub, px_shl, px_shl2, px_shr2, px_bit, Bool.true_eq_false, Bool.false_eq_true, hol_0, hol_1, px_chr, chk, cnd_true, cnd_false, cnd_ite, bnd_s, nmv, exR, if_pos, if_neg, if_true, if_false, reduceIte, eq_self, not_true_eq_false, not_false_eq_true, show b < a by omega]
/-- a number below n, as the reference asks -/
theorem m_inS {a n : Nat} (ha : a < 2147483648) (hn : n < 1000) : fX8_isIn (nI a) 0 (nI n - 1) = cnd (a < n) (nI 1) (nI 0) := by
  by_cases h0 : n = 0
  · subst h0
    unfold fX8_isIn fX8_isIn_14
    rw [cnd_f (p := a < 0) (by omega)]
    by_cases h : nI a < 0
    · rw [cnd_t h]; rfl
    · rw [cnd_f h, cnd_t]
      · rfl
      · have e : nI 0 - 1 < 0 := by decide
        rw [Int32.lt_iff_toInt_lt] at *
        omega
  · rw [show (1 : Int32) = nI 1 from rfl, px_sub (by omega), m_in ha (by omega)]
    exact cnd_iff (by omega)
theorem c_has {C : Mem} {σ : Ab} (w : WF σ) (r : RC C σ) {a : Nat} (ha : a < 2147483648) : fX0_has C (nI a) = cnd (a < σ.nf) (nI 1) (nI 0) := by
  have := w.nf
  unfold fX0_has fX0_has_16
  simp only [li_0, li_1]
  rw [r.nf]
  by_cases h : a < σ.nf
  · rw [cnd_t h]
    simp (disch := omega) only [li_0, li_1, li_2, li_3, li_4, li_5, li_7, li_8, li_12, li_16, li_23, li_24, li_31, li_40, li_42, li_47, li_63, li_64, li_76, li_77, li_97, li_122, li_200, li_201, li_1000, li_1824, li_9999, li_16000, nI_add, nx_or, nx_and, pk_mul, nx_xor, nI_leI, nI_ltI, nI_eq, nI_clamp, vp_nI, px_sub, px_shl, px_shl2, px_shr2, px_bit, Bool.true_eq_false, Bool.false_eq_true, hol_0, hol_1, px_chr, chk, cnd_true, cnd_false, cnd_ite, bnd_s, nmv, exR, if_pos, if_neg, if_true, if_false, reduceIte, eq_self, not_true_eq_false, not_false_eq_true, show ¬ σ.nf ≤ a by omega]
  · rw [cnd_f h]
    simp (disch := omega) only [li_0, li_1, li_2, li_3, li_4, li_5, li_7, li_8, li_12, li_16, li_23, li_24, li_31, li_40, li_42, li_47, li_63, li_64, li_76, li_77, li_97, li_122, li_200, li_201, li_1000, li_1824, li_9999, li_16000, nI_add, nx_or, nx_and, pk_mul, nx_xor, nI_leI, nI_ltI, nI_eq, nI_clamp, vp_nI, px_sub, px_shl, px_shl2, px_shr2, px_bit, Bool.true_eq_false, Bool.false_eq_true, hol_0, hol_1, px_chr, chk, cnd_true, cnd_false, cnd_ite, bnd_s, nmv, exR, if_pos, if_neg, if_true, if_false, reduceIte, eq_self, not_true_eq_false, not_false_eq_true, show σ.nf ≤ a by omega]
theorem c_has0 (C : Mem) {a : Int32} (ha : a < 0) : fX0_has C a = nI 0 := by
  unfold fX0_has fX0_has_16
  rw [cnd_t ha]
  rfl
theorem thm_ms {a n : Nat} (h : a < 2 ^ n) : msk (fun k => a.testBit k) n = a := by
  refine (msk_ext (fun k => ?_)).symm
  by_cases q : k < n
  · simp [q]
  · simp [q, bit_lt h (by omega : n ≤ k)]
theorem op_files {C M : Mem} {σ : Ab} (w : WF σ) (r : RC C σ) (s : RM ou M σ) : ∃ M' v, fX7_files C = v ∧ fX8_files M = some (v, M') ∧ RM ou M' σ := by
  have hn := w.nf
  refine ⟨mset M 475 26 (nI 0), nI σ.th, r.th, ?_, RM_thr s⟩
  unfold fX8_files
  rw [show ((0 : Int32), (0 : Int32)) = (fun i => (nI (msk (fun k => σ.th.testBit k) i), nI i)) 0 from rfl]
  refine lp_for (fun i => (nI (msk (fun k => σ.th.testBit k) i), nI i)) σ.nf (fun i hi => ?_) ?_
  · unfold fX8_files_9 fX8_files_34
    simp only [li_0, li_1]
    rw [nI_clamp (by omega), mset_ne (by omega), mset_ne (by omega), s.nf, s.th i (by omega)]
    by_cases c : σ.th.testBit i = true
    · rw [msk_t (p := fun k => σ.th.testBit k) c]
      simp (disch := omega) only [li_0, li_1, li_2, li_3, li_4, li_5, li_7, li_8, li_12, li_16, li_23, li_24, li_31, li_40, li_42, li_47, li_63, li_64, li_76, li_77, li_97, li_122, li_200, li_201, li_1000, li_1824, li_9999, li_16000, nI_add, nx_or, nx_and, pk_mul, nx_xor, nI_leI, nI_ltI, nI_eq, nI_clamp, vp_nI, px_sub, px_shl, px_shl2, px_shr2, px_bit, Bool.true_eq_false, Bool.false_eq_true, hol_0, hol_1, px_chr, chk, cnd_true, cnd_false, cnd_ite, bnd_s, nmv, exR, if_pos, if_neg, if_true, if_false, reduceIte, eq_self, not_true_eq_false, not_false_eq_true, c, Nat.one_mul]
    · rw [msk_f (p := fun k => σ.th.testBit k) (by simpa using c)]
      simp (disch := omega) only [li_0, li_1, li_2, li_3, li_4, li_5, li_7, li_8, li_12, li_16, li_23, li_24, li_31, li_40, li_42, li_47, li_63, li_64, li_76, li_77, li_97, li_122, li_200, li_201, li_1000, li_1824, li_9999, li_16000, nI_add, nx_or, nx_and, pk_mul, nx_xor, nI_leI, nI_ltI, nI_eq, nI_clamp, vp_nI, px_sub, px_shl, px_shl2, px_shr2, px_bit, Bool.true_eq_false, Bool.false_eq_true, hol_0, hol_1, px_chr, chk, cnd_true, cnd_false, cnd_ite, bnd_s, nmv, exR, if_pos, if_neg, if_true, if_false, reduceIte, eq_self, not_true_eq_false, not_false_eq_true, c, Nat.or_zero]
  · unfold fX8_files_9
    simp only [li_0]
    rw [mset_ne (by omega), s.nf, cnd_t (nI_le (Nat.le_refl _) (by omega))]
    rw [thm_ms w.th]
