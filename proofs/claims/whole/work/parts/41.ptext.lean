/-! texts: n signs f; a '/' behind the end and ahead of the beginning -/
def sgn (n : Nat) (f : Nat → Nat) (k : Nat) : Nat := if k < n then f k else 47
def prs (n : Nat) (f : Nat → Nat) (k : Nat) : Nat := if k = 0 then 47 else sgn n f (k - 1)
def TV (C : Mem) (o n : Nat) (f : Nat → Nat) : Prop := C o 1 = nI n ∧ n ≤ 24 ∧ ∀ j, j < n → C (o + 1) j = nI (f j) ∧ f j < 128
/-- an empty segment -/
def HE (n : Nat) (f : Nat → Nat) : Prop := ∃ k, k < n + 1 ∧ prs n f k = 47 ∧ sgn n f k = 47
def HS (n : Nat) (f : Nat → Nat) : Prop := ∃ k, k < n ∧ (f k = 42 ∨ f k = 63)
/-- two '*' side by side that are no segment -/
def HD (n : Nat) (f : Nat → Nat) : Prop := ∃ k, k < n ∧ (sgn n f k = 42 ∧ sgn n f (k + 1) = 42 ∧ ¬ (prs n f k = 47 ∧ sgn n f (k + 2) = 47))
def isP (n : Nat) (f : Nat → Nat) : Prop := ¬ HS n f ∧ ¬ HE n f
def isG (n : Nat) (f : Nat → Nat) : Prop := ¬ HD n f ∧ ¬ HE n f
theorem sgn_lt {C : Mem} {o n : Nat} {f : Nat → Nat} (h : TV C o n f) (k : Nat) : sgn n f k < 128 := by
  unfold sgn
  by_cases hk : k < n
  · rw [if_pos hk]; exact (h.2.2 k hk).2
  · rw [if_neg hk]; decide
theorem tx_sign {C : Mem} {o n : Nat} {f : Nat → Nat} (h : TV C o n f) {k : Nat} (hk : k < 2147483648) : fX6_signAt C o (nI k) = some (nI (sgn n f k)) := by
  have h2 := h.2.1
  unfold fX6_signAt fX6_signAt_21 sgn
  rw [h.1]
  by_cases hkn : k < n
  · simp (disch := omega) only [li_0, li_1, li_2, li_3, li_4, li_5, li_7, li_8, li_12, li_16, li_23, li_24, li_31, li_40, li_42, li_47, li_63, li_64, li_76, li_77, li_97, li_122, li_200, li_201, li_1000, li_1824, li_9999, li_16000, nI_add, nx_or, nx_and, pk_mul, nx_xor, nI_leI, nI_ltI, nI_eq, nI_clamp, vp_nI, px_sub, px_shl, px_shl2, px_shr2, px_bit, Bool.true_eq_false, Bool.false_eq_true, hol_0, hol_1, px_chr, chk, cnd_true, cnd_false, cnd_ite, bnd_s, nmv, exR, if_pos, if_neg, if_true, if_false, reduceIte, eq_self, not_true_eq_false, not_false_eq_true, (h.2.2 k hkn).1, px_nc (Nat.lt_trans (h.2.2 k hkn).2 (by decide : 128 < 65536)), hkn, show ¬ k < 0 by omega]
  · simp (disch := omega) only [li_0, li_1, li_2, li_3, li_4, li_5, li_7, li_8, li_12, li_16, li_23, li_24, li_31, li_40, li_42, li_47, li_63, li_64, li_76, li_77, li_97, li_122, li_200, li_201, li_1000, li_1824, li_9999, li_16000, nI_add, nx_or, nx_and, pk_mul, nx_xor, nI_leI, nI_ltI, nI_eq, nI_clamp, vp_nI, px_sub, px_shl, px_shl2, px_shr2, px_bit, Bool.true_eq_false, Bool.false_eq_true, hol_0, hol_1, px_chr, chk, cnd_true, cnd_false, cnd_ite, bnd_s, nmv, exR, if_pos, if_neg, if_true, if_false, reduceIte, eq_self, not_true_eq_false, not_false_eq_true, hkn, show ¬ k < 0 by omega]
theorem tx_m1 (C : Mem) (o : Nat) : fX6_signAt C o (nI 0 - nI 1) = some (nI 47) := by
  unfold fX6_signAt fX6_signAt_21
  rw [cnd_t (by decide)]
  rfl
theorem tx_pre {C : Mem} {o n : Nat} {f : Nat → Nat} (h : TV C o n f) {k : Nat} (hk : k < 2147483648) : fX6_signAt C o (nI k - nI 1) = some (nI (prs n f k)) := by
  unfold prs
  by_cases h0 : k = 0
  · subst h0
    rw [if_pos rfl]
    exact tx_m1 C o
  · rw [if_neg h0, px_sub (by omega)]
    exact tx_sign h (by omega)
theorem prs_lt {C : Mem} {o n : Nat} {f : Nat → Nat} (h : TV C o n f) (k : Nat) : prs n f k < 128 := by
  unfold prs
  by_cases h0 : k = 0
  · rw [if_pos h0]; decide
  · rw [if_neg h0]; exact sgn_lt h _
theorem tx_ds {C : Mem} {o n : Nat} {f : Nat → Nat} (h : TV C o n f) {k : Nat} (hk : k < 1000) : fX6_isDoubleStar C o (nI k) = some (cnd (sgn n f k = 42 ∧ sgn n f (k + 1) = 42) (nI 1) (nI 0)) := by
  unfold fX6_isDoubleStar fX6_isDoubleStar_26
  have h1 := sgn_lt h k
  have h2 := sgn_lt h (k + 1)
  simp only [li_1, li_42, li_0, nI_add]
  rw [tx_sign h (by omega), tx_sign h (by omega)]
  by_cases c1 : sgn n f k = 42
  · by_cases c2 : sgn n f (k + 1) = 42
    · simp only [bnd_s, c1, c2, and_self]
      simp only [cnd_true]
    · simp only [bnd_s, c1, c2, and_false]
      rw [cnd_true, cnd_f (by rw [nI_eq (by omega) (by omega)]; exact c2), cnd_false]
  · simp only [bnd_s, c1, false_and]
    rw [cnd_f (by rw [nI_eq (by omega) (by omega)]; exact c1), cnd_f (fun h => h)]
theorem tx_he {C : Mem} {o n : Nat} {f : Nat → Nat} (h : TV C o n f) : fX6_hasEmptySegment C o = some (cnd (HE n f) (nI 1) (nI 0)) := by
  have hn := h.2.1
  unfold fX6_hasEmptySegment
  rw [← cnd_some]
  refine lp_find (fun i => nI i) (n + 1) (fun k => prs n f k = 47 ∧ sgn n f k = 47) (fun i hi hp => ?_) (fun i hi hp => ?_) ?_
  · unfold fX6_hasEmptySegment_2 fX6_hasEmptySegment_34
    have h1 := sgn_lt h i
    have h2 := prs_lt h i
    simp only [li_1, li_0, li_47]
    rw [h.1, tx_pre h (by omega), tx_sign h (by omega)]
    by_cases c1 : prs n f i = 47
    · have c2 : ¬ sgn n f i = 47 := fun q => hp ⟨c1, q⟩
      simp (disch := omega) only [li_0, li_1, li_2, li_3, li_4, li_5, li_7, li_8, li_12, li_16, li_23, li_24, li_31, li_40, li_42, li_47, li_63, li_64, li_76, li_77, li_97, li_122, li_200, li_201, li_1000, li_1824, li_9999, li_16000, nI_add, nx_or, nx_and, pk_mul, nx_xor, nI_leI, nI_ltI, nI_eq, nI_clamp, vp_nI, px_sub, px_shl, px_shl2, px_shr2, px_bit, Bool.true_eq_false, Bool.false_eq_true, hol_0, hol_1, px_chr, chk, cnd_true, cnd_false, cnd_ite, bnd_s, nmv, exR, if_pos, if_neg, if_true, if_false, reduceIte, eq_self, not_true_eq_false, not_false_eq_true, c1, c2]
    · simp (disch := omega) only [li_0, li_1, li_2, li_3, li_4, li_5, li_7, li_8, li_12, li_16, li_23, li_24, li_31, li_40, li_42, li_47, li_63, li_64, li_76, li_77, li_97, li_122, li_200, li_201, li_1000, li_1824, li_9999, li_16000, nI_add, nx_or, nx_and, pk_mul, nx_xor, nI_leI, nI_ltI, nI_eq, nI_clamp, vp_nI, px_sub, px_shl, px_shl2, px_shr2, px_bit, Bool.true_eq_false, Bool.false_eq_true, hol_0, hol_1, px_chr, chk, cnd_true, cnd_false, cnd_ite, bnd_s, nmv, exR, if_pos, if_neg, if_true, if_false, reduceIte, eq_self, not_true_eq_false, not_false_eq_true, c1]
  · unfold fX6_hasEmptySegment_2 fX6_hasEmptySegment_34
    simp only [li_1, li_0, li_47]
    rw [h.1, tx_pre h (by omega), tx_sign h (by omega), hp.1, hp.2]
    simp (disch := omega) only [li_0, li_1, li_2, li_3, li_4, li_5, li_7, li_8, li_12, li_16, li_23, li_24, li_31, li_40, li_42, li_47, li_63, li_64, li_76, li_77, li_97, li_122, li_200, li_201, li_1000, li_1824, li_9999, li_16000, nI_add, nx_or, nx_and, pk_mul, nx_xor, nI_leI, nI_ltI, nI_eq, nI_clamp, vp_nI, px_sub, px_shl, px_shl2, px_shr2, px_bit, Bool.true_eq_false, Bool.false_eq_true, hol_0, hol_1, px_chr, chk, cnd_true, cnd_false, cnd_ite, bnd_s, nmv, exR, if_pos, if_neg, if_true, if_false, reduceIte, eq_self, not_true_eq_false, not_false_eq_true]
  · unfold fX6_hasEmptySegment_2
    simp only [li_1, li_0, li_47]
    rw [h.1]
    simp (disch := omega) only [li_0, li_1, li_2, li_3, li_4, li_5, li_7, li_8, li_12, li_16, li_23, li_24, li_31, li_40, li_42, li_47, li_63, li_64, li_76, li_77, li_97, li_122, li_200, li_201, li_1000, li_1824, li_9999, li_16000, nI_add, nx_or, nx_and, pk_mul, nx_xor, nI_leI, nI_ltI, nI_eq, nI_clamp, vp_nI, px_sub, px_shl, px_shl2, px_shr2, px_bit, Bool.true_eq_false, Bool.false_eq_true, hol_0, hol_1, px_chr, chk, cnd_true, cnd_false, cnd_ite, bnd_s, nmv, exR, if_pos, if_neg, if_true, if_false, reduceIte, eq_self, not_true_eq_false, not_false_eq_true]
theorem tx_path {C : Mem} {o n : Nat} {f : Nat → Nat} (h : TV C o n f) : fX6_hasPathForm C o = some (cnd (isP n f) (nI 1) (nI 0)) := by
  have hn := h.2.1
  have e40 : fX6_hasPathForm_40 C o = some (cnd (HE n f) (nI 0) (nI 1)) := by
    unfold fX6_hasPathForm_40
    rw [tx_he h]
    simp only [bnd_s, li_1, li_0]
    rw [cnd_0, cnd_not, cnd_some]
  have e : fX6_hasPathForm C o = cnd (HS n f) (some (nI 0)) (fX6_hasPathForm_40 C o) := by
    unfold fX6_hasPathForm
    refine lp_find (fun i => nI i) n (fun k => f k = 42 ∨ f k = 63) (fun i hi hp => ?_) (fun i hi hp => ?_) ?_
    · unfold fX6_hasPathForm_2 fX6_hasPathForm_32
      have h1 := (h.2.2 i hi).2
      have c1 : ¬ f i = 42 := fun q => hp (Or.inl q)
      have c2 : ¬ f i = 63 := fun q => hp (Or.inr q)
      simp only [li_1, li_0, li_42, li_63]
      rw [h.1, nI_clamp (by omega), (h.2.2 i hi).1]
      simp (disch := omega) only [li_0, li_1, li_2, li_3, li_4, li_5, li_7, li_8, li_12, li_16, li_23, li_24, li_31, li_40, li_42, li_47, li_63, li_64, li_76, li_77, li_97, li_122, li_200, li_201, li_1000, li_1824, li_9999, li_16000, nI_add, nx_or, nx_and, pk_mul, nx_xor, nI_leI, nI_ltI, nI_eq, nI_clamp, vp_nI, px_sub, px_shl, px_shl2, px_shr2, px_bit, Bool.true_eq_false, Bool.false_eq_true, hol_0, hol_1, px_chr, chk, cnd_true, cnd_false, cnd_ite, bnd_s, nmv, exR, if_pos, if_neg, if_true, if_false, reduceIte, eq_self, not_true_eq_false, not_false_eq_true, c1, c2]
    · unfold fX6_hasPathForm_2 fX6_hasPathForm_32
      have h1 := (h.2.2 i hi).2
      simp only [li_1, li_0, li_42, li_63]
      rw [h.1, nI_clamp (by omega), (h.2.2 i hi).1]
      by_cases c1 : f i = 42
      · simp (disch := omega) only [li_0, li_1, li_2, li_3, li_4, li_5, li_7, li_8, li_12, li_16, li_23, li_24, li_31, li_40, li_42, li_47, li_63, li_64, li_76, li_77, li_97, li_122, li_200, li_201, li_1000, li_1824, li_9999, li_16000, nI_add, nx_or, nx_and, pk_mul, nx_xor, nI_leI, nI_ltI, nI_eq, nI_clamp, vp_nI, px_sub, px_shl, px_shl2, px_shr2, px_bit, Bool.true_eq_false, Bool.false_eq_true, hol_0, hol_1, px_chr, chk, cnd_true, cnd_false, cnd_ite, bnd_s, nmv, exR, if_pos, if_neg, if_true, if_false, reduceIte, eq_self, not_true_eq_false, not_false_eq_true, c1]
      · have c2 : f i = 63 := hp.resolve_left c1
        simp (disch := omega) only [li_0, li_1, li_2, li_3, li_4, li_5, li_7, li_8, li_12, li_16, li_23, li_24, li_31, li_40, li_42, li_47, li_63, li_64, li_76, li_77, li_97, li_122, li_200, li_201, li_1000, li_1824, li_9999, li_16000, nI_add, nx_or, nx_and, pk_mul, nx_xor, nI_leI, nI_ltI, nI_eq, nI_clamp, vp_nI, px_sub, px_shl, px_shl2, px_shr2, px_bit, Bool.true_eq_false, Bool.false_eq_true, hol_0, hol_1, px_chr, chk, cnd_true, cnd_false, cnd_ite, bnd_s, nmv, exR, if_pos, if_neg, if_true, if_false, reduceIte, eq_self, not_true_eq_false, not_false_eq_true, c2]
    · unfold fX6_hasPathForm_2
      simp only [li_1, li_0, li_42, li_63]
      rw [h.1]
      simp (disch := omega) only [li_0, li_1, li_2, li_3, li_4, li_5, li_7, li_8, li_12, li_16, li_23, li_24, li_31, li_40, li_42, li_47, li_63, li_64, li_76, li_77, li_97, li_122, li_200, li_201, li_1000, li_1824, li_9999, li_16000, nI_add, nx_or, nx_and, pk_mul, nx_xor, nI_leI, nI_ltI, nI_eq, nI_clamp, vp_nI, px_sub, px_shl, px_shl2, px_shr2, px_bit, Bool.true_eq_false, Bool.false_eq_true, hol_0, hol_1, px_chr, chk, cnd_true, cnd_false, cnd_ite, bnd_s, nmv, exR, if_pos, if_neg, if_true, if_false, reduceIte, eq_self, not_true_eq_false, not_false_eq_true]
  rw [e, e40, cnd_some]
  unfold isP
  by_cases c1 : HS n f
  · rw [cnd_t c1, cnd_f (fun q => q.1 c1)]
  · rw [cnd_f c1]
    by_cases c2 : HE n f
    · rw [cnd_t c2, cnd_f (fun q => q.2 c2)]
    · rw [cnd_f c2, cnd_t ⟨c1, c2⟩]
theorem tx_glob {C : Mem} {o n : Nat} {f : Nat → Nat} (h : TV C o n f) : fX6_hasGlobForm C o = some (cnd (isG n f) (nI 1) (nI 0)) := by
  have hn := h.2.1
  have e50 : fX6_hasGlobForm_50 C o = some (cnd (HE n f) (nI 0) (nI 1)) := by
    unfold fX6_hasGlobForm_50
    rw [tx_he h]
    simp only [bnd_s, li_1, li_0]
    rw [cnd_0, cnd_not, cnd_some]
  have e : fX6_hasGlobForm C o = cnd (HD n f) (some (nI 0)) (fX6_hasGlobForm_50 C o) := by
    unfold fX6_hasGlobForm
    refine lp_find (fun i => nI i) n (fun k => sgn n f k = 42 ∧ sgn n f (k + 1) = 42 ∧ ¬ (prs n f k = 47 ∧ sgn n f (k + 2) = 47)) (fun i hi hp => ?_) (fun i hi hp => ?_) ?_
    · unfold fX6_hasGlobForm_2 fX6_hasGlobForm_42 fX6_hasGlobForm_44
      have h1 := prs_lt h i
      have h2 := sgn_lt h (i + 2)
      simp only [li_1, li_0, li_47, li_2]
      rw [h.1, tx_ds h (by omega), tx_pre h (by omega), nI_add i 2, tx_sign h (by omega)]
      by_cases c : sgn n f i = 42 ∧ sgn n f (i + 1) = 42
      · have c3 : prs n f i = 47 ∧ sgn n f (i + 2) = 47 := Classical.byContradiction fun q => hp ⟨c.1, c.2, q⟩
        simp only [bnd_s, cnd_0, c, not_true_eq_false, and_self]
        rw [cnd_f (nI_ge (by omega) (by omega)), cnd_false, c3.1, c3.2, cnd_t rfl, cnd_t rfl, nI_add]
      · simp only [bnd_s, cnd_0]
        rw [cnd_f (nI_ge (by omega) (by omega)), cnd_t c, nI_add]
    · unfold fX6_hasGlobForm_2 fX6_hasGlobForm_42 fX6_hasGlobForm_44
      have h1 := prs_lt h i
      have h2 := sgn_lt h (i + 2)
      simp only [li_1, li_0, li_47, li_2]
      rw [h.1, tx_ds h (by omega), tx_pre h (by omega), nI_add i 2, tx_sign h (by omega)]
      simp only [bnd_s, cnd_0]
      rw [cnd_f (nI_ge (by omega) (by omega)), cnd_f (fun q => q ⟨hp.1, hp.2.1⟩)]
      by_cases c1 : prs n f i = 47
      · have c2 : ¬ sgn n f (i + 2) = 47 := fun q => hp.2.2 ⟨c1, q⟩
        rw [cnd_t (by rw [c1]), cnd_f (by rw [nI_eq (by omega) (by omega)]; exact c2)]
      · rw [cnd_f (by rw [nI_eq (by omega) (by omega)]; exact c1)]
    · unfold fX6_hasGlobForm_2
      rw [h.1, cnd_t (nI_le (Nat.le_refl _) (by omega))]
  rw [e, e50, cnd_some]
  unfold isG
  by_cases c1 : HD n f
  · rw [cnd_t c1, cnd_f (fun q => q.1 c1)]
  · rw [cnd_f c1]
    by_cases c2 : HE n f
    · rw [cnd_t c2, cnd_f (fun q => q.2 c2)]
    · rw [cnd_f c2, cnd_t ⟨c1, c2⟩]
