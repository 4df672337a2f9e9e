/-! covers: one sign or one '**' of a glob over the places in a path, as bits -/
theorem m26 (p : Nat → Bool) {i : Nat} (h : i ≤ 26) : msk p i < 67108864 := Nat.lt_of_lt_of_le (msk_lt p i) (Nat.pow_le_pow_right (n := 2) (by decide) h)
theorem msk_t {p : Nat → Bool} {i : Nat} (h : p i = true) : msk p (i + 1) = msk p i ||| 2 ^ i := by rw [msk, if_pos h]
theorem msk_f {p : Nat → Bool} {i : Nat} (h : p i = false) : msk p (i + 1) = msk p i := by rw [msk, if_neg (by rw [h]; decide), Nat.or_zero]
def fit (n : Nat) (f : Nat → Nat) (s k : Nat) : Bool := if s = 63 then decide (sgn n f k ≠ 47) else decide (sgn n f k = s)
def ovP (n : Nat) (f : Nat → Nat) (s S k : Nat) : Bool := decide (0 < k) && S.testBit (k - 1) && fit n f s (k - 1)
def ovN (n : Nat) (f : Nat → Nat) (s S : Nat) : Nat := msk (ovP n f s S) (n + 2)
theorem tx_over {C : Mem} {o n : Nat} {f : Nat → Nat} (h : TV C o n f) {S s : Nat} (hS : S < 67108864) (hs : s < 128) : fX6_overSign C o (nI S) (nI s) = some (nI (ovN n f s S)) := by
  have hn := h.2.1
  unfold fX6_overSign
  have e0 : ((0 : Int32), (0 : Int32)) = (fun i => (nI (msk (ovP n f s S) (i + 1)), nI i)) 0 := by
    show _ = (nI (msk _ 1), nI 0)
    rw [msk_f (by rfl)]; rfl
  rw [e0]
  refine lp_for (fun i => (nI (msk (ovP n f s S) (i + 1)), nI i)) (n + 1) (fun i hi => ?_) ?_
  · unfold fX6_overSign_5 fX6_overSign_54 fX6_overSign_79
    have h1 := sgn_lt h i
    have h2 := m26 (ovP n f s S) (i := i + 1) (by omega)
    simp only [li_1, li_0, li_47, li_63]
    rw [h.1, tx_sign h (by omega)]
    by_cases c0 : s = 63
    · subst c0
      by_cases c1 : sgn n f i = 47
      · rw [msk_f (show ovP n f 63 S (i + 1) = false by simp [ovP, fit, c1])]
        simp (disch := omega) only [li_0, li_1, li_2, li_3, li_4, li_5, li_7, li_8, li_12, li_16, li_23, li_24, li_31, li_40, li_42, li_47, li_63, li_64, li_76, li_77, li_97, li_122, li_200, li_201, li_1000, li_1824, li_9999, li_16000, nI_add, nx_or, nx_and, pk_mul, nx_xor, nI_leI, nI_ltI, nI_eq, nI_clamp, vp_nI, px_sub, px_shl, px_shl2, px_shr2, px_bit, Bool.true_eq_false, Bool.false_eq_true, hol_0, hol_1, px_chr, chk, cnd_true, cnd_false, cnd_ite, bnd_s, nmv, exR, if_pos, if_neg, if_true, if_false, reduceIte, eq_self, not_true_eq_false, not_false_eq_true, c1]
      · by_cases c2 : S.testBit i = true
        · rw [msk_t (show ovP n f 63 S (i + 1) = true by simp [ovP, fit, c1, c2])]
          simp (disch := omega) only [li_0, li_1, li_2, li_3, li_4, li_5, li_7, li_8, li_12, li_16, li_23, li_24, li_31, li_40, li_42, li_47, li_63, li_64, li_76, li_77, li_97, li_122, li_200, li_201, li_1000, li_1824, li_9999, li_16000, nI_add, nx_or, nx_and, pk_mul, nx_xor, nI_leI, nI_ltI, nI_eq, nI_clamp, vp_nI, px_sub, px_shl, px_shl2, px_shr2, px_bit, Bool.true_eq_false, Bool.false_eq_true, hol_0, hol_1, px_chr, chk, cnd_true, cnd_false, cnd_ite, bnd_s, nmv, exR, if_pos, if_neg, if_true, if_false, reduceIte, eq_self, not_true_eq_false, not_false_eq_true, c1, c2, Nat.one_mul, Bool.true_eq_false]
        · rw [msk_f (show ovP n f 63 S (i + 1) = false by simp [ovP, c2])]
          simp (disch := omega) only [li_0, li_1, li_2, li_3, li_4, li_5, li_7, li_8, li_12, li_16, li_23, li_24, li_31, li_40, li_42, li_47, li_63, li_64, li_76, li_77, li_97, li_122, li_200, li_201, li_1000, li_1824, li_9999, li_16000, nI_add, nx_or, nx_and, pk_mul, nx_xor, nI_leI, nI_ltI, nI_eq, nI_clamp, vp_nI, px_sub, px_shl, px_shl2, px_shr2, px_bit, Bool.true_eq_false, Bool.false_eq_true, hol_0, hol_1, px_chr, chk, cnd_true, cnd_false, cnd_ite, bnd_s, nmv, exR, if_pos, if_neg, if_true, if_false, reduceIte, eq_self, not_true_eq_false, not_false_eq_true, c1, c2]
    · by_cases c1 : sgn n f i = s
      · by_cases c2 : S.testBit i = true
        · rw [msk_t (show ovP n f s S (i + 1) = true by simp [ovP, fit, c0, c1, c2])]
          simp (disch := omega) only [li_0, li_1, li_2, li_3, li_4, li_5, li_7, li_8, li_12, li_16, li_23, li_24, li_31, li_40, li_42, li_47, li_63, li_64, li_76, li_77, li_97, li_122, li_200, li_201, li_1000, li_1824, li_9999, li_16000, nI_add, nx_or, nx_and, pk_mul, nx_xor, nI_leI, nI_ltI, nI_eq, nI_clamp, vp_nI, px_sub, px_shl, px_shl2, px_shr2, px_bit, Bool.true_eq_false, Bool.false_eq_true, hol_0, hol_1, px_chr, chk, cnd_true, cnd_false, cnd_ite, bnd_s, nmv, exR, if_pos, if_neg, if_true, if_false, reduceIte, eq_self, not_true_eq_false, not_false_eq_true, c0, c1, c2, Nat.one_mul, Bool.true_eq_false]
        · rw [msk_f (show ovP n f s S (i + 1) = false by simp [ovP, c2])]
          simp (disch := omega) only [li_0, li_1, li_2, li_3, li_4, li_5, li_7, li_8, li_12, li_16, li_23, li_24, li_31, li_40, li_42, li_47, li_63, li_64, li_76, li_77, li_97, li_122, li_200, li_201, li_1000, li_1824, li_9999, li_16000, nI_add, nx_or, nx_and, pk_mul, nx_xor, nI_leI, nI_ltI, nI_eq, nI_clamp, vp_nI, px_sub, px_shl, px_shl2, px_shr2, px_bit, Bool.true_eq_false, Bool.false_eq_true, hol_0, hol_1, px_chr, chk, cnd_true, cnd_false, cnd_ite, bnd_s, nmv, exR, if_pos, if_neg, if_true, if_false, reduceIte, eq_self, not_true_eq_false, not_false_eq_true, c0, c1, c2]
      · rw [msk_f (show ovP n f s S (i + 1) = false by simp [ovP, fit, c0, c1])]
        simp (disch := omega) only [li_0, li_1, li_2, li_3, li_4, li_5, li_7, li_8, li_12, li_16, li_23, li_24, li_31, li_40, li_42, li_47, li_63, li_64, li_76, li_77, li_97, li_122, li_200, li_201, li_1000, li_1824, li_9999, li_16000, nI_add, nx_or, nx_and, pk_mul, nx_xor, nI_leI, nI_ltI, nI_eq, nI_clamp, vp_nI, px_sub, px_shl, px_shl2, px_shr2, px_bit, Bool.true_eq_false, Bool.false_eq_true, hol_0, hol_1, px_chr, chk, cnd_true, cnd_false, cnd_ite, bnd_s, nmv, exR, if_pos, if_neg, if_true, if_false, reduceIte, eq_self, not_true_eq_false, not_false_eq_true, c0, c1]
  · unfold fX6_overSign_5
    simp only [li_1, li_0, li_47, li_63]
    rw [h.1, cnd_t (nI_lt (by omega) (by omega))]
    rfl
/-- the places over letters: up to i -/
def olN (n : Nat) (f : Nat → Nat) (S : Nat) : Nat → Nat
  | 0 => S
  | i + 1 => if (olN n f S i).testBit i = true ∧ f i ≠ 47 then olN n f S i ||| 2 ^ (i + 1) else olN n f S i
theorem olN_lt (n : Nat) (f : Nat → Nat) {S : Nat} (hS : S < 67108864) : ∀ i, i < 26 → olN n f S i < 67108864
  | 0, _ => hS
  | i + 1, h => by
    have ih := olN_lt n f hS i (by omega)
    unfold olN
    by_cases c : (olN n f S i).testBit i = true ∧ f i ≠ 47
    · rw [if_pos c]
      exact or_lt (n := 26) ih (p2_lt (by omega))
    · rw [if_neg c]
      exact ih
theorem tx_ol {C : Mem} {o n : Nat} {f : Nat → Nat} (h : TV C o n f) {S : Nat} (hS : S < 67108864) : fX6_overLetters C o (nI S) = some (nI (olN n f S n)) := by
  have hn := h.2.1
  unfold fX6_overLetters
  refine lp_for (fun i => (nI (olN n f S i), nI i)) n (fun i hi => ?_) ?_
  · unfold fX6_overLetters_4 fX6_overLetters_39
    have h1 := (h.2.2 i hi).2
    have h2 := olN_lt n f hS i (by omega)
    simp only [li_1, li_0, li_47]
    rw [h.1, nI_clamp (by omega), (h.2.2 i hi).1]
    by_cases c1 : (olN n f S i).testBit i = true
    · by_cases c2 : f i = 47
      · rw [show olN n f S (i + 1) = olN n f S i from if_neg (fun q => q.2 c2)]
        simp (disch := omega) only [li_0, li_1, li_2, li_3, li_4, li_5, li_7, li_8, li_12, li_16, li_23, li_24, li_31, li_40, li_42, li_47, li_63, li_64, li_76, li_77, li_97, li_122, li_200, li_201, li_1000, li_1824, li_9999, li_16000, nI_add, nx_or, nx_and, pk_mul, nx_xor, nI_leI, nI_ltI, nI_eq, nI_clamp, vp_nI, px_sub, px_shl, px_shl2, px_shr2, px_bit, Bool.true_eq_false, Bool.false_eq_true, hol_0, hol_1, px_chr, chk, cnd_true, cnd_false, cnd_ite, bnd_s, nmv, exR, if_pos, if_neg, if_true, if_false, reduceIte, eq_self, not_true_eq_false, not_false_eq_true, c1, c2, Bool.true_eq_false]
      · rw [show olN n f S (i + 1) = olN n f S i ||| 2 ^ (i + 1) from if_pos ⟨c1, c2⟩]
        simp (disch := omega) only [li_0, li_1, li_2, li_3, li_4, li_5, li_7, li_8, li_12, li_16, li_23, li_24, li_31, li_40, li_42, li_47, li_63, li_64, li_76, li_77, li_97, li_122, li_200, li_201, li_1000, li_1824, li_9999, li_16000, nI_add, nx_or, nx_and, pk_mul, nx_xor, nI_leI, nI_ltI, nI_eq, nI_clamp, vp_nI, px_sub, px_shl, px_shl2, px_shr2, px_bit, Bool.true_eq_false, Bool.false_eq_true, hol_0, hol_1, px_chr, chk, cnd_true, cnd_false, cnd_ite, bnd_s, nmv, exR, if_pos, if_neg, if_true, if_false, reduceIte, eq_self, not_true_eq_false, not_false_eq_true, c1, c2, Nat.one_mul, Bool.true_eq_false]
    · rw [show olN n f S (i + 1) = olN n f S i from if_neg (fun q => c1 q.1)]
      simp (disch := omega) only [li_0, li_1, li_2, li_3, li_4, li_5, li_7, li_8, li_12, li_16, li_23, li_24, li_31, li_40, li_42, li_47, li_63, li_64, li_76, li_77, li_97, li_122, li_200, li_201, li_1000, li_1824, li_9999, li_16000, nI_add, nx_or, nx_and, pk_mul, nx_xor, nI_leI, nI_ltI, nI_eq, nI_clamp, vp_nI, px_sub, px_shl, px_shl2, px_shr2, px_bit, Bool.true_eq_false, Bool.false_eq_true, hol_0, hol_1, px_chr, chk, cnd_true, cnd_false, cnd_ite, bnd_s, nmv, exR, if_pos, if_neg, if_true, if_false, reduceIte, eq_self, not_true_eq_false, not_false_eq_true, c1]
  · unfold fX6_overLetters_4
    rw [h.1, cnd_t (nI_le (by omega) (by omega))]
noncomputable def stP (n : Nat) (f : Nat → Nat) (S k : Nat) : Bool := decide (prs n f k = 47) && decide (an (fun j => S.testBit j = true) (k + 1) = 1)
noncomputable def stN (n : Nat) (f : Nat → Nat) (S : Nat) : Nat := msk (stP n f S) (n + 2)
theorem tx_st {C : Mem} {o n : Nat} {f : Nat → Nat} (h : TV C o n f) {S : Nat} (hS : S < 67108864) : fX6_startsFrom C o (nI S) = some (nI (stN n f S)) := by
  have hn := h.2.1
  unfold fX6_startsFrom
  have e0 : ((0 : Int32), (0 : Int32), (0 : Int32)) = (fun i => (nI (msk (stP n f S) i), nI (an (fun j => S.testBit j = true) i), nI i)) 0 := by
    show _ = (nI (msk _ 0), nI (an _ 0), nI 0)
    rw [an_0]; rfl
  rw [e0]
  refine lp_for (fun i => (nI (msk (stP n f S) i), nI (an (fun j => S.testBit j = true) i), nI i)) (n + 2) (fun i hi => ?_) ?_
  · unfold fX6_startsFrom_7 fX6_startsFrom_31 fX6_startsFrom_36 fX6_startsFrom_61
    have h1 := prs_lt h i
    have h2 := m26 (stP n f S) (i := i) (by omega)
    simp only [li_1, li_0, li_47]
    rw [h.1, tx_pre h (by omega), nI_add n 1, cnd_f (by rw [nI_ltI (by omega) (by omega)]; omega)]
    by_cases c3 : an (fun j => S.testBit j = true) (i + 1) = 1
    · have e : ∀ (a b : Option ((Int32 × Int32 × Int32) ⊕ Int32)), cnd (nI (an (fun j => S.testBit j = true) i) = nI 0) (cnd (fX7_holds (nI S) (nI i) = nI 0) a b) b = b := by
        intro a b
        by_cases c2 : S.testBit i = true
        · rw [hol_0 (by omega) (by omega), c2, cnd_f (p := true = false) (by decide), cnd_ite, ite_self]
        · rw [an_f (P := fun j => S.testBit j = true) c2] at c3
          rw [c3, cnd_f (by decide)]
      simp only [e]
      rw [c3]
      by_cases c1 : prs n f i = 47
      · rw [msk_t (show stP n f S i = true by simp [stP, c1, c3])]
        simp (disch := omega) only [li_0, li_1, li_2, li_3, li_4, li_5, li_7, li_8, li_12, li_16, li_23, li_24, li_31, li_40, li_42, li_47, li_63, li_64, li_76, li_77, li_97, li_122, li_200, li_201, li_1000, li_1824, li_9999, li_16000, nI_add, nx_or, nx_and, pk_mul, nx_xor, nI_leI, nI_ltI, nI_eq, nI_clamp, vp_nI, px_sub, px_shl, px_shl2, px_shr2, px_bit, Bool.true_eq_false, Bool.false_eq_true, hol_0, hol_1, px_chr, chk, cnd_true, cnd_false, cnd_ite, bnd_s, nmv, exR, if_pos, if_neg, if_true, if_false, reduceIte, eq_self, not_true_eq_false, not_false_eq_true, c1, Nat.one_mul]
      · rw [msk_f (show stP n f S i = false by simp [stP, c1])]
        simp (disch := omega) only [li_0, li_1, li_2, li_3, li_4, li_5, li_7, li_8, li_12, li_16, li_23, li_24, li_31, li_40, li_42, li_47, li_63, li_64, li_76, li_77, li_97, li_122, li_200, li_201, li_1000, li_1824, li_9999, li_16000, nI_add, nx_or, nx_and, pk_mul, nx_xor, nI_leI, nI_ltI, nI_eq, nI_clamp, vp_nI, px_sub, px_shl, px_shl2, px_shr2, px_bit, Bool.true_eq_false, Bool.false_eq_true, hol_0, hol_1, px_chr, chk, cnd_true, cnd_false, cnd_ite, bnd_s, nmv, exR, if_pos, if_neg, if_true, if_false, reduceIte, eq_self, not_true_eq_false, not_false_eq_true, c1]
    · have c4 : an (fun j => S.testBit j = true) (i + 1) = 0 := (an_01 _ _).resolve_right c3
      have c2 : S.testBit i = false := by
        by_cases q : S.testBit i = true
        · exact absurd (an_t (P := fun j => S.testBit j = true) q) c3
        · simpa using q
      have c5 : an (fun j => S.testBit j = true) i = 0 := by
        rw [← an_f (P := fun j => S.testBit j = true) (by simp [c2])]
        exact c4
      rw [c4, c5, msk_f (show stP n f S i = false by simp [stP, c4])]
      simp (disch := omega) only [li_0, li_1, li_2, li_3, li_4, li_5, li_7, li_8, li_12, li_16, li_23, li_24, li_31, li_40, li_42, li_47, li_63, li_64, li_76, li_77, li_97, li_122, li_200, li_201, li_1000, li_1824, li_9999, li_16000, nI_add, nx_or, nx_and, pk_mul, nx_xor, nI_leI, nI_ltI, nI_eq, nI_clamp, vp_nI, px_sub, px_shl, px_shl2, px_shr2, px_bit, Bool.true_eq_false, Bool.false_eq_true, hol_0, hol_1, px_chr, chk, cnd_true, cnd_false, cnd_ite, bnd_s, nmv, exR, if_pos, if_neg, if_true, if_false, reduceIte, eq_self, not_true_eq_false, not_false_eq_true, c2]
  · unfold fX6_startsFrom_7
    simp only [li_1]
    rw [h.1, nI_add n 1, cnd_t (nI_lt (by omega) (by omega))]
    rfl
