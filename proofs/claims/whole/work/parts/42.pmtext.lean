/-! the same of the reference: slot q of its globs, the path of its file q -/
def MV (M : Mem) (q n : Nat) (f : Nat → Nat) : Prop := M 477 q = nI n ∧ n ≤ 24 ∧ ∀ j, j < n → M 476 (24 * q + j) = nI (f j) ∧ f j < 128
def PV (M : Mem) (q n : Nat) (f : Nat → Nat) : Prop := M 479 q = nI n ∧ n ≤ 24 ∧ ∀ j, j < n → M 478 (24 * q + j) = nI (f j) ∧ f j < 128
theorem mv_lt {M : Mem} {q n : Nat} {f : Nat → Nat} (h : MV M q n f) (k : Nat) : sgn n f k < 128 := by
  unfold sgn
  by_cases hk : k < n
  · rw [if_pos hk]; exact (h.2.2 k hk).2
  · rw [if_neg hk]; decide
theorem mv_plt {M : Mem} {q n : Nat} {f : Nat → Nat} (h : MV M q n f) (k : Nat) : prs n f k < 128 := by
  unfold prs
  by_cases h0 : k = 0
  · rw [if_pos h0]; decide
  · rw [if_neg h0]; exact mv_lt h _
theorem pv_lt {M : Mem} {q n : Nat} {f : Nat → Nat} (h : PV M q n f) (k : Nat) : sgn n f k < 128 := by
  unfold sgn
  by_cases hk : k < n
  · rw [if_pos hk]; exact (h.2.2 k hk).2
  · rw [if_neg hk]; decide
theorem mt_at {M : Mem} {q n : Nat} {f : Nat → Nat} (h : MV M q n f) (hq : q < 77) {k : Nat} (hk : k < 10000) : fX8_at M (nI q) (nI k) = some (nI (sgn n f k)) := by
  have h2 := h.2.1
  unfold fX8_at fX8_at_14 sgn
  simp only [li_0, li_24, li_47]
  rw [nI_clamp (by omega), h.1]
  by_cases hkn : k < n
  · have e : nI 24 * nI q + nI k = nI (24 * q + k) := by rw [pk_mul, nI_add]
    rw [e, nI_clamp (by omega), (h.2.2 k hkn).1]
    simp (disch := omega) only [li_0, li_1, li_2, li_3, li_4, li_5, li_7, li_8, li_12, li_16, li_23, li_24, li_31, li_40, li_42, li_47, li_63, li_64, li_76, li_77, li_97, li_122, li_200, li_201, li_1000, li_1824, li_9999, li_16000, nI_add, nx_or, nx_and, pk_mul, nx_xor, nI_leI, nI_ltI, nI_eq, nI_clamp, vp_nI, px_sub, px_shl, px_shl2, px_shr2, px_bit, Bool.true_eq_false, Bool.false_eq_true, hol_0, hol_1, px_chr, chk, cnd_true, cnd_false, cnd_ite, bnd_s, nmv, exR, if_pos, if_neg, if_true, if_false, reduceIte, eq_self, not_true_eq_false, not_false_eq_true, hkn, show ¬ k < 0 by omega]
  · simp (disch := omega) only [li_0, li_1, li_2, li_3, li_4, li_5, li_7, li_8, li_12, li_16, li_23, li_24, li_31, li_40, li_42, li_47, li_63, li_64, li_76, li_77, li_97, li_122, li_200, li_201, li_1000, li_1824, li_9999, li_16000, nI_add, nx_or, nx_and, pk_mul, nx_xor, nI_leI, nI_ltI, nI_eq, nI_clamp, vp_nI, px_sub, px_shl, px_shl2, px_shr2, px_bit, Bool.true_eq_false, Bool.false_eq_true, hol_0, hol_1, px_chr, chk, cnd_true, cnd_false, cnd_ite, bnd_s, nmv, exR, if_pos, if_neg, if_true, if_false, reduceIte, eq_self, not_true_eq_false, not_false_eq_true, hkn, show ¬ k < 0 by omega]
theorem mt_m1 (M : Mem) (x : Int32) : fX8_at M x (nI 0 - nI 1) = some (nI 47) := by
  unfold fX8_at fX8_at_14
  rw [cnd_t (by decide)]
  rfl
theorem mt_pre {M : Mem} {q n : Nat} {f : Nat → Nat} (h : MV M q n f) (hq : q < 77) {k : Nat} (hk : k < 10000) : fX8_at M (nI q) (nI k - nI 1) = some (nI (prs n f k)) := by
  unfold prs
  by_cases h0 : k = 0
  · subst h0
    rw [if_pos rfl]
    exact mt_m1 M _
  · rw [if_neg h0, px_sub (by omega)]
    exact mt_at h hq (by omega)
theorem pt_at {M : Mem} {q n : Nat} {f : Nat → Nat} (h : PV M q n f) (hq : q < 24) {k : Nat} (hk : k < 10000) : fX8_pathAt M (nI q) (nI k) = some (nI (sgn n f k)) := by
  have h2 := h.2.1
  unfold fX8_pathAt fX8_pathAt_14 sgn
  simp only [li_0, li_24, li_47]
  rw [nI_clamp (by omega), h.1]
  by_cases hkn : k < n
  · have e : nI 24 * nI q + nI k = nI (24 * q + k) := by rw [pk_mul, nI_add]
    rw [e, nI_clamp (by omega), (h.2.2 k hkn).1]
    simp (disch := omega) only [li_0, li_1, li_2, li_3, li_4, li_5, li_7, li_8, li_12, li_16, li_23, li_24, li_31, li_40, li_42, li_47, li_63, li_64, li_76, li_77, li_97, li_122, li_200, li_201, li_1000, li_1824, li_9999, li_16000, nI_add, nx_or, nx_and, pk_mul, nx_xor, nI_leI, nI_ltI, nI_eq, nI_clamp, vp_nI, px_sub, px_shl, px_shl2, px_shr2, px_bit, Bool.true_eq_false, Bool.false_eq_true, hol_0, hol_1, px_chr, chk, cnd_true, cnd_false, cnd_ite, bnd_s, nmv, exR, if_pos, if_neg, if_true, if_false, reduceIte, eq_self, not_true_eq_false, not_false_eq_true, hkn, show ¬ k < 0 by omega]
  · simp (disch := omega) only [li_0, li_1, li_2, li_3, li_4, li_5, li_7, li_8, li_12, li_16, li_23, li_24, li_31, li_40, li_42, li_47, li_63, li_64, li_76, li_77, li_97, li_122, li_200, li_201, li_1000, li_1824, li_9999, li_16000, nI_add, nx_or, nx_and, pk_mul, nx_xor, nI_leI, nI_ltI, nI_eq, nI_clamp, vp_nI, px_sub, px_shl, px_shl2, px_shr2, px_bit, Bool.true_eq_false, Bool.false_eq_true, hol_0, hol_1, px_chr, chk, cnd_true, cnd_false, cnd_ite, bnd_s, nmv, exR, if_pos, if_neg, if_true, if_false, reduceIte, eq_self, not_true_eq_false, not_false_eq_true, hkn, show ¬ k < 0 by omega]
theorem pt_pre {M : Mem} {q n : Nat} {f : Nat → Nat} (h : PV M q n f) (hq : q < 24) {k : Nat} (hk : k < 10000) : fX8_pathAt M (nI q) (nI k - nI 1) = some (nI (prs n f k)) := by
  unfold prs
  by_cases h0 : k = 0
  · subst h0
    rw [if_pos rfl]
    unfold fX8_pathAt fX8_pathAt_14
    rw [cnd_t (by decide)]
    rfl
  · rw [if_neg h0, px_sub (by omega)]
    exact pt_at h hq (by omega)
theorem or_an (P : Nat → Prop) (k : Nat) : an P k ||| 1 = 1 := by rcases an_01 P k with h | h <;> rw [h] <;> rfl
theorem mt_he {M : Mem} {n : Nat} {f : Nat → Nat} (h : MV M 76 n f) : fX8_hasEmpty M = some (cnd (HE n f) (nI 1) (nI 0)) := by
  have hn := h.2.1
  unfold fX8_hasEmpty
  have e0 : ((0 : Int32), (0 : Int32)) = (fun k => (nI (an (fun k => prs n f k = 47 ∧ sgn n f k = 47) k), nI k)) 0 := by
    show _ = (nI (an _ 0), nI 0)
    rw [an_0]; rfl
  rw [e0]
  refine lp_for (fun k => (nI (an (fun k => prs n f k = 47 ∧ sgn n f k = 47) k), nI k)) (n + 1) (fun i hi => ?_) ?_
  · unfold fX8_hasEmpty_4 fX8_hasEmpty_46 fX8_hasEmpty_47
    have h1 := mv_lt h i
    have h2 := mv_plt h i
    simp only [li_0, li_1, li_47, li_76]
    rw [nI_clamp (by decide), h.1, mt_at h (by decide) (by omega), mt_pre h (by decide) (by omega)]
    by_cases c1 : sgn n f i = 47
    · by_cases c2 : prs n f i = 47
      · rw [an_t (P := fun k => prs n f k = 47 ∧ sgn n f k = 47) ⟨c2, c1⟩]
        simp (disch := omega) only [li_0, li_1, li_2, li_3, li_4, li_5, li_7, li_8, li_12, li_16, li_23, li_24, li_31, li_40, li_42, li_47, li_63, li_64, li_76, li_77, li_97, li_122, li_200, li_201, li_1000, li_1824, li_9999, li_16000, nI_add, nx_or, nx_and, pk_mul, nx_xor, nI_leI, nI_ltI, nI_eq, nI_clamp, vp_nI, px_sub, px_shl, px_shl2, px_shr2, px_bit, Bool.true_eq_false, Bool.false_eq_true, hol_0, hol_1, px_chr, chk, cnd_true, cnd_false, cnd_ite, bnd_s, nmv, exR, if_pos, if_neg, if_true, if_false, reduceIte, eq_self, not_true_eq_false, not_false_eq_true, c1, c2, or_an]
      · rw [an_f (P := fun k => prs n f k = 47 ∧ sgn n f k = 47) (fun q => c2 q.1)]
        simp (disch := omega) only [li_0, li_1, li_2, li_3, li_4, li_5, li_7, li_8, li_12, li_16, li_23, li_24, li_31, li_40, li_42, li_47, li_63, li_64, li_76, li_77, li_97, li_122, li_200, li_201, li_1000, li_1824, li_9999, li_16000, nI_add, nx_or, nx_and, pk_mul, nx_xor, nI_leI, nI_ltI, nI_eq, nI_clamp, vp_nI, px_sub, px_shl, px_shl2, px_shr2, px_bit, Bool.true_eq_false, Bool.false_eq_true, hol_0, hol_1, px_chr, chk, cnd_true, cnd_false, cnd_ite, bnd_s, nmv, exR, if_pos, if_neg, if_true, if_false, reduceIte, eq_self, not_true_eq_false, not_false_eq_true, c1, c2, Nat.or_zero]
    · rw [an_f (P := fun k => prs n f k = 47 ∧ sgn n f k = 47) (fun q => c1 q.2)]
      simp (disch := omega) only [li_0, li_1, li_2, li_3, li_4, li_5, li_7, li_8, li_12, li_16, li_23, li_24, li_31, li_40, li_42, li_47, li_63, li_64, li_76, li_77, li_97, li_122, li_200, li_201, li_1000, li_1824, li_9999, li_16000, nI_add, nx_or, nx_and, pk_mul, nx_xor, nI_leI, nI_ltI, nI_eq, nI_clamp, vp_nI, px_sub, px_shl, px_shl2, px_shr2, px_bit, Bool.true_eq_false, Bool.false_eq_true, hol_0, hol_1, px_chr, chk, cnd_true, cnd_false, cnd_ite, bnd_s, nmv, exR, if_pos, if_neg, if_true, if_false, reduceIte, eq_self, not_true_eq_false, not_false_eq_true, c1, Nat.or_zero]
  · unfold fX8_hasEmpty_4
    simp only [li_0, li_1, li_47, li_76]
    rw [nI_clamp (by decide), h.1, chk_t (by rw [vp_nI (by decide)]; decide), cnd_t (nI_lt (by omega) (by omega)), chk_t (nb_an _ _)]
    unfold an
    rw [cnd_nI]
    rfl
/-- 'A, and no place below k with P', as 1 or 0 -/
noncomputable def bb (A : Prop) (P : Nat → Prop) (k : Nat) : Nat := cnd (A ∧ ¬ ∃ i, i < k ∧ P i) 1 0
theorem bb_0 (A : Prop) (P : Nat → Prop) : bb A P 0 = cnd A 1 0 := cnd_iff ⟨fun h => h.1, fun h => ⟨h, fun ⟨_, q, _⟩ => by omega⟩⟩
theorem bb_t {A : Prop} {P : Nat → Prop} {k : Nat} (h : P k) : bb A P (k + 1) = 0 := cnd_f (fun q => q.2 ⟨k, by omega, h⟩)
theorem bb_f {A : Prop} {P : Nat → Prop} {k : Nat} (h : ¬ P k) : bb A P (k + 1) = bb A P k := by
  apply cnd_iff
  constructor
  · rintro ⟨a, b⟩
    exact ⟨a, fun ⟨i, h1, h2⟩ => b ⟨i, by omega, h2⟩⟩
  · rintro ⟨a, b⟩
    refine ⟨a, fun ⟨i, h1, h2⟩ => ?_⟩
    by_cases e : i = k
    · subst e; exact h h2
    · exact b ⟨i, by omega, h2⟩
theorem bb_01 (A : Prop) (P : Nat → Prop) (k : Nat) : bb A P k = 0 ∨ bb A P k = 1 := by
  unfold bb
  by_cases hh : A ∧ ¬ ∃ i, i < k ∧ P i
  · rw [cnd_t hh]; exact Or.inr rfl
  · rw [cnd_f hh]; exact Or.inl rfl
theorem bb_and (A : Prop) (P : Nat → Prop) (k : Nat) : bb A P k &&& 1 = bb A P k := by rcases bb_01 A P k with h | h <;> rw [h] <;> rfl
theorem nb_bb (A : Prop) (P : Nat → Prop) (k : Nat) : narrow .boolean (.int (nI (bb A P k))) = .int (nI (bb A P k)) := by rcases bb_01 A P k with h | h <;> rw [h] <;> rfl
theorem mt_path {M : Mem} {n : Nat} {f : Nat → Nat} (h : MV M 76 n f) : fX8_isPathNow M = some (cnd (isP n f) (nI 1) (nI 0)) := by
  have hn := h.2.1
  have e12 : fX8_isPathNow M = fX8_isPathNow_12 M (nI (cnd (¬ HE n f) 1 0)) := by
    unfold fX8_isPathNow
    rw [mt_he h]
    simp only [bnd_s, li_0, li_1]
    rw [cnd_0]
    by_cases c : HE n f
    · rw [cnd_f (fun q => q c), cnd_f (fun q => q c)]
    · rw [cnd_t c, cnd_t c]
  rw [e12, ← bb_0 _ (fun k => f k = 42 ∨ f k = 63)]
  unfold fX8_isPathNow_12
  refine lp_for (fun k => (nI (bb (¬ HE n f) (fun k => f k = 42 ∨ f k = 63) k), nI k)) n (fun i hi => ?_) ?_
  · unfold fX8_isPathNow_15 fX8_isPathNow_55 fX8_isPathNow_56
    have h1 := mv_lt h i
    have es : sgn n f i = f i := if_pos hi
    simp only [li_0, li_1, li_42, li_63, li_76]
    rw [nI_clamp (by decide), h.1, mt_at h (by decide) (by omega), es]
    rw [es] at h1
    by_cases c1 : f i = 42
    · rw [bb_t (P := fun k => f k = 42 ∨ f k = 63) (Or.inl c1)]
      simp (disch := omega) only [li_0, li_1, li_2, li_3, li_4, li_5, li_7, li_8, li_12, li_16, li_23, li_24, li_31, li_40, li_42, li_47, li_63, li_64, li_76, li_77, li_97, li_122, li_200, li_201, li_1000, li_1824, li_9999, li_16000, nI_add, nx_or, nx_and, pk_mul, nx_xor, nI_leI, nI_ltI, nI_eq, nI_clamp, vp_nI, px_sub, px_shl, px_shl2, px_shr2, px_bit, Bool.true_eq_false, Bool.false_eq_true, hol_0, hol_1, px_chr, chk, cnd_true, cnd_false, cnd_ite, bnd_s, nmv, exR, if_pos, if_neg, if_true, if_false, reduceIte, eq_self, not_true_eq_false, not_false_eq_true, c1, Nat.and_zero]
    · by_cases c2 : f i = 63
      · rw [bb_t (P := fun k => f k = 42 ∨ f k = 63) (Or.inr c2)]
        simp (disch := omega) only [li_0, li_1, li_2, li_3, li_4, li_5, li_7, li_8, li_12, li_16, li_23, li_24, li_31, li_40, li_42, li_47, li_63, li_64, li_76, li_77, li_97, li_122, li_200, li_201, li_1000, li_1824, li_9999, li_16000, nI_add, nx_or, nx_and, pk_mul, nx_xor, nI_leI, nI_ltI, nI_eq, nI_clamp, vp_nI, px_sub, px_shl, px_shl2, px_shr2, px_bit, Bool.true_eq_false, Bool.false_eq_true, hol_0, hol_1, px_chr, chk, cnd_true, cnd_false, cnd_ite, bnd_s, nmv, exR, if_pos, if_neg, if_true, if_false, reduceIte, eq_self, not_true_eq_false, not_false_eq_true, c1, c2, Nat.and_zero]
      · rw [bb_f (P := fun k => f k = 42 ∨ f k = 63) (fun q => q.elim c1 c2)]
        simp (disch := omega) only [li_0, li_1, li_2, li_3, li_4, li_5, li_7, li_8, li_12, li_16, li_23, li_24, li_31, li_40, li_42, li_47, li_63, li_64, li_76, li_77, li_97, li_122, li_200, li_201, li_1000, li_1824, li_9999, li_16000, nI_add, nx_or, nx_and, pk_mul, nx_xor, nI_leI, nI_ltI, nI_eq, nI_clamp, vp_nI, px_sub, px_shl, px_shl2, px_shr2, px_bit, Bool.true_eq_false, Bool.false_eq_true, hol_0, hol_1, px_chr, chk, cnd_true, cnd_false, cnd_ite, bnd_s, nmv, exR, if_pos, if_neg, if_true, if_false, reduceIte, eq_self, not_true_eq_false, not_false_eq_true, c1, c2, bb_and]
  · unfold fX8_isPathNow_15
    simp only [li_0, li_1, li_42, li_63, li_76]
    rw [nI_clamp (by decide), h.1, chk_t (by rw [vp_nI (by decide)]; decide), cnd_t (nI_le (Nat.le_refl _) (by omega)), chk_t (nb_bb _ _ _)]
    unfold bb
    rw [cnd_nI, cnd_iff (show (¬ HE n f ∧ ¬ ∃ i, i < n ∧ (f i = 42 ∨ f i = 63)) ↔ isP n f from ⟨fun q => ⟨q.2, q.1⟩, fun q => ⟨q.2, q.1⟩⟩)]
theorem mt_glob {M : Mem} {n : Nat} {f : Nat → Nat} (h : MV M 76 n f) : fX8_isGlobNow M = some (cnd (isG n f) (nI 1) (nI 0)) := by
  have hn := h.2.1
  have e12 : fX8_isGlobNow M = fX8_isGlobNow_12 M (nI (cnd (¬ HE n f) 1 0)) := by
    unfold fX8_isGlobNow
    rw [mt_he h]
    simp only [bnd_s, li_0, li_1]
    rw [cnd_0]
    by_cases c : HE n f
    · rw [cnd_f (fun q => q c), cnd_f (fun q => q c)]
    · rw [cnd_t c, cnd_t c]
  rw [e12, ← bb_0 _ (fun k => sgn n f k = 42 ∧ sgn n f (k + 1) = 42 ∧ ¬ (prs n f k = 47 ∧ sgn n f (k + 2) = 47))]
  unfold fX8_isGlobNow_12
  refine lp_for (fun k => (nI (bb (¬ HE n f) (fun k => sgn n f k = 42 ∧ sgn n f (k + 1) = 42 ∧ ¬ (prs n f k = 47 ∧ sgn n f (k + 2) = 47)) k), nI (k + 1))) (n - 1) (fun i hi => ?_) ?_
  · unfold fX8_isGlobNow_15 fX8_isGlobNow_56 fX8_isGlobNow_57 fX8_isGlobNow_91 fX8_isGlobNow_95 fX8_isGlobNow_96
    have h1 := mv_lt h i
    have h2 := mv_lt h (i + 1)
    have h3 := mv_lt h (i + 2)
    have h4 := mv_plt h i
    have e1 : nI (i + 1) - nI 1 = nI i := px_sub (by omega)
    have e2 : nI (i + 1) - nI 2 = nI i - nI 1 := by
      show nI (i + 1) - nI (1 + 1) = _
      rw [← nI_add i 1, ← nI_add 1 1, ← Int32.sub_sub, Int32.add_sub_cancel]
    simp only [li_0, li_1, li_2, li_42, li_47, li_76]
    rw [nI_clamp (by decide), h.1, e1, e2, nI_add, mt_at h (by decide) (by omega), mt_at h (by decide) (by omega), mt_at h (by decide) (by omega), mt_pre h (by decide) (by omega)]
    by_cases c1 : sgn n f (i + 1) = 42
    · by_cases c2 : sgn n f i = 42
      · by_cases c3 : prs n f i = 47
        · by_cases c4 : sgn n f (i + 2) = 47
          · rw [bb_f (P := fun k => sgn n f k = 42 ∧ sgn n f (k + 1) = 42 ∧ ¬ (prs n f k = 47 ∧ sgn n f (k + 2) = 47)) (fun q => q.2.2 ⟨c3, c4⟩)]
            simp (disch := omega) only [li_0, li_1, li_2, li_3, li_4, li_5, li_7, li_8, li_12, li_16, li_23, li_24, li_31, li_40, li_42, li_47, li_63, li_64, li_76, li_77, li_97, li_122, li_200, li_201, li_1000, li_1824, li_9999, li_16000, nI_add, nx_or, nx_and, pk_mul, nx_xor, nI_leI, nI_ltI, nI_eq, nI_clamp, vp_nI, px_sub, px_shl, px_shl2, px_shr2, px_bit, Bool.true_eq_false, Bool.false_eq_true, hol_0, hol_1, px_chr, chk, cnd_true, cnd_false, cnd_ite, bnd_s, nmv, exR, if_pos, if_neg, if_true, if_false, reduceIte, eq_self, not_true_eq_false, not_false_eq_true, c1, c2, c3, c4, bb_and]
          · rw [bb_t (P := fun k => sgn n f k = 42 ∧ sgn n f (k + 1) = 42 ∧ ¬ (prs n f k = 47 ∧ sgn n f (k + 2) = 47)) ⟨c2, c1, fun q => c4 q.2⟩]
            have h3' : sgn n f (i + 1 + 1) < 128 := h3
            have c4' : ¬ sgn n f (i + 1 + 1) = 47 := c4
            simp (disch := omega) only [li_0, li_1, li_2, li_3, li_4, li_5, li_7, li_8, li_12, li_16, li_23, li_24, li_31, li_40, li_42, li_47, li_63, li_64, li_76, li_77, li_97, li_122, li_200, li_201, li_1000, li_1824, li_9999, li_16000, nI_add, nx_or, nx_and, pk_mul, nx_xor, nI_leI, nI_ltI, nI_eq, nI_clamp, vp_nI, px_sub, px_shl, px_shl2, px_shr2, px_bit, Bool.true_eq_false, Bool.false_eq_true, hol_0, hol_1, px_chr, chk, cnd_true, cnd_false, cnd_ite, bnd_s, nmv, exR, if_pos, if_neg, if_true, if_false, reduceIte, eq_self, not_true_eq_false, not_false_eq_true, c1, c2, c3, c4', Nat.and_zero]
        · rw [bb_t (P := fun k => sgn n f k = 42 ∧ sgn n f (k + 1) = 42 ∧ ¬ (prs n f k = 47 ∧ sgn n f (k + 2) = 47)) ⟨c2, c1, fun q => c3 q.1⟩]
          simp (disch := omega) only [li_0, li_1, li_2, li_3, li_4, li_5, li_7, li_8, li_12, li_16, li_23, li_24, li_31, li_40, li_42, li_47, li_63, li_64, li_76, li_77, li_97, li_122, li_200, li_201, li_1000, li_1824, li_9999, li_16000, nI_add, nx_or, nx_and, pk_mul, nx_xor, nI_leI, nI_ltI, nI_eq, nI_clamp, vp_nI, px_sub, px_shl, px_shl2, px_shr2, px_bit, Bool.true_eq_false, Bool.false_eq_true, hol_0, hol_1, px_chr, chk, cnd_true, cnd_false, cnd_ite, bnd_s, nmv, exR, if_pos, if_neg, if_true, if_false, reduceIte, eq_self, not_true_eq_false, not_false_eq_true, c1, c2, c3, Nat.and_zero]
      · rw [bb_f (P := fun k => sgn n f k = 42 ∧ sgn n f (k + 1) = 42 ∧ ¬ (prs n f k = 47 ∧ sgn n f (k + 2) = 47)) (fun q => c2 q.1)]
        simp (disch := omega) only [li_0, li_1, li_2, li_3, li_4, li_5, li_7, li_8, li_12, li_16, li_23, li_24, li_31, li_40, li_42, li_47, li_63, li_64, li_76, li_77, li_97, li_122, li_200, li_201, li_1000, li_1824, li_9999, li_16000, nI_add, nx_or, nx_and, pk_mul, nx_xor, nI_leI, nI_ltI, nI_eq, nI_clamp, vp_nI, px_sub, px_shl, px_shl2, px_shr2, px_bit, Bool.true_eq_false, Bool.false_eq_true, hol_0, hol_1, px_chr, chk, cnd_true, cnd_false, cnd_ite, bnd_s, nmv, exR, if_pos, if_neg, if_true, if_false, reduceIte, eq_self, not_true_eq_false, not_false_eq_true, c1, c2, bb_and]
    · rw [bb_f (P := fun k => sgn n f k = 42 ∧ sgn n f (k + 1) = 42 ∧ ¬ (prs n f k = 47 ∧ sgn n f (k + 2) = 47)) (fun q => c1 q.2.1)]
      simp (disch := omega) only [li_0, li_1, li_2, li_3, li_4, li_5, li_7, li_8, li_12, li_16, li_23, li_24, li_31, li_40, li_42, li_47, li_63, li_64, li_76, li_77, li_97, li_122, li_200, li_201, li_1000, li_1824, li_9999, li_16000, nI_add, nx_or, nx_and, pk_mul, nx_xor, nI_leI, nI_ltI, nI_eq, nI_clamp, vp_nI, px_sub, px_shl, px_shl2, px_shr2, px_bit, Bool.true_eq_false, Bool.false_eq_true, hol_0, hol_1, px_chr, chk, cnd_true, cnd_false, cnd_ite, bnd_s, nmv, exR, if_pos, if_neg, if_true, if_false, reduceIte, eq_self, not_true_eq_false, not_false_eq_true, c1, bb_and]
  · unfold fX8_isGlobNow_15
    simp only [li_0, li_1, li_2, li_42, li_47, li_76]
    rw [nI_clamp (by decide), h.1, chk_t (by rw [vp_nI (by decide)]; decide), cnd_t (nI_le (by omega) (by omega)), chk_t (nb_bb _ _ _)]
    unfold bb
    rw [cnd_nI, cnd_iff]
    constructor
    · rintro ⟨a, b⟩
      refine ⟨fun ⟨k, h1, h2⟩ => b ⟨k, ?_, h2⟩, a⟩
      have h3 := h2.2.1
      unfold sgn at h3
      by_cases h4 : k + 1 < n
      · omega
      · rw [if_neg h4] at h3
        omega
    · rintro ⟨a, b⟩
      exact ⟨b, fun ⟨k, h1, h2⟩ => a ⟨k, by omega, h2⟩⟩
