/-! isMatched: one segment -/
theorem en_ex {n : Nat} (f : Nat → Nat) {j : Nat} (hj : j ≤ n) : ∃ e, (j ≤ e ∧ sgn n f e = 47) ∧ e ≤ n ∧ ∀ i, j ≤ i → i < e → sgn n f i ≠ 47 := by
  obtain ⟨e, h1, h2⟩ := pk_least (fun e => j ≤ e ∧ sgn n f e = 47) ⟨n, hj, sgn_ge (Nat.le_refl _)⟩
  refine ⟨e, h1, ?_, fun i p q r => h2 i q ⟨p, r⟩⟩
  apply Classical.byContradiction
  intro q
  exact h2 n (by omega) ⟨hj, sgn_ge (Nat.le_refl _)⟩
theorem mt_end {M : Mem} {q n : Nat} {f : Nat → Nat} (h : PV M q n f) (hq : q < 24) {j e : Nat} (h1 : j ≤ e) (h2 : e ≤ n) (h3 : sgn n f e = 47) (h4 : ∀ i, j ≤ i → i < e → sgn n f i ≠ 47) : fX8_endOf M (nI q) (nI j) = some (nI e) := by
  have hn := h.2.1
  unfold fX8_endOf
  refine lp_for (fun i => nI (j + i)) (e - j) (fun i hi => ?_) ?_
  · unfold fX8_endOf_2
    have a1 := pv_lt h (j + i)
    have a2 := h4 (j + i) (by omega) (by omega)
    simp only [li_47, li_1]
    rw [pt_at h hq (by omega)]
    simp (disch := omega) only [li_0, li_1, li_2, li_3, li_4, li_5, li_7, li_8, li_12, li_16, li_23, li_24, li_31, li_40, li_42, li_47, li_63, li_64, li_76, li_77, li_97, li_122, li_200, li_201, li_1000, li_1824, li_9999, li_16000, nI_add, nx_or, nx_and, pk_mul, nx_xor, nI_leI, nI_ltI, nI_eq, nI_clamp, vp_nI, px_sub, px_shl, px_shl2, px_shr2, px_bit, Bool.true_eq_false, Bool.false_eq_true, hol_0, hol_1, px_chr, chk, cnd_true, cnd_false, cnd_ite, bnd_s, nmv, exR, if_pos, if_neg, if_true, if_false, reduceIte, eq_self, not_true_eq_false, not_false_eq_true, a2, Nat.add_assoc]
  · unfold fX8_endOf_2
    simp only [li_47, li_1]
    rw [pt_at h hq (by omega), show j + (e - j) = e by omega, h3]
    simp (disch := omega) only [li_0, li_1, li_2, li_3, li_4, li_5, li_7, li_8, li_12, li_16, li_23, li_24, li_31, li_40, li_42, li_47, li_63, li_64, li_76, li_77, li_97, li_122, li_200, li_201, li_1000, li_1824, li_9999, li_16000, nI_add, nx_or, nx_and, pk_mul, nx_xor, nI_leI, nI_ltI, nI_eq, nI_clamp, vp_nI, px_sub, px_shl, px_shl2, px_shr2, px_bit, Bool.true_eq_false, Bool.false_eq_true, hol_0, hol_1, px_chr, chk, cnd_true, cnd_false, cnd_ite, bnd_s, nmv, exR, if_pos, if_neg, if_true, if_false, reduceIte, eq_self, not_true_eq_false, not_false_eq_true]
/-- the places behind k at which a segment begins, and the end -/
def bgP (n : Nat) (f : Nat → Nat) (j k : Nat) : Bool := decide (j ≤ k) && (decide (k = n + 1) || (decide (prs n f k = 47) && decide (k < n)))
theorem mt_begins {M : Mem} {q n : Nat} {f : Nat → Nat} (h : PV M q n f) (hq : q < 24) {j : Nat} (hj : j ≤ n + 1) : fX8_begins M (nI q) (nI j) = some (nI (msk (bgP n f j) (n + 2))) := by
  have hn := h.2.1
  have hp : ∀ k, prs n f k < 128 := by
    intro k
    unfold prs
    by_cases c : k = 0
    · rw [if_pos c]; decide
    · rw [if_neg c]; exact pv_lt h _
  unfold fX8_begins
  have e0 : ((0 : Int32), nI j) = (fun i => (nI (msk (bgP n f j) (j + i)), nI (j + i))) 0 := by
    show _ = (nI (msk _ j), nI j)
    have : msk (bgP n f j) j = msk (fun _ => false) j := msk_cong (fun k hk => by unfold bgP; rw [decide_eq_false (by omega)]; rfl)
    rw [this]
    have : ∀ j, msk (fun _ => false) j = 0 := by
      intro j
      induction j with
      | zero => rfl
      | succ j ih => rw [msk_f rfl, ih]
    rw [this]; rfl
  rw [e0]
  refine lp_for (fun i => (nI (msk (bgP n f j) (j + i)), nI (j + i))) (n + 2 - j) (fun i hi => ?_) ?_
  · unfold fX8_begins_5 fX8_begins_57 fX8_begins_64 fX8_begins_65
    have h1 := hp (j + i)
    simp only [li_1, li_0, li_47]
    rw [nI_clamp (by omega), h.1, pt_pre h hq (by omega), nI_add n 1, ← Nat.add_assoc j i 1]
    by_cases c1 : j + i = n + 1
    · rw [msk_t (show bgP n f j (j + i) = true by simp [bgP, c1, hj])]
      simp (disch := omega) only [li_0, li_1, li_2, li_3, li_4, li_5, li_7, li_8, li_12, li_16, li_23, li_24, li_31, li_40, li_42, li_47, li_63, li_64, li_76, li_77, li_97, li_122, li_200, li_201, li_1000, li_1824, li_9999, li_16000, nI_add, nx_or, nx_and, pk_mul, nx_xor, nI_leI, nI_ltI, nI_eq, nI_clamp, vp_nI, px_sub, px_shl, px_shl2, px_shr2, px_bit, Bool.true_eq_false, Bool.false_eq_true, hol_0, hol_1, px_chr, chk, cnd_true, cnd_false, cnd_ite, bnd_s, nmv, exR, if_pos, if_neg, if_true, if_false, reduceIte, eq_self, not_true_eq_false, not_false_eq_true, c1, Nat.one_mul]
    · by_cases c2 : prs n f (j + i) = 47
      · by_cases c3 : j + i < n
        · rw [msk_t (show bgP n f j (j + i) = true by simp [bgP, c2, c3])]
          simp (disch := omega) only [li_0, li_1, li_2, li_3, li_4, li_5, li_7, li_8, li_12, li_16, li_23, li_24, li_31, li_40, li_42, li_47, li_63, li_64, li_76, li_77, li_97, li_122, li_200, li_201, li_1000, li_1824, li_9999, li_16000, nI_add, nx_or, nx_and, pk_mul, nx_xor, nI_leI, nI_ltI, nI_eq, nI_clamp, vp_nI, px_sub, px_shl, px_shl2, px_shr2, px_bit, Bool.true_eq_false, Bool.false_eq_true, hol_0, hol_1, px_chr, chk, cnd_true, cnd_false, cnd_ite, bnd_s, nmv, exR, if_pos, if_neg, if_true, if_false, reduceIte, eq_self, not_true_eq_false, not_false_eq_true, c1, c2, show ¬ n ≤ j + i by omega, Nat.one_mul]
        · rw [msk_f (show bgP n f j (j + i) = false by simp [bgP, c1, c3])]
          simp (disch := omega) only [li_0, li_1, li_2, li_3, li_4, li_5, li_7, li_8, li_12, li_16, li_23, li_24, li_31, li_40, li_42, li_47, li_63, li_64, li_76, li_77, li_97, li_122, li_200, li_201, li_1000, li_1824, li_9999, li_16000, nI_add, nx_or, nx_and, pk_mul, nx_xor, nI_leI, nI_ltI, nI_eq, nI_clamp, vp_nI, px_sub, px_shl, px_shl2, px_shr2, px_bit, Bool.true_eq_false, Bool.false_eq_true, hol_0, hol_1, px_chr, chk, cnd_true, cnd_false, cnd_ite, bnd_s, nmv, exR, if_pos, if_neg, if_true, if_false, reduceIte, eq_self, not_true_eq_false, not_false_eq_true, c1, c2, show n ≤ j + i by omega, Nat.or_zero]
      · rw [msk_f (show bgP n f j (j + i) = false by simp [bgP, c1, c2])]
        simp (disch := omega) only [li_0, li_1, li_2, li_3, li_4, li_5, li_7, li_8, li_12, li_16, li_23, li_24, li_31, li_40, li_42, li_47, li_63, li_64, li_76, li_77, li_97, li_122, li_200, li_201, li_1000, li_1824, li_9999, li_16000, nI_add, nx_or, nx_and, pk_mul, nx_xor, nI_leI, nI_ltI, nI_eq, nI_clamp, vp_nI, px_sub, px_shl, px_shl2, px_shr2, px_bit, Bool.true_eq_false, Bool.false_eq_true, hol_0, hol_1, px_chr, chk, cnd_true, cnd_false, cnd_ite, bnd_s, nmv, exR, if_pos, if_neg, if_true, if_false, reduceIte, eq_self, not_true_eq_false, not_false_eq_true, c1, c2, Nat.or_zero]
  · unfold fX8_begins_5
    simp only [li_1, li_0, li_47]
    rw [nI_clamp (by omega), h.1, show j + (n + 2 - j) = n + 2 by omega]
    simp (disch := omega) only [li_0, li_1, li_2, li_3, li_4, li_5, li_7, li_8, li_12, li_16, li_23, li_24, li_31, li_40, li_42, li_47, li_63, li_64, li_76, li_77, li_97, li_122, li_200, li_201, li_1000, li_1824, li_9999, li_16000, nI_add, nx_or, nx_and, pk_mul, nx_xor, nI_leI, nI_ltI, nI_eq, nI_clamp, vp_nI, px_sub, px_shl, px_shl2, px_shr2, px_bit, Bool.true_eq_false, Bool.false_eq_true, hol_0, hol_1, px_chr, chk, cnd_true, cnd_false, cnd_ite, bnd_s, nmv, exR, if_pos, if_neg, if_true, if_false, reduceIte, eq_self, not_true_eq_false, not_false_eq_true]
