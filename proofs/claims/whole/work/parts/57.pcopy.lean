variable {ou : Int32}
/-! copies of the text; what a glob covers -/
theorem c_copy {C : Mem} {σ : Ab} (r : RC C σ) {o : Nat} (ho : 1 < o) (ho2 : o ≠ 2) : ∃ C', fX6_copyFrom C o 1 = some C' ∧ TV C' o σ.tn σ.tf ∧ ∀ k j, k ≠ o → k ≠ o + 1 → C' k j = C k j := by
  have hn := r.tx.2.1
  have st : ∀ i, i ≤ σ.tn → ∃ C', lp (fX6_copyFrom_10 o 1) (mset C o 1 (C 1 1), (0 : Int32)) = lp (fX6_copyFrom_10 o 1) (C', nI i) ∧ C' o 1 = nI σ.tn ∧ (∀ j, j < i → C' (o + 1) j = nI (σ.tf j)) ∧ ∀ k j, k ≠ o → k ≠ o + 1 → C' k j = C k j := by
    intro i
    induction i with
    | zero =>
      intro _
      refine ⟨mset C o 1 (C 1 1), rfl, ?_, fun j hj => by omega, fun k j h1 h2 => mset_ne (Or.inl h1)⟩
      rw [mset_eq, r.tx.1]
    | succ i ih =>
      intro hi
      obtain ⟨C', e1, e2, e3, e4⟩ := ih (by omega)
      have hf := r.tx.2.2 i (by omega)
      have hs : C' 2 i = nI (σ.tf i) := by rw [e4 2 i (by omega) (by omega)]; exact hf.1
      refine ⟨mset C' (o + 1) i (nI (σ.tf i)), ?_, ?_, fun j hj => ?_, fun k j h1 h2 => ?_⟩
      · rw [e1]
        refine lp_go ?_
        unfold fX6_copyFrom_10
        simp only [li_1]
        rw [e2, nI_clamp (by omega), hs]
        simp (disch := omega) only [li_0, li_1, li_2, li_3, li_4, li_5, li_7, li_8, li_12, li_16, li_23, li_24, li_31, li_40, li_42, li_47, li_63, li_64, li_76, li_77, li_97, li_122, li_200, li_201, li_1000, li_1824, li_9999, li_16000, nI_add, nx_or, nx_and, pk_mul, nx_xor, nI_leI, nI_ltI, nI_eq, nI_clamp, vp_nI, px_sub, px_shl, px_shl2, px_shr2, px_bit, Bool.true_eq_false, Bool.false_eq_true, hol_0, hol_1, px_chr, chk, cnd_true, cnd_false, cnd_ite, bnd_s, nmv, exR, if_pos, if_neg, if_true, if_false, reduceIte, eq_self, not_true_eq_false, not_false_eq_true, show i < 24 by omega, px_chr (Nat.lt_trans hf.2 (by decide : 128 < 65536))]
      · rw [mset_ne (by omega)]; exact e2
      · by_cases q : j = i
        · rw [q, mset_eq]
        · rw [mset_ne (by omega)]; exact e3 j (by omega)
      · rw [mset_ne (by omega)]; exact e4 k j h1 h2
  obtain ⟨C', e1, e2, e3, e4⟩ := st σ.tn (Nat.le_refl _)
  refine ⟨C', ?_, ⟨e2, hn, fun j hj => ⟨e3 j hj, (r.tx.2.2 j hj).2⟩⟩, e4⟩
  unfold fX6_copyFrom
  rw [e1]
  refine lp_exq ?_
  unfold fX6_copyFrom_10
  show cnd (C' o 1 ≤ nI σ.tn) (exR (some C')) _ = exR (some C')
  rw [e2, cnd_t (nI_le (Nat.le_refl _) (by omega))]
theorem m_copy {M : Mem} {σ : Ab} (s : RM ou M σ) {q : Nat} (hq : q < 76) : ∃ M', fX8_copies M (nI q) = some M' ∧ MV M' q σ.tn σ.tf ∧ ∀ k j, ¬ (k = 477 ∧ j = q) → ¬ (k = 476 ∧ 24 * q ≤ j ∧ j < 24 * q + 24) → M' k j = M k j := by
  have hn := s.tx.2.1
  have st : ∀ i, i ≤ σ.tn → ∃ M', lp (fX8_copies_2 (nI q)) (M, (0 : Int32)) = lp (fX8_copies_2 (nI q)) (M', nI i) ∧ (∀ j, j < i → M' 476 (24 * q + j) = nI (σ.tf j)) ∧ ∀ k j, ¬ (k = 476 ∧ 24 * q ≤ j ∧ j < 24 * q + 24) → M' k j = M k j := by
    intro i
    induction i with
    | zero =>
      intro _
      exact ⟨M, rfl, fun j hj => by omega, fun k j h => rfl⟩
    | succ i ih =>
      intro hi
      obtain ⟨M', e1, e3, e4⟩ := ih (by omega)
      have hf := s.tx.2.2 i (by omega)
      have hs : M' 476 (1824 + i) = nI (σ.tf i) := by rw [e4 476 _ (by omega), ← hf.1]
      refine ⟨mset M' 476 (24 * q + i) (nI (σ.tf i)), ?_, fun j hj => ?_, fun k j h1 => ?_⟩
      · rw [e1]
        refine lp_go ?_
        unfold fX8_copies_2
        simp only [li_1, li_76, li_1824, li_24]
        rw [nI_clamp (by omega), e4 477 76 (by omega), s.tx.1, pk_mul, nI_add, nI_add, nI_clamp (by omega), nI_clamp (by omega), nI_clamp (by omega), hs]
        simp (disch := omega) only [li_0, li_1, li_2, li_3, li_4, li_5, li_7, li_8, li_12, li_16, li_23, li_24, li_31, li_40, li_42, li_47, li_63, li_64, li_76, li_77, li_97, li_122, li_200, li_201, li_1000, li_1824, li_9999, li_16000, nI_add, nx_or, nx_and, pk_mul, nx_xor, nI_leI, nI_ltI, nI_eq, nI_clamp, vp_nI, px_sub, px_shl, px_shl2, px_shr2, px_bit, Bool.true_eq_false, Bool.false_eq_true, hol_0, hol_1, px_chr, chk, cnd_true, cnd_false, cnd_ite, bnd_s, nmv, exR, if_pos, if_neg, if_true, if_false, reduceIte, eq_self, not_true_eq_false, not_false_eq_true, show 24 * q + i < 1848 by omega, show 1824 + i < 1848 by omega]
      · by_cases e : j = i
        · rw [e, mset_eq]
        · rw [mset_ne (by omega)]; exact e3 j (by omega)
      · rw [mset_ne (by omega)]; exact e4 k j h1
  obtain ⟨M', e1, e3, e4⟩ := st σ.tn (Nat.le_refl _)
  refine ⟨mset M' 477 q (nI σ.tn), ?_, ⟨mset_eq, hn, fun j hj => ⟨?_, (s.tx.2.2 j hj).2⟩⟩, fun k j h1 h2 => ?_⟩
  · unfold fX8_copies
    rw [e1]
    refine lp_exq ?_
    unfold fX8_copies_2
    simp only [li_76]
    rw [nI_clamp (by omega), e4 477 76 (by omega), s.tx.1, nI_clamp (by omega)]
    simp (disch := omega) only [li_0, li_1, li_2, li_3, li_4, li_5, li_7, li_8, li_12, li_16, li_23, li_24, li_31, li_40, li_42, li_47, li_63, li_64, li_76, li_77, li_97, li_122, li_200, li_201, li_1000, li_1824, li_9999, li_16000, nI_add, nx_or, nx_and, pk_mul, nx_xor, nI_leI, nI_ltI, nI_eq, nI_clamp, vp_nI, px_sub, px_shl, px_shl2, px_shr2, px_bit, Bool.true_eq_false, Bool.false_eq_true, hol_0, hol_1, px_chr, chk, cnd_true, cnd_false, cnd_ite, bnd_s, nmv, exR, if_pos, if_neg, if_true, if_false, reduceIte, eq_self, not_true_eq_false, not_false_eq_true, show q < 77 by omega]
  · rw [mset_ne (by omega)]; exact e3 j hj
  · rw [mset_ne (by omega)]; exact e4 k j h2
theorem c_cby {C : Mem} {σ : Ab} (w : WF σ) (r : RC C σ) (hg : isG σ.tn σ.tf) : fX0_coveredBy C 1 = some (nI (msk (fun k => mat (σ.pn k) (σ.pf k) σ.tn σ.tf) σ.nf)) := by
  have hn := w.nf
  unfold fX0_coveredBy
  refine lp_for (fun i => (nI (msk (fun k => mat (σ.pn k) (σ.pf k) σ.tn σ.tf) i), nI i)) σ.nf (fun i hi => ?_) ?_
  · unfold fX0_coveredBy_4 fX0_coveredBy_31
    simp only [li_0, li_1]
    rw [r.nf, nI_clamp (by omega), c_mat (r.px i hi) r.tx (w.px i hi).2.2 hg.1]
    by_cases c : mat (σ.pn i) (σ.pf i) σ.tn σ.tf = true
    · rw [msk_t (p := fun k => mat (σ.pn k) (σ.pf k) σ.tn σ.tf) c]
      simp (disch := omega) only [li_0, li_1, li_2, li_3, li_4, li_5, li_7, li_8, li_12, li_16, li_23, li_24, li_31, li_40, li_42, li_47, li_63, li_64, li_76, li_77, li_97, li_122, li_200, li_201, li_1000, li_1824, li_9999, li_16000, nI_add, nx_or, nx_and, pk_mul, nx_xor, nI_leI, nI_ltI, nI_eq, nI_clamp, vp_nI, px_sub, px_shl, px_shl2, px_shr2, px_bit, Bool.true_eq_false, Bool.false_eq_true, hol_0, hol_1, px_chr, chk, cnd_true, cnd_false, cnd_ite, bnd_s, nmv, exR, if_pos, if_neg, if_true, if_false, reduceIte, eq_self, not_true_eq_false, not_false_eq_true, c, Nat.one_mul]
    · rw [msk_f (p := fun k => mat (σ.pn k) (σ.pf k) σ.tn σ.tf) (by simpa using c)]
      simp (disch := omega) only [li_0, li_1, li_2, li_3, li_4, li_5, li_7, li_8, li_12, li_16, li_23, li_24, li_31, li_40, li_42, li_47, li_63, li_64, li_76, li_77, li_97, li_122, li_200, li_201, li_1000, li_1824, li_9999, li_16000, nI_add, nx_or, nx_and, pk_mul, nx_xor, nI_leI, nI_ltI, nI_eq, nI_clamp, vp_nI, px_sub, px_shl, px_shl2, px_shr2, px_bit, Bool.true_eq_false, Bool.false_eq_true, hol_0, hol_1, px_chr, chk, cnd_true, cnd_false, cnd_ite, bnd_s, nmv, exR, if_pos, if_neg, if_true, if_false, reduceIte, eq_self, not_true_eq_false, not_false_eq_true, c]
  · unfold fX0_coveredBy_4
    rw [r.nf, cnd_t (nI_le (Nat.le_refl _) (by omega))]
/-- a glob is added as slot q -/
def Ab.slo (σ : Ab) (q : Nat) : Ab := (σ.up 13 (fun i _ => if i = q then σ.tn else σ.gn i)).up 21 (fun i j => if i = q then σ.tf j else σ.gf i j)
