variable {ou : Int32}
/-! going up: above, affectedBy -/
def Ab.u1 (σ : Ab) (S : Nat) : Nat → Nat
  | 0 => S
  | k + 1 => if σ.de k &&& Ab.u1 σ S k = 0 then Ab.u1 σ S k else Ab.u1 σ S k ||| 2 ^ k
def Ab.u2 (σ : Ab) (S : Nat) : Nat → Nat
  | 0 => S
  | i + 1 => σ.u1 (Ab.u2 σ S i) σ.nt
/-- a set and all above it -/
def Ab.ups (σ : Ab) (S : Nat) : Nat := σ.u2 S σ.nt
theorem u1_lt {σ : Ab} {S N : Nat} (h : S < 2 ^ N) : ∀ k, k ≤ N → σ.u1 S k < 2 ^ N
  | 0, _ => h
  | k + 1, hk => by
    have ih := u1_lt (σ := σ) h k (by omega)
    unfold Ab.u1
    by_cases c : σ.de k &&& σ.u1 S k = 0
    · rw [if_pos c]; exact ih
    · rw [if_neg c]; exact or_lt ih (p2_lt (by omega))
theorem u2_lt {σ : Ab} {S : Nat} (h : S < 2 ^ σ.nt) : ∀ i, σ.u2 S i < 2 ^ σ.nt
  | 0 => h
  | i + 1 => u1_lt (u2_lt h i) σ.nt (Nat.le_refl _)
theorem lt16 {a n : Nat} (h : a < 2 ^ n) (hn : n ≤ 16) : a < 65536 := Nat.lt_of_lt_of_le h (Nat.pow_le_pow_right (n := 2) (by decide) hn)
theorem c_up {C : Mem} {σ : Ab} (w : WF σ) (r : RC C σ) {S : Nat} (hS : S < 2 ^ σ.nt) : fX2_upFrom C (nI S) = some (nI (σ.ups S)) := by
  have hn := w.nt
  unfold fX2_upFrom
  refine lp_for (fun i => (nI (σ.u2 S i), nI i)) σ.nt (fun i hi => ?_) ?_
  · unfold fX2_upFrom_4
    rw [r.nt, cnd_f (nI_ge (by omega) (by omega))]
    refine lp_for (fun k => (nI (σ.u1 (σ.u2 S i) k), nI k)) σ.nt (fun k hk => ?_) ?_
    · unfold fX2_upFrom_15 fX2_upFrom_43
      have h1 := lt16 (u1_lt (σ := σ) (u2_lt hS i) k (by omega)) hn
      have h3 : σ.de k &&& σ.u1 (σ.u2 S i) k < 65536 := Nat.lt_of_le_of_lt Nat.and_le_right h1
      simp only [li_0, li_1]
      rw [r.nt, nI_clamp (by omega), r.de k (by omega), nx_and]
      by_cases c : σ.de k &&& σ.u1 (σ.u2 S i) k = 0
      · rw [show σ.u1 (σ.u2 S i) (k + 1) = σ.u1 (σ.u2 S i) k from if_pos c]
        simp (disch := omega) only [li_0, li_1, li_2, li_3, li_4, li_5, li_7, li_8, li_12, li_16, li_23, li_24, li_31, li_40, li_42, li_47, li_63, li_64, li_76, li_77, li_97, li_122, li_200, li_201, li_1000, li_1824, li_9999, li_16000, nI_add, nx_or, nx_and, pk_mul, nx_xor, nI_leI, nI_ltI, nI_eq, nI_clamp, vp_nI, px_sub, px_shl, px_shl2, px_shr2, px_bit, Bool.true_eq_false, Bool.false_eq_true, hol_0, hol_1, px_chr, chk, cnd_true, cnd_false, cnd_ite, bnd_s, nmv, exR, if_pos, if_neg, if_true, if_false, reduceIte, eq_self, not_true_eq_false, not_false_eq_true, c]
      · rw [show σ.u1 (σ.u2 S i) (k + 1) = σ.u1 (σ.u2 S i) k ||| 2 ^ k from if_neg c]
        simp (disch := omega) only [li_0, li_1, li_2, li_3, li_4, li_5, li_7, li_8, li_12, li_16, li_23, li_24, li_31, li_40, li_42, li_47, li_63, li_64, li_76, li_77, li_97, li_122, li_200, li_201, li_1000, li_1824, li_9999, li_16000, nI_add, nx_or, nx_and, pk_mul, nx_xor, nI_leI, nI_ltI, nI_eq, nI_clamp, vp_nI, px_sub, px_shl, px_shl2, px_shr2, px_bit, Bool.true_eq_false, Bool.false_eq_true, hol_0, hol_1, px_chr, chk, cnd_true, cnd_false, cnd_ite, bnd_s, nmv, exR, if_pos, if_neg, if_true, if_false, reduceIte, eq_self, not_true_eq_false, not_false_eq_true, c, Nat.one_mul]
    · unfold fX2_upFrom_15 fX2_upFrom_49
      simp only [li_1]
      rw [r.nt, cnd_t (nI_le (Nat.le_refl _) (by omega)), nI_add]
      rfl
  · unfold fX2_upFrom_4
    rw [r.nt, cnd_t (nI_le (Nat.le_refl _) (by omega))]
    rfl
theorem m_up {M : Mem} {σ : Ab} (w : WF σ) (s : RM ou M σ) {S : Nat} (hS : S < 2 ^ σ.nt) : fX8_upwards M (nI S) = some (nI (σ.ups S)) := by
  have hn := w.nt
  unfold fX8_upwards
  refine lp_for (fun i => (nI (σ.u2 S i), nI i)) σ.nt (fun i hi => ?_) ?_
  · unfold fX8_upwards_4
    rw [s.nt, cnd_f (nI_ge (by omega) (by omega))]
    refine lp_for (fun k => (nI (σ.u1 (σ.u2 S i) k), nI k)) σ.nt (fun k hk => ?_) ?_
    · unfold fX8_upwards_15 fX8_upwards_45
      have h1 := lt16 (u1_lt (σ := σ) (u2_lt hS i) k (by omega)) hn
      have h3 : σ.de k &&& σ.u1 (σ.u2 S i) k < 65536 := Nat.lt_of_le_of_lt Nat.and_le_right h1
      simp only [li_0, li_1]
      rw [s.nt, nI_clamp (by omega), s.de k (by omega), nx_and]
      by_cases c : σ.de k &&& σ.u1 (σ.u2 S i) k = 0
      · rw [show σ.u1 (σ.u2 S i) (k + 1) = σ.u1 (σ.u2 S i) k from if_pos c]
        simp (disch := omega) only [li_0, li_1, li_2, li_3, li_4, li_5, li_7, li_8, li_12, li_16, li_23, li_24, li_31, li_40, li_42, li_47, li_63, li_64, li_76, li_77, li_97, li_122, li_200, li_201, li_1000, li_1824, li_9999, li_16000, nI_add, nx_or, nx_and, pk_mul, nx_xor, nI_leI, nI_ltI, nI_eq, nI_clamp, vp_nI, px_sub, px_shl, px_shl2, px_shr2, px_bit, Bool.true_eq_false, Bool.false_eq_true, hol_0, hol_1, px_chr, chk, cnd_true, cnd_false, cnd_ite, bnd_s, nmv, exR, if_pos, if_neg, if_true, if_false, reduceIte, eq_self, not_true_eq_false, not_false_eq_true, c, Nat.or_zero]
      · rw [show σ.u1 (σ.u2 S i) (k + 1) = σ.u1 (σ.u2 S i) k ||| 2 ^ k from if_neg c]
        simp (disch := omega) only [li_0, li_1, li_2, li_3, li_4, li_5, li_7, li_8, li_12, li_16, li_23, li_24, li_31, li_40, li_42, li_47, li_63, li_64, li_76, li_77, li_97, li_122, li_200, li_201, li_1000, li_1824, li_9999, li_16000, nI_add, nx_or, nx_and, pk_mul, nx_xor, nI_leI, nI_ltI, nI_eq, nI_clamp, vp_nI, px_sub, px_shl, px_shl2, px_shr2, px_bit, Bool.true_eq_false, Bool.false_eq_true, hol_0, hol_1, px_chr, chk, cnd_true, cnd_false, cnd_ite, bnd_s, nmv, exR, if_pos, if_neg, if_true, if_false, reduceIte, eq_self, not_true_eq_false, not_false_eq_true, c, Nat.one_mul]
    · unfold fX8_upwards_15 fX8_upwards_53
      simp only [li_1]
      rw [s.nt, cnd_t (nI_le (Nat.le_refl _) (by omega)), nI_add]
      rfl
  · unfold fX8_upwards_4
    rw [s.nt, cnd_t (nI_le (Nat.le_refl _) (by omega))]
    rfl
theorem op_above {C M : Mem} {σ : Ab} (w : WF σ) (r : RC C σ) (s : RM ou M σ) (x : Int32) : Opr ou wr_3 σ (fX7_above C x) (fX8_above M x) := by
  have hnt := w.nt
  have bad1 : fX7_requireTarget C x = some (.inr 3) → fX8_isTarget M x = some (nI 0) → Opr ou wr_3 σ (fX7_above C x) (fX8_above M x) := by
    intro h1 h2
    refine ⟨mset M 475 26 (nI 1), RM_thr s, Or.inr ⟨3, nI 0, ?_, ?_, mset_eq, by decide, by decide⟩⟩
    · unfold fX7_above
      rw [h1]
      rfl
    · unfold fX8_above fX8_above_14
      rw [h2]
      simp (disch := omega) only [li_0, li_1, li_2, li_3, li_4, li_5, li_7, li_8, li_12, li_16, li_23, li_24, li_31, li_40, li_42, li_47, li_63, li_64, li_76, li_77, li_97, li_122, li_200, li_201, li_1000, li_1824, li_9999, li_16000, nI_add, nx_or, nx_and, pk_mul, nx_xor, nI_leI, nI_ltI, nI_eq, nI_clamp, vp_nI, px_sub, px_shl, px_shl2, px_shr2, px_bit, Bool.true_eq_false, Bool.false_eq_true, hol_0, hol_1, px_chr, chk, cnd_true, cnd_false, cnd_ite, bnd_s, nmv, exR, if_pos, if_neg, if_true, if_false, reduceIte, eq_self, not_true_eq_false, not_false_eq_true, mset_eq]
  rcases nI_cs x with hx | ⟨a, ha, rfl⟩
  · exact bad1 (c_hasT0 C hx) (m_isT0 M hx)
  · by_cases hb : a < σ.nt
    · have hs : (1 : Int32) <<< (nI a &&& 31) = nI (2 ^ a) := by
        simp only [li_1, li_31]
        rw [px_shl (by omega), Nat.one_mul]
      refine ⟨mset M 475 26 (nI 0), RM_thr s, Or.inl ⟨nI (σ.ups (2 ^ a) &&& (2 ^ a ^^^ 4294967295)), ?_, ?_, mset_eq⟩⟩
      · unfold fX7_above
        rw [c_hasT w r ha, cnd_t hb]
        simp only [bnd_s, sw, nmv]
        rw [hs, c_up w r (p2_lt hb), bnd_s, li_m1, nx_xor, nx_and]
      · unfold fX8_above fX8_above_14 fX8_aboveOf
        rw [m_isT w s ha, cnd_t hb, li_m1]
        simp only [hs]
        simp (disch := omega) only [li_0, li_1, li_2, li_3, li_4, li_5, li_7, li_8, li_12, li_16, li_23, li_24, li_31, li_40, li_42, li_47, li_63, li_64, li_76, li_77, li_97, li_122, li_200, li_201, li_1000, li_1824, li_9999, li_16000, nI_add, nx_or, nx_and, pk_mul, nx_xor, nI_leI, nI_ltI, nI_eq, nI_clamp, vp_nI, px_sub, px_shl, px_shl2, px_shr2, px_bit, Bool.true_eq_false, Bool.false_eq_true, hol_0, hol_1, px_chr, chk, cnd_true, cnd_false, cnd_ite, bnd_s, nmv, exR, if_pos, if_neg, if_true, if_false, reduceIte, eq_self, not_true_eq_false, not_false_eq_true, mset_eq]
        rw [m_up w (RM_thr s) (p2_lt hb), bnd_s, bnd_s, nx_and]
    · exact bad1 (by rw [c_hasT w r ha, cnd_f hb]) (by rw [m_isT w s ha, cnd_f hb])
/-- the targets that take a file -/
noncomputable def Ab.cvs (σ : Ab) (k : Nat) : Nat := msk (fun t => (σ.tk t).testBit k) σ.nt
theorem cvs_lt (σ : Ab) (k : Nat) : σ.cvs k < 2 ^ σ.nt := msk_lt _ _
theorem c_cvs {C : Mem} {σ : Ab} (w : WF σ) (r : RC C σ) {a : Nat} (ha : a < σ.nf) : fX2_covering C (nI a) = some (nI (σ.cvs a)) := by
  have hn := w.nt
  have hf := w.nf
  unfold fX2_covering
  refine lp_for (fun i => (nI (msk (fun t => (σ.tk t).testBit a) i), nI i)) σ.nt (fun i hi => ?_) ?_
  · unfold fX2_covering_4 fX2_covering_34
    have h1 := lt24 (tk_lt σ i) hf
    simp only [li_0, li_1]
    rw [r.nt, nI_clamp (by omega), c_cov w r hi]
    by_cases c : (σ.tk i).testBit a = true
    · rw [msk_t (p := fun t => (σ.tk t).testBit a) c]
      simp (disch := omega) only [li_0, li_1, li_2, li_3, li_4, li_5, li_7, li_8, li_12, li_16, li_23, li_24, li_31, li_40, li_42, li_47, li_63, li_64, li_76, li_77, li_97, li_122, li_200, li_201, li_1000, li_1824, li_9999, li_16000, nI_add, nx_or, nx_and, pk_mul, nx_xor, nI_leI, nI_ltI, nI_eq, nI_clamp, vp_nI, px_sub, px_shl, px_shl2, px_shr2, px_bit, Bool.true_eq_false, Bool.false_eq_true, hol_0, hol_1, px_chr, chk, cnd_true, cnd_false, cnd_ite, bnd_s, nmv, exR, if_pos, if_neg, if_true, if_false, reduceIte, eq_self, not_true_eq_false, not_false_eq_true, c, Nat.one_mul]
    · rw [msk_f (p := fun t => (σ.tk t).testBit a) (by simpa using c)]
      simp (disch := omega) only [li_0, li_1, li_2, li_3, li_4, li_5, li_7, li_8, li_12, li_16, li_23, li_24, li_31, li_40, li_42, li_47, li_63, li_64, li_76, li_77, li_97, li_122, li_200, li_201, li_1000, li_1824, li_9999, li_16000, nI_add, nx_or, nx_and, pk_mul, nx_xor, nI_leI, nI_ltI, nI_eq, nI_clamp, vp_nI, px_sub, px_shl, px_shl2, px_shr2, px_bit, Bool.true_eq_false, Bool.false_eq_true, hol_0, hol_1, px_chr, chk, cnd_true, cnd_false, cnd_ite, bnd_s, nmv, exR, if_pos, if_neg, if_true, if_false, reduceIte, eq_self, not_true_eq_false, not_false_eq_true, c]
  · unfold fX2_covering_4
    rw [r.nt, cnd_t (nI_le (Nat.le_refl _) (by omega))]
    rfl
theorem m_aff {M : Mem} {σ : Ab} (w : WF σ) (s : RM ou M σ) {a : Nat} (ha : a < σ.nf) : fX8_affected M (nI a) = some (nI (σ.ups (σ.cvs a))) := by
  have hn := w.nt
  unfold fX8_affected
  refine lp_for (fun i => (nI (msk (fun t => (σ.tk t).testBit a) i), nI i)) σ.nt (fun i hi => ?_) ?_
  · unfold fX8_affected_4 fX8_affected_29
    simp only [li_0, li_1]
    rw [s.nt, m_tk w s hi ha]
    by_cases c : (σ.tk i).testBit a = true
    · rw [msk_t (p := fun t => (σ.tk t).testBit a) c]
      simp (disch := omega) only [li_0, li_1, li_2, li_3, li_4, li_5, li_7, li_8, li_12, li_16, li_23, li_24, li_31, li_40, li_42, li_47, li_63, li_64, li_76, li_77, li_97, li_122, li_200, li_201, li_1000, li_1824, li_9999, li_16000, nI_add, nx_or, nx_and, pk_mul, nx_xor, nI_leI, nI_ltI, nI_eq, nI_clamp, vp_nI, px_sub, px_shl, px_shl2, px_shr2, px_bit, Bool.true_eq_false, Bool.false_eq_true, hol_0, hol_1, px_chr, chk, cnd_true, cnd_false, cnd_ite, bnd_s, nmv, exR, if_pos, if_neg, if_true, if_false, reduceIte, eq_self, not_true_eq_false, not_false_eq_true, c, Nat.one_mul]
    · rw [msk_f (p := fun t => (σ.tk t).testBit a) (by simpa using c)]
      simp (disch := omega) only [li_0, li_1, li_2, li_3, li_4, li_5, li_7, li_8, li_12, li_16, li_23, li_24, li_31, li_40, li_42, li_47, li_63, li_64, li_76, li_77, li_97, li_122, li_200, li_201, li_1000, li_1824, li_9999, li_16000, nI_add, nx_or, nx_and, pk_mul, nx_xor, nI_leI, nI_ltI, nI_eq, nI_clamp, vp_nI, px_sub, px_shl, px_shl2, px_shr2, px_bit, Bool.true_eq_false, Bool.false_eq_true, hol_0, hol_1, px_chr, chk, cnd_true, cnd_false, cnd_ite, bnd_s, nmv, exR, if_pos, if_neg, if_true, if_false, reduceIte, eq_self, not_true_eq_false, not_false_eq_true, c, Nat.or_zero]
  · unfold fX8_affected_4
    show cnd (M 475 9 ≤ nI σ.nt) (exR (bnd (fX8_upwards M (nI (σ.cvs a))) fun q39 => some q39)) _ = _
    rw [s.nt, cnd_t (nI_le (Nat.le_refl _) (by omega)), m_up w s (cvs_lt σ a), bnd_s]
theorem op_affectedBy {C M : Mem} {σ : Ab} (w : WF σ) (r : RC C σ) (s : RM ou M σ) (x : Int32) : Opr ou wr_3 σ (fX7_affectedBy C x) (fX8_affectedBy M x) := by
  have hnf := w.nf
  have bad1 : fX7_requireFile C x = some (.inr 3) → fX8_isIn x 0 (M 475 2 - 1) = nI 0 → Opr ou wr_3 σ (fX7_affectedBy C x) (fX8_affectedBy M x) := by
    intro h1 h2
    refine ⟨mset M 475 26 (nI 1), RM_thr s, Or.inr ⟨3, nI 0, ?_, ?_, mset_eq, by decide, by decide⟩⟩
    · unfold fX7_affectedBy
      rw [h1]
      rfl
    · unfold fX8_affectedBy fX8_affectedBy_20
      rw [h2]
      simp (disch := omega) only [li_0, li_1, li_2, li_3, li_4, li_5, li_7, li_8, li_12, li_16, li_23, li_24, li_31, li_40, li_42, li_47, li_63, li_64, li_76, li_77, li_97, li_122, li_200, li_201, li_1000, li_1824, li_9999, li_16000, nI_add, nx_or, nx_and, pk_mul, nx_xor, nI_leI, nI_ltI, nI_eq, nI_clamp, vp_nI, px_sub, px_shl, px_shl2, px_shr2, px_bit, Bool.true_eq_false, Bool.false_eq_true, hol_0, hol_1, px_chr, chk, cnd_true, cnd_false, cnd_ite, bnd_s, nmv, exR, if_pos, if_neg, if_true, if_false, reduceIte, eq_self, not_true_eq_false, not_false_eq_true, mset_eq]
  rcases nI_cs x with hx | ⟨a, ha, rfl⟩
  · exact bad1 (c_rf0 C hx) (m_in0 hx _)
  · by_cases hb : a < σ.nf
    · refine ⟨mset M 475 26 (nI 0), RM_thr s, Or.inl ⟨nI (σ.ups (σ.cvs a)), ?_, ?_, mset_eq⟩⟩
      · unfold fX7_affectedBy
        rw [c_rf w r ha, cnd_t hb]
        simp only [bnd_s, sw]
        rw [c_cvs w r hb, bnd_s, c_up w r (cvs_lt σ a), bnd_s]
      · unfold fX8_affectedBy fX8_affectedBy_20
        rw [s.nf, m_inS ha (by omega), cnd_t hb]
        simp (disch := omega) only [li_0, li_1, li_2, li_3, li_4, li_5, li_7, li_8, li_12, li_16, li_23, li_24, li_31, li_40, li_42, li_47, li_63, li_64, li_76, li_77, li_97, li_122, li_200, li_201, li_1000, li_1824, li_9999, li_16000, nI_add, nx_or, nx_and, pk_mul, nx_xor, nI_leI, nI_ltI, nI_eq, nI_clamp, vp_nI, px_sub, px_shl, px_shl2, px_shr2, px_bit, Bool.true_eq_false, Bool.false_eq_true, hol_0, hol_1, px_chr, chk, cnd_true, cnd_false, cnd_ite, bnd_s, nmv, exR, if_pos, if_neg, if_true, if_false, reduceIte, eq_self, not_true_eq_false, not_false_eq_true, mset_eq]
        rw [m_aff w (RM_thr s) hb, bnd_s]
    · exact bad1 (by rw [c_rf w r ha, cnd_f hb]) (by rw [s.nf, m_inS ha (by omega), cnd_f hb])
