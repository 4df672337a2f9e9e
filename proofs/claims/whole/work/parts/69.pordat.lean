variable {ou : Int32}
theorem op_orderAt {C M : Mem} {σ : Ab} (w : WF σ) (r : RC C σ) (s : RM ou M σ) (x : Int32) : Opp ou wr_3 (fX7_orderAt C x) (fX8_orderAt M x) := by
  have hnt := w.nt
  have bad1 : fX7_orderAt C x = some (.inr 3, C) → fX8_isTarget M x = some (nI 0) → Opp ou wr_3 (fX7_orderAt C x) (fX8_orderAt M x) := by
    intro h1 h2
    refine ⟨C, mset M 475 26 (nI 1), σ, w, r, RM_thr s, Or.inr ⟨3, nI 0, h1, ?_, mset_eq, by decide, by decide⟩⟩
    unfold fX8_orderAt fX8_orderAt_14
    rw [h2]
    simp (disch := omega) only [li_0, li_1, li_2, li_3, li_4, li_5, li_7, li_8, li_12, li_16, li_23, li_24, li_31, li_40, li_42, li_47, li_63, li_64, li_76, li_77, li_97, li_122, li_200, li_201, li_1000, li_1824, li_9999, li_16000, nI_add, nx_or, nx_and, pk_mul, nx_xor, nI_leI, nI_ltI, nI_eq, nI_clamp, vp_nI, px_sub, px_shl, px_shl2, px_shr2, px_bit, Bool.true_eq_false, Bool.false_eq_true, hol_0, hol_1, px_chr, chk, cnd_true, cnd_false, cnd_ite, bnd_s, nmv, exR, if_pos, if_neg, if_true, if_false, reduceIte, eq_self, not_true_eq_false, not_false_eq_true, mset_eq]
  rcases nI_cs x with hx | ⟨a, ha, rfl⟩
  · refine bad1 ?_ (m_isT0 M hx)
    unfold fX7_orderAt fX7_orderAt_15
    rw [cnd_t hx]
  · by_cases hb : a < σ.nt
    · obtain ⟨C', c1, c2, c3, c4⟩ := c_ord w r
      obtain ⟨M', m1, m2, m3, m4⟩ := m_ord w (RM_thr (x := nI 0) s)
      refine ⟨C', M', σ, w, c2, m2, Or.inl ⟨nI (σ.ord a), ?_, ?_, ?_⟩⟩
      · unfold fX7_orderAt fX7_orderAt_15 fX2_atPlace fX2_size
        simp only [li_0]
        rw [r.nt, c1, bnd_s, nI_clamp (by omega), c3 a hb]
        simp (disch := omega) only [li_0, li_1, li_2, li_3, li_4, li_5, li_7, li_8, li_12, li_16, li_23, li_24, li_31, li_40, li_42, li_47, li_63, li_64, li_76, li_77, li_97, li_122, li_200, li_201, li_1000, li_1824, li_9999, li_16000, nI_add, nx_or, nx_and, pk_mul, nx_xor, nI_leI, nI_ltI, nI_eq, nI_clamp, vp_nI, px_sub, px_shl, px_shl2, px_shr2, px_bit, Bool.true_eq_false, Bool.false_eq_true, hol_0, hol_1, px_chr, chk, cnd_true, cnd_false, cnd_ite, bnd_s, nmv, exR, if_pos, if_neg, if_true, if_false, reduceIte, eq_self, not_true_eq_false, not_false_eq_true, show ¬ a < 0 by omega, hb, show a < 16 by omega]
      · unfold fX8_orderAt fX8_orderAt_14
        rw [m_isT w s ha, cnd_t hb]
        simp (disch := omega) only [li_0, li_1, li_2, li_3, li_4, li_5, li_7, li_8, li_12, li_16, li_23, li_24, li_31, li_40, li_42, li_47, li_63, li_64, li_76, li_77, li_97, li_122, li_200, li_201, li_1000, li_1824, li_9999, li_16000, nI_add, nx_or, nx_and, pk_mul, nx_xor, nI_leI, nI_ltI, nI_eq, nI_clamp, vp_nI, px_sub, px_shl, px_shl2, px_shr2, px_bit, Bool.true_eq_false, Bool.false_eq_true, hol_0, hol_1, px_chr, chk, cnd_true, cnd_false, cnd_ite, bnd_s, nmv, exR, if_pos, if_neg, if_true, if_false, reduceIte, eq_self, not_true_eq_false, not_false_eq_true, mset_eq]
        rw [m1, bnd_s, m3 a hb]
      · rw [m4 _ _ (by omega)]
        exact mset_eq
    · refine bad1 ?_ (by rw [m_isT w s ha, cnd_f hb])
      unfold fX7_orderAt fX7_orderAt_15 fX2_size
      simp only [li_0]
      rw [r.nt]
      simp (disch := omega) only [li_0, li_1, li_2, li_3, li_4, li_5, li_7, li_8, li_12, li_16, li_23, li_24, li_31, li_40, li_42, li_47, li_63, li_64, li_76, li_77, li_97, li_122, li_200, li_201, li_1000, li_1824, li_9999, li_16000, nI_add, nx_or, nx_and, pk_mul, nx_xor, nI_leI, nI_ltI, nI_eq, nI_clamp, vp_nI, px_sub, px_shl, px_shl2, px_shr2, px_bit, Bool.true_eq_false, Bool.false_eq_true, hol_0, hol_1, px_chr, chk, cnd_true, cnd_false, cnd_ite, bnd_s, nmv, exR, if_pos, if_neg, if_true, if_false, reduceIte, eq_self, not_true_eq_false, not_false_eq_true, show ¬ a < 0 by omega, hb]
