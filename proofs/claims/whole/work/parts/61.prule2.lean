variable {ou : Int32}
theorem op_addRule {C M : Mem} {σ : Ab} (w : WF σ) (r : RC C σ) (s : RM ou M σ) (x : Int32) : Opp ou wr_312 (fX7_addRule C x) (fX8_addRule M x) := by
  have hnr := w.nr
  have hnf := w.nf
  have bad1 : fX7_addRule C x = some (.inr 3, C) → fX8_isIn x 0 7 = nI 0 → Opp ou wr_312 (fX7_addRule C x) (fX8_addRule M x) := by
    intro h1 h2
    refine ⟨C, mset M 475 26 (nI 1), σ, w, r, RM_thr s, Or.inr ⟨3, nI 0, h1, ?_, mset_eq, by decide, by decide⟩⟩
    unfold fX8_addRule fX8_addRule_40
    rw [h2]
    simp (disch := omega) only [li_0, li_1, li_2, li_3, li_4, li_5, li_7, li_8, li_12, li_16, li_23, li_24, li_31, li_40, li_42, li_47, li_63, li_64, li_76, li_77, li_97, li_122, li_200, li_201, li_1000, li_1824, li_9999, li_16000, nI_add, nx_or, nx_and, pk_mul, nx_xor, nI_leI, nI_ltI, nI_eq, nI_clamp, vp_nI, px_sub, px_shl, px_shl2, px_shr2, px_bit, Bool.true_eq_false, Bool.false_eq_true, hol_0, hol_1, px_chr, chk, cnd_true, cnd_false, cnd_ite, bnd_s, nmv, exR, if_pos, if_neg, if_true, if_false, reduceIte, eq_self, not_true_eq_false, not_false_eq_true, mset_eq]
  rcases nI_cs x with hx | ⟨a, ha, rfl⟩
  · refine bad1 ?_ (m_in0 hx _)
    unfold fX7_addRule fX7_addRule_10
    rw [cnd_t hx]
  · by_cases hb : a ≤ 7
    · have e1 : fX8_isIn (nI a) 0 7 = nI 1 := by rw [li_7, m_in ha (by decide), cnd_t hb]
      by_cases hg : isG σ.tn σ.tf
      · by_cases hf : σ.nr = 12
        · refine ⟨C, mset M 475 26 (nI 3), σ, w, r, RM_thr s, Or.inr ⟨2, nI 0, ?_, ?_, mset_eq, by decide, by decide⟩⟩
          · unfold fX7_addRule fX7_addRule_10 fX4_isFull fX1_isFull
            rw [c_rg r, cnd_t hg, r.nr, r.nm, hf]
            simp only [bnd_s, sw, li_0, li_7, li_1]
            rw [chk_t (by rw [cnd_f (by decide)]; rfl), bnd_s]
            simp (disch := omega) only [li_0, li_1, li_2, li_3, li_4, li_5, li_7, li_8, li_12, li_16, li_23, li_24, li_31, li_40, li_42, li_47, li_63, li_64, li_76, li_77, li_97, li_122, li_200, li_201, li_1000, li_1824, li_9999, li_16000, nI_add, nx_or, nx_and, pk_mul, nx_xor, nI_leI, nI_ltI, nI_eq, nI_clamp, vp_nI, px_sub, px_shl, px_shl2, px_shr2, px_bit, Bool.true_eq_false, Bool.false_eq_true, hol_0, hol_1, px_chr, chk, cnd_true, cnd_false, cnd_ite, bnd_s, nmv, exR, if_pos, if_neg, if_true, if_false, reduceIte, eq_self, not_true_eq_false, not_false_eq_true, show ¬ a < 0 by omega, hb]
          · unfold fX8_addRule fX8_addRule_40
            rw [e1, mt_glob s.tx, cnd_t hg, s.nr, hf]
            simp (disch := omega) only [li_0, li_1, li_2, li_3, li_4, li_5, li_7, li_8, li_12, li_16, li_23, li_24, li_31, li_40, li_42, li_47, li_63, li_64, li_76, li_77, li_97, li_122, li_200, li_201, li_1000, li_1824, li_9999, li_16000, nI_add, nx_or, nx_and, pk_mul, nx_xor, nI_leI, nI_ltI, nI_eq, nI_clamp, vp_nI, px_sub, px_shl, px_shl2, px_shr2, px_bit, Bool.true_eq_false, Bool.false_eq_true, hol_0, hol_1, px_chr, chk, cnd_true, cnd_false, cnd_ite, bnd_s, nmv, exR, if_pos, if_neg, if_true, if_false, reduceIte, eq_self, not_true_eq_false, not_false_eq_true, mset_eq]
        · have hlt : σ.nr < 12 := by omega
          have r0 := RC_474 (x := nI a) w r
          obtain ⟨C1, c1, c2, c3⟩ := c_copy r0 (o := 447 + 3 + 2 * σ.nr) (by omega) (by omega)
          obtain ⟨M1, m1, m2, m3⟩ := m_copy (RM_thr (x := nI 0) s) (q := 64 + σ.nr) (by omega)
          have w' := WF_aru w hlt hb hg
          have r' := RC_aru w r0 hlt mset_eq c2 c3
          have s' := RM_aru (o := a) w (RM_thr (x := nI 0) s) hlt m2 m3
          refine ⟨_, _, σ.aru a, w', r', s', Or.inl ⟨nI (σ.nr + 1), ?_, ?_, ?_⟩⟩
          · unfold fX7_addRule fX7_addRule_10 fX4_isFull fX1_isFull fX4_add fX1_add fX4_size fX1_size
            rw [c_rg r, cnd_t hg, r.nr, r.nm, c_cby w r hg, ln_r]
            simp only [bnd_s, sw, li_0, li_7, li_1]
            rw [nI_clamp (by omega), mset_ne (by omega), r.nr, nI_clamp (by omega), c1]
            simp only [bnd_s]
            rw [c3 447 3 (by omega) (by omega), mset_ne (by omega), r.nr, nI_clamp (by omega)]
            simp (disch := omega) only [mset_ne]
            rw [c3 447 3 (by omega) (by omega), mset_ne (by omega), r.nr, nI_add]
            rw [cnd_t (nI_lt hlt (by omega)), chk_t (by rfl)]
            simp (disch := omega) only [li_0, li_1, li_2, li_3, li_4, li_5, li_7, li_8, li_12, li_16, li_23, li_24, li_31, li_40, li_42, li_47, li_63, li_64, li_76, li_77, li_97, li_122, li_200, li_201, li_1000, li_1824, li_9999, li_16000, nI_add, nx_or, nx_and, pk_mul, nx_xor, nI_leI, nI_ltI, nI_eq, nI_clamp, vp_nI, px_sub, px_shl, px_shl2, px_shr2, px_bit, Bool.true_eq_false, Bool.false_eq_true, hol_0, hol_1, px_chr, chk, cnd_true, cnd_false, cnd_ite, bnd_s, nmv, exR, if_pos, if_neg, if_true, if_false, reduceIte, eq_self, not_true_eq_false, not_false_eq_true, show ¬ a < 0 by omega, hb, hlt, mset_eq]
          · unfold fX8_addRule fX8_addRule_40
            rw [e1, cnd10, mt_glob s.tx, cnd_t hg, bnd_s, cnd10, s.nr]
            simp only [li_0, li_1, li_12, show (64 : Int32) = nI 64 from rfl]
            rw [cnd_f (by rw [nI_eq (by omega) (by omega)]; exact hf), mset_eq, cnd_t (by decide), mset_ne (by omega), s.nr, nI_add, m1, bnd_s]
            rw [m3 475 14 (by omega) (by omega), mset_ne (by omega), s.nr, nI_clamp (by omega), mset_eq]
            have e2 : mset M1 488 σ.nr (nI a) 475 14 = nI σ.nr := by rw [mset_ne (by omega), m3 475 14 (by omega) (by omega), mset_ne (by omega), s.nr]
            rw [e2, nI_add, chk_t (by rw [vp_nI (by omega)]; omega)]
          · rw [mset_ne (by omega), mset_ne (by omega), m3 475 26 (by omega) (by omega)]
            exact mset_eq
      · refine ⟨C, mset M 475 26 (nI 2), σ, w, r, RM_thr s, Or.inr ⟨1, nI 0, ?_, ?_, mset_eq, by decide, by decide⟩⟩
        · unfold fX7_addRule fX7_addRule_10
          rw [c_rg r, cnd_f hg]
          simp only [bnd_s, sw, li_0, li_7]
          simp (disch := omega) only [li_0, li_1, li_2, li_3, li_4, li_5, li_7, li_8, li_12, li_16, li_23, li_24, li_31, li_40, li_42, li_47, li_63, li_64, li_76, li_77, li_97, li_122, li_200, li_201, li_1000, li_1824, li_9999, li_16000, nI_add, nx_or, nx_and, pk_mul, nx_xor, nI_leI, nI_ltI, nI_eq, nI_clamp, vp_nI, px_sub, px_shl, px_shl2, px_shr2, px_bit, Bool.true_eq_false, Bool.false_eq_true, hol_0, hol_1, px_chr, chk, cnd_true, cnd_false, cnd_ite, bnd_s, nmv, exR, if_pos, if_neg, if_true, if_false, reduceIte, eq_self, not_true_eq_false, not_false_eq_true, show ¬ a < 0 by omega, hb]
        · unfold fX8_addRule fX8_addRule_40
          rw [e1, mt_glob s.tx, cnd_f hg]
          simp (disch := omega) only [li_0, li_1, li_2, li_3, li_4, li_5, li_7, li_8, li_12, li_16, li_23, li_24, li_31, li_40, li_42, li_47, li_63, li_64, li_76, li_77, li_97, li_122, li_200, li_201, li_1000, li_1824, li_9999, li_16000, nI_add, nx_or, nx_and, pk_mul, nx_xor, nI_leI, nI_ltI, nI_eq, nI_clamp, vp_nI, px_sub, px_shl, px_shl2, px_shr2, px_bit, Bool.true_eq_false, Bool.false_eq_true, hol_0, hol_1, px_chr, chk, cnd_true, cnd_false, cnd_ite, bnd_s, nmv, exR, if_pos, if_neg, if_true, if_false, reduceIte, eq_self, not_true_eq_false, not_false_eq_true, mset_eq]
    · refine bad1 ?_ (by rw [li_7, m_in ha (by decide), cnd_f hb])
      unfold fX7_addRule fX7_addRule_10
      simp only [li_0, li_7]
      simp (disch := omega) only [li_0, li_1, li_2, li_3, li_4, li_5, li_7, li_8, li_12, li_16, li_23, li_24, li_31, li_40, li_42, li_47, li_63, li_64, li_76, li_77, li_97, li_122, li_200, li_201, li_1000, li_1824, li_9999, li_16000, nI_add, nx_or, nx_and, pk_mul, nx_xor, nI_leI, nI_ltI, nI_eq, nI_clamp, vp_nI, px_sub, px_shl, px_shl2, px_shr2, px_bit, Bool.true_eq_false, Bool.false_eq_true, hol_0, hol_1, px_chr, chk, cnd_true, cnd_false, cnd_ite, bnd_s, nmv, exR, if_pos, if_neg, if_true, if_false, reduceIte, eq_self, not_true_eq_false, not_false_eq_true, show ¬ a < 0 by omega, hb]
