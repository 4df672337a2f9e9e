variable {ou : Int32}
/-! keyOf, needed, whyRun -/
theorem op_keyOf {C M : Mem} {σ : Ab} (w : WF σ) (r : RC C σ) (s : RM ou M σ) (x : Int32) : Opp ou wr_3 (fX7_keyOf C x) (fX8_keyOf M x) := by
  have hnt := w.nt
  have bad1 : fX7_requireTarget C x = some (.inr 3) → fX8_isTarget M x = some (nI 0) → Opp ou wr_3 (fX7_keyOf C x) (fX8_keyOf M x) := by
    intro h1 h2
    refine ⟨C, mset M 475 26 (nI 1), σ, w, r, RM_thr s, Or.inr ⟨3, nI 0, ?_, ?_, mset_eq, by decide, by decide⟩⟩
    · unfold fX7_keyOf
      rw [h1]
      rfl
    · unfold fX8_keyOf fX8_keyOf_14
      rw [h2]
      simp (disch := omega) only [li_0, li_1, li_2, li_3, li_4, li_5, li_7, li_8, li_12, li_16, li_23, li_24, li_31, li_40, li_42, li_47, li_63, li_64, li_76, li_77, li_97, li_122, li_200, li_201, li_1000, li_1824, li_9999, li_16000, nI_add, nx_or, nx_and, pk_mul, nx_xor, nI_leI, nI_ltI, nI_eq, nI_clamp, vp_nI, px_sub, px_shl, px_shl2, px_shr2, px_bit, Bool.true_eq_false, Bool.false_eq_true, hol_0, hol_1, px_chr, chk, cnd_true, cnd_false, cnd_ite, bnd_s, nmv, exR, if_pos, if_neg, if_true, if_false, reduceIte, eq_self, not_true_eq_false, not_false_eq_true, mset_eq]
  rcases nI_cs x with hx | ⟨a, ha, rfl⟩
  · exact bad1 (c_hasT0 C hx) (m_isT0 M hx)
  · by_cases hb : a < σ.nt
    · obtain ⟨C', c1, c2, c3, c4⟩ := c_all w r
      obtain ⟨M', m1, m2, m3, m4, m5⟩ := m_lay w (RM_thr (x := nI 0) s)
      refine ⟨C', M', σ, w, c2, m2, Or.inl ⟨nI (σ.ky a), ?_, ?_, ?_⟩⟩
      · unfold fX7_keyOf fX3_keyNow
        rw [c_hasT w r ha, cnd_t hb]
        simp only [bnd_s, sw]
        rw [c1, bnd_s, nI_clamp (by omega), c3 a hb, chk_t (by rw [vp_nI (by omega)]; omega), bnd_s]
      · unfold fX8_keyOf fX8_keyOf_14
        rw [m_isT w s ha, cnd_t hb, bnd_s, cnd10, show (0 : Int32) = nI 0 from rfl, mset_eq, cnd_t (by decide), m1, bnd_s, nI_clamp (by omega), m3 a hb, chk_t (by rw [vp_nI (by omega)]; omega)]
      · rw [m5 475 26 (by omega) (by omega)]
        exact mset_eq
    · exact bad1 (by rw [c_hasT w r ha, cnd_f hb]) (by rw [m_isT w s ha, cnd_f hb])
theorem op_needed {C M : Mem} {σ : Ab} (w : WF σ) (r : RC C σ) (s : RM ou M σ) : Opn ou (fX7_needed C) (fX8_needed M) := by
  obtain ⟨C', c1, c2, c3, c4⟩ := c_all w r
  obtain ⟨M', m1, m2, m3, m4, m5⟩ := m_need w (RM_thr (x := nI 0) s)
  refine ⟨C', M', σ, nI σ.nee, w, c2, m2, ?_, ?_⟩
  · unfold fX7_needed
    rw [c1, bnd_s, c_wok w c2, bnd_s, wok_nee w c3]
  · unfold fX8_needed
    rw [show (0 : Int32) = nI 0 from rfl, m1, bnd_s]
theorem op_whyRun {C M : Mem} {σ : Ab} (w : WF σ) (r : RC C σ) (s : RM ou M σ) (x : Int32) : Opp ou wr_3 (fX7_whyRun C x) (fX8_whyRun M x) := by
  have hnt := w.nt
  have hnk := w.nk
  have bad1 : fX7_requireTarget C x = some (.inr 3) → fX8_isTarget M x = some (nI 0) → Opp ou wr_3 (fX7_whyRun C x) (fX8_whyRun M x) := by
    intro h1 h2
    refine ⟨C, mset M 475 26 (nI 1), σ, w, r, RM_thr s, Or.inr ⟨3, nI 0, ?_, ?_, mset_eq, by decide, by decide⟩⟩
    · unfold fX7_whyRun
      rw [h1]
      rfl
    · unfold fX8_whyRun fX8_whyRun_14
      rw [h2]
      simp (disch := omega) only [li_0, li_1, li_2, li_3, li_4, li_5, li_7, li_8, li_12, li_16, li_23, li_24, li_31, li_40, li_42, li_47, li_63, li_64, li_76, li_77, li_97, li_122, li_200, li_201, li_1000, li_1824, li_9999, li_16000, nI_add, nx_or, nx_and, pk_mul, nx_xor, nI_leI, nI_ltI, nI_eq, nI_clamp, vp_nI, px_sub, px_shl, px_shl2, px_shr2, px_bit, Bool.true_eq_false, Bool.false_eq_true, hol_0, hol_1, px_chr, chk, cnd_true, cnd_false, cnd_ite, bnd_s, nmv, exR, if_pos, if_neg, if_true, if_false, reduceIte, eq_self, not_true_eq_false, not_false_eq_true, mset_eq]
  rcases nI_cs x with hx | ⟨a, ha, rfl⟩
  · exact bad1 (c_hasT0 C hx) (m_isT0 M hx)
  · by_cases hb : a < σ.nt
    · obtain ⟨C', c1, c2, c3, c4⟩ := c_all w r
      obtain ⟨M', m1, m2, m3, m4, m5⟩ := m_lay w (RM_thr (x := nI 0) s)
      have hk := ky_le w hb
      have hl := w.la a
      have ht : M' 475 26 = nI 0 := by
        rw [m5 475 26 (by omega) (by omega)]
        exact mset_eq
      have hc : fX7_whyRun C (nI a) = cnd (σ.ky a = 0) (cnd (σ.la a = 0) (some (.inl (nI 1), C')) (bnd (fX3_hasLatestInputs C' (nI a)) fun q43 => cnd (q43.1 = (0 : Int32)) (some (.inl (2 : Int32), q43.2)) (some (.inl (3 : Int32), q43.2)))) (some (.inl (nI 0), C')) := by
        unfold fX7_whyRun fX3_keyNow fX3_hasRun
        rw [c_hasT w r ha, cnd_t hb]
        simp only [bnd_s, sw]
        rw [c1, bnd_s, nI_clamp (by omega), c3 a hb, c2.la a (by omega), chk_t (by rw [vp_nI (by omega)]; omega), bnd_s, chk_t (by rw [vp_nI (by omega)]; omega)]
        simp only [li_0, li_1]
        by_cases e1 : σ.ky a = 0
        · by_cases e2 : σ.la a = 0
          · simp (disch := omega) only [li_0, li_1, li_2, li_3, li_4, li_5, li_7, li_8, li_12, li_16, li_23, li_24, li_31, li_40, li_42, li_47, li_63, li_64, li_76, li_77, li_97, li_122, li_200, li_201, li_1000, li_1824, li_9999, li_16000, nI_add, nx_or, nx_and, pk_mul, nx_xor, nI_leI, nI_ltI, nI_eq, nI_clamp, vp_nI, px_sub, px_shl, px_shl2, px_shr2, px_bit, Bool.true_eq_false, Bool.false_eq_true, hol_0, hol_1, px_chr, chk, cnd_true, cnd_false, cnd_ite, bnd_s, nmv, exR, if_pos, if_neg, if_true, if_false, reduceIte, eq_self, not_true_eq_false, not_false_eq_true, e1, e2]
          · simp (disch := omega) only [li_0, li_1, li_2, li_3, li_4, li_5, li_7, li_8, li_12, li_16, li_23, li_24, li_31, li_40, li_42, li_47, li_63, li_64, li_76, li_77, li_97, li_122, li_200, li_201, li_1000, li_1824, li_9999, li_16000, nI_add, nx_or, nx_and, pk_mul, nx_xor, nI_leI, nI_ltI, nI_eq, nI_clamp, vp_nI, px_sub, px_shl, px_shl2, px_shr2, px_bit, Bool.true_eq_false, Bool.false_eq_true, hol_0, hol_1, px_chr, chk, cnd_true, cnd_false, cnd_ite, bnd_s, nmv, exR, if_pos, if_neg, if_true, if_false, reduceIte, eq_self, not_true_eq_false, not_false_eq_true, e1, e2]
        · simp (disch := omega) only [li_0, li_1, li_2, li_3, li_4, li_5, li_7, li_8, li_12, li_16, li_23, li_24, li_31, li_40, li_42, li_47, li_63, li_64, li_76, li_77, li_97, li_122, li_200, li_201, li_1000, li_1824, li_9999, li_16000, nI_add, nx_or, nx_and, pk_mul, nx_xor, nI_leI, nI_ltI, nI_eq, nI_clamp, vp_nI, px_sub, px_shl, px_shl2, px_shr2, px_bit, Bool.true_eq_false, Bool.false_eq_true, hol_0, hol_1, px_chr, chk, cnd_true, cnd_false, cnd_ite, bnd_s, nmv, exR, if_pos, if_neg, if_true, if_false, reduceIte, eq_self, not_true_eq_false, not_false_eq_true, e1]
      have hm : fX8_whyRun M (nI a) = cnd (σ.ky a = 0) (cnd (σ.la a = 0) (some (nI 1, M')) (bnd (fX8_hasInputs M' (nI (σ.la a) - (1 : Int32)) (nI (σ.inp a))) fun q68 => cnd (q68 = (0 : Int32)) (some ((2 : Int32), M')) (some ((3 : Int32), M')))) (some (nI 0, M')) := by
        unfold fX8_whyRun fX8_whyRun_14
        rw [m_isT w s ha, cnd_t hb, bnd_s, cnd10, show (0 : Int32) = nI 0 from rfl, mset_eq, cnd_t (by decide), m1, bnd_s, nI_clamp (by omega), m3 a hb, m2.la a (by omega), m_inp w m2 hb, bnd_s]
        simp only [li_1]
        by_cases e1 : σ.ky a = 0
        · by_cases e2 : σ.la a = 0
          · simp (disch := omega) only [li_0, li_1, li_2, li_3, li_4, li_5, li_7, li_8, li_12, li_16, li_23, li_24, li_31, li_40, li_42, li_47, li_63, li_64, li_76, li_77, li_97, li_122, li_200, li_201, li_1000, li_1824, li_9999, li_16000, nI_add, nx_or, nx_and, pk_mul, nx_xor, nI_leI, nI_ltI, nI_eq, nI_clamp, vp_nI, px_sub, px_shl, px_shl2, px_shr2, px_bit, Bool.true_eq_false, Bool.false_eq_true, hol_0, hol_1, px_chr, chk, cnd_true, cnd_false, cnd_ite, bnd_s, nmv, exR, if_pos, if_neg, if_true, if_false, reduceIte, eq_self, not_true_eq_false, not_false_eq_true, e1, e2, show a < 16 by omega]
          · simp (disch := omega) only [li_0, li_1, li_2, li_3, li_4, li_5, li_7, li_8, li_12, li_16, li_23, li_24, li_31, li_40, li_42, li_47, li_63, li_64, li_76, li_77, li_97, li_122, li_200, li_201, li_1000, li_1824, li_9999, li_16000, nI_add, nx_or, nx_and, pk_mul, nx_xor, nI_leI, nI_ltI, nI_eq, nI_clamp, vp_nI, px_sub, px_shl, px_shl2, px_shr2, px_bit, Bool.true_eq_false, Bool.false_eq_true, hol_0, hol_1, px_chr, chk, cnd_true, cnd_false, cnd_ite, bnd_s, nmv, exR, if_pos, if_neg, if_true, if_false, reduceIte, eq_self, not_true_eq_false, not_false_eq_true, e1, e2, show a < 16 by omega]
        · simp (disch := omega) only [li_0, li_1, li_2, li_3, li_4, li_5, li_7, li_8, li_12, li_16, li_23, li_24, li_31, li_40, li_42, li_47, li_63, li_64, li_76, li_77, li_97, li_122, li_200, li_201, li_1000, li_1824, li_9999, li_16000, nI_add, nx_or, nx_and, pk_mul, nx_xor, nI_leI, nI_ltI, nI_eq, nI_clamp, vp_nI, px_sub, px_shl, px_shl2, px_shr2, px_bit, Bool.true_eq_false, Bool.false_eq_true, hol_0, hol_1, px_chr, chk, cnd_true, cnd_false, cnd_ite, bnd_s, nmv, exR, if_pos, if_neg, if_true, if_false, reduceIte, eq_self, not_true_eq_false, not_false_eq_true, e1, show a < 16 by omega, show ¬ σ.ky a ≤ 0 by omega]
      rw [hc, hm]
      by_cases e1 : σ.ky a = 0
      · rw [cnd_t e1, cnd_t e1]
        by_cases e2 : σ.la a = 0
        · rw [cnd_t e2, cnd_t e2]
          exact ⟨C', M', σ, w, c2, m2, Or.inl ⟨nI 1, rfl, rfl, ht⟩⟩
        · rw [cnd_f e2, cnd_f e2]
          obtain ⟨C2, f1, f2, f3, _, f5⟩ := c_row w c2 hb
          have g1 : fX3_hasLatestInputs C' (nI a) = some (cnd (σ.mti a (σ.la a - 1)) (nI 1) (nI 0), C2) := by
            unfold fX3_hasLatestInputs
            rw [f1, bnd_s, nI_clamp (by omega), f2.la a (by omega), chk_t (by rw [vp_nI (by omega)]; omega), li_24, show σ.la a = σ.la a - 1 + 1 by omega, c_agr (by omega) (by omega), bnd_s, cnd_iff (agr_in w f2 (by omega) f3), chk_t (nb_cnd _)]
            rfl
          have g2 : fX8_hasInputs M' (nI (σ.la a) - (1 : Int32)) (nI (σ.inp a)) = some (cnd (σ.mti a (σ.la a - 1)) (nI 1) (nI 0)) := by
            rw [show (1 : Int32) = nI 1 from rfl, px_sub (by omega), m_hin w m2 (by omega)]
          rw [g1, g2, bnd_s, bnd_s]
          by_cases e3 : σ.mti a (σ.la a - 1)
          · rw [cnd_t e3, cnd10, cnd10]
            exact ⟨C2, M', σ, w, f2, m2, Or.inl ⟨3, rfl, rfl, ht⟩⟩
          · rw [cnd_f e3, cnd00, cnd00]
            exact ⟨C2, M', σ, w, f2, m2, Or.inl ⟨2, rfl, rfl, ht⟩⟩
      · rw [cnd_f e1, cnd_f e1]
        exact ⟨C', M', σ, w, c2, m2, Or.inl ⟨nI 0, rfl, rfl, ht⟩⟩
    · exact bad1 (by rw [c_hasT w r ha, cnd_f hb]) (by rw [m_isT w s ha, cnd_f hb])
