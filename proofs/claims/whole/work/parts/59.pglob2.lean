variable {ou : Int32}
theorem c_rg {C : Mem} {σ : Ab} (r : RC C σ) : fX7_requireGlob C = cnd (isG σ.tn σ.tf) (some (.inl (nI 0))) (some (.inr 1)) := by
  unfold fX7_requireGlob
  rw [tx_glob r.tx, bnd_s]
  by_cases h : isG σ.tn σ.tf
  · rw [cnd_t h, cnd_t h, cnd10]
    rfl
  · rw [cnd_f h, cnd_f h, cnd00]
theorem op_addGlob {C M : Mem} {σ : Ab} (w : WF σ) (r : RC C σ) (s : RM ou M σ) (x : Int32) : Opp ou wr_312 (fX7_addGlob C x) (fX8_addGlob M x) := by
  have hnt := w.nt
  have hnf := w.nf
  have bad1 : fX7_requireTarget C x = some (.inr 3) → fX8_isTarget M x = some (nI 0) → Opp ou wr_312 (fX7_addGlob C x) (fX8_addGlob M x) := by
    intro h1 h2
    refine ⟨C, mset M 475 26 (nI 1), σ, w, r, RM_thr s, Or.inr ⟨3, nI 0, ?_, ?_, mset_eq, by decide, by decide⟩⟩
    · unfold fX7_addGlob
      rw [h1]
      rfl
    · unfold fX8_addGlob fX8_addGlob_39
      rw [h2]
      simp (disch := omega) only [li_0, li_1, li_2, li_3, li_4, li_5, li_7, li_8, li_12, li_16, li_23, li_24, li_31, li_40, li_42, li_47, li_63, li_64, li_76, li_77, li_97, li_122, li_200, li_201, li_1000, li_1824, li_9999, li_16000, nI_add, nx_or, nx_and, pk_mul, nx_xor, nI_leI, nI_ltI, nI_eq, nI_clamp, vp_nI, px_sub, px_shl, px_shl2, px_shr2, px_bit, Bool.true_eq_false, Bool.false_eq_true, hol_0, hol_1, px_chr, chk, cnd_true, cnd_false, cnd_ite, bnd_s, nmv, exR, if_pos, if_neg, if_true, if_false, reduceIte, eq_self, not_true_eq_false, not_false_eq_true, mset_eq]
  rcases nI_cs x with hx | ⟨a, ha, rfl⟩
  · exact bad1 (c_hasT0 C hx) (m_isT0 M hx)
  · by_cases hb : a < σ.nt
    · have h4 := w.gc a
      by_cases hg : isG σ.tn σ.tf
      · by_cases hf : σ.gc a = 4
        · refine ⟨C, mset M 475 26 (nI 3), σ, w, r, RM_thr s, Or.inr ⟨2, nI 0, ?_, ?_, mset_eq, by decide, by decide⟩⟩
          · unfold fX7_addGlob fX2_globsOf fX1_isFull
            rw [c_hasT w r ha, cnd_t hb, c_rg r, cnd_t hg]
            simp only [bnd_s, sw]
            rw [nI_clamp (by omega), chk_t (by rw [vp_nI (by omega)]; omega), bnd_s, r.gc a (by omega), r.gm a (by omega), hf]
            simp (disch := omega) only [li_0, li_1, li_2, li_3, li_4, li_5, li_7, li_8, li_12, li_16, li_23, li_24, li_31, li_40, li_42, li_47, li_63, li_64, li_76, li_77, li_97, li_122, li_200, li_201, li_1000, li_1824, li_9999, li_16000, nI_add, nx_or, nx_and, pk_mul, nx_xor, nI_leI, nI_ltI, nI_eq, nI_clamp, vp_nI, px_sub, px_shl, px_shl2, px_shr2, px_bit, Bool.true_eq_false, Bool.false_eq_true, hol_0, hol_1, px_chr, chk, cnd_true, cnd_false, cnd_ite, bnd_s, nmv, exR, if_pos, if_neg, if_true, if_false, reduceIte, eq_self, not_true_eq_false, not_false_eq_true]
          · unfold fX8_addGlob fX8_addGlob_39
            rw [m_isT w s ha, cnd_t hb, mt_glob s.tx, cnd_t hg, nI_clamp (by omega), s.gc a (by omega), hf]
            simp (disch := omega) only [li_0, li_1, li_2, li_3, li_4, li_5, li_7, li_8, li_12, li_16, li_23, li_24, li_31, li_40, li_42, li_47, li_63, li_64, li_76, li_77, li_97, li_122, li_200, li_201, li_1000, li_1824, li_9999, li_16000, nI_add, nx_or, nx_and, pk_mul, nx_xor, nI_leI, nI_ltI, nI_eq, nI_clamp, vp_nI, px_sub, px_shl, px_shl2, px_shr2, px_bit, Bool.true_eq_false, Bool.false_eq_true, hol_0, hol_1, px_chr, chk, cnd_true, cnd_false, cnd_ite, bnd_s, nmv, exR, if_pos, if_neg, if_true, if_false, reduceIte, eq_self, not_true_eq_false, not_false_eq_true, mset_eq, show a < 16 by omega]
        · have hlt : σ.gc a < 4 := by omega
          obtain ⟨C1, c1, c2, c3⟩ := c_copy r (o := 60 + 11 * a + 3 + 2 * σ.gc a) (by omega) (by omega)
          obtain ⟨M1, m1, m2, m3⟩ := m_copy (RM_thr (x := nI 0) s) (q := 4 * a + σ.gc a) (by omega)
          have w' := WF_agl w hb hlt hg
          have r' := RC_agl w r hb hlt c2 c3
          have s' := RM_agl w (RM_thr (x := nI 0) s) hb hlt m2 m3
          have hb' : a < (σ.agl a).nt := hb
          have hi := lt24 (inp_lt (σ.agl a) a) hnf
          have ht : (σ.agl a).th = σ.th := rfl
          refine ⟨_, _, σ.agl a, w', r', s', Or.inl ⟨nI (cn ((σ.agl a).inp a) 24), ?_, ?_, ?_⟩⟩
          · unfold fX7_addGlob fX2_globsOf fX1_isFull fX1_add fX0_present
            rw [c_hasT w r ha, cnd_t hb, c_rg r, cnd_t hg]
            simp only [bnd_s, sw]
            rw [nI_clamp (by omega), chk_t (by rw [vp_nI (by omega)]; omega), bnd_s, r.gc a (by omega), r.gm a (by omega), ln_g (by omega), nI_clamp (by omega), c1, c_cby w r hg]
            simp only [bnd_s]
            rw [c3 (60 + 11 * a) 3 (by omega) (by omega), r.gc a (by omega), nI_clamp (by omega), mset_ne (by omega), c3 (60 + 11 * a) 3 (by omega) (by omega), r.gc a (by omega), show (1 : Int32) = nI 1 from rfl, nI_add]
            rw [cnd_t (by rw [cnd_t (nI_lt hlt (by omega))])]
            rw [chk_t (by rw [vp_nI (by omega)]; omega), chk_t (by rw [vp_nI (by omega)]; omega), bnd_s, c_cov w' r' hb', bnd_s, r'.th, nx_and]
            exact congrArg (fun v => some (Sum.inl v, _)) (bc_s hi)
          · unfold fX8_addGlob fX8_addGlob_39
            rw [m_isT w s ha, cnd_t hb, mt_glob s.tx, cnd_t hg, bnd_s, cnd10, bnd_s, cnd10, nI_clamp (by omega), s.gc a (by omega), chk_t (by rw [vp_nI (by omega)]; omega)]
            simp only [li_0, li_1, li_4]
            rw [cnd_f (by rw [nI_eq (by omega) (by omega)]; exact hf), mset_eq, cnd_t (by decide), mset_ne (by omega), s.gc a (by omega), pk_mul, nI_add, m1, bnd_s]
            rw [m3 485 a (by omega) (by omega), mset_ne (by omega), s.gc a (by omega), nI_add, m_inp w' s' hb', bnd_s, m_count hi]
            simp (disch := omega) only [li_0, li_1, li_2, li_3, li_4, li_5, li_7, li_8, li_12, li_16, li_23, li_24, li_31, li_40, li_42, li_47, li_63, li_64, li_76, li_77, li_97, li_122, li_200, li_201, li_1000, li_1824, li_9999, li_16000, nI_add, nx_or, nx_and, pk_mul, nx_xor, nI_leI, nI_ltI, nI_eq, nI_clamp, vp_nI, px_sub, px_shl, px_shl2, px_shr2, px_bit, Bool.true_eq_false, Bool.false_eq_true, hol_0, hol_1, px_chr, chk, cnd_true, cnd_false, cnd_ite, bnd_s, nmv, exR, if_pos, if_neg, if_true, if_false, reduceIte, eq_self, not_true_eq_false, not_false_eq_true, show a < 16 by omega]
          · rw [mset_ne (by omega), m3 475 26 (by omega) (by omega)]
            exact mset_eq
      · refine ⟨C, mset M 475 26 (nI 2), σ, w, r, RM_thr s, Or.inr ⟨1, nI 0, ?_, ?_, mset_eq, by decide, by decide⟩⟩
        · unfold fX7_addGlob
          rw [c_hasT w r ha, cnd_t hb, c_rg r, cnd_f hg]
          rfl
        · unfold fX8_addGlob fX8_addGlob_39
          rw [m_isT w s ha, cnd_t hb, mt_glob s.tx, cnd_f hg]
          simp (disch := omega) only [li_0, li_1, li_2, li_3, li_4, li_5, li_7, li_8, li_12, li_16, li_23, li_24, li_31, li_40, li_42, li_47, li_63, li_64, li_76, li_77, li_97, li_122, li_200, li_201, li_1000, li_1824, li_9999, li_16000, nI_add, nx_or, nx_and, pk_mul, nx_xor, nI_leI, nI_ltI, nI_eq, nI_clamp, vp_nI, px_sub, px_shl, px_shl2, px_shr2, px_bit, Bool.true_eq_false, Bool.false_eq_true, hol_0, hol_1, px_chr, chk, cnd_true, cnd_false, cnd_ite, bnd_s, nmv, exR, if_pos, if_neg, if_true, if_false, reduceIte, eq_self, not_true_eq_false, not_false_eq_true, mset_eq]
    · exact bad1 (by rw [c_hasT w r ha, cnd_f hb]) (by rw [m_isT w s ha, cnd_f hb])
