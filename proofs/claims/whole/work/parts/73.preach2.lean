variable {ou : Int32}
theorem c_reach {C : Mem} {σ : Ab} (w : WF σ) (r : RC C σ) {S : Nat} (hS : S < 2 ^ σ.nt) : fX2_reachingDown C (nI S) = some (nI (σ.ups S)) := by
  have hn := w.nt
  have hU : σ.ups S < 2 ^ σ.nt := u2_lt hS σ.nt
  rw [← thm_ms hU]
  unfold fX2_reachingDown
  refine lp_for (fun i => (nI (msk (fun k => (σ.ups S).testBit k) i), nI i)) σ.nt (fun i hi => ?_) ?_
  · unfold fX2_reachingDown_4 fX2_reachingDown_28
    have h1 := lt16 hS hn
    have h3 : σ.d2 (2 ^ i) σ.nt &&& S < 65536 := Nat.lt_of_le_of_lt Nat.and_le_right h1
    have h4 := down_up w hS hi
    simp only [li_0, li_1]
    rw [r.nt, c_down w r hi, bnd_s, nx_and]
    by_cases c : (σ.ups S).testBit i = true
    · rw [msk_t (p := fun k => (σ.ups S).testBit k) c]
      simp (disch := omega) only [li_0, li_1, li_2, li_3, li_4, li_5, li_7, li_8, li_12, li_16, li_23, li_24, li_31, li_40, li_42, li_47, li_63, li_64, li_76, li_77, li_97, li_122, li_200, li_201, li_1000, li_1824, li_9999, li_16000, nI_add, nx_or, nx_and, pk_mul, nx_xor, nI_leI, nI_ltI, nI_eq, nI_clamp, vp_nI, px_sub, px_shl, px_shl2, px_shr2, px_bit, Bool.true_eq_false, Bool.false_eq_true, hol_0, hol_1, px_chr, chk, cnd_true, cnd_false, cnd_ite, bnd_s, nmv, exR, if_pos, if_neg, if_true, if_false, reduceIte, eq_self, not_true_eq_false, not_false_eq_true, h4.mpr c, Nat.one_mul]
    · rw [msk_f (p := fun k => (σ.ups S).testBit k) (by simpa using c)]
      have h5 : σ.d2 (2 ^ i) σ.nt &&& S = 0 := Classical.byContradiction fun q => c (h4.mp q)
      simp (disch := omega) only [li_0, li_1, li_2, li_3, li_4, li_5, li_7, li_8, li_12, li_16, li_23, li_24, li_31, li_40, li_42, li_47, li_63, li_64, li_76, li_77, li_97, li_122, li_200, li_201, li_1000, li_1824, li_9999, li_16000, nI_add, nx_or, nx_and, pk_mul, nx_xor, nI_leI, nI_ltI, nI_eq, nI_clamp, vp_nI, px_sub, px_shl, px_shl2, px_shr2, px_bit, Bool.true_eq_false, Bool.false_eq_true, hol_0, hol_1, px_chr, chk, cnd_true, cnd_false, cnd_ite, bnd_s, nmv, exR, if_pos, if_neg, if_true, if_false, reduceIte, eq_self, not_true_eq_false, not_false_eq_true, h5]
  · unfold fX2_reachingDown_4
    rw [r.nt, cnd_t (nI_le (Nat.le_refl _) (by omega))]
theorem op_affectedDown {C M : Mem} {σ : Ab} (w : WF σ) (r : RC C σ) (s : RM ou M σ) (x : Int32) : Opr ou wr_3 σ (fX7_affectedByGoingDown C x) (fX8_affectedByGoingDown M x) := by
  have hnf := w.nf
  have bad1 : fX7_requireFile C x = some (.inr 3) → fX8_isIn x 0 (M 475 2 - 1) = nI 0 → Opr ou wr_3 σ (fX7_affectedByGoingDown C x) (fX8_affectedByGoingDown M x) := by
    intro h1 h2
    refine ⟨mset M 475 26 (nI 1), RM_thr s, Or.inr ⟨3, nI 0, ?_, ?_, mset_eq, by decide, by decide⟩⟩
    · unfold fX7_affectedByGoingDown
      rw [h1]
      rfl
    · unfold fX8_affectedByGoingDown fX8_affectedByGoingDown_20
      rw [h2]
      simp (disch := omega) only [li_0, li_1, li_2, li_3, li_4, li_5, li_7, li_8, li_12, li_16, li_23, li_24, li_31, li_40, li_42, li_47, li_63, li_64, li_76, li_77, li_97, li_122, li_200, li_201, li_1000, li_1824, li_9999, li_16000, nI_add, nx_or, nx_and, pk_mul, nx_xor, nI_leI, nI_ltI, nI_eq, nI_clamp, vp_nI, px_sub, px_shl, px_shl2, px_shr2, px_bit, Bool.true_eq_false, Bool.false_eq_true, hol_0, hol_1, px_chr, chk, cnd_true, cnd_false, cnd_ite, bnd_s, nmv, exR, if_pos, if_neg, if_true, if_false, reduceIte, eq_self, not_true_eq_false, not_false_eq_true, mset_eq]
  rcases nI_cs x with hx | ⟨a, ha, rfl⟩
  · exact bad1 (c_rf0 C hx) (m_in0 hx _)
  · by_cases hb : a < σ.nf
    · refine ⟨mset M 475 26 (nI 0), RM_thr s, Or.inl ⟨nI (σ.ups (σ.cvs a)), ?_, ?_, mset_eq⟩⟩
      · unfold fX7_affectedByGoingDown
        rw [c_rf w r ha, cnd_t hb]
        simp only [bnd_s, sw]
        rw [c_cvs w r hb, bnd_s, c_reach w r (cvs_lt σ a), bnd_s]
      · unfold fX8_affectedByGoingDown fX8_affectedByGoingDown_20
        rw [s.nf, m_inS ha (by omega), cnd_t hb]
        simp (disch := omega) only [li_0, li_1, li_2, li_3, li_4, li_5, li_7, li_8, li_12, li_16, li_23, li_24, li_31, li_40, li_42, li_47, li_63, li_64, li_76, li_77, li_97, li_122, li_200, li_201, li_1000, li_1824, li_9999, li_16000, nI_add, nx_or, nx_and, pk_mul, nx_xor, nI_leI, nI_ltI, nI_eq, nI_clamp, vp_nI, px_sub, px_shl, px_shl2, px_shr2, px_bit, Bool.true_eq_false, Bool.false_eq_true, hol_0, hol_1, px_chr, chk, cnd_true, cnd_false, cnd_ite, bnd_s, nmv, exR, if_pos, if_neg, if_true, if_false, reduceIte, eq_self, not_true_eq_false, not_false_eq_true, mset_eq]
        rw [m_aff w (RM_thr s) hb, bnd_s]
    · exact bad1 (by rw [c_rf w r ha, cnd_f hb]) (by rw [s.nf, m_inS ha (by omega), cnd_f hb])
