variable {ou : Int32}
/-! keys: the reference -/
noncomputable def al (B : Prop) (R : Nat → Prop) (n : Nat) : Int32 := cnd (B ∧ ∀ k, k < n → R k) (nI 1) (nI 0)
theorem al_0 (B : Prop) (R : Nat → Prop) : al B R 0 = cnd B (nI 1) (nI 0) := by
  unfold al
  exact cnd_iff ⟨fun h => h.1, fun h => ⟨h, fun k hk => by omega⟩⟩
theorem al_t {B : Prop} {R : Nat → Prop} {n : Nat} (h : R n) : al B R n &&& nI 1 = al B R (n + 1) := by
  unfold al
  by_cases c : B ∧ ∀ k, k < n → R k
  · rw [cnd_t c, cnd_t]
    · rfl
    · refine ⟨c.1, fun k hk => ?_⟩
      by_cases e : k = n
      · rw [e]; exact h
      · exact c.2 k (by omega)
  · rw [cnd_f c, cnd_f]
    · rfl
    · exact fun q => c ⟨q.1, fun k hk => q.2 k (by omega)⟩
theorem al_f {B : Prop} {R : Nat → Prop} {n : Nat} (h : ¬ R n) : al B R n &&& nI 0 = al B R (n + 1) := by
  unfold al
  rw [cnd_f (p := B ∧ ∀ k, k < n + 1 → R k) (fun q => h (q.2 n (by omega)))]
  by_cases c : B ∧ ∀ k, k < n → R k
  · rw [cnd_t c]; rfl
  · rw [cnd_f c]; rfl
theorem nb_al (B : Prop) (R : Nat → Prop) (n : Nat) : narrow .boolean (.int (al B R n)) = .int (al B R n) := nb_cnd _
theorem al_e {B : Prop} {R : Nat → Prop} {n : Nat} {P : Prop} (h : (B ∧ ∀ k, k < n → R k) ↔ P) : al B R n = cnd P (nI 1) (nI 0) := cnd_iff h
theorem m_hin {M : Mem} {σ : Ab} {t i : Nat} (w : WF σ) (s : RM ou M σ) (hi : i < σ.nk) : fX8_hasInputs M (nI i) (nI (σ.inp t)) = some (cnd (σ.mti t i) (nI 1) (nI 0)) := by
  have hnf := w.nf
  have hnk := w.nk
  have hb := lt24 (inp_lt σ t) hnf
  have hb2 := lt24 (w.hd i hi) hnf
  have loop : ∀ B : Prop, lp (fX8_hasInputs_19 M (nI i) (nI (σ.inp t))) (cnd B (nI 1) (nI 0), (0 : Int32)) = some (al B (fun k => (σ.inp t).testBit k = true → M 492 (24 * i + k) = nI (σ.co k)) σ.nf) := by
    intro B
    rw [← al_0 B (fun k => (σ.inp t).testBit k = true → M 492 (24 * i + k) = nI (σ.co k))]
    refine lp_for (fun n => (al B (fun k => (σ.inp t).testBit k = true → M 492 (24 * i + k) = nI (σ.co k)) n, nI n)) σ.nf (fun k hk => ?_) ?_
    · unfold fX8_hasInputs_19 fX8_hasInputs_60 fX8_hasInputs_65
      simp only [li_0, li_1, li_24]
      rw [s.nf, pk_mul, nI_add, nI_add, nI_clamp (by omega), nI_clamp (by omega), s.co k hk]
      by_cases c : (σ.inp t).testBit k = true
      · by_cases c2 : M 492 (24 * i + k) = nI (σ.co k)
        · rw [← al_t (R := fun k => (σ.inp t).testBit k = true → M 492 (24 * i + k) = nI (σ.co k)) (fun _ => c2)]
          simp (disch := omega) only [li_0, li_1, li_2, li_3, li_4, li_5, li_7, li_8, li_12, li_16, li_23, li_24, li_31, li_40, li_42, li_47, li_63, li_64, li_76, li_77, li_97, li_122, li_200, li_201, li_1000, li_1824, li_9999, li_16000, nI_add, nx_or, nx_and, pk_mul, nx_xor, nI_leI, nI_ltI, nI_eq, nI_clamp, vp_nI, px_sub, px_shl, px_shl2, px_shr2, px_bit, Bool.true_eq_false, Bool.false_eq_true, hol_0, hol_1, px_chr, chk, cnd_true, cnd_false, cnd_ite, bnd_s, nmv, exR, if_pos, if_neg, if_true, if_false, reduceIte, eq_self, not_true_eq_false, not_false_eq_true, px_bit0, c, c2, show ¬ σ.nf ≤ k by omega, show 24 * i + k < 4800 by omega, show k < 24 by omega]
        · rw [← al_f (R := fun k => (σ.inp t).testBit k = true → M 492 (24 * i + k) = nI (σ.co k)) (fun q => c2 (q c))]
          simp (disch := omega) only [li_0, li_1, li_2, li_3, li_4, li_5, li_7, li_8, li_12, li_16, li_23, li_24, li_31, li_40, li_42, li_47, li_63, li_64, li_76, li_77, li_97, li_122, li_200, li_201, li_1000, li_1824, li_9999, li_16000, nI_add, nx_or, nx_and, pk_mul, nx_xor, nI_leI, nI_ltI, nI_eq, nI_clamp, vp_nI, px_sub, px_shl, px_shl2, px_shr2, px_bit, Bool.true_eq_false, Bool.false_eq_true, hol_0, hol_1, px_chr, chk, cnd_true, cnd_false, cnd_ite, bnd_s, nmv, exR, if_pos, if_neg, if_true, if_false, reduceIte, eq_self, not_true_eq_false, not_false_eq_true, px_bit0, c, c2, show ¬ σ.nf ≤ k by omega, show 24 * i + k < 4800 by omega, show k < 24 by omega]
      · rw [← al_t (R := fun k => (σ.inp t).testBit k = true → M 492 (24 * i + k) = nI (σ.co k)) (fun q => absurd q c)]
        simp (disch := omega) only [li_0, li_1, li_2, li_3, li_4, li_5, li_7, li_8, li_12, li_16, li_23, li_24, li_31, li_40, li_42, li_47, li_63, li_64, li_76, li_77, li_97, li_122, li_200, li_201, li_1000, li_1824, li_9999, li_16000, nI_add, nx_or, nx_and, pk_mul, nx_xor, nI_leI, nI_ltI, nI_eq, nI_clamp, vp_nI, px_sub, px_shl, px_shl2, px_shr2, px_bit, Bool.true_eq_false, Bool.false_eq_true, hol_0, hol_1, px_chr, chk, cnd_true, cnd_false, cnd_ite, bnd_s, nmv, exR, if_pos, if_neg, if_true, if_false, reduceIte, eq_self, not_true_eq_false, not_false_eq_true, px_bit0, c, show ¬ σ.nf ≤ k by omega]
    · unfold fX8_hasInputs_19
      rw [s.nf, cnd_t (nI_le (Nat.le_refl _) (by omega)), chk_t (nb_al _ _ _)]
  have fin : al (σ.hd i = σ.inp t) (fun k => (σ.inp t).testBit k = true → M 492 (24 * i + k) = nI (σ.co k)) σ.nf = cnd (σ.mti t i) (nI 1) (nI 0) := by
    refine al_e ⟨fun ⟨q1, q2⟩ => ⟨q1, fun k hk => ?_⟩, fun ⟨q1, q2⟩ => ⟨q1, fun k hk hb => ?_⟩⟩
    · have h1 := bit_le (inp_lt σ t) hk
      have h2 := q2 k h1 hk
      have h3 := w.co k h1
      have h4 := w.kc i k hi (by rw [q1]; exact hk)
      rw [s.kc i k hi (by rw [q1]; exact hk), nI_eq (by omega) (by omega)] at h2
      exact h2
    · rw [s.kc i k hi (by rw [q1]; exact hb), q2 k hb]
  unfold fX8_hasInputs fX8_hasInputs_15
  rw [nI_clamp (by omega), s.hd i hi, chk_t (by rw [vp_nI (by omega)]; omega), ← fin, ← loop]
  by_cases c : σ.hd i = σ.inp t
  · rw [cnd_t (p := σ.hd i = σ.inp t) c, cnd_t (by rw [c])]
    rfl
  · rw [cnd_f (p := σ.hd i = σ.inp t) c, cnd_f (by rw [nI_eq (by omega) (by omega)]; exact c)]
    rfl
theorem m_giv {M : Mem} {σ : Ab} {K : Nat → Nat} {t : Nat} (w : WF σ) (s : RM ou M σ) (ht : t < σ.nt) (hK : ∀ o, (σ.de t).testBit o = true → M 495 o = nI (K o) ∧ K o ≤ 200) : fX8_given M (nI t) = some (nI (σ.gvn K t σ.nk)) := by
  have hn := w.nt
  have hnk := w.nk
  have hd := lt16 (w.de t) hn
  unfold fX8_given
  rw [m_inp w s ht, bnd_s]
  refine lp_for (fun i => (nI (σ.gvn K t i), nI i)) σ.nk (fun i hi => ?_) ?_
  · have hle := lt16 (w.le i hi) hn
    have hwh := w.wh i hi
    have loop : ∀ B : Prop, fX8_given_62 M (nI t) (nI (σ.inp t)) (nI (σ.gvn K t i), nI i) (cnd B (nI 1) (nI 0)) = fX8_given_129 M (nI t) (nI (σ.inp t)) (nI (σ.gvn K t i), nI i) (al B (fun k => (σ.de t).testBit k = true → M 493 (16 * i + k) = M 495 k) σ.nt, nI σ.nt) := by
      intro B
      unfold fX8_given_62
      rw [← al_0 B (fun k => (σ.de t).testBit k = true → M 493 (16 * i + k) = M 495 k)]
      refine lp_for (fun n => (al B (fun k => (σ.de t).testBit k = true → M 493 (16 * i + k) = M 495 k) n, nI n)) σ.nt (fun k hk => ?_) ?_
      · unfold fX8_given_67 fX8_given_115 fX8_given_120
        simp only [li_0, li_1, li_16]
        rw [s.nt, nI_clamp (by omega), s.de t (by omega), pk_mul, nI_add, nI_add, nI_clamp (by omega), nI_clamp (by omega)]
        by_cases c : (σ.de t).testBit k = true
        · by_cases c2 : M 493 (16 * i + k) = M 495 k
          · rw [← al_t (R := fun k => (σ.de t).testBit k = true → M 493 (16 * i + k) = M 495 k) (fun _ => c2)]
            simp (disch := omega) only [li_0, li_1, li_2, li_3, li_4, li_5, li_7, li_8, li_12, li_16, li_23, li_24, li_31, li_40, li_42, li_47, li_63, li_64, li_76, li_77, li_97, li_122, li_200, li_201, li_1000, li_1824, li_9999, li_16000, nI_add, nx_or, nx_and, pk_mul, nx_xor, nI_leI, nI_ltI, nI_eq, nI_clamp, vp_nI, px_sub, px_shl, px_shl2, px_shr2, px_bit, Bool.true_eq_false, Bool.false_eq_true, hol_0, hol_1, px_chr, chk, cnd_true, cnd_false, cnd_ite, bnd_s, nmv, exR, if_pos, if_neg, if_true, if_false, reduceIte, eq_self, not_true_eq_false, not_false_eq_true, px_bit0, c, c2, show ¬ σ.nt ≤ k by omega, show 16 * i + k < 3200 by omega, show k < 16 by omega, show t < 16 by omega]
          · rw [← al_f (R := fun k => (σ.de t).testBit k = true → M 493 (16 * i + k) = M 495 k) (fun q => c2 (q c))]
            simp (disch := omega) only [li_0, li_1, li_2, li_3, li_4, li_5, li_7, li_8, li_12, li_16, li_23, li_24, li_31, li_40, li_42, li_47, li_63, li_64, li_76, li_77, li_97, li_122, li_200, li_201, li_1000, li_1824, li_9999, li_16000, nI_add, nx_or, nx_and, pk_mul, nx_xor, nI_leI, nI_ltI, nI_eq, nI_clamp, vp_nI, px_sub, px_shl, px_shl2, px_shr2, px_bit, Bool.true_eq_false, Bool.false_eq_true, hol_0, hol_1, px_chr, chk, cnd_true, cnd_false, cnd_ite, bnd_s, nmv, exR, if_pos, if_neg, if_true, if_false, reduceIte, eq_self, not_true_eq_false, not_false_eq_true, px_bit0, c, c2, show ¬ σ.nt ≤ k by omega, show 16 * i + k < 3200 by omega, show k < 16 by omega, show t < 16 by omega]
        · rw [← al_t (R := fun k => (σ.de t).testBit k = true → M 493 (16 * i + k) = M 495 k) (fun q => absurd q c)]
          simp (disch := omega) only [li_0, li_1, li_2, li_3, li_4, li_5, li_7, li_8, li_12, li_16, li_23, li_24, li_31, li_40, li_42, li_47, li_63, li_64, li_76, li_77, li_97, li_122, li_200, li_201, li_1000, li_1824, li_9999, li_16000, nI_add, nx_or, nx_and, pk_mul, nx_xor, nI_leI, nI_ltI, nI_eq, nI_clamp, vp_nI, px_sub, px_shl, px_shl2, px_shr2, px_bit, Bool.true_eq_false, Bool.false_eq_true, hol_0, hol_1, px_chr, chk, cnd_true, cnd_false, cnd_ite, bnd_s, nmv, exR, if_pos, if_neg, if_true, if_false, reduceIte, eq_self, not_true_eq_false, not_false_eq_true, px_bit0, c, show ¬ σ.nt ≤ k by omega, show t < 16 by omega]
      · unfold fX8_given_67
        rw [s.nt, cnd_t (nI_le (Nat.le_refl _) (by omega))]
    have red : fX8_given_11 M (nI t) (nI (σ.inp t)) (nI (σ.gvn K t i), nI i) = fX8_given_62 M (nI t) (nI (σ.inp t)) (nI (σ.gvn K t i), nI i) (cnd (σ.wh i = t ∧ σ.le i = σ.de t ∧ σ.mti t i) (nI 1) (nI 0)) := by
      unfold fX8_given_11 fX8_given_61
      simp only []
      rw [s.nk, nI_clamp (by omega), s.wh i hi, s.le i hi, nI_clamp (by omega), s.de t (by omega), m_hin w s hi, bnd_s]
      rw [cnd_f (nI_ge (by omega) (by omega)), chk_t (by rw [vp_nI (by omega)]; omega), chk_t (by rw [vp_nI (by omega)]; omega), chk_t (by rw [vp_nI (by omega)]; omega)]
      by_cases c1 : σ.wh i = t
      · rw [cnd_t (by rw [c1])]
        by_cases c2 : σ.le i = σ.de t
        · rw [cnd_t (by rw [c2])]
          by_cases c3 : σ.mti t i
          · rw [cnd_t c3, cnd10, cnd_t ⟨c1, c2, c3⟩]
            rfl
          · rw [cnd_f c3, cnd00, cnd_f (fun q => c3 q.2.2)]
            rfl
        · rw [cnd_f (by rw [nI_eq (by omega) (by omega)]; exact c2), cnd_f (fun q => c2 q.2.1)]
          rfl
      · rw [cnd_f (by rw [nI_eq (by omega) (by omega)]; exact c1), cnd_f (fun q => c1 q.1)]
        rfl
    show fX8_given_11 M (nI t) (nI (σ.inp t)) (nI (σ.gvn K t i), nI i) = _
    have fin : al (σ.wh i = t ∧ σ.le i = σ.de t ∧ σ.mti t i) (fun k => (σ.de t).testBit k = true → M 493 (16 * i + k) = M 495 k) σ.nt = cnd (σ.mtc K t i) (nI 1) (nI 0) := by
      refine al_e ⟨fun z => ⟨z.1.1, z.1.2.2, z.1.2.1, fun o ho => ?_⟩, fun z => ⟨⟨z.1, z.2.2.1, z.2.1⟩, fun o _ ho => ?_⟩⟩
      · have h1 := z.2 o (bit_le (w.de t) ho) ho
        have h2 := hK o ho
        have h3 := w.kb i o hi (by rw [z.1.2.1]; exact ho)
        rw [s.kb i o hi (by rw [z.1.2.1]; exact ho), h2.1, nI_eq (by omega) (by omega)] at h1
        exact h1
      · rw [s.kb i o hi (by rw [z.2.2.1]; exact ho), (hK o ho).1, z.2.2.2 o ho]
    rw [red, loop, fin]
    unfold fX8_given_129 fX8_given_142
    rw [show σ.gvn K t (i + 1) = cnd (σ.mtc K t i) (i + 1) (σ.gvn K t i) from rfl]
    by_cases c : σ.mtc K t i
    · rw [cnd_t c, cnd_t c]
      simp only [li_1]
      rw [cnd10, nI_add]
    · rw [cnd_f c, cnd_f c]
      simp only [li_1]
      rw [cnd00, nI_add]
  · unfold fX8_given_11
    rw [s.nk, cnd_t (nI_le (Nat.le_refl _) (by omega))]
theorem m_lay {M : Mem} {σ : Ab} (w : WF σ) (s : RM ou M σ) : ∃ M', fX8_laysKeys M = some M' ∧ RM ou M' σ ∧ (∀ t, t < σ.nt → M' 495 t = nI (σ.ky t)) ∧ (∀ p, p < σ.nt → M' 494 p = nI (σ.ord p)) ∧ ∀ k j, k ≠ 494 → k ≠ 495 → M' k j = M k j := by
  have hn := w.nt
  have hnk := w.nk
  obtain ⟨M0, c1, c2, c3, c4⟩ := m_ord w s
  have st : ∀ i, i ≤ σ.nt → ∃ M', lp fX8_laysKeys_6 (M0, (0 : Int32)) = lp fX8_laysKeys_6 (M', nI i) ∧ RM ou M' σ ∧ (∀ t, (σ.inn i).testBit t = true → M' 495 t = nI (σ.ky t)) ∧ ∀ k j, k ≠ 495 → M' k j = M0 k j := by
    intro i
    induction i with
    | zero =>
      intro _
      refine ⟨M0, rfl, c2, fun t ht => ?_, fun k j _ => rfl⟩
      rw [show σ.inn 0 = 0 from rfl, Nat.zero_testBit] at ht
      cases ht
    | succ i ih =>
      intro hi
      obtain ⟨M', e1, e2, e3, e4⟩ := ih (by omega)
      obtain ⟨o1, o2, o3⟩ := ord_s w (p := i) (by omega)
      have hd := lt16 (w.de (σ.ord i)) hn
      have hK : ∀ o, (σ.de (σ.ord i)).testBit o = true → M' 495 o = nI (σ.ky o) ∧ σ.ky o ≤ 200 := fun o ho => ⟨e3 o (o3 o ho), Nat.le_trans (ky_le w (bit_le (w.de _) ho)) hnk⟩
      refine ⟨mset M' 495 (σ.ord i) (nI (σ.ky (σ.ord i))), ?_, RM_scr e2 (by omega), fun t ht => ?_, fun k j hk => ?_⟩
      · rw [e1]
        refine lp_go ?_
        unfold fX8_laysKeys_6
        simp only [nmv]
        rw [e2.nt, nI_clamp (by omega), e4 494 i (by omega), c3 i (by omega), cnd_f (nI_ge (by omega) (by omega)), chk_t (by rw [vp_nI (by omega)]; omega)]
        have loop : lp (fX8_laysKeys_26 (M', nI i) (nI (σ.ord i))) ((1 : Int32), (0 : Int32)) = fX8_laysKeys_73 (al True (fun k => (σ.de (σ.ord i)).testBit k = true → 0 < σ.ky k) σ.nt, nI σ.nt) (M', nI i) (nI (σ.ord i)) := by
          rw [show ((1 : Int32), (0 : Int32)) = (fun n => (al True (fun k => (σ.de (σ.ord i)).testBit k = true → 0 < σ.ky k) n, nI n)) 0 by
            show _ = (al True _ 0, nI 0)
            rw [al_0, cnd_true]; rfl]
          refine lp_for (fun n => (al True (fun k => (σ.de (σ.ord i)).testBit k = true → 0 < σ.ky k) n, nI n)) σ.nt (fun k hk => ?_) ?_
          · unfold fX8_laysKeys_26 fX8_laysKeys_60 fX8_laysKeys_65
            simp only [li_0, li_1]
            rw [e2.nt, nI_clamp (by omega), e2.de (σ.ord i) (by omega), nI_clamp (by omega)]
            by_cases c : (σ.de (σ.ord i)).testBit k = true
            · have h1 := hK k c
              rw [h1.1]
              by_cases c2 : 0 < σ.ky k
              · rw [← al_t (R := fun k => (σ.de (σ.ord i)).testBit k = true → 0 < σ.ky k) (fun _ => c2)]
                simp (disch := omega) only [li_0, li_1, li_2, li_3, li_4, li_5, li_7, li_8, li_12, li_16, li_23, li_24, li_31, li_40, li_42, li_47, li_63, li_64, li_76, li_77, li_97, li_122, li_200, li_201, li_1000, li_1824, li_9999, li_16000, nI_add, nx_or, nx_and, pk_mul, nx_xor, nI_leI, nI_ltI, nI_eq, nI_clamp, vp_nI, px_sub, px_shl, px_shl2, px_shr2, px_bit, Bool.true_eq_false, Bool.false_eq_true, hol_0, hol_1, px_chr, chk, cnd_true, cnd_false, cnd_ite, bnd_s, nmv, exR, if_pos, if_neg, if_true, if_false, reduceIte, eq_self, not_true_eq_false, not_false_eq_true, px_bit0, c, show ¬ σ.ky k ≤ 0 by omega, show ¬ σ.nt ≤ k by omega, show k < 16 by omega, show σ.ord i < 16 by omega]
              · rw [← al_f (R := fun k => (σ.de (σ.ord i)).testBit k = true → 0 < σ.ky k) (fun q => c2 (q c))]
                simp (disch := omega) only [li_0, li_1, li_2, li_3, li_4, li_5, li_7, li_8, li_12, li_16, li_23, li_24, li_31, li_40, li_42, li_47, li_63, li_64, li_76, li_77, li_97, li_122, li_200, li_201, li_1000, li_1824, li_9999, li_16000, nI_add, nx_or, nx_and, pk_mul, nx_xor, nI_leI, nI_ltI, nI_eq, nI_clamp, vp_nI, px_sub, px_shl, px_shl2, px_shr2, px_bit, Bool.true_eq_false, Bool.false_eq_true, hol_0, hol_1, px_chr, chk, cnd_true, cnd_false, cnd_ite, bnd_s, nmv, exR, if_pos, if_neg, if_true, if_false, reduceIte, eq_self, not_true_eq_false, not_false_eq_true, px_bit0, c, show σ.ky k ≤ 0 by omega, show ¬ σ.nt ≤ k by omega, show k < 16 by omega, show σ.ord i < 16 by omega]
            · rw [← al_t (R := fun k => (σ.de (σ.ord i)).testBit k = true → 0 < σ.ky k) (fun q => absurd q c)]
              simp (disch := omega) only [li_0, li_1, li_2, li_3, li_4, li_5, li_7, li_8, li_12, li_16, li_23, li_24, li_31, li_40, li_42, li_47, li_63, li_64, li_76, li_77, li_97, li_122, li_200, li_201, li_1000, li_1824, li_9999, li_16000, nI_add, nx_or, nx_and, pk_mul, nx_xor, nI_leI, nI_ltI, nI_eq, nI_clamp, vp_nI, px_sub, px_shl, px_shl2, px_shr2, px_bit, Bool.true_eq_false, Bool.false_eq_true, hol_0, hol_1, px_chr, chk, cnd_true, cnd_false, cnd_ite, bnd_s, nmv, exR, if_pos, if_neg, if_true, if_false, reduceIte, eq_self, not_true_eq_false, not_false_eq_true, px_bit0, c, show ¬ σ.nt ≤ k by omega, show k < 16 by omega, show σ.ord i < 16 by omega]
          · unfold fX8_laysKeys_26
            show cnd (M' 475 9 ≤ nI σ.nt) _ _ = _
            rw [e2.nt, cnd_t (nI_le (Nat.le_refl _) (by omega))]
        have fin : al True (fun k => (σ.de (σ.ord i)).testBit k = true → 0 < σ.ky k) σ.nt = cnd (σ.rdy σ.ky (σ.ord i)) (nI 1) (nI 0) := al_e ⟨fun q o ho => q.2 o (bit_le (w.de _) ho) ho, fun q => ⟨trivial, fun o _ ho => q o ho⟩⟩
        rw [loop, fin, ky_ord w (by omega)]
        unfold fX8_laysKeys_73 fX8_laysKeys_91
        simp only [li_0, li_1]
        rw [m_giv w e2 o1 hK, bnd_s]
        unfold Ab.kn
        by_cases c : σ.rdy σ.ky (σ.ord i)
        · rw [cnd_t c, cnd_t c]
          simp (disch := omega) only [li_0, li_1, li_2, li_3, li_4, li_5, li_7, li_8, li_12, li_16, li_23, li_24, li_31, li_40, li_42, li_47, li_63, li_64, li_76, li_77, li_97, li_122, li_200, li_201, li_1000, li_1824, li_9999, li_16000, nI_add, nx_or, nx_and, pk_mul, nx_xor, nI_leI, nI_ltI, nI_eq, nI_clamp, vp_nI, px_sub, px_shl, px_shl2, px_shr2, px_bit, Bool.true_eq_false, Bool.false_eq_true, hol_0, hol_1, px_chr, chk, cnd_true, cnd_false, cnd_ite, bnd_s, nmv, exR, if_pos, if_neg, if_true, if_false, reduceIte, eq_self, not_true_eq_false, not_false_eq_true, show σ.ord i < 16 by omega]
        · rw [cnd_f c, cnd_f c]
          simp (disch := omega) only [li_0, li_1, li_2, li_3, li_4, li_5, li_7, li_8, li_12, li_16, li_23, li_24, li_31, li_40, li_42, li_47, li_63, li_64, li_76, li_77, li_97, li_122, li_200, li_201, li_1000, li_1824, li_9999, li_16000, nI_add, nx_or, nx_and, pk_mul, nx_xor, nI_leI, nI_ltI, nI_eq, nI_clamp, vp_nI, px_sub, px_shl, px_shl2, px_shr2, px_bit, Bool.true_eq_false, Bool.false_eq_true, hol_0, hol_1, px_chr, chk, cnd_true, cnd_false, cnd_ite, bnd_s, nmv, exR, if_pos, if_neg, if_true, if_false, reduceIte, eq_self, not_true_eq_false, not_false_eq_true, show σ.ord i < 16 by omega]
      · by_cases q : t = σ.ord i
        · rw [q, mset_eq]
        · rw [mset_ne (by omega)]
          rcases (inn_o σ i t).mp ht with h | h
          · exact e3 t h
          · exact absurd h q
      · rw [mset_ne (by omega)]; exact e4 k j hk
  obtain ⟨M', e1, e2, e3, e4⟩ := st σ.nt (Nat.le_refl _)
  refine ⟨M', ?_, e2, fun t ht => e3 t (inn_all w ht), fun p hp => by rw [e4 494 p (by omega)]; exact c3 p hp, fun k j h1 h2 => by rw [e4 k j h2]; exact c4 k j h1⟩
  unfold fX8_laysKeys
  rw [c1, bnd_s, e1]
  refine lp_exq ?_
  unfold fX8_laysKeys_6
  show cnd (M' 475 9 ≤ nI σ.nt) (exR (some M')) _ = _
  rw [e2.nt, cnd_t (nI_le (Nat.le_refl _) (by omega))]
theorem m_need {M : Mem} {σ : Ab} (w : WF σ) (s : RM ou M σ) : ∃ M', fX8_neededNow M = some (nI σ.nee, M') ∧ RM ou M' σ ∧ (∀ t, t < σ.nt → M' 495 t = nI (σ.ky t)) ∧ (∀ p, p < σ.nt → M' 494 p = nI (σ.ord p)) ∧ ∀ k j, k ≠ 494 → k ≠ 495 → M' k j = M k j := by
  have hn := w.nt
  have hnk := w.nk
  obtain ⟨M', e1, e2, e3, e4, e5⟩ := m_lay w s
  refine ⟨M', ?_, e2, e3, e4, e5⟩
  unfold fX8_neededNow Ab.nee
  rw [e1, bnd_s]
  refine lp_for (fun i => (nI (msk (fun t => decide (σ.ky t = 0)) i), nI i)) σ.nt (fun i hi => ?_) ?_
  · unfold fX8_neededNow_8 fX8_neededNow_33
    have hk := ky_le w hi
    simp only [li_0, li_1]
    rw [e2.nt, nI_clamp (by omega), e3 i hi]
    by_cases c : σ.ky i = 0
    · rw [msk_t (p := fun t => decide (σ.ky t = 0)) (by simp [c]), c]
      simp (disch := omega) only [li_0, li_1, li_2, li_3, li_4, li_5, li_7, li_8, li_12, li_16, li_23, li_24, li_31, li_40, li_42, li_47, li_63, li_64, li_76, li_77, li_97, li_122, li_200, li_201, li_1000, li_1824, li_9999, li_16000, nI_add, nx_or, nx_and, pk_mul, nx_xor, nI_leI, nI_ltI, nI_eq, nI_clamp, vp_nI, px_sub, px_shl, px_shl2, px_shr2, px_bit, Bool.true_eq_false, Bool.false_eq_true, hol_0, hol_1, px_chr, chk, cnd_true, cnd_false, cnd_ite, bnd_s, nmv, exR, if_pos, if_neg, if_true, if_false, reduceIte, eq_self, not_true_eq_false, not_false_eq_true, Nat.one_mul, show i < 16 by omega, show ¬ σ.nt ≤ i by omega]
    · rw [msk_f (p := fun t => decide (σ.ky t = 0)) (by simp [c])]
      simp (disch := omega) only [li_0, li_1, li_2, li_3, li_4, li_5, li_7, li_8, li_12, li_16, li_23, li_24, li_31, li_40, li_42, li_47, li_63, li_64, li_76, li_77, li_97, li_122, li_200, li_201, li_1000, li_1824, li_9999, li_16000, nI_add, nx_or, nx_and, pk_mul, nx_xor, nI_leI, nI_ltI, nI_eq, nI_clamp, vp_nI, px_sub, px_shl, px_shl2, px_shr2, px_bit, Bool.true_eq_false, Bool.false_eq_true, hol_0, hol_1, px_chr, chk, cnd_true, cnd_false, cnd_ite, bnd_s, nmv, exR, if_pos, if_neg, if_true, if_false, reduceIte, eq_self, not_true_eq_false, not_false_eq_true, c, Nat.or_zero, show i < 16 by omega, show ¬ σ.nt ≤ i by omega]
  · unfold fX8_neededNow_8
    rw [e2.nt, cnd_t (nI_le (Nat.le_refl _) (by omega))]
