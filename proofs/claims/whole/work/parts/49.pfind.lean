variable {ou : Int32}
/-! the file whose path is the text -/
def smt (n : Nat) (f : Nat → Nat) (m : Nat) (g : Nat → Nat) : Prop := n = m ∧ ∀ x, x < m → f x = g x
theorem tx_same {C : Mem} {o p n m : Nat} {f g : Nat → Nat} (h : TV C o n f) (hg : TV C p m g) : fX6_isSameAs C o p = some (cnd (smt n f m g) (nI 1) (nI 0)) := by
  have hn := h.2.1
  have hm := hg.2.1
  unfold fX6_isSameAs smt
  simp only [li_0]
  rw [h.1, hg.1]
  by_cases c : n = m
  · subst c
    rw [cnd_t rfl]
    have e : lp (fX6_isSameAs_15 C o p) (nI 0) = cnd (∃ i, i < n ∧ f i ≠ g i) (some (nI 0)) (some (nI 1)) := by
      refine lp_find (fun i => nI i) n (fun i => f i ≠ g i) (fun i hi hp => ?_) (fun i hi hp => ?_) ?_
      · unfold fX6_isSameAs_15
        have c2 : f i = g i := Classical.byContradiction hp
        have g1 := (h.2.2 i hi).2
        simp only [li_1, li_0]
        rw [h.1, nI_clamp (by omega), (h.2.2 i hi).1, (hg.2.2 i hi).1, ← c2]
        simp (disch := omega) only [li_0, li_1, li_2, li_3, li_4, li_5, li_7, li_8, li_12, li_16, li_23, li_24, li_31, li_40, li_42, li_47, li_63, li_64, li_76, li_77, li_97, li_122, li_200, li_201, li_1000, li_1824, li_9999, li_16000, nI_add, nx_or, nx_and, pk_mul, nx_xor, nI_leI, nI_ltI, nI_eq, nI_clamp, vp_nI, px_sub, px_shl, px_shl2, px_shr2, px_bit, Bool.true_eq_false, Bool.false_eq_true, hol_0, hol_1, px_chr, chk, cnd_true, cnd_false, cnd_ite, bnd_s, nmv, exR, if_pos, if_neg, if_true, if_false, reduceIte, eq_self, not_true_eq_false, not_false_eq_true]
      · unfold fX6_isSameAs_15
        have g1 := (h.2.2 i hi).2
        have g2 := (hg.2.2 i hi).2
        simp only [li_1, li_0]
        rw [h.1, nI_clamp (by omega), (h.2.2 i hi).1, (hg.2.2 i hi).1]
        simp (disch := omega) only [li_0, li_1, li_2, li_3, li_4, li_5, li_7, li_8, li_12, li_16, li_23, li_24, li_31, li_40, li_42, li_47, li_63, li_64, li_76, li_77, li_97, li_122, li_200, li_201, li_1000, li_1824, li_9999, li_16000, nI_add, nx_or, nx_and, pk_mul, nx_xor, nI_leI, nI_ltI, nI_eq, nI_clamp, vp_nI, px_sub, px_shl, px_shl2, px_shr2, px_bit, Bool.true_eq_false, Bool.false_eq_true, hol_0, hol_1, px_chr, chk, cnd_true, cnd_false, cnd_ite, bnd_s, nmv, exR, if_pos, if_neg, if_true, if_false, reduceIte, eq_self, not_true_eq_false, not_false_eq_true, hp]
      · unfold fX6_isSameAs_15
        simp only [li_1, li_0]
        rw [h.1]
        simp (disch := omega) only [li_0, li_1, li_2, li_3, li_4, li_5, li_7, li_8, li_12, li_16, li_23, li_24, li_31, li_40, li_42, li_47, li_63, li_64, li_76, li_77, li_97, li_122, li_200, li_201, li_1000, li_1824, li_9999, li_16000, nI_add, nx_or, nx_and, pk_mul, nx_xor, nI_leI, nI_ltI, nI_eq, nI_clamp, vp_nI, px_sub, px_shl, px_shl2, px_shr2, px_bit, Bool.true_eq_false, Bool.false_eq_true, hol_0, hol_1, px_chr, chk, cnd_true, cnd_false, cnd_ite, bnd_s, nmv, exR, if_pos, if_neg, if_true, if_false, reduceIte, eq_self, not_true_eq_false, not_false_eq_true]
    rw [e]
    by_cases c3 : ∃ i, i < n ∧ f i ≠ g i
    · rw [cnd_t c3, cnd_f]
      obtain ⟨i, i1, i2⟩ := c3
      exact fun q => i2 (q.2 i i1)
    · rw [cnd_f c3, cnd_t]
      exact ⟨rfl, fun x hx => Classical.byContradiction fun q => c3 ⟨x, hx, q⟩⟩
  · rw [cnd_f (by rw [nI_eq (by omega) (by omega)]; exact c), cnd_f (fun q => c q.1)]
def Ab.sm (σ : Ab) (k : Nat) : Prop := smt (σ.pn k) (σ.pf k) σ.tn σ.tf
/-- the file whose path is the text, or -1 -/
noncomputable def Ab.fo (σ : Ab) : Nat → Nat
  | 0 => 4294967295
  | i + 1 => cnd (σ.sm i) i (Ab.fo σ i)
theorem fo_lt (σ : Ab) : ∀ i, σ.fo i < i ∧ σ.sm (σ.fo i) ∨ σ.fo i = 4294967295 ∧ ∀ k, k < i → ¬ σ.sm k
  | 0 => Or.inr ⟨rfl, fun k hk => by omega⟩
  | i + 1 => by
    unfold Ab.fo
    by_cases c : σ.sm i
    · rw [cnd_t c]
      exact Or.inl ⟨by omega, c⟩
    · rw [cnd_f c]
      rcases fo_lt σ i with ⟨h1, h2⟩ | ⟨h1, h2⟩
      · exact Or.inl ⟨by omega, h2⟩
      · refine Or.inr ⟨h1, fun k hk => ?_⟩
        by_cases e : k = i
        · subst e; exact c
        · exact h2 k (by omega)
theorem sm_u {σ : Ab} (w : WF σ) {i j : Nat} (hi : i < σ.nf) (hj : j < σ.nf) (h1 : σ.sm i) (h2 : σ.sm j) : i = j := by
  have key : ∀ a b, a < b → b < σ.nf → σ.sm a → σ.sm b → False := by
    intro a b hab hb ha hb2
    refine w.pd a b hab hb ⟨ha.1.trans hb2.1.symm, fun x hx => ?_⟩
    rw [hb2.1] at hx
    rw [ha.2 x hx, hb2.2 x hx]
  rcases Nat.lt_trichotomy i j with h | h | h
  · exact (key i j h hj h1 h2).elim
  · exact h
  · exact (key j i h hi h2 h1).elim
theorem c_no {C : Mem} {σ : Ab} (w : WF σ) (r : RC C σ) : fX0_numberOf C 1 = some (nI (σ.fo σ.nf)) := by
  have hn := w.nf
  unfold fX0_numberOf
  have h := lp_first (it := fX0_numberOf_2 C 1) (fun i => nI i) σ.nf (fun i => σ.sm i) (oY := fun i => some (nI i)) (oN := some (nI 4294967295)) (fun i hi hp => ?_) (fun i hi hp => ?_) ?_
  · rcases h with ⟨i, hi, hp, _, e⟩ | ⟨hp, e⟩
    · rw [show (0 : Int32) = nI 0 from rfl, e]
      rcases fo_lt σ σ.nf with ⟨h1, h2⟩ | ⟨h1, h2⟩
      · rw [sm_u w hi h1 hp h2]
      · exact absurd hp (h2 i hi)
    · rw [show (0 : Int32) = nI 0 from rfl, e]
      rcases fo_lt σ σ.nf with ⟨h1, h2⟩ | ⟨h1, h2⟩
      · exact absurd h2 (hp _ h1)
      · rw [h1]
  · unfold fX0_numberOf_2
    simp only [li_1, li_0]
    rw [r.nf, nI_clamp (by omega), tx_same (r.px i hi) r.tx, cnd_f (show ¬ smt (σ.pn i) (σ.pf i) σ.tn σ.tf from hp)]
    simp (disch := omega) only [li_0, li_1, li_2, li_3, li_4, li_5, li_7, li_8, li_12, li_16, li_23, li_24, li_31, li_40, li_42, li_47, li_63, li_64, li_76, li_77, li_97, li_122, li_200, li_201, li_1000, li_1824, li_9999, li_16000, nI_add, nx_or, nx_and, pk_mul, nx_xor, nI_leI, nI_ltI, nI_eq, nI_clamp, vp_nI, px_sub, px_shl, px_shl2, px_shr2, px_bit, Bool.true_eq_false, Bool.false_eq_true, hol_0, hol_1, px_chr, chk, cnd_true, cnd_false, cnd_ite, bnd_s, nmv, exR, if_pos, if_neg, if_true, if_false, reduceIte, eq_self, not_true_eq_false, not_false_eq_true]
  · unfold fX0_numberOf_2
    simp only [li_1, li_0]
    rw [r.nf, nI_clamp (by omega), tx_same (r.px i hi) r.tx, cnd_t (show smt (σ.pn i) (σ.pf i) σ.tn σ.tf from hp)]
    simp (disch := omega) only [li_0, li_1, li_2, li_3, li_4, li_5, li_7, li_8, li_12, li_16, li_23, li_24, li_31, li_40, li_42, li_47, li_63, li_64, li_76, li_77, li_97, li_122, li_200, li_201, li_1000, li_1824, li_9999, li_16000, nI_add, nx_or, nx_and, pk_mul, nx_xor, nI_leI, nI_ltI, nI_eq, nI_clamp, vp_nI, px_sub, px_shl, px_shl2, px_shr2, px_bit, Bool.true_eq_false, Bool.false_eq_true, hol_0, hol_1, px_chr, chk, cnd_true, cnd_false, cnd_ite, bnd_s, nmv, exR, if_pos, if_neg, if_true, if_false, reduceIte, eq_self, not_true_eq_false, not_false_eq_true]
  · unfold fX0_numberOf_2
    rw [li_m1, r.nf, cnd_t (nI_le (Nat.le_refl _) (by omega))]
theorem m_fo {M : Mem} {σ : Ab} (w : WF σ) (r : RM ou M σ) : fX8_fileOf M = some (nI (σ.fo σ.nf)) := by
  have hn := w.nf
  have ht := r.tx.2.1
  unfold fX8_fileOf
  rw [li_m1]
  refine lp_for (fun i => (nI (σ.fo i), nI i)) σ.nf (fun i hi => ?_) ?_
  · have hp := r.px i hi
    have hpn := hp.2.1
    have inner : ∀ b : Bool, b = @decide (σ.pn i = σ.tn) (Classical.propDecidable _) → fX8_fileOf_33 M (nI (σ.fo i), nI i) (nI (if b then 1 else 0)) = some (.inl (nI (σ.fo (i + 1)), nI (i + 1))) := by
      intro b hb
      unfold fX8_fileOf_33
      by_cases c : σ.pn i = σ.tn
      · have hb1 : b = true := by rw [hb]; exact @decide_eq_true _ (Classical.propDecidable _) c
        rw [hb1, if_pos rfl]
        have step : ∀ k, k < σ.pn i → fX8_fileOf_37 M (nI (σ.fo i), nI i) (nI 1, nI k) = some (.inl (nI (if σ.pf i k = σ.tf k then 1 else 0), nI (k + 1))) := by
          intro k hk
          unfold fX8_fileOf_37 fX8_fileOf_83
          have g1 := (hp.2.2 k hk).2
          have g2 := (r.tx.2.2 k (by omega)).2
          simp only [li_1, li_0, li_24, li_1824]
          rw [pk_mul, nI_add, nI_add, nI_clamp (by omega), nI_clamp (by omega), nI_clamp (by omega), (hp.2.2 k hk).1, hp.1, show 1824 + k = 24 * 76 + k by omega, (r.tx.2.2 k (by omega)).1]
          by_cases c2 : σ.pf i k = σ.tf k
          · simp (disch := omega) only [li_0, li_1, li_2, li_3, li_4, li_5, li_7, li_8, li_12, li_16, li_23, li_24, li_31, li_40, li_42, li_47, li_63, li_64, li_76, li_77, li_97, li_122, li_200, li_201, li_1000, li_1824, li_9999, li_16000, nI_add, nx_or, nx_and, pk_mul, nx_xor, nI_leI, nI_ltI, nI_eq, nI_clamp, vp_nI, px_sub, px_shl, px_shl2, px_shr2, px_bit, Bool.true_eq_false, Bool.false_eq_true, hol_0, hol_1, px_chr, chk, cnd_true, cnd_false, cnd_ite, bnd_s, nmv, exR, if_pos, if_neg, if_true, if_false, reduceIte, eq_self, not_true_eq_false, not_false_eq_true, c2]
          · simp (disch := omega) only [li_0, li_1, li_2, li_3, li_4, li_5, li_7, li_8, li_12, li_16, li_23, li_24, li_31, li_40, li_42, li_47, li_63, li_64, li_76, li_77, li_97, li_122, li_200, li_201, li_1000, li_1824, li_9999, li_16000, nI_add, nx_or, nx_and, pk_mul, nx_xor, nI_leI, nI_ltI, nI_eq, nI_clamp, vp_nI, px_sub, px_shl, px_shl2, px_shr2, px_bit, Bool.true_eq_false, Bool.false_eq_true, hol_0, hol_1, px_chr, chk, cnd_true, cnd_false, cnd_ite, bnd_s, nmv, exR, if_pos, if_neg, if_true, if_false, reduceIte, eq_self, not_true_eq_false, not_false_eq_true, c2]
        by_cases c3 : ∃ k, k < σ.pn i ∧ σ.pf i k ≠ σ.tf k
        · obtain ⟨k, ⟨k1, k2⟩, k3⟩ := pk_least (fun k => k < σ.pn i ∧ σ.pf i k ≠ σ.tf k) c3
          rw [show (0 : Int32) = nI 0 from rfl, lp_fr (fun k => (nI 1, nI k)) k (fun j hj => by
            show fX8_fileOf_37 M (nI (σ.fo i), nI i) (nI 1, nI j) = _
            rw [step j (by omega), if_pos (Classical.byContradiction fun q => k3 j hj ⟨by omega, q⟩)]), lp_go (step k k1), if_neg k2]
          refine lp_exq ?_
          unfold fX8_fileOf_37 fX8_fileOf_90 fX8_fileOf_99
          rw [show σ.fo (i + 1) = σ.fo i from cnd_f (fun q => k2 (q.2 k (by omega)))]
          simp (disch := omega) only [li_0, li_1, li_2, li_3, li_4, li_5, li_7, li_8, li_12, li_16, li_23, li_24, li_31, li_40, li_42, li_47, li_63, li_64, li_76, li_77, li_97, li_122, li_200, li_201, li_1000, li_1824, li_9999, li_16000, nI_add, nx_or, nx_and, pk_mul, nx_xor, nI_leI, nI_ltI, nI_eq, nI_clamp, vp_nI, px_sub, px_shl, px_shl2, px_shr2, px_bit, Bool.true_eq_false, Bool.false_eq_true, hol_0, hol_1, px_chr, chk, cnd_true, cnd_false, cnd_ite, bnd_s, nmv, exR, if_pos, if_neg, if_true, if_false, reduceIte, eq_self, not_true_eq_false, not_false_eq_true]
        · rw [show (0 : Int32) = nI 0 from rfl, lp_fr (fun k => (nI 1, nI k)) (σ.pn i) (fun j hj => by
            show fX8_fileOf_37 M (nI (σ.fo i), nI i) (nI 1, nI j) = _
            rw [step j hj, if_pos (Classical.byContradiction fun q => c3 ⟨j, hj, q⟩)])]
          refine lp_exq ?_
          unfold fX8_fileOf_37 fX8_fileOf_90 fX8_fileOf_99
          rw [show σ.fo (i + 1) = i from cnd_t ⟨c, fun x hx => Classical.byContradiction fun q => c3 ⟨x, by omega, q⟩⟩]
          simp only [li_1, li_0]
          rw [nI_clamp (by omega), hp.1]
          simp (disch := omega) only [li_0, li_1, li_2, li_3, li_4, li_5, li_7, li_8, li_12, li_16, li_23, li_24, li_31, li_40, li_42, li_47, li_63, li_64, li_76, li_77, li_97, li_122, li_200, li_201, li_1000, li_1824, li_9999, li_16000, nI_add, nx_or, nx_and, pk_mul, nx_xor, nI_leI, nI_ltI, nI_eq, nI_clamp, vp_nI, px_sub, px_shl, px_shl2, px_shr2, px_bit, Bool.true_eq_false, Bool.false_eq_true, hol_0, hol_1, px_chr, chk, cnd_true, cnd_false, cnd_ite, bnd_s, nmv, exR, if_pos, if_neg, if_true, if_false, reduceIte, eq_self, not_true_eq_false, not_false_eq_true]
      · have hb1 : b = false := by rw [hb]; exact @decide_eq_false _ (Classical.propDecidable _) c
        rw [hb1, if_neg (by decide)]
        refine lp_exq ?_
        unfold fX8_fileOf_37 fX8_fileOf_90 fX8_fileOf_99
        rw [show σ.fo (i + 1) = σ.fo i from cnd_f (fun q => c q.1)]
        simp (disch := omega) only [li_0, li_1, li_2, li_3, li_4, li_5, li_7, li_8, li_12, li_16, li_23, li_24, li_31, li_40, li_42, li_47, li_63, li_64, li_76, li_77, li_97, li_122, li_200, li_201, li_1000, li_1824, li_9999, li_16000, nI_add, nx_or, nx_and, pk_mul, nx_xor, nI_leI, nI_ltI, nI_eq, nI_clamp, vp_nI, px_sub, px_shl, px_shl2, px_shr2, px_bit, Bool.true_eq_false, Bool.false_eq_true, hol_0, hol_1, px_chr, chk, cnd_true, cnd_false, cnd_ite, bnd_s, nmv, exR, if_pos, if_neg, if_true, if_false, reduceIte, eq_self, not_true_eq_false, not_false_eq_true]
    unfold fX8_fileOf_4
    simp only [li_1, li_0, li_76]
    rw [r.nf, nI_clamp (by omega), nI_clamp (by decide), hp.1, r.tx.1]
    rw [cnd_f (nI_ge (by omega) (by omega)), chk_t (by rw [vp_nI (by omega)]; omega), chk_t (by rw [vp_nI (by omega)]; omega)]
    by_cases c : σ.pn i = σ.tn
    · rw [cnd_t (by rw [c])]
      exact inner true (@decide_eq_true _ (Classical.propDecidable _) c).symm
    · rw [cnd_f (by rw [nI_eq (by omega) (by omega)]; exact c)]
      exact inner false (@decide_eq_false _ (Classical.propDecidable _) c).symm
  · unfold fX8_fileOf_4
    rw [r.nf, cnd_t (nI_le (Nat.le_refl _) (by omega))]
