variable {ou : Int32}
/-! changed, ownerOf, reviewers -/
def Ab.ch (σ : Ab) (k : Nat) : Bool := (σ.th.testBit k != σ.mt.testBit k) || (σ.th.testBit k && decide (σ.co k ≠ σ.mc k))
def Ab.chs (σ : Ab) : Nat := msk σ.ch σ.nf
theorem mt_lt {σ : Ab} (w : WF σ) : σ.mt < 16777216 := lt24 w.mt w.nf
theorem c_since {C : Mem} {σ : Ab} (w : WF σ) (r : RC C σ) : fX0_sinceMark C = some (nI σ.chs) := by
  have hn := w.nf
  have h1 := th_lt w
  have h2 := mt_lt w
  have h3 : (σ.th &&& σ.mt) < 16777216 := Nat.lt_of_le_of_lt Nat.and_le_left h1
  unfold fX0_sinceMark
  simp only [nmv]
  rw [r.th, r.mt, nx_xor]
  rw [show (nI (σ.th ^^^ σ.mt), (0 : Int32)) = (fun i => (nI ((σ.th ^^^ σ.mt) ||| msk (fun k => (σ.th &&& σ.mt).testBit k && decide (σ.co k ≠ σ.mc k)) i), nI i)) 0 by
    show _ = (nI ((σ.th ^^^ σ.mt) ||| 0), nI 0)
    rw [Nat.or_zero]; rfl]
  refine lp_for (fun i => (nI ((σ.th ^^^ σ.mt) ||| msk (fun k => (σ.th &&& σ.mt).testBit k && decide (σ.co k ≠ σ.mc k)) i), nI i)) σ.nf (fun i hi => ?_) ?_
  · unfold fX0_sinceMark_12 fX0_sinceMark_57
    simp only [li_0, li_1]
    rw [r.nf, r.th, r.mt, nx_and, nI_clamp (by omega), r.co i hi]
    have hc := w.co i hi
    by_cases c1 : (σ.th &&& σ.mt).testBit i = true
    · have c3 : σ.mt.testBit i = true := by
        rw [Nat.testBit_and, Bool.and_eq_true] at c1
        exact c1.2
      have hm := w.mc i c3
      rw [r.mc i c3]
      by_cases c2 : σ.co i = σ.mc i
      · rw [msk_f (p := fun k => (σ.th &&& σ.mt).testBit k && decide (σ.co k ≠ σ.mc k)) (by simp [c2])]
        simp (disch := omega) only [li_0, li_1, li_2, li_3, li_4, li_5, li_7, li_8, li_12, li_16, li_23, li_24, li_31, li_40, li_42, li_47, li_63, li_64, li_76, li_77, li_97, li_122, li_200, li_201, li_1000, li_1824, li_9999, li_16000, nI_add, nx_or, nx_and, pk_mul, nx_xor, nI_leI, nI_ltI, nI_eq, nI_clamp, vp_nI, px_sub, px_shl, px_shl2, px_shr2, px_bit, Bool.true_eq_false, Bool.false_eq_true, hol_0, hol_1, px_chr, chk, cnd_true, cnd_false, cnd_ite, bnd_s, nmv, exR, if_pos, if_neg, if_true, if_false, reduceIte, eq_self, not_true_eq_false, not_false_eq_true, c1, c2]
      · rw [msk_t (p := fun k => (σ.th &&& σ.mt).testBit k && decide (σ.co k ≠ σ.mc k)) (by rw [c1]; simp [c2]), ← Nat.or_assoc]
        simp (disch := omega) only [li_0, li_1, li_2, li_3, li_4, li_5, li_7, li_8, li_12, li_16, li_23, li_24, li_31, li_40, li_42, li_47, li_63, li_64, li_76, li_77, li_97, li_122, li_200, li_201, li_1000, li_1824, li_9999, li_16000, nI_add, nx_or, nx_and, pk_mul, nx_xor, nI_leI, nI_ltI, nI_eq, nI_clamp, vp_nI, px_sub, px_shl, px_shl2, px_shr2, px_bit, Bool.true_eq_false, Bool.false_eq_true, hol_0, hol_1, px_chr, chk, cnd_true, cnd_false, cnd_ite, bnd_s, nmv, exR, if_pos, if_neg, if_true, if_false, reduceIte, eq_self, not_true_eq_false, not_false_eq_true, c1, c2, Nat.one_mul]
    · rw [msk_f (p := fun k => (σ.th &&& σ.mt).testBit k && decide (σ.co k ≠ σ.mc k)) (by simp only [Bool.not_eq_true] at c1; rw [c1]; rfl)]
      simp (disch := omega) only [li_0, li_1, li_2, li_3, li_4, li_5, li_7, li_8, li_12, li_16, li_23, li_24, li_31, li_40, li_42, li_47, li_63, li_64, li_76, li_77, li_97, li_122, li_200, li_201, li_1000, li_1824, li_9999, li_16000, nI_add, nx_or, nx_and, pk_mul, nx_xor, nI_leI, nI_ltI, nI_eq, nI_clamp, vp_nI, px_sub, px_shl, px_shl2, px_shr2, px_bit, Bool.true_eq_false, Bool.false_eq_true, hol_0, hol_1, px_chr, chk, cnd_true, cnd_false, cnd_ite, bnd_s, nmv, exR, if_pos, if_neg, if_true, if_false, reduceIte, eq_self, not_true_eq_false, not_false_eq_true, c1]
  · unfold fX0_sinceMark_12
    rw [r.nf, cnd_t (nI_le (Nat.le_refl _) (by omega))]
    have e : (σ.th ^^^ σ.mt) ||| msk (fun k => (σ.th &&& σ.mt).testBit k && decide (σ.co k ≠ σ.mc k)) σ.nf = σ.chs := by
      apply msk_ext
      intro k
      rw [Nat.testBit_or, Nat.testBit_xor, msk_bit, Nat.testBit_and]
      unfold Ab.ch
      by_cases q : k < σ.nf
      · simp only [q, decide_true, Bool.true_and]
        cases σ.th.testBit k <;> cases σ.mt.testBit k <;> simp
      · rw [bit_lt w.th (by omega : σ.nf ≤ k), bit_lt w.mt (by omega : σ.nf ≤ k)]
        simp [q]
    simp only [e]
theorem m_chg {M : Mem} {σ : Ab} (w : WF σ) (s : RM ou M σ) {k : Nat} (hk : k < σ.nf) : fX8_isChanged M (nI k) = some (nI (if σ.ch k then 1 else 0)) := by
  have hn := w.nf
  have hc := w.co k hk
  unfold fX8_isChanged fX8_isChanged_39 fX8_isChanged_43 Ab.ch
  simp only [li_0, li_1]
  rw [nI_clamp (by omega), s.th k (by omega), s.mt k (by omega), s.co k hk]
  by_cases c1 : σ.th.testBit k = true
  · by_cases c2 : σ.mt.testBit k = true
    · have hm := w.mc k c2
      rw [s.mc k c2, c1, c2]
      by_cases c3 : σ.co k = σ.mc k
      · simp (disch := omega) only [li_0, li_1, li_2, li_3, li_4, li_5, li_7, li_8, li_12, li_16, li_23, li_24, li_31, li_40, li_42, li_47, li_63, li_64, li_76, li_77, li_97, li_122, li_200, li_201, li_1000, li_1824, li_9999, li_16000, nI_add, nx_or, nx_and, pk_mul, nx_xor, nI_leI, nI_ltI, nI_eq, nI_clamp, vp_nI, px_sub, px_shl, px_shl2, px_shr2, px_bit, Bool.true_eq_false, Bool.false_eq_true, hol_0, hol_1, px_chr, chk, cnd_true, cnd_false, cnd_ite, bnd_s, nmv, exR, if_pos, if_neg, if_true, if_false, reduceIte, eq_self, not_true_eq_false, not_false_eq_true, c3]
        simp
      · simp (disch := omega) only [li_0, li_1, li_2, li_3, li_4, li_5, li_7, li_8, li_12, li_16, li_23, li_24, li_31, li_40, li_42, li_47, li_63, li_64, li_76, li_77, li_97, li_122, li_200, li_201, li_1000, li_1824, li_9999, li_16000, nI_add, nx_or, nx_and, pk_mul, nx_xor, nI_leI, nI_ltI, nI_eq, nI_clamp, vp_nI, px_sub, px_shl, px_shl2, px_shr2, px_bit, Bool.true_eq_false, Bool.false_eq_true, hol_0, hol_1, px_chr, chk, cnd_true, cnd_false, cnd_ite, bnd_s, nmv, exR, if_pos, if_neg, if_true, if_false, reduceIte, eq_self, not_true_eq_false, not_false_eq_true, c3]
        simp [c3]
    · simp only [Bool.not_eq_true] at c2
      rw [c1, c2]
      simp (disch := omega) only [li_0, li_1, li_2, li_3, li_4, li_5, li_7, li_8, li_12, li_16, li_23, li_24, li_31, li_40, li_42, li_47, li_63, li_64, li_76, li_77, li_97, li_122, li_200, li_201, li_1000, li_1824, li_9999, li_16000, nI_add, nx_or, nx_and, pk_mul, nx_xor, nI_leI, nI_ltI, nI_eq, nI_clamp, vp_nI, px_sub, px_shl, px_shl2, px_shr2, px_bit, Bool.true_eq_false, Bool.false_eq_true, hol_0, hol_1, px_chr, chk, cnd_true, cnd_false, cnd_ite, bnd_s, nmv, exR, if_pos, if_neg, if_true, if_false, reduceIte, eq_self, not_true_eq_false, not_false_eq_true, show ¬ (1 : Nat) = 0 by decide]
      simp
  · simp only [Bool.not_eq_true] at c1
    rw [c1]
    by_cases c2 : σ.mt.testBit k = true
    · rw [c2]
      simp (disch := omega) only [li_0, li_1, li_2, li_3, li_4, li_5, li_7, li_8, li_12, li_16, li_23, li_24, li_31, li_40, li_42, li_47, li_63, li_64, li_76, li_77, li_97, li_122, li_200, li_201, li_1000, li_1824, li_9999, li_16000, nI_add, nx_or, nx_and, pk_mul, nx_xor, nI_leI, nI_ltI, nI_eq, nI_clamp, vp_nI, px_sub, px_shl, px_shl2, px_shr2, px_bit, Bool.true_eq_false, Bool.false_eq_true, hol_0, hol_1, px_chr, chk, cnd_true, cnd_false, cnd_ite, bnd_s, nmv, exR, if_pos, if_neg, if_true, if_false, reduceIte, eq_self, not_true_eq_false, not_false_eq_true, show ¬ (0 : Nat) = 1 by decide]
      simp
    · simp only [Bool.not_eq_true] at c2
      rw [c2]
      simp (disch := omega) only [li_0, li_1, li_2, li_3, li_4, li_5, li_7, li_8, li_12, li_16, li_23, li_24, li_31, li_40, li_42, li_47, li_63, li_64, li_76, li_77, li_97, li_122, li_200, li_201, li_1000, li_1824, li_9999, li_16000, nI_add, nx_or, nx_and, pk_mul, nx_xor, nI_leI, nI_ltI, nI_eq, nI_clamp, vp_nI, px_sub, px_shl, px_shl2, px_shr2, px_bit, Bool.true_eq_false, Bool.false_eq_true, hol_0, hol_1, px_chr, chk, cnd_true, cnd_false, cnd_ite, bnd_s, nmv, exR, if_pos, if_neg, if_true, if_false, reduceIte, eq_self, not_true_eq_false, not_false_eq_true]
      simp
theorem op_changed {C M : Mem} {σ : Ab} (w : WF σ) (r : RC C σ) (s : RM ou M σ) : ∃ M' v, fX7_changed C = some v ∧ fX8_changed M = some (v, M') ∧ RM ou M' σ := by
  have hn := w.nf
  refine ⟨mset M 475 26 (nI 0), nI σ.chs, ?_, ?_, RM_thr s⟩
  · unfold fX7_changed
    rw [c_since w r, bnd_s]
  · have s' := RM_thr (x := nI 0) s
    unfold fX8_changed
    refine lp_for (fun i => (nI (msk σ.ch i), nI i)) σ.nf (fun i hi => ?_) ?_
    · unfold fX8_changed_9 fX8_changed_33
      simp only [li_0, li_1]
      rw [s'.nf, m_chg w s' hi]
      by_cases c : σ.ch i = true
      · rw [msk_t c]
        simp (disch := omega) only [li_0, li_1, li_2, li_3, li_4, li_5, li_7, li_8, li_12, li_16, li_23, li_24, li_31, li_40, li_42, li_47, li_63, li_64, li_76, li_77, li_97, li_122, li_200, li_201, li_1000, li_1824, li_9999, li_16000, nI_add, nx_or, nx_and, pk_mul, nx_xor, nI_leI, nI_ltI, nI_eq, nI_clamp, vp_nI, px_sub, px_shl, px_shl2, px_shr2, px_bit, Bool.true_eq_false, Bool.false_eq_true, hol_0, hol_1, px_chr, chk, cnd_true, cnd_false, cnd_ite, bnd_s, nmv, exR, if_pos, if_neg, if_true, if_false, reduceIte, eq_self, not_true_eq_false, not_false_eq_true, c, Nat.one_mul]
      · rw [msk_f (by simpa using c)]
        simp (disch := omega) only [li_0, li_1, li_2, li_3, li_4, li_5, li_7, li_8, li_12, li_16, li_23, li_24, li_31, li_40, li_42, li_47, li_63, li_64, li_76, li_77, li_97, li_122, li_200, li_201, li_1000, li_1824, li_9999, li_16000, nI_add, nx_or, nx_and, pk_mul, nx_xor, nI_leI, nI_ltI, nI_eq, nI_clamp, vp_nI, px_sub, px_shl, px_shl2, px_shr2, px_bit, Bool.true_eq_false, Bool.false_eq_true, hol_0, hol_1, px_chr, chk, cnd_true, cnd_false, cnd_ite, bnd_s, nmv, exR, if_pos, if_neg, if_true, if_false, reduceIte, eq_self, not_true_eq_false, not_false_eq_true, c, Nat.or_zero]
    · unfold fX8_changed_9
      simp only [li_0]
      rw [s'.nf, cnd_t (nI_le (Nat.le_refl _) (by omega))]
      rfl
/-- the latest rule below j that matches file k; its owner -/
noncomputable def Ab.lc (σ : Ab) (k : Nat) : Nat → Nat
  | 0 => 4294967295
  | j + 1 => if (σ.cv (64 + j)).testBit k = true then j else Ab.lc σ k j
noncomputable def Ab.on (σ : Ab) (k : Nat) : Nat → Nat
  | 0 => 4294967295
  | j + 1 => if (σ.cv (64 + j)).testBit k = true then σ.ow j else Ab.on σ k j
theorem lc_on (σ : Ab) (k : Nat) : ∀ j, (σ.lc k j = 4294967295 ∧ σ.on k j = 4294967295) ∨ (σ.lc k j < j ∧ σ.on k j = σ.ow (σ.lc k j))
  | 0 => Or.inl ⟨rfl, rfl⟩
  | j + 1 => by
    unfold Ab.lc Ab.on
    by_cases c : (σ.cv (64 + j)).testBit k = true
    · rw [if_pos c, if_pos c]
      exact Or.inr ⟨by omega, rfl⟩
    · rw [if_neg c, if_neg c]
      rcases lc_on σ k j with h | ⟨h1, h2⟩
      · exact Or.inl h
      · exact Or.inr ⟨by omega, h2⟩
theorem nI_m1 {a : Nat} (h : a < 2147483648) : (nI a = nI 4294967295) = False := by
  apply eq_false
  intro q
  have e : nI 4294967295 < 0 := by decide
  rw [← q] at e
  exact nI_pos h e
theorem ln_r : ln 447 = 12 := by decide +kernel
theorem c_lc {C : Mem} {σ : Ab} (w : WF σ) (r : RC C σ) {k : Nat} (hk : k < 24) : ∀ j, j ≤ σ.nr → lp (fX1_latestCovering_7 C (nI k) 447) (nI j - nI 1) = some (nI (σ.lc k j))
  | 0, _ => by
    refine lp_exq ?_
    unfold fX1_latestCovering_7
    rw [cnd_t (by decide), li_m1]
    rfl
  | j + 1, hj => by
    have hr := w.nr
    have h1 := lt24 (cv_lt σ (64 + j)) w.nf
    have e : nI (j + 1) - nI 1 = nI j := px_sub (by omega)
    have e2 : nI j + (-1 : Int32) = nI j - nI 1 := (Int32.sub_eq_add_neg _ _).symm
    unfold Ab.lc
    rw [e]
    by_cases c : (σ.cv (64 + j)).testBit k = true
    · rw [if_pos c]
      refine lp_exq ?_
      unfold fX1_latestCovering_7
      simp only [li_0]
      rw [nI_clamp (by omega), ln_r, r.rv j (by omega)]
      simp (disch := omega) only [li_0, li_1, li_2, li_3, li_4, li_5, li_7, li_8, li_12, li_16, li_23, li_24, li_31, li_40, li_42, li_47, li_63, li_64, li_76, li_77, li_97, li_122, li_200, li_201, li_1000, li_1824, li_9999, li_16000, nI_add, nx_or, nx_and, pk_mul, nx_xor, nI_leI, nI_ltI, nI_eq, nI_clamp, vp_nI, px_sub, px_shl, px_shl2, px_shr2, px_bit, Bool.true_eq_false, Bool.false_eq_true, hol_0, hol_1, px_chr, chk, cnd_true, cnd_false, cnd_ite, bnd_s, nmv, exR, if_pos, if_neg, if_true, if_false, reduceIte, eq_self, not_true_eq_false, not_false_eq_true, c, show ¬ j < 0 by omega, show j < 12 by omega]
    · rw [if_neg c, ← c_lc w r hk j (by omega), ← e2]
      refine lp_go ?_
      unfold fX1_latestCovering_7
      simp only [li_0]
      rw [nI_clamp (by omega), ln_r, r.rv j (by omega)]
      simp only [Bool.not_eq_true] at c
      rw [cnd_f (by rw [nI_ltI (by omega) (by omega)]; omega), chk_t (by rw [vp_nI (by omega)]; omega), hol_0 (by omega) (by omega), cnd_t c]
theorem c_lo {C : Mem} {σ : Ab} (w : WF σ) (r : RC C σ) {k : Nat} (hk : k < 24) : fX4_latestOwner C (nI k) = some (nI (σ.on k σ.nr)) := by
  have hr := w.nr
  unfold fX4_latestOwner fX1_latestCovering
  simp only [nmv]
  rw [li_m1, r.nr, show (1 : Int32) = nI 1 from rfl, c_lc w r hk _ (Nat.le_refl _), bnd_s]
  rcases lc_on σ k σ.nr with ⟨h1, h2⟩ | ⟨h1, h2⟩
  · rw [h1, h2, cnd_t rfl]
  · rw [h2, cnd_f, nI_clamp (by omega), r.ow _ h1, chk_t (by rw [vp_nI (by omega)]; omega)]
    rw [nI_m1 (by omega)]
    exact fun q => q
theorem m_on {M : Mem} {σ : Ab} (w : WF σ) (s : RM ou M σ) {k : Nat} (hk : k < σ.nf) : fX8_ownerNow M (nI k) = some (nI (σ.on k σ.nr)) := by
  have hr := w.nr
  unfold fX8_ownerNow
  rw [li_m1]
  refine lp_for (fun i => (nI (σ.on k i), nI i)) σ.nr (fun i hi => ?_) ?_
  · unfold fX8_ownerNow_4 fX8_ownerNow_34
    simp only [li_0, li_1, show (64 : Int32) = nI 64 from rfl]
    rw [s.nr, nI_add, m_slot w s (Or.inr ⟨i, hi, rfl⟩) hk, nI_clamp (by omega), s.ow i hi]
    by_cases c : (σ.cv (64 + i)).testBit k = true
    · rw [show σ.on k (i + 1) = σ.ow i from if_pos c]
      simp (disch := omega) only [li_0, li_1, li_2, li_3, li_4, li_5, li_7, li_8, li_12, li_16, li_23, li_24, li_31, li_40, li_42, li_47, li_63, li_64, li_76, li_77, li_97, li_122, li_200, li_201, li_1000, li_1824, li_9999, li_16000, nI_add, nx_or, nx_and, pk_mul, nx_xor, nI_leI, nI_ltI, nI_eq, nI_clamp, vp_nI, px_sub, px_shl, px_shl2, px_shr2, px_bit, Bool.true_eq_false, Bool.false_eq_true, hol_0, hol_1, px_chr, chk, cnd_true, cnd_false, cnd_ite, bnd_s, nmv, exR, if_pos, if_neg, if_true, if_false, reduceIte, eq_self, not_true_eq_false, not_false_eq_true, c, show i < 12 by omega]
    · rw [show σ.on k (i + 1) = σ.on k i from if_neg c]
      simp (disch := omega) only [li_0, li_1, li_2, li_3, li_4, li_5, li_7, li_8, li_12, li_16, li_23, li_24, li_31, li_40, li_42, li_47, li_63, li_64, li_76, li_77, li_97, li_122, li_200, li_201, li_1000, li_1824, li_9999, li_16000, nI_add, nx_or, nx_and, pk_mul, nx_xor, nI_leI, nI_ltI, nI_eq, nI_clamp, vp_nI, px_sub, px_shl, px_shl2, px_shr2, px_bit, Bool.true_eq_false, Bool.false_eq_true, hol_0, hol_1, px_chr, chk, cnd_true, cnd_false, cnd_ite, bnd_s, nmv, exR, if_pos, if_neg, if_true, if_false, reduceIte, eq_self, not_true_eq_false, not_false_eq_true, c]
  · unfold fX8_ownerNow_4
    rw [s.nr, cnd_t (nI_le (Nat.le_refl _) (by omega))]
theorem op_ownerOf {C M : Mem} {σ : Ab} (w : WF σ) (r : RC C σ) (s : RM ou M σ) (x : Int32) : Opr ou wr_3 σ (fX7_ownerOf C x) (fX8_ownerOf M x) := by
  have hnf := w.nf
  have bad1 : fX7_requireFile C x = some (.inr 3) → fX8_isIn x 0 (M 475 2 - 1) = nI 0 → Opr ou wr_3 σ (fX7_ownerOf C x) (fX8_ownerOf M x) := by
    intro h1 h2
    refine ⟨mset M 475 26 (nI 1), RM_thr s, Or.inr ⟨3, nI 0, ?_, ?_, mset_eq, by decide, by decide⟩⟩
    · unfold fX7_ownerOf
      rw [h1]
      rfl
    · unfold fX8_ownerOf fX8_ownerOf_20
      rw [h2]
      simp (disch := omega) only [li_0, li_1, li_2, li_3, li_4, li_5, li_7, li_8, li_12, li_16, li_23, li_24, li_31, li_40, li_42, li_47, li_63, li_64, li_76, li_77, li_97, li_122, li_200, li_201, li_1000, li_1824, li_9999, li_16000, nI_add, nx_or, nx_and, pk_mul, nx_xor, nI_leI, nI_ltI, nI_eq, nI_clamp, vp_nI, px_sub, px_shl, px_shl2, px_shr2, px_bit, Bool.true_eq_false, Bool.false_eq_true, hol_0, hol_1, px_chr, chk, cnd_true, cnd_false, cnd_ite, bnd_s, nmv, exR, if_pos, if_neg, if_true, if_false, reduceIte, eq_self, not_true_eq_false, not_false_eq_true, mset_eq]
  rcases nI_cs x with hx | ⟨a, ha, rfl⟩
  · exact bad1 (c_rf0 C hx) (m_in0 hx _)
  · by_cases hb : a < σ.nf
    · refine ⟨mset M 475 26 (nI 0), RM_thr s, Or.inl ⟨nI (σ.on a σ.nr), ?_, ?_, mset_eq⟩⟩
      · unfold fX7_ownerOf
        rw [c_rf w r ha, cnd_t hb]
        simp only [bnd_s, sw]
        rw [c_lo w r (by omega), bnd_s]
      · unfold fX8_ownerOf fX8_ownerOf_20
        rw [s.nf, m_inS ha (by omega), cnd_t hb]
        simp (disch := omega) only [li_0, li_1, li_2, li_3, li_4, li_5, li_7, li_8, li_12, li_16, li_23, li_24, li_31, li_40, li_42, li_47, li_63, li_64, li_76, li_77, li_97, li_122, li_200, li_201, li_1000, li_1824, li_9999, li_16000, nI_add, nx_or, nx_and, pk_mul, nx_xor, nI_leI, nI_ltI, nI_eq, nI_clamp, vp_nI, px_sub, px_shl, px_shl2, px_shr2, px_bit, Bool.true_eq_false, Bool.false_eq_true, hol_0, hol_1, px_chr, chk, cnd_true, cnd_false, cnd_ite, bnd_s, nmv, exR, if_pos, if_neg, if_true, if_false, reduceIte, eq_self, not_true_eq_false, not_false_eq_true, mset_eq]
        rw [m_on w (RM_thr s) hb, bnd_s]
    · exact bad1 (by rw [c_rf w r ha, cnd_f hb]) (by rw [s.nf, m_inS ha (by omega), cnd_f hb])
noncomputable def Ab.rv (σ : Ab) : Nat → Nat
  | 0 => 0
  | i + 1 => if σ.ch i = true ∧ i < σ.nf ∧ σ.on i σ.nr ≠ 4294967295 then Ab.rv σ i ||| 2 ^ σ.on i σ.nr else Ab.rv σ i
theorem rv_up (σ : Ab) : ∀ d, σ.rv (σ.nf + d) = σ.rv σ.nf
  | 0 => rfl
  | d + 1 => by
    show σ.rv (σ.nf + d + 1) = _
    rw [show σ.rv (σ.nf + d + 1) = σ.rv (σ.nf + d) from if_neg (fun q => by omega), rv_up σ d]
theorem on_v {σ : Ab} (w : WF σ) (k : Nat) : σ.on k σ.nr = 4294967295 ∨ σ.on k σ.nr ≤ 7 := by
  rcases lc_on σ k σ.nr with h | ⟨h1, h2⟩
  · exact Or.inl h.2
  · rw [h2]
    exact Or.inr (w.ow _ h1)
theorem op_reviewers {C M : Mem} {σ : Ab} (w : WF σ) (r : RC C σ) (s : RM ou M σ) : ∃ M' v, fX7_reviewers C = some v ∧ fX8_reviewers M = some (v, M') ∧ RM ou M' σ := by
  have hn := w.nf
  refine ⟨mset M 475 26 (nI 0), nI (σ.rv σ.nf), ?_, ?_, RM_thr s⟩
  · have hc : σ.chs < 16777216 := lt24 (msk_lt _ _) hn
    unfold fX7_reviewers
    rw [c_since w r, bnd_s]
    have e : fX4_ownersOfAll C (nI σ.chs) = some (nI (σ.rv 24)) := by
      unfold fX4_ownersOfAll
      refine lp_for (fun i => (nI (σ.rv i), nI i)) 24 (fun i hi => ?_) ?_
      · unfold fX4_ownersOfAll_4 fX4_ownersOfAll_38
        rw [li_m1]
        simp only [li_0, li_1, li_24]
        rw [c_lo w r hi, bnd_s, cnd_f (nI_ge (by omega) (by omega))]
        have hb : σ.chs.testBit i = (decide (i < σ.nf) && σ.ch i) := msk_bit _ _ _
        by_cases c1 : σ.chs.testBit i = true
        · have c2 := c1
          rw [hb, Bool.and_eq_true, decide_eq_true_iff] at c1
          rcases on_v w i with h | h
          · rw [show σ.rv (i + 1) = σ.rv i from if_neg (fun q => q.2.2 h), h]
            simp (disch := omega) only [li_0, li_1, li_2, li_3, li_4, li_5, li_7, li_8, li_12, li_16, li_23, li_24, li_31, li_40, li_42, li_47, li_63, li_64, li_76, li_77, li_97, li_122, li_200, li_201, li_1000, li_1824, li_9999, li_16000, nI_add, nx_or, nx_and, pk_mul, nx_xor, nI_leI, nI_ltI, nI_eq, nI_clamp, vp_nI, px_sub, px_shl, px_shl2, px_shr2, px_bit, Bool.true_eq_false, Bool.false_eq_true, hol_0, hol_1, px_chr, chk, cnd_true, cnd_false, cnd_ite, bnd_s, nmv, exR, if_pos, if_neg, if_true, if_false, reduceIte, eq_self, not_true_eq_false, not_false_eq_true, c2]
          · rw [show σ.rv (i + 1) = σ.rv i ||| 2 ^ σ.on i σ.nr from if_pos ⟨c1.2, c1.1, by omega⟩]
            simp (disch := omega) only [li_0, li_1, li_2, li_3, li_4, li_5, li_7, li_8, li_12, li_16, li_23, li_24, li_31, li_40, li_42, li_47, li_63, li_64, li_76, li_77, li_97, li_122, li_200, li_201, li_1000, li_1824, li_9999, li_16000, nI_add, nx_or, nx_and, pk_mul, nx_xor, nI_leI, nI_ltI, nI_eq, nI_clamp, vp_nI, px_sub, px_shl, px_shl2, px_shr2, px_bit, Bool.true_eq_false, Bool.false_eq_true, hol_0, hol_1, px_chr, chk, cnd_true, cnd_false, cnd_ite, bnd_s, nmv, exR, if_pos, if_neg, if_true, if_false, reduceIte, eq_self, not_true_eq_false, not_false_eq_true, c2, nI_m1, Nat.one_mul]
        · rw [show σ.rv (i + 1) = σ.rv i from if_neg (fun q => c1 (by rw [hb]; simp [q.1, q.2.1]))]
          simp (disch := omega) only [li_0, li_1, li_2, li_3, li_4, li_5, li_7, li_8, li_12, li_16, li_23, li_24, li_31, li_40, li_42, li_47, li_63, li_64, li_76, li_77, li_97, li_122, li_200, li_201, li_1000, li_1824, li_9999, li_16000, nI_add, nx_or, nx_and, pk_mul, nx_xor, nI_leI, nI_ltI, nI_eq, nI_clamp, vp_nI, px_sub, px_shl, px_shl2, px_shr2, px_bit, Bool.true_eq_false, Bool.false_eq_true, hol_0, hol_1, px_chr, chk, cnd_true, cnd_false, cnd_ite, bnd_s, nmv, exR, if_pos, if_neg, if_true, if_false, reduceIte, eq_self, not_true_eq_false, not_false_eq_true, c1]
      · unfold fX4_ownersOfAll_4
        simp only [li_24]
        rw [cnd_t (nI_le (Nat.le_refl 24) (by decide))]
    rw [e, bnd_s, show (24 : Nat) = σ.nf + (24 - σ.nf) by omega, rv_up]
  · have s' := RM_thr (x := nI 0) s
    unfold fX8_reviewers
    refine lp_for (fun i => (nI (σ.rv i), nI i)) σ.nf (fun i hi => ?_) ?_
    · unfold fX8_reviewers_9 fX8_reviewers_34 fX8_reviewers_47
      rw [li_m1]
      simp only [li_0, li_1]
      rw [s'.nf, m_chg w s' hi, m_on w s' hi]
      have e0 : nI 4294967295 < nI 0 := by decide
      by_cases c : σ.ch i = true
      · rcases on_v w i with h | h
        · rw [show σ.rv (i + 1) = σ.rv i from if_neg (fun q => q.2.2 h), h]
          simp (disch := omega) only [li_0, li_1, li_2, li_3, li_4, li_5, li_7, li_8, li_12, li_16, li_23, li_24, li_31, li_40, li_42, li_47, li_63, li_64, li_76, li_77, li_97, li_122, li_200, li_201, li_1000, li_1824, li_9999, li_16000, nI_add, nx_or, nx_and, pk_mul, nx_xor, nI_leI, nI_ltI, nI_eq, nI_clamp, vp_nI, px_sub, px_shl, px_shl2, px_shr2, px_bit, Bool.true_eq_false, Bool.false_eq_true, hol_0, hol_1, px_chr, chk, cnd_true, cnd_false, cnd_ite, bnd_s, nmv, exR, if_pos, if_neg, if_true, if_false, reduceIte, eq_self, not_true_eq_false, not_false_eq_true, c, Nat.or_zero, e0]
        · rw [show σ.rv (i + 1) = σ.rv i ||| 2 ^ σ.on i σ.nr from if_pos ⟨c, hi, by omega⟩]
          simp (disch := omega) only [li_0, li_1, li_2, li_3, li_4, li_5, li_7, li_8, li_12, li_16, li_23, li_24, li_31, li_40, li_42, li_47, li_63, li_64, li_76, li_77, li_97, li_122, li_200, li_201, li_1000, li_1824, li_9999, li_16000, nI_add, nx_or, nx_and, pk_mul, nx_xor, nI_leI, nI_ltI, nI_eq, nI_clamp, vp_nI, px_sub, px_shl, px_shl2, px_shr2, px_bit, Bool.true_eq_false, Bool.false_eq_true, hol_0, hol_1, px_chr, chk, cnd_true, cnd_false, cnd_ite, bnd_s, nmv, exR, if_pos, if_neg, if_true, if_false, reduceIte, eq_self, not_true_eq_false, not_false_eq_true, c, Nat.one_mul]
      · rw [show σ.rv (i + 1) = σ.rv i from if_neg (fun q => c q.1)]
        simp (disch := omega) only [li_0, li_1, li_2, li_3, li_4, li_5, li_7, li_8, li_12, li_16, li_23, li_24, li_31, li_40, li_42, li_47, li_63, li_64, li_76, li_77, li_97, li_122, li_200, li_201, li_1000, li_1824, li_9999, li_16000, nI_add, nx_or, nx_and, pk_mul, nx_xor, nI_leI, nI_ltI, nI_eq, nI_clamp, vp_nI, px_sub, px_shl, px_shl2, px_shr2, px_bit, Bool.true_eq_false, Bool.false_eq_true, hol_0, hol_1, px_chr, chk, cnd_true, cnd_false, cnd_ite, bnd_s, nmv, exR, if_pos, if_neg, if_true, if_false, reduceIte, eq_self, not_true_eq_false, not_false_eq_true, c, Nat.or_zero, e0]
    · unfold fX8_reviewers_9
      simp only [li_0]
      rw [s'.nf, cnd_t (nI_le (Nat.le_refl _) (by omega))]
