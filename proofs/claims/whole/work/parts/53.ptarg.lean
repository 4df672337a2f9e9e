variable {ou : Int32}
/-! addTarget, targets, keys; the inputs of a target -/
theorem op_targets {C M : Mem} {σ : Ab} (r : RC C σ) (s : RM ou M σ) : ∃ M' v, fX7_targets C = v ∧ fX8_targets M = some (v, M') ∧ RM ou M' σ := by
  refine ⟨mset M 475 26 (nI 0), nI σ.nt, r.nt, ?_, RM_thr s⟩
  unfold fX8_targets
  simp only [li_0]
  rw [mset_ne (by omega), s.nt]
theorem op_keys {C M : Mem} {σ : Ab} (r : RC C σ) (s : RM ou M σ) : ∃ M' v, fX7_keys C = v ∧ fX8_keys M = some (v, M') ∧ RM ou M' σ := by
  refine ⟨mset M 475 26 (nI 0), nI σ.nk, r.nk, ?_, RM_thr s⟩
  unfold fX8_keys
  simp only [li_0]
  rw [mset_ne (by omega), s.nk]
def orr (w : Nat → Nat) : Nat → Nat
  | 0 => 0
  | k + 1 => orr w k ||| w k
theorem orr_s (w : Nat → Nat) (k : Nat) : orr w (k + 1) = orr w k ||| w k := rfl
theorem orr_bit {w : Nat → Nat} {k : Nat} : ∀ T, (orr w T).testBit k = true ↔ ∃ j, j < T ∧ (w j).testBit k = true
  | 0 => by
    show (0 : Nat).testBit k = true ↔ _
    rw [Nat.zero_testBit]
    exact ⟨fun h => (by cases h), fun ⟨_, h, _⟩ => by omega⟩
  | T + 1 => by
    rw [orr_s, Nat.testBit_or, Bool.or_eq_true, orr_bit T]
    constructor
    · rintro (⟨j, h1, h2⟩ | h)
      · exact ⟨j, by omega, h2⟩
      · exact ⟨T, by omega, h⟩
    · rintro ⟨j, h1, h2⟩
      by_cases e : j = T
      · subst e; exact Or.inr h2
      · exact Or.inl ⟨j, by omega, h2⟩
theorem orr_lt {w : Nat → Nat} {N : Nat} : ∀ T, (∀ j, j < T → w j < 2 ^ N) → orr w T < 2 ^ N
  | 0, _ => Nat.two_pow_pos N
  | T + 1, h => or_lt (orr_lt T (fun j hj => h j (by omega))) (h T (by omega))
/-- the files that a target takes, deleted ones too -/
noncomputable def Ab.tk (σ : Ab) (t : Nat) : Nat := orr (fun j => σ.cv (4 * t + j)) (σ.gc t)
noncomputable def Ab.inp (σ : Ab) (t : Nat) : Nat := σ.tk t &&& σ.th
theorem cv_lt (σ : Ab) (q : Nat) : σ.cv q < 2 ^ σ.nf := msk_lt _ _
theorem tk_lt (σ : Ab) (t : Nat) : σ.tk t < 2 ^ σ.nf := orr_lt _ (fun j _ => cv_lt σ _)
theorem inp_lt (σ : Ab) (t : Nat) : σ.inp t < 2 ^ σ.nf := Nat.lt_of_le_of_lt Nat.and_le_left (tk_lt σ t)
theorem lt24 {a n : Nat} (h : a < 2 ^ n) (hn : n ≤ 24) : a < 16777216 := Nat.lt_of_lt_of_le h (Nat.pow_le_pow_right (n := 2) (by decide) hn)
theorem ln_g {t : Nat} (h : t < 16) : ln (60 + 11 * t) = 4 := (by decide +kernel : ∀ t, t < 16 → ln (60 + 11 * t) = 4) t h
theorem c_cov {C : Mem} {σ : Ab} (w : WF σ) (r : RC C σ) {t : Nat} (ht : t < σ.nt) : fX1_covered C (60 + 11 * t) = some (nI (σ.tk t)) := by
  have h1 := w.nt
  have h2 := w.gc t
  unfold fX1_covered
  refine lp_for (fun i => (nI (orr (fun j => σ.cv (4 * t + j)) i), nI i)) (σ.gc t) (fun i hi => ?_) ?_
  · unfold fX1_covered_4
    simp only [li_1]
    rw [r.gc t (by omega), ln_g (by omega), nI_clamp (by omega), r.gv t i ht hi, orr_s]
    simp (disch := omega) only [li_0, li_1, li_2, li_3, li_4, li_5, li_7, li_8, li_12, li_16, li_23, li_24, li_31, li_40, li_42, li_47, li_63, li_64, li_76, li_77, li_97, li_122, li_200, li_201, li_1000, li_1824, li_9999, li_16000, nI_add, nx_or, nx_and, pk_mul, nx_xor, nI_leI, nI_ltI, nI_eq, nI_clamp, vp_nI, px_sub, px_shl, px_shl2, px_shr2, px_bit, Bool.true_eq_false, Bool.false_eq_true, hol_0, hol_1, px_chr, chk, cnd_true, cnd_false, cnd_ite, bnd_s, nmv, exR, if_pos, if_neg, if_true, if_false, reduceIte, eq_self, not_true_eq_false, not_false_eq_true, show i < 4 by omega]
  · unfold fX1_covered_4
    rw [r.gc t (by omega), cnd_t (nI_le (Nat.le_refl _) (by omega))]
    rfl
theorem if_or (a b : Bool) : (if a then 1 else 0) ||| (if b then 1 else 0) = (if (a || b) then 1 else 0 : Nat) := by cases a <;> cases b <;> rfl
theorem cv_bit {σ : Ab} {q k : Nat} (hk : k < σ.nf) : (σ.cv q).testBit k = mat (σ.pn k) (σ.pf k) (σ.gn q) (σ.gf q) := by
  unfold Ab.cv
  rw [msk_bit]
  simp [hk]
theorem m_slot {M : Mem} {σ : Ab} (w : WF σ) (s : RM ou M σ) {q k : Nat} (hq : σ.us q) (hk : k < σ.nf) : fX8_isMatched M (nI q) (nI k) = some (nI (if (σ.cv q).testBit k then 1 else 0)) := by
  have h1 := w.nf
  have h2 := us76 w hq
  rw [m_mat (s.px k hk) (by omega) (s.gx q hq) (by omega) (w.px k hk).2.2 (w.gx q hq).2.1, cv_bit hk]
theorem m_tk {M : Mem} {σ : Ab} (w : WF σ) (s : RM ou M σ) {t k : Nat} (ht : t < σ.nt) (hk : k < σ.nf) : fX8_takes M (nI t) (nI k) = some (nI (if (σ.tk t).testBit k then 1 else 0)) := by
  have h1 := w.nt
  have h2 := w.gc t
  unfold fX8_takes
  rw [show ((0 : Int32), (0 : Int32)) = (fun i => (nI (if (orr (fun j => σ.cv (4 * t + j)) i).testBit k then 1 else 0), nI i)) 0 by
    show _ = (nI (if (0 : Nat).testBit k then 1 else 0), nI 0)
    rw [Nat.zero_testBit]; rfl]
  refine lp_for (fun i => (nI (if (orr (fun j => σ.cv (4 * t + j)) i).testBit k then 1 else 0), nI i)) (σ.gc t) (fun i hi => ?_) ?_
  · unfold fX8_takes_5
    simp only [li_1, li_4]
    rw [nI_clamp (by omega), s.gc t (by omega), pk_mul, nI_add, m_slot w s (Or.inl ⟨t, i, ht, hi, rfl⟩) hk, orr_s, Nat.testBit_or, ← if_or]
    rw [cnd_f (nI_ge (by omega) (by omega)), chk_t (by rw [vp_nI (by omega)]; omega), bnd_s, nx_or, nI_add]
    rfl
  · unfold fX8_takes_5
    rw [nI_clamp (by omega), s.gc t (by omega), chk_t (by rw [vp_nI (by omega)]; omega), cnd_t (nI_le (Nat.le_refl _) (by omega)), chk_t (px_nb _)]
    rfl
theorem m_inp {M : Mem} {σ : Ab} (w : WF σ) (s : RM ou M σ) {t : Nat} (ht : t < σ.nt) : fX8_inputsOf M (nI t) = some (nI (σ.inp t)) := by
  have h1 := w.nf
  unfold fX8_inputsOf
  rw [show σ.inp t = msk (fun k => σ.th.testBit k && (σ.tk t).testBit k) σ.nf by
    unfold Ab.inp
    apply msk_ext
    intro k
    rw [Nat.testBit_and]
    by_cases q : k < σ.nf
    · simp [q, Bool.and_comm]
    · simp [q, bit_lt w.th (by omega : σ.nf ≤ k)]]
  refine lp_for (fun i => (nI (msk (fun k => σ.th.testBit k && (σ.tk t).testBit k) i), nI i)) σ.nf (fun i hi => ?_) ?_
  · unfold fX8_inputsOf_4 fX8_inputsOf_37 fX8_inputsOf_38
    simp only [li_0, li_1]
    rw [s.nf, nI_clamp (by omega), s.th i (by omega), m_tk w s ht hi]
    by_cases c1 : σ.th.testBit i = true
    · by_cases c2 : (σ.tk t).testBit i = true
      · rw [msk_t (p := fun k => σ.th.testBit k && (σ.tk t).testBit k) (by simp [c1, c2])]
        simp (disch := omega) only [li_0, li_1, li_2, li_3, li_4, li_5, li_7, li_8, li_12, li_16, li_23, li_24, li_31, li_40, li_42, li_47, li_63, li_64, li_76, li_77, li_97, li_122, li_200, li_201, li_1000, li_1824, li_9999, li_16000, nI_add, nx_or, nx_and, pk_mul, nx_xor, nI_leI, nI_ltI, nI_eq, nI_clamp, vp_nI, px_sub, px_shl, px_shl2, px_shr2, px_bit, Bool.true_eq_false, Bool.false_eq_true, hol_0, hol_1, px_chr, chk, cnd_true, cnd_false, cnd_ite, bnd_s, nmv, exR, if_pos, if_neg, if_true, if_false, reduceIte, eq_self, not_true_eq_false, not_false_eq_true, c1, c2, Nat.one_mul]
      · rw [msk_f (p := fun k => σ.th.testBit k && (σ.tk t).testBit k) (by simp [c2])]
        simp (disch := omega) only [li_0, li_1, li_2, li_3, li_4, li_5, li_7, li_8, li_12, li_16, li_23, li_24, li_31, li_40, li_42, li_47, li_63, li_64, li_76, li_77, li_97, li_122, li_200, li_201, li_1000, li_1824, li_9999, li_16000, nI_add, nx_or, nx_and, pk_mul, nx_xor, nI_leI, nI_ltI, nI_eq, nI_clamp, vp_nI, px_sub, px_shl, px_shl2, px_shr2, px_bit, Bool.true_eq_false, Bool.false_eq_true, hol_0, hol_1, px_chr, chk, cnd_true, cnd_false, cnd_ite, bnd_s, nmv, exR, if_pos, if_neg, if_true, if_false, reduceIte, eq_self, not_true_eq_false, not_false_eq_true, c1, c2, Nat.or_zero]
    · rw [msk_f (p := fun k => σ.th.testBit k && (σ.tk t).testBit k) (by simp [c1])]
      simp (disch := omega) only [li_0, li_1, li_2, li_3, li_4, li_5, li_7, li_8, li_12, li_16, li_23, li_24, li_31, li_40, li_42, li_47, li_63, li_64, li_76, li_77, li_97, li_122, li_200, li_201, li_1000, li_1824, li_9999, li_16000, nI_add, nx_or, nx_and, pk_mul, nx_xor, nI_leI, nI_ltI, nI_eq, nI_clamp, vp_nI, px_sub, px_shl, px_shl2, px_shr2, px_bit, Bool.true_eq_false, Bool.false_eq_true, hol_0, hol_1, px_chr, chk, cnd_true, cnd_false, cnd_ite, bnd_s, nmv, exR, if_pos, if_neg, if_true, if_false, reduceIte, eq_self, not_true_eq_false, not_false_eq_true, c1, Nat.or_zero]
  · unfold fX8_inputsOf_4
    rw [s.nf, cnd_t (nI_le (Nat.le_refl _) (by omega))]
theorem c_hasT {C : Mem} {σ : Ab} (w : WF σ) (r : RC C σ) {a : Nat} (ha : a < 2147483648) : fX7_requireTarget C (nI a) = cnd (a < σ.nt) (some (.inl (nI 0))) (some (.inr 3)) := by
  have := w.nt
  unfold fX7_requireTarget fX2_has fX2_has_16
  simp only [li_0, li_1]
  rw [r.nt]
  by_cases h : a < σ.nt
  · rw [cnd_t h]
    simp (disch := omega) only [li_0, li_1, li_2, li_3, li_4, li_5, li_7, li_8, li_12, li_16, li_23, li_24, li_31, li_40, li_42, li_47, li_63, li_64, li_76, li_77, li_97, li_122, li_200, li_201, li_1000, li_1824, li_9999, li_16000, nI_add, nx_or, nx_and, pk_mul, nx_xor, nI_leI, nI_ltI, nI_eq, nI_clamp, vp_nI, px_sub, px_shl, px_shl2, px_shr2, px_bit, Bool.true_eq_false, Bool.false_eq_true, hol_0, hol_1, px_chr, chk, cnd_true, cnd_false, cnd_ite, bnd_s, nmv, exR, if_pos, if_neg, if_true, if_false, reduceIte, eq_self, not_true_eq_false, not_false_eq_true, show ¬ σ.nt ≤ a by omega]
  · rw [cnd_f h]
    simp (disch := omega) only [li_0, li_1, li_2, li_3, li_4, li_5, li_7, li_8, li_12, li_16, li_23, li_24, li_31, li_40, li_42, li_47, li_63, li_64, li_76, li_77, li_97, li_122, li_200, li_201, li_1000, li_1824, li_9999, li_16000, nI_add, nx_or, nx_and, pk_mul, nx_xor, nI_leI, nI_ltI, nI_eq, nI_clamp, vp_nI, px_sub, px_shl, px_shl2, px_shr2, px_bit, Bool.true_eq_false, Bool.false_eq_true, hol_0, hol_1, px_chr, chk, cnd_true, cnd_false, cnd_ite, bnd_s, nmv, exR, if_pos, if_neg, if_true, if_false, reduceIte, eq_self, not_true_eq_false, not_false_eq_true, show σ.nt ≤ a by omega]
theorem c_hasT0 (C : Mem) {a : Int32} (ha : a < 0) : fX7_requireTarget C a = some (.inr 3) := by
  unfold fX7_requireTarget fX2_has fX2_has_16
  rw [cnd_t ha, cnd_t rfl]
theorem nb_in (a b c : Int32) : narrow .boolean (.int (fX8_isIn a b c)) = .int (fX8_isIn a b c) := by
  unfold fX8_isIn fX8_isIn_14
  by_cases h1 : a < b
  · rw [cnd_t h1]; rfl
  · rw [cnd_f h1]
    by_cases h2 : c < a
    · rw [cnd_t h2]; rfl
    · rw [cnd_f h2]; rfl
theorem m_isT {M : Mem} {σ : Ab} (w : WF σ) (s : RM ou M σ) {a : Nat} (ha : a < 2147483648) : fX8_isTarget M (nI a) = some (cnd (a < σ.nt) (nI 1) (nI 0)) := by
  have := w.nt
  unfold fX8_isTarget
  rw [chk_t (nb_in _ _ _), s.nt, m_inS ha (by omega)]
theorem m_isT0 (M : Mem) {a : Int32} (ha : a < 0) : fX8_isTarget M a = some (nI 0) := by
  unfold fX8_isTarget
  rw [chk_t (nb_in _ _ _), m_in0 ha]
theorem op_inputs {C M : Mem} {σ : Ab} (w : WF σ) (r : RC C σ) (s : RM ou M σ) (x : Int32) : Opr ou wr_3 σ (fX7_inputs C x) (fX8_inputs M x) := by
  have hnt := w.nt
  have bad1 : fX7_requireTarget C x = some (.inr 3) → fX8_isTarget M x = some (nI 0) → Opr ou wr_3 σ (fX7_inputs C x) (fX8_inputs M x) := by
    intro h1 h2
    refine ⟨mset M 475 26 (nI 1), RM_thr s, Or.inr ⟨3, nI 0, ?_, ?_, mset_eq, by decide, by decide⟩⟩
    · unfold fX7_inputs
      rw [h1]
      rfl
    · unfold fX8_inputs fX8_inputs_14
      rw [h2]
      simp (disch := omega) only [li_0, li_1, li_2, li_3, li_4, li_5, li_7, li_8, li_12, li_16, li_23, li_24, li_31, li_40, li_42, li_47, li_63, li_64, li_76, li_77, li_97, li_122, li_200, li_201, li_1000, li_1824, li_9999, li_16000, nI_add, nx_or, nx_and, pk_mul, nx_xor, nI_leI, nI_ltI, nI_eq, nI_clamp, vp_nI, px_sub, px_shl, px_shl2, px_shr2, px_bit, Bool.true_eq_false, Bool.false_eq_true, hol_0, hol_1, px_chr, chk, cnd_true, cnd_false, cnd_ite, bnd_s, nmv, exR, if_pos, if_neg, if_true, if_false, reduceIte, eq_self, not_true_eq_false, not_false_eq_true, mset_eq]
  rcases nI_cs x with hx | ⟨a, ha, rfl⟩
  · exact bad1 (c_hasT0 C hx) (m_isT0 M hx)
  · by_cases hb : a < σ.nt
    · refine ⟨mset M 475 26 (nI 0), RM_thr s, Or.inl ⟨nI (σ.inp a), ?_, ?_, mset_eq⟩⟩
      · unfold fX7_inputs fX2_globsOf fX0_present
        rw [c_hasT w r ha, cnd_t hb]
        simp only [bnd_s, sw]
        rw [nI_clamp (by omega), chk_t (by rw [vp_nI (by omega)]; omega), bnd_s, c_cov w r hb, bnd_s, r.th, nx_and]
        rfl
      · unfold fX8_inputs fX8_inputs_14
        rw [m_isT w s ha, cnd_t hb]
        simp (disch := omega) only [li_0, li_1, li_2, li_3, li_4, li_5, li_7, li_8, li_12, li_16, li_23, li_24, li_31, li_40, li_42, li_47, li_63, li_64, li_76, li_77, li_97, li_122, li_200, li_201, li_1000, li_1824, li_9999, li_16000, nI_add, nx_or, nx_and, pk_mul, nx_xor, nI_leI, nI_ltI, nI_eq, nI_clamp, vp_nI, px_sub, px_shl, px_shl2, px_shr2, px_bit, Bool.true_eq_false, Bool.false_eq_true, hol_0, hol_1, px_chr, chk, cnd_true, cnd_false, cnd_ite, bnd_s, nmv, exR, if_pos, if_neg, if_true, if_false, reduceIte, eq_self, not_true_eq_false, not_false_eq_true, mset_eq]
        rw [m_inp w (RM_thr s) hb, bnd_s]
    · exact bad1 (by rw [c_hasT w r ha, cnd_f hb]) (by rw [m_isT w s ha, cnd_f hb])
