/-! keys: what a target has now, by the keys of the others -/
def Ab.mti (σ : Ab) (t i : Nat) : Prop := σ.hd i = σ.inp t ∧ ∀ k, (σ.inp t).testBit k = true → σ.kc i k = σ.co k
def Ab.mtd (σ : Ab) (K : Nat → Nat) (t i : Nat) : Prop := σ.le i = σ.de t ∧ ∀ o, (σ.de t).testBit o = true → σ.kb i o = K o
def Ab.mtc (σ : Ab) (K : Nat → Nat) (t i : Nat) : Prop := σ.wh i = t ∧ σ.mti t i ∧ σ.mtd K t i
noncomputable def Ab.gvn (σ : Ab) (K : Nat → Nat) (t : Nat) : Nat → Nat
  | 0 => 0
  | i + 1 => cnd (σ.mtc K t i) (i + 1) (Ab.gvn σ K t i)
theorem gvn_s (σ : Ab) (K : Nat → Nat) (t : Nat) : ∀ n, (∃ i, i < n ∧ σ.mtc K t i ∧ σ.gvn K t n = i + 1) ∨ (σ.gvn K t n = 0 ∧ ∀ i, i < n → ¬ σ.mtc K t i)
  | 0 => Or.inr ⟨rfl, fun i hi => by omega⟩
  | n + 1 => by
    unfold Ab.gvn
    by_cases c : σ.mtc K t n
    · rw [cnd_t c]
      exact Or.inl ⟨n, by omega, c, rfl⟩
    · rw [cnd_f c]
      rcases gvn_s σ K t n with ⟨i, h1, h2, h3⟩ | ⟨h1, h2⟩
      · exact Or.inl ⟨i, by omega, h2, h3⟩
      · refine Or.inr ⟨h1, fun i hi => ?_⟩
        by_cases e : i = n
        · subst e; exact c
        · exact h2 i (by omega)
theorem gvn_le (σ : Ab) (K : Nat → Nat) (t n : Nat) : σ.gvn K t n ≤ n := by
  rcases gvn_s σ K t n with ⟨i, h1, h2, h3⟩ | ⟨h1, h2⟩ <;> omega
theorem mtc_u {σ : Ab} {K : Nat → Nat} {t i j : Nat} (w : WF σ) (hi : i < σ.nk) (hj : j < σ.nk) (h1 : σ.mtc K t i) (h2 : σ.mtc K t j) : i = j := by
  have key : ∀ a b, a < b → b < σ.nk → σ.mtc K t a → σ.mtc K t b → False := by
    intro a b hab hb ha hb2
    obtain ⟨a1, ⟨a2, a3⟩, a4, a5⟩ := ha
    obtain ⟨b1, ⟨b2, b3⟩, b4, b5⟩ := hb2
    refine w.ku a b hab hb ⟨a1.trans b1.symm, a2.trans b2.symm, a4.trans b4.symm, fun k hk => ?_, fun o ho => ?_⟩
    · rw [a2] at hk
      rw [a3 k hk, b3 k hk]
    · rw [a4] at ho
      rw [a5 o ho, b5 o ho]
  rcases Nat.lt_trichotomy i j with h | h | h
  · exact (key i j h hj h1 h2).elim
  · exact h
  · exact (key j i h hi h2 h1).elim
theorem gvn_i {σ : Ab} {K : Nat → Nat} {t i : Nat} (w : WF σ) (hi : i < σ.nk) (h : σ.mtc K t i) : σ.gvn K t σ.nk = i + 1 := by
  rcases gvn_s σ K t σ.nk with ⟨j, h1, h2, h3⟩ | ⟨h1, h2⟩
  · rw [h3, mtc_u w hi h1 h h2]
  · exact absurd h (h2 i hi)
/-- all the targets on which it depends have keys -/
def Ab.rdy (σ : Ab) (K : Nat → Nat) (t : Nat) : Prop := ∀ o, (σ.de t).testBit o = true → 0 < K o
noncomputable def Ab.kn (σ : Ab) (K : Nat → Nat) (t : Nat) : Nat := cnd (σ.rdy K t) (σ.gvn K t σ.nk) 0
theorem kn_le (σ : Ab) (K : Nat → Nat) (t : Nat) : σ.kn K t ≤ σ.nk := by
  unfold Ab.kn
  by_cases h : σ.rdy K t
  · rw [cnd_t h]; exact gvn_le σ K t _
  · rw [cnd_f h]; omega
theorem mtc_cong {σ : Ab} {K K' : Nat → Nat} {t i : Nat} (h : ∀ o, (σ.de t).testBit o = true → K o = K' o) : σ.mtc K t i → σ.mtc K' t i := by
  rintro ⟨h1, h2, h3, h4⟩
  exact ⟨h1, h2, h3, fun o ho => (h4 o ho).trans (h o ho)⟩
theorem gvn_cong {σ : Ab} {K K' : Nat → Nat} {t : Nat} (h : ∀ o, (σ.de t).testBit o = true → K o = K' o) : ∀ n, σ.gvn K t n = σ.gvn K' t n
  | 0 => rfl
  | n + 1 => by
    unfold Ab.gvn
    rw [gvn_cong h n]
    exact cnd_iff ⟨mtc_cong h, mtc_cong (fun o ho => (h o ho).symm)⟩
theorem kn_cong {σ : Ab} {K K' : Nat → Nat} {t : Nat} (h : ∀ o, (σ.de t).testBit o = true → K o = K' o) : σ.kn K t = σ.kn K' t := by
  unfold Ab.kn
  rw [gvn_cong h]
  refine cnd_iff ⟨fun q o ho => ?_, fun q o ho => ?_⟩
  · rw [← h o ho]; exact q o ho
  · rw [h o ho]; exact q o ho
/-! the class: rows -/
theorem c_row {C : Mem} {σ : Ab} (w : WF σ) (r : RC C σ) {t : Nat} (ht : t < σ.nt) : ∃ C', fX3_fillRow C (nI t) = some C' ∧ RC C' σ ∧ (∀ k, k < 24 → C' 442 k = nI (if (σ.inp t).testBit k then σ.co k + 1 else 0)) ∧ (∀ o, o < 16 → C' 442 (24 + o) = if (σ.de t).testBit o then C 440 o else nI 0) ∧ ∀ k j, k ≠ 442 → C' k j = C k j := by
  have hn := w.nt
  have hnf := w.nf
  have hi := lt24 (inp_lt σ t) hnf
  have hd := lt16 (w.de t) hn
  have st : ∀ i, i ≤ 24 → ∃ C', lp (fX3_fillRow_22 (nI t) (nI (σ.inp t))) (C, (0 : Int32)) = lp (fX3_fillRow_22 (nI t) (nI (σ.inp t))) (C', nI i) ∧ RC C' σ ∧ (∀ k, k < i → C' 442 k = nI (if (σ.inp t).testBit k then σ.co k + 1 else 0)) ∧ ∀ k j, k ≠ 442 → C' k j = C k j := by
    intro i
    induction i with
    | zero => intro _; exact ⟨C, rfl, r, fun k hk => by omega, fun k j _ => rfl⟩
    | succ i ih =>
      intro hi2
      obtain ⟨C', e1, e2, e3, e4⟩ := ih (by omega)
      refine ⟨mset C' 442 i (nI (if (σ.inp t).testBit i then σ.co i + 1 else 0)), ?_, RC_scr w e2 (by omega), fun k hk => ?_, fun k j hk => ?_⟩
      · rw [e1]
        refine lp_go ?_
        unfold fX3_fillRow_22 fX3_fillRow_55 fX0_contentOf
        simp only [li_0, li_1, li_24]
        by_cases c : (σ.inp t).testBit i = true
        · have := bit_le (inp_lt σ t) c
          rw [nI_clamp (by omega), e2.co i (by omega)]
          simp (disch := omega) only [li_0, li_1, li_2, li_3, li_4, li_5, li_7, li_8, li_12, li_16, li_23, li_24, li_31, li_40, li_42, li_47, li_63, li_64, li_76, li_77, li_97, li_122, li_200, li_201, li_1000, li_1824, li_9999, li_16000, nI_add, nx_or, nx_and, pk_mul, nx_xor, nI_leI, nI_ltI, nI_eq, nI_clamp, vp_nI, px_sub, px_shl, px_shl2, px_shr2, px_bit, Bool.true_eq_false, Bool.false_eq_true, hol_0, hol_1, px_chr, chk, cnd_true, cnd_false, cnd_ite, bnd_s, nmv, exR, if_pos, if_neg, if_true, if_false, reduceIte, eq_self, not_true_eq_false, not_false_eq_true, c, show ¬ 24 ≤ i by omega, show i < 24 by omega, show i < 40 by omega]
        · have c' : (σ.inp t).testBit i = false := by simpa using c
          simp (disch := omega) only [li_0, li_1, li_2, li_3, li_4, li_5, li_7, li_8, li_12, li_16, li_23, li_24, li_31, li_40, li_42, li_47, li_63, li_64, li_76, li_77, li_97, li_122, li_200, li_201, li_1000, li_1824, li_9999, li_16000, nI_add, nx_or, nx_and, pk_mul, nx_xor, nI_leI, nI_ltI, nI_eq, nI_clamp, vp_nI, px_sub, px_shl, px_shl2, px_shr2, px_bit, Bool.true_eq_false, Bool.false_eq_true, hol_0, hol_1, px_chr, chk, cnd_true, cnd_false, cnd_ite, bnd_s, nmv, exR, if_pos, if_neg, if_true, if_false, reduceIte, eq_self, not_true_eq_false, not_false_eq_true, c', show ¬ 24 ≤ i by omega, show i < 40 by omega]
      · by_cases q : k = i
        · rw [q, mset_eq]
        · rw [mset_ne (by omega)]; exact e3 k (by omega)
      · rw [mset_ne (by omega)]; exact e4 k j hk
  obtain ⟨C1, e1, e2, e3, e4⟩ := st 24 (Nat.le_refl _)
  have st2 : ∀ i, i ≤ 16 → ∃ C', lp (fX3_fillRow_74 (nI (σ.de t))) (C1, (0 : Int32)) = lp (fX3_fillRow_74 (nI (σ.de t))) (C', nI i) ∧ RC C' σ ∧ (∀ k, k < 24 → C' 442 k = C1 442 k) ∧ (∀ o, o < i → C' 442 (24 + o) = if (σ.de t).testBit o then C 440 o else nI 0) ∧ ∀ k j, k ≠ 442 → C' k j = C k j := by
    intro i
    induction i with
    | zero => intro _; exact ⟨C1, rfl, e2, fun k _ => rfl, fun o ho => by omega, e4⟩
    | succ i ih =>
      intro hi2
      obtain ⟨C', f1, f2, f3, f4, f5⟩ := ih (by omega)
      refine ⟨mset C' 442 (24 + i) (if (σ.de t).testBit i then C 440 i else nI 0), ?_, RC_scr w f2 (by omega), fun k hk => ?_, fun o ho => ?_, fun k j hk => ?_⟩
      · rw [f1]
        refine lp_go ?_
        unfold fX3_fillRow_74 fX3_fillRow_110
        simp only [li_0, li_1, li_24, li_16]
        rw [nI_clamp (by omega), f5 440 i (by omega)]
        by_cases c : (σ.de t).testBit i = true
        · simp (disch := omega) only [li_0, li_1, li_2, li_3, li_4, li_5, li_7, li_8, li_12, li_16, li_23, li_24, li_31, li_40, li_42, li_47, li_63, li_64, li_76, li_77, li_97, li_122, li_200, li_201, li_1000, li_1824, li_9999, li_16000, nI_add, nx_or, nx_and, pk_mul, nx_xor, nI_leI, nI_ltI, nI_eq, nI_clamp, vp_nI, px_sub, px_shl, px_shl2, px_shr2, px_bit, Bool.true_eq_false, Bool.false_eq_true, hol_0, hol_1, px_chr, chk, cnd_true, cnd_false, cnd_ite, bnd_s, nmv, exR, if_pos, if_neg, if_true, if_false, reduceIte, eq_self, not_true_eq_false, not_false_eq_true, c, show ¬ 16 ≤ i by omega, show i < 16 by omega, show 24 + i < 40 by omega]
        · have c' : (σ.de t).testBit i = false := by simpa using c
          simp (disch := omega) only [li_0, li_1, li_2, li_3, li_4, li_5, li_7, li_8, li_12, li_16, li_23, li_24, li_31, li_40, li_42, li_47, li_63, li_64, li_76, li_77, li_97, li_122, li_200, li_201, li_1000, li_1824, li_9999, li_16000, nI_add, nx_or, nx_and, pk_mul, nx_xor, nI_leI, nI_ltI, nI_eq, nI_clamp, vp_nI, px_sub, px_shl, px_shl2, px_shr2, px_bit, Bool.true_eq_false, Bool.false_eq_true, hol_0, hol_1, px_chr, chk, cnd_true, cnd_false, cnd_ite, bnd_s, nmv, exR, if_pos, if_neg, if_true, if_false, reduceIte, eq_self, not_true_eq_false, not_false_eq_true, c', show ¬ 16 ≤ i by omega, show 24 + i < 40 by omega]
      · rw [mset_ne (by omega)]; exact f3 k hk
      · by_cases q : o = i
        · rw [q, mset_eq]
        · rw [mset_ne (by omega)]; exact f4 o (by omega)
      · rw [mset_ne (by omega)]; exact f5 k j hk
  obtain ⟨C2, f1, f2, f3, f4, f5⟩ := st2 16 (Nat.le_refl _)
  refine ⟨C2, ?_, f2, fun k hk => by rw [f3 k hk, e3 k hk], f4, f5⟩
  unfold fX3_fillRow fX2_globsOf fX0_present
  rw [nI_clamp (by omega), chk_t (by rw [vp_nI (by omega)]; omega), bnd_s, c_cov w r ht, bnd_s, r.th, nx_and]
  simp only [nmv]
  rw [show σ.tk t &&& σ.th = σ.inp t from rfl, e1]
  refine lp_exq ?_
  unfold fX3_fillRow_22 fX3_fillRow_62 fX2_dependenciesOf
  rw [cnd_t (show (24 : Int32) ≤ nI 24 by decide)]
  show exR (bnd (chk _ (some (C1 57 (nI t).toNatClampNeg))) _) = _
  rw [nI_clamp (by omega), e2.de t (by omega), chk_t (by rw [vp_nI (by omega)]; omega), bnd_s]
  show exR (lp (fX3_fillRow_74 (nI (σ.de t))) (C1, (0 : Int32))) = _
  rw [f1]
  congr 1
  refine lp_exq ?_
  unfold fX3_fillRow_74
  rw [cnd_t (show (16 : Int32) ≤ nI 16 by decide)]
/-- the targets without a key -/
noncomputable def wok (C : Mem) (σ : Ab) : Nat := msk (fun t => decide (C 440 t = nI 0)) σ.nt
theorem c_wok {C : Mem} {σ : Ab} (w : WF σ) (r : RC C σ) : fX3_withoutKey C = some (nI (wok C σ)) := by
  have hn := w.nt
  unfold fX3_withoutKey wok
  refine lp_for (fun i => (nI (msk (fun t => decide (C 440 t = nI 0)) i), nI i)) σ.nt (fun i hi => ?_) ?_
  · unfold fX3_withoutKey_4 fX3_withoutKey_30 fX2_size
    simp only [li_0, li_1]
    rw [r.nt, nI_clamp (by omega)]
    by_cases c : C 440 i = nI 0
    · rw [msk_t (p := fun t => decide (C 440 t = nI 0)) (by simp [c]), c]
      simp (disch := omega) only [li_0, li_1, li_2, li_3, li_4, li_5, li_7, li_8, li_12, li_16, li_23, li_24, li_31, li_40, li_42, li_47, li_63, li_64, li_76, li_77, li_97, li_122, li_200, li_201, li_1000, li_1824, li_9999, li_16000, nI_add, nx_or, nx_and, pk_mul, nx_xor, nI_leI, nI_ltI, nI_eq, nI_clamp, vp_nI, px_sub, px_shl, px_shl2, px_shr2, px_bit, Bool.true_eq_false, Bool.false_eq_true, hol_0, hol_1, px_chr, chk, cnd_true, cnd_false, cnd_ite, bnd_s, nmv, exR, if_pos, if_neg, if_true, if_false, reduceIte, eq_self, not_true_eq_false, not_false_eq_true, Nat.one_mul, show i < 16 by omega]
    · rw [msk_f (p := fun t => decide (C 440 t = nI 0)) (by simp [c])]
      simp (disch := omega) only [li_0, li_1, li_2, li_3, li_4, li_5, li_7, li_8, li_12, li_16, li_23, li_24, li_31, li_40, li_42, li_47, li_63, li_64, li_76, li_77, li_97, li_122, li_200, li_201, li_1000, li_1824, li_9999, li_16000, nI_add, nx_or, nx_and, pk_mul, nx_xor, nI_leI, nI_ltI, nI_eq, nI_clamp, vp_nI, px_sub, px_shl, px_shl2, px_shr2, px_bit, Bool.true_eq_false, Bool.false_eq_true, hol_0, hol_1, px_chr, chk, cnd_true, cnd_false, cnd_ite, bnd_s, nmv, exR, if_pos, if_neg, if_true, if_false, reduceIte, eq_self, not_true_eq_false, not_false_eq_true, c, show i < 16 by omega]
  · unfold fX3_withoutKey_4 fX2_size
    rw [r.nt, cnd_t (nI_le (Nat.le_refl _) (by omega))]
theorem wok_lt (C : Mem) (σ : Ab) : wok C σ < 2 ^ σ.nt := msk_lt _ _
theorem wok_dep {C : Mem} {σ : Ab} {K : Nat → Nat} {t : Nat} (w : WF σ) (hK : ∀ o, (σ.de t).testBit o = true → C 440 o = nI (K o) ∧ K o ≤ 200) : σ.de t &&& wok C σ = 0 ↔ σ.rdy K t := by
  constructor
  · intro h o ho
    have ho2 := bit_le (w.de t) ho
    apply Classical.byContradiction
    intro q
    refine and_ne ho (b := wok C σ) ?_ h
    unfold wok
    rw [msk_bit, (hK o ho).1, show K o = 0 by omega]
    simp [ho2]
  · intro h
    apply Nat.eq_of_testBit_eq
    intro o
    rw [Nat.testBit_and, Nat.zero_testBit]
    by_cases ho : (σ.de t).testBit o = true
    · have h1 := h o ho
      have h2 := hK o ho
      rw [ho, Bool.true_and]
      unfold wok
      rw [msk_bit, h2.1]
      have : ¬ nI (K o) = nI 0 := by
        rw [nI_eq (by omega) (by omega)]; omega
      simp [this]
    · simp only [Bool.not_eq_true] at ho
      rw [ho]; rfl
theorem c_dhk {C : Mem} {σ : Ab} {K : Nat → Nat} {t : Nat} (w : WF σ) (r : RC C σ) (ht : t < σ.nt) (hK : ∀ o, (σ.de t).testBit o = true → C 440 o = nI (K o) ∧ K o ≤ 200) : fX3_dependenciesHaveKeys C (nI t) = some (cnd (σ.rdy K t) (nI 1) (nI 0)) := by
  have hn := w.nt
  have hd := lt16 (w.de t) hn
  have h2 : σ.de t &&& wok C σ < 65536 := Nat.lt_of_le_of_lt Nat.and_le_left hd
  unfold fX3_dependenciesHaveKeys fX2_dependenciesOf
  rw [nI_clamp (by omega), r.de t (by omega), chk_t (by rw [vp_nI (by omega)]; omega), bnd_s, c_wok w r, bnd_s, nx_and]
  by_cases c : σ.rdy K t
  · rw [cnd_t c, (wok_dep w hK).mpr c, cnd00]
    rfl
  · have c2 : ¬ σ.de t &&& wok C σ = 0 := fun q => c ((wok_dep w hK).mp q)
    rw [cnd_f c, li_0, cnd_f (by rw [nI_eq (by omega) (by omega)]; exact c2)]
theorem c_agr {C : Mem} {i L : Nat} (hi : i < 200) (hL : L ≤ 40) : fX3_agrees C (nI (i + 1)) (nI L) = some (cnd (∀ x, x < L → C (238 + (i + 1)) x = C 442 x) (nI 1) (nI 0)) := by
  unfold fX3_agrees
  have e : lp (fX3_agrees_2 C (nI (i + 1)) (nI L)) (nI 0) = cnd (∃ x, x < L ∧ ¬ C (238 + (i + 1)) x = C 442 x) (some (nI 0)) (some (nI 1)) := by
    refine lp_find (fun i => nI i) L (fun x => ¬ C (238 + (i + 1)) x = C 442 x) (fun x hx hp => ?_) (fun x hx hp => ?_) ?_
    · have c : C (238 + (i + 1)) x = C 442 x := Classical.byContradiction hp
      unfold fX3_agrees_2
      simp only [li_1]
      rw [nI_clamp (by omega), nI_clamp (by omega), c]
      simp (disch := omega) only [li_0, li_1, li_2, li_3, li_4, li_5, li_7, li_8, li_12, li_16, li_23, li_24, li_31, li_40, li_42, li_47, li_63, li_64, li_76, li_77, li_97, li_122, li_200, li_201, li_1000, li_1824, li_9999, li_16000, nI_add, nx_or, nx_and, pk_mul, nx_xor, nI_leI, nI_ltI, nI_eq, nI_clamp, vp_nI, px_sub, px_shl, px_shl2, px_shr2, px_bit, Bool.true_eq_false, Bool.false_eq_true, hol_0, hol_1, px_chr, chk, cnd_true, cnd_false, cnd_ite, bnd_s, nmv, exR, if_pos, if_neg, if_true, if_false, reduceIte, eq_self, not_true_eq_false, not_false_eq_true, show ¬ L ≤ x by omega, show x < 40 by omega, show i + 1 < 201 by omega]
    · unfold fX3_agrees_2
      simp only [li_1, li_0]
      rw [nI_clamp (by omega), nI_clamp (by omega)]
      simp (disch := omega) only [li_0, li_1, li_2, li_3, li_4, li_5, li_7, li_8, li_12, li_16, li_23, li_24, li_31, li_40, li_42, li_47, li_63, li_64, li_76, li_77, li_97, li_122, li_200, li_201, li_1000, li_1824, li_9999, li_16000, nI_add, nx_or, nx_and, pk_mul, nx_xor, nI_leI, nI_ltI, nI_eq, nI_clamp, vp_nI, px_sub, px_shl, px_shl2, px_shr2, px_bit, Bool.true_eq_false, Bool.false_eq_true, hol_0, hol_1, px_chr, chk, cnd_true, cnd_false, cnd_ite, bnd_s, nmv, exR, if_pos, if_neg, if_true, if_false, reduceIte, eq_self, not_true_eq_false, not_false_eq_true, show ¬ L ≤ x by omega, show x < 40 by omega, show i + 1 < 201 by omega, hp]
    · unfold fX3_agrees_2
      rw [cnd_t (nI_le (Nat.le_refl _) (by omega))]
      rfl
  rw [show (0 : Int32) = nI 0 from rfl, e]
  by_cases c : ∀ x, x < L → C (238 + (i + 1)) x = C 442 x
  · rw [cnd_t c, cnd_f]
    rintro ⟨x, h1, h2⟩
    exact h2 (c x h1)
  · rw [cnd_f c, cnd_t]
    apply Classical.byContradiction
    intro q
    exact c (fun x hx => Classical.byContradiction fun h => q ⟨x, hx, h⟩)
