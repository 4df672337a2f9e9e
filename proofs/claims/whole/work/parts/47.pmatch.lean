/-! isMatched: all segments; the same as covers -/
noncomputable def en (n : Nat) (f : Nat → Nat) (j : Nat) : Nat := if h : j ≤ n then Classical.choose (en_ex f h) else 0
theorem en_s {n : Nat} (f : Nat → Nat) {j : Nat} (h : j ≤ n) : (j ≤ en n f j ∧ sgn n f (en n f j) = 47) ∧ en n f j ≤ n ∧ ∀ i, j ≤ i → i < en n f j → sgn n f i ≠ 47 := by
  unfold en
  rw [dif_pos h]
  exact Classical.choose_spec (en_ex f h)
theorem en_u {n : Nat} {f : Nat → Nat} {j e : Nat} (h1 : j ≤ e) (h2 : e ≤ n) (h3 : sgn n f e = 47) (h4 : ∀ i, j ≤ i → i < e → sgn n f i ≠ 47) : e = en n f j := by
  obtain ⟨⟨a1, a2⟩, a3, a4⟩ := en_s f (show j ≤ n by omega)
  by_cases c1 : e < en n f j
  · exact absurd h3 (a4 e h1 c1)
  · by_cases c2 : en n f j < e
    · exact absurd a2 (h4 _ a1 c2)
    · omega
def uni (S : Nat) (w : Nat → Nat) : Nat → Nat
  | 0 => 0
  | k + 1 => if S.testBit k = true then uni S w k ||| w k else uni S w k
theorem uni_s (S : Nat) (w : Nat → Nat) (k : Nat) : uni S w (k + 1) = if S.testBit k = true then uni S w k ||| w k else uni S w k := rfl
theorem uni_bit {S : Nat} {w : Nat → Nat} {k : Nat} : ∀ T, (uni S w T).testBit k = true ↔ ∃ j, j < T ∧ S.testBit j = true ∧ (w j).testBit k = true
  | 0 => by
    show (0 : Nat).testBit k = true ↔ _
    rw [Nat.zero_testBit]
    exact ⟨fun h => (by cases h), fun ⟨_, h, _⟩ => by omega⟩
  | T + 1 => by
    have ih := uni_bit (S := S) (w := w) (k := k) T
    rw [uni_s]
    by_cases c : S.testBit T = true
    · rw [if_pos c, Nat.testBit_or, Bool.or_eq_true, ih]
      constructor
      · rintro (⟨j, h1, h2⟩ | h)
        · exact ⟨j, by omega, h2⟩
        · exact ⟨T, by omega, c, h⟩
      · rintro ⟨j, h1, h2, h3⟩
        by_cases e : j = T
        · subst e; exact Or.inr h3
        · exact Or.inl ⟨j, by omega, h2, h3⟩
    · rw [if_neg c, ih]
      constructor
      · rintro ⟨j, h1, h2⟩
        exact ⟨j, by omega, h2⟩
      · rintro ⟨j, h1, h2, h3⟩
        by_cases e : j = T
        · subst e; exact absurd h2 c
        · exact ⟨j, by omega, h2, h3⟩
/-- what one place gives -/
noncomputable def giv (n : Nat) (f : Nat → Nat) (m : Nat) (g : Nat → Nat) (a c : Nat) (any : Bool) (k : Nat) : Nat := if any = true then msk (bgP n f k) (n + 2) else cnd (k ≤ n ∧ wk n f m g a c k (en n f k)) (2 ^ (en n f k + 1)) 0
theorem mm_in {M : Mem} {q n r m : Nat} {f g : Nat → Nat} (h : PV M q n f) (hq : q < 24) (hg : MV M r m g) (hr : r < 77) {a c S : Nat} (any : Bool) (hS : S < 2 ^ (n + 2)) (hc : a + c ≤ m) (hs : ∀ i, a ≤ i → i < a + c → sgn m g i ≠ 47) : lp (fX8_isMatched_86 M (nI r) (nI q) (nI (if any then 1 else 0)) (nI (a + c)) (nI S, nI a)) ((0 : Int32), (0 : Int32)) = some (.inl (nI (uni S (giv n f m g a c any) (n + 2)), nI (a + c + 1))) := by
  have hn := h.2.1
  have hm := hg.2.1
  have h26 := lt26 hS hn
  refine lp_for (fun i => (nI (uni S (giv n f m g a c any) i), nI i)) (n + 2) (fun i hi => ?_) ?_
  · unfold fX8_isMatched_86 fX8_isMatched_132 fX8_isMatched_166 fX8_isMatched_167 fX8_isMatched_199 fX8_isMatched_202
    simp only [li_1, li_0, li_2]
    rw [nI_clamp (by omega), h.1, uni_s]
    by_cases c1 : S.testBit i = true
    · rw [if_pos c1]
      by_cases c2 : i ≤ n
      · obtain ⟨⟨e1, e2⟩, e3, e4⟩ := en_s f c2
        rw [mt_end h hq e1 e3 e2 e4]
        simp only [bnd_s]
        rw [mt_laid h hq hg hr hc hs e1 e3 e4]
        by_cases c3 : any = true
        · rw [show giv n f m g a c any i = msk (bgP n f i) (n + 2) from if_pos c3, if_pos c3, mt_begins h hq (by omega)]
          by_cases c4 : wk n f m g a c i (en n f i)
          · rw [cnd_t c4]
            simp (disch := omega) only [li_0, li_1, li_2, li_3, li_4, li_5, li_7, li_8, li_12, li_16, li_23, li_24, li_31, li_40, li_42, li_47, li_63, li_64, li_76, li_77, li_97, li_122, li_200, li_201, li_1000, li_1824, li_9999, li_16000, nI_add, nx_or, nx_and, pk_mul, nx_xor, nI_leI, nI_ltI, nI_eq, nI_clamp, vp_nI, px_sub, px_shl, px_shl2, px_shr2, px_bit, Bool.true_eq_false, Bool.false_eq_true, hol_0, hol_1, px_chr, chk, cnd_true, cnd_false, cnd_ite, bnd_s, nmv, exR, if_pos, if_neg, if_true, if_false, reduceIte, eq_self, not_true_eq_false, not_false_eq_true, c1, c2, show ¬ n < i by omega]
          · rw [cnd_f c4]
            simp (disch := omega) only [li_0, li_1, li_2, li_3, li_4, li_5, li_7, li_8, li_12, li_16, li_23, li_24, li_31, li_40, li_42, li_47, li_63, li_64, li_76, li_77, li_97, li_122, li_200, li_201, li_1000, li_1824, li_9999, li_16000, nI_add, nx_or, nx_and, pk_mul, nx_xor, nI_leI, nI_ltI, nI_eq, nI_clamp, vp_nI, px_sub, px_shl, px_shl2, px_shr2, px_bit, Bool.true_eq_false, Bool.false_eq_true, hol_0, hol_1, px_chr, chk, cnd_true, cnd_false, cnd_ite, bnd_s, nmv, exR, if_pos, if_neg, if_true, if_false, reduceIte, eq_self, not_true_eq_false, not_false_eq_true, c1, c2, show ¬ n < i by omega]
        · rw [if_neg c3]
          by_cases c4 : wk n f m g a c i (en n f i)
          · rw [show giv n f m g a c any i = 2 ^ (en n f i + 1) by unfold giv; rw [if_neg c3, cnd_t ⟨c2, c4⟩]]
            rw [cnd_t c4]
            simp (disch := omega) only [li_0, li_1, li_2, li_3, li_4, li_5, li_7, li_8, li_12, li_16, li_23, li_24, li_31, li_40, li_42, li_47, li_63, li_64, li_76, li_77, li_97, li_122, li_200, li_201, li_1000, li_1824, li_9999, li_16000, nI_add, nx_or, nx_and, pk_mul, nx_xor, nI_leI, nI_ltI, nI_eq, nI_clamp, vp_nI, px_sub, px_shl, px_shl2, px_shr2, px_bit, Bool.true_eq_false, Bool.false_eq_true, hol_0, hol_1, px_chr, chk, cnd_true, cnd_false, cnd_ite, bnd_s, nmv, exR, if_pos, if_neg, if_true, if_false, reduceIte, eq_self, not_true_eq_false, not_false_eq_true, c1, c2, show ¬ n < i by omega, p2s]
          · rw [show giv n f m g a c any i = 0 by unfold giv; rw [if_neg c3, cnd_f (fun q => c4 q.2)]]
            rw [cnd_f c4]
            simp (disch := omega) only [li_0, li_1, li_2, li_3, li_4, li_5, li_7, li_8, li_12, li_16, li_23, li_24, li_31, li_40, li_42, li_47, li_63, li_64, li_76, li_77, li_97, li_122, li_200, li_201, li_1000, li_1824, li_9999, li_16000, nI_add, nx_or, nx_and, pk_mul, nx_xor, nI_leI, nI_ltI, nI_eq, nI_clamp, vp_nI, px_sub, px_shl, px_shl2, px_shr2, px_bit, Bool.true_eq_false, Bool.false_eq_true, hol_0, hol_1, px_chr, chk, cnd_true, cnd_false, cnd_ite, bnd_s, nmv, exR, if_pos, if_neg, if_true, if_false, reduceIte, eq_self, not_true_eq_false, not_false_eq_true, c1, c2, show ¬ n < i by omega]
      · by_cases c3 : any = true
        · rw [show giv n f m g a c any i = msk (bgP n f i) (n + 2) from if_pos c3, if_pos c3, mt_begins h hq (by omega)]
          simp (disch := omega) only [li_0, li_1, li_2, li_3, li_4, li_5, li_7, li_8, li_12, li_16, li_23, li_24, li_31, li_40, li_42, li_47, li_63, li_64, li_76, li_77, li_97, li_122, li_200, li_201, li_1000, li_1824, li_9999, li_16000, nI_add, nx_or, nx_and, pk_mul, nx_xor, nI_leI, nI_ltI, nI_eq, nI_clamp, vp_nI, px_sub, px_shl, px_shl2, px_shr2, px_bit, Bool.true_eq_false, Bool.false_eq_true, hol_0, hol_1, px_chr, chk, cnd_true, cnd_false, cnd_ite, bnd_s, nmv, exR, if_pos, if_neg, if_true, if_false, reduceIte, eq_self, not_true_eq_false, not_false_eq_true, c1, c2, show n < i by omega]
        · rw [show giv n f m g a c any i = 0 by unfold giv; rw [if_neg c3, cnd_f (fun q => c2 q.1)], if_neg c3]
          simp (disch := omega) only [li_0, li_1, li_2, li_3, li_4, li_5, li_7, li_8, li_12, li_16, li_23, li_24, li_31, li_40, li_42, li_47, li_63, li_64, li_76, li_77, li_97, li_122, li_200, li_201, li_1000, li_1824, li_9999, li_16000, nI_add, nx_or, nx_and, pk_mul, nx_xor, nI_leI, nI_ltI, nI_eq, nI_clamp, vp_nI, px_sub, px_shl, px_shl2, px_shr2, px_bit, Bool.true_eq_false, Bool.false_eq_true, hol_0, hol_1, px_chr, chk, cnd_true, cnd_false, cnd_ite, bnd_s, nmv, exR, if_pos, if_neg, if_true, if_false, reduceIte, eq_self, not_true_eq_false, not_false_eq_true, c1, c2, show n < i by omega]
    · rw [if_neg c1]
      simp (disch := omega) only [li_0, li_1, li_2, li_3, li_4, li_5, li_7, li_8, li_12, li_16, li_23, li_24, li_31, li_40, li_42, li_47, li_63, li_64, li_76, li_77, li_97, li_122, li_200, li_201, li_1000, li_1824, li_9999, li_16000, nI_add, nx_or, nx_and, pk_mul, nx_xor, nI_leI, nI_ltI, nI_eq, nI_clamp, vp_nI, px_sub, px_shl, px_shl2, px_shr2, px_bit, Bool.true_eq_false, Bool.false_eq_true, hol_0, hol_1, px_chr, chk, cnd_true, cnd_false, cnd_ite, bnd_s, nmv, exR, if_pos, if_neg, if_true, if_false, reduceIte, eq_self, not_true_eq_false, not_false_eq_true, c1]
  · unfold fX8_isMatched_86 fX8_isMatched_208
    simp only [li_1]
    rw [nI_clamp (by omega), h.1]
    simp (disch := omega) only [li_0, li_1, li_2, li_3, li_4, li_5, li_7, li_8, li_12, li_16, li_23, li_24, li_31, li_40, li_42, li_47, li_63, li_64, li_76, li_77, li_97, li_122, li_200, li_201, li_1000, li_1824, li_9999, li_16000, nI_add, nx_or, nx_and, pk_mul, nx_xor, nI_leI, nI_ltI, nI_eq, nI_clamp, vp_nI, px_sub, px_shl, px_shl2, px_shr2, px_bit, Bool.true_eq_false, Bool.false_eq_true, hol_0, hol_1, px_chr, chk, cnd_true, cnd_false, cnd_ite, bnd_s, nmv, exR, if_pos, if_neg, if_true, if_false, reduceIte, eq_self, not_true_eq_false, not_false_eq_true]
theorem mm_seg {M : Mem} {q n r m : Nat} {f g : Nat → Nat} (h : PV M q n f) (hq : q < 24) (hg : MV M r m g) (hr : r < 77) {a c S : Nat} (any : Bool) (hS : S < 2 ^ (n + 2)) (hc : a + c ≤ m) (he : sgn m g (a + c) = 47) (hs : ∀ i, a ≤ i → i < a + c → sgn m g i ≠ 47) (ha : any = decide (c = 2 ∧ sgn m g a = 42 ∧ sgn m g (a + 1) = 42)) : lp (fX8_isMatched_5 M (nI r) (nI q)) (nI S, nI a) = lp (fX8_isMatched_5 M (nI r) (nI q)) (nI (uni S (giv n f m g a c any) (n + 2)), nI (a + c + 1)) := by
  have hn := h.2.1
  have hm := hg.2.1
  have h1 := mv_lt hg a
  have h2 := mv_lt hg (a + 1)
  refine lp_go ?_
  unfold fX8_isMatched_5
  simp only []
  rw [nI_clamp (by omega), hg.1, chk_t (by rw [vp_nI (by omega)]; omega), cnd_f (by rw [nI_ltI (by omega) (by omega)]; omega)]
  refine lp_for (fun i => nI (a + i)) c (fun i hi => ?_) ?_
  · unfold fX8_isMatched_20
    have g1 := mv_lt hg (a + i)
    have g2 := hs (a + i) (by omega) (by omega)
    simp only [li_47, li_1]
    rw [mt_at hg hr (by omega)]
    simp (disch := omega) only [li_0, li_1, li_2, li_3, li_4, li_5, li_7, li_8, li_12, li_16, li_23, li_24, li_31, li_40, li_42, li_47, li_63, li_64, li_76, li_77, li_97, li_122, li_200, li_201, li_1000, li_1824, li_9999, li_16000, nI_add, nx_or, nx_and, pk_mul, nx_xor, nI_leI, nI_ltI, nI_eq, nI_clamp, vp_nI, px_sub, px_shl, px_shl2, px_shr2, px_bit, Bool.true_eq_false, Bool.false_eq_true, hol_0, hol_1, px_chr, chk, cnd_true, cnd_false, cnd_ite, bnd_s, nmv, exR, if_pos, if_neg, if_true, if_false, reduceIte, eq_self, not_true_eq_false, not_false_eq_true, g2, Nat.add_assoc]
  · unfold fX8_isMatched_20 fX8_isMatched_38 fX8_isMatched_77 fX8_isMatched_78
    simp only [li_47, li_2, li_42]
    rw [mt_at hg hr (by omega), he, bnd_s, cnd_t rfl, px_sub (by omega), show a + c - a = c by omega, mt_at hg hr (by omega), show (1 : Int32) = nI 1 from rfl, nI_add, mt_at hg hr (by omega)]
    congr 1
    rw [← mm_in h hq hg hr any hS hc hs]
    by_cases c1 : c = 2
    · by_cases c2 : sgn m g a = 42
      · by_cases c3 : sgn m g (a + 1) = 42
        · rw [show any = true by rw [ha]; simp [c1, c2, c3]]
          simp (disch := omega) only [li_0, li_1, li_2, li_3, li_4, li_5, li_7, li_8, li_12, li_16, li_23, li_24, li_31, li_40, li_42, li_47, li_63, li_64, li_76, li_77, li_97, li_122, li_200, li_201, li_1000, li_1824, li_9999, li_16000, nI_add, nx_or, nx_and, pk_mul, nx_xor, nI_leI, nI_ltI, nI_eq, nI_clamp, vp_nI, px_sub, px_shl, px_shl2, px_shr2, px_bit, Bool.true_eq_false, Bool.false_eq_true, hol_0, hol_1, px_chr, chk, cnd_true, cnd_false, cnd_ite, bnd_s, nmv, exR, if_pos, if_neg, if_true, if_false, reduceIte, eq_self, not_true_eq_false, not_false_eq_true, c1, c2, c3]
        · rw [show any = false by rw [ha]; simp [c3]]
          simp (disch := omega) only [li_0, li_1, li_2, li_3, li_4, li_5, li_7, li_8, li_12, li_16, li_23, li_24, li_31, li_40, li_42, li_47, li_63, li_64, li_76, li_77, li_97, li_122, li_200, li_201, li_1000, li_1824, li_9999, li_16000, nI_add, nx_or, nx_and, pk_mul, nx_xor, nI_leI, nI_ltI, nI_eq, nI_clamp, vp_nI, px_sub, px_shl, px_shl2, px_shr2, px_bit, Bool.true_eq_false, Bool.false_eq_true, hol_0, hol_1, px_chr, chk, cnd_true, cnd_false, cnd_ite, bnd_s, nmv, exR, if_pos, if_neg, if_true, if_false, reduceIte, eq_self, not_true_eq_false, not_false_eq_true, c1, c2, c3, Bool.false_eq_true]
      · rw [show any = false by rw [ha]; simp [c2]]
        simp (disch := omega) only [li_0, li_1, li_2, li_3, li_4, li_5, li_7, li_8, li_12, li_16, li_23, li_24, li_31, li_40, li_42, li_47, li_63, li_64, li_76, li_77, li_97, li_122, li_200, li_201, li_1000, li_1824, li_9999, li_16000, nI_add, nx_or, nx_and, pk_mul, nx_xor, nI_leI, nI_ltI, nI_eq, nI_clamp, vp_nI, px_sub, px_shl, px_shl2, px_shr2, px_bit, Bool.true_eq_false, Bool.false_eq_true, hol_0, hol_1, px_chr, chk, cnd_true, cnd_false, cnd_ite, bnd_s, nmv, exR, if_pos, if_neg, if_true, if_false, reduceIte, eq_self, not_true_eq_false, not_false_eq_true, c1, c2, Bool.false_eq_true]
    · rw [show any = false by rw [ha]; simp [c1]]
      simp (disch := omega) only [li_0, li_1, li_2, li_3, li_4, li_5, li_7, li_8, li_12, li_16, li_23, li_24, li_31, li_40, li_42, li_47, li_63, li_64, li_76, li_77, li_97, li_122, li_200, li_201, li_1000, li_1824, li_9999, li_16000, nI_add, nx_or, nx_and, pk_mul, nx_xor, nI_leI, nI_ltI, nI_eq, nI_clamp, vp_nI, px_sub, px_shl, px_shl2, px_shr2, px_bit, Bool.true_eq_false, Bool.false_eq_true, hol_0, hol_1, px_chr, chk, cnd_true, cnd_false, cnd_ite, bnd_s, nmv, exR, if_pos, if_neg, if_true, if_false, reduceIte, eq_self, not_true_eq_false, not_false_eq_true, c1, Bool.false_eq_true]
theorem mm_end {M : Mem} {q n r m : Nat} {f g : Nat → Nat} (h : PV M q n f) (hq : q < 24) (hg : MV M r m g) (hr : r < 77) {a S : Nat} (hS : S < 2 ^ (n + 2)) (ha : m < a) (ha2 : a < 1000) : lp (fX8_isMatched_5 M (nI r) (nI q)) (nI S, nI a) = some (nI (if S.testBit (n + 1) then 1 else 0)) := by
  have hn := h.2.1
  have hm := hg.2.1
  have h26 := lt26 hS hn
  refine lp_exq ?_
  unfold fX8_isMatched_5 fX8_isMatched_220
  simp only [li_1, li_0]
  rw [nI_clamp (by omega), hg.1, nI_clamp (by omega), h.1]
  by_cases c : S.testBit (n + 1) = true
  · simp (disch := omega) only [li_0, li_1, li_2, li_3, li_4, li_5, li_7, li_8, li_12, li_16, li_23, li_24, li_31, li_40, li_42, li_47, li_63, li_64, li_76, li_77, li_97, li_122, li_200, li_201, li_1000, li_1824, li_9999, li_16000, nI_add, nx_or, nx_and, pk_mul, nx_xor, nI_leI, nI_ltI, nI_eq, nI_clamp, vp_nI, px_sub, px_shl, px_shl2, px_shr2, px_bit, Bool.true_eq_false, Bool.false_eq_true, hol_0, hol_1, px_chr, chk, cnd_true, cnd_false, cnd_ite, bnd_s, nmv, exR, if_pos, if_neg, if_true, if_false, reduceIte, eq_self, not_true_eq_false, not_false_eq_true, c]
  · simp (disch := omega) only [li_0, li_1, li_2, li_3, li_4, li_5, li_7, li_8, li_12, li_16, li_23, li_24, li_31, li_40, li_42, li_47, li_63, li_64, li_76, li_77, li_97, li_122, li_200, li_201, li_1000, li_1824, li_9999, li_16000, nI_add, nx_or, nx_and, pk_mul, nx_xor, nI_leI, nI_ltI, nI_eq, nI_clamp, vp_nI, px_sub, px_shl, px_shl2, px_shr2, px_bit, Bool.true_eq_false, Bool.false_eq_true, hol_0, hol_1, px_chr, chk, cnd_true, cnd_false, cnd_ite, bnd_s, nmv, exR, if_pos, if_neg, if_true, if_false, reduceIte, eq_self, not_true_eq_false, not_false_eq_true, c]
/-- both answer the same: v -/
theorem cov_lp {C M : Mem} {o p q n r m : Nat} {f g : Nat → Nat} (hp : TV C p n f) (hg : TV C o m g) (h : PV M q n f) (hq : q < 24) (hm : MV M r m g) (hr : r < 77) (hf : ¬ HE n f) (hD : ¬ HD m g) : ∀ d a S, m + 1 - a = d → a ≤ m + 1 → prs m g a = 47 → S < 2 ^ (n + 2) → ∃ b : Bool, lp (fX6_covers_4 C o p) (nI S, nI a) = some (nI (if b then 1 else 0)) ∧ lp (fX8_isMatched_5 M (nI r) (nI q)) (nI S, nI a) = some (nI (if b then 1 else 0)) := by
  intro d
  induction d using Nat.strongRecOn with
  | _ d ih =>
    intro a S hd ha hpr hS
    have hm2 := hm.2.1
    by_cases hl : a ≤ m
    · obtain ⟨e, ⟨e1, e2⟩, e3, e4⟩ := en_ex g hl
      obtain ⟨c, rfl⟩ : ∃ c, e = a + c := ⟨e - a, by omega⟩
      have hseg := mm_seg h hq hm hr (a := a) (c := c) (S := S) (decide (c = 2 ∧ sgn m g a = 42 ∧ sgn m g (a + 1) = 42)) hS e3 e2 e4 rfl
      have key : ∃ X, X < 2 ^ (n + 2) ∧ lp (fX6_covers_4 C o p) (nI S, nI a) = lp (fX6_covers_4 C o p) (nI X, nI (a + c + 1)) ∧ uni S (giv n f m g a c (decide (c = 2 ∧ sgn m g a = 42 ∧ sgn m g (a + 1) = 42))) (n + 2) = X := by
        by_cases any : c = 2 ∧ sgn m g a = 42 ∧ sgn m g (a + 1) = 42
        · obtain ⟨X, x1, x2, x3⟩ := tc_dbl hp hg hS hl any.2.1 any.2.2
          refine ⟨X, x1, by rw [x3, any.1], ?_⟩
          apply Nat.eq_of_testBit_eq
          intro k
          rw [Bool.eq_iff_iff, x2, uni_bit]
          unfold giv
          rw [decide_eq_true any]
          simp only [if_true]
          simp only [msk_bit, bgP, Bool.and_eq_true, Bool.or_eq_true, decide_eq_true_eq]
          constructor
          · rintro ⟨j, j1, j2, j3, j4, (j5 | ⟨j5, j6⟩)⟩
            · refine ⟨j, j2, j4, by omega, ?_⟩
              rw [j5]
              exact sgn_ge (Nat.le_refl _)
            · exact ⟨j, j2, j4, by omega, j5⟩
          · rintro ⟨j, j1, j2, j3, j4⟩
            refine ⟨j, bit_le hS j1, j1, by omega, j2, ?_⟩
            by_cases q1 : k = n + 1
            · exact Or.inl q1
            · refine Or.inr ⟨j4, ?_⟩
              apply Classical.byContradiction
              intro q2
              exact hf ⟨k, by omega, j4, sgn_ge (by omega)⟩
        · have hs : ∀ i, a ≤ i → i < a + c → sgn m g i ≠ 47 ∧ ¬ (sgn m g i = 42 ∧ sgn m g (i + 1) = 42) := by
            intro i i1 i2
            refine ⟨e4 i i1 i2, fun i3 => ?_⟩
            have i4 : prs m g i = 47 ∧ sgn m g (i + 2) = 47 := Classical.byContradiction fun q => hD ⟨i, by omega, i3.1, i3.2, q⟩
            have i5 : i = a := by
              apply Classical.byContradiction
              intro q
              have i6 := i4.1
              unfold prs at i6
              rw [if_neg (by omega)] at i6
              exact e4 (i - 1) (by omega) (by omega) i6
            subst i5
            have i7 : c = 2 := by
              apply Classical.byContradiction
              intro q
              by_cases q1 : c = 1
              · subst q1
                rw [i3.2] at e2
                cases e2
              · exact e4 (i + 2) (by omega) (by omega) i4.2
            exact any ⟨i7, i3.1, i3.2⟩
          obtain ⟨X, x1, x2, x3⟩ := tc_ord hp hg hS e3 e2 hs
          refine ⟨X, x1, x3, ?_⟩
          apply Nat.eq_of_testBit_eq
          intro k
          rw [Bool.eq_iff_iff, x2, uni_bit]
          unfold giv
          rw [decide_eq_false any]
          simp only [Bool.false_eq_true, if_false]
          constructor
          · rintro ⟨j, j1, j2, j3⟩
            by_cases q1 : j ≤ n ∧ wk n f m g a c j (en n f j)
            · rw [cnd_t q1, Nat.testBit_two_pow, decide_eq_true_iff] at j3
              obtain ⟨⟨a1, a2⟩, a3, a4⟩ := en_s f q1.1
              exact ⟨j, en n f j, j2, a3, j3.symm, a2, q1.2⟩
            · rw [cnd_f q1, Nat.zero_testBit] at j3
              cases j3
          · rintro ⟨j, e, j1, j2, j3, j4, j5⟩
            obtain ⟨w1, w2⟩ := wk_mono e4 j5
            have w3 := en_u w1 j2 j4 w2
            rw [w3] at j5
            refine ⟨j, bit_le hS j1, j1, ?_⟩
            rw [cnd_t ⟨by omega, j5⟩, Nat.testBit_two_pow, decide_eq_true_iff, j3, w3]
      obtain ⟨X, x1, x2, x3⟩ := key
      rw [x3] at hseg
      rw [hseg, x2]
      exact ih (m + 1 - (a + c + 1)) (by omega) (a + c + 1) X rfl (by omega) (by unfold prs; rw [if_neg (by omega)]; exact e2) x1
    · exact ⟨S.testBit (n + 1), tc_end hp hg hS (by omega) (by omega), mm_end h hq hm hr hS (by omega) (by omega)⟩
theorem cov_eq {C M : Mem} {o p q n r m : Nat} {f g : Nat → Nat} (hp : TV C p n f) (hg : TV C o m g) (h : PV M q n f) (hq : q < 24) (hm : MV M r m g) (hr : r < 77) (hf : ¬ HE n f) (hD : ¬ HD m g) : ∃ b : Bool, fX6_covers C o p = some (nI (if b then 1 else 0)) ∧ fX8_isMatched M (nI r) (nI q) = some (nI (if b then 1 else 0)) := by
  have h1 : 1 < 2 ^ (n + 2) := Nat.one_lt_two_pow (by omega)
  exact cov_lp hp hg h hq hm hr hf hD (m + 1) 0 1 (by omega) (by omega) rfl h1
