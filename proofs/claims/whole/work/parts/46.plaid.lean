/-! isLaid -/
def hiN (z t : Nat) : Nat := (2 ^ (z + 1) - 1) &&& ((2 ^ t - 1) ^^^ 4294967295)
theorem hiN_bit {z t k : Nat} (hz : z < 30) : (hiN z t).testBit k = true ↔ t ≤ k ∧ k ≤ z := by
  unfold hiN
  rw [Nat.testBit_and, Nat.testBit_xor, Nat.testBit_two_pow_sub_one, Nat.testBit_two_pow_sub_one, show 4294967295 = 2 ^ 32 - 1 by decide, Nat.testBit_two_pow_sub_one]
  by_cases h1 : k < z + 1
  · by_cases h2 : k < t
    · simp [h1, h2, show k < 32 by omega]
      omega
    · simp [h1, h2, show k < 32 by omega]
      omega
  · simp [h1]
    omega
def lyN (z s L : Nat) (w : Nat → Bool) : Nat → Nat
  | 0 => 0
  | t + 1 => if L.testBit t = true then (if s = 42 then lyN z s L w t ||| hiN z t else if w t = true then lyN z s L w t ||| 2 ^ (t + 1) else lyN z s L w t) else lyN z s L w t
theorem lyN_s (z s L : Nat) (w : Nat → Bool) (t : Nat) : lyN z s L w (t + 1) = if L.testBit t = true then (if s = 42 then lyN z s L w t ||| hiN z t else if w t = true then lyN z s L w t ||| 2 ^ (t + 1) else lyN z s L w t) else lyN z s L w t := rfl
theorem lyN_bit {z s L : Nat} {w : Nat → Bool} (hz : z < 30) : ∀ T k, (lyN z s L w T).testBit k = true ↔ ∃ t, t < T ∧ L.testBit t = true ∧ ((s = 42 ∧ t ≤ k ∧ k ≤ z) ∨ (s ≠ 42 ∧ w t = true ∧ k = t + 1))
  | 0, k => by
    show (0 : Nat).testBit k = true ↔ _
    rw [Nat.zero_testBit]
    constructor
    · intro h; cases h
    · rintro ⟨t, h, _⟩; omega
  | T + 1, k => by
    have ih := lyN_bit (s := s) (L := L) (w := w) hz T k
    have up : (∃ t, t < T + 1 ∧ L.testBit t = true ∧ ((s = 42 ∧ t ≤ k ∧ k ≤ z) ∨ (s ≠ 42 ∧ w t = true ∧ k = t + 1))) ↔ (lyN z s L w T).testBit k = true ∨ (L.testBit T = true ∧ ((s = 42 ∧ T ≤ k ∧ k ≤ z) ∨ (s ≠ 42 ∧ w T = true ∧ k = T + 1))) := by
      rw [ih]
      constructor
      · rintro ⟨t, h1, h2⟩
        by_cases e : t = T
        · subst e; exact Or.inr h2
        · exact Or.inl ⟨t, by omega, h2⟩
      · rintro (⟨t, h1, h2⟩ | h)
        · exact ⟨t, by omega, h2⟩
        · exact ⟨T, by omega, h⟩
    rw [up]
    rw [lyN_s]
    by_cases c1 : L.testBit T = true
    · rw [if_pos c1]
      by_cases c2 : s = 42
      · rw [if_pos c2, Nat.testBit_or, Bool.or_eq_true, hiN_bit hz]
        simp [c1, c2]
      · rw [if_neg c2]
        by_cases c3 : w T = true
        · rw [if_pos c3, Nat.testBit_or, Bool.or_eq_true, Nat.testBit_two_pow, decide_eq_true_iff]
          constructor
          · rintro (h | h)
            · exact Or.inl h
            · exact Or.inr ⟨c1, Or.inr ⟨c2, c3, h.symm⟩⟩
          · rintro (h | ⟨_, ⟨h, _⟩ | ⟨_, _, h⟩⟩)
            · exact Or.inl h
            · exact absurd h c2
            · exact Or.inr h.symm
        · rw [if_neg c3]
          simp [c2, c3]
    · rw [if_neg c1]
      simp [c1]
theorem p2s (t : Nat) : 2 * 2 ^ t = 2 ^ (t + 1) := by rw [Nat.pow_succ, Nat.mul_comm]
theorem mt_lay {M : Mem} {q n : Nat} {f : Nat → Nat} (h : PV M q n f) (hq : q < 24) {b e s L x : Nat} (a1 a3 : Int32) (h1 : b ≤ e) (h2 : e ≤ n) (h4 : ∀ i, b ≤ i → i < e → sgn n f i ≠ 47) (hs : s < 128) (hL : L < 67108864) : lp (fX8_isLaid_40 M a1 a3 (nI q) (nI b) (nI e) (nI s) (nI L, nI x) (nI (2 ^ (e - b + 1) - 1))) ((0 : Int32), (0 : Int32)) = some (.inl (nI (lyN (e - b) s L (fun t => decide (t < e - b) && fit n f s (b + t)) (e - b + 1)), nI (x + 1))) := by
  have hn := h.2.1
  have ez : nI e - nI b = nI (e - b) := px_sub h1
  refine lp_for (fun t => (nI (lyN (e - b) s L (fun t => decide (t < e - b) && fit n f s (b + t)) t), nI t)) (e - b + 1) (fun t ht => ?_) ?_
  · unfold fX8_isLaid_40 fX8_isLaid_94 fX8_isLaid_98 fX8_isLaid_99 fX8_isLaid_137 fX8_isLaid_140
    rw [li_m1, ez]
    simp only [li_1, li_0, li_42, li_63, li_2]
    have p1 : 0 < 2 ^ t := Nat.two_pow_pos t
    have g1 := pv_lt h (b + t)
    rw [nI_add b t, pt_at h hq (by omega)]
    rw [lyN_s]
    by_cases c1 : L.testBit t = true
    · rw [if_pos c1]
      by_cases c2 : s = 42
      · rw [if_pos c2]
        subst c2
        unfold hiN
        by_cases c3 : t < e - b
        · by_cases c4 : (42 : Nat) = sgn n f (b + t)
          · simp (disch := omega) only [li_0, li_1, li_2, li_3, li_4, li_5, li_7, li_8, li_12, li_16, li_23, li_24, li_31, li_40, li_42, li_47, li_63, li_64, li_76, li_77, li_97, li_122, li_200, li_201, li_1000, li_1824, li_9999, li_16000, nI_add, nx_or, nx_and, pk_mul, nx_xor, nI_leI, nI_ltI, nI_eq, nI_clamp, vp_nI, px_sub, px_shl, px_shl2, px_shr2, px_bit, Bool.true_eq_false, Bool.false_eq_true, hol_0, hol_1, px_chr, chk, cnd_true, cnd_false, cnd_ite, bnd_s, nmv, exR, if_pos, if_neg, if_true, if_false, reduceIte, eq_self, not_true_eq_false, not_false_eq_true, c1, ← c4, show ¬ e - b ≤ t by omega, Nat.one_mul]
          · simp (disch := omega) only [li_0, li_1, li_2, li_3, li_4, li_5, li_7, li_8, li_12, li_16, li_23, li_24, li_31, li_40, li_42, li_47, li_63, li_64, li_76, li_77, li_97, li_122, li_200, li_201, li_1000, li_1824, li_9999, li_16000, nI_add, nx_or, nx_and, pk_mul, nx_xor, nI_leI, nI_ltI, nI_eq, nI_clamp, vp_nI, px_sub, px_shl, px_shl2, px_shr2, px_bit, Bool.true_eq_false, Bool.false_eq_true, hol_0, hol_1, px_chr, chk, cnd_true, cnd_false, cnd_ite, bnd_s, nmv, exR, if_pos, if_neg, if_true, if_false, reduceIte, eq_self, not_true_eq_false, not_false_eq_true, c1, c4, show ¬ e - b ≤ t by omega, Nat.one_mul]
        · simp (disch := omega) only [li_0, li_1, li_2, li_3, li_4, li_5, li_7, li_8, li_12, li_16, li_23, li_24, li_31, li_40, li_42, li_47, li_63, li_64, li_76, li_77, li_97, li_122, li_200, li_201, li_1000, li_1824, li_9999, li_16000, nI_add, nx_or, nx_and, pk_mul, nx_xor, nI_leI, nI_ltI, nI_eq, nI_clamp, vp_nI, px_sub, px_shl, px_shl2, px_shr2, px_bit, Bool.true_eq_false, Bool.false_eq_true, hol_0, hol_1, px_chr, chk, cnd_true, cnd_false, cnd_ite, bnd_s, nmv, exR, if_pos, if_neg, if_true, if_false, reduceIte, eq_self, not_true_eq_false, not_false_eq_true, c1, show e - b ≤ t by omega, Nat.one_mul]
      · rw [if_neg c2]
        by_cases c3 : t < e - b
        · have g2 := h4 (b + t) (by omega) (by omega)
          by_cases c5 : s = 63
          · subst c5
            rw [if_pos (by simp [c3, fit, g2])]
            simp (disch := omega) only [li_0, li_1, li_2, li_3, li_4, li_5, li_7, li_8, li_12, li_16, li_23, li_24, li_31, li_40, li_42, li_47, li_63, li_64, li_76, li_77, li_97, li_122, li_200, li_201, li_1000, li_1824, li_9999, li_16000, nI_add, nx_or, nx_and, pk_mul, nx_xor, nI_leI, nI_ltI, nI_eq, nI_clamp, vp_nI, px_sub, px_shl, px_shl2, px_shr2, px_bit, Bool.true_eq_false, Bool.false_eq_true, hol_0, hol_1, px_chr, chk, cnd_true, cnd_false, cnd_ite, bnd_s, nmv, exR, if_pos, if_neg, if_true, if_false, reduceIte, eq_self, not_true_eq_false, not_false_eq_true, c1, show ¬ e - b ≤ t by omega, p2s]
          · by_cases c4 : s = sgn n f (b + t)
            · rw [if_pos (by simp [c3, fit, c5, ← c4])]
              rw [← c4]
              simp (disch := omega) only [li_0, li_1, li_2, li_3, li_4, li_5, li_7, li_8, li_12, li_16, li_23, li_24, li_31, li_40, li_42, li_47, li_63, li_64, li_76, li_77, li_97, li_122, li_200, li_201, li_1000, li_1824, li_9999, li_16000, nI_add, nx_or, nx_and, pk_mul, nx_xor, nI_leI, nI_ltI, nI_eq, nI_clamp, vp_nI, px_sub, px_shl, px_shl2, px_shr2, px_bit, Bool.true_eq_false, Bool.false_eq_true, hol_0, hol_1, px_chr, chk, cnd_true, cnd_false, cnd_ite, bnd_s, nmv, exR, if_pos, if_neg, if_true, if_false, reduceIte, eq_self, not_true_eq_false, not_false_eq_true, c1, c2, c5, show ¬ e - b ≤ t by omega, p2s]
            · rw [if_neg (by simp [c3, fit, c5, eq_comm, c4])]
              simp (disch := omega) only [li_0, li_1, li_2, li_3, li_4, li_5, li_7, li_8, li_12, li_16, li_23, li_24, li_31, li_40, li_42, li_47, li_63, li_64, li_76, li_77, li_97, li_122, li_200, li_201, li_1000, li_1824, li_9999, li_16000, nI_add, nx_or, nx_and, pk_mul, nx_xor, nI_leI, nI_ltI, nI_eq, nI_clamp, vp_nI, px_sub, px_shl, px_shl2, px_shr2, px_bit, Bool.true_eq_false, Bool.false_eq_true, hol_0, hol_1, px_chr, chk, cnd_true, cnd_false, cnd_ite, bnd_s, nmv, exR, if_pos, if_neg, if_true, if_false, reduceIte, eq_self, not_true_eq_false, not_false_eq_true, c1, c2, c5, c4, show ¬ e - b ≤ t by omega, Nat.or_zero]
        · rw [if_neg (by simp [c3])]
          simp (disch := omega) only [li_0, li_1, li_2, li_3, li_4, li_5, li_7, li_8, li_12, li_16, li_23, li_24, li_31, li_40, li_42, li_47, li_63, li_64, li_76, li_77, li_97, li_122, li_200, li_201, li_1000, li_1824, li_9999, li_16000, nI_add, nx_or, nx_and, pk_mul, nx_xor, nI_leI, nI_ltI, nI_eq, nI_clamp, vp_nI, px_sub, px_shl, px_shl2, px_shr2, px_bit, Bool.true_eq_false, Bool.false_eq_true, hol_0, hol_1, px_chr, chk, cnd_true, cnd_false, cnd_ite, bnd_s, nmv, exR, if_pos, if_neg, if_true, if_false, reduceIte, eq_self, not_true_eq_false, not_false_eq_true, c1, c2, show e - b ≤ t by omega, Nat.or_zero]
    · rw [if_neg c1]
      simp (disch := omega) only [li_0, li_1, li_2, li_3, li_4, li_5, li_7, li_8, li_12, li_16, li_23, li_24, li_31, li_40, li_42, li_47, li_63, li_64, li_76, li_77, li_97, li_122, li_200, li_201, li_1000, li_1824, li_9999, li_16000, nI_add, nx_or, nx_and, pk_mul, nx_xor, nI_leI, nI_ltI, nI_eq, nI_clamp, vp_nI, px_sub, px_shl, px_shl2, px_shr2, px_bit, Bool.true_eq_false, Bool.false_eq_true, hol_0, hol_1, px_chr, chk, cnd_true, cnd_false, cnd_ite, bnd_s, nmv, exR, if_pos, if_neg, if_true, if_false, reduceIte, eq_self, not_true_eq_false, not_false_eq_true, c1]
  · unfold fX8_isLaid_40 fX8_isLaid_146
    rw [ez]
    simp only [li_1]
    rw [cnd_t (nI_lt (by omega) (by omega)), nI_add]
theorem b24 {L z : Nat} (hz : z ≤ 24) (h : ∀ k, L.testBit k = true → k ≤ z) : L < 67108864 := by
  have : L < 2 ^ 26 := by
    apply Nat.lt_pow_two_of_testBit
    intro i hi
    by_cases q : L.testBit i = true
    · have := h i q; omega
    · simpa using q
  exact this
theorem mt_laid {M : Mem} {q n r m : Nat} {f g : Nat → Nat} (h : PV M q n f) (hq : q < 24) (hg : MV M r m g) (hr : r < 77) {a c b e : Nat} (hc : a + c ≤ m) (hs : ∀ i, a ≤ i → i < a + c → sgn m g i ≠ 47) (h1 : b ≤ e) (h2 : e ≤ n) (h4 : ∀ i, b ≤ i → i < e → sgn n f i ≠ 47) : fX8_isLaid M (nI r) (nI a) (nI (a + c)) (nI q) (nI b) (nI e) = some (nI (cnd (wk n f m g a c b e) 1 0)) := by
  have hn := h.2.1
  have hm := hg.2.1
  unfold fX8_isLaid
  have ev : ((1 : Int32) <<< ((nI e - nI b + 1) &&& 31)) - 1 = nI (2 ^ (e - b + 1) - 1) := by
    have := Nat.two_pow_pos (e - b + 1)
    rw [px_sub h1]
    simp (disch := omega) only [li_0, li_1, li_2, li_3, li_4, li_5, li_7, li_8, li_12, li_16, li_23, li_24, li_31, li_40, li_42, li_47, li_63, li_64, li_76, li_77, li_97, li_122, li_200, li_201, li_1000, li_1824, li_9999, li_16000, nI_add, nx_or, nx_and, pk_mul, nx_xor, nI_leI, nI_ltI, nI_eq, nI_clamp, vp_nI, px_sub, px_shl, px_shl2, px_shr2, px_bit, Bool.true_eq_false, Bool.false_eq_true, hol_0, hol_1, px_chr, chk, cnd_true, cnd_false, cnd_ite, bnd_s, nmv, exR, if_pos, if_neg, if_true, if_false, reduceIte, eq_self, not_true_eq_false, not_false_eq_true, Nat.one_mul]
  rw [ev]
  simp only [nmv]
  have st : ∀ c', c' ≤ c → ∃ L, (∀ k, L.testBit k = true ↔ k ≤ e - b ∧ wk n f m g a c' b (b + k)) ∧ lp (fX8_isLaid_19 M (nI r) (nI (a + c)) (nI q) (nI b) (nI e) (nI (2 ^ (e - b + 1) - 1))) ((1 : Int32), nI a) = lp (fX8_isLaid_19 M (nI r) (nI (a + c)) (nI q) (nI b) (nI e) (nI (2 ^ (e - b + 1) - 1))) (nI L, nI (a + c')) := by
    intro c'
    induction c' with
    | zero =>
      intro _
      refine ⟨1, fun k => ?_, rfl⟩
      unfold wk
      rw [show (1 : Nat) = 2 ^ 0 from rfl, Nat.testBit_two_pow, decide_eq_true_iff]
      omega
    | succ c' ih =>
      intro hc'
      obtain ⟨L, l1, l2⟩ := ih (by omega)
      have hL : L < 67108864 := b24 (z := e - b) (by omega) (fun k hk => ((l1 k).mp hk).1)
      refine ⟨lyN (e - b) (sgn m g (a + c')) L (fun t => decide (t < e - b) && fit n f (sgn m g (a + c')) (b + t)) (e - b + 1), fun k => ?_, ?_⟩
      · rw [lyN_bit (by omega)]
        constructor
        · rintro ⟨t, t1, t2, (⟨t3, t4, t5⟩ | ⟨t3, t4, t5⟩)⟩
          · exact ⟨t5, b + t, ((l1 t).mp t2).2, Or.inl ⟨t3, by omega, fun i p q => h4 i (by omega) (by omega)⟩⟩
          · simp only [Bool.and_eq_true, decide_eq_true_eq] at t4
            exact ⟨by omega, b + t, ((l1 t).mp t2).2, Or.inr ⟨t3, by omega, t4.2⟩⟩
        · rintro ⟨k1, x, k2, k3⟩
          obtain ⟨w1, w2⟩ := wk_mono (fun i p q => hs i p (by omega)) k2
          have ex : x = b + (x - b) := by omega
          rcases k3 with ⟨k4, k5, k6⟩ | ⟨k4, k5, k6⟩
          · exact ⟨x - b, by omega, (l1 _).mpr ⟨by omega, by rw [← ex]; exact k2⟩, Or.inl ⟨k4, by omega, k1⟩⟩
          · refine ⟨x - b, by omega, (l1 _).mpr ⟨by omega, by rw [← ex]; exact k2⟩, Or.inr ⟨k4, ?_, by omega⟩⟩
            simp only [Bool.and_eq_true, decide_eq_true_eq]
            exact ⟨by omega, by rw [← ex]; exact k6⟩
      · rw [l2]
        refine lp_go ?_
        unfold fX8_isLaid_19
        rw [cnd_f (nI_ge (by omega) (by omega)), mt_at hg hr (by omega), bnd_s]
        exact mt_lay h hq _ _ h1 h2 h4 (mv_lt hg _) hL
  obtain ⟨L, l1, l2⟩ := st c (Nat.le_refl _)
  have hL : L < 67108864 := b24 (z := e - b) (by omega) (fun k hk => ((l1 k).mp hk).1)
  rw [l2]
  refine lp_exq ?_
  unfold fX8_isLaid_19 fX8_isLaid_156
  rw [cnd_t (nI_le (Nat.le_refl _) (by omega)), px_sub h1]
  simp only [li_31, li_1, li_0]
  rw [px_shr (by omega) (by omega), nx_and, px_bit, cnd_nI, cnd_some]
  congr 2
  apply cnd_iff
  rw [l1, show b + (e - b) = e by omega]
  exact ⟨fun q => q.2, fun q => ⟨Nat.le_refl _, q⟩⟩
