/-! covers: a segment of a glob -/
def one (n : Nat) (f : Nat → Nat) (s j k : Nat) : Prop := (s = 42 ∧ j ≤ k ∧ ∀ i, j ≤ i → i < k → sgn n f i ≠ 47) ∨ (s ≠ 42 ∧ k = j + 1 ∧ fit n f s j = true)
def nx (n : Nat) (f : Nat → Nat) (s S : Nat) : Nat := if s = 42 then olN n f S n else ovN n f s S
theorem olN_bit (n : Nat) (f : Nat → Nat) (S : Nat) : ∀ i k, (olN n f S i).testBit k = true ↔ ∃ j, j ≤ k ∧ S.testBit j = true ∧ ∀ x, j ≤ x → x < k → x < i ∧ f x ≠ 47
  | 0, k => by
    show S.testBit k = true ↔ _
    constructor
    · intro h
      exact ⟨k, Nat.le_refl _, h, fun x h1 h2 => by omega⟩
    · rintro ⟨j, h1, h2, h3⟩
      by_cases e : j = k
      · rw [← e]; exact h2
      · exact absurd (h3 j (Nat.le_refl _) (by omega)).1 (by omega)
  | i + 1, k => by
    have ih := olN_bit n f S i
    unfold olN
    by_cases c : (olN n f S i).testBit i = true ∧ f i ≠ 47
    · rw [if_pos c, Nat.testBit_or, Bool.or_eq_true, ih, Nat.testBit_two_pow, decide_eq_true_iff]
      constructor
      · rintro (⟨j, h1, h2, h3⟩ | h)
        · exact ⟨j, h1, h2, fun x a b => ⟨by have := (h3 x a b).1; omega, (h3 x a b).2⟩⟩
        · subst h
          obtain ⟨j, h1, h2, h3⟩ := (ih i).mp c.1
          refine ⟨j, by omega, h2, fun x a b => ?_⟩
          by_cases e : x = i
          · subst e; exact ⟨by omega, c.2⟩
          · exact ⟨by omega, (h3 x a (by omega)).2⟩
      · rintro ⟨j, h1, h2, h3⟩
        by_cases e : i + 1 = k
        · exact Or.inr e
        · refine Or.inl ⟨j, h1, h2, fun x a b => ⟨?_, (h3 x a b).2⟩⟩
          have q := (h3 x a b).1
          by_cases e2 : x = i
          · exact absurd (h3 (i + 1) (by omega) (by omega)).1 (by omega)
          · omega
    · rw [if_neg c, ih]
      constructor
      · rintro ⟨j, h1, h2, h3⟩
        exact ⟨j, h1, h2, fun x a b => ⟨by have := (h3 x a b).1; omega, (h3 x a b).2⟩⟩
      · rintro ⟨j, h1, h2, h3⟩
        refine ⟨j, h1, h2, fun x a b => ⟨?_, (h3 x a b).2⟩⟩
        have q := (h3 x a b).1
        by_cases e2 : x = i
        · subst e2
          exact absurd ⟨(ih x).mpr ⟨j, a, h2, fun y p q => ⟨q, (h3 y p (by omega)).2⟩⟩, (h3 x a b).2⟩ c
        · omega
theorem olN_lt2 (n : Nat) (f : Nat → Nat) {S N : Nat} (hS : S < 2 ^ N) : ∀ i, i < N → olN n f S i < 2 ^ N
  | 0, _ => hS
  | i + 1, h => by
    have ih := olN_lt2 n f hS i (by omega)
    unfold olN
    by_cases c : (olN n f S i).testBit i = true ∧ f i ≠ 47
    · rw [if_pos c]
      exact or_lt ih (p2_lt (by omega))
    · rw [if_neg c]
      exact ih
theorem nx_lt {n : Nat} {f : Nat → Nat} {s S : Nat} (hS : S < 2 ^ (n + 2)) : nx n f s S < 2 ^ (n + 2) := by
  unfold nx
  by_cases c : s = 42
  · rw [if_pos c]; exact olN_lt2 n f hS n (by omega)
  · rw [if_neg c]; exact msk_lt _ _
theorem bit_le {S N k : Nat} (hS : S < 2 ^ N) (h : S.testBit k = true) : k < N := by
  apply Classical.byContradiction
  intro hh
  rw [bit_lt hS (by omega)] at h
  cases h
theorem sgn_ge {n : Nat} {f : Nat → Nat} {k : Nat} (h : n ≤ k) : sgn n f k = 47 := if_neg (by omega)
theorem sgn_lo {n : Nat} {f : Nat → Nat} {k : Nat} (h : k < n) : sgn n f k = f k := if_pos h
theorem fit_ge {n : Nat} {f : Nat → Nat} {s k : Nat} (hs : s ≠ 47) (h : fit n f s k = true) : sgn n f k ≠ 47 := by
  unfold fit at h
  by_cases c : s = 63
  · rw [if_pos c] at h
    simpa using h
  · rw [if_neg c] at h
    rw [of_decide_eq_true h]
    exact hs
theorem nx_bit {n : Nat} {f : Nat → Nat} {s S : Nat} (hS : S < 2 ^ (n + 2)) (hs : s ≠ 47) (k : Nat) : (nx n f s S).testBit k = true ↔ ∃ j, S.testBit j = true ∧ one n f s j k := by
  unfold nx one
  by_cases c : s = 42
  · rw [if_pos c, olN_bit]
    constructor
    · rintro ⟨j, h1, h2, h3⟩
      refine ⟨j, h2, Or.inl ⟨c, h1, fun x a b => ?_⟩⟩
      have := h3 x a b
      rw [sgn_lo this.1]
      exact this.2
    · rintro ⟨j, h2, (⟨_, h1, h3⟩ | ⟨h, _⟩)⟩
      · refine ⟨j, h1, h2, fun x a b => ?_⟩
        have := h3 x a b
        by_cases hx : x < n
        · rw [sgn_lo hx] at this
          exact ⟨hx, this⟩
        · exact absurd (sgn_ge (by omega)) this
      · exact absurd c h
  · rw [if_neg c]
    unfold ovN
    rw [msk_bit]
    unfold ovP
    simp only [Bool.and_eq_true, decide_eq_true_eq]
    constructor
    · rintro ⟨h1, ⟨h2, h3⟩, h4⟩
      exact ⟨k - 1, h3, Or.inr ⟨c, by omega, h4⟩⟩
    · rintro ⟨j, h2, (⟨h, _⟩ | ⟨_, h1, h3⟩)⟩
      · exact absurd h c
      · subst h1
        have h5 := fit_ge hs h3
        have h6 : j < n := by
          apply Classical.byContradiction
          intro q
          exact h5 (sgn_ge (by omega))
        exact ⟨by omega, ⟨by omega, h2⟩, h3⟩
/-- over c signs of a glob from its place a on -/
def wk (n : Nat) (f : Nat → Nat) (m : Nat) (g : Nat → Nat) (a : Nat) : Nat → Nat → Nat → Prop
  | 0, j, k => j = k
  | c + 1, j, k => ∃ x, wk n f m g a c j x ∧ one n f (sgn m g (a + c)) x k
theorem wk_mono {n : Nat} {f : Nat → Nat} {m : Nat} {g : Nat → Nat} {a : Nat} : ∀ {c j k : Nat}, (∀ i, a ≤ i → i < a + c → sgn m g i ≠ 47) → wk n f m g a c j k → j ≤ k ∧ ∀ i, j ≤ i → i < k → sgn n f i ≠ 47
  | 0, j, k, _, h => by
    have h : j = k := h
    subst h
    exact ⟨Nat.le_refl _, fun i _ _ => by omega⟩
  | c + 1, j, k, hg, h => by
    obtain ⟨x, h1, h2⟩ := h
    obtain ⟨i1, i2⟩ := wk_mono (fun i p q => hg i p (by omega)) h1
    rcases h2 with ⟨_, h3, h4⟩ | ⟨_, h3, h4⟩
    · refine ⟨by omega, fun i p q => ?_⟩
      by_cases hx : i < x
      · exact i2 i p hx
      · exact h4 i (by omega) q
    · refine ⟨by omega, fun i p q => ?_⟩
      by_cases hx : i < x
      · exact i2 i p hx
      · have e : i = x := by omega
        rw [e]
        exact fit_ge (hg (a + c) (by omega) (by omega)) h4
theorem lt26 {S n : Nat} (h : S < 2 ^ (n + 2)) (hn : n ≤ 24) : S < 67108864 := Nat.lt_of_lt_of_le h (Nat.pow_le_pow_right (n := 2) (by decide) (by omega : n + 2 ≤ 26))
theorem tc_one {C : Mem} {o p n m : Nat} {f g : Nat → Nat} (h : TV C p n f) (hg : TV C o m g) {S a : Nat} (hS : S < 2 ^ (n + 2)) (ha : a ≤ m) (hd : ¬ (sgn m g a = 42 ∧ sgn m g (a + 1) = 42)) : lp (fX6_covers_4 C o p) (nI S, nI a) = lp (fX6_covers_4 C o p) (nI (nx n f (sgn m g a) S), nI (a + 1)) := by
  have hm := hg.2.1
  have hn := h.2.1
  have h1 := sgn_lt hg a
  have h2 := lt26 hS hn
  refine lp_go ?_
  unfold fX6_covers_4 fX6_covers_61
  simp only [li_1, li_0, li_42]
  rw [hg.1, tx_ds hg (by omega), tx_sign hg (by omega), cnd_f hd]
  unfold nx
  by_cases c : sgn m g a = 42
  · simp (disch := omega) only [li_0, li_1, li_2, li_3, li_4, li_5, li_7, li_8, li_12, li_16, li_23, li_24, li_31, li_40, li_42, li_47, li_63, li_64, li_76, li_77, li_97, li_122, li_200, li_201, li_1000, li_1824, li_9999, li_16000, nI_add, nx_or, nx_and, pk_mul, nx_xor, nI_leI, nI_ltI, nI_eq, nI_clamp, vp_nI, px_sub, px_shl, px_shl2, px_shr2, px_bit, Bool.true_eq_false, Bool.false_eq_true, hol_0, hol_1, px_chr, chk, cnd_true, cnd_false, cnd_ite, bnd_s, nmv, exR, if_pos, if_neg, if_true, if_false, reduceIte, eq_self, not_true_eq_false, not_false_eq_true, c, tx_ol h h2]
  · simp (disch := omega) only [li_0, li_1, li_2, li_3, li_4, li_5, li_7, li_8, li_12, li_16, li_23, li_24, li_31, li_40, li_42, li_47, li_63, li_64, li_76, li_77, li_97, li_122, li_200, li_201, li_1000, li_1824, li_9999, li_16000, nI_add, nx_or, nx_and, pk_mul, nx_xor, nI_leI, nI_ltI, nI_eq, nI_clamp, vp_nI, px_sub, px_shl, px_shl2, px_shr2, px_bit, Bool.true_eq_false, Bool.false_eq_true, hol_0, hol_1, px_chr, chk, cnd_true, cnd_false, cnd_ite, bnd_s, nmv, exR, if_pos, if_neg, if_true, if_false, reduceIte, eq_self, not_true_eq_false, not_false_eq_true, c, tx_over h h2 h1]
theorem tc_seg {C : Mem} {o p n m : Nat} {f g : Nat → Nat} (h : TV C p n f) (hg : TV C o m g) {S a : Nat} (hS : S < 2 ^ (n + 2)) : ∀ c, a + c ≤ m → (∀ i, a ≤ i → i < a + c → sgn m g i ≠ 47 ∧ ¬ (sgn m g i = 42 ∧ sgn m g (i + 1) = 42)) → ∃ X, X < 2 ^ (n + 2) ∧ (∀ k, X.testBit k = true ↔ ∃ j, S.testBit j = true ∧ wk n f m g a c j k) ∧ lp (fX6_covers_4 C o p) (nI S, nI a) = lp (fX6_covers_4 C o p) (nI X, nI (a + c))
  | 0, _, _ => ⟨S, hS, fun k => ⟨fun q => ⟨k, q, rfl⟩, fun ⟨j, q, e⟩ => by have e : j = k := e; rw [← e]; exact q⟩, rfl⟩
  | c + 1, hc, hs => by
    obtain ⟨X, x1, x2, x3⟩ := tc_seg h hg hS c (by omega) (fun i p q => hs i p (by omega))
    have hq := hs (a + c) (by omega) (by omega)
    refine ⟨nx n f (sgn m g (a + c)) X, nx_lt x1, fun k => ?_, ?_⟩
    · rw [nx_bit x1 hq.1]
      constructor
      · rintro ⟨x, h1, h2⟩
        obtain ⟨j, h3, h4⟩ := (x2 x).mp h1
        exact ⟨j, h3, x, h4, h2⟩
      · rintro ⟨j, h3, x, h4, h2⟩
        exact ⟨x, (x2 x).mpr ⟨j, h3, h4⟩, h2⟩
    · rw [x3, tc_one h hg x1 (by omega) hq.2]
      rfl
/-- a whole segment, and the '/' behind it -/
theorem tc_ord {C : Mem} {o p n m : Nat} {f g : Nat → Nat} (h : TV C p n f) (hg : TV C o m g) {S a c : Nat} (hS : S < 2 ^ (n + 2)) (hc : a + c ≤ m) (he : sgn m g (a + c) = 47) (hs : ∀ i, a ≤ i → i < a + c → sgn m g i ≠ 47 ∧ ¬ (sgn m g i = 42 ∧ sgn m g (i + 1) = 42)) : ∃ X, X < 2 ^ (n + 2) ∧ (∀ k, X.testBit k = true ↔ ∃ j e, S.testBit j = true ∧ e ≤ n ∧ k = e + 1 ∧ sgn n f e = 47 ∧ wk n f m g a c j e) ∧ lp (fX6_covers_4 C o p) (nI S, nI a) = lp (fX6_covers_4 C o p) (nI X, nI (a + c + 1)) := by
  obtain ⟨X, x1, x2, x3⟩ := tc_seg h hg hS c hc hs
  refine ⟨ovN n f 47 X, msk_lt _ _, fun k => ?_, ?_⟩
  · unfold ovN
    rw [msk_bit]
    unfold ovP fit
    rw [if_neg (by decide)]
    simp only [Bool.and_eq_true, decide_eq_true_eq]
    constructor
    · rintro ⟨h1, ⟨h2, h3⟩, h4⟩
      obtain ⟨j, h5, h6⟩ := (x2 (k - 1)).mp h3
      exact ⟨j, k - 1, h5, by omega, by omega, h4, h6⟩
    · rintro ⟨j, e, h1, h2, h3, h4, h5⟩
      subst h3
      exact ⟨by omega, ⟨by omega, (x2 e).mpr ⟨j, h1, h5⟩⟩, h4⟩
  · rw [x3, tc_one h hg x1 hc (fun q => by rw [he] at q; exact absurd q.1 (by decide)), he]
    rfl
/-- a '**' and the '/' behind it -/
theorem tc_dbl {C : Mem} {o p n m : Nat} {f g : Nat → Nat} (h : TV C p n f) (hg : TV C o m g) {S a : Nat} (hS : S < 2 ^ (n + 2)) (ha : a ≤ m) (h1 : sgn m g a = 42) (h2 : sgn m g (a + 1) = 42) : ∃ X, X < 2 ^ (n + 2) ∧ (∀ k, X.testBit k = true ↔ ∃ j, S.testBit j = true ∧ j ≤ k ∧ k ≤ n + 1 ∧ prs n f k = 47) ∧ lp (fX6_covers_4 C o p) (nI S, nI a) = lp (fX6_covers_4 C o p) (nI X, nI (a + 3)) := by
  have hm := hg.2.1
  have hn := h.2.1
  have h3 := lt26 hS hn
  refine ⟨stN n f S, msk_lt _ _, fun k => ?_, lp_go ?_⟩
  · unfold stN
    rw [msk_bit]
    unfold stP
    simp only [Bool.and_eq_true, decide_eq_true_eq]
    constructor
    · rintro ⟨a1, a2, a3⟩
      unfold an at a3
      by_cases q : ∃ i, i < k + 1 ∧ S.testBit i = true
      · obtain ⟨j, b1, b2⟩ := q
        exact ⟨j, b2, by omega, by omega, a2⟩
      · rw [cnd_f q] at a3
        cases a3
    · rintro ⟨j, a1, a2, a3, a4⟩
      exact ⟨by omega, a4, cnd_t ⟨j, by omega, a1⟩⟩
  · unfold fX6_covers_4 fX6_covers_61
    simp only [li_1, li_0, li_42, li_3]
    rw [hg.1, tx_ds hg (by omega), cnd_t (show sgn m g a = 42 ∧ sgn m g (a + 1) = 42 from ⟨h1, h2⟩), tx_st h h3, nI_add]
    simp (disch := omega) only [li_0, li_1, li_2, li_3, li_4, li_5, li_7, li_8, li_12, li_16, li_23, li_24, li_31, li_40, li_42, li_47, li_63, li_64, li_76, li_77, li_97, li_122, li_200, li_201, li_1000, li_1824, li_9999, li_16000, nI_add, nx_or, nx_and, pk_mul, nx_xor, nI_leI, nI_ltI, nI_eq, nI_clamp, vp_nI, px_sub, px_shl, px_shl2, px_shr2, px_bit, Bool.true_eq_false, Bool.false_eq_true, hol_0, hol_1, px_chr, chk, cnd_true, cnd_false, cnd_ite, bnd_s, nmv, exR, if_pos, if_neg, if_true, if_false, reduceIte, eq_self, not_true_eq_false, not_false_eq_true]
/-- the end of covers -/
theorem tc_end {C : Mem} {o p n m : Nat} {f g : Nat → Nat} (h : TV C p n f) (hg : TV C o m g) {S a : Nat} (hS : S < 2 ^ (n + 2)) (ha : m < a) (ha2 : a < 1000) : lp (fX6_covers_4 C o p) (nI S, nI a) = some (nI (if S.testBit (n + 1) then 1 else 0)) := by
  have hm := hg.2.1
  have hn := h.2.1
  have h3 := lt26 hS hn
  refine lp_exq ?_
  unfold fX6_covers_4
  simp only [li_1]
  rw [hg.1, h.1, cnd_t (nI_lt ha (by omega)), nI_add, px_hol (by omega) (by omega), chk_t (px_nb _)]
