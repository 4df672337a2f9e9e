variable {ou : Int32}
/-! shards: the reference -/
theorem m_fill9 {M : Mem} {a : Int32} {q : (Int32 × Mem)} {n : Int32} : ∃ M', lp (fX8_spreads_7 n q) (M, (0 : Int32)) = fX8_spreads_26 n q (M', nI 16) ∧ (∀ j, j < 16 → M' 497 j = nI 4294967295) ∧ ∀ k j, k ≠ 497 → M' k j = M k j := by
  have st : ∀ i, i ≤ 16 → ∃ M', lp (fX8_spreads_7 n q) (M, (0 : Int32)) = lp (fX8_spreads_7 n q) (M', nI i) ∧ (∀ j, j < i → M' 497 j = nI 4294967295) ∧ ∀ k j, k ≠ 497 → M' k j = M k j := by
    intro i
    induction i with
    | zero => intro _; exact ⟨M, rfl, fun j hj => by omega, fun k j _ => rfl⟩
    | succ i ih =>
      intro hi
      obtain ⟨M', e1, e2, e3⟩ := ih (by omega)
      refine ⟨mset M' 497 i (nI 4294967295), ?_, fun j hj => ?_, fun k j hk => ?_⟩
      · rw [e1]
        refine lp_go ?_
        unfold fX8_spreads_7
        rw [li_m1]
        simp only [li_1, li_16]
        rw [nI_clamp (by omega)]
        simp (disch := omega) only [li_0, li_1, li_2, li_3, li_4, li_5, li_7, li_8, li_12, li_16, li_23, li_24, li_31, li_40, li_42, li_47, li_63, li_64, li_76, li_77, li_97, li_122, li_200, li_201, li_1000, li_1824, li_9999, li_16000, nI_add, nx_or, nx_and, pk_mul, nx_xor, nI_leI, nI_ltI, nI_eq, nI_clamp, vp_nI, px_sub, px_shl, px_shl2, px_shr2, px_bit, Bool.true_eq_false, Bool.false_eq_true, hol_0, hol_1, px_chr, chk, cnd_true, cnd_false, cnd_ite, bnd_s, nmv, exR, if_pos, if_neg, if_true, if_false, reduceIte, eq_self, not_true_eq_false, not_false_eq_true, show ¬ 16 ≤ i by omega, show i < 16 by omega]
      · by_cases q : j = i
        · rw [q, mset_eq]
        · rw [mset_ne (by omega)]; exact e2 j (by omega)
      · rw [mset_ne (by omega)]; exact e3 k j hk
  obtain ⟨M', e1, e2, e3⟩ := st 16 (Nat.le_refl _)
  refine ⟨M', ?_, e2, e3⟩
  rw [e1]
  refine lp_exq ?_
  unfold fX8_spreads_7
  rw [cnd_t (show (16 : Int32) ≤ nI 16 by decide)]
theorem m_fill8 {M : Mem} {q : (Int32 × Mem)} {n : Int32} : ∃ M', lp (fX8_spreads_28 n q) (M, (0 : Int32)) = fX8_spreads_47 n q (M', nI 8) ∧ (∀ j, j < 8 → M' 496 j = nI 0) ∧ ∀ k j, k ≠ 496 → M' k j = M k j := by
  have st : ∀ i, i ≤ 8 → ∃ M', lp (fX8_spreads_28 n q) (M, (0 : Int32)) = lp (fX8_spreads_28 n q) (M', nI i) ∧ (∀ j, j < i → M' 496 j = nI 0) ∧ ∀ k j, k ≠ 496 → M' k j = M k j := by
    intro i
    induction i with
    | zero => intro _; exact ⟨M, rfl, fun j hj => by omega, fun k j _ => rfl⟩
    | succ i ih =>
      intro hi
      obtain ⟨M', e1, e2, e3⟩ := ih (by omega)
      refine ⟨mset M' 496 i (nI 0), ?_, fun j hj => ?_, fun k j hk => ?_⟩
      · rw [e1]
        refine lp_go ?_
        unfold fX8_spreads_28
        simp only [li_0, li_1, li_8]
        rw [nI_clamp (by omega)]
        simp (disch := omega) only [li_0, li_1, li_2, li_3, li_4, li_5, li_7, li_8, li_12, li_16, li_23, li_24, li_31, li_40, li_42, li_47, li_63, li_64, li_76, li_77, li_97, li_122, li_200, li_201, li_1000, li_1824, li_9999, li_16000, nI_add, nx_or, nx_and, pk_mul, nx_xor, nI_leI, nI_ltI, nI_eq, nI_clamp, vp_nI, px_sub, px_shl, px_shl2, px_shr2, px_bit, Bool.true_eq_false, Bool.false_eq_true, hol_0, hol_1, px_chr, chk, cnd_true, cnd_false, cnd_ite, bnd_s, nmv, exR, if_pos, if_neg, if_true, if_false, reduceIte, eq_self, not_true_eq_false, not_false_eq_true, show ¬ 8 ≤ i by omega, show i < 8 by omega]
      · by_cases q : j = i
        · rw [q, mset_eq]
        · rw [mset_ne (by omega)]; exact e2 j (by omega)
      · rw [mset_ne (by omega)]; exact e3 k j hk
  obtain ⟨M', e1, e2, e3⟩ := st 8 (Nat.le_refl _)
  refine ⟨M', ?_, e2, e3⟩
  rw [e1]
  refine lp_exq ?_
  unfold fX8_spreads_28
  rw [cnd_t (show (8 : Int32) ≤ nI 8 by decide)]
theorem m_dear {M : Mem} {σ : Ab} {L : Nat} {n v : Int32} (w : WF σ) (s : RM ou M σ) (hL : L < 2 ^ σ.nt) : lp (fX8_spreads_59 n (M, nI L, v)) ((-1 : Int32), (0 : Int32)) = fX8_spreads_115 n (M, nI L, v) (nI (σ.bs L σ.nt), nI σ.nt) := by
  have hn := w.nt
  have hb := lt16 hL hn
  rw [li_m1]
  refine lp_for (fun i => (nI (σ.bs L i), nI i)) σ.nt (fun i hi => ?_) ?_
  · unfold fX8_spreads_59 fX8_spreads_105 fX8_spreads_100 fX8_spreads_107
    have hc := w.cs i hi
    have hx := bs_s σ L i (by omega)
    simp only [li_0, li_1]
    rw [s.nt, nI_clamp (by omega), s.cs i hi, show σ.bs L (i + 1) = if L.testBit i = true ∧ (σ.bs L i = 4294967295 ∨ σ.cs (σ.bs L i) < σ.cs i) then i else σ.bs L i from rfl]
    by_cases c1 : L.testBit i = true
    · rcases hx with ⟨x1, x2⟩ | ⟨x1, x2⟩
      · rw [if_pos (show L.testBit i = true ∧ (σ.bs L i = 4294967295 ∨ σ.cs (σ.bs L i) < σ.cs i) from ⟨c1, Or.inl x1⟩), x1, cnd_t (p := nI 4294967295 < nI 0) (by decide)]
        simp (disch := omega) only [li_0, li_1, li_2, li_3, li_4, li_5, li_7, li_8, li_12, li_16, li_23, li_24, li_31, li_40, li_42, li_47, li_63, li_64, li_76, li_77, li_97, li_122, li_200, li_201, li_1000, li_1824, li_9999, li_16000, nI_add, nx_or, nx_and, pk_mul, nx_xor, nI_leI, nI_ltI, nI_eq, nI_clamp, vp_nI, px_sub, px_shl, px_shl2, px_shr2, px_bit, Bool.true_eq_false, Bool.false_eq_true, hol_0, hol_1, px_chr, chk, cnd_true, cnd_false, cnd_ite, bnd_s, nmv, exR, if_pos, if_neg, if_true, if_false, reduceIte, eq_self, not_true_eq_false, not_false_eq_true, c1, show ¬ σ.nt ≤ i by omega]
      · have hcb := w.cs (σ.bs L i) (by omega)
        rw [nI_clamp (by omega), s.cs _ (by omega)]
        by_cases c2 : σ.cs (σ.bs L i) < σ.cs i
        · rw [if_pos (show L.testBit i = true ∧ (σ.bs L i = 4294967295 ∨ σ.cs (σ.bs L i) < σ.cs i) from ⟨c1, Or.inr c2⟩)]
          simp (disch := omega) only [li_0, li_1, li_2, li_3, li_4, li_5, li_7, li_8, li_12, li_16, li_23, li_24, li_31, li_40, li_42, li_47, li_63, li_64, li_76, li_77, li_97, li_122, li_200, li_201, li_1000, li_1824, li_9999, li_16000, nI_add, nx_or, nx_and, pk_mul, nx_xor, nI_leI, nI_ltI, nI_eq, nI_clamp, vp_nI, px_sub, px_shl, px_shl2, px_shr2, px_bit, Bool.true_eq_false, Bool.false_eq_true, hol_0, hol_1, px_chr, chk, cnd_true, cnd_false, cnd_ite, bnd_s, nmv, exR, if_pos, if_neg, if_true, if_false, reduceIte, eq_self, not_true_eq_false, not_false_eq_true, c1, show ¬ σ.nt ≤ i by omega, show ¬ σ.bs L i < 0 by omega, show i < 16 by omega, show σ.bs L i < 16 by omega, show ¬ σ.cs i ≤ σ.cs (σ.bs L i) by omega]
        · rw [if_neg (show ¬ (L.testBit i = true ∧ (σ.bs L i = 4294967295 ∨ σ.cs (σ.bs L i) < σ.cs i)) from fun q => q.2.elim (fun z => by omega) c2)]
          simp (disch := omega) only [li_0, li_1, li_2, li_3, li_4, li_5, li_7, li_8, li_12, li_16, li_23, li_24, li_31, li_40, li_42, li_47, li_63, li_64, li_76, li_77, li_97, li_122, li_200, li_201, li_1000, li_1824, li_9999, li_16000, nI_add, nx_or, nx_and, pk_mul, nx_xor, nI_leI, nI_ltI, nI_eq, nI_clamp, vp_nI, px_sub, px_shl, px_shl2, px_shr2, px_bit, Bool.true_eq_false, Bool.false_eq_true, hol_0, hol_1, px_chr, chk, cnd_true, cnd_false, cnd_ite, bnd_s, nmv, exR, if_pos, if_neg, if_true, if_false, reduceIte, eq_self, not_true_eq_false, not_false_eq_true, c1, show ¬ σ.nt ≤ i by omega, show ¬ σ.bs L i < 0 by omega, show i < 16 by omega, show σ.bs L i < 16 by omega, show σ.cs i ≤ σ.cs (σ.bs L i) by omega]
    · rw [if_neg (show ¬ (L.testBit i = true ∧ (σ.bs L i = 4294967295 ∨ σ.cs (σ.bs L i) < σ.cs i)) from fun q => c1 q.1)]
      simp (disch := omega) only [li_0, li_1, li_2, li_3, li_4, li_5, li_7, li_8, li_12, li_16, li_23, li_24, li_31, li_40, li_42, li_47, li_63, li_64, li_76, li_77, li_97, li_122, li_200, li_201, li_1000, li_1824, li_9999, li_16000, nI_add, nx_or, nx_and, pk_mul, nx_xor, nI_leI, nI_ltI, nI_eq, nI_clamp, vp_nI, px_sub, px_shl, px_shl2, px_shr2, px_bit, Bool.true_eq_false, Bool.false_eq_true, hol_0, hol_1, px_chr, chk, cnd_true, cnd_false, cnd_ite, bnd_s, nmv, exR, if_pos, if_neg, if_true, if_false, reduceIte, eq_self, not_true_eq_false, not_false_eq_true, c1, show ¬ σ.nt ≤ i by omega]
  · unfold fX8_spreads_59
    show cnd (M 475 9 ≤ nI σ.nt) _ _ = _
    rw [s.nt, cnd_t (nI_le (Nat.le_refl _) (by omega))]
theorem m_ligh {M : Mem} {ld : Nat → Nat} {n : Nat} {L v : Int32} {t : (Int32 × Int32)} (h1 : 1 ≤ n) (h8 : n ≤ 8) (hl : ∀ k, k < 8 → M 496 k = nI (ld k)) (hb : ∀ k, ld k ≤ 16000) : fX8_spreads_115 (nI n) (M, L, v) t = fX8_spreads_159 (nI n) (nI (ls ld n), nI n) (M, L, v) t := by
  unfold fX8_spreads_115
  rw [show ((0 : Int32), (1 : Int32)) = (fun i => (nI (ls ld (i + 1)), nI (i + 1))) 0 by
    show _ = (nI (ls ld 1), nI 1)
    rw [ls_1]; rfl]
  refine lp_for (fun i => (nI (ls ld (i + 1)), nI (i + 1))) (n - 1) (fun i hi => ?_) ?_
  · unfold fX8_spreads_121 fX8_spreads_151
    have hlt := ls_lt ld (i + 1) (by omega)
    have b1 := hb (i + 1)
    have b2 := hb (ls ld (i + 1))
    simp only [li_1]
    rw [nI_clamp (by omega), nI_clamp (by omega), hl _ (by omega), hl _ (by omega), show ls ld (i + 1 + 1) = if ld (i + 1) < ld (ls ld (i + 1)) then i + 1 else ls ld (i + 1) from rfl]
    by_cases c : ld (i + 1) < ld (ls ld (i + 1))
    · rw [if_pos c]
      simp (disch := omega) only [li_0, li_1, li_2, li_3, li_4, li_5, li_7, li_8, li_12, li_16, li_23, li_24, li_31, li_40, li_42, li_47, li_63, li_64, li_76, li_77, li_97, li_122, li_200, li_201, li_1000, li_1824, li_9999, li_16000, nI_add, nx_or, nx_and, pk_mul, nx_xor, nI_leI, nI_ltI, nI_eq, nI_clamp, vp_nI, px_sub, px_shl, px_shl2, px_shr2, px_bit, Bool.true_eq_false, Bool.false_eq_true, hol_0, hol_1, px_chr, chk, cnd_true, cnd_false, cnd_ite, bnd_s, nmv, exR, if_pos, if_neg, if_true, if_false, reduceIte, eq_self, not_true_eq_false, not_false_eq_true, show ¬ n ≤ i + 1 by omega, show i + 1 < 8 by omega, show ls ld (i + 1) < 8 by omega, show ¬ ld (ls ld (i + 1)) ≤ ld (i + 1) by omega]
    · rw [if_neg c]
      simp (disch := omega) only [li_0, li_1, li_2, li_3, li_4, li_5, li_7, li_8, li_12, li_16, li_23, li_24, li_31, li_40, li_42, li_47, li_63, li_64, li_76, li_77, li_97, li_122, li_200, li_201, li_1000, li_1824, li_9999, li_16000, nI_add, nx_or, nx_and, pk_mul, nx_xor, nI_leI, nI_ltI, nI_eq, nI_clamp, vp_nI, px_sub, px_shl, px_shl2, px_shr2, px_bit, Bool.true_eq_false, Bool.false_eq_true, hol_0, hol_1, px_chr, chk, cnd_true, cnd_false, cnd_ite, bnd_s, nmv, exR, if_pos, if_neg, if_true, if_false, reduceIte, eq_self, not_true_eq_false, not_false_eq_true, show ¬ n ≤ i + 1 by omega, show i + 1 < 8 by omega, show ls ld (i + 1) < 8 by omega, show ld (ls ld (i + 1)) ≤ ld (i + 1) by omega]
  · unfold fX8_spreads_121
    show cnd (nI n ≤ nI (n - 1 + 1)) (exR (fX8_spreads_159 (nI n) (nI (ls ld (n - 1 + 1)), nI (n - 1 + 1)) (M, L, v) t)) _ = _
    rw [show n - 1 + 1 = n by omega, cnd_t (nI_le (Nat.le_refl _) (by omega))]
theorem m_spr {M : Mem} {σ : Ab} {n : Nat} (w : WF σ) (s : RM ou M σ) (h1 : 1 ≤ n) (h8 : n ≤ 8) : ∃ M', fX8_spreads M (nI n) = some (nI (mx (σ.sp σ.nee n (cn σ.nee 24)).2.1 8), M') ∧ RM ou M' σ ∧ (∀ t, t < 16 → M' 497 t = nI ((σ.sp σ.nee n (cn σ.nee 24)).2.2 t)) ∧ M' 475 26 = M 475 26 := by
  have hn := w.nt
  have hW := nee_lt σ
  have hc16 := cn_16 w hW
  obtain ⟨M0, m1, m2, m3, m4, m5⟩ := m_need w s
  obtain ⟨M1, a1, a2, a3⟩ := m_fill9 (M := M0) (a := 0) (q := (nI σ.nee, M0)) (n := nI n)
  obtain ⟨M2, b1, b2, b3⟩ := m_fill8 (M := M1) (q := (nI σ.nee, M0)) (n := nI n)
  have fr0 : ∀ k j, k ≠ 496 → k ≠ 497 → M2 k j = M0 k j := fun k j k1 k2 => by rw [b3 k j k1, a3 k j k2]
  have s0 : RM ou M2 σ := by
    have gx : ∀ q, σ.us q → MV M2 q (σ.gn q) (σ.gf q) := by
      intro q hq
      simp (disch := omega) only [MV, fr0]
      exact m2.gx q hq
    exact (RM.mk (by intros; (try simp (disch := omega) only [MV, PV, mset_ne, fr0]); first | exact m2.o8 | (apply m2.o8 <;> assumption)) (by intros; (try simp (disch := omega) only [MV, PV, mset_ne, fr0]); first | exact m2.tx | (apply m2.tx <;> assumption)) (by intros; (try simp (disch := omega) only [MV, PV, mset_ne, fr0]); first | exact m2.nf | (apply m2.nf <;> assumption)) (by intros; (try simp (disch := omega) only [MV, PV, mset_ne, fr0]); first | exact m2.px | (apply m2.px <;> assumption)) (by intros; (try simp (disch := omega) only [MV, PV, mset_ne, fr0]); first | exact m2.th | (apply m2.th <;> assumption)) (by intros; (try simp (disch := omega) only [MV, PV, mset_ne, fr0]); first | exact m2.co | (apply m2.co <;> assumption)) (by intros; (try simp (disch := omega) only [MV, PV, mset_ne, fr0]); first | exact m2.mt | (apply m2.mt <;> assumption)) (by intros; (try simp (disch := omega) only [MV, PV, mset_ne, fr0]); first | exact m2.mc | (apply m2.mc <;> assumption)) (by intros; (try simp (disch := omega) only [MV, PV, mset_ne, fr0]); first | exact m2.nt | (apply m2.nt <;> assumption)) (by intros; (try simp (disch := omega) only [MV, PV, mset_ne, fr0]); first | exact m2.cs | (apply m2.cs <;> assumption)) (by intros; (try simp (disch := omega) only [MV, PV, mset_ne, fr0]); first | exact m2.gc | (apply m2.gc <;> assumption)) (by intros; (try simp (disch := omega) only [MV, PV, mset_ne, fr0]); first | exact m2.de | (apply m2.de <;> assumption)) (by intros; (try simp (disch := omega) only [MV, PV, mset_ne, fr0]); first | exact m2.la | (apply m2.la <;> assumption)) gx (by intros; (try simp (disch := omega) only [MV, PV, mset_ne, fr0]); first | exact m2.nr | (apply m2.nr <;> assumption)) (by intros; (try simp (disch := omega) only [MV, PV, mset_ne, fr0]); first | exact m2.ow | (apply m2.ow <;> assumption)) (by intros; (try simp (disch := omega) only [MV, PV, mset_ne, fr0]); first | exact m2.nk | (apply m2.nk <;> assumption)) (by intros; (try simp (disch := omega) only [MV, PV, mset_ne, fr0]); first | exact m2.wh | (apply m2.wh <;> assumption)) (by intros; (try simp (disch := omega) only [MV, PV, mset_ne, fr0]); first | exact m2.hd | (apply m2.hd <;> assumption)) (by intros; (try simp (disch := omega) only [MV, PV, mset_ne, fr0]); first | exact m2.le | (apply m2.le <;> assumption)) (by intros; (try simp (disch := omega) only [MV, PV, mset_ne, fr0]); first | exact m2.kc | (apply m2.kc <;> assumption)) (by intros; (try simp (disch := omega) only [MV, PV, mset_ne, fr0]); first | exact m2.kb | (apply m2.kb <;> assumption)))
  have hm : ∀ i, i ≤ cn σ.nee 24 → ∀ k, mx (σ.sp σ.nee n i).2.1 k ≤ 16000 := by
    intro i hi k
    obtain ⟨s1, s2, s3⟩ := sp_l (n := n) w hW i hi
    induction k with
    | zero => exact Nat.zero_le _
    | succ k ih =>
      have := s3 k
      show max (mx _ k) _ ≤ 16000
      omega
  have st : ∀ i, i ≤ cn σ.nee 24 → ∃ M', lp (fX8_spreads_49 (nI n)) (M2, nI σ.nee, (0 : Int32)) = lp (fX8_spreads_49 (nI n)) (M', nI (σ.sp σ.nee n i).1, nI (mx (σ.sp σ.nee n i).2.1 8)) ∧ RM ou M' σ ∧ (∀ k, k < 8 → M' 496 k = nI ((σ.sp σ.nee n i).2.1 k)) ∧ (∀ t, t < 16 → M' 497 t = nI ((σ.sp σ.nee n i).2.2 t)) ∧ ∀ k j, k ≠ 496 → k ≠ 497 → M' k j = M2 k j := by
    intro i
    induction i with
    | zero =>
      intro _
      refine ⟨M2, rfl, s0, fun k hk => ?_, fun t ht => ?_, fun k j _ _ => rfl⟩
      · rw [b2 k hk]; rfl
      · rw [b3 497 t (by omega), a2 t ht]; rfl
    | succ i ih =>
      intro hi
      obtain ⟨M', e1, e2, e3, e4, e5⟩ := ih (by omega)
      obtain ⟨s1, s2, s3⟩ := sp_l (n := n) w hW i (by omega)
      have s0 := sp_ne (n := n) w hW (i := i) (by omega)
      obtain ⟨q1, q2⟩ := bs_in w s1 s0
      have q3 := ls_lt (σ.sp σ.nee n i).2.1 n (by omega)
      have q4 := w.cs _ q1
      have q5 := s3 (ls (σ.sp σ.nee n i).2.1 n)
      have q6 := lt16 s1 hn
      have q7 := hm i (by omega) 8
      have q8 := hm (i + 1) hi 8
      have e6 : mx (σ.sp σ.nee n (i + 1)).2.1 8 = max (mx (σ.sp σ.nee n i).2.1 8) ((σ.sp σ.nee n i).2.1 (ls (σ.sp σ.nee n i).2.1 n) + σ.cs (σ.bs (σ.sp σ.nee n i).1 σ.nt)) := by
        have := mx_up (ld := (σ.sp σ.nee n i).2.1) (l := ls (σ.sp σ.nee n i).2.1 n) (v := (σ.sp σ.nee n i).2.1 (ls (σ.sp σ.nee n i).2.1 n) + σ.cs (σ.bs (σ.sp σ.nee n i).1 σ.nt)) (by omega) 8
        rw [if_pos (by omega)] at this
        exact this
      refine ⟨mset (mset M' 497 (σ.bs (σ.sp σ.nee n i).1 σ.nt) (nI (ls (σ.sp σ.nee n i).2.1 n))) 496 (ls (σ.sp σ.nee n i).2.1 n) (nI ((σ.sp σ.nee n i).2.1 (ls (σ.sp σ.nee n i).2.1 n) + σ.cs (σ.bs (σ.sp σ.nee n i).1 σ.nt))), ?_, RM_scr (RM_scr e2 (by omega)) (by omega), fun k hk => ?_, fun t ht => ?_, fun k j k1 k2 => ?_⟩
      · rw [e1]
        refine lp_go ?_
        unfold fX8_spreads_49
        show cnd (nI (σ.sp σ.nee n i).1 = 0) _ (lp _ _) = _
        rw [cnd_f (by rw [li_0, nI_eq (by omega) (by omega)]; exact s0), m_dear w e2 s1, m_ligh h1 h8 e3 (fun k => by have := s3 k; omega)]
        unfold fX8_spreads_159 fX8_spreads_207
        simp only []
        have g1 : mset M' 497 (σ.bs (σ.sp σ.nee n i).1 σ.nt) (nI (ls (σ.sp σ.nee n i).2.1 n)) 484 (σ.bs (σ.sp σ.nee n i).1 σ.nt) = nI (σ.cs (σ.bs (σ.sp σ.nee n i).1 σ.nt)) := by rw [mset_ne (by omega)]; exact e2.cs _ q1
        have g2 : mset M' 497 (σ.bs (σ.sp σ.nee n i).1 σ.nt) (nI (ls (σ.sp σ.nee n i).2.1 n)) 496 (ls (σ.sp σ.nee n i).2.1 n) = nI ((σ.sp σ.nee n i).2.1 (ls (σ.sp σ.nee n i).2.1 n)) := by rw [mset_ne (by omega)]; exact e3 _ (by omega)
        have g4 : (1 : Int32) <<< (nI (σ.bs (σ.sp σ.nee n i).1 σ.nt) &&& 31) ^^^ (-1 : Int32) = nI (2 ^ σ.bs (σ.sp σ.nee n i).1 σ.nt ^^^ 4294967295) := by
          rw [li_m1]
          simp only [li_1, li_31]
          rw [px_shl (by omega), Nat.one_mul, nx_xor]
        rw [nI_clamp (by omega), nI_clamp (by omega), g1, g2, g4, nx_and, nI_add, mset_eq, e6]
        rw [chk_t (by rw [vp_nI (by omega)]; omega), chk_t (by rw [vp_nI (by omega)]; omega), chk_t (by rw [vp_nI (by omega)]; omega), chk_t (by rw [vp_nI (by omega)]; omega), chk_t (by rw [vp_nI (by omega)]; omega), chk_t (by rw [vp_nI (by omega)]; omega)]
        by_cases c : (σ.sp σ.nee n i).2.1 (ls (σ.sp σ.nee n i).2.1 n) + σ.cs (σ.bs (σ.sp σ.nee n i).1 σ.nt) ≤ mx (σ.sp σ.nee n i).2.1 8
        · rw [cnd_t (nI_le c (by omega)), Nat.max_eq_left c]
          rfl
        · rw [cnd_f (by rw [nI_leI (by omega) (by omega)]; exact c), Nat.max_eq_right (by omega)]
          rfl
      · show _ = nI (if k = ls (σ.sp σ.nee n i).2.1 n then _ else _)
        by_cases q : k = ls (σ.sp σ.nee n i).2.1 n
        · rw [q, mset_eq, if_pos rfl]
        · rw [if_neg q, mset_ne (by omega), mset_ne (by omega)]; exact e3 k hk
      · show _ = nI (if t = σ.bs (σ.sp σ.nee n i).1 σ.nt then _ else _)
        by_cases q : t = σ.bs (σ.sp σ.nee n i).1 σ.nt
        · rw [q, mset_ne (by omega), mset_eq, if_pos rfl]
        · rw [if_neg q, mset_ne (by omega), mset_ne (by omega)]; exact e4 t ht
      · rw [mset_ne (by omega), mset_ne (by omega)]; exact e5 k j k1 k2
  obtain ⟨M', e1, e2, e3, e4, e5⟩ := st (cn σ.nee 24) (Nat.le_refl _)
  refine ⟨M', ?_, e2, e4, by rw [e5 _ _ (by omega) (by omega), fr0 _ _ (by omega) (by omega), m5 _ _ (by omega) (by omega)]⟩
  unfold fX8_spreads
  rw [m1, bnd_s]
  show lp (fX8_spreads_7 (nI n) (nI σ.nee, M0)) (M0, (0 : Int32)) = _
  rw [a1]
  unfold fX8_spreads_26
  show lp (fX8_spreads_28 (nI n) (nI σ.nee, M0)) (M1, (0 : Int32)) = _
  rw [b1]
  unfold fX8_spreads_47
  show lp (fX8_spreads_49 (nI n)) (M2, nI σ.nee, (0 : Int32)) = _
  rw [e1]
  refine lp_exq ?_
  unfold fX8_spreads_49
  rw [cnd_t (show nI (σ.sp σ.nee n (cn σ.nee 24)).1 = 0 by rw [sp_en w hW]; rfl)]
theorem sp_b {σ : Ab} {W n : Nat} (w : WF σ) (hW : W < 2 ^ σ.nt) (k : Nat) : (σ.sp W n (cn W 24)).2.1 k ≤ 16000 := by
  obtain ⟨s1, s2, s3⟩ := sp_l (n := n) w hW (cn W 24) (Nat.le_refl _)
  have := cn_16 w hW
  have := s3 k
  omega
theorem m_in8 {a : Nat} (ha : a < 2147483648) : fX8_isIn (nI a) 1 8 = cnd (1 ≤ a ∧ a ≤ 8) (nI 1) (nI 0) := by
  unfold fX8_isIn fX8_isIn_14
  simp only [li_0, li_1, li_8]
  by_cases h : 1 ≤ a
  · by_cases h2 : a ≤ 8
    · rw [cnd_t (p := 1 ≤ a ∧ a ≤ 8) ⟨h, h2⟩]
      simp (disch := omega) only [li_0, li_1, li_2, li_3, li_4, li_5, li_7, li_8, li_12, li_16, li_23, li_24, li_31, li_40, li_42, li_47, li_63, li_64, li_76, li_77, li_97, li_122, li_200, li_201, li_1000, li_1824, li_9999, li_16000, nI_add, nx_or, nx_and, pk_mul, nx_xor, nI_leI, nI_ltI, nI_eq, nI_clamp, vp_nI, px_sub, px_shl, px_shl2, px_shr2, px_bit, Bool.true_eq_false, Bool.false_eq_true, hol_0, hol_1, px_chr, chk, cnd_true, cnd_false, cnd_ite, bnd_s, nmv, exR, if_pos, if_neg, if_true, if_false, reduceIte, eq_self, not_true_eq_false, not_false_eq_true, show ¬ a < 1 by omega, show ¬ 8 < a by omega]
    · rw [cnd_f (p := 1 ≤ a ∧ a ≤ 8) (fun q => h2 q.2)]
      simp (disch := omega) only [li_0, li_1, li_2, li_3, li_4, li_5, li_7, li_8, li_12, li_16, li_23, li_24, li_31, li_40, li_42, li_47, li_63, li_64, li_76, li_77, li_97, li_122, li_200, li_201, li_1000, li_1824, li_9999, li_16000, nI_add, nx_or, nx_and, pk_mul, nx_xor, nI_leI, nI_ltI, nI_eq, nI_clamp, vp_nI, px_sub, px_shl, px_shl2, px_shr2, px_bit, Bool.true_eq_false, Bool.false_eq_true, hol_0, hol_1, px_chr, chk, cnd_true, cnd_false, cnd_ite, bnd_s, nmv, exR, if_pos, if_neg, if_true, if_false, reduceIte, eq_self, not_true_eq_false, not_false_eq_true, show ¬ a < 1 by omega, show 8 < a by omega]
  · rw [cnd_f (p := 1 ≤ a ∧ a ≤ 8) (fun q => h q.1)]
    simp (disch := omega) only [li_0, li_1, li_2, li_3, li_4, li_5, li_7, li_8, li_12, li_16, li_23, li_24, li_31, li_40, li_42, li_47, li_63, li_64, li_76, li_77, li_97, li_122, li_200, li_201, li_1000, li_1824, li_9999, li_16000, nI_add, nx_or, nx_and, pk_mul, nx_xor, nI_leI, nI_ltI, nI_eq, nI_clamp, vp_nI, px_sub, px_shl, px_shl2, px_shr2, px_bit, Bool.true_eq_false, Bool.false_eq_true, hol_0, hol_1, px_chr, chk, cnd_true, cnd_false, cnd_ite, bnd_s, nmv, exR, if_pos, if_neg, if_true, if_false, reduceIte, eq_self, not_true_eq_false, not_false_eq_true, show a < 1 by omega]
theorem m_in81 {a b : Int32} (h : a < 0) : fX8_isIn a 1 b = nI 0 := by
  unfold fX8_isIn fX8_isIn_14
  rw [cnd_t (neg_lt1 h)]
  rfl
theorem c_rsh {a : Nat} (ha : a < 2147483648) : fX7_requireShards (nI a) = cnd (1 ≤ a ∧ a ≤ 8) (some (.inl (nI 0))) (some (.inr 1)) := by
  unfold fX7_requireShards fX7_requireShards_11
  simp only [li_1, li_8]
  by_cases h : 1 ≤ a
  · by_cases h2 : a ≤ 8
    · rw [cnd_t (p := 1 ≤ a ∧ a ≤ 8) ⟨h, h2⟩]
      simp (disch := omega) only [li_0, li_1, li_2, li_3, li_4, li_5, li_7, li_8, li_12, li_16, li_23, li_24, li_31, li_40, li_42, li_47, li_63, li_64, li_76, li_77, li_97, li_122, li_200, li_201, li_1000, li_1824, li_9999, li_16000, nI_add, nx_or, nx_and, pk_mul, nx_xor, nI_leI, nI_ltI, nI_eq, nI_clamp, vp_nI, px_sub, px_shl, px_shl2, px_shr2, px_bit, Bool.true_eq_false, Bool.false_eq_true, hol_0, hol_1, px_chr, chk, cnd_true, cnd_false, cnd_ite, bnd_s, nmv, exR, if_pos, if_neg, if_true, if_false, reduceIte, eq_self, not_true_eq_false, not_false_eq_true, show ¬ a < 1 by omega, h2]
    · rw [cnd_f (p := 1 ≤ a ∧ a ≤ 8) (fun q => h2 q.2)]
      simp (disch := omega) only [li_0, li_1, li_2, li_3, li_4, li_5, li_7, li_8, li_12, li_16, li_23, li_24, li_31, li_40, li_42, li_47, li_63, li_64, li_76, li_77, li_97, li_122, li_200, li_201, li_1000, li_1824, li_9999, li_16000, nI_add, nx_or, nx_and, pk_mul, nx_xor, nI_leI, nI_ltI, nI_eq, nI_clamp, vp_nI, px_sub, px_shl, px_shl2, px_shr2, px_bit, Bool.true_eq_false, Bool.false_eq_true, hol_0, hol_1, px_chr, chk, cnd_true, cnd_false, cnd_ite, bnd_s, nmv, exR, if_pos, if_neg, if_true, if_false, reduceIte, eq_self, not_true_eq_false, not_false_eq_true, show ¬ a < 1 by omega, h2]
  · rw [cnd_f (p := 1 ≤ a ∧ a ≤ 8) (fun q => h q.1)]
    simp (disch := omega) only [li_0, li_1, li_2, li_3, li_4, li_5, li_7, li_8, li_12, li_16, li_23, li_24, li_31, li_40, li_42, li_47, li_63, li_64, li_76, li_77, li_97, li_122, li_200, li_201, li_1000, li_1824, li_9999, li_16000, nI_add, nx_or, nx_and, pk_mul, nx_xor, nI_leI, nI_ltI, nI_eq, nI_clamp, vp_nI, px_sub, px_shl, px_shl2, px_shr2, px_bit, Bool.true_eq_false, Bool.false_eq_true, hol_0, hol_1, px_chr, chk, cnd_true, cnd_false, cnd_ite, bnd_s, nmv, exR, if_pos, if_neg, if_true, if_false, reduceIte, eq_self, not_true_eq_false, not_false_eq_true, show a < 1 by omega]
theorem c_rsh0 {a : Int32} (h : a < 0) : fX7_requireShards a = some (.inr 1) := by
  unfold fX7_requireShards fX7_requireShards_11
  rw [cnd_t (neg_lt1 h)]
theorem op_longestShard {C M : Mem} {σ : Ab} (w : WF σ) (r : RC C σ) (s : RM ou M σ) (x : Int32) : Opp ou wr_1 (fX7_longestShard C x) (fX8_longestShard M x) := by
  have bad1 : fX7_requireShards x = some (.inr 1) → fX8_isIn x 1 8 = nI 0 → Opp ou wr_1 (fX7_longestShard C x) (fX8_longestShard M x) := by
    intro h1 h2
    refine ⟨C, mset M 475 26 (nI 1), σ, w, r, RM_thr s, Or.inr ⟨1, nI 0, ?_, ?_, mset_eq, by decide, by decide⟩⟩
    · unfold fX7_longestShard
      rw [h1]
      rfl
    · unfold fX8_longestShard fX8_longestShard_16
      rw [h2]
      simp (disch := omega) only [li_0, li_1, li_2, li_3, li_4, li_5, li_7, li_8, li_12, li_16, li_23, li_24, li_31, li_40, li_42, li_47, li_63, li_64, li_76, li_77, li_97, li_122, li_200, li_201, li_1000, li_1824, li_9999, li_16000, nI_add, nx_or, nx_and, pk_mul, nx_xor, nI_leI, nI_ltI, nI_eq, nI_clamp, vp_nI, px_sub, px_shl, px_shl2, px_shr2, px_bit, Bool.true_eq_false, Bool.false_eq_true, hol_0, hol_1, px_chr, chk, cnd_true, cnd_false, cnd_ite, bnd_s, nmv, exR, if_pos, if_neg, if_true, if_false, reduceIte, eq_self, not_true_eq_false, not_false_eq_true, mset_eq]
  rcases nI_cs x with hx | ⟨a, ha, rfl⟩
  · exact bad1 (c_rsh0 hx) (m_in81 hx)
  · by_cases hb : 1 ≤ a ∧ a ≤ 8
    · obtain ⟨C1, c1, c2, c3, c4⟩ := c_all w r
      obtain ⟨C2, d1, d2, d3, d4, d5⟩ := c_over w c2 (nee_lt σ) hb.1 hb.2
      obtain ⟨M', m1, m2, m3, m4⟩ := m_spr w (RM_thr (x := nI 0) s) hb.1 hb.2
      refine ⟨C2, M', σ, w, d2, m2, Or.inl ⟨nI (mx (σ.sp σ.nee a (cn σ.nee 24)).2.1 8), ?_, ?_, ?_⟩⟩
      · unfold fX7_longestShard
        rw [c_rsh ha, cnd_t hb]
        simp only [bnd_s, sw]
        rw [c1, bnd_s, c_wok w c2, bnd_s, wok_nee w c3, d1, bnd_s, c_grea d3 (sp_b w (nee_lt σ)), bnd_s]
      · unfold fX8_longestShard fX8_longestShard_16
        rw [m_in8 ha, cnd_t hb, cnd10, show (0 : Int32) = nI 0 from rfl, mset_eq, cnd_t (by decide), m1, bnd_s]
      · rw [m4]
        exact mset_eq
    · exact bad1 (by rw [c_rsh ha, cnd_f hb]) (by rw [m_in8 ha, cnd_f hb])
theorem op_shardOf {C M : Mem} {σ : Ab} (w : WF σ) (r : RC C σ) (s : RM ou M σ) (x y : Int32) : Opp ou wr_31 (fX7_shardOf C x y) (fX8_shardOf M x y) := by
  have hnt := w.nt
  have bad1 : fX7_requireTarget C x = some (.inr 3) → fX8_isTarget M x = some (nI 0) → Opp ou wr_31 (fX7_shardOf C x y) (fX8_shardOf M x y) := by
    intro h1 h2
    refine ⟨C, mset M 475 26 (nI 1), σ, w, r, RM_thr s, Or.inr ⟨3, nI 0, ?_, ?_, mset_eq, by decide, by decide⟩⟩
    · unfold fX7_shardOf
      rw [h1]
      rfl
    · unfold fX8_shardOf fX8_shardOf_28
      rw [h2]
      simp (disch := omega) only [li_0, li_1, li_2, li_3, li_4, li_5, li_7, li_8, li_12, li_16, li_23, li_24, li_31, li_40, li_42, li_47, li_63, li_64, li_76, li_77, li_97, li_122, li_200, li_201, li_1000, li_1824, li_9999, li_16000, nI_add, nx_or, nx_and, pk_mul, nx_xor, nI_leI, nI_ltI, nI_eq, nI_clamp, vp_nI, px_sub, px_shl, px_shl2, px_shr2, px_bit, Bool.true_eq_false, Bool.false_eq_true, hol_0, hol_1, px_chr, chk, cnd_true, cnd_false, cnd_ite, bnd_s, nmv, exR, if_pos, if_neg, if_true, if_false, reduceIte, eq_self, not_true_eq_false, not_false_eq_true, mset_eq]
  rcases nI_cs x with hx | ⟨a, ha, rfl⟩
  · exact bad1 (c_hasT0 C hx) (m_isT0 M hx)
  · by_cases hb : a < σ.nt
    · have e1 : fX7_requireTarget C (nI a) = some (.inl (nI 0)) := by rw [c_hasT w r ha, cnd_t hb]
      have e2 : fX8_isTarget M (nI a) = some (nI 1) := by rw [m_isT w s ha, cnd_t hb]
      have bad2 : fX7_requireShards y = some (.inr 1) → fX8_isIn y 1 8 = nI 0 → Opp ou wr_31 (fX7_shardOf C (nI a) y) (fX8_shardOf M (nI a) y) := by
        intro h1 h2
        refine ⟨C, mset M 475 26 (nI 2), σ, w, r, RM_thr s, Or.inr ⟨1, nI 0, ?_, ?_, mset_eq, by decide, by decide⟩⟩
        · unfold fX7_shardOf
          rw [e1]
          simp only [bnd_s, sw]
          rw [h1]
          rfl
        · unfold fX8_shardOf fX8_shardOf_28
          rw [e2, h2]
          simp (disch := omega) only [li_0, li_1, li_2, li_3, li_4, li_5, li_7, li_8, li_12, li_16, li_23, li_24, li_31, li_40, li_42, li_47, li_63, li_64, li_76, li_77, li_97, li_122, li_200, li_201, li_1000, li_1824, li_9999, li_16000, nI_add, nx_or, nx_and, pk_mul, nx_xor, nI_leI, nI_ltI, nI_eq, nI_clamp, vp_nI, px_sub, px_shl, px_shl2, px_shr2, px_bit, Bool.true_eq_false, Bool.false_eq_true, hol_0, hol_1, px_chr, chk, cnd_true, cnd_false, cnd_ite, bnd_s, nmv, exR, if_pos, if_neg, if_true, if_false, reduceIte, eq_self, not_true_eq_false, not_false_eq_true, mset_eq]
      rcases nI_cs y with hy | ⟨b, hb2, rfl⟩
      · exact bad2 (c_rsh0 hy) (m_in81 hy)
      · by_cases hc : 1 ≤ b ∧ b ≤ 8
        · obtain ⟨C1, c1, c2, c3, c4⟩ := c_all w r
          obtain ⟨C2, d1, d2, d3, d4, d5⟩ := c_over w c2 (nee_lt σ) hc.1 hc.2
          obtain ⟨M', m1, m2, m3, m4⟩ := m_spr w (RM_thr (x := nI 0) s) hc.1 hc.2
          refine ⟨C2, M', σ, w, d2, m2, Or.inl ⟨nI ((σ.sp σ.nee b (cn σ.nee 24)).2.2 a), ?_, ?_, ?_⟩⟩
          · unfold fX7_shardOf fX5_placeOf
            rw [e1]
            simp only [bnd_s, sw]
            rw [c_rsh hb2, cnd_t hc]
            simp only [bnd_s, sw]
            rw [c1, bnd_s, c_wok w c2, bnd_s, wok_nee w c3, d1, bnd_s, nI_clamp (by omega), d4 a (by omega), chk_t (by rw [vp_nI (by omega)]; omega), bnd_s]
          · unfold fX8_shardOf fX8_shardOf_28
            rw [e2, bnd_s, cnd10, m_in8 hb2, cnd_t hc, cnd10, show (0 : Int32) = nI 0 from rfl, mset_eq, cnd_t (by decide), m1, bnd_s]
            show chk _ (some (M' 497 (nI a).toNatClampNeg, M')) = _
            rw [nI_clamp (by omega), m3 a (by omega), chk_t (by rw [vp_nI (by omega)]; omega)]
          · rw [m4]
            exact mset_eq
        · exact bad2 (by rw [c_rsh hb2, cnd_f hc]) (by rw [m_in8 hb2, cnd_f hc])
    · exact bad1 (by rw [c_hasT w r ha, cnd_f hb]) (by rw [m_isT w s ha, cnd_f hb])
