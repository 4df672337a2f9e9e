variable {ou : Int32}
/-! orders of the reference -/
theorem px_bit0 {a i : Nat} : (nI (a / 2 ^ i &&& 1) = nI 0) = (a.testBit i = false) := by
  rw [Nat.and_one_is_mod, Nat.testBit_eq_decide_div_mod_eq]
  rcases Nat.mod_two_eq_zero_or_one (a / 2 ^ i) with h | h <;> rw [h] <;> simp
  decide
noncomputable def Ab.fin (σ : Ab) (I : Nat) : Nat → Nat → Nat
  | 0, v => v
  | j + 1, v => Ab.fin σ I j (cnd (σ.fr I j) j v)
theorem fin_n {σ : Ab} {I : Nat} : ∀ j v, (∀ i, i < j → ¬ σ.fr I i) → σ.fin I j v = v
  | 0, v, _ => rfl
  | j + 1, v, h => by
    unfold Ab.fin
    rw [cnd_f (h j (by omega))]
    exact fin_n j v (fun i hi => h i (by omega))
theorem fin_s {σ : Ab} {I k : Nat} (h1 : σ.fr I k) (h2 : ∀ i, i < k → ¬ σ.fr I i) : ∀ j v, k < j → σ.fin I j v = k
  | 0, v, h => by omega
  | j + 1, v, h => by
    unfold Ab.fin
    by_cases e : k = j
    · subst e
      rw [cnd_t h1]
      exact fin_n k k h2
    · exact fin_s h1 h2 j _ (by omega)
theorem m_ol {M : Mem} {σ : Ab} (w : WF σ) (s : RM ou M σ) {I : Nat} {pl : Int32} (hI : I < 2 ^ σ.nt) : ∀ j v, j ≤ σ.nt → lp (fX8_orders_22 (M, nI I, pl)) (nI v, nI j - nI 1) = fX8_orders_63 (nI (σ.fin I j v), nI 0 - nI 1) (M, nI I, pl)
  | 0, v, _ => by
    refine lp_exq ?_
    unfold fX8_orders_22
    show cnd (nI 0 - nI 1 < 0) _ _ = _
    rw [cnd_t (by decide)]
    rfl
  | j + 1, v, hj => by
    have hn := w.nt
    have h1 := lt16 hI hn
    have h2 := fr_and (I := I) (k := j) w
    have e : nI (j + 1) - nI 1 = nI j := px_sub (by omega)
    have e2 : nI j + (-1 : Int32) = nI j - nI 1 := (Int32.sub_eq_add_neg _ _).symm
    unfold Ab.fin
    rw [e, ← m_ol w s hI j _ (by omega), ← e2]
    refine lp_go ?_
    unfold fX8_orders_22 fX8_orders_55 fX8_orders_56
    simp only []
    generalize (nI j + (-1 : Int32)) = z
    rw [li_m1]
    simp only [li_0, li_1]
    rw [nI_clamp (by omega), s.de j (by omega), nx_xor, nx_and]
    by_cases c1 : I.testBit j = true
    · rw [cnd_f (p := σ.fr I j) (fun q => by rw [q.1] at c1; cases c1)]
      simp (disch := omega) only [li_0, li_1, li_2, li_3, li_4, li_5, li_7, li_8, li_12, li_16, li_23, li_24, li_31, li_40, li_42, li_47, li_63, li_64, li_76, li_77, li_97, li_122, li_200, li_201, li_1000, li_1824, li_9999, li_16000, nI_add, nx_or, nx_and, pk_mul, nx_xor, nI_leI, nI_ltI, nI_eq, nI_clamp, vp_nI, px_sub, px_shl, px_shl2, px_shr2, px_bit, Bool.true_eq_false, Bool.false_eq_true, hol_0, hol_1, px_chr, chk, cnd_true, cnd_false, cnd_ite, bnd_s, nmv, exR, if_pos, if_neg, if_true, if_false, reduceIte, eq_self, not_true_eq_false, not_false_eq_true, px_bit0, c1, show ¬ j < 0 by omega]
    · have c1' : I.testBit j = false := by simpa using c1
      by_cases c2 : σ.de j &&& (I ^^^ 4294967295) = 0
      · rw [cnd_t (p := σ.fr I j) ⟨c1', c2⟩]
        simp (disch := omega) only [li_0, li_1, li_2, li_3, li_4, li_5, li_7, li_8, li_12, li_16, li_23, li_24, li_31, li_40, li_42, li_47, li_63, li_64, li_76, li_77, li_97, li_122, li_200, li_201, li_1000, li_1824, li_9999, li_16000, nI_add, nx_or, nx_and, pk_mul, nx_xor, nI_leI, nI_ltI, nI_eq, nI_clamp, vp_nI, px_sub, px_shl, px_shl2, px_shr2, px_bit, Bool.true_eq_false, Bool.false_eq_true, hol_0, hol_1, px_chr, chk, cnd_true, cnd_false, cnd_ite, bnd_s, nmv, exR, if_pos, if_neg, if_true, if_false, reduceIte, eq_self, not_true_eq_false, not_false_eq_true, px_bit0, c1', c2, show ¬ j < 0 by omega]
      · rw [cnd_f (p := σ.fr I j) (fun q => c2 q.2)]
        simp (disch := omega) only [li_0, li_1, li_2, li_3, li_4, li_5, li_7, li_8, li_12, li_16, li_23, li_24, li_31, li_40, li_42, li_47, li_63, li_64, li_76, li_77, li_97, li_122, li_200, li_201, li_1000, li_1824, li_9999, li_16000, nI_add, nx_or, nx_and, pk_mul, nx_xor, nI_leI, nI_ltI, nI_eq, nI_clamp, vp_nI, px_sub, px_shl, px_shl2, px_shr2, px_bit, Bool.true_eq_false, Bool.false_eq_true, hol_0, hol_1, px_chr, chk, cnd_true, cnd_false, cnd_ite, bnd_s, nmv, exR, if_pos, if_neg, if_true, if_false, reduceIte, eq_self, not_true_eq_false, not_false_eq_true, px_bit0, c1', c2, show ¬ j < 0 by omega]
theorem m_ord {M : Mem} {σ : Ab} (w : WF σ) (s : RM ou M σ) : ∃ M', fX8_orders M = some M' ∧ RM ou M' σ ∧ (∀ p, p < σ.nt → M' 494 p = nI (σ.ord p)) ∧ ∀ k j, k ≠ 494 → M' k j = M k j := by
  have hn := w.nt
  have st : ∀ i, i ≤ σ.nt → ∃ M', lp fX8_orders_4 (M, (0 : Int32), (0 : Int32)) = lp fX8_orders_4 (M', nI (σ.inn i), nI i) ∧ RM ou M' σ ∧ (∀ p, p < i → M' 494 p = nI (σ.ord p)) ∧ ∀ k j, k ≠ 494 → M' k j = M k j := by
    intro i
    induction i with
    | zero => intro _; exact ⟨M, rfl, s, fun p hp => by omega, fun k j _ => rfl⟩
    | succ i ih =>
      intro hi
      obtain ⟨M', e1, e2, e3, e4⟩ := ih (by omega)
      obtain ⟨i1, i2, i3⟩ := inn_s w i (by omega)
      obtain ⟨⟨n1, n2⟩, n3⟩ := nxt_s (i3 (by omega))
      refine ⟨mset M' 494 i (nI (σ.ord i)), ?_, RM_scr e2 (by omega), fun p hp => ?_, fun k j hk => ?_⟩
      · rw [e1]
        refine lp_go ?_
        unfold fX8_orders_4
        rw [li_m1]
        simp only [nmv, li_1]
        rw [e2.nt, cnd_f (nI_ge (by omega) (by omega)), m_ol w e2 i1 _ _ (Nat.le_refl _), fin_s n2 (fun i hi q => n3 i hi ⟨by omega, q⟩) _ _ n1]
        unfold fX8_orders_63
        simp only [li_1]
        rw [nI_clamp (by omega), show σ.inn (i + 1) = σ.inn i ||| 2 ^ σ.nxt (σ.inn i) from rfl]
        unfold Ab.ord
        simp (disch := omega) only [li_0, li_1, li_2, li_3, li_4, li_5, li_7, li_8, li_12, li_16, li_23, li_24, li_31, li_40, li_42, li_47, li_63, li_64, li_76, li_77, li_97, li_122, li_200, li_201, li_1000, li_1824, li_9999, li_16000, nI_add, nx_or, nx_and, pk_mul, nx_xor, nI_leI, nI_ltI, nI_eq, nI_clamp, vp_nI, px_sub, px_shl, px_shl2, px_shr2, px_bit, Bool.true_eq_false, Bool.false_eq_true, hol_0, hol_1, px_chr, chk, cnd_true, cnd_false, cnd_ite, bnd_s, nmv, exR, if_pos, if_neg, if_true, if_false, reduceIte, eq_self, not_true_eq_false, not_false_eq_true, show i < 16 by omega, Nat.one_mul]
      · by_cases q : p = i
        · rw [q, mset_eq]
        · rw [mset_ne (by omega)]; exact e3 p (by omega)
      · rw [mset_ne (by omega)]; exact e4 k j hk
  obtain ⟨M', e1, e2, e3, e4⟩ := st σ.nt (Nat.le_refl _)
  refine ⟨M', ?_, e2, e3, e4⟩
  unfold fX8_orders
  rw [e1]
  refine lp_exq ?_
  unfold fX8_orders_4
  show cnd (M' 475 9 ≤ nI σ.nt) (exR (some M')) _ = _
  rw [e2.nt, cnd_t (nI_le (Nat.le_refl _) (by omega))]
