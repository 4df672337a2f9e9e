/-! going down -/
def Ab.d1 (σ : Ab) (S : Nat) : Nat → Nat
  | 0 => S
  | k + 1 => if (Ab.d1 σ S k).testBit k = true then Ab.d1 σ S k ||| σ.de k else Ab.d1 σ S k
def Ab.d2 (σ : Ab) (S : Nat) : Nat → Nat
  | 0 => S
  | i + 1 => σ.d1 (Ab.d2 σ S i) σ.nt
theorem d1_lt {σ : Ab} {S : Nat} (w : WF σ) (h : S < 2 ^ σ.nt) : ∀ k, σ.d1 S k < 2 ^ σ.nt
  | 0 => h
  | k + 1 => by
    have ih := d1_lt w h k
    unfold Ab.d1
    by_cases c : (σ.d1 S k).testBit k = true
    · rw [if_pos c]; exact or_lt ih (w.de k)
    · rw [if_neg c]; exact ih
theorem d2_lt {σ : Ab} {S : Nat} (w : WF σ) (h : S < 2 ^ σ.nt) : ∀ i, σ.d2 S i < 2 ^ σ.nt
  | 0 => h
  | i + 1 => d1_lt w (d2_lt w h i) σ.nt
theorem c_down {C : Mem} {σ : Ab} (w : WF σ) (r : RC C σ) {t : Nat} (ht : t < σ.nt) : fX2_downFrom C (nI t) = some (nI (σ.d2 (2 ^ t) σ.nt)) := by
  have hn := w.nt
  have hS : 2 ^ t < 2 ^ σ.nt := p2_lt ht
  have hs : (1 : Int32) <<< (nI t &&& 31) = nI (2 ^ t) := by
    simp only [li_1, li_31]
    rw [px_shl (by omega), Nat.one_mul]
  unfold fX2_downFrom
  simp only [nmv, hs]
  refine lp_for (fun i => (nI (σ.d2 (2 ^ t) i), nI i)) σ.nt (fun i hi => ?_) ?_
  · unfold fX2_downFrom_6
    rw [r.nt, cnd_f (nI_ge (by omega) (by omega))]
    refine lp_for (fun k => (nI (σ.d1 (σ.d2 (2 ^ t) i) k), nI k)) σ.nt (fun k hk => ?_) ?_
    · unfold fX2_downFrom_17 fX2_downFrom_45
      have h1 := lt16 (d1_lt w (d2_lt w hS i) k) hn
      simp only [li_0, li_1]
      rw [r.nt, nI_clamp (by omega), r.de k (by omega), nx_or]
      by_cases c : (σ.d1 (σ.d2 (2 ^ t) i) k).testBit k = true
      · rw [show σ.d1 (σ.d2 (2 ^ t) i) (k + 1) = σ.d1 (σ.d2 (2 ^ t) i) k ||| σ.de k from if_pos c]
        simp (disch := omega) only [li_0, li_1, li_2, li_3, li_4, li_5, li_7, li_8, li_12, li_16, li_23, li_24, li_31, li_40, li_42, li_47, li_63, li_64, li_76, li_77, li_97, li_122, li_200, li_201, li_1000, li_1824, li_9999, li_16000, nI_add, nx_or, nx_and, pk_mul, nx_xor, nI_leI, nI_ltI, nI_eq, nI_clamp, vp_nI, px_sub, px_shl, px_shl2, px_shr2, px_bit, Bool.true_eq_false, Bool.false_eq_true, hol_0, hol_1, px_chr, chk, cnd_true, cnd_false, cnd_ite, bnd_s, nmv, exR, if_pos, if_neg, if_true, if_false, reduceIte, eq_self, not_true_eq_false, not_false_eq_true, c, show k < 16 by omega]
      · rw [show σ.d1 (σ.d2 (2 ^ t) i) (k + 1) = σ.d1 (σ.d2 (2 ^ t) i) k from if_neg c]
        simp (disch := omega) only [li_0, li_1, li_2, li_3, li_4, li_5, li_7, li_8, li_12, li_16, li_23, li_24, li_31, li_40, li_42, li_47, li_63, li_64, li_76, li_77, li_97, li_122, li_200, li_201, li_1000, li_1824, li_9999, li_16000, nI_add, nx_or, nx_and, pk_mul, nx_xor, nI_leI, nI_ltI, nI_eq, nI_clamp, vp_nI, px_sub, px_shl, px_shl2, px_shr2, px_bit, Bool.true_eq_false, Bool.false_eq_true, hol_0, hol_1, px_chr, chk, cnd_true, cnd_false, cnd_ite, bnd_s, nmv, exR, if_pos, if_neg, if_true, if_false, reduceIte, eq_self, not_true_eq_false, not_false_eq_true, c]
    · unfold fX2_downFrom_17 fX2_downFrom_51
      simp only [li_1]
      rw [r.nt, cnd_t (nI_le (Nat.le_refl _) (by omega)), nI_add]
      rfl
  · unfold fX2_downFrom_6
    rw [r.nt, cnd_t (nI_le (Nat.le_refl _) (by omega))]
theorem d1_sub {σ : Ab} {S x : Nat} (h : S.testBit x = true) : ∀ k, (σ.d1 S k).testBit x = true
  | 0 => h
  | k + 1 => by
    have ih := d1_sub (σ := σ) h k
    unfold Ab.d1
    by_cases c : (σ.d1 S k).testBit k = true
    · rw [if_pos c, Nat.testBit_or, ih]; rfl
    · rw [if_neg c]; exact ih
