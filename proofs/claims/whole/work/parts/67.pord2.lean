theorem fr_and {σ : Ab} {I k : Nat} (w : WF σ) : σ.de k &&& (I ^^^ 4294967295) < 65536 := Nat.lt_of_le_of_lt Nat.and_le_left (lt16 (w.de k) w.nt)
theorem c_isn {C : Mem} {σ : Ab} (w : WF σ) (r : RC C σ) {I k : Nat} (hI : I < 2 ^ σ.nt) (hk : k < 16) : fX2_isNext C (nI k) (nI I) = some (cnd (σ.fr I k) (nI 1) (nI 0)) := by
  have h1 := lt16 hI w.nt
  have h2 := fr_and (I := I) (k := k) w
  unfold fX2_isNext fX2_isNext_25
  rw [li_m1]
  simp only [li_0, li_1]
  rw [nI_clamp (by omega), r.de k hk, nx_xor, nx_and]
  by_cases c1 : I.testBit k = true
  · rw [cnd_f (p := σ.fr I k) (fun q => by rw [q.1] at c1; cases c1)]
    simp (disch := omega) only [li_0, li_1, li_2, li_3, li_4, li_5, li_7, li_8, li_12, li_16, li_23, li_24, li_31, li_40, li_42, li_47, li_63, li_64, li_76, li_77, li_97, li_122, li_200, li_201, li_1000, li_1824, li_9999, li_16000, nI_add, nx_or, nx_and, pk_mul, nx_xor, nI_leI, nI_ltI, nI_eq, nI_clamp, vp_nI, px_sub, px_shl, px_shl2, px_shr2, px_bit, Bool.true_eq_false, Bool.false_eq_true, hol_0, hol_1, px_chr, chk, cnd_true, cnd_false, cnd_ite, bnd_s, nmv, exR, if_pos, if_neg, if_true, if_false, reduceIte, eq_self, not_true_eq_false, not_false_eq_true, c1]
  · have c1' : I.testBit k = false := by simpa using c1
    by_cases c2 : σ.de k &&& (I ^^^ 4294967295) = 0
    · rw [cnd_t (p := σ.fr I k) ⟨c1', c2⟩]
      simp (disch := omega) only [li_0, li_1, li_2, li_3, li_4, li_5, li_7, li_8, li_12, li_16, li_23, li_24, li_31, li_40, li_42, li_47, li_63, li_64, li_76, li_77, li_97, li_122, li_200, li_201, li_1000, li_1824, li_9999, li_16000, nI_add, nx_or, nx_and, pk_mul, nx_xor, nI_leI, nI_ltI, nI_eq, nI_clamp, vp_nI, px_sub, px_shl, px_shl2, px_shr2, px_bit, Bool.true_eq_false, Bool.false_eq_true, hol_0, hol_1, px_chr, chk, cnd_true, cnd_false, cnd_ite, bnd_s, nmv, exR, if_pos, if_neg, if_true, if_false, reduceIte, eq_self, not_true_eq_false, not_false_eq_true, c1', c2]
    · rw [cnd_f (p := σ.fr I k) (fun q => c2 q.2)]
      simp (disch := omega) only [li_0, li_1, li_2, li_3, li_4, li_5, li_7, li_8, li_12, li_16, li_23, li_24, li_31, li_40, li_42, li_47, li_63, li_64, li_76, li_77, li_97, li_122, li_200, li_201, li_1000, li_1824, li_9999, li_16000, nI_add, nx_or, nx_and, pk_mul, nx_xor, nI_leI, nI_ltI, nI_eq, nI_clamp, vp_nI, px_sub, px_shl, px_shl2, px_shr2, px_bit, Bool.true_eq_false, Bool.false_eq_true, hol_0, hol_1, px_chr, chk, cnd_true, cnd_false, cnd_ite, bnd_s, nmv, exR, if_pos, if_neg, if_true, if_false, reduceIte, eq_self, not_true_eq_false, not_false_eq_true, c1', c2]
theorem c_nxt {C : Mem} {σ : Ab} (w : WF σ) (r : RC C σ) {I : Nat} (hI : I < 2 ^ σ.nt) (he : ∃ k, k < σ.nt ∧ σ.fr I k) : fX2_nextBehind C (nI I) = some (nI (σ.nxt I)) := by
  have hn := w.nt
  obtain ⟨⟨n1, n2⟩, n3⟩ := nxt_s he
  unfold fX2_nextBehind
  refine lp_for (fun i => nI i) (σ.nxt I) (fun i hi => ?_) ?_
  · unfold fX2_nextBehind_2
    have c : ¬ σ.fr I i := fun q => n3 i hi ⟨by omega, q⟩
    simp only [li_0, li_1]
    rw [r.nt, px_sub (by omega), c_isn w r hI (by omega), cnd_f c]
    simp (disch := omega) only [li_0, li_1, li_2, li_3, li_4, li_5, li_7, li_8, li_12, li_16, li_23, li_24, li_31, li_40, li_42, li_47, li_63, li_64, li_76, li_77, li_97, li_122, li_200, li_201, li_1000, li_1824, li_9999, li_16000, nI_add, nx_or, nx_and, pk_mul, nx_xor, nI_leI, nI_ltI, nI_eq, nI_clamp, vp_nI, px_sub, px_shl, px_shl2, px_shr2, px_bit, Bool.true_eq_false, Bool.false_eq_true, hol_0, hol_1, px_chr, chk, cnd_true, cnd_false, cnd_ite, bnd_s, nmv, exR, if_pos, if_neg, if_true, if_false, reduceIte, eq_self, not_true_eq_false, not_false_eq_true, show ¬ σ.nt - 1 ≤ i by omega]
  · unfold fX2_nextBehind_2 fX2_nextBehind_27
    simp only [li_0, li_1]
    rw [r.nt, px_sub (by omega), c_isn w r hI (by omega), cnd_t n2]
    by_cases c : σ.nt - 1 ≤ σ.nxt I
    · simp (disch := omega) only [li_0, li_1, li_2, li_3, li_4, li_5, li_7, li_8, li_12, li_16, li_23, li_24, li_31, li_40, li_42, li_47, li_63, li_64, li_76, li_77, li_97, li_122, li_200, li_201, li_1000, li_1824, li_9999, li_16000, nI_add, nx_or, nx_and, pk_mul, nx_xor, nI_leI, nI_ltI, nI_eq, nI_clamp, vp_nI, px_sub, px_shl, px_shl2, px_shr2, px_bit, Bool.true_eq_false, Bool.false_eq_true, hol_0, hol_1, px_chr, chk, cnd_true, cnd_false, cnd_ite, bnd_s, nmv, exR, if_pos, if_neg, if_true, if_false, reduceIte, eq_self, not_true_eq_false, not_false_eq_true, c]
    · simp (disch := omega) only [li_0, li_1, li_2, li_3, li_4, li_5, li_7, li_8, li_12, li_16, li_23, li_24, li_31, li_40, li_42, li_47, li_63, li_64, li_76, li_77, li_97, li_122, li_200, li_201, li_1000, li_1824, li_9999, li_16000, nI_add, nx_or, nx_and, pk_mul, nx_xor, nI_leI, nI_ltI, nI_eq, nI_clamp, vp_nI, px_sub, px_shl, px_shl2, px_shr2, px_bit, Bool.true_eq_false, Bool.false_eq_true, hol_0, hol_1, px_chr, chk, cnd_true, cnd_false, cnd_ite, bnd_s, nmv, exR, if_pos, if_neg, if_true, if_false, reduceIte, eq_self, not_true_eq_false, not_false_eq_true, c]
/-- scratch of the class -/
theorem RC_59 {C : Mem} {σ : Ab} {j : Nat} {x : Int32} (w : WF σ) (r : RC C σ) : RC (mset C 59 j x) σ := by
  have hnf := w.nf
  have px : ∀ k, k < σ.nf → TV (mset C 59 j x) (7 + 2 * k) (σ.pn k) (σ.pf k) := by
    intro k hk
    simp (disch := omega) only [TV, mset_ne]
    exact r.px k hk
  exact (RC.mk (by intros; (try simp (disch := omega) only [TV, mset_ne]); first | exact r.tx | (apply r.tx <;> assumption)) (by intros; (try simp (disch := omega) only [TV, mset_ne]); first | exact r.nf | (apply r.nf <;> assumption)) (by intros; (try simp (disch := omega) only [TV, mset_ne]); first | exact r.th | (apply r.th <;> assumption)) (by intros; (try simp (disch := omega) only [TV, mset_ne]); first | exact r.mt | (apply r.mt <;> assumption)) (by intros; (try simp (disch := omega) only [TV, mset_ne]); first | exact r.co | (apply r.co <;> assumption)) (by intros; (try simp (disch := omega) only [TV, mset_ne]); first | exact r.mc | (apply r.mc <;> assumption)) px (by intros; (try simp (disch := omega) only [TV, mset_ne]); first | exact r.nt | (apply r.nt <;> assumption)) (by intros; (try simp (disch := omega) only [TV, mset_ne]); first | exact r.cs | (apply r.cs <;> assumption)) (by intros; (try simp (disch := omega) only [TV, mset_ne]); first | exact r.de | (apply r.de <;> assumption)) (by intros; (try simp (disch := omega) only [TV, mset_ne]); first | exact r.gc | (apply r.gc <;> assumption)) (by intros; (try simp (disch := omega) only [TV, mset_ne]); first | exact r.gm | (apply r.gm <;> assumption)) (by intros; (try simp (disch := omega) only [TV, mset_ne]); first | exact r.gv | (apply r.gv <;> assumption)) (by intros; (try simp (disch := omega) only [TV, mset_ne]); first | exact r.gx | (apply r.gx <;> assumption)) (by intros; (try simp (disch := omega) only [TV, mset_ne]); first | exact r.nk | (apply r.nk <;> assumption)) (by intros; (try simp (disch := omega) only [TV, mset_ne]); first | exact r.wh | (apply r.wh <;> assumption)) (by intros; (try simp (disch := omega) only [TV, mset_ne]); first | exact r.rf | (apply r.rf <;> assumption)) (by intros; (try simp (disch := omega) only [TV, mset_ne]); first | exact r.rt | (apply r.rt <;> assumption)) (by intros; (try simp (disch := omega) only [TV, mset_ne]); first | exact r.la | (apply r.la <;> assumption)) (by intros; (try simp (disch := omega) only [TV, mset_ne]); first | exact r.nr | (apply r.nr <;> assumption)) (by intros; (try simp (disch := omega) only [TV, mset_ne]); first | exact r.nm | (apply r.nm <;> assumption)) (by intros; (try simp (disch := omega) only [TV, mset_ne]); first | exact r.rv | (apply r.rv <;> assumption)) (by intros; (try simp (disch := omega) only [TV, mset_ne]); first | exact r.rx | (apply r.rx <;> assumption)) (by intros; (try simp (disch := omega) only [TV, mset_ne]); first | exact r.ow | (apply r.ow <;> assumption)))
theorem c_ord {C : Mem} {σ : Ab} (w : WF σ) (r : RC C σ) : ∃ C', fX2_makeOrder C = some C' ∧ RC C' σ ∧ (∀ p, p < σ.nt → C' 59 p = nI (σ.ord p)) ∧ ∀ k j, k ≠ 59 → C' k j = C k j := by
  have hn := w.nt
  have st : ∀ i, i ≤ σ.nt → ∃ C', lp fX2_makeOrder_4 (C, (0 : Int32), (0 : Int32)) = lp fX2_makeOrder_4 (C', nI (σ.inn i), nI i) ∧ RC C' σ ∧ (∀ p, p < i → C' 59 p = nI (σ.ord p)) ∧ ∀ k j, k ≠ 59 → C' k j = C k j := by
    intro i
    induction i with
    | zero => intro _; exact ⟨C, rfl, r, fun p hp => by omega, fun k j _ => rfl⟩
    | succ i ih =>
      intro hi
      obtain ⟨C', e1, e2, e3, e4⟩ := ih (by omega)
      obtain ⟨i1, i2, i3⟩ := inn_s w i (by omega)
      obtain ⟨⟨n1, n2⟩, n3⟩ := nxt_s (i3 (by omega))
      refine ⟨mset C' 59 i (nI (σ.ord i)), ?_, RC_59 w e2, fun p hp => ?_, fun k j hk => ?_⟩
      · rw [e1]
        refine lp_go ?_
        unfold fX2_makeOrder_4
        simp only [li_1]
        rw [e2.nt, c_nxt w e2 i1 (i3 (by omega)), nI_clamp (by omega), show σ.inn (i + 1) = σ.inn i ||| 2 ^ σ.nxt (σ.inn i) from rfl]
        unfold Ab.ord
        simp (disch := omega) only [li_0, li_1, li_2, li_3, li_4, li_5, li_7, li_8, li_12, li_16, li_23, li_24, li_31, li_40, li_42, li_47, li_63, li_64, li_76, li_77, li_97, li_122, li_200, li_201, li_1000, li_1824, li_9999, li_16000, nI_add, nx_or, nx_and, pk_mul, nx_xor, nI_leI, nI_ltI, nI_eq, nI_clamp, vp_nI, px_sub, px_shl, px_shl2, px_shr2, px_bit, Bool.true_eq_false, Bool.false_eq_true, hol_0, hol_1, px_chr, chk, cnd_true, cnd_false, cnd_ite, bnd_s, nmv, exR, if_pos, if_neg, if_true, if_false, reduceIte, eq_self, not_true_eq_false, not_false_eq_true, show i < 16 by omega, Nat.one_mul]
      · by_cases q : p = i
        · rw [q, mset_eq]
        · rw [mset_ne (by omega)]; exact e3 p (by omega)
      · rw [mset_ne (by omega)]; exact e4 k j hk
  obtain ⟨C', e1, e2, e3, e4⟩ := st σ.nt (Nat.le_refl _)
  refine ⟨C', ?_, e2, e3, e4⟩
  unfold fX2_makeOrder
  rw [e1]
  refine lp_exq ?_
  unfold fX2_makeOrder_4
  show cnd (C' 55 4 ≤ nI σ.nt) (exR (some C')) _ = _
  rw [e2.nt, cnd_t (nI_le (Nat.le_refl _) (by omega))]
