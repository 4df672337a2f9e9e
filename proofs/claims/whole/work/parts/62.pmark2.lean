variable {ou : Int32}
/-! mark -/
def Ab.mrk (σ : Ab) : Ab := (σ.up 3 (fun _ _ => σ.th)).up 10 (fun i _ => σ.co i)
theorem WF_mrk {σ : Ab} (w : WF σ) : WF σ.mrk := by
  have a1 : ∀ k, σ.th.testBit k = true → σ.co k ≤ 9999 := fun k hk => w.co k (bit_nf w hk)
  exact (WF.mk w.tx w.nf w.px w.pd w.th w.th w.co a1 w.nt w.cs w.gc w.g0 w.gx w.de w.d0 w.ac w.la w.l0 w.nr w.ow w.nk w.wh w.hd w.le w.kc w.kb w.ku)
theorem mc_ne {C : Mem} {k j : Nat} (h : k ≠ 6) : mcpy C 5 6 0 0 24 k j = C k j := by
  unfold mcpy
  rw [if_neg h]
theorem mc_in {C : Mem} {j : Nat} (h : j < 24) : mcpy C 5 6 0 0 24 6 j = C 5 j := by
  unfold mcpy
  rw [if_pos rfl]
  unfold va_cpy
  rw [if_pos ⟨by omega, by omega⟩, show 0 + (j - 0) = j by omega]
theorem RC_mrk {C : Mem} {σ : Ab} (w : WF σ) (r : RC C σ) : RC (mcpy (mset C 3 5 (nI σ.th)) 5 6 0 0 24) σ.mrk := by
  have hnf := w.nf
  have mt : mcpy (mset C 3 5 (nI σ.th)) 5 6 0 0 24 3 5 = nI σ.th := by rw [mc_ne (by omega), mset_eq]
  have mc : ∀ k, σ.th.testBit k = true → mcpy (mset C 3 5 (nI σ.th)) 5 6 0 0 24 6 k = nI (σ.co k) := by
    intro k hk
    have := bit_nf w hk
    rw [mc_in (by omega), mset_ne (by omega)]
    exact r.co k this
  exact (RC.mk (by intros; (try simp (disch := omega) only [TV, mset_ne, mc_ne]); first | exact r.tx | (apply r.tx <;> assumption)) (by intros; (try simp (disch := omega) only [TV, mset_ne, mc_ne]); first | exact r.nf | (apply r.nf <;> assumption)) (by intros; (try simp (disch := omega) only [TV, mset_ne, mc_ne]); first | exact r.th | (apply r.th <;> assumption)) mt (by intros; (try simp (disch := omega) only [TV, mset_ne, mc_ne]); first | exact r.co | (apply r.co <;> assumption)) mc (by intros; (try simp (disch := omega) only [TV, mset_ne, mc_ne]); first | exact r.px | (apply r.px <;> assumption)) (by intros; (try simp (disch := omega) only [TV, mset_ne, mc_ne]); first | exact r.nt | (apply r.nt <;> assumption)) (by intros; (try simp (disch := omega) only [TV, mset_ne, mc_ne]); first | exact r.cs | (apply r.cs <;> assumption)) (by intros; (try simp (disch := omega) only [TV, mset_ne, mc_ne]); first | exact r.de | (apply r.de <;> assumption)) (by intros; (try simp (disch := omega) only [TV, mset_ne, mc_ne]); first | exact r.gc | (apply r.gc <;> assumption)) (by intros; (try simp (disch := omega) only [TV, mset_ne, mc_ne]); first | exact r.gm | (apply r.gm <;> assumption)) (by intros; (try simp (disch := omega) only [TV, mset_ne, mc_ne]); first | exact r.gv | (apply r.gv <;> assumption)) (by intros; (try simp (disch := omega) only [TV, mset_ne, mc_ne]); first | exact r.gx | (apply r.gx <;> assumption)) (by intros; (try simp (disch := omega) only [TV, mset_ne, mc_ne]); first | exact r.nk | (apply r.nk <;> assumption)) (by intros; (try simp (disch := omega) only [TV, mset_ne, mc_ne]); first | exact r.wh | (apply r.wh <;> assumption)) (by intros; (try simp (disch := omega) only [TV, mset_ne, mc_ne]); first | exact r.rf | (apply r.rf <;> assumption)) (by intros; (try simp (disch := omega) only [TV, mset_ne, mc_ne]); first | exact r.rt | (apply r.rt <;> assumption)) (by intros; (try simp (disch := omega) only [TV, mset_ne, mc_ne]); first | exact r.la | (apply r.la <;> assumption)) (by intros; (try simp (disch := omega) only [TV, mset_ne, mc_ne]); first | exact r.nr | (apply r.nr <;> assumption)) (by intros; (try simp (disch := omega) only [TV, mset_ne, mc_ne]); first | exact r.nm | (apply r.nm <;> assumption)) (by intros; (try simp (disch := omega) only [TV, mset_ne, mc_ne]); first | exact r.rv | (apply r.rv <;> assumption)) (by intros; (try simp (disch := omega) only [TV, mset_ne, mc_ne]); first | exact r.rx | (apply r.rx <;> assumption)) (by intros; (try simp (disch := omega) only [TV, mset_ne, mc_ne]); first | exact r.ow | (apply r.ow <;> assumption)))
theorem op_mark {C M : Mem} {σ : Ab} (w : WF σ) (r : RC C σ) (s : RM ou M σ) : Opn ou (fX7_mark C) (fX8_mark M) := by
  have hnf := w.nf
  have s0 := RM_thr (x := nI 0) s
  have ht := th_lt w
  have st : ∀ i, i ≤ σ.nf → ∃ M', lp fX8_mark_9 (mset M 475 26 (0 : Int32), (0 : Int32), (0 : Int32)) = lp fX8_mark_9 (M', nI (cn σ.th i), nI i) ∧ (∀ k, k < 24 → M' 482 k = nI (if k < i then (if σ.th.testBit k then 1 else 0) else (if σ.mt.testBit k then 1 else 0))) ∧ (∀ k, k < i → M' 483 k = nI (σ.co k)) ∧ ∀ k j, k ≠ 482 → k ≠ 483 → M' k j = mset M 475 26 (nI 0) k j := by
    intro i
    induction i with
    | zero =>
      intro _
      refine ⟨mset M 475 26 (nI 0), rfl, fun k hk => ?_, fun k hk => by omega, fun k j _ _ => rfl⟩
      rw [s0.mt k hk, if_neg (show ¬ k < 0 by omega)]
    | succ i ih =>
      intro hi
      obtain ⟨M', e1, e2, e3, e4⟩ := ih (by omega)
      have t1 : M' 480 i = nI (if σ.th.testBit i then 1 else 0) := by rw [e4 480 i (by omega) (by omega)]; exact s0.th i (by omega)
      have t2 : M' 481 i = nI (σ.co i) := by rw [e4 481 i (by omega) (by omega)]; exact s0.co i (by omega)
      have t3 : M' 475 2 = nI σ.nf := by rw [e4 475 2 (by omega) (by omega)]; exact s0.nf
      refine ⟨mset (mset M' 482 i (nI (if σ.th.testBit i then 1 else 0))) 483 i (nI (σ.co i)), ?_, fun k hk => ?_, fun k hk => ?_, fun k j h1 h2 => ?_⟩
      · rw [e1]
        refine lp_go ?_
        unfold fX8_mark_9 fX8_mark_56
        simp only [li_0, li_1]
        rw [t3, nI_clamp (by omega), t1, px_bool]
        simp (disch := omega) only [mset_ne]
        rw [t1, t2, show cn σ.th (i + 1) = cn σ.th i + σ.th / 2 ^ i % 2 from rfl]
        have hb := Nat.testBit_eq_decide_div_mod_eq (x := σ.th) (i := i)
        have h2 := Nat.mod_lt (σ.th / 2 ^ i) (show 0 < 2 by decide)
        by_cases c : σ.th.testBit i = true
        · rw [hb, decide_eq_true_iff] at c
          have c2 : σ.th.testBit i = true := by rw [hb, c]; rfl
          rw [c]
          simp (disch := omega) only [li_0, li_1, li_2, li_3, li_4, li_5, li_7, li_8, li_12, li_16, li_23, li_24, li_31, li_40, li_42, li_47, li_63, li_64, li_76, li_77, li_97, li_122, li_200, li_201, li_1000, li_1824, li_9999, li_16000, nI_add, nx_or, nx_and, pk_mul, nx_xor, nI_leI, nI_ltI, nI_eq, nI_clamp, vp_nI, px_sub, px_shl, px_shl2, px_shr2, px_bit, Bool.true_eq_false, Bool.false_eq_true, hol_0, hol_1, px_chr, chk, cnd_true, cnd_false, cnd_ite, bnd_s, nmv, exR, if_pos, if_neg, if_true, if_false, reduceIte, eq_self, not_true_eq_false, not_false_eq_true, c2]
        · have c0 : σ.th / 2 ^ i % 2 = 0 := by
            rw [hb, decide_eq_true_iff] at c
            omega
          have c2 : σ.th.testBit i = false := by simpa using c
          rw [c0]
          simp (disch := omega) only [li_0, li_1, li_2, li_3, li_4, li_5, li_7, li_8, li_12, li_16, li_23, li_24, li_31, li_40, li_42, li_47, li_63, li_64, li_76, li_77, li_97, li_122, li_200, li_201, li_1000, li_1824, li_9999, li_16000, nI_add, nx_or, nx_and, pk_mul, nx_xor, nI_leI, nI_ltI, nI_eq, nI_clamp, vp_nI, px_sub, px_shl, px_shl2, px_shr2, px_bit, Bool.true_eq_false, Bool.false_eq_true, hol_0, hol_1, px_chr, chk, cnd_true, cnd_false, cnd_ite, bnd_s, nmv, exR, if_pos, if_neg, if_true, if_false, reduceIte, eq_self, not_true_eq_false, not_false_eq_true, c2]
      · rw [mset_ne (by omega)]
        by_cases q : k = i
        · rw [q, mset_eq, if_pos (show i < i + 1 by omega)]
        · rw [mset_ne (by omega), e2 k hk]
          by_cases q2 : k < i
          · rw [if_pos q2, if_pos (show k < i + 1 by omega)]
          · rw [if_neg q2, if_neg (show ¬ k < i + 1 by omega)]
      · by_cases q : k = i
        · rw [q, mset_eq]
        · rw [mset_ne (by omega), mset_ne (by omega)]; exact e3 k (by omega)
      · rw [mset_ne (by omega), mset_ne (by omega)]; exact e4 k j h1 h2
  obtain ⟨M', e1, e2, e3, e4⟩ := st σ.nf (Nat.le_refl _)
  have hcn : cn σ.th 24 = cn σ.th σ.nf := by
    have up : ∀ d, cn σ.th (σ.nf + d) = cn σ.th σ.nf := by
      intro d
      induction d with
      | zero => rfl
      | succ d ih =>
        show cn σ.th (σ.nf + d) + σ.th / 2 ^ (σ.nf + d) % 2 = _
        have : σ.th < 2 ^ (σ.nf + d) := Nat.lt_of_lt_of_le w.th (Nat.pow_le_pow_right (by decide) (by omega))
        rw [ih, Nat.div_eq_of_lt this, Nat.zero_mod, Nat.add_zero]
    have := up (24 - σ.nf)
    rwa [show σ.nf + (24 - σ.nf) = 24 by omega] at this
  have mt : ∀ k, k < 24 → M' 482 k = nI (if σ.th.testBit k then 1 else 0) := by
    intro k hk
    rw [e2 k hk]
    by_cases q : k < σ.nf
    · rw [if_pos q]
    · rw [if_neg q, bit_lt w.mt (by omega : σ.nf ≤ k), bit_lt w.th (by omega : σ.nf ≤ k)]
  have mc : ∀ k, σ.th.testBit k = true → M' 483 k = nI (σ.co k) := fun k hk => e3 k (bit_nf w hk)
  have s' : RM ou M' σ.mrk := (RM.mk (by intros; (try simp (disch := omega) only [MV, PV, mset_ne, e4]); first | exact s0.o8 | (apply s0.o8 <;> assumption)) (by intros; (try simp (disch := omega) only [MV, PV, mset_ne, e4]); first | exact s0.tx | (apply s0.tx <;> assumption)) (by intros; (try simp (disch := omega) only [MV, PV, mset_ne, e4]); first | exact s0.nf | (apply s0.nf <;> assumption)) (by intros; (try simp (disch := omega) only [MV, PV, mset_ne, e4]); first | exact s0.px | (apply s0.px <;> assumption)) (by intros; (try simp (disch := omega) only [MV, PV, mset_ne, e4]); first | exact s0.th | (apply s0.th <;> assumption)) (by intros; (try simp (disch := omega) only [MV, PV, mset_ne, e4]); first | exact s0.co | (apply s0.co <;> assumption)) mt mc (by intros; (try simp (disch := omega) only [MV, PV, mset_ne, e4]); first | exact s0.nt | (apply s0.nt <;> assumption)) (by intros; (try simp (disch := omega) only [MV, PV, mset_ne, e4]); first | exact s0.cs | (apply s0.cs <;> assumption)) (by intros; (try simp (disch := omega) only [MV, PV, mset_ne, e4]); first | exact s0.gc | (apply s0.gc <;> assumption)) (by intros; (try simp (disch := omega) only [MV, PV, mset_ne, e4]); first | exact s0.de | (apply s0.de <;> assumption)) (by intros; (try simp (disch := omega) only [MV, PV, mset_ne, e4]); first | exact s0.la | (apply s0.la <;> assumption)) (by intros; (try simp (disch := omega) only [MV, PV, mset_ne, e4]); first | exact s0.gx | (apply s0.gx <;> assumption)) (by intros; (try simp (disch := omega) only [MV, PV, mset_ne, e4]); first | exact s0.nr | (apply s0.nr <;> assumption)) (by intros; (try simp (disch := omega) only [MV, PV, mset_ne, e4]); first | exact s0.ow | (apply s0.ow <;> assumption)) (by intros; (try simp (disch := omega) only [MV, PV, mset_ne, e4]); first | exact s0.nk | (apply s0.nk <;> assumption)) (by intros; (try simp (disch := omega) only [MV, PV, mset_ne, e4]); first | exact s0.wh | (apply s0.wh <;> assumption)) (by intros; (try simp (disch := omega) only [MV, PV, mset_ne, e4]); first | exact s0.hd | (apply s0.hd <;> assumption)) (by intros; (try simp (disch := omega) only [MV, PV, mset_ne, e4]); first | exact s0.le | (apply s0.le <;> assumption)) (by intros; (try simp (disch := omega) only [MV, PV, mset_ne, e4]); first | exact s0.kc | (apply s0.kc <;> assumption)) (by intros; (try simp (disch := omega) only [MV, PV, mset_ne, e4]); first | exact s0.kb | (apply s0.kb <;> assumption)))
  refine ⟨_, M', σ.mrk, nI (cn σ.th 24), WF_mrk w, RC_mrk w r, s', ?_, ?_⟩
  · unfold fX7_mark fX0_keepMark fX0_present
    rw [r.th, bnd_s, ← bc_s ht]
    show some (fJ6_bitCount_0f7a4 (mcpy (mset C 3 5 (nI σ.th)) 5 6 0 0 24 3 4), mcpy (mset C 3 5 (nI σ.th)) 5 6 0 0 24) = _
    rw [mc_ne (by omega), mset_ne (by omega), r.th]
  · unfold fX8_mark
    rw [e1]
    refine lp_exq ?_
    unfold fX8_mark_9
    show cnd (M' 475 2 ≤ nI σ.nf) _ _ = _
    rw [e4 475 2 (by omega) (by omega), s0.nf, cnd_t (nI_le (Nat.le_refl _) (by omega)), hcn]
