variable {ou : Int32}
/-! depend -/
def Ab.dep (σ : Ab) (x y : Nat) : Ab := σ.up 14 (fun i _ => if i = x then σ.de i ||| 2 ^ y else σ.de i)
theorem WF_dep {σ : Ab} {x y : Nat} (w : WF σ) (hx : x < σ.nt) (hy : y < σ.nt) (hU : (σ.ups (2 ^ x)).testBit y = false) : WF (σ.dep x y) := by
  have a1 : ∀ i, (if i = x then σ.de i ||| 2 ^ y else σ.de i) < 2 ^ σ.nt := by
    intro i
    by_cases e : i = x
    · rw [if_pos e]; exact or_lt (w.de i) (p2_lt hy)
    · rw [if_neg e]; exact w.de i
  have a2 : ∀ i, σ.nt ≤ i → (if i = x then σ.de i ||| 2 ^ y else σ.de i) = 0 := by
    intro i hi
    rw [if_neg (by omega)]; exact w.d0 i hi
  have a3 : ∃ rk : Nat → Nat, ∀ t o, (if t = x then σ.de t ||| 2 ^ y else σ.de t).testBit o = true → rk o < rk t := by
    obtain ⟨rk, hrk⟩ := w.ac
    have hcl := ups_cl (σ := σ) (p2_lt hx)
    have hxU : (σ.ups (2 ^ x)).testBit x = true := u2_sub (by simp [Nat.testBit_two_pow_self]) _
    refine ⟨fun t => if (σ.ups (2 ^ x)).testBit t = true then rk t + (rk y + 1) else rk t, fun t o h => ?_⟩
    show (if (σ.ups (2 ^ x)).testBit o = true then rk o + (rk y + 1) else rk o) < (if (σ.ups (2 ^ x)).testBit t = true then rk t + (rk y + 1) else rk t)
    have old : (σ.de t).testBit o = true → (if (σ.ups (2 ^ x)).testBit o = true then rk o + (rk y + 1) else rk o) < (if (σ.ups (2 ^ x)).testBit t = true then rk t + (rk y + 1) else rk t) := by
      intro h2
      have h3 := hrk t o h2
      have ht : t < σ.nt := by
        apply Classical.byContradiction
        intro q
        rw [w.d0 t (by omega), Nat.zero_testBit] at h2
        cases h2
      by_cases c : (σ.ups (2 ^ x)).testBit o = true
      · rw [if_pos c, if_pos (hcl t o ht h2 c)]; omega
      · rw [if_neg c]
        by_cases c2 : (σ.ups (2 ^ x)).testBit t = true
        · rw [if_pos c2]; omega
        · rw [if_neg c2]; exact h3
    by_cases e : t = x
    · rw [if_pos e, Nat.testBit_or, Bool.or_eq_true] at h
      rcases h with h | h
      · exact old h
      · rw [Nat.testBit_two_pow, decide_eq_true_iff] at h
        rw [← h, e, if_pos hxU, if_neg (by rw [hU]; decide)]
        omega
    · rw [if_neg e] at h
      exact old h
  exact (WF.mk w.tx w.nf w.px w.pd w.th w.mt w.co w.mc w.nt w.cs w.gc w.g0 w.gx a1 a2 a3 w.la w.l0 w.nr w.ow w.nk w.wh w.hd w.le w.kc w.kb w.ku)
theorem RC_dep {C : Mem} {σ : Ab} {x y : Nat} (w : WF σ) (r : RC C σ) : RC (mset C 57 x (nI (σ.de x ||| 2 ^ y))) (σ.dep x y) := by
  have hnf := w.nf
  have px : ∀ k, k < σ.nf → TV (mset C 57 x (nI (σ.de x ||| 2 ^ y))) (7 + 2 * k) (σ.pn k) (σ.pf k) := by
    intro k hk
    simp (disch := omega) only [TV, mset_ne]
    exact r.px k hk
  have de : ∀ i, i < 16 → mset C 57 x (nI (σ.de x ||| 2 ^ y)) 57 i = nI (if i = x then σ.de i ||| 2 ^ y else σ.de i) := by
    intro i hi
    by_cases e : i = x
    · rw [if_pos e, e, mset_eq]
    · rw [if_neg e, mset_ne (by omega)]; exact r.de i hi
  exact (RC.mk (by intros; (try simp (disch := omega) only [TV, mset_ne]); first | exact r.tx | (apply r.tx <;> assumption)) (by intros; (try simp (disch := omega) only [TV, mset_ne]); first | exact r.nf | (apply r.nf <;> assumption)) (by intros; (try simp (disch := omega) only [TV, mset_ne]); first | exact r.th | (apply r.th <;> assumption)) (by intros; (try simp (disch := omega) only [TV, mset_ne]); first | exact r.mt | (apply r.mt <;> assumption)) (by intros; (try simp (disch := omega) only [TV, mset_ne]); first | exact r.co | (apply r.co <;> assumption)) (by intros; (try simp (disch := omega) only [TV, mset_ne]); first | exact r.mc | (apply r.mc <;> assumption)) px (by intros; (try simp (disch := omega) only [TV, mset_ne]); first | exact r.nt | (apply r.nt <;> assumption)) (by intros; (try simp (disch := omega) only [TV, mset_ne]); first | exact r.cs | (apply r.cs <;> assumption)) de (by intros; (try simp (disch := omega) only [TV, mset_ne]); first | exact r.gc | (apply r.gc <;> assumption)) (by intros; (try simp (disch := omega) only [TV, mset_ne]); first | exact r.gm | (apply r.gm <;> assumption)) (by intros; (try simp (disch := omega) only [TV, mset_ne]); first | exact r.gv | (apply r.gv <;> assumption)) (by intros; (try simp (disch := omega) only [TV, mset_ne]); first | exact r.gx | (apply r.gx <;> assumption)) (by intros; (try simp (disch := omega) only [TV, mset_ne]); first | exact r.nk | (apply r.nk <;> assumption)) (by intros; (try simp (disch := omega) only [TV, mset_ne]); first | exact r.wh | (apply r.wh <;> assumption)) (by intros; (try simp (disch := omega) only [TV, mset_ne]); first | exact r.rf | (apply r.rf <;> assumption)) (by intros; (try simp (disch := omega) only [TV, mset_ne]); first | exact r.rt | (apply r.rt <;> assumption)) (by intros; (try simp (disch := omega) only [TV, mset_ne]); first | exact r.la | (apply r.la <;> assumption)) (by intros; (try simp (disch := omega) only [TV, mset_ne]); first | exact r.nr | (apply r.nr <;> assumption)) (by intros; (try simp (disch := omega) only [TV, mset_ne]); first | exact r.nm | (apply r.nm <;> assumption)) (by intros; (try simp (disch := omega) only [TV, mset_ne]); first | exact r.rv | (apply r.rv <;> assumption)) (by intros; (try simp (disch := omega) only [TV, mset_ne]); first | exact r.rx | (apply r.rx <;> assumption)) (by intros; (try simp (disch := omega) only [TV, mset_ne]); first | exact r.ow | (apply r.ow <;> assumption)))
theorem RM_dep {M : Mem} {σ : Ab} {x y : Nat} (s : RM ou M σ) : RM ou (mset M 486 x (nI (σ.de x ||| 2 ^ y))) (σ.dep x y) := by
  have de : ∀ i, i < 16 → mset M 486 x (nI (σ.de x ||| 2 ^ y)) 486 i = nI (if i = x then σ.de i ||| 2 ^ y else σ.de i) := by
    intro i hi
    by_cases e : i = x
    · rw [if_pos e, e, mset_eq]
    · rw [if_neg e, mset_ne (by omega)]; exact s.de i hi
  exact (RM.mk (by intros; (try simp (disch := omega) only [MV, PV, mset_ne]); first | exact s.o8 | (apply s.o8 <;> assumption)) (by intros; (try simp (disch := omega) only [MV, PV, mset_ne]); first | exact s.tx | (apply s.tx <;> assumption)) (by intros; (try simp (disch := omega) only [MV, PV, mset_ne]); first | exact s.nf | (apply s.nf <;> assumption)) (by intros; (try simp (disch := omega) only [MV, PV, mset_ne]); first | exact s.px | (apply s.px <;> assumption)) (by intros; (try simp (disch := omega) only [MV, PV, mset_ne]); first | exact s.th | (apply s.th <;> assumption)) (by intros; (try simp (disch := omega) only [MV, PV, mset_ne]); first | exact s.co | (apply s.co <;> assumption)) (by intros; (try simp (disch := omega) only [MV, PV, mset_ne]); first | exact s.mt | (apply s.mt <;> assumption)) (by intros; (try simp (disch := omega) only [MV, PV, mset_ne]); first | exact s.mc | (apply s.mc <;> assumption)) (by intros; (try simp (disch := omega) only [MV, PV, mset_ne]); first | exact s.nt | (apply s.nt <;> assumption)) (by intros; (try simp (disch := omega) only [MV, PV, mset_ne]); first | exact s.cs | (apply s.cs <;> assumption)) (by intros; (try simp (disch := omega) only [MV, PV, mset_ne]); first | exact s.gc | (apply s.gc <;> assumption)) de (by intros; (try simp (disch := omega) only [MV, PV, mset_ne]); first | exact s.la | (apply s.la <;> assumption)) (by intros; (try simp (disch := omega) only [MV, PV, mset_ne]); first | exact s.gx | (apply s.gx <;> assumption)) (by intros; (try simp (disch := omega) only [MV, PV, mset_ne]); first | exact s.nr | (apply s.nr <;> assumption)) (by intros; (try simp (disch := omega) only [MV, PV, mset_ne]); first | exact s.ow | (apply s.ow <;> assumption)) (by intros; (try simp (disch := omega) only [MV, PV, mset_ne]); first | exact s.nk | (apply s.nk <;> assumption)) (by intros; (try simp (disch := omega) only [MV, PV, mset_ne]); first | exact s.wh | (apply s.wh <;> assumption)) (by intros; (try simp (disch := omega) only [MV, PV, mset_ne]); first | exact s.hd | (apply s.hd <;> assumption)) (by intros; (try simp (disch := omega) only [MV, PV, mset_ne]); first | exact s.le | (apply s.le <;> assumption)) (by intros; (try simp (disch := omega) only [MV, PV, mset_ne]); first | exact s.kc | (apply s.kc <;> assumption)) (by intros; (try simp (disch := omega) only [MV, PV, mset_ne]); first | exact s.kb | (apply s.kb <;> assumption)))
theorem RM_th2 {M : Mem} {σ : Ab} {x y : Int32} (h : RM ou M σ) : RM ou (mset (mset M 475 26 x) 475 26 y) σ := RM_thr (RM_thr h)
theorem op_depend {C M : Mem} {σ : Ab} (w : WF σ) (r : RC C σ) (s : RM ou M σ) (x y : Int32) : Opp ou wr_32 (fX7_depend C x y) (fX8_depend M x y) := by
  have hnt := w.nt
  have bad1 : fX7_depend C x y = some (.inr 3, C) → fX8_depend M x y = fX8_depend_21 M x y → Opp ou wr_32 (fX7_depend C x y) (fX8_depend M x y) := by
    intro h1 h2
    refine ⟨C, mset M 475 26 (nI 1), σ, w, r, RM_thr s, Or.inr ⟨3, nI 0, h1, ?_, mset_eq, by decide, by decide⟩⟩
    rw [h2]
    unfold fX8_depend_21 fX8_depend_22
    simp (disch := omega) only [li_0, li_1, li_2, li_3, li_4, li_5, li_7, li_8, li_12, li_16, li_23, li_24, li_31, li_40, li_42, li_47, li_63, li_64, li_76, li_77, li_97, li_122, li_200, li_201, li_1000, li_1824, li_9999, li_16000, nI_add, nx_or, nx_and, pk_mul, nx_xor, nI_leI, nI_ltI, nI_eq, nI_clamp, vp_nI, px_sub, px_shl, px_shl2, px_shr2, px_bit, Bool.true_eq_false, Bool.false_eq_true, hol_0, hol_1, px_chr, chk, cnd_true, cnd_false, cnd_ite, bnd_s, nmv, exR, if_pos, if_neg, if_true, if_false, reduceIte, eq_self, not_true_eq_false, not_false_eq_true, mset_eq]
  have badx : fX7_requireTarget C x = some (.inr 3) → fX8_isTarget M x = some (nI 0) → Opp ou wr_32 (fX7_depend C x y) (fX8_depend M x y) := by
    intro h1 h2
    refine bad1 ?_ ?_
    · unfold fX7_depend
      rw [h1]
      rfl
    · unfold fX8_depend
      rw [h2, bnd_s, cnd00]
  rcases nI_cs x with hx | ⟨a, ha, rfl⟩
  · exact badx (c_hasT0 C hx) (m_isT0 M hx)
  · by_cases ha2 : a < σ.nt
    · have e1 : fX7_requireTarget C (nI a) = some (.inl (nI 0)) := by rw [c_hasT w r ha, cnd_t ha2]
      have e2 : fX8_isTarget M (nI a) = some (nI 1) := by rw [m_isT w s ha, cnd_t ha2]
      have bady : fX7_requireTarget C y = some (.inr 3) → fX8_isTarget M y = some (nI 0) → Opp ou wr_32 (fX7_depend C (nI a) y) (fX8_depend M (nI a) y) := by
        intro h1 h2
        refine bad1 ?_ ?_
        · unfold fX7_depend
          rw [e1]
          simp only [bnd_s, sw]
          rw [h1]
          rfl
        · unfold fX8_depend
          rw [e2, bnd_s, cnd10, h2, bnd_s, cnd00]
      rcases nI_cs y with hy | ⟨b, hb, rfl⟩
      · exact bady (c_hasT0 C hy) (m_isT0 M hy)
      · by_cases hb2 : b < σ.nt
        · have f1 : fX7_requireTarget C (nI b) = some (.inl (nI 0)) := by rw [c_hasT w r hb, cnd_t hb2]
          have f2 : fX8_isTarget M (nI b) = some (nI 1) := by rw [m_isT w s hb, cnd_t hb2]
          have hs : (1 : Int32) <<< (nI a &&& 31) = nI (2 ^ a) := by
            simp only [li_1, li_31]
            rw [px_shl (by omega), Nat.one_mul]
          have hs2 : (1 : Int32) <<< (nI b &&& 31) = nI (2 ^ b) := by
            simp only [li_1, li_31]
            rw [px_shl (by omega), Nat.one_mul]
          have hd := lt16 (w.de a) hnt
          have hu := lt16 (u2_lt (σ := σ) (S := 2 ^ a) (p2_lt ha2) σ.nt) hnt
          have hu : σ.ups (2 ^ a) < 65536 := hu
          have hxU : (σ.ups (2 ^ a)).testBit a = true := u2_sub (by simp [Nat.testBit_two_pow_self]) _
          have hab : fX8_aboveOf (mset M 475 26 (nI 0)) (nI a) = some (nI (σ.ups (2 ^ a) &&& (2 ^ a ^^^ 4294967295))) := by
            unfold fX8_aboveOf
            rw [li_m1]
            simp only [hs]
            rw [m_up w (RM_thr s) (p2_lt ha2), bnd_s, nx_xor, nx_and]
          have hal : (σ.ups (2 ^ a) &&& (2 ^ a ^^^ 4294967295)) < 65536 := Nat.lt_of_le_of_lt Nat.and_le_left hu
          have bit := del_bit (σ.ups (2 ^ a)) a b (by omega)
          have hc : fX7_depend C (nI a) (nI b) = if (σ.de a).testBit b = true ∨ (σ.ups (2 ^ a)).testBit b = true then some (.inr 2, C) else (bnd (fX2_addDependency C (nI a) (nI b)) fun q68 => bnd (fX2_dependenciesOf q68 (nI a)) fun q76 => some (.inl (fJ6_bitCount_0f7a4 q76), q68)) := by
            unfold fX7_depend
            rw [e1]
            simp only [bnd_s, sw]
            rw [f1]
            simp only [bnd_s, sw]
            rw [show fX2_dependenciesOf C (nI a) = some (nI (σ.de a)) by
              unfold fX2_dependenciesOf
              rw [nI_clamp (by omega), r.de a (by omega), chk_t (by rw [vp_nI (by omega)]; omega)], hs, c_up w r (p2_lt ha2), bnd_s, bnd_s]
            simp only [li_0]
            by_cases c1 : (σ.de a).testBit b = true
            · rw [if_pos (Or.inl c1)]
              simp (disch := omega) only [li_0, li_1, li_2, li_3, li_4, li_5, li_7, li_8, li_12, li_16, li_23, li_24, li_31, li_40, li_42, li_47, li_63, li_64, li_76, li_77, li_97, li_122, li_200, li_201, li_1000, li_1824, li_9999, li_16000, nI_add, nx_or, nx_and, pk_mul, nx_xor, nI_leI, nI_ltI, nI_eq, nI_clamp, vp_nI, px_sub, px_shl, px_shl2, px_shr2, px_bit, Bool.true_eq_false, Bool.false_eq_true, hol_0, hol_1, px_chr, chk, cnd_true, cnd_false, cnd_ite, bnd_s, nmv, exR, if_pos, if_neg, if_true, if_false, reduceIte, eq_self, not_true_eq_false, not_false_eq_true, c1]
            · by_cases c2 : (σ.ups (2 ^ a)).testBit b = true
              · rw [if_pos (Or.inr c2)]
                simp (disch := omega) only [li_0, li_1, li_2, li_3, li_4, li_5, li_7, li_8, li_12, li_16, li_23, li_24, li_31, li_40, li_42, li_47, li_63, li_64, li_76, li_77, li_97, li_122, li_200, li_201, li_1000, li_1824, li_9999, li_16000, nI_add, nx_or, nx_and, pk_mul, nx_xor, nI_leI, nI_ltI, nI_eq, nI_clamp, vp_nI, px_sub, px_shl, px_shl2, px_shr2, px_bit, Bool.true_eq_false, Bool.false_eq_true, hol_0, hol_1, px_chr, chk, cnd_true, cnd_false, cnd_ite, bnd_s, nmv, exR, if_pos, if_neg, if_true, if_false, reduceIte, eq_self, not_true_eq_false, not_false_eq_true, c1, c2]
              · rw [if_neg (fun q => q.elim c1 c2)]
                simp (disch := omega) only [li_0, li_1, li_2, li_3, li_4, li_5, li_7, li_8, li_12, li_16, li_23, li_24, li_31, li_40, li_42, li_47, li_63, li_64, li_76, li_77, li_97, li_122, li_200, li_201, li_1000, li_1824, li_9999, li_16000, nI_add, nx_or, nx_and, pk_mul, nx_xor, nI_leI, nI_ltI, nI_eq, nI_clamp, vp_nI, px_sub, px_shl, px_shl2, px_shr2, px_bit, Bool.true_eq_false, Bool.false_eq_true, hol_0, hol_1, px_chr, chk, cnd_true, cnd_false, cnd_ite, bnd_s, nmv, exR, if_pos, if_neg, if_true, if_false, reduceIte, eq_self, not_true_eq_false, not_false_eq_true, c1, c2]
          have hm : fX8_depend M (nI a) (nI b) = if (σ.de a).testBit b = true ∨ (σ.ups (2 ^ a)).testBit b = true then fX8_depend_67 (nI a) (nI b) (mset M 475 26 (nI 0)) else fX8_depend_72 (nI a) (nI b) (mset M 475 26 (nI 0)) (nI 0) := by
            unfold fX8_depend fX8_depend_22
            rw [e2, bnd_s, cnd10, f2, bnd_s, cnd10, show (0 : Int32) = nI 0 from rfl, mset_eq, cnd_t (by decide), nI_clamp (by omega), mset_ne (by omega), s.de a (by omega), hab, chk_t (by rw [vp_nI (by omega)]; omega), bnd_s]
            simp only [li_1]
            by_cases c1 : (σ.de a).testBit b = true
            · rw [if_pos (Or.inl c1)]
              simp (disch := omega) only [li_0, li_1, li_2, li_3, li_4, li_5, li_7, li_8, li_12, li_16, li_23, li_24, li_31, li_40, li_42, li_47, li_63, li_64, li_76, li_77, li_97, li_122, li_200, li_201, li_1000, li_1824, li_9999, li_16000, nI_add, nx_or, nx_and, pk_mul, nx_xor, nI_leI, nI_ltI, nI_eq, nI_clamp, vp_nI, px_sub, px_shl, px_shl2, px_shr2, px_bit, Bool.true_eq_false, Bool.false_eq_true, hol_0, hol_1, px_chr, chk, cnd_true, cnd_false, cnd_ite, bnd_s, nmv, exR, if_pos, if_neg, if_true, if_false, reduceIte, eq_self, not_true_eq_false, not_false_eq_true, c1]
            · by_cases c0 : a = b
              · subst c0
                rw [if_pos (Or.inr hxU)]
                simp (disch := omega) only [li_0, li_1, li_2, li_3, li_4, li_5, li_7, li_8, li_12, li_16, li_23, li_24, li_31, li_40, li_42, li_47, li_63, li_64, li_76, li_77, li_97, li_122, li_200, li_201, li_1000, li_1824, li_9999, li_16000, nI_add, nx_or, nx_and, pk_mul, nx_xor, nI_leI, nI_ltI, nI_eq, nI_clamp, vp_nI, px_sub, px_shl, px_shl2, px_shr2, px_bit, Bool.true_eq_false, Bool.false_eq_true, hol_0, hol_1, px_chr, chk, cnd_true, cnd_false, cnd_ite, bnd_s, nmv, exR, if_pos, if_neg, if_true, if_false, reduceIte, eq_self, not_true_eq_false, not_false_eq_true, c1]
              · by_cases c2 : (σ.ups (2 ^ a)).testBit b = true
                · rw [if_pos (Or.inr c2)]
                  simp (disch := omega) only [li_0, li_1, li_2, li_3, li_4, li_5, li_7, li_8, li_12, li_16, li_23, li_24, li_31, li_40, li_42, li_47, li_63, li_64, li_76, li_77, li_97, li_122, li_200, li_201, li_1000, li_1824, li_9999, li_16000, nI_add, nx_or, nx_and, pk_mul, nx_xor, nI_leI, nI_ltI, nI_eq, nI_clamp, vp_nI, px_sub, px_shl, px_shl2, px_shr2, px_bit, Bool.true_eq_false, Bool.false_eq_true, hol_0, hol_1, px_chr, chk, cnd_true, cnd_false, cnd_ite, bnd_s, nmv, exR, if_pos, if_neg, if_true, if_false, reduceIte, eq_self, not_true_eq_false, not_false_eq_true, c1, c0, bit, c2]
                  simp [c0]
                · rw [if_neg (fun q => q.elim c1 c2)]
                  simp (disch := omega) only [li_0, li_1, li_2, li_3, li_4, li_5, li_7, li_8, li_12, li_16, li_23, li_24, li_31, li_40, li_42, li_47, li_63, li_64, li_76, li_77, li_97, li_122, li_200, li_201, li_1000, li_1824, li_9999, li_16000, nI_add, nx_or, nx_and, pk_mul, nx_xor, nI_leI, nI_ltI, nI_eq, nI_clamp, vp_nI, px_sub, px_shl, px_shl2, px_shr2, px_bit, Bool.true_eq_false, Bool.false_eq_true, hol_0, hol_1, px_chr, chk, cnd_true, cnd_false, cnd_ite, bnd_s, nmv, exR, if_pos, if_neg, if_true, if_false, reduceIte, eq_self, not_true_eq_false, not_false_eq_true, c1, c0, bit, c2]
                  simp
          rw [hc, hm]
          by_cases c : (σ.de a).testBit b = true ∨ (σ.ups (2 ^ a)).testBit b = true
          · rw [if_pos c, if_pos c]
            refine ⟨C, mset (mset M 475 26 (nI 0)) 475 26 (nI 2), σ, w, r, RM_th2 s, Or.inr ⟨2, nI 0, rfl, ?_, mset_eq, by decide, by decide⟩⟩
            unfold fX8_depend_67 fX8_depend_72
            simp (disch := omega) only [li_0, li_1, li_2, li_3, li_4, li_5, li_7, li_8, li_12, li_16, li_23, li_24, li_31, li_40, li_42, li_47, li_63, li_64, li_76, li_77, li_97, li_122, li_200, li_201, li_1000, li_1824, li_9999, li_16000, nI_add, nx_or, nx_and, pk_mul, nx_xor, nI_leI, nI_ltI, nI_eq, nI_clamp, vp_nI, px_sub, px_shl, px_shl2, px_shr2, px_bit, Bool.true_eq_false, Bool.false_eq_true, hol_0, hol_1, px_chr, chk, cnd_true, cnd_false, cnd_ite, bnd_s, nmv, exR, if_pos, if_neg, if_true, if_false, reduceIte, eq_self, not_true_eq_false, not_false_eq_true, mset_eq]
          · rw [if_neg c, if_neg c]
            have hU : (σ.ups (2 ^ a)).testBit b = false := by
              by_cases q : (σ.ups (2 ^ a)).testBit b = true
              · exact absurd (Or.inr q) c
              · simpa using q
            have w' := WF_dep w ha2 hb2 hU
            have hd2 : σ.de a ||| 2 ^ b < 16777216 := lt24 (or_lt (w.de a) (p2_lt hb2)) (by omega)
            refine ⟨_, _, σ.dep a b, w', RC_dep w r, RM_dep (RM_th2 (x := nI 0) (y := nI 0) s), Or.inl ⟨nI (cn (σ.de a ||| 2 ^ b) 24), ?_, ?_, ?_⟩⟩
            · unfold fX2_addDependency fX2_dependenciesOf
              rw [hs2, nI_clamp (by omega), r.de a (by omega), nx_or, chk_t (by rw [vp_nI (by omega)]; omega), chk_t (by rw [vp_nI (by omega)]; omega), bnd_s, chk_t (by rw [vp_nI (by omega)]; omega), bnd_s, mset_eq, bc_s hd2]
            · unfold fX8_depend_72
              simp only [hs2]
              rw [mset_eq, nI_clamp (by omega), mset_eq, mset_ne (by omega), mset_ne (by omega), s.de a (by omega), nx_or, m_count hd2]
              simp (disch := omega) only [li_0, li_1, li_2, li_3, li_4, li_5, li_7, li_8, li_12, li_16, li_23, li_24, li_31, li_40, li_42, li_47, li_63, li_64, li_76, li_77, li_97, li_122, li_200, li_201, li_1000, li_1824, li_9999, li_16000, nI_add, nx_or, nx_and, pk_mul, nx_xor, nI_leI, nI_ltI, nI_eq, nI_clamp, vp_nI, px_sub, px_shl, px_shl2, px_shr2, px_bit, Bool.true_eq_false, Bool.false_eq_true, hol_0, hol_1, px_chr, chk, cnd_true, cnd_false, cnd_ite, bnd_s, nmv, exR, if_pos, if_neg, if_true, if_false, reduceIte, eq_self, not_true_eq_false, not_false_eq_true, show a < 16 by omega]
            · rw [mset_ne (by omega)]
              exact mset_eq
        · exact bady (by rw [c_hasT w r hb, cnd_f hb2]) (by rw [m_isT w s hb, cnd_f hb2])
    · exact badx (by rw [c_hasT w r ha, cnd_f ha2]) (by rw [m_isT w s ha, cnd_f ha2])
