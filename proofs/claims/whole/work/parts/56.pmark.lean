variable {ou : Int32}
/-! addTarget, mark -/
def Ab.adt (σ : Ab) (c : Nat) : Ab := (σ.up 4 (fun _ _ => σ.nt + 1)).up 11 (fun i _ => if i = σ.nt then c else σ.cs i)
theorem us_adt {σ : Ab} {c q : Nat} (w : WF σ) (h : (σ.adt c).us q) : σ.us q := by
  rcases h with ⟨t, k, h1, h2, h3⟩ | h
  · have h1 : t < σ.nt + 1 := h1
    have h2 : k < σ.gc t := h2
    by_cases e : t = σ.nt
    · rw [w.g0 t (by omega)] at h2
      omega
    · exact Or.inl ⟨t, k, by omega, h2, h3⟩
  · exact Or.inr h
theorem p2_s {a n : Nat} (h : a < 2 ^ n) : a < 2 ^ (n + 1) := Nat.lt_trans h (p2_lt (by omega))
theorem WF_adt {σ : Ab} {c : Nat} (w : WF σ) (h : σ.nt < 16) (h1 : 1 ≤ c) (h2 : c ≤ 1000) : WF (σ.adt c) := by
  have a1 : σ.nt + 1 ≤ 16 := by omega
  have a2 : ∀ t, t < σ.nt + 1 → 1 ≤ (if t = σ.nt then c else σ.cs t) ∧ (if t = σ.nt then c else σ.cs t) ≤ 1000 := by
    intro t ht
    by_cases e : t = σ.nt
    · rw [if_pos e]; exact ⟨h1, h2⟩
    · rw [if_neg e]; exact w.cs t (by omega)
  have a3 : ∀ t, σ.nt + 1 ≤ t → σ.gc t = 0 := fun t ht => w.g0 t (by omega)
  have a4 : ∀ q, (σ.adt c).us q → TX (σ.gn q) (σ.gf q) ∧ isG (σ.gn q) (σ.gf q) := fun q hq => w.gx q (us_adt w hq)
  have a5 : ∀ t, σ.de t < 2 ^ (σ.nt + 1) := fun t => p2_s (w.de t)
  have a6 : ∀ t, σ.nt + 1 ≤ t → σ.de t = 0 := fun t ht => w.d0 t (by omega)
  have a7 : ∀ t, σ.nt + 1 ≤ t → σ.la t = 0 := fun t ht => w.l0 t (by omega)
  have a8 : ∀ i, i < σ.nk → σ.wh i < σ.nt + 1 := fun i hi => Nat.lt_succ_of_lt (w.wh i hi)
  have a9 : ∀ i, i < σ.nk → σ.le i < 2 ^ (σ.nt + 1) := fun i hi => p2_s (w.le i hi)
  exact (WF.mk w.tx w.nf w.px w.pd w.th w.mt w.co w.mc a1 a2 w.gc a3 a4 a5 a6 w.ac w.la a7 w.nr w.ow w.nk a8 w.hd a9 w.kc w.kb w.ku)
theorem RC_adt {C : Mem} {σ : Ab} {c : Nat} (w : WF σ) (r : RC C σ) : RC (mset (mset C 56 σ.nt (nI c)) 55 4 (nI (σ.nt + 1))) (σ.adt c) := by
  have hnr := w.nr
  have hnk := w.nk
  have hnf := w.nf
  have a2 : ∀ t, t < σ.nt + 1 → mset (mset C 56 σ.nt (nI c)) 55 4 (nI (σ.nt + 1)) 56 t = nI (if t = σ.nt then c else σ.cs t) := by
    intro t ht
    rw [mset_ne (by omega)]
    by_cases e : t = σ.nt
    · rw [if_pos e, e, mset_eq]
    · rw [if_neg e, mset_ne (by omega)]; exact r.cs t (by omega)
  have a3 : ∀ k, k < σ.nf → TV (mset (mset C 56 σ.nt (nI c)) 55 4 (nI (σ.nt + 1))) (7 + 2 * k) (σ.pn k) (σ.pf k) := by
    intro k hk
    simp (disch := omega) only [TV, mset_ne]
    exact r.px k hk
  have b1 : ∀ t k, t < σ.nt + 1 → k < σ.gc t → t < σ.nt := by
    intro t k h1 h2
    by_cases e : t = σ.nt
    · rw [w.g0 t (by omega)] at h2
      omega
    · omega
  have a4 : ∀ t k, t < σ.nt + 1 → k < σ.gc t → mset (mset C 56 σ.nt (nI c)) 55 4 (nI (σ.nt + 1)) (60 + 11 * t + 2) k = nI (σ.cv (4 * t + k)) := by
    intro t k h1 h2
    rw [mset_ne (by omega), mset_ne (by omega)]
    exact r.gv t k (b1 t k h1 h2) h2
  have a5 : ∀ t k, t < σ.nt + 1 → k < σ.gc t → TV (mset (mset C 56 σ.nt (nI c)) 55 4 (nI (σ.nt + 1))) (60 + 11 * t + 3 + 2 * k) (σ.gn (4 * t + k)) (σ.gf (4 * t + k)) := by
    intro t k h1 h2
    simp (disch := omega) only [TV, mset_ne]
    exact r.gx t k (b1 t k h1 h2) h2
  exact (RC.mk (by intros; (try simp (disch := omega) only [TV, mset_ne]); first | exact r.tx | (apply r.tx <;> assumption)) (by intros; (try simp (disch := omega) only [TV, mset_ne]); first | exact r.nf | (apply r.nf <;> assumption)) (by intros; (try simp (disch := omega) only [TV, mset_ne]); first | exact r.th | (apply r.th <;> assumption)) (by intros; (try simp (disch := omega) only [TV, mset_ne]); first | exact r.mt | (apply r.mt <;> assumption)) (by intros; (try simp (disch := omega) only [TV, mset_ne]); first | exact r.co | (apply r.co <;> assumption)) (by intros; (try simp (disch := omega) only [TV, mset_ne]); first | exact r.mc | (apply r.mc <;> assumption)) a3 mset_eq a2 (by intros; (try simp (disch := omega) only [TV, mset_ne]); first | exact r.de | (apply r.de <;> assumption)) (by intros; (try simp (disch := omega) only [TV, mset_ne]); first | exact r.gc | (apply r.gc <;> assumption)) (by intros; (try simp (disch := omega) only [TV, mset_ne]); first | exact r.gm | (apply r.gm <;> assumption)) a4 a5 (by intros; (try simp (disch := omega) only [TV, mset_ne]); first | exact r.nk | (apply r.nk <;> assumption)) (by intros; (try simp (disch := omega) only [TV, mset_ne]); first | exact r.wh | (apply r.wh <;> assumption)) (by intros; (try simp (disch := omega) only [TV, mset_ne]); first | exact r.rf | (apply r.rf <;> assumption)) (by intros; (try simp (disch := omega) only [TV, mset_ne]); first | exact r.rt | (apply r.rt <;> assumption)) (by intros; (try simp (disch := omega) only [TV, mset_ne]); first | exact r.la | (apply r.la <;> assumption)) (by intros; (try simp (disch := omega) only [TV, mset_ne]); first | exact r.nr | (apply r.nr <;> assumption)) (by intros; (try simp (disch := omega) only [TV, mset_ne]); first | exact r.nm | (apply r.nm <;> assumption)) (by intros; (try simp (disch := omega) only [TV, mset_ne]); first | exact r.rv | (apply r.rv <;> assumption)) (by intros; (try simp (disch := omega) only [TV, mset_ne]); first | exact r.rx | (apply r.rx <;> assumption)) (by intros; (try simp (disch := omega) only [TV, mset_ne]); first | exact r.ow | (apply r.ow <;> assumption)))
theorem RM_adt {M : Mem} {σ : Ab} {c : Nat} (w : WF σ) (s : RM ou M σ) : RM ou (mset (mset M 484 σ.nt (nI c)) 475 9 (nI (σ.nt + 1))) (σ.adt c) := by
  have a2 : ∀ t, t < σ.nt + 1 → mset (mset M 484 σ.nt (nI c)) 475 9 (nI (σ.nt + 1)) 484 t = nI (if t = σ.nt then c else σ.cs t) := by
    intro t ht
    rw [mset_ne (by omega)]
    by_cases e : t = σ.nt
    · rw [if_pos e, e, mset_eq]
    · rw [if_neg e, mset_ne (by omega)]; exact s.cs t (by omega)
  have a4 : ∀ q, (σ.adt c).us q → MV (mset (mset M 484 σ.nt (nI c)) 475 9 (nI (σ.nt + 1))) q (σ.gn q) (σ.gf q) := by
    intro q hq
    simp (disch := omega) only [MV, mset_ne]
    exact s.gx q (us_adt w hq)
  exact (RM.mk (by intros; (try simp (disch := omega) only [MV, PV, mset_ne]); first | exact s.o8 | (apply s.o8 <;> assumption)) (by intros; (try simp (disch := omega) only [MV, PV, mset_ne]); first | exact s.tx | (apply s.tx <;> assumption)) (by intros; (try simp (disch := omega) only [MV, PV, mset_ne]); first | exact s.nf | (apply s.nf <;> assumption)) (by intros; (try simp (disch := omega) only [MV, PV, mset_ne]); first | exact s.px | (apply s.px <;> assumption)) (by intros; (try simp (disch := omega) only [MV, PV, mset_ne]); first | exact s.th | (apply s.th <;> assumption)) (by intros; (try simp (disch := omega) only [MV, PV, mset_ne]); first | exact s.co | (apply s.co <;> assumption)) (by intros; (try simp (disch := omega) only [MV, PV, mset_ne]); first | exact s.mt | (apply s.mt <;> assumption)) (by intros; (try simp (disch := omega) only [MV, PV, mset_ne]); first | exact s.mc | (apply s.mc <;> assumption)) mset_eq a2 (by intros; (try simp (disch := omega) only [MV, PV, mset_ne]); first | exact s.gc | (apply s.gc <;> assumption)) (by intros; (try simp (disch := omega) only [MV, PV, mset_ne]); first | exact s.de | (apply s.de <;> assumption)) (by intros; (try simp (disch := omega) only [MV, PV, mset_ne]); first | exact s.la | (apply s.la <;> assumption)) a4 (by intros; (try simp (disch := omega) only [MV, PV, mset_ne]); first | exact s.nr | (apply s.nr <;> assumption)) (by intros; (try simp (disch := omega) only [MV, PV, mset_ne]); first | exact s.ow | (apply s.ow <;> assumption)) (by intros; (try simp (disch := omega) only [MV, PV, mset_ne]); first | exact s.nk | (apply s.nk <;> assumption)) (by intros; (try simp (disch := omega) only [MV, PV, mset_ne]); first | exact s.wh | (apply s.wh <;> assumption)) (by intros; (try simp (disch := omega) only [MV, PV, mset_ne]); first | exact s.hd | (apply s.hd <;> assumption)) (by intros; (try simp (disch := omega) only [MV, PV, mset_ne]); first | exact s.le | (apply s.le <;> assumption)) (by intros; (try simp (disch := omega) only [MV, PV, mset_ne]); first | exact s.kc | (apply s.kc <;> assumption)) (by intros; (try simp (disch := omega) only [MV, PV, mset_ne]); first | exact s.kb | (apply s.kb <;> assumption)))
theorem m_in1 {a : Nat} (ha : a < 2147483648) : fX8_isIn (nI a) 1 1000 = cnd (1 ≤ a ∧ a ≤ 1000) (nI 1) (nI 0) := by
  unfold fX8_isIn fX8_isIn_14
  simp only [li_0, li_1, li_1000]
  by_cases h : 1 ≤ a
  · by_cases h2 : a ≤ 1000
    · rw [cnd_t (p := 1 ≤ a ∧ a ≤ 1000) ⟨h, h2⟩]
      simp (disch := omega) only [li_0, li_1, li_2, li_3, li_4, li_5, li_7, li_8, li_12, li_16, li_23, li_24, li_31, li_40, li_42, li_47, li_63, li_64, li_76, li_77, li_97, li_122, li_200, li_201, li_1000, li_1824, li_9999, li_16000, nI_add, nx_or, nx_and, pk_mul, nx_xor, nI_leI, nI_ltI, nI_eq, nI_clamp, vp_nI, px_sub, px_shl, px_shl2, px_shr2, px_bit, Bool.true_eq_false, Bool.false_eq_true, hol_0, hol_1, px_chr, chk, cnd_true, cnd_false, cnd_ite, bnd_s, nmv, exR, if_pos, if_neg, if_true, if_false, reduceIte, eq_self, not_true_eq_false, not_false_eq_true, show ¬ a < 1 by omega, show ¬ 1000 < a by omega]
    · rw [cnd_f (p := 1 ≤ a ∧ a ≤ 1000) (fun q => h2 q.2)]
      simp (disch := omega) only [li_0, li_1, li_2, li_3, li_4, li_5, li_7, li_8, li_12, li_16, li_23, li_24, li_31, li_40, li_42, li_47, li_63, li_64, li_76, li_77, li_97, li_122, li_200, li_201, li_1000, li_1824, li_9999, li_16000, nI_add, nx_or, nx_and, pk_mul, nx_xor, nI_leI, nI_ltI, nI_eq, nI_clamp, vp_nI, px_sub, px_shl, px_shl2, px_shr2, px_bit, Bool.true_eq_false, Bool.false_eq_true, hol_0, hol_1, px_chr, chk, cnd_true, cnd_false, cnd_ite, bnd_s, nmv, exR, if_pos, if_neg, if_true, if_false, reduceIte, eq_self, not_true_eq_false, not_false_eq_true, show ¬ a < 1 by omega, show 1000 < a by omega]
  · rw [cnd_f (p := 1 ≤ a ∧ a ≤ 1000) (fun q => h q.1)]
    simp (disch := omega) only [li_0, li_1, li_2, li_3, li_4, li_5, li_7, li_8, li_12, li_16, li_23, li_24, li_31, li_40, li_42, li_47, li_63, li_64, li_76, li_77, li_97, li_122, li_200, li_201, li_1000, li_1824, li_9999, li_16000, nI_add, nx_or, nx_and, pk_mul, nx_xor, nI_leI, nI_ltI, nI_eq, nI_clamp, vp_nI, px_sub, px_shl, px_shl2, px_shr2, px_bit, Bool.true_eq_false, Bool.false_eq_true, hol_0, hol_1, px_chr, chk, cnd_true, cnd_false, cnd_ite, bnd_s, nmv, exR, if_pos, if_neg, if_true, if_false, reduceIte, eq_self, not_true_eq_false, not_false_eq_true, show a < 1 by omega]
theorem neg_lt1 {a : Int32} (h : a < 0) : a < 1 := by
  rw [Int32.lt_iff_toInt_lt] at *
  have e0 : (0 : Int32).toInt = 0 := rfl
  have e1 : (1 : Int32).toInt = 1 := rfl
  omega
theorem op_addTarget {C M : Mem} {σ : Ab} (w : WF σ) (r : RC C σ) (s : RM ou M σ) (x : Int32) : Opp ou wr_12 (fX7_addTarget C x) (fX8_addTarget M x) := by
  have hnt := w.nt
  have bad1 : fX7_addTarget C x = some (.inr 1, C) → fX8_isIn x 1 1000 = nI 0 → Opp ou wr_12 (fX7_addTarget C x) (fX8_addTarget M x) := by
    intro h1 h2
    refine ⟨C, mset M 475 26 (nI 1), σ, w, r, RM_thr s, Or.inr ⟨1, nI 0, h1, ?_, mset_eq, by decide, by decide⟩⟩
    unfold fX8_addTarget fX8_addTarget_30
    rw [h2]
    simp (disch := omega) only [li_0, li_1, li_2, li_3, li_4, li_5, li_7, li_8, li_12, li_16, li_23, li_24, li_31, li_40, li_42, li_47, li_63, li_64, li_76, li_77, li_97, li_122, li_200, li_201, li_1000, li_1824, li_9999, li_16000, nI_add, nx_or, nx_and, pk_mul, nx_xor, nI_leI, nI_ltI, nI_eq, nI_clamp, vp_nI, px_sub, px_shl, px_shl2, px_shr2, px_bit, Bool.true_eq_false, Bool.false_eq_true, hol_0, hol_1, px_chr, chk, cnd_true, cnd_false, cnd_ite, bnd_s, nmv, exR, if_pos, if_neg, if_true, if_false, reduceIte, eq_self, not_true_eq_false, not_false_eq_true, mset_eq]
  rcases nI_cs x with hx | ⟨a, ha, rfl⟩
  · refine bad1 ?_ ?_
    · unfold fX7_addTarget fX7_addTarget_12
      rw [cnd_t (neg_lt1 hx)]
    · unfold fX8_isIn fX8_isIn_14
      rw [cnd_t (neg_lt1 hx)]
      rfl
  · by_cases hb : 1 ≤ a ∧ a ≤ 1000
    · by_cases hc : σ.nt = 16
      · refine ⟨C, mset M 475 26 (nI 2), σ, w, r, RM_thr s, Or.inr ⟨2, nI 0, ?_, ?_, mset_eq, by decide, by decide⟩⟩
        · unfold fX7_addTarget fX7_addTarget_12 fX2_isFull
          simp only [li_1, li_1000, li_0, li_16]
          rw [r.nt, hc]
          simp (disch := omega) only [li_0, li_1, li_2, li_3, li_4, li_5, li_7, li_8, li_12, li_16, li_23, li_24, li_31, li_40, li_42, li_47, li_63, li_64, li_76, li_77, li_97, li_122, li_200, li_201, li_1000, li_1824, li_9999, li_16000, nI_add, nx_or, nx_and, pk_mul, nx_xor, nI_leI, nI_ltI, nI_eq, nI_clamp, vp_nI, px_sub, px_shl, px_shl2, px_shr2, px_bit, Bool.true_eq_false, Bool.false_eq_true, hol_0, hol_1, px_chr, chk, cnd_true, cnd_false, cnd_ite, bnd_s, nmv, exR, if_pos, if_neg, if_true, if_false, reduceIte, eq_self, not_true_eq_false, not_false_eq_true, show ¬ a < 1 by omega, hb.2]
        · unfold fX8_addTarget fX8_addTarget_30
          rw [m_in1 ha, cnd_t hb, s.nt, hc]
          simp (disch := omega) only [li_0, li_1, li_2, li_3, li_4, li_5, li_7, li_8, li_12, li_16, li_23, li_24, li_31, li_40, li_42, li_47, li_63, li_64, li_76, li_77, li_97, li_122, li_200, li_201, li_1000, li_1824, li_9999, li_16000, nI_add, nx_or, nx_and, pk_mul, nx_xor, nI_leI, nI_ltI, nI_eq, nI_clamp, vp_nI, px_sub, px_shl, px_shl2, px_shr2, px_bit, Bool.true_eq_false, Bool.false_eq_true, hol_0, hol_1, px_chr, chk, cnd_true, cnd_false, cnd_ite, bnd_s, nmv, exR, if_pos, if_neg, if_true, if_false, reduceIte, eq_self, not_true_eq_false, not_false_eq_true, mset_eq]
      · refine ⟨_, _, σ.adt a, WF_adt w (by omega) hb.1 hb.2, RC_adt w r, RM_adt w (RM_thr (x := nI 0) s), Or.inl ⟨nI σ.nt, ?_, ?_, ?_⟩⟩
        · unfold fX7_addTarget fX7_addTarget_12 fX2_isFull fX2_add
          simp only [li_1, li_1000, li_0, li_16, nmv]
          rw [r.nt, nI_clamp (by omega), mset_ne (by omega), r.nt]
          simp (disch := omega) only [li_0, li_1, li_2, li_3, li_4, li_5, li_7, li_8, li_12, li_16, li_23, li_24, li_31, li_40, li_42, li_47, li_63, li_64, li_76, li_77, li_97, li_122, li_200, li_201, li_1000, li_1824, li_9999, li_16000, nI_add, nx_or, nx_and, pk_mul, nx_xor, nI_leI, nI_ltI, nI_eq, nI_clamp, vp_nI, px_sub, px_shl, px_shl2, px_shr2, px_bit, Bool.true_eq_false, Bool.false_eq_true, hol_0, hol_1, px_chr, chk, cnd_true, cnd_false, cnd_ite, bnd_s, nmv, exR, if_pos, if_neg, if_true, if_false, reduceIte, eq_self, not_true_eq_false, not_false_eq_true, show ¬ a < 1 by omega, hb.2, show σ.nt < 16 by omega]
        · unfold fX8_addTarget fX8_addTarget_30
          rw [m_in1 ha, cnd_t hb, s.nt]
          simp only [li_1, li_0, li_16]
          simp (disch := omega) only [mset_ne]
          rw [s.nt, nI_clamp (by omega)]
          simp (disch := omega) only [li_0, li_1, li_2, li_3, li_4, li_5, li_7, li_8, li_12, li_16, li_23, li_24, li_31, li_40, li_42, li_47, li_63, li_64, li_76, li_77, li_97, li_122, li_200, li_201, li_1000, li_1824, li_9999, li_16000, nI_add, nx_or, nx_and, pk_mul, nx_xor, nI_leI, nI_ltI, nI_eq, nI_clamp, vp_nI, px_sub, px_shl, px_shl2, px_shr2, px_bit, Bool.true_eq_false, Bool.false_eq_true, hol_0, hol_1, px_chr, chk, cnd_true, cnd_false, cnd_ite, bnd_s, nmv, exR, if_pos, if_neg, if_true, if_false, reduceIte, eq_self, not_true_eq_false, not_false_eq_true, hc, mset_eq, mset_ne, show σ.nt < 16 by omega, s.nt, Nat.add_sub_cancel]
        · rw [mset_ne (by omega), mset_ne (by omega)]
          exact mset_eq
    · refine bad1 ?_ (by rw [m_in1 ha, cnd_f hb])
      unfold fX7_addTarget fX7_addTarget_12
      simp only [li_1, li_1000]
      by_cases h1 : a < 1
      · simp (disch := omega) only [li_0, li_1, li_2, li_3, li_4, li_5, li_7, li_8, li_12, li_16, li_23, li_24, li_31, li_40, li_42, li_47, li_63, li_64, li_76, li_77, li_97, li_122, li_200, li_201, li_1000, li_1824, li_9999, li_16000, nI_add, nx_or, nx_and, pk_mul, nx_xor, nI_leI, nI_ltI, nI_eq, nI_clamp, vp_nI, px_sub, px_shl, px_shl2, px_shr2, px_bit, Bool.true_eq_false, Bool.false_eq_true, hol_0, hol_1, px_chr, chk, cnd_true, cnd_false, cnd_ite, bnd_s, nmv, exR, if_pos, if_neg, if_true, if_false, reduceIte, eq_self, not_true_eq_false, not_false_eq_true, h1]
      · simp (disch := omega) only [li_0, li_1, li_2, li_3, li_4, li_5, li_7, li_8, li_12, li_16, li_23, li_24, li_31, li_40, li_42, li_47, li_63, li_64, li_76, li_77, li_97, li_122, li_200, li_201, li_1000, li_1824, li_9999, li_16000, nI_add, nx_or, nx_and, pk_mul, nx_xor, nI_leI, nI_ltI, nI_eq, nI_clamp, vp_nI, px_sub, px_shl, px_shl2, px_shr2, px_bit, Bool.true_eq_false, Bool.false_eq_true, hol_0, hol_1, px_chr, chk, cnd_true, cnd_false, cnd_ite, bnd_s, nmv, exR, if_pos, if_neg, if_true, if_false, reduceIte, eq_self, not_true_eq_false, not_false_eq_true, h1, show ¬ a ≤ 1000 by omega]
