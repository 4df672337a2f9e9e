variable {ou : Int32}
/-! edit, delete -/
theorem cnd00 {α : Sort _} {a b : α} : cnd (nI 0 = 0) a b = a := cnd_t rfl
theorem cnd10 {α : Sort _} {a b : α} : cnd (nI 1 = 0) a b = b := cnd_f (by decide)
theorem th_lt {σ : Ab} (w : WF σ) : σ.th < 16777216 := Nat.lt_of_lt_of_le w.th (Nat.pow_le_pow_right (n := 2) (by decide) w.nf)
theorem c_there {C : Mem} {σ : Ab} (w : WF σ) (r : RC C σ) {a : Nat} (ha : a < 2147483648) : fX0_isThere C (nI a) = cnd (σ.th.testBit a = true) (nI 1) (nI 0) := by
  have h1 := w.nf
  have h2 := th_lt w
  unfold fX0_isThere fX0_isThere_23
  simp only [li_0, li_1]
  rw [c_has w r ha, r.th]
  by_cases h : a < σ.nf
  · rw [cnd_t h]
    by_cases c : σ.th.testBit a = true
    · simp (disch := omega) only [li_0, li_1, li_2, li_3, li_4, li_5, li_7, li_8, li_12, li_16, li_23, li_24, li_31, li_40, li_42, li_47, li_63, li_64, li_76, li_77, li_97, li_122, li_200, li_201, li_1000, li_1824, li_9999, li_16000, nI_add, nx_or, nx_and, pk_mul, nx_xor, nI_leI, nI_ltI, nI_eq, nI_clamp, vp_nI, px_sub, px_shl, px_shl2, px_shr2, px_bit, Bool.true_eq_false, Bool.false_eq_true, hol_0, hol_1, px_chr, chk, cnd_true, cnd_false, cnd_ite, bnd_s, nmv, exR, if_pos, if_neg, if_true, if_false, reduceIte, eq_self, not_true_eq_false, not_false_eq_true, c]
    · simp (disch := omega) only [li_0, li_1, li_2, li_3, li_4, li_5, li_7, li_8, li_12, li_16, li_23, li_24, li_31, li_40, li_42, li_47, li_63, li_64, li_76, li_77, li_97, li_122, li_200, li_201, li_1000, li_1824, li_9999, li_16000, nI_add, nx_or, nx_and, pk_mul, nx_xor, nI_leI, nI_ltI, nI_eq, nI_clamp, vp_nI, px_sub, px_shl, px_shl2, px_shr2, px_bit, Bool.true_eq_false, Bool.false_eq_true, hol_0, hol_1, px_chr, chk, cnd_true, cnd_false, cnd_ite, bnd_s, nmv, exR, if_pos, if_neg, if_true, if_false, reduceIte, eq_self, not_true_eq_false, not_false_eq_true, c]
  · rw [cnd_f h, cnd_t rfl, cnd_f]
    rw [bit_lt w.th (by omega : σ.nf ≤ a)]
    decide
theorem c_there0 (C : Mem) {a : Int32} (ha : a < 0) : fX0_isThere C a = nI 0 := by
  unfold fX0_isThere fX0_isThere_23
  rw [c_has0 C ha, cnd00]
  rfl
theorem m_there {M : Mem} {σ : Ab} (w : WF σ) (s : RM ou M σ) {a : Nat} (ha : a < 2147483648) : fX8_isThere M (nI a) = some (cnd (σ.th.testBit a = true) (nI 1) (nI 0)) := by
  have h1 := w.nf
  unfold fX8_isThere fX8_isThere_27
  rw [s.nf, m_inS ha (by omega)]
  simp only [li_0, li_1]
  by_cases h : a < σ.nf
  · rw [cnd_t h, nI_clamp (by omega), s.th a (by omega)]
    by_cases c : σ.th.testBit a = true
    · simp (disch := omega) only [li_0, li_1, li_2, li_3, li_4, li_5, li_7, li_8, li_12, li_16, li_23, li_24, li_31, li_40, li_42, li_47, li_63, li_64, li_76, li_77, li_97, li_122, li_200, li_201, li_1000, li_1824, li_9999, li_16000, nI_add, nx_or, nx_and, pk_mul, nx_xor, nI_leI, nI_ltI, nI_eq, nI_clamp, vp_nI, px_sub, px_shl, px_shl2, px_shr2, px_bit, Bool.true_eq_false, Bool.false_eq_true, hol_0, hol_1, px_chr, chk, cnd_true, cnd_false, cnd_ite, bnd_s, nmv, exR, if_pos, if_neg, if_true, if_false, reduceIte, eq_self, not_true_eq_false, not_false_eq_true, c]
    · simp (disch := omega) only [li_0, li_1, li_2, li_3, li_4, li_5, li_7, li_8, li_12, li_16, li_23, li_24, li_31, li_40, li_42, li_47, li_63, li_64, li_76, li_77, li_97, li_122, li_200, li_201, li_1000, li_1824, li_9999, li_16000, nI_add, nx_or, nx_and, pk_mul, nx_xor, nI_leI, nI_ltI, nI_eq, nI_clamp, vp_nI, px_sub, px_shl, px_shl2, px_shr2, px_bit, Bool.true_eq_false, Bool.false_eq_true, hol_0, hol_1, px_chr, chk, cnd_true, cnd_false, cnd_ite, bnd_s, nmv, exR, if_pos, if_neg, if_true, if_false, reduceIte, eq_self, not_true_eq_false, not_false_eq_true, c]
  · rw [cnd_f h, cnd_t rfl, cnd_f]
    rw [bit_lt w.th (by omega : σ.nf ≤ a)]
    decide
theorem m_there0 (M : Mem) {a : Int32} (ha : a < 0) : fX8_isThere M a = some (nI 0) := by
  unfold fX8_isThere fX8_isThere_27
  rw [m_in0 ha, cnd00]
  rfl
theorem c_cont {a : Nat} (ha : a < 2147483648) : fX7_requireContent (nI a) = cnd (a ≤ 9999) (some (.inl (nI 0))) (some (.inr 1)) := by
  unfold fX7_requireContent fX7_requireContent_11
  simp only [li_0, li_9999]
  by_cases h : a ≤ 9999
  · rw [cnd_t h]
    simp (disch := omega) only [li_0, li_1, li_2, li_3, li_4, li_5, li_7, li_8, li_12, li_16, li_23, li_24, li_31, li_40, li_42, li_47, li_63, li_64, li_76, li_77, li_97, li_122, li_200, li_201, li_1000, li_1824, li_9999, li_16000, nI_add, nx_or, nx_and, pk_mul, nx_xor, nI_leI, nI_ltI, nI_eq, nI_clamp, vp_nI, px_sub, px_shl, px_shl2, px_shr2, px_bit, Bool.true_eq_false, Bool.false_eq_true, hol_0, hol_1, px_chr, chk, cnd_true, cnd_false, cnd_ite, bnd_s, nmv, exR, if_pos, if_neg, if_true, if_false, reduceIte, eq_self, not_true_eq_false, not_false_eq_true, h, show ¬ a < 0 by omega]
  · rw [cnd_f h]
    simp (disch := omega) only [li_0, li_1, li_2, li_3, li_4, li_5, li_7, li_8, li_12, li_16, li_23, li_24, li_31, li_40, li_42, li_47, li_63, li_64, li_76, li_77, li_97, li_122, li_200, li_201, li_1000, li_1824, li_9999, li_16000, nI_add, nx_or, nx_and, pk_mul, nx_xor, nI_leI, nI_ltI, nI_eq, nI_clamp, vp_nI, px_sub, px_shl, px_shl2, px_shr2, px_bit, Bool.true_eq_false, Bool.false_eq_true, hol_0, hol_1, px_chr, chk, cnd_true, cnd_false, cnd_ite, bnd_s, nmv, exR, if_pos, if_neg, if_true, if_false, reduceIte, eq_self, not_true_eq_false, not_false_eq_true, h, show ¬ a < 0 by omega]
theorem c_cont0 {a : Int32} (ha : a < 0) : fX7_requireContent a = some (.inr 1) := by
  unfold fX7_requireContent fX7_requireContent_11
  rw [cnd_t ha]
theorem bit_nf {σ : Ab} (w : WF σ) {a : Nat} (h : σ.th.testBit a = true) : a < σ.nf := bit_le w.th h
/-- a file is put there -/
def Ab.put (σ : Ab) (a v : Nat) : Ab := (σ.up 2 (fun _ _ => σ.th ||| 2 ^ a)).up 9 (fun i _ => if i = a then v else σ.co i)
theorem WF_put {σ : Ab} {a v : Nat} (w : WF σ) (ha : a < σ.nf) (hv : v ≤ 9999) : WF (σ.put a v) := by
  have h1 : (σ.th ||| 2 ^ a) < 2 ^ σ.nf := or_lt w.th (p2_lt ha)
  have h2 : ∀ k, k < σ.nf → (if k = a then v else σ.co k) ≤ 9999 := by
    intro k hk
    by_cases q : k = a
    · rw [if_pos q]; exact hv
    · rw [if_neg q]; exact w.co k hk
  exact (WF.mk w.tx w.nf w.px w.pd h1 w.mt h2 w.mc w.nt w.cs w.gc w.g0 w.gx w.de w.d0 w.ac w.la w.l0 w.nr w.ow w.nk w.wh w.hd w.le w.kc w.kb w.ku)
theorem RC_put {C : Mem} {σ : Ab} {a v : Nat} (r : RC C σ) : RC (mset (mset C 5 a (nI v)) 3 4 (nI (σ.th ||| 2 ^ a))) (σ.put a v) := by
  have h2 : ∀ k, k < σ.nf → mset (mset C 5 a (nI v)) 3 4 (nI (σ.th ||| 2 ^ a)) 5 k = nI (if k = a then v else σ.co k) := by
    intro k hk
    rw [mset_ne (by omega)]
    by_cases q : k = a
    · rw [if_pos q, q, mset_eq]
    · rw [if_neg q, mset_ne (by omega)]; exact r.co k hk
  exact (RC.mk (by intros; (try simp (disch := omega) only [TV, mset_ne]); first | exact r.tx | (apply r.tx <;> assumption)) (by intros; (try simp (disch := omega) only [TV, mset_ne]); first | exact r.nf | (apply r.nf <;> assumption)) mset_eq (by intros; (try simp (disch := omega) only [TV, mset_ne]); first | exact r.mt | (apply r.mt <;> assumption)) h2 (by intros; (try simp (disch := omega) only [TV, mset_ne]); first | exact r.mc | (apply r.mc <;> assumption)) (by intros; (try simp (disch := omega) only [TV, mset_ne]); first | exact r.px | (apply r.px <;> assumption)) (by intros; (try simp (disch := omega) only [TV, mset_ne]); first | exact r.nt | (apply r.nt <;> assumption)) (by intros; (try simp (disch := omega) only [TV, mset_ne]); first | exact r.cs | (apply r.cs <;> assumption)) (by intros; (try simp (disch := omega) only [TV, mset_ne]); first | exact r.de | (apply r.de <;> assumption)) (by intros; (try simp (disch := omega) only [TV, mset_ne]); first | exact r.gc | (apply r.gc <;> assumption)) (by intros; (try simp (disch := omega) only [TV, mset_ne]); first | exact r.gm | (apply r.gm <;> assumption)) (by intros; (try simp (disch := omega) only [TV, mset_ne]); first | exact r.gv | (apply r.gv <;> assumption)) (by intros; (try simp (disch := omega) only [TV, mset_ne]); first | exact r.gx | (apply r.gx <;> assumption)) (by intros; (try simp (disch := omega) only [TV, mset_ne]); first | exact r.nk | (apply r.nk <;> assumption)) (by intros; (try simp (disch := omega) only [TV, mset_ne]); first | exact r.wh | (apply r.wh <;> assumption)) (by intros; (try simp (disch := omega) only [TV, mset_ne]); first | exact r.rf | (apply r.rf <;> assumption)) (by intros; (try simp (disch := omega) only [TV, mset_ne]); first | exact r.rt | (apply r.rt <;> assumption)) (by intros; (try simp (disch := omega) only [TV, mset_ne]); first | exact r.la | (apply r.la <;> assumption)) (by intros; (try simp (disch := omega) only [TV, mset_ne]); first | exact r.nr | (apply r.nr <;> assumption)) (by intros; (try simp (disch := omega) only [TV, mset_ne]); first | exact r.nm | (apply r.nm <;> assumption)) (by intros; (try simp (disch := omega) only [TV, mset_ne]); first | exact r.rv | (apply r.rv <;> assumption)) (by intros; (try simp (disch := omega) only [TV, mset_ne]); first | exact r.rx | (apply r.rx <;> assumption)) (by intros; (try simp (disch := omega) only [TV, mset_ne]); first | exact r.ow | (apply r.ow <;> assumption)))
theorem RM_put {M : Mem} {σ : Ab} {a v : Nat} (s : RM ou M σ) : RM ou (mset (mset M 480 a (nI 1)) 481 a (nI v)) (σ.put a v) := by
  have h2 : ∀ k, k < σ.nf → mset (mset M 480 a (nI 1)) 481 a (nI v) 481 k = nI (if k = a then v else σ.co k) := by
    intro k hk
    by_cases q : k = a
    · rw [if_pos q, q, mset_eq]
    · rw [if_neg q, mset_ne (by omega), mset_ne (by omega)]; exact s.co k hk
  have h1 : ∀ k, k < 24 → mset (mset M 480 a (nI 1)) 481 a (nI v) 480 k = nI (if (σ.th ||| 2 ^ a).testBit k then 1 else 0) := by
    intro k hk
    rw [mset_ne (by omega), Nat.testBit_or, Nat.testBit_two_pow]
    by_cases q : k = a
    · rw [q, mset_eq]; simp
    · rw [mset_ne (by omega), s.th k hk]; simp [show ¬ a = k by omega]
  exact (RM.mk (by intros; (try simp (disch := omega) only [MV, PV, mset_ne]); first | exact s.o8 | (apply s.o8 <;> assumption)) (by intros; (try simp (disch := omega) only [MV, PV, mset_ne]); first | exact s.tx | (apply s.tx <;> assumption)) (by intros; (try simp (disch := omega) only [MV, PV, mset_ne]); first | exact s.nf | (apply s.nf <;> assumption)) (by intros; (try simp (disch := omega) only [MV, PV, mset_ne]); first | exact s.px | (apply s.px <;> assumption)) h1 h2 (by intros; (try simp (disch := omega) only [MV, PV, mset_ne]); first | exact s.mt | (apply s.mt <;> assumption)) (by intros; (try simp (disch := omega) only [MV, PV, mset_ne]); first | exact s.mc | (apply s.mc <;> assumption)) (by intros; (try simp (disch := omega) only [MV, PV, mset_ne]); first | exact s.nt | (apply s.nt <;> assumption)) (by intros; (try simp (disch := omega) only [MV, PV, mset_ne]); first | exact s.cs | (apply s.cs <;> assumption)) (by intros; (try simp (disch := omega) only [MV, PV, mset_ne]); first | exact s.gc | (apply s.gc <;> assumption)) (by intros; (try simp (disch := omega) only [MV, PV, mset_ne]); first | exact s.de | (apply s.de <;> assumption)) (by intros; (try simp (disch := omega) only [MV, PV, mset_ne]); first | exact s.la | (apply s.la <;> assumption)) (by intros; (try simp (disch := omega) only [MV, PV, mset_ne]); first | exact s.gx | (apply s.gx <;> assumption)) (by intros; (try simp (disch := omega) only [MV, PV, mset_ne]); first | exact s.nr | (apply s.nr <;> assumption)) (by intros; (try simp (disch := omega) only [MV, PV, mset_ne]); first | exact s.ow | (apply s.ow <;> assumption)) (by intros; (try simp (disch := omega) only [MV, PV, mset_ne]); first | exact s.nk | (apply s.nk <;> assumption)) (by intros; (try simp (disch := omega) only [MV, PV, mset_ne]); first | exact s.wh | (apply s.wh <;> assumption)) (by intros; (try simp (disch := omega) only [MV, PV, mset_ne]); first | exact s.hd | (apply s.hd <;> assumption)) (by intros; (try simp (disch := omega) only [MV, PV, mset_ne]); first | exact s.le | (apply s.le <;> assumption)) (by intros; (try simp (disch := omega) only [MV, PV, mset_ne]); first | exact s.kc | (apply s.kc <;> assumption)) (by intros; (try simp (disch := omega) only [MV, PV, mset_ne]); first | exact s.kb | (apply s.kb <;> assumption)))
theorem RM_edi {M : Mem} {σ : Ab} {a v : Nat} (s : RM ou M σ) (ha : σ.th.testBit a = true) : RM ou (mset M 481 a (nI v)) (σ.put a v) := by
  have h2 : ∀ k, k < σ.nf → mset M 481 a (nI v) 481 k = nI (if k = a then v else σ.co k) := by
    intro k hk
    by_cases q : k = a
    · rw [if_pos q, q, mset_eq]
    · rw [if_neg q, mset_ne (by omega)]; exact s.co k hk
  have h1 : ∀ k, k < 24 → mset M 481 a (nI v) 480 k = nI (if (σ.th ||| 2 ^ a).testBit k then 1 else 0) := by
    intro k hk
    rw [mset_ne (by omega), s.th k hk, Nat.testBit_or, Nat.testBit_two_pow]
    by_cases q : a = k
    · subst q; simp [ha]
    · simp [q]
  exact (RM.mk (by intros; (try simp (disch := omega) only [MV, PV, mset_ne]); first | exact s.o8 | (apply s.o8 <;> assumption)) (by intros; (try simp (disch := omega) only [MV, PV, mset_ne]); first | exact s.tx | (apply s.tx <;> assumption)) (by intros; (try simp (disch := omega) only [MV, PV, mset_ne]); first | exact s.nf | (apply s.nf <;> assumption)) (by intros; (try simp (disch := omega) only [MV, PV, mset_ne]); first | exact s.px | (apply s.px <;> assumption)) h1 h2 (by intros; (try simp (disch := omega) only [MV, PV, mset_ne]); first | exact s.mt | (apply s.mt <;> assumption)) (by intros; (try simp (disch := omega) only [MV, PV, mset_ne]); first | exact s.mc | (apply s.mc <;> assumption)) (by intros; (try simp (disch := omega) only [MV, PV, mset_ne]); first | exact s.nt | (apply s.nt <;> assumption)) (by intros; (try simp (disch := omega) only [MV, PV, mset_ne]); first | exact s.cs | (apply s.cs <;> assumption)) (by intros; (try simp (disch := omega) only [MV, PV, mset_ne]); first | exact s.gc | (apply s.gc <;> assumption)) (by intros; (try simp (disch := omega) only [MV, PV, mset_ne]); first | exact s.de | (apply s.de <;> assumption)) (by intros; (try simp (disch := omega) only [MV, PV, mset_ne]); first | exact s.la | (apply s.la <;> assumption)) (by intros; (try simp (disch := omega) only [MV, PV, mset_ne]); first | exact s.gx | (apply s.gx <;> assumption)) (by intros; (try simp (disch := omega) only [MV, PV, mset_ne]); first | exact s.nr | (apply s.nr <;> assumption)) (by intros; (try simp (disch := omega) only [MV, PV, mset_ne]); first | exact s.ow | (apply s.ow <;> assumption)) (by intros; (try simp (disch := omega) only [MV, PV, mset_ne]); first | exact s.nk | (apply s.nk <;> assumption)) (by intros; (try simp (disch := omega) only [MV, PV, mset_ne]); first | exact s.wh | (apply s.wh <;> assumption)) (by intros; (try simp (disch := omega) only [MV, PV, mset_ne]); first | exact s.hd | (apply s.hd <;> assumption)) (by intros; (try simp (disch := omega) only [MV, PV, mset_ne]); first | exact s.le | (apply s.le <;> assumption)) (by intros; (try simp (disch := omega) only [MV, PV, mset_ne]); first | exact s.kc | (apply s.kc <;> assumption)) (by intros; (try simp (disch := omega) only [MV, PV, mset_ne]); first | exact s.kb | (apply s.kb <;> assumption)))
theorem c_put {C : Mem} {σ : Ab} (w : WF σ) (r : RC C σ) {a v : Nat} (ha : a < 24) : fX0_put C (nI a) (nI v) = some (mset (mset C 5 a (nI v)) 3 4 (nI (σ.th ||| 2 ^ a))) := by
  unfold fX0_put
  simp only [li_1]
  rw [nI_clamp (by omega), mset_ne (by omega), r.th]
  simp (disch := omega) only [li_0, li_1, li_2, li_3, li_4, li_5, li_7, li_8, li_12, li_16, li_23, li_24, li_31, li_40, li_42, li_47, li_63, li_64, li_76, li_77, li_97, li_122, li_200, li_201, li_1000, li_1824, li_9999, li_16000, nI_add, nx_or, nx_and, pk_mul, nx_xor, nI_leI, nI_ltI, nI_eq, nI_clamp, vp_nI, px_sub, px_shl, px_shl2, px_shr2, px_bit, Bool.true_eq_false, Bool.false_eq_true, hol_0, hol_1, px_chr, chk, cnd_true, cnd_false, cnd_ite, bnd_s, nmv, exR, if_pos, if_neg, if_true, if_false, reduceIte, eq_self, not_true_eq_false, not_false_eq_true, ha, Nat.one_mul]
def c13 (k : Nat) : Nat := if k = 3 then 1 else if k = 1 then 2 else 3
theorem op_edit {C M : Mem} {σ : Ab} (w : WF σ) (r : RC C σ) (s : RM ou M σ) (x y : Int32) : Opp ou wr_31 (fX7_edit C x y) (fX8_edit M x y) := by
  have hnf := w.nf
  have bad1 : fX0_isThere C x = nI 0 → fX8_isThere M x = some (nI 0) → Opp ou wr_31 (fX7_edit C x y) (fX8_edit M x y) := by
    intro h1 h2
    refine ⟨C, mset M 475 26 (nI 1), σ, w, r, RM_thr s, Or.inr ⟨3, nI 0, ?_, ?_, mset_eq, by decide, by decide⟩⟩
    · unfold fX7_edit fX7_requireFileThere
      rw [h1, cnd00]
      rfl
    · unfold fX8_edit fX8_edit_29
      rw [h2]
      simp (disch := omega) only [li_0, li_1, li_2, li_3, li_4, li_5, li_7, li_8, li_12, li_16, li_23, li_24, li_31, li_40, li_42, li_47, li_63, li_64, li_76, li_77, li_97, li_122, li_200, li_201, li_1000, li_1824, li_9999, li_16000, nI_add, nx_or, nx_and, pk_mul, nx_xor, nI_leI, nI_ltI, nI_eq, nI_clamp, vp_nI, px_sub, px_shl, px_shl2, px_shr2, px_bit, Bool.true_eq_false, Bool.false_eq_true, hol_0, hol_1, px_chr, chk, cnd_true, cnd_false, cnd_ite, bnd_s, nmv, exR, if_pos, if_neg, if_true, if_false, reduceIte, eq_self, not_true_eq_false, not_false_eq_true, mset_eq]
  rcases nI_cs x with hx | ⟨a, ha, rfl⟩
  · exact bad1 (c_there0 C hx) (m_there0 M hx)
  · by_cases hb : σ.th.testBit a = true
    · have haf := bit_nf w hb
      have e1 : fX0_isThere C (nI a) = nI 1 := by rw [c_there w r ha, cnd_t hb]
      have e2 : fX8_isThere M (nI a) = some (nI 1) := by rw [m_there w s ha, cnd_t hb]
      have bad2 : fX7_requireContent y = some (.inr 1) → fX8_isIn y 0 9999 = nI 0 → Opp ou wr_31 (fX7_edit C (nI a) y) (fX8_edit M (nI a) y) := by
        intro h1 h2
        refine ⟨C, mset M 475 26 (nI 2), σ, w, r, RM_thr s, Or.inr ⟨1, nI 0, ?_, ?_, mset_eq, by decide, by decide⟩⟩
        · unfold fX7_edit fX7_requireFileThere
          rw [e1, cnd_f (by decide), h1]
          rfl
        · unfold fX8_edit fX8_edit_29
          rw [e2, h2]
          simp (disch := omega) only [li_0, li_1, li_2, li_3, li_4, li_5, li_7, li_8, li_12, li_16, li_23, li_24, li_31, li_40, li_42, li_47, li_63, li_64, li_76, li_77, li_97, li_122, li_200, li_201, li_1000, li_1824, li_9999, li_16000, nI_add, nx_or, nx_and, pk_mul, nx_xor, nI_leI, nI_ltI, nI_eq, nI_clamp, vp_nI, px_sub, px_shl, px_shl2, px_shr2, px_bit, Bool.true_eq_false, Bool.false_eq_true, hol_0, hol_1, px_chr, chk, cnd_true, cnd_false, cnd_ite, bnd_s, nmv, exR, if_pos, if_neg, if_true, if_false, reduceIte, eq_self, not_true_eq_false, not_false_eq_true, mset_eq]
      rcases nI_cs y with hy | ⟨v, hv, rfl⟩
      · exact bad2 (c_cont0 hy) (m_in0 hy _)
      · by_cases hc : v ≤ 9999
        · refine ⟨_, _, σ.put a v, WF_put w haf hc, RC_put r, RM_edi (RM_thr (x := nI 0) s) hb, Or.inl ⟨nI (σ.co a), ?_, ?_, ?_⟩⟩
          · unfold fX7_edit fX7_requireFileThere fX0_contentOf
            rw [e1, cnd_f (by decide), c_cont hv, cnd_t hc]
            simp only [bnd_s, sw]
            rw [nI_clamp (by omega), r.co a haf, c_put w r (by omega), chk_t (by rw [vp_nI (by omega)]; omega)]
            rfl
          · unfold fX8_edit fX8_edit_29
            rw [e2, li_9999, m_in hv (by decide), cnd_t hc, nI_clamp (by omega)]
            simp (disch := omega) only [mset_ne]
            rw [s.co a haf]
            simp (disch := omega) only [li_0, li_1, li_2, li_3, li_4, li_5, li_7, li_8, li_12, li_16, li_23, li_24, li_31, li_40, li_42, li_47, li_63, li_64, li_76, li_77, li_97, li_122, li_200, li_201, li_1000, li_1824, li_9999, li_16000, nI_add, nx_or, nx_and, pk_mul, nx_xor, nI_leI, nI_ltI, nI_eq, nI_clamp, vp_nI, px_sub, px_shl, px_shl2, px_shr2, px_bit, Bool.true_eq_false, Bool.false_eq_true, hol_0, hol_1, px_chr, chk, cnd_true, cnd_false, cnd_ite, bnd_s, nmv, exR, if_pos, if_neg, if_true, if_false, reduceIte, eq_self, not_true_eq_false, not_false_eq_true, mset_eq]
          · rw [mset_ne (by omega)]
            exact mset_eq
        · exact bad2 (by rw [c_cont hv, cnd_f hc]) (by rw [li_9999, m_in hv (by decide), cnd_f hc])
    · exact bad1 (by rw [c_there w r ha, cnd_f hb]) (by rw [m_there w s ha, cnd_f hb])
def Ab.del (σ : Ab) (a : Nat) : Ab := σ.up 2 (fun _ _ => σ.th &&& (2 ^ a ^^^ 4294967295))
theorem del_bit (th a k : Nat) (h : th < 2 ^ 24) : (th &&& (2 ^ a ^^^ 4294967295)).testBit k = (th.testBit k && decide (a ≠ k)) := by
  rw [Nat.testBit_and, Nat.testBit_xor, Nat.testBit_two_pow, show 4294967295 = 2 ^ 32 - 1 by decide, Nat.testBit_two_pow_sub_one]
  by_cases q : th.testBit k = true
  · have := bit_le h q
    simp [show k < 32 by omega]
  · simp only [Bool.not_eq_true] at q
    simp [q]
theorem op_delete {C M : Mem} {σ : Ab} (w : WF σ) (r : RC C σ) (s : RM ou M σ) (x : Int32) : Opp ou wr_3 (fX7_delete C x) (fX8_delete M x) := by
  have hnf := w.nf
  have bad1 : fX0_isThere C x = nI 0 → fX8_isThere M x = some (nI 0) → Opp ou wr_3 (fX7_delete C x) (fX8_delete M x) := by
    intro h1 h2
    refine ⟨C, mset M 475 26 (nI 1), σ, w, r, RM_thr s, Or.inr ⟨3, nI 0, ?_, ?_, mset_eq, by decide, by decide⟩⟩
    · unfold fX7_delete fX7_requireFileThere
      rw [h1, cnd00]
      rfl
    · unfold fX8_delete fX8_delete_14
      rw [h2]
      simp (disch := omega) only [li_0, li_1, li_2, li_3, li_4, li_5, li_7, li_8, li_12, li_16, li_23, li_24, li_31, li_40, li_42, li_47, li_63, li_64, li_76, li_77, li_97, li_122, li_200, li_201, li_1000, li_1824, li_9999, li_16000, nI_add, nx_or, nx_and, pk_mul, nx_xor, nI_leI, nI_ltI, nI_eq, nI_clamp, vp_nI, px_sub, px_shl, px_shl2, px_shr2, px_bit, Bool.true_eq_false, Bool.false_eq_true, hol_0, hol_1, px_chr, chk, cnd_true, cnd_false, cnd_ite, bnd_s, nmv, exR, if_pos, if_neg, if_true, if_false, reduceIte, eq_self, not_true_eq_false, not_false_eq_true, mset_eq]
  rcases nI_cs x with hx | ⟨a, ha, rfl⟩
  · exact bad1 (c_there0 C hx) (m_there0 M hx)
  · by_cases hb : σ.th.testBit a = true
    · have haf := bit_nf w hb
      have e1 : fX0_isThere C (nI a) = nI 1 := by rw [c_there w r ha, cnd_t hb]
      have e2 : fX8_isThere M (nI a) = some (nI 1) := by rw [m_there w s ha, cnd_t hb]
      have t1 : (σ.th &&& (2 ^ a ^^^ 4294967295)) < 2 ^ σ.nf := Nat.lt_of_le_of_lt Nat.and_le_left w.th
      have w' : WF (σ.del a) := (WF.mk w.tx w.nf w.px w.pd t1 w.mt w.co w.mc w.nt w.cs w.gc w.g0 w.gx w.de w.d0 w.ac w.la w.l0 w.nr w.ow w.nk w.wh w.hd w.le w.kc w.kb w.ku)
      have r' : RC (mset C 3 4 (nI (σ.th &&& (2 ^ a ^^^ 4294967295)))) (σ.del a) := (RC.mk (by intros; (try simp (disch := omega) only [TV, mset_ne]); first | exact r.tx | (apply r.tx <;> assumption)) (by intros; (try simp (disch := omega) only [TV, mset_ne]); first | exact r.nf | (apply r.nf <;> assumption)) mset_eq (by intros; (try simp (disch := omega) only [TV, mset_ne]); first | exact r.mt | (apply r.mt <;> assumption)) (by intros; (try simp (disch := omega) only [TV, mset_ne]); first | exact r.co | (apply r.co <;> assumption)) (by intros; (try simp (disch := omega) only [TV, mset_ne]); first | exact r.mc | (apply r.mc <;> assumption)) (by intros; (try simp (disch := omega) only [TV, mset_ne]); first | exact r.px | (apply r.px <;> assumption)) (by intros; (try simp (disch := omega) only [TV, mset_ne]); first | exact r.nt | (apply r.nt <;> assumption)) (by intros; (try simp (disch := omega) only [TV, mset_ne]); first | exact r.cs | (apply r.cs <;> assumption)) (by intros; (try simp (disch := omega) only [TV, mset_ne]); first | exact r.de | (apply r.de <;> assumption)) (by intros; (try simp (disch := omega) only [TV, mset_ne]); first | exact r.gc | (apply r.gc <;> assumption)) (by intros; (try simp (disch := omega) only [TV, mset_ne]); first | exact r.gm | (apply r.gm <;> assumption)) (by intros; (try simp (disch := omega) only [TV, mset_ne]); first | exact r.gv | (apply r.gv <;> assumption)) (by intros; (try simp (disch := omega) only [TV, mset_ne]); first | exact r.gx | (apply r.gx <;> assumption)) (by intros; (try simp (disch := omega) only [TV, mset_ne]); first | exact r.nk | (apply r.nk <;> assumption)) (by intros; (try simp (disch := omega) only [TV, mset_ne]); first | exact r.wh | (apply r.wh <;> assumption)) (by intros; (try simp (disch := omega) only [TV, mset_ne]); first | exact r.rf | (apply r.rf <;> assumption)) (by intros; (try simp (disch := omega) only [TV, mset_ne]); first | exact r.rt | (apply r.rt <;> assumption)) (by intros; (try simp (disch := omega) only [TV, mset_ne]); first | exact r.la | (apply r.la <;> assumption)) (by intros; (try simp (disch := omega) only [TV, mset_ne]); first | exact r.nr | (apply r.nr <;> assumption)) (by intros; (try simp (disch := omega) only [TV, mset_ne]); first | exact r.nm | (apply r.nm <;> assumption)) (by intros; (try simp (disch := omega) only [TV, mset_ne]); first | exact r.rv | (apply r.rv <;> assumption)) (by intros; (try simp (disch := omega) only [TV, mset_ne]); first | exact r.rx | (apply r.rx <;> assumption)) (by intros; (try simp (disch := omega) only [TV, mset_ne]); first | exact r.ow | (apply r.ow <;> assumption)))
      have h1 : ∀ k, k < 24 → mset (mset M 475 26 (nI 0)) 480 a (nI 0) 480 k = nI (if (σ.th &&& (2 ^ a ^^^ 4294967295)).testBit k then 1 else 0) := by
        intro k hk
        rw [del_bit _ _ _ (th_lt w)]
        by_cases q : a = k
        · subst q; rw [mset_eq]; simp
        · rw [mset_ne (by omega), mset_ne (by omega), s.th k hk]; simp [q]
      have s' : RM ou (mset (mset M 475 26 (nI 0)) 480 a (nI 0)) (σ.del a) := (RM.mk (by intros; (try simp (disch := omega) only [MV, PV, mset_ne]); first | exact s.o8 | (apply s.o8 <;> assumption)) (by intros; (try simp (disch := omega) only [MV, PV, mset_ne]); first | exact s.tx | (apply s.tx <;> assumption)) (by intros; (try simp (disch := omega) only [MV, PV, mset_ne]); first | exact s.nf | (apply s.nf <;> assumption)) (by intros; (try simp (disch := omega) only [MV, PV, mset_ne]); first | exact s.px | (apply s.px <;> assumption)) h1 (by intros; (try simp (disch := omega) only [MV, PV, mset_ne]); first | exact s.co | (apply s.co <;> assumption)) (by intros; (try simp (disch := omega) only [MV, PV, mset_ne]); first | exact s.mt | (apply s.mt <;> assumption)) (by intros; (try simp (disch := omega) only [MV, PV, mset_ne]); first | exact s.mc | (apply s.mc <;> assumption)) (by intros; (try simp (disch := omega) only [MV, PV, mset_ne]); first | exact s.nt | (apply s.nt <;> assumption)) (by intros; (try simp (disch := omega) only [MV, PV, mset_ne]); first | exact s.cs | (apply s.cs <;> assumption)) (by intros; (try simp (disch := omega) only [MV, PV, mset_ne]); first | exact s.gc | (apply s.gc <;> assumption)) (by intros; (try simp (disch := omega) only [MV, PV, mset_ne]); first | exact s.de | (apply s.de <;> assumption)) (by intros; (try simp (disch := omega) only [MV, PV, mset_ne]); first | exact s.la | (apply s.la <;> assumption)) (by intros; (try simp (disch := omega) only [MV, PV, mset_ne]); first | exact s.gx | (apply s.gx <;> assumption)) (by intros; (try simp (disch := omega) only [MV, PV, mset_ne]); first | exact s.nr | (apply s.nr <;> assumption)) (by intros; (try simp (disch := omega) only [MV, PV, mset_ne]); first | exact s.ow | (apply s.ow <;> assumption)) (by intros; (try simp (disch := omega) only [MV, PV, mset_ne]); first | exact s.nk | (apply s.nk <;> assumption)) (by intros; (try simp (disch := omega) only [MV, PV, mset_ne]); first | exact s.wh | (apply s.wh <;> assumption)) (by intros; (try simp (disch := omega) only [MV, PV, mset_ne]); first | exact s.hd | (apply s.hd <;> assumption)) (by intros; (try simp (disch := omega) only [MV, PV, mset_ne]); first | exact s.le | (apply s.le <;> assumption)) (by intros; (try simp (disch := omega) only [MV, PV, mset_ne]); first | exact s.kc | (apply s.kc <;> assumption)) (by intros; (try simp (disch := omega) only [MV, PV, mset_ne]); first | exact s.kb | (apply s.kb <;> assumption)))
      refine ⟨_, _, σ.del a, w', r', s', Or.inl ⟨nI (σ.co a), ?_, ?_, ?_⟩⟩
      · unfold fX7_delete fX7_requireFileThere fX0_contentOf fX0_remove
        rw [e1, cnd10, li_m1]
        simp only [bnd_s, sw, li_1]
        rw [r.th, nI_clamp (by omega)]
        simp (disch := omega) only [mset_ne]
        rw [r.co a haf, chk_t (by rw [vp_nI (by omega)]; omega)]
        simp (disch := omega) only [li_0, li_1, li_2, li_3, li_4, li_5, li_7, li_8, li_12, li_16, li_23, li_24, li_31, li_40, li_42, li_47, li_63, li_64, li_76, li_77, li_97, li_122, li_200, li_201, li_1000, li_1824, li_9999, li_16000, nI_add, nx_or, nx_and, pk_mul, nx_xor, nI_leI, nI_ltI, nI_eq, nI_clamp, vp_nI, px_sub, px_shl, px_shl2, px_shr2, px_bit, Bool.true_eq_false, Bool.false_eq_true, hol_0, hol_1, px_chr, chk, cnd_true, cnd_false, cnd_ite, bnd_s, nmv, exR, if_pos, if_neg, if_true, if_false, reduceIte, eq_self, not_true_eq_false, not_false_eq_true, Nat.one_mul]
      · unfold fX8_delete fX8_delete_14
        rw [e2, nI_clamp (by omega)]
        simp (disch := omega) only [mset_ne]
        rw [s.co a haf]
        simp (disch := omega) only [li_0, li_1, li_2, li_3, li_4, li_5, li_7, li_8, li_12, li_16, li_23, li_24, li_31, li_40, li_42, li_47, li_63, li_64, li_76, li_77, li_97, li_122, li_200, li_201, li_1000, li_1824, li_9999, li_16000, nI_add, nx_or, nx_and, pk_mul, nx_xor, nI_leI, nI_ltI, nI_eq, nI_clamp, vp_nI, px_sub, px_shl, px_shl2, px_shr2, px_bit, Bool.true_eq_false, Bool.false_eq_true, hol_0, hol_1, px_chr, chk, cnd_true, cnd_false, cnd_ite, bnd_s, nmv, exR, if_pos, if_neg, if_true, if_false, reduceIte, eq_self, not_true_eq_false, not_false_eq_true, mset_eq]
        rfl
      · rw [mset_ne (by omega)]
        exact mset_eq
    · exact bad1 (by rw [c_there w r ha, cnd_f hb]) (by rw [m_there w s ha, cnd_f hb])
/-- a call that changes nothing but what the reference says was thrown -/
def Opr (ou : Int32) (wr : Nat → Nat) (σ : Ab) (c : Option (Int32 ⊕ Nat)) (m : Option (Int32 × Mem)) : Prop := ∃ M', RM ou M' σ ∧ ((∃ r, c = some (.inl r) ∧ m = some (r, M') ∧ M' 475 26 = nI 0) ∨ ∃ k r', c = some (.inr k) ∧ m = some (r', M') ∧ M' 475 26 = nI (wr k) ∧ 0 < wr k ∧ wr k < 4)
def c32 (k : Nat) : Nat := if k = 3 then 1 else 2
theorem c_rf {C : Mem} {σ : Ab} (w : WF σ) (r : RC C σ) {a : Nat} (ha : a < 2147483648) : fX7_requireFile C (nI a) = cnd (a < σ.nf) (some (.inl (nI 0))) (some (.inr 3)) := by
  unfold fX7_requireFile
  rw [c_has w r ha]
  by_cases h : a < σ.nf
  · rw [cnd_t h, cnd_t h, cnd10]
    rfl
  · rw [cnd_f h, cnd_f h, cnd00]
theorem c_rf0 (C : Mem) {a : Int32} (ha : a < 0) : fX7_requireFile C a = some (.inr 3) := by
  unfold fX7_requireFile
  rw [c_has0 C ha, cnd00]
theorem op_matches {C M : Mem} {σ : Ab} (w : WF σ) (r : RC C σ) (s : RM ou M σ) (x : Int32) : Opr ou wr_32 σ (fX7_matches C x) (fX8_matches M x) := by
  have hnf := w.nf
  have bad1 : fX7_requireFile C x = some (.inr 3) → fX8_isIn x 0 (M 475 2 - 1) = nI 0 → Opr ou wr_32 σ (fX7_matches C x) (fX8_matches M x) := by
    intro h1 h2
    refine ⟨mset M 475 26 (nI 1), RM_thr s, Or.inr ⟨3, nI 0, ?_, ?_, mset_eq, by decide, by decide⟩⟩
    · unfold fX7_matches
      rw [h1]
      rfl
    · unfold fX8_matches fX8_matches_31 fX8_matches_55
      rw [h2]
      simp (disch := omega) only [li_0, li_1, li_2, li_3, li_4, li_5, li_7, li_8, li_12, li_16, li_23, li_24, li_31, li_40, li_42, li_47, li_63, li_64, li_76, li_77, li_97, li_122, li_200, li_201, li_1000, li_1824, li_9999, li_16000, nI_add, nx_or, nx_and, pk_mul, nx_xor, nI_leI, nI_ltI, nI_eq, nI_clamp, vp_nI, px_sub, px_shl, px_shl2, px_shr2, px_bit, Bool.true_eq_false, Bool.false_eq_true, hol_0, hol_1, px_chr, chk, cnd_true, cnd_false, cnd_ite, bnd_s, nmv, exR, if_pos, if_neg, if_true, if_false, reduceIte, eq_self, not_true_eq_false, not_false_eq_true, mset_eq]
  rcases nI_cs x with hx | ⟨a, ha, rfl⟩
  · exact bad1 (c_rf0 C hx) (m_in0 hx _)
  · by_cases hb : a < σ.nf
    · have e1 : fX8_isIn (nI a) 0 (M 475 2 - 1) = nI 1 := by rw [s.nf, m_inS ha (by omega), cnd_t hb]
      by_cases hg : isG σ.tn σ.tf
      · have hm := m_mat ((RM_thr (x := nI 0) s).px a hb) (by omega) (RM_thr (x := nI 0) s).tx (by decide) (w.px a hb).2.2 hg.1
        refine ⟨mset M 475 26 (nI 0), RM_thr s, Or.inl ⟨nI (if mat (σ.pn a) (σ.pf a) σ.tn σ.tf then 1 else 0), ?_, ?_, mset_eq⟩⟩
        · unfold fX7_matches fX0_pathOf
          rw [c_rf w r ha, cnd_t hb]
          simp only [bnd_s, sw]
          rw [tx_glob r.tx, cnd_t hg, bnd_s, cnd10, nI_clamp (by omega), chk_t (by rw [vp_nI (by omega)]; omega), bnd_s, c_mat (r.px a hb) r.tx (w.px a hb).2.2 hg.1, bnd_s, chk_t (px_nb _)]
        · unfold fX8_matches fX8_matches_31 fX8_matches_55
          rw [e1, mt_glob s.tx, cnd_t hg, li_76]
          simp only [li_0]
          rw [hm]
          by_cases q : mat (σ.pn a) (σ.pf a) σ.tn σ.tf = true
          · simp (disch := omega) only [li_0, li_1, li_2, li_3, li_4, li_5, li_7, li_8, li_12, li_16, li_23, li_24, li_31, li_40, li_42, li_47, li_63, li_64, li_76, li_77, li_97, li_122, li_200, li_201, li_1000, li_1824, li_9999, li_16000, nI_add, nx_or, nx_and, pk_mul, nx_xor, nI_leI, nI_ltI, nI_eq, nI_clamp, vp_nI, px_sub, px_shl, px_shl2, px_shr2, px_bit, Bool.true_eq_false, Bool.false_eq_true, hol_0, hol_1, px_chr, chk, cnd_true, cnd_false, cnd_ite, bnd_s, nmv, exR, if_pos, if_neg, if_true, if_false, reduceIte, eq_self, not_true_eq_false, not_false_eq_true, q, mset_eq]
          · simp (disch := omega) only [li_0, li_1, li_2, li_3, li_4, li_5, li_7, li_8, li_12, li_16, li_23, li_24, li_31, li_40, li_42, li_47, li_63, li_64, li_76, li_77, li_97, li_122, li_200, li_201, li_1000, li_1824, li_9999, li_16000, nI_add, nx_or, nx_and, pk_mul, nx_xor, nI_leI, nI_ltI, nI_eq, nI_clamp, vp_nI, px_sub, px_shl, px_shl2, px_shr2, px_bit, Bool.true_eq_false, Bool.false_eq_true, hol_0, hol_1, px_chr, chk, cnd_true, cnd_false, cnd_ite, bnd_s, nmv, exR, if_pos, if_neg, if_true, if_false, reduceIte, eq_self, not_true_eq_false, not_false_eq_true, q, mset_eq]
      · refine ⟨mset M 475 26 (nI 2), RM_thr s, Or.inr ⟨2, nI 0, ?_, ?_, mset_eq, by decide, by decide⟩⟩
        · unfold fX7_matches
          rw [c_rf w r ha, cnd_t hb]
          simp only [bnd_s, sw]
          rw [tx_glob r.tx, cnd_f hg, bnd_s, cnd00]
        · unfold fX8_matches fX8_matches_31 fX8_matches_55
          rw [e1, mt_glob s.tx, cnd_f hg]
          simp (disch := omega) only [li_0, li_1, li_2, li_3, li_4, li_5, li_7, li_8, li_12, li_16, li_23, li_24, li_31, li_40, li_42, li_47, li_63, li_64, li_76, li_77, li_97, li_122, li_200, li_201, li_1000, li_1824, li_9999, li_16000, nI_add, nx_or, nx_and, pk_mul, nx_xor, nI_leI, nI_ltI, nI_eq, nI_clamp, vp_nI, px_sub, px_shl, px_shl2, px_shr2, px_bit, Bool.true_eq_false, Bool.false_eq_true, hol_0, hol_1, px_chr, chk, cnd_true, cnd_false, cnd_ite, bnd_s, nmv, exR, if_pos, if_neg, if_true, if_false, reduceIte, eq_self, not_true_eq_false, not_false_eq_true, mset_eq]
    · exact bad1 (by rw [c_rf w r ha, cnd_f hb]) (by rw [s.nf, m_inS ha (by omega), cnd_f hb])
