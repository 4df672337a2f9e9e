variable {ou : Int32}
/-! run -/
noncomputable def Ab.rus (σ : Ab) (K : Nat → Nat) (t : Nat) : Ab := if K t = 0 then (σ.giv K t).lat t (σ.nk + 1) else σ.lat t (K t)
def krs (σ : Ab) (K : Nat → Nat) (t : Nat) : Nat → Nat := fun x => if x = t then (if K t = 0 then σ.nk + 1 else K t) else K x
theorem WF_rus {σ : Ab} {K : Nat → Nat} {t : Nat} (w : WF σ) (ht : t < σ.nt) (hk : K t ≤ σ.nk) (h : K t = 0 → σ.nk < 200 ∧ σ.rdy K t ∧ (∀ o, (σ.de t).testBit o = true → K o ≤ σ.nk) ∧ ∀ i, i < σ.nk → ¬ σ.mtc K t i) : WF (σ.rus K t) := by
  unfold Ab.rus
  by_cases c : K t = 0
  · rw [if_pos c]
    obtain ⟨h1, h2, h3, h4⟩ := h c
    exact WF_lat (WF_giv w ht h1 h2 h3 h4) ht (Nat.le_refl _)
  · rw [if_neg c]
    exact WF_lat w ht hk
theorem c_giv {C : Mem} {σ : Ab} {K : Nat → Nat} {t : Nat} (w : WF σ) (r : RC C σ) (ht : t < σ.nt) (h : σ.nk < 200) (h4 : ∀ k, k < 24 → C 442 k = nI (if (σ.inp t).testBit k then σ.co k + 1 else 0)) (h5 : ∀ o, o < 16 → C 442 (24 + o) = nI (if (σ.de t).testBit o then K o else 0)) : ∃ C', fX3_give C (nI t) = some (nI (σ.nk + 1), C') ∧ RC C' (σ.giv K t) ∧ (∀ k j, k ≠ 236 → k ≠ 439 → k ≠ 238 + (σ.nk + 1) → C' k j = C k j) := by
  have hn := w.nt
  have e4 : ∀ k j, k ≠ 236 → k ≠ 439 → k ≠ 238 + (σ.nk + 1) → mcpy (mset (mset C 236 7 (nI (σ.nk + 1))) 439 (σ.nk + 1) (nI t)) 442 (238 + (σ.nk + 1)) 0 0 40 k j = C k j := by
    intro k j k1 k2 k3
    rw [mcp_ne k3, mset_ne (by omega), mset_ne (by omega)]
  have g1 : mset C 236 7 (nI (σ.nk + 1)) 236 7 = nI (σ.nk + 1) := mset_eq
  have g2 : mset (mset C 236 7 (nI (σ.nk + 1))) 439 (σ.nk + 1) (nI t) 236 7 = nI (σ.nk + 1) := by rw [mset_ne (by omega), mset_eq]
  have g3 : mcpy (mset (mset C 236 7 (nI (σ.nk + 1))) 439 (σ.nk + 1) (nI t)) 442 (238 + (σ.nk + 1)) 0 0 40 236 7 = nI (σ.nk + 1) := by rw [mcp_ne (by omega)]; exact g2
  refine ⟨mcpy (mset (mset C 236 7 (nI (σ.nk + 1))) 439 (σ.nk + 1) (nI t)) 442 (238 + (σ.nk + 1)) 0 0 40, ?_, RC_giv w r h g3 ?_ (fun j hj => ?_) (fun k hk => ?_) (fun o ho => ?_) e4, e4⟩
  · unfold fX3_give
    rw [show C 236 7 + (1 : Int32) = nI (σ.nk + 1) by rw [r.nk]; exact nI_add _ _, g1, nI_clamp (by omega), g2, nI_clamp (by omega), chk_t (by rw [vp_nI (by omega)]; omega), chk_t (by rw [vp_nI (by omega)]; omega)]
    show some (mcpy (mset (mset C 236 7 (nI (σ.nk + 1))) 439 (σ.nk + 1) (nI t)) 442 (238 + (σ.nk + 1)) 0 0 40 236 7, mcpy (mset (mset C 236 7 (nI (σ.nk + 1))) 439 (σ.nk + 1) (nI t)) 442 (238 + (σ.nk + 1)) 0 0 40) = _
    rw [g3]
  · rw [mcp_ne (by omega), mset_eq]
  · rw [mcp_ne (by omega), mset_ne (by omega), mset_ne (by omega)]
  · rw [mcp_in (by omega), mset_ne (by omega), mset_ne (by omega)]; exact h4 k hk
  · rw [mcp_in (by omega), mset_ne (by omega), mset_ne (by omega)]; exact h5 o ho
theorem c_rof {C : Mem} {σ : Ab} {K : Nat → Nat} {t : Nat} (w : WF σ) (r : RC C σ) (ht : t < σ.nt) (hK : ∀ o, (σ.de t).testBit o = true → C 440 o = nI (K o) ∧ K o ≤ 200) (hk : σ.kn K t = K t) (wr : WF (σ.rus K t)) (h : K t = 0 → σ.nk < 200 ∧ WF (σ.giv K t)) : ∃ C', fX3_runOrFind C (nI t) = some (nI (krs σ K t t), C') ∧ RC C' (σ.rus K t) ∧ C' 440 t = nI (krs σ K t t) ∧ (∀ o, o ≠ t → C' 440 o = C 440 o) ∧ ∀ p, C' 59 p = C 59 p := by
  have hn := w.nt
  have hnk := w.nk
  have hle := kn_le σ K t
  obtain ⟨C1, e1, e2, e3, e4, e5, e6⟩ := c_look w r ht hK
  rw [hk] at e3
  unfold krs Ab.rus
  rw [if_pos rfl]
  unfold fX3_runOrFind
  rw [e1, bnd_s, nI_clamp (by omega), e3, chk_t (by rw [vp_nI (by omega)]; omega)]
  by_cases c : K t = 0
  · obtain ⟨hn2, wg⟩ := h c
    obtain ⟨C2, f1, f2, f3⟩ := c_giv w e2 ht hn2 e4 e5
    rw [if_pos c, if_pos c, c, cnd00, f1, bnd_s, chk_t (by rw [vp_nI (by omega)]; omega)]
    refine ⟨mset (mset C2 440 t (nI (σ.nk + 1))) 441 t (nI (σ.nk + 1)), ?_, RC_lat wg (RC_scr wg f2 (by omega)), by rw [mset_ne (by omega), mset_eq], fun o ho => ?_, fun p => ?_⟩
    · unfold fX3_runOrFind_25
      rw [nI_clamp (by omega)]
      show chk _ (chk _ (chk _ (some (mset (mset C2 440 t (nI (σ.nk + 1))) 441 t (mset C2 440 t (nI (σ.nk + 1)) 440 t) 440 t, mset (mset C2 440 t (nI (σ.nk + 1))) 441 t (mset C2 440 t (nI (σ.nk + 1)) 440 t))))) = _
      rw [mset_eq, mset_ne (by omega), mset_eq, chk_t (by rw [vp_nI (by omega)]; omega), chk_t (by rw [vp_nI (by omega)]; omega), chk_t (by rw [vp_nI (by omega)]; omega)]
    · rw [mset_ne (by omega), mset_ne (by omega), f3 440 o (by omega) (by omega) (by omega), e6 440 o (by omega) (by omega)]
    · rw [mset_ne (by omega), mset_ne (by omega), f3 59 p (by omega) (by omega) (by omega), e6 59 p (by omega) (by omega)]
  · rw [if_neg c, if_neg c, cnd_f (by rw [li_0, nI_eq (by omega) (by omega)]; exact c)]
    refine ⟨mset C1 441 t (nI (K t)), ?_, RC_lat w e2, by rw [mset_ne (by omega), e3], fun o ho => ?_, fun p => ?_⟩
    · unfold fX3_runOrFind_25
      rw [nI_clamp (by omega), e3, mset_ne (by omega), e3, chk_t (by rw [vp_nI (by omega)]; omega), chk_t (by rw [vp_nI (by omega)]; omega), chk_t (by rw [vp_nI (by omega)]; omega)]
    · rw [mset_ne (by omega), e6 440 o (by omega) (by omega)]
    · rw [mset_ne (by omega), e6 59 p (by omega) (by omega)]
theorem m_rus {M : Mem} {σ : Ab} {K : Nat → Nat} {t : Nat} (w : WF σ) (s : RM ou M σ) (ht : t < σ.nt) (hK : ∀ o, o < σ.nt → M 495 o = nI (K o)) (hk : K t ≤ 200) (h : K t = 0 → σ.nk < 200) : ∃ M', fX8_runs M (nI t) = some M' ∧ RM ou M' (σ.rus K t) ∧ (∀ o, o < σ.nt → M' 495 o = nI (krs σ K t o)) ∧ (∀ p, M' 494 p = M 494 p) ∧ M' 475 26 = M 475 26 := by
  have hn := w.nt
  have hnk := w.nk
  have hnf := w.nf
  unfold krs Ab.rus
  by_cases c : K t = 0
  · have hn2 := h c
    rw [if_pos c, if_pos c]
    have s1 : RM ou (mset M 489 σ.nk (nI t)) σ := by
      have wh : ∀ i, i < σ.nk → mset M 489 σ.nk (nI t) 489 i = nI (σ.wh i) := by
        intro i hi
        rw [mset_ne (by omega)]; exact s.wh i hi
      exact (RM.mk (by intros; (try simp (disch := omega) only [MV, PV, mset_ne]); first | exact s.o8 | (apply s.o8 <;> assumption)) (by intros; (try simp (disch := omega) only [MV, PV, mset_ne]); first | exact s.tx | (apply s.tx <;> assumption)) (by intros; (try simp (disch := omega) only [MV, PV, mset_ne]); first | exact s.nf | (apply s.nf <;> assumption)) (by intros; (try simp (disch := omega) only [MV, PV, mset_ne]); first | exact s.px | (apply s.px <;> assumption)) (by intros; (try simp (disch := omega) only [MV, PV, mset_ne]); first | exact s.th | (apply s.th <;> assumption)) (by intros; (try simp (disch := omega) only [MV, PV, mset_ne]); first | exact s.co | (apply s.co <;> assumption)) (by intros; (try simp (disch := omega) only [MV, PV, mset_ne]); first | exact s.mt | (apply s.mt <;> assumption)) (by intros; (try simp (disch := omega) only [MV, PV, mset_ne]); first | exact s.mc | (apply s.mc <;> assumption)) (by intros; (try simp (disch := omega) only [MV, PV, mset_ne]); first | exact s.nt | (apply s.nt <;> assumption)) (by intros; (try simp (disch := omega) only [MV, PV, mset_ne]); first | exact s.cs | (apply s.cs <;> assumption)) (by intros; (try simp (disch := omega) only [MV, PV, mset_ne]); first | exact s.gc | (apply s.gc <;> assumption)) (by intros; (try simp (disch := omega) only [MV, PV, mset_ne]); first | exact s.de | (apply s.de <;> assumption)) (by intros; (try simp (disch := omega) only [MV, PV, mset_ne]); first | exact s.la | (apply s.la <;> assumption)) (by intros; (try simp (disch := omega) only [MV, PV, mset_ne]); first | exact s.gx | (apply s.gx <;> assumption)) (by intros; (try simp (disch := omega) only [MV, PV, mset_ne]); first | exact s.nr | (apply s.nr <;> assumption)) (by intros; (try simp (disch := omega) only [MV, PV, mset_ne]); first | exact s.ow | (apply s.ow <;> assumption)) (by intros; (try simp (disch := omega) only [MV, PV, mset_ne]); first | exact s.nk | (apply s.nk <;> assumption)) wh (by intros; (try simp (disch := omega) only [MV, PV, mset_ne]); first | exact s.hd | (apply s.hd <;> assumption)) (by intros; (try simp (disch := omega) only [MV, PV, mset_ne]); first | exact s.le | (apply s.le <;> assumption)) (by intros; (try simp (disch := omega) only [MV, PV, mset_ne]); first | exact s.kc | (apply s.kc <;> assumption)) (by intros; (try simp (disch := omega) only [MV, PV, mset_ne]); first | exact s.kb | (apply s.kb <;> assumption)))
    obtain ⟨N0, hN0⟩ : ∃ N0, N0 = mset (mset (mset M 489 σ.nk (nI t)) 490 σ.nk (nI (σ.inp t))) 491 σ.nk (nI (σ.de t)) := ⟨_, rfl⟩
    have n0 : ∀ k j, ¬ (k = 489 ∧ j = σ.nk) → ¬ (k = 490 ∧ j = σ.nk) → ¬ (k = 491 ∧ j = σ.nk) → N0 k j = M k j := by
      intro k j h1 h2 h3
      rw [hN0, mset_ne (by omega), mset_ne (by omega), mset_ne (by omega)]
    have st1 : ∀ i, i ≤ σ.nf → ∃ M', lp (fX8_runs_50 (nI t)) (N0, (0 : Int32)) = lp (fX8_runs_50 (nI t)) (M', nI i) ∧ (∀ k, k < i → M' 492 (24 * σ.nk + k) = nI (σ.co k)) ∧ ∀ k j, ¬ (k = 492 ∧ 24 * σ.nk ≤ j) → M' k j = N0 k j := by
      intro i
      induction i with
      | zero => intro _; exact ⟨N0, rfl, fun k hk => by omega, fun k j _ => rfl⟩
      | succ i ih =>
        intro hi
        obtain ⟨M', e1, e2, e3⟩ := ih (by omega)
        have g1 : M' 475 2 = nI σ.nf := by rw [e3 _ _ (by omega), n0 _ _ (by omega) (by omega) (by omega)]; exact s.nf
        have g2 : M' 475 16 = nI σ.nk := by rw [e3 _ _ (by omega), n0 _ _ (by omega) (by omega) (by omega)]; exact s.nk
        have g3 : M' 481 i = nI (σ.co i) := by rw [e3 _ _ (by omega), n0 _ _ (by omega) (by omega) (by omega)]; exact s.co i (by omega)
        refine ⟨mset M' 492 (24 * σ.nk + i) (nI (σ.co i)), ?_, fun k hk => ?_, fun k j hk => ?_⟩
        · rw [e1]
          refine lp_go ?_
          unfold fX8_runs_50
          simp only [li_1, li_24]
          rw [g1, g2, pk_mul, nI_add, nI_clamp (by omega), nI_clamp (by omega), g3]
          simp (disch := omega) only [li_0, li_1, li_2, li_3, li_4, li_5, li_7, li_8, li_12, li_16, li_23, li_24, li_31, li_40, li_42, li_47, li_63, li_64, li_76, li_77, li_97, li_122, li_200, li_201, li_1000, li_1824, li_9999, li_16000, nI_add, nx_or, nx_and, pk_mul, nx_xor, nI_leI, nI_ltI, nI_eq, nI_clamp, vp_nI, px_sub, px_shl, px_shl2, px_shr2, px_bit, Bool.true_eq_false, Bool.false_eq_true, hol_0, hol_1, px_chr, chk, cnd_true, cnd_false, cnd_ite, bnd_s, nmv, exR, if_pos, if_neg, if_true, if_false, reduceIte, eq_self, not_true_eq_false, not_false_eq_true, show ¬ σ.nf ≤ i by omega, show 24 * σ.nk + i < 4800 by omega, show i < 24 by omega]
        · by_cases q : k = i
          · rw [q, mset_eq]
          · rw [mset_ne (by omega)]; exact e2 k (by omega)
        · rw [mset_ne (by omega)]; exact e3 k j hk
    obtain ⟨N1, e1, e2, e3⟩ := st1 σ.nf (Nat.le_refl _)
    have st2 : ∀ i, i ≤ σ.nt → ∃ M', lp (fX8_runs_86 (nI t)) (N1, (0 : Int32)) = lp (fX8_runs_86 (nI t)) (M', nI i) ∧ (∀ k, k < i → M' 493 (16 * σ.nk + k) = nI (K k)) ∧ ∀ k j, ¬ (k = 493 ∧ 16 * σ.nk ≤ j) → M' k j = N1 k j := by
      intro i
      induction i with
      | zero => intro _; exact ⟨N1, rfl, fun k hk => by omega, fun k j _ => rfl⟩
      | succ i ih =>
        intro hi
        obtain ⟨M', f1, f2, f3⟩ := ih (by omega)
        have g1 : M' 475 9 = nI σ.nt := by rw [f3 _ _ (by omega), e3 _ _ (by omega), n0 _ _ (by omega) (by omega) (by omega)]; exact s.nt
        have g2 : M' 475 16 = nI σ.nk := by rw [f3 _ _ (by omega), e3 _ _ (by omega), n0 _ _ (by omega) (by omega) (by omega)]; exact s.nk
        have g3 : M' 495 i = nI (K i) := by rw [f3 _ _ (by omega), e3 _ _ (by omega), n0 _ _ (by omega) (by omega) (by omega)]; exact hK i (by omega)
        refine ⟨mset M' 493 (16 * σ.nk + i) (nI (K i)), ?_, fun k hk => ?_, fun k j hk => ?_⟩
        · rw [f1]
          refine lp_go ?_
          unfold fX8_runs_86
          simp only [li_1, li_16]
          rw [g1, g2, pk_mul, nI_add, nI_clamp (by omega), nI_clamp (by omega), g3]
          simp (disch := omega) only [li_0, li_1, li_2, li_3, li_4, li_5, li_7, li_8, li_12, li_16, li_23, li_24, li_31, li_40, li_42, li_47, li_63, li_64, li_76, li_77, li_97, li_122, li_200, li_201, li_1000, li_1824, li_9999, li_16000, nI_add, nx_or, nx_and, pk_mul, nx_xor, nI_leI, nI_ltI, nI_eq, nI_clamp, vp_nI, px_sub, px_shl, px_shl2, px_shr2, px_bit, Bool.true_eq_false, Bool.false_eq_true, hol_0, hol_1, px_chr, chk, cnd_true, cnd_false, cnd_ite, bnd_s, nmv, exR, if_pos, if_neg, if_true, if_false, reduceIte, eq_self, not_true_eq_false, not_false_eq_true, show ¬ σ.nt ≤ i by omega, show 16 * σ.nk + i < 3200 by omega, show i < 16 by omega]
        · by_cases q : k = i
          · rw [q, mset_eq]
          · rw [mset_ne (by omega)]; exact f2 k (by omega)
        · rw [mset_ne (by omega)]; exact f3 k j hk
    obtain ⟨N2, f1, f2, f3⟩ := st2 σ.nt (Nat.le_refl _)
    have n2 : ∀ k j, ¬ (k = 489 ∧ j = σ.nk) → ¬ (k = 490 ∧ j = σ.nk) → ¬ (k = 491 ∧ j = σ.nk) → ¬ (k = 492 ∧ 24 * σ.nk ≤ j) → ¬ (k = 493 ∧ 16 * σ.nk ≤ j) → N2 k j = M k j := by
      intro k j h1 h2 h3 h4 h5
      rw [f3 k j h5, e3 k j h4, n0 k j h1 h2 h3]
    have g2 : N2 475 16 = nI σ.nk := by rw [n2 _ _ (by omega) (by omega) (by omega) (by omega) (by omega)]; exact s.nk
    have sg : RM ou (mset (mset N2 475 16 (nI (σ.nk + 1))) 495 t (nI (σ.nk + 1))) (σ.giv K t) := by
      refine RM_giv w s hn2 ?_ ?_ ?_ ?_ (fun k hk => ?_) (fun o ho => ?_) (fun k j h0 h1 h2 h3 h4 h5 h6 => ?_)
      · rw [mset_ne (by omega), mset_eq]
      · rw [mset_ne (by omega), mset_ne (by omega), f3 _ _ (by omega), e3 _ _ (by omega), hN0, mset_ne (by omega), mset_ne (by omega), mset_eq]
      · rw [mset_ne (by omega), mset_ne (by omega), f3 _ _ (by omega), e3 _ _ (by omega), hN0, mset_ne (by omega), mset_eq]
      · rw [mset_ne (by omega), mset_ne (by omega), f3 _ _ (by omega), e3 _ _ (by omega), hN0, mset_eq]
      · rw [mset_ne (by omega), mset_ne (by omega), f3 _ _ (by omega)]; exact e2 k hk
      · rw [mset_ne (by omega), mset_ne (by omega)]; exact f2 o ho
      · rw [mset_ne (by omega), mset_ne (by omega)]; exact n2 k j h1 h2 h3 h4 h5
    refine ⟨mset (mset (mset N2 475 16 (nI (σ.nk + 1))) 495 t (nI (σ.nk + 1))) 487 t (nI (σ.nk + 1)), ?_, RM_lat sg, fun o ho => ?_, fun p => ?_, ?_⟩
    · unfold fX8_runs
      rw [nI_clamp (by omega), hK t ht, c, chk_t (by rw [vp_nI (by omega)]; omega), cnd00, s.nk, nI_clamp (by omega), m_inp w s1 ht, bnd_s]
      have q1 : mset M 489 σ.nk (nI t) 475 16 = nI σ.nk := s1.nk
      rw [q1, nI_clamp (by omega)]
      have q2 : mset (mset M 489 σ.nk (nI t)) 490 σ.nk (nI (σ.inp t)) 475 16 = nI σ.nk := by rw [mset_ne (by omega)]; exact q1
      have q3 : mset (mset M 489 σ.nk (nI t)) 490 σ.nk (nI (σ.inp t)) 486 t = nI (σ.de t) := by rw [mset_ne (by omega)]; exact s1.de t (by omega)
      rw [q2, q3, nI_clamp (by omega), ← hN0, chk_t (by rw [vp_nI (by omega)]; omega), chk_t (by rw [vp_nI (by omega)]; omega), chk_t (by rw [vp_nI (by omega)]; omega), chk_t (by rw [vp_nI (by omega)]; omega), e1]
      refine lp_exq ?_
      unfold fX8_runs_50 fX8_runs_84
      have g1 : N1 475 2 = nI σ.nf := by rw [e3 _ _ (by omega), n0 _ _ (by omega) (by omega) (by omega)]; exact s.nf
      show cnd (N1 475 2 ≤ nI σ.nf) (exR (lp (fX8_runs_86 (nI t)) (N1, (0 : Int32)))) _ = _
      rw [g1, cnd_t (nI_le (Nat.le_refl _) (by omega)), f1]
      congr 1
      refine lp_exq ?_
      unfold fX8_runs_86 fX8_runs_120 fX8_runs_140
      have g3 : N2 475 9 = nI σ.nt := by rw [n2 _ _ (by omega) (by omega) (by omega) (by omega) (by omega)]; exact s.nt
      simp only [li_1]
      rw [g3, g2, cnd_t (nI_le (Nat.le_refl _) (by omega)), nI_add, nI_clamp (by omega), mset_eq, mset_eq]
      simp (disch := omega) only [li_0, li_1, li_2, li_3, li_4, li_5, li_7, li_8, li_12, li_16, li_23, li_24, li_31, li_40, li_42, li_47, li_63, li_64, li_76, li_77, li_97, li_122, li_200, li_201, li_1000, li_1824, li_9999, li_16000, nI_add, nx_or, nx_and, pk_mul, nx_xor, nI_leI, nI_ltI, nI_eq, nI_clamp, vp_nI, px_sub, px_shl, px_shl2, px_shr2, px_bit, Bool.true_eq_false, Bool.false_eq_true, hol_0, hol_1, px_chr, chk, cnd_true, cnd_false, cnd_ite, bnd_s, nmv, exR, if_pos, if_neg, if_true, if_false, reduceIte, eq_self, not_true_eq_false, not_false_eq_true, show t < 16 by omega]
    · rw [mset_ne (by omega)]
      by_cases q : o = t
      · rw [q, if_pos rfl, mset_eq]
      · rw [if_neg q, mset_ne (by omega), mset_ne (by omega), n2 _ _ (by omega) (by omega) (by omega) (by omega) (by omega)]
        exact hK o ho
    · rw [mset_ne (by omega), mset_ne (by omega), mset_ne (by omega), n2 _ _ (by omega) (by omega) (by omega) (by omega) (by omega)]
    · rw [mset_ne (by omega), mset_ne (by omega), mset_ne (by omega), n2 _ _ (by omega) (by omega) (by omega) (by omega) (by omega)]
  · rw [if_neg c, if_neg c]
    refine ⟨mset M 487 t (nI (K t)), ?_, RM_lat s, fun o ho => ?_, fun p => ?_, ?_⟩
    · unfold fX8_runs fX8_runs_140
      rw [nI_clamp (by omega), hK t ht, cnd_f (by rw [li_0, nI_eq (by omega) (by omega)]; exact c), chk_t (by rw [vp_nI (by omega)]; omega), chk_t (by rw [vp_nI (by omega)]; omega), chk_t (by rw [vp_nI (by omega)]; omega)]
    · rw [mset_ne (by omega), hK o ho]
      by_cases q : o = t
      · rw [q, if_pos rfl]
      · rw [if_neg q]
    · rw [mset_ne (by omega)]
    · rw [mset_ne (by omega)]
theorem nee_bit {σ : Ab} {t : Nat} (ht : t < σ.nt) : σ.nee.testBit t = true ↔ σ.ky t = 0 := by
  unfold Ab.nee
  rw [msk_bit]
  simp [ht]
theorem nee_rdy {σ : Ab} {t : Nat} (w : WF σ) : σ.de t &&& σ.nee = 0 ↔ σ.rdy σ.ky t := by
  constructor
  · intro h o ho
    have ho2 := bit_le (w.de t) ho
    apply Classical.byContradiction
    intro q
    exact and_ne ho ((nee_bit ho2).mpr (by omega)) h
  · intro h
    apply Nat.eq_of_testBit_eq
    intro o
    rw [Nat.testBit_and, Nat.zero_testBit]
    by_cases ho : (σ.de t).testBit o = true
    · have h1 := h o ho
      have ho2 := bit_le (w.de t) ho
      cases q : σ.nee.testBit o with
      | true => rw [nee_bit ho2] at q; omega
      | false => rw [Bool.and_false]
    · simp only [Bool.not_eq_true] at ho
      rw [ho]; rfl
theorem ky_no {σ : Ab} {t : Nat} (w : WF σ) (ht : t < σ.nt) (h : σ.rdy σ.ky t) (h0 : σ.ky t = 0) : ∀ i, i < σ.nk → ¬ σ.mtc σ.ky t i := by
  intro i hi q
  have e := ky_eq w ht
  unfold Ab.kn at e
  rw [cnd_t h, gvn_i w hi q] at e
  omega
theorem op_run {C M : Mem} {σ : Ab} (w : WF σ) (r : RC C σ) (s : RM ou M σ) (x : Int32) : Opp ou wr_32 (fX7_run C x) (fX8_run M x) := by
  have hnt := w.nt
  have hnk := w.nk
  have bad1 : fX7_requireTarget C x = some (.inr 3) → fX8_isTarget M x = some (nI 0) → Opp ou wr_32 (fX7_run C x) (fX8_run M x) := by
    intro h1 h2
    refine ⟨C, mset M 475 26 (nI 1), σ, w, r, RM_thr s, Or.inr ⟨3, nI 0, ?_, ?_, mset_eq, by decide, by decide⟩⟩
    · unfold fX7_run
      rw [h1]
      rfl
    · unfold fX8_run fX8_run_14
      rw [h2]
      simp (disch := omega) only [li_0, li_1, li_2, li_3, li_4, li_5, li_7, li_8, li_12, li_16, li_23, li_24, li_31, li_40, li_42, li_47, li_63, li_64, li_76, li_77, li_97, li_122, li_200, li_201, li_1000, li_1824, li_9999, li_16000, nI_add, nx_or, nx_and, pk_mul, nx_xor, nI_leI, nI_ltI, nI_eq, nI_clamp, vp_nI, px_sub, px_shl, px_shl2, px_shr2, px_bit, Bool.true_eq_false, Bool.false_eq_true, hol_0, hol_1, px_chr, chk, cnd_true, cnd_false, cnd_ite, bnd_s, nmv, exR, if_pos, if_neg, if_true, if_false, reduceIte, eq_self, not_true_eq_false, not_false_eq_true, mset_eq]
  rcases nI_cs x with hx | ⟨a, ha, rfl⟩
  · exact bad1 (c_hasT0 C hx) (m_isT0 M hx)
  · by_cases hb : a < σ.nt
    · obtain ⟨C', c1, c2, c3, c4⟩ := c_all w r
      obtain ⟨M', m1, m2, m3, m4, m5⟩ := m_need w (RM_thr (x := nI 0) s)
      have hk := ky_le w hb
      have hd := lt16 (w.de a) hnt
      have hne := lt16 (nee_lt σ) hnt
      have hand : σ.de a &&& σ.nee < 65536 := Nat.lt_of_le_of_lt Nat.and_le_left hd
      have hc : fX7_run C (nI a) = cnd (σ.rdy σ.ky a) (cnd (σ.ky a = 0 ∧ σ.nk = 200) (some (.inr 2, C')) (fX7_run_75 (nI a) C')) (some (.inr 2, C')) := by
        unfold fX7_run fX3_keyNow fX3_given fX2_dependenciesOf
        rw [c_hasT w r ha, cnd_t hb]
        simp only [bnd_s, sw]
        rw [c1, bnd_s, nI_clamp (by omega), c2.de a (by omega), chk_t (by rw [vp_nI (by omega)]; omega), bnd_s, c_wok w c2, bnd_s, wok_nee w c3, nx_and, c3 a hb, chk_t (by rw [vp_nI (by omega)]; omega), bnd_s, c2.nk]
        simp only [li_0, li_200]
        by_cases e1 : σ.rdy σ.ky a
        · rw [cnd_t e1, (nee_rdy w).mpr e1, cnd_t rfl]
          by_cases e2 : σ.ky a = 0
          · by_cases e3 : σ.nk = 200
            · rw [cnd_t (p := σ.ky a = 0 ∧ σ.nk = 200) ⟨e2, e3⟩, e2, e3]
              simp (disch := omega) only [li_0, li_1, li_2, li_3, li_4, li_5, li_7, li_8, li_12, li_16, li_23, li_24, li_31, li_40, li_42, li_47, li_63, li_64, li_76, li_77, li_97, li_122, li_200, li_201, li_1000, li_1824, li_9999, li_16000, nI_add, nx_or, nx_and, pk_mul, nx_xor, nI_leI, nI_ltI, nI_eq, nI_clamp, vp_nI, px_sub, px_shl, px_shl2, px_shr2, px_bit, Bool.true_eq_false, Bool.false_eq_true, hol_0, hol_1, px_chr, chk, cnd_true, cnd_false, cnd_ite, bnd_s, nmv, exR, if_pos, if_neg, if_true, if_false, reduceIte, eq_self, not_true_eq_false, not_false_eq_true]
            · rw [cnd_f (p := σ.ky a = 0 ∧ σ.nk = 200) (fun q => e3 q.2), e2]
              simp (disch := omega) only [li_0, li_1, li_2, li_3, li_4, li_5, li_7, li_8, li_12, li_16, li_23, li_24, li_31, li_40, li_42, li_47, li_63, li_64, li_76, li_77, li_97, li_122, li_200, li_201, li_1000, li_1824, li_9999, li_16000, nI_add, nx_or, nx_and, pk_mul, nx_xor, nI_leI, nI_ltI, nI_eq, nI_clamp, vp_nI, px_sub, px_shl, px_shl2, px_shr2, px_bit, Bool.true_eq_false, Bool.false_eq_true, hol_0, hol_1, px_chr, chk, cnd_true, cnd_false, cnd_ite, bnd_s, nmv, exR, if_pos, if_neg, if_true, if_false, reduceIte, eq_self, not_true_eq_false, not_false_eq_true, show σ.nk < 200 by omega]
          · rw [cnd_f (p := σ.ky a = 0 ∧ σ.nk = 200) (fun q => e2 q.1)]
            simp (disch := omega) only [li_0, li_1, li_2, li_3, li_4, li_5, li_7, li_8, li_12, li_16, li_23, li_24, li_31, li_40, li_42, li_47, li_63, li_64, li_76, li_77, li_97, li_122, li_200, li_201, li_1000, li_1824, li_9999, li_16000, nI_add, nx_or, nx_and, pk_mul, nx_xor, nI_leI, nI_ltI, nI_eq, nI_clamp, vp_nI, px_sub, px_shl, px_shl2, px_shr2, px_bit, Bool.true_eq_false, Bool.false_eq_true, hol_0, hol_1, px_chr, chk, cnd_true, cnd_false, cnd_ite, bnd_s, nmv, exR, if_pos, if_neg, if_true, if_false, reduceIte, eq_self, not_true_eq_false, not_false_eq_true, e2]
        · have c2 : ¬ σ.de a &&& σ.nee = 0 := fun q => e1 ((nee_rdy w).mp q)
          rw [cnd_f e1]
          simp (disch := omega) only [li_0, li_1, li_2, li_3, li_4, li_5, li_7, li_8, li_12, li_16, li_23, li_24, li_31, li_40, li_42, li_47, li_63, li_64, li_76, li_77, li_97, li_122, li_200, li_201, li_1000, li_1824, li_9999, li_16000, nI_add, nx_or, nx_and, pk_mul, nx_xor, nI_leI, nI_ltI, nI_eq, nI_clamp, vp_nI, px_sub, px_shl, px_shl2, px_shr2, px_bit, Bool.true_eq_false, Bool.false_eq_true, hol_0, hol_1, px_chr, chk, cnd_true, cnd_false, cnd_ite, bnd_s, nmv, exR, if_pos, if_neg, if_true, if_false, reduceIte, eq_self, not_true_eq_false, not_false_eq_true, c2]
      have hm : fX8_run M (nI a) = cnd (σ.rdy σ.ky a) (cnd (σ.ky a = 0 ∧ σ.nk = 200) (fX8_run_67 (nI a) (nI σ.nee, M') (nI 2)) (fX8_run_67 (nI a) (nI σ.nee, M') (nI 0))) (fX8_run_67 (nI a) (nI σ.nee, M') (nI 2)) := by
        unfold fX8_run fX8_run_14 fX8_run_62 fX8_run_66
        rw [m_isT w s ha, cnd_t hb, bnd_s, cnd10, show (0 : Int32) = nI 0 from rfl, mset_eq, cnd_t (by decide), m1, bnd_s]
        simp only []
        rw [nI_clamp (by omega), m2.de a (by omega), m2.nk, nx_and, Nat.and_comm, chk_t (by rw [vp_nI (by omega)]; omega)]
        simp only [li_0, li_200, li_1, li_2]
        by_cases e1 : σ.rdy σ.ky a
        · rw [cnd_t e1, (nee_rdy w).mpr e1, cnd_t rfl]
          by_cases e2 : σ.ky a = 0
          · have e4 := (nee_bit hb).mpr e2
            by_cases e3 : σ.nk = 200
            · rw [cnd_t (p := σ.ky a = 0 ∧ σ.nk = 200) ⟨e2, e3⟩, e3]
              simp (disch := omega) only [li_0, li_1, li_2, li_3, li_4, li_5, li_7, li_8, li_12, li_16, li_23, li_24, li_31, li_40, li_42, li_47, li_63, li_64, li_76, li_77, li_97, li_122, li_200, li_201, li_1000, li_1824, li_9999, li_16000, nI_add, nx_or, nx_and, pk_mul, nx_xor, nI_leI, nI_ltI, nI_eq, nI_clamp, vp_nI, px_sub, px_shl, px_shl2, px_shr2, px_bit, Bool.true_eq_false, Bool.false_eq_true, hol_0, hol_1, px_chr, chk, cnd_true, cnd_false, cnd_ite, bnd_s, nmv, exR, if_pos, if_neg, if_true, if_false, reduceIte, eq_self, not_true_eq_false, not_false_eq_true, e4]
            · rw [cnd_f (p := σ.ky a = 0 ∧ σ.nk = 200) (fun q => e3 q.2)]
              simp (disch := omega) only [li_0, li_1, li_2, li_3, li_4, li_5, li_7, li_8, li_12, li_16, li_23, li_24, li_31, li_40, li_42, li_47, li_63, li_64, li_76, li_77, li_97, li_122, li_200, li_201, li_1000, li_1824, li_9999, li_16000, nI_add, nx_or, nx_and, pk_mul, nx_xor, nI_leI, nI_ltI, nI_eq, nI_clamp, vp_nI, px_sub, px_shl, px_shl2, px_shr2, px_bit, Bool.true_eq_false, Bool.false_eq_true, hol_0, hol_1, px_chr, chk, cnd_true, cnd_false, cnd_ite, bnd_s, nmv, exR, if_pos, if_neg, if_true, if_false, reduceIte, eq_self, not_true_eq_false, not_false_eq_true, e4, e3]
          · have e4 : ¬ σ.nee.testBit a = true := fun q => e2 ((nee_bit hb).mp q)
            rw [cnd_f (p := σ.ky a = 0 ∧ σ.nk = 200) (fun q => e2 q.1)]
            simp (disch := omega) only [li_0, li_1, li_2, li_3, li_4, li_5, li_7, li_8, li_12, li_16, li_23, li_24, li_31, li_40, li_42, li_47, li_63, li_64, li_76, li_77, li_97, li_122, li_200, li_201, li_1000, li_1824, li_9999, li_16000, nI_add, nx_or, nx_and, pk_mul, nx_xor, nI_leI, nI_ltI, nI_eq, nI_clamp, vp_nI, px_sub, px_shl, px_shl2, px_shr2, px_bit, Bool.true_eq_false, Bool.false_eq_true, hol_0, hol_1, px_chr, chk, cnd_true, cnd_false, cnd_ite, bnd_s, nmv, exR, if_pos, if_neg, if_true, if_false, reduceIte, eq_self, not_true_eq_false, not_false_eq_true, e4]
        · have c2 : ¬ σ.de a &&& σ.nee = 0 := fun q => e1 ((nee_rdy w).mp q)
          rw [cnd_f e1]
          simp (disch := omega) only [li_0, li_1, li_2, li_3, li_4, li_5, li_7, li_8, li_12, li_16, li_23, li_24, li_31, li_40, li_42, li_47, li_63, li_64, li_76, li_77, li_97, li_122, li_200, li_201, li_1000, li_1824, li_9999, li_16000, nI_add, nx_or, nx_and, pk_mul, nx_xor, nI_leI, nI_ltI, nI_eq, nI_clamp, vp_nI, px_sub, px_shl, px_shl2, px_shr2, px_bit, Bool.true_eq_false, Bool.false_eq_true, hol_0, hol_1, px_chr, chk, cnd_true, cnd_false, cnd_ite, bnd_s, nmv, exR, if_pos, if_neg, if_true, if_false, reduceIte, eq_self, not_true_eq_false, not_false_eq_true, c2]
      rw [hc, hm]
      have bad : Opp ou wr_32 (some (.inr 2, C')) (fX8_run_67 (nI a) (nI σ.nee, M') (nI 2)) := by
        refine ⟨C', mset M' 475 26 (nI 2), σ, w, c2, RM_thr m2, Or.inr ⟨2, nI 0, rfl, ?_, mset_eq, by decide, by decide⟩⟩
        unfold fX8_run_67
        simp (disch := omega) only [li_0, li_1, li_2, li_3, li_4, li_5, li_7, li_8, li_12, li_16, li_23, li_24, li_31, li_40, li_42, li_47, li_63, li_64, li_76, li_77, li_97, li_122, li_200, li_201, li_1000, li_1824, li_9999, li_16000, nI_add, nx_or, nx_and, pk_mul, nx_xor, nI_leI, nI_ltI, nI_eq, nI_clamp, vp_nI, px_sub, px_shl, px_shl2, px_shr2, px_bit, Bool.true_eq_false, Bool.false_eq_true, hol_0, hol_1, px_chr, chk, cnd_true, cnd_false, cnd_ite, bnd_s, nmv, exR, if_pos, if_neg, if_true, if_false, reduceIte, eq_self, not_true_eq_false, not_false_eq_true, mset_eq]
      by_cases e1 : σ.rdy σ.ky a
      · rw [cnd_t e1, cnd_t e1]
        by_cases e2 : σ.ky a = 0 ∧ σ.nk = 200
        · rw [cnd_t e2, cnd_t e2]
          exact bad
        · rw [cnd_f e2, cnd_f e2]
          have e3 : σ.ky a = 0 → σ.nk < 200 := fun q => by
            apply Classical.byContradiction
            intro z
            exact e2 ⟨q, by omega⟩
          have hK : ∀ o, (σ.de a).testBit o = true → σ.ky o ≤ σ.nk := fun o ho => ky_le w (bit_le (w.de a) ho)
          have wr : WF (σ.rus σ.ky a) := WF_rus w hb hk (fun q => ⟨e3 q, e1, hK, ky_no w hb e1 q⟩)
          obtain ⟨C2, f1, f2, f3, _, _⟩ := c_rof w c2 hb (fun o ho => ⟨c3 o (bit_le (w.de a) ho), Nat.le_trans (hK o ho) hnk⟩) (ky_eq w hb).symm wr (fun q => ⟨e3 q, WF_giv w hb (e3 q) e1 hK (ky_no w hb e1 q)⟩)
          have m3' : ∀ o, o < σ.nt → mset M' 475 26 (nI 0) 495 o = nI (σ.ky o) := fun o ho => by rw [mset_ne (by omega)]; exact m3 o ho
          obtain ⟨M2, g1, g2, g3, _, g5⟩ := m_rus w (RM_thr (x := nI 0) m2) hb m3' (by omega) e3
          refine ⟨C2, M2, σ.rus σ.ky a, wr, f2, g2, Or.inl ⟨nI (krs σ σ.ky a a), ?_, ?_, ?_⟩⟩
          · unfold fX7_run_75
            rw [f1, bnd_s]
          · unfold fX8_run_67
            show cnd (mset M' 475 26 (nI 0) 475 26 ≤ 0) _ _ = _
            rw [mset_eq, cnd_t (by decide)]
            show bnd (fX8_runs (mset M' 475 26 (nI 0)) (nI a)) _ = _
            rw [g1, bnd_s, nI_clamp (by omega), g3 a hb, chk_t (by rw [vp_nI (by omega)]; omega)]
          · rw [g5]
            exact mset_eq
      · rw [cnd_f e1, cnd_f e1]
        exact bad
    · exact bad1 (by rw [c_hasT w r ha, cnd_f hb]) (by rw [m_isT w s ha, cnd_f hb])
