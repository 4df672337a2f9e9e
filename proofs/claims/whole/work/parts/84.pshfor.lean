variable {ou : Int32}
/-! shardsFor -/
noncomputable def Ab.mxs (σ : Ab) (n : Nat) : Nat := mx (σ.sp σ.nee n (cn σ.nee 24)).2.1 8
noncomputable def Ab.fnd (σ : Ab) (l : Nat) : Nat → Int32 → Int32
  | 0, v => v
  | j + 1, v => Ab.fnd σ l j (cnd (σ.mxs (j + 1) ≤ l) (nI (j + 1)) v)
noncomputable def Ab.fst (σ : Ab) (l : Nat) : Nat → Nat → Int32
  | 0, _ => nI 4294967295
  | d + 1, j => cnd (σ.mxs j ≤ l) (nI j) (Ab.fst σ l d (j + 1))
theorem fnd_fst (σ : Ab) (l : Nat) : ∀ j d, σ.fnd l j (σ.fst l d (j + 1)) = σ.fst l (d + j) 1
  | 0, d => rfl
  | j + 1, d => by
    show σ.fnd l j (cnd (σ.mxs (j + 1) ≤ l) (nI (j + 1)) (σ.fst l d (j + 1 + 1))) = _
    rw [show cnd (σ.mxs (j + 1) ≤ l) (nI (j + 1)) (σ.fst l d (j + 1 + 1)) = σ.fst l (d + 1) (j + 1) from rfl, fnd_fst σ l j (d + 1), show d + 1 + j = d + (j + 1) by omega]
theorem mxs_b {σ : Ab} (w : WF σ) (n : Nat) : σ.mxs n ≤ 16000 := by
  have hm : ∀ k, mx (σ.sp σ.nee n (cn σ.nee 24)).2.1 k ≤ 16000 := by
    intro k
    induction k with
    | zero => exact Nat.zero_le _
    | succ k ih =>
      have := sp_b (n := n) w (nee_lt σ) k
      show max (mx _ k) _ ≤ 16000
      omega
  exact hm 8
theorem c_sf {σ : Ab} {l : Nat} (w : WF σ) (hl : l < 2147483648) : ∀ d j C, j + d = 9 → 1 ≤ j → RC C σ → (∀ t, t < σ.nt → C 440 t = nI (σ.ky t)) → ∃ C', lp (fX7_shardsFor_32 (nI l)) (C, nI j) = some (.inl (σ.fst l d j), C') ∧ RC C' σ
  | 0, j, C, h1, h2, r, hk => by
    refine ⟨C, lp_exq ?_, r⟩
    unfold fX7_shardsFor_32
    have e : j = 9 := by omega
    rw [li_m1, e, cnd_t (show (8 : Int32) < nI 9 by decide)]
    rfl
  | d + 1, j, C, h1, h2, r, hk => by
    obtain ⟨C2, d1, d2, d3, d4, d5⟩ := c_over (n := j) w r (nee_lt σ) h2 (by omega)
    have hm := mxs_b w j
    have hs : fX7_shardsFor_32 (nI l) (C, nI j) = cnd (σ.mxs j ≤ l) (exR (some (.inl (nI j), C2))) (some (.inl (C2, nI (j + 1)))) := by
      unfold fX7_shardsFor_32
      simp only [li_1, li_8]
      rw [cnd_f (nI_nlt (by omega) (by omega)), c_wok w r, bnd_s, wok_nee w hk, d1, bnd_s, c_grea d3 (sp_b w (nee_lt σ)), bnd_s, nI_add]
      show cnd (nI l < nI (σ.mxs j)) _ _ = _
      by_cases c : σ.mxs j ≤ l
      · rw [cnd_t c, cnd_f (nI_nlt c (by omega))]
      · rw [cnd_f c, cnd_t (nI_lt (by omega) (by omega))]
    unfold Ab.fst
    by_cases c : σ.mxs j ≤ l
    · rw [cnd_t c]
      rw [cnd_t c] at hs
      exact ⟨C2, lp_exq hs, d2⟩
    · rw [cnd_f c]
      rw [cnd_f c] at hs
      rw [lp_go hs]
      exact c_sf w hl d (j + 1) C2 (by omega) (by omega) d2 (fun t ht => by rw [d5 440 t (by omega) (by omega)]; exact hk t ht)
theorem m_sf {σ : Ab} {l : Nat} (w : WF σ) (hl : l < 2147483648) : ∀ j M v, j ≤ 8 → RM ou M σ → M 475 26 = nI 0 → ∃ M', lp (fX8_shardsFor_25 (nI l)) (M, v, nI j) = some (σ.fnd l j v, M') ∧ RM ou M' σ ∧ M' 475 26 = nI 0
  | 0, M, v, hj, s, h0 => by
    refine ⟨M, lp_exq ?_, s, h0⟩
    unfold fX8_shardsFor_25 fX8_shardsFor_58
    show cnd (nI 0 < 1) (exR (cnd (M 475 26 ≤ 0) (some (v, M)) (some (0, M)))) _ = _
    rw [cnd_t (by decide), h0, cnd_t (by decide)]
    rfl
  | j + 1, M, v, hj, s, h0 => by
    obtain ⟨M2, m1, m2, m3, m4⟩ := m_spr (n := j + 1) w s (by omega) hj
    have hm := mxs_b w (j + 1)
    have hs : fX8_shardsFor_25 (nI l) (M, v, nI (j + 1)) = some (.inl (M2, cnd (σ.mxs (j + 1) ≤ l) (nI (j + 1)) v, nI j)) := by
      unfold fX8_shardsFor_25 fX8_shardsFor_51
      have g3 : nI (j + 1) + (-1 : Int32) = nI j := by
        rw [← Int32.sub_eq_add_neg, show (1 : Int32) = nI 1 from rfl, px_sub (by omega)]
        congr 1
      simp only [g3]
      rw [li_1, cnd_f (nI_nlt (by omega) (by omega)), h0, cnd00, m1, bnd_s]
      show cnd (nI l < nI (σ.mxs (j + 1))) _ _ = _
      by_cases c : σ.mxs (j + 1) ≤ l
      · rw [cnd_t (p := σ.mxs (j + 1) ≤ l) c, cnd_f (nI_nlt c (by omega))]
      · rw [cnd_f (p := σ.mxs (j + 1) ≤ l) c, cnd_t (nI_lt (by omega) (by omega))]
    rw [lp_go hs]
    exact m_sf w hl j M2 _ (by omega) m2 (by rw [m4]; exact h0)
theorem m_in16 {a : Nat} (ha : a < 2147483648) : fX8_isIn (nI a) 1 16000 = cnd (1 ≤ a ∧ a ≤ 16000) (nI 1) (nI 0) := by
  unfold fX8_isIn fX8_isIn_14
  simp only [li_0, li_1, li_16000]
  by_cases h : 1 ≤ a
  · by_cases h2 : a ≤ 16000
    · rw [cnd_t (p := 1 ≤ a ∧ a ≤ 16000) ⟨h, h2⟩]
      simp (disch := omega) only [li_0, li_1, li_2, li_3, li_4, li_5, li_7, li_8, li_12, li_16, li_23, li_24, li_31, li_40, li_42, li_47, li_63, li_64, li_76, li_77, li_97, li_122, li_200, li_201, li_1000, li_1824, li_9999, li_16000, nI_add, nx_or, nx_and, pk_mul, nx_xor, nI_leI, nI_ltI, nI_eq, nI_clamp, vp_nI, px_sub, px_shl, px_shl2, px_shr2, px_bit, Bool.true_eq_false, Bool.false_eq_true, hol_0, hol_1, px_chr, chk, cnd_true, cnd_false, cnd_ite, bnd_s, nmv, exR, if_pos, if_neg, if_true, if_false, reduceIte, eq_self, not_true_eq_false, not_false_eq_true, show ¬ a < 1 by omega, show ¬ 16000 < a by omega]
    · rw [cnd_f (p := 1 ≤ a ∧ a ≤ 16000) (fun q => h2 q.2)]
      simp (disch := omega) only [li_0, li_1, li_2, li_3, li_4, li_5, li_7, li_8, li_12, li_16, li_23, li_24, li_31, li_40, li_42, li_47, li_63, li_64, li_76, li_77, li_97, li_122, li_200, li_201, li_1000, li_1824, li_9999, li_16000, nI_add, nx_or, nx_and, pk_mul, nx_xor, nI_leI, nI_ltI, nI_eq, nI_clamp, vp_nI, px_sub, px_shl, px_shl2, px_shr2, px_bit, Bool.true_eq_false, Bool.false_eq_true, hol_0, hol_1, px_chr, chk, cnd_true, cnd_false, cnd_ite, bnd_s, nmv, exR, if_pos, if_neg, if_true, if_false, reduceIte, eq_self, not_true_eq_false, not_false_eq_true, show ¬ a < 1 by omega, show 16000 < a by omega]
  · rw [cnd_f (p := 1 ≤ a ∧ a ≤ 16000) (fun q => h q.1)]
    simp (disch := omega) only [li_0, li_1, li_2, li_3, li_4, li_5, li_7, li_8, li_12, li_16, li_23, li_24, li_31, li_40, li_42, li_47, li_63, li_64, li_76, li_77, li_97, li_122, li_200, li_201, li_1000, li_1824, li_9999, li_16000, nI_add, nx_or, nx_and, pk_mul, nx_xor, nI_leI, nI_ltI, nI_eq, nI_clamp, vp_nI, px_sub, px_shl, px_shl2, px_shr2, px_bit, Bool.true_eq_false, Bool.false_eq_true, hol_0, hol_1, px_chr, chk, cnd_true, cnd_false, cnd_ite, bnd_s, nmv, exR, if_pos, if_neg, if_true, if_false, reduceIte, eq_self, not_true_eq_false, not_false_eq_true, show a < 1 by omega]
theorem op_shardsFor {C M : Mem} {σ : Ab} (w : WF σ) (r : RC C σ) (s : RM ou M σ) (x : Int32) : Opp ou wr_1 (fX7_shardsFor C x) (fX8_shardsFor M x) := by
  have bad1 : fX7_shardsFor C x = some (.inr 1, C) → fX8_isIn x 1 16000 = nI 0 → Opp ou wr_1 (fX7_shardsFor C x) (fX8_shardsFor M x) := by
    intro h1 h2
    refine ⟨C, mset M 475 26 (nI 1), σ, w, r, RM_thr s, Or.inr ⟨1, nI 0, h1, ?_, mset_eq, by decide, by decide⟩⟩
    unfold fX8_shardsFor fX8_shardsFor_17
    rw [h2, cnd00]
    refine lp_exq ?_
    unfold fX8_shardsFor_25 fX8_shardsFor_58
    simp only [li_1]
    show cnd ((8 : Int32) < nI 1) _ (cnd (mset M 475 26 (nI 1) 475 26 = 0) _ (exR (cnd (mset M 475 26 (nI 1) 475 26 ≤ 0) _ (some (0, mset M 475 26 (nI 1)))))) = _
    rw [cnd_f (p := (8 : Int32) < nI 1) (by decide), mset_eq, cnd_f (p := nI 1 = 0) (by decide), cnd_f (p := nI 1 ≤ 0) (by decide)]
    rfl
  rcases nI_cs x with hx | ⟨a, ha, rfl⟩
  · refine bad1 ?_ (m_in81 hx)
    unfold fX7_shardsFor fX7_shardsFor_12
    rw [cnd_t (neg_lt1 hx)]
  · by_cases hb : 1 ≤ a ∧ a ≤ 16000
    · obtain ⟨C1, c1, c2, c3, c4⟩ := c_all w r
      obtain ⟨C2, d1, d2⟩ := c_sf (l := a) w ha 8 1 C1 (by omega) (by omega) c2 c3
      obtain ⟨M2, m1, m2, m3⟩ := m_sf (l := a) w ha 8 (mset M 475 26 (nI 0)) (nI 4294967295) (by omega) (RM_thr s) mset_eq
      have ef := fnd_fst σ a 8 0
      have ef : σ.fnd a 8 (nI 4294967295) = σ.fst a 8 1 := ef
      refine ⟨C2, M2, σ, w, d2, m2, Or.inl ⟨σ.fst a 8 1, ?_, ?_, m3⟩⟩
      · unfold fX7_shardsFor
        rw [show (1 : Int32) = nI 1 from rfl, li_16000, cnd_f (nI_nlt hb.1 (by omega)), cnd_t (nI_le hb.2 (by omega)), c1, bnd_s, d1]
      · unfold fX8_shardsFor fX8_shardsFor_17
        rw [m_in16 ha, cnd_t hb, cnd10, li_m1, show (8 : Int32) = nI 8 from rfl, show (0 : Int32) = nI 0 from rfl, m1, ef]
    · refine bad1 ?_ (by rw [m_in16 ha, cnd_f hb])
      unfold fX7_shardsFor fX7_shardsFor_12
      simp only [li_1, li_16000]
      by_cases h1 : a < 1
      · simp (disch := omega) only [li_0, li_1, li_2, li_3, li_4, li_5, li_7, li_8, li_12, li_16, li_23, li_24, li_31, li_40, li_42, li_47, li_63, li_64, li_76, li_77, li_97, li_122, li_200, li_201, li_1000, li_1824, li_9999, li_16000, nI_add, nx_or, nx_and, pk_mul, nx_xor, nI_leI, nI_ltI, nI_eq, nI_clamp, vp_nI, px_sub, px_shl, px_shl2, px_shr2, px_bit, Bool.true_eq_false, Bool.false_eq_true, hol_0, hol_1, px_chr, chk, cnd_true, cnd_false, cnd_ite, bnd_s, nmv, exR, if_pos, if_neg, if_true, if_false, reduceIte, eq_self, not_true_eq_false, not_false_eq_true, h1]
      · simp (disch := omega) only [li_0, li_1, li_2, li_3, li_4, li_5, li_7, li_8, li_12, li_16, li_23, li_24, li_31, li_40, li_42, li_47, li_63, li_64, li_76, li_77, li_97, li_122, li_200, li_201, li_1000, li_1824, li_9999, li_16000, nI_add, nx_or, nx_and, pk_mul, nx_xor, nI_leI, nI_ltI, nI_eq, nI_clamp, vp_nI, px_sub, px_shl, px_shl2, px_shr2, px_bit, Bool.true_eq_false, Bool.false_eq_true, hol_0, hol_1, px_chr, chk, cnd_true, cnd_false, cnd_ite, bnd_s, nmv, exR, if_pos, if_neg, if_true, if_false, reduceIte, eq_self, not_true_eq_false, not_false_eq_true, h1, show ¬ a ≤ 16000 by omega]
