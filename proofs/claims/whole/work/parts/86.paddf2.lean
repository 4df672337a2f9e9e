variable {ou : Int32}
theorem c_meetG {C : Mem} {σ : Ab} {f : Nat} (w : WF σ) (tx : TV C 1 σ.tn σ.tf) (hp : isP σ.tn σ.tf) (hf : f < 24) (hnt : C 55 4 = nI σ.nt) (gc : ∀ t, t < σ.nt → C (60 + 11 * t) 3 = nI (σ.gc t)) (gx : ∀ t k, t < σ.nt → k < σ.gc t → TV C (60 + 11 * t + 3 + 2 * k) (σ.gn (4 * t + k)) (σ.gf (4 * t + k))) (gv : ∀ t k, t < σ.nt → k < σ.gc t → C (60 + 11 * t + 2) k = nI (σ.cv (4 * t + k))) : ∃ C', fX2_meetFile C (nI f) 1 = some C' ∧ (∀ t k, t < σ.nt → k < σ.gc t → C' (60 + 11 * t + 2) k = nI (σ.cv (4 * t + k) ||| (if mat σ.tn σ.tf (σ.gn (4 * t + k)) (σ.gf (4 * t + k)) then 2 ^ f else 0))) ∧ ∀ k j, ¬ (60 ≤ k ∧ k < 236 ∧ (k - 60) % 11 = 2) → C' k j = C k j := by
  have hn := w.nt
  have st : ∀ i, i ≤ σ.nt → ∃ C', lp (fX2_meetFile_2 (nI f) 1) (C, (0 : Int32)) = lp (fX2_meetFile_2 (nI f) 1) (C', nI i) ∧ (∀ t k, t < i → k < σ.gc t → C' (60 + 11 * t + 2) k = nI (σ.cv (4 * t + k) ||| (if mat σ.tn σ.tf (σ.gn (4 * t + k)) (σ.gf (4 * t + k)) then 2 ^ f else 0))) ∧ (∀ t k, i ≤ t → C' (60 + 11 * t + 2) k = C (60 + 11 * t + 2) k) ∧ ∀ k j, ¬ (60 ≤ k ∧ k < 236 ∧ (k - 60) % 11 = 2) → C' k j = C k j := by
    intro i
    induction i with
    | zero => intro _; exact ⟨C, rfl, fun t k ht => by omega, fun t k _ => rfl, fun k j _ => rfl⟩
    | succ i ih =>
      intro hi
      obtain ⟨C', e1, e2, e3, e4⟩ := ih (by omega)
      have h4 := w.gc i
      have t1 : TV C' 1 σ.tn σ.tf := by
        simp (disch := omega) only [TV, e4]
        exact tx
      obtain ⟨C2, f1, f2, f3⟩ := c_meet (C := C') (o := 60 + 11 * i) (n := σ.gc i) (L := 4) (g := fun k => σ.gn (4 * i + k)) (gf := fun k => σ.gf (4 * i + k)) (u := fun k => σ.cv (4 * i + k)) t1 hp (by omega) (ln_g (by omega)) h4 (by omega) hf (by rw [e4 _ _ (by omega)]; exact gc i (by omega)) (fun k hk => by
        refine ⟨?_, (w.gx _ (Or.inl ⟨i, k, by omega, hk, rfl⟩)).2⟩
        have := gx i k (by omega) hk
        simp (disch := omega) only [TV, e4]
        exact this) (fun k hk => by rw [e3 i k (Nat.le_refl _)]; exact gv i k (by omega) hk)
      refine ⟨C2, ?_, fun t k ht hk => ?_, fun t k ht => ?_, fun k j hk => ?_⟩
      · rw [e1]
        refine lp_go ?_
        unfold fX2_meetFile_2
        simp only [li_1]
        rw [e4 55 4 (by omega), hnt, nI_clamp (by omega), f1]
        simp (disch := omega) only [li_0, li_1, li_2, li_3, li_4, li_5, li_7, li_8, li_12, li_16, li_23, li_24, li_31, li_40, li_42, li_47, li_63, li_64, li_76, li_77, li_97, li_122, li_200, li_201, li_1000, li_1824, li_9999, li_16000, nI_add, nx_or, nx_and, pk_mul, nx_xor, nI_leI, nI_ltI, nI_eq, nI_clamp, vp_nI, px_sub, px_shl, px_shl2, px_shr2, px_bit, Bool.true_eq_false, Bool.false_eq_true, hol_0, hol_1, px_chr, chk, cnd_true, cnd_false, cnd_ite, bnd_s, nmv, exR, if_pos, if_neg, if_true, if_false, reduceIte, eq_self, not_true_eq_false, not_false_eq_true, show ¬ σ.nt ≤ i by omega, show i < 16 by omega]
      · by_cases q : t = i
        · rw [q]
          rw [q] at hk
          exact f2 k hk
        · rw [f3 _ _ (by omega)]; exact e2 t k (by omega) hk
      · rw [f3 _ _ (by omega)]; exact e3 t k (by omega)
      · rw [f3 _ _ (by omega)]; exact e4 k j hk
  obtain ⟨C', e1, e2, e3, e4⟩ := st σ.nt (Nat.le_refl _)
  refine ⟨C', ?_, e2, e4⟩
  unfold fX2_meetFile
  rw [e1]
  refine lp_exq ?_
  unfold fX2_meetFile_2
  show cnd (C' 55 4 ≤ nI σ.nt) (exR (some C')) _ = _
  rw [e4 _ _ (by omega), hnt, cnd_t (nI_le (Nat.le_refl _) (by omega))]
theorem c_new {C : Mem} {σ : Ab} (v : Nat) (w : WF σ) (r : RC C σ) (h : σ.nf < 24) (hp : isP σ.tn σ.tf) : ∃ C4, fX7_numberNewPath C = some (nI σ.nf, C4) ∧ RC (mset (mset C4 5 σ.nf (nI v)) 3 4 (nI (σ.th ||| 2 ^ σ.nf))) (σ.new v) ∧ C4 3 4 = nI σ.th := by
  have hn := w.nt
  have hnr := w.nr
  obtain ⟨C1, a1, a2, a3⟩ := c_copy r (o := 7 + 2 * σ.nf) (by omega) (by omega)
  obtain ⟨C2, hC2⟩ : ∃ C2, C2 = mset C1 3 3 (nI (σ.nf + 1)) := ⟨_, rfl⟩
  have e2 : ∀ k j, ¬ (k = 3 ∧ j = 3) → k ≠ 7 + 2 * σ.nf → k ≠ 7 + 2 * σ.nf + 1 → C2 k j = C k j := by
    intro k j k1 k2 k3
    rw [hC2, mset_ne (by omega), a3 k j k2 k3]
  have t2 : TV C2 1 σ.tn σ.tf := by
    simp (disch := omega) only [TV, e2]
    exact r.tx
  obtain ⟨C3, b1, b2, b3⟩ := c_meetG (f := σ.nf) w t2 hp h (by rw [e2 _ _ (by omega) (by omega) (by omega)]; exact r.nt) (fun t ht => by rw [e2 _ _ (by omega) (by omega) (by omega)]; exact r.gc t (by omega)) (fun t k ht hk => by
    have := r.gx t k ht hk
    have := w.gc t
    simp (disch := omega) only [TV, e2]
    exact r.gx t k ht hk) (fun t k ht hk => by rw [e2 _ _ (by omega) (by omega) (by omega)]; exact r.gv t k ht hk)
  have e3 : ∀ k j, ¬ (k = 3 ∧ j = 3) → k ≠ 7 + 2 * σ.nf → k ≠ 7 + 2 * σ.nf + 1 → ¬ (60 ≤ k ∧ k < 236 ∧ (k - 60) % 11 = 2) → C3 k j = C k j := by
    intro k j k1 k2 k3 k4
    rw [b3 k j k4, e2 k j k1 k2 k3]
  have t3 : TV C3 1 σ.tn σ.tf := by
    simp (disch := omega) only [TV, e3]
    exact r.tx
  obtain ⟨C4, c1, c2, c3⟩ := c_meet (C := C3) (o := 447) (n := σ.nr) (L := 12) (f := σ.nf) (g := fun k => σ.gn (64 + k)) (gf := fun k => σ.gf (64 + k)) (u := fun k => σ.cv (64 + k)) t3 hp (by omega) ln_r hnr (by omega) h (by rw [e3 _ _ (by omega) (by omega) (by omega) (by omega)]; exact r.nr) (fun k hk => by
    refine ⟨?_, (w.gx _ (Or.inr ⟨k, hk, rfl⟩)).2⟩
    have := r.rx k hk
    show TV C3 (450 + 2 * k) (σ.gn (64 + k)) (σ.gf (64 + k))
    simp (disch := omega) only [TV, e3]
    exact this) (fun k hk => by
    rw [e3 _ _ (by omega) (by omega) (by omega) (by omega)]
    exact r.rv k hk)
  have q33 : C4 3 3 = nI (σ.nf + 1) := by rw [c3 _ _ (by omega), b3 _ _ (by omega), hC2, mset_eq]
  have q34 : C4 3 4 = nI σ.th := by rw [c3 _ _ (by omega), e3 _ _ (by omega) (by omega) (by omega) (by omega)]; exact r.th
  have q35 : C4 3 5 = nI σ.mt := by rw [c3 _ _ (by omega), e3 _ _ (by omega) (by omega) (by omega) (by omega)]; exact r.mt
  refine ⟨C4, ?_, RC_new w r h ?_ mset_eq ?_ ?_ (fun k hk => ?_) ?_ (fun t k ht hk => ?_) (fun k hk => ?_) (fun k j k1 k2 k3 k4 k5 k6 => ?_), q34⟩
  · unfold fX7_numberNewPath fX0_addPath fX4_meetFile
    simp only [nmv]
    rw [r.nf, nI_clamp (by omega), a1, chk_t (by rw [vp_nI (by omega)]; omega), bnd_s, a3 3 3 (by omega) (by omega), r.nf, show (1 : Int32) = nI 1 from rfl, nI_add, ← hC2, bnd_s]
    show bnd (fX2_meetFile C2 (nI σ.nf) 1) _ = _
    rw [b1, bnd_s]
    show bnd (bnd (fX1_meetFile C3 447 (nI σ.nf) 1) _) _ = _
    rw [c1, bnd_s, bnd_s]
  · rw [mset_ne (by omega), mset_ne (by omega)]; exact q33
  · rw [mset_ne (by omega), mset_ne (by omega)]; exact q35
  · rw [mset_ne (by omega), mset_eq]
  · rw [mset_ne (by omega), mset_ne (by omega), c3 _ _ (by omega), e3 _ _ (by omega) (by omega) (by omega) (by omega)]
  · obtain ⟨p1, p2, p3⟩ := a2
    refine ⟨?_, p2, fun j hj => ?_⟩
    · rw [mset_ne (by omega), mset_ne (by omega), c3 _ _ (by omega), b3 _ _ (by omega), hC2, mset_ne (by omega)]; exact p1
    · rw [mset_ne (by omega), mset_ne (by omega), c3 _ _ (by omega), b3 _ _ (by omega), hC2, mset_ne (by omega)]; exact p3 j hj
  · rw [mset_ne (by omega), mset_ne (by omega), c3 _ _ (by omega), b2 t k ht hk, new_cv]
  · rw [mset_ne (by omega), mset_ne (by omega), show 449 = 447 + 2 from rfl, c2 k hk, new_cv]
  · rw [mset_ne (by omega), mset_ne (by omega), c3 _ _ (by omega), e3 _ _ (by omega) (by omega) (by omega) (by omega)]
theorem m_new {M : Mem} {σ : Ab} {v : Nat} (w : WF σ) (s : RM ou M σ) (h : σ.nf < 24) : ∃ M', lp (fX8_addFile_100 (nI v) (nI σ.nf)) (M, (0 : Int32)) = some (nI σ.nf, M') ∧ RM ou M' (σ.new v) ∧ M' 475 26 = M 475 26 := by
  have hn := s.tx.2.1
  have st : ∀ i, i ≤ σ.tn → ∃ M', lp (fX8_addFile_100 (nI v) (nI σ.nf)) (M, (0 : Int32)) = lp (fX8_addFile_100 (nI v) (nI σ.nf)) (M', nI i) ∧ (∀ j, j < i → M' 478 (24 * σ.nf + j) = nI (σ.tf j)) ∧ ∀ k j, ¬ (k = 478 ∧ 24 * σ.nf ≤ j) → M' k j = M k j := by
    intro i
    induction i with
    | zero => intro _; exact ⟨M, rfl, fun j hj => by omega, fun k j _ => rfl⟩
    | succ i ih =>
      intro hi
      obtain ⟨M', e1, e2, e3⟩ := ih (by omega)
      have hf := s.tx.2.2 i (by omega)
      have g1 : M' 477 76 = nI σ.tn := by rw [e3 _ _ (by omega)]; exact s.tx.1
      have g2 : M' 476 (1824 + i) = nI (σ.tf i) := by rw [e3 _ _ (by omega)]; exact hf.1
      refine ⟨mset M' 478 (24 * σ.nf + i) (nI (σ.tf i)), ?_, fun j hj => ?_, fun k j hk => ?_⟩
      · rw [e1]
        refine lp_go ?_
        unfold fX8_addFile_100
        simp only [li_1, li_76, li_1824, li_24]
        rw [nI_clamp (by omega), g1, pk_mul, nI_add, nI_add, nI_add, nI_clamp (by omega), nI_clamp (by omega), g2]
        simp (disch := omega) only [li_0, li_1, li_2, li_3, li_4, li_5, li_7, li_8, li_12, li_16, li_23, li_24, li_31, li_40, li_42, li_47, li_63, li_64, li_76, li_77, li_97, li_122, li_200, li_201, li_1000, li_1824, li_9999, li_16000, nI_add, nx_or, nx_and, pk_mul, nx_xor, nI_leI, nI_ltI, nI_eq, nI_clamp, vp_nI, px_sub, px_shl, px_shl2, px_shr2, px_bit, Bool.true_eq_false, Bool.false_eq_true, hol_0, hol_1, px_chr, chk, cnd_true, cnd_false, cnd_ite, bnd_s, nmv, exR, if_pos, if_neg, if_true, if_false, reduceIte, eq_self, not_true_eq_false, not_false_eq_true, show ¬ σ.tn ≤ i by omega, show 24 * σ.nf + i < 576 by omega, show 1824 + i < 1848 by omega]
      · by_cases q : j = i
        · rw [q, mset_eq]
        · rw [mset_ne (by omega)]; exact e2 j (by omega)
      · rw [mset_ne (by omega)]; exact e3 k j hk
  obtain ⟨M', e1, e2, e3⟩ := st σ.tn (Nat.le_refl _)
  have g1 : M' 477 76 = nI σ.tn := by rw [e3 _ _ (by omega)]; exact s.tx.1
  have g3 : M' 475 2 = nI σ.nf := by rw [e3 _ _ (by omega)]; exact s.nf
  refine ⟨mset (mset (mset (mset M' 479 σ.nf (nI σ.tn)) 475 2 (nI (σ.nf + 1))) 480 σ.nf (nI 1)) 481 σ.nf (nI v), ?_, RM_new w s h ?_ ?_ (fun k hk => ?_) mset_eq (fun k hk => ?_) ⟨?_, hn, fun j hj => ⟨?_, (s.tx.2.2 j hj).2⟩⟩ (fun k j k1 k2 k3 k4 k5 => ?_), ?_⟩
  · rw [e1]
    refine lp_exq ?_
    unfold fX8_addFile_100 fX8_addFile_138 fX8_addFile_161
    simp only [li_1, li_76]
    rw [nI_clamp (by omega), g1, cnd_t (nI_le (Nat.le_refl _) (by omega)), nI_clamp (by omega), px_b1]
    have g4 : mset M' 479 σ.nf (nI σ.tn) 475 2 = nI σ.nf := by rw [mset_ne (by omega)]; exact g3
    rw [g4, nI_add]
    simp (disch := omega) only [li_0, li_1, li_2, li_3, li_4, li_5, li_7, li_8, li_12, li_16, li_23, li_24, li_31, li_40, li_42, li_47, li_63, li_64, li_76, li_77, li_97, li_122, li_200, li_201, li_1000, li_1824, li_9999, li_16000, nI_add, nx_or, nx_and, pk_mul, nx_xor, nI_leI, nI_ltI, nI_eq, nI_clamp, vp_nI, px_sub, px_shl, px_shl2, px_shr2, px_bit, Bool.true_eq_false, Bool.false_eq_true, hol_0, hol_1, px_chr, chk, cnd_true, cnd_false, cnd_ite, bnd_s, nmv, exR, if_pos, if_neg, if_true, if_false, reduceIte, eq_self, not_true_eq_false, not_false_eq_true, show σ.nf < 24 by omega]
  · rw [mset_ne (by omega), mset_ne (by omega), mset_eq]
  · rw [mset_ne (by omega), mset_eq]
  · rw [mset_ne (by omega), mset_ne (by omega), mset_ne (by omega), mset_ne (by omega), e3 _ _ (by omega)]
  · rw [mset_ne (by omega), mset_ne (by omega), mset_ne (by omega), mset_ne (by omega), e3 _ _ (by omega)]
  · rw [mset_ne (by omega), mset_ne (by omega), mset_ne (by omega), mset_eq]
  · rw [mset_ne (by omega), mset_ne (by omega), mset_ne (by omega), mset_ne (by omega)]; exact e2 j hj
  · rw [mset_ne (by omega), mset_ne (by omega), mset_ne (by omega), mset_ne (by omega), e3 _ _ (by omega)]
  · rw [mset_ne (by omega), mset_ne (by omega), mset_ne (by omega), mset_ne (by omega), e3 _ _ (by omega)]
