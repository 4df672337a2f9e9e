theorem rw_in {a b : Bool} {x y : Nat} (hx : x ≤ 9999) (hy : y ≤ 9999) : (nI (if a then x + 1 else 0) = nI (if b then y + 1 else 0)) ↔ (a = b ∧ (b = true → x = y)) := by
  cases a <;> cases b <;> simp <;> rw [nI_eq (by omega) (by omega)] <;> omega
theorem rw_ks {a b : Bool} {x y : Nat} (hx : a = true → 0 < x ∧ x ≤ 200) (hy : b = true → 0 < y ∧ y ≤ 200) : (nI (if a then x else 0) = nI (if b then y else 0)) ↔ (a = b ∧ (b = true → x = y)) := by
  cases a <;> cases b <;> simp at hx hy ⊢ <;> rw [nI_eq (by omega) (by omega)] <;> omega
theorem bits_eq {a b n : Nat} (ha : a < 2 ^ n) (hb : b < 2 ^ n) (h : ∀ k, k < n → a.testBit k = b.testBit k) : a = b := by
  apply Nat.eq_of_testBit_eq
  intro k
  by_cases c : k < n
  · exact h k c
  · rw [bit_lt ha (by omega), bit_lt hb (by omega)]
/-- the first 24 places of the row agree with those of key i + 1 -/
theorem agr_in {C : Mem} {σ : Ab} {t i : Nat} (w : WF σ) (r : RC C σ) (hi : i < σ.nk) (h : ∀ k, k < 24 → C 442 k = nI (if (σ.inp t).testBit k then σ.co k + 1 else 0)) : (∀ x, x < 24 → C (238 + (i + 1)) x = C 442 x) ↔ σ.mti t i := by
  have hnf := w.nf
  have one : ∀ k, k < 24 → (C (238 + (i + 1)) k = C 442 k ↔ ((σ.hd i).testBit k = (σ.inp t).testBit k ∧ ((σ.inp t).testBit k = true → σ.kc i k = σ.co k))) := by
    intro k hk
    rw [r.rf i k hi hk, h k hk]
    cases c1 : (σ.hd i).testBit k <;> cases c2 : (σ.inp t).testBit k
    · simp
    · have := w.co k (bit_le (inp_lt σ t) c2)
      simp
      rw [nI_eq (by omega) (by omega)]; omega
    · have := w.kc i k hi c1
      simp
      rw [nI_eq (by omega) (by omega)]; omega
    · have := w.co k (bit_le (inp_lt σ t) c2)
      have := w.kc i k hi c1
      simp
      rw [nI_eq (by omega) (by omega)]; omega
  constructor
  · intro q
    refine ⟨bits_eq (n := 24) ?_ ?_ (fun k hk => ((one k hk).mp (q k hk)).1), fun k hk => ?_⟩
    · exact lt24 (w.hd i hi) hnf
    · exact lt24 (inp_lt σ t) hnf
    · have := bit_le (inp_lt σ t) hk
      exact ((one k (by omega)).mp (q k (by omega))).2 hk
  · rintro ⟨q1, q2⟩ k hk
    exact (one k hk).mpr ⟨by rw [q1], q2 k⟩
/-- .. and so do all -/
theorem agr_al {C : Mem} {σ : Ab} {K : Nat → Nat} {t i : Nat} (w : WF σ) (r : RC C σ) (hi : i < σ.nk) (hr : σ.rdy K t) (hK : ∀ o, (σ.de t).testBit o = true → K o ≤ 200) (h : ∀ k, k < 24 → C 442 k = nI (if (σ.inp t).testBit k then σ.co k + 1 else 0)) (h2 : ∀ o, o < 16 → C 442 (24 + o) = nI (if (σ.de t).testBit o then K o else 0)) : (∀ x, x < 40 → C (238 + (i + 1)) x = C 442 x) ↔ σ.mti t i ∧ σ.mtd K t i := by
  have hn := w.nt
  have hnk := w.nk
  have one : ∀ o, o < 16 → (C (238 + (i + 1)) (24 + o) = C 442 (24 + o) ↔ ((σ.le i).testBit o = (σ.de t).testBit o ∧ ((σ.de t).testBit o = true → σ.kb i o = K o))) := by
    intro o ho
    rw [r.rt i o hi ho, h2 o ho]
    cases c1 : (σ.le i).testBit o <;> cases c2 : (σ.de t).testBit o
    · simp
    · have := hr o c2
      have := hK o c2
      simp
      rw [nI_eq (by omega) (by omega)]; omega
    · have := w.kb i o hi c1
      simp
      rw [nI_eq (by omega) (by omega)]; omega
    · have := hK o c2
      have := w.kb i o hi c1
      simp
      rw [nI_eq (by omega) (by omega)]
  constructor
  · intro q
    refine ⟨(agr_in w r hi h).mp (fun x hx => q x (by omega)), bits_eq (n := 16) ?_ ?_ (fun k hk => ((one k hk).mp (q (24 + k) (by omega))).1), fun k hk => ?_⟩
    · exact lt16 (w.le i hi) hn
    · exact lt16 (w.de t) hn
    · have := bit_le (w.de t) hk
      exact ((one k (by omega)).mp (q (24 + k) (by omega))).2 hk
  · rintro ⟨q0, q1, q2⟩ x hx
    by_cases c : x < 24
    · exact (agr_in w r hi h).mpr q0 x c
    · have := (one (x - 24) (by omega)).mpr ⟨by rw [q1], q2 _⟩
      rwa [show 24 + (x - 24) = x by omega] at this
theorem c_kor {C : Mem} {σ : Ab} {K : Nat → Nat} {t : Nat} (w : WF σ) (r : RC C σ) (ht : t < σ.nt) (hr : σ.rdy K t) (hK : ∀ o, (σ.de t).testBit o = true → K o ≤ 200) (h : ∀ k, k < 24 → C 442 k = nI (if (σ.inp t).testBit k then σ.co k + 1 else 0)) (h2 : ∀ o, o < 16 → C 442 (24 + o) = nI (if (σ.de t).testBit o then K o else 0)) : fX3_keyOfRow C (nI t) = some (nI (σ.gvn K t σ.nk)) := by
  have hn := w.nt
  have hnk := w.nk
  unfold fX3_keyOfRow
  rw [show (1 : Int32) = (fun i => nI (i + 1)) 0 from rfl]
  have e := lp_first (it := fX3_keyOfRow_2 C (nI t)) (fun i => nI (i + 1)) σ.nk (fun i => σ.mtc K t i) (oY := fun i => some (nI (i + 1))) (oN := some (nI 0)) (fun i hi hp => ?_) (fun i hi hp => ?_) ?_
  · rcases e with ⟨i, h1, h2, _, e⟩ | ⟨h1, e⟩
    · rw [e, gvn_i w h1 h2]
    · rw [e]
      rcases gvn_s σ K t σ.nk with ⟨j, j1, j2, j3⟩ | ⟨j1, j2⟩
      · exact absurd j2 (h1 j j1)
      · rw [j1]
  · unfold fX3_keyOfRow_2 fX3_keyOfRow_32
    have hw := w.wh i hi
    simp only [li_1, li_0, li_40]
    rw [r.nk, nI_clamp (by omega), r.wh i hi, c_agr (by omega) (by omega), bnd_s]
    by_cases c : σ.wh i = t
    · have c2 : ¬ ∀ x, x < 40 → C (238 + (i + 1)) x = C 442 x := fun q => hp ⟨c, (agr_al w r hi hr hK h h2).mp q⟩
      rw [cnd_f c2]
      simp (disch := omega) only [li_0, li_1, li_2, li_3, li_4, li_5, li_7, li_8, li_12, li_16, li_23, li_24, li_31, li_40, li_42, li_47, li_63, li_64, li_76, li_77, li_97, li_122, li_200, li_201, li_1000, li_1824, li_9999, li_16000, nI_add, nx_or, nx_and, pk_mul, nx_xor, nI_leI, nI_ltI, nI_eq, nI_clamp, vp_nI, px_sub, px_shl, px_shl2, px_shr2, px_bit, Bool.true_eq_false, Bool.false_eq_true, hol_0, hol_1, px_chr, chk, cnd_true, cnd_false, cnd_ite, bnd_s, nmv, exR, if_pos, if_neg, if_true, if_false, reduceIte, eq_self, not_true_eq_false, not_false_eq_true, c, show ¬ σ.nk < i + 1 by omega, show i + 1 < 201 by omega]
    · simp (disch := omega) only [li_0, li_1, li_2, li_3, li_4, li_5, li_7, li_8, li_12, li_16, li_23, li_24, li_31, li_40, li_42, li_47, li_63, li_64, li_76, li_77, li_97, li_122, li_200, li_201, li_1000, li_1824, li_9999, li_16000, nI_add, nx_or, nx_and, pk_mul, nx_xor, nI_leI, nI_ltI, nI_eq, nI_clamp, vp_nI, px_sub, px_shl, px_shl2, px_shr2, px_bit, Bool.true_eq_false, Bool.false_eq_true, hol_0, hol_1, px_chr, chk, cnd_true, cnd_false, cnd_ite, bnd_s, nmv, exR, if_pos, if_neg, if_true, if_false, reduceIte, eq_self, not_true_eq_false, not_false_eq_true, c, show ¬ σ.nk < i + 1 by omega, show i + 1 < 201 by omega]
  · unfold fX3_keyOfRow_2 fX3_keyOfRow_32
    have hw := w.wh i hi
    simp only [li_1, li_0, li_40]
    rw [r.nk, nI_clamp (by omega), r.wh i hi, c_agr (by omega) (by omega), bnd_s, cnd_t ((agr_al w r hi hr hK h h2).mpr hp.2), hp.1]
    simp (disch := omega) only [li_0, li_1, li_2, li_3, li_4, li_5, li_7, li_8, li_12, li_16, li_23, li_24, li_31, li_40, li_42, li_47, li_63, li_64, li_76, li_77, li_97, li_122, li_200, li_201, li_1000, li_1824, li_9999, li_16000, nI_add, nx_or, nx_and, pk_mul, nx_xor, nI_leI, nI_ltI, nI_eq, nI_clamp, vp_nI, px_sub, px_shl, px_shl2, px_shr2, px_bit, Bool.true_eq_false, Bool.false_eq_true, hol_0, hol_1, px_chr, chk, cnd_true, cnd_false, cnd_ite, bnd_s, nmv, exR, if_pos, if_neg, if_true, if_false, reduceIte, eq_self, not_true_eq_false, not_false_eq_true, show ¬ σ.nk < i + 1 by omega, show i + 1 < 201 by omega]
  · unfold fX3_keyOfRow_2
    rw [r.nk, cnd_t (nI_lt (by omega) (by omega))]
    rfl
/-- a target is looked up -/
theorem c_look {C : Mem} {σ : Ab} {K : Nat → Nat} {t : Nat} (w : WF σ) (r : RC C σ) (ht : t < σ.nt) (hK : ∀ o, (σ.de t).testBit o = true → C 440 o = nI (K o) ∧ K o ≤ 200) : ∃ C', fX3_lookUp C (nI t) = some C' ∧ RC C' σ ∧ C' 440 t = nI (σ.kn K t) ∧ (∀ k, k < 24 → C' 442 k = nI (if (σ.inp t).testBit k then σ.co k + 1 else 0)) ∧ (∀ o, o < 16 → C' 442 (24 + o) = nI (if (σ.de t).testBit o then K o else 0)) ∧ ∀ k j, k ≠ 442 → ¬ (k = 440 ∧ j = t) → C' k j = C k j := by
  have hn := w.nt
  obtain ⟨C1, e1, e2, e3, e4, e5⟩ := c_row w r ht
  have e4' : ∀ o, o < 16 → C1 442 (24 + o) = nI (if (σ.de t).testBit o then K o else 0) := by
    intro o ho
    rw [e4 o ho]
    by_cases c : (σ.de t).testBit o = true
    · rw [if_pos c, if_pos c, (hK o c).1]
    · rw [if_neg c, if_neg c]
  have hK1 : ∀ o, (σ.de t).testBit o = true → C1 440 o = nI (K o) ∧ K o ≤ 200 := fun o ho => ⟨by rw [e5 440 o (by omega)]; exact (hK o ho).1, (hK o ho).2⟩
  refine ⟨mset C1 440 t (nI (σ.kn K t)), ?_, RC_scr w e2 (by omega), mset_eq, fun k hk => ?_, fun o ho => ?_, fun k j h1 h2 => ?_⟩
  · unfold fX3_lookUp fX3_lookUp_27
    rw [e1, bnd_s, c_dhk w e2 ht hK1, bnd_s, nI_clamp (by omega)]
    by_cases c : σ.rdy K t
    · rw [cnd_t c, cnd10, c_kor w e2 ht c (fun o ho => (hK o ho).2) e3 e4', bnd_s, chk_t (by rw [vp_nI (by omega)]; omega)]
      unfold Ab.kn
      rw [cnd_t c]
    · rw [cnd_f c, cnd00, chk_t (by rw [vp_nI (by omega)]; omega)]
      unfold Ab.kn
      rw [cnd_f c]
      rfl
  · rw [mset_ne (by omega)]; exact e3 k hk
  · rw [mset_ne (by omega)]; exact e4' o ho
  · rw [mset_ne (by omega)]; exact e5 k j h1
/-! the keys of all targets, in their order -/
noncomputable def Ab.kp (σ : Ab) : Nat → Nat → Nat
  | 0 => fun _ => 0
  | p + 1 => fun t => if t = σ.ord p then σ.kn (Ab.kp σ p) t else Ab.kp σ p t
noncomputable def Ab.ky (σ : Ab) (t : Nat) : Nat := σ.kp σ.nt t
theorem inn_o (σ : Ab) (p t : Nat) : (σ.inn (p + 1)).testBit t = true ↔ (σ.inn p).testBit t = true ∨ t = σ.ord p := by
  rw [show σ.inn (p + 1) = σ.inn p ||| 2 ^ σ.ord p from rfl, Nat.testBit_or, Bool.or_eq_true, Nat.testBit_two_pow, decide_eq_true_iff]
  constructor <;> rintro (h | h)
  · exact Or.inl h
  · exact Or.inr h.symm
  · exact Or.inl h
  · exact Or.inr h.symm
theorem ord_s {σ : Ab} {p : Nat} (w : WF σ) (hp : p < σ.nt) : σ.ord p < σ.nt ∧ (σ.inn p).testBit (σ.ord p) = false ∧ ∀ o, (σ.de (σ.ord p)).testBit o = true → (σ.inn p).testBit o = true := by
  obtain ⟨i1, i2, i3⟩ := inn_s w p (by omega)
  obtain ⟨⟨n1, n2⟩, n3⟩ := nxt_s (i3 hp)
  exact ⟨n1, n2.1, fun o ho => fr_dep w n2 ho⟩
theorem inn_all {σ : Ab} {t : Nat} (w : WF σ) (ht : t < σ.nt) : (σ.inn σ.nt).testBit t = true := by
  obtain ⟨i1, i2, i3⟩ := inn_s w σ.nt (Nat.le_refl _)
  exact ct_all σ.nt i2 t ht
theorem inn_ex {σ : Ab} {t : Nat} : ∀ p, (σ.inn p).testBit t = true → ∃ q, q < p ∧ t = σ.ord q
  | 0, h => by
    rw [show σ.inn 0 = 0 from rfl, Nat.zero_testBit] at h
    cases h
  | p + 1, h => by
    rcases (inn_o σ p t).mp h with h | h
    · obtain ⟨q, h1, h2⟩ := inn_ex p h
      exact ⟨q, by omega, h2⟩
    · exact ⟨p, by omega, h⟩
theorem inn_mono {σ : Ab} {t p : Nat} (h : (σ.inn p).testBit t = true) : ∀ d, (σ.inn (p + d)).testBit t = true
  | 0 => h
  | d + 1 => (inn_o σ (p + d) t).mpr (Or.inl (inn_mono h d))
theorem kp_st {σ : Ab} {t p : Nat} (w : WF σ) (h : (σ.inn p).testBit t = true) : ∀ d, p + d ≤ σ.nt → σ.kp (p + d) t = σ.kp p t
  | 0, _ => rfl
  | d + 1, hd => by
    rw [← kp_st w h d (by omega)]
    have h1 := (ord_s w (p := p + d) (by omega)).2.1
    refine if_neg (fun e => ?_)
    have e : t = σ.ord (p + d) := e
    rw [← e, inn_mono h d] at h1
    cases h1
theorem kp_ky {σ : Ab} {t p : Nat} (w : WF σ) (hp : p ≤ σ.nt) (h : (σ.inn p).testBit t = true) : σ.kp p t = σ.ky t := by
  have := kp_st w h (σ.nt - p) (by omega)
  rw [show p + (σ.nt - p) = σ.nt by omega] at this
  exact this.symm
theorem ky_ord {σ : Ab} {p : Nat} (w : WF σ) (hp : p < σ.nt) : σ.ky (σ.ord p) = σ.kn σ.ky (σ.ord p) := by
  obtain ⟨o1, o2, o3⟩ := ord_s w hp
  rw [← kp_ky w (p := p + 1) (by omega) ((inn_o σ p _).mpr (Or.inr rfl))]
  show (if σ.ord p = σ.ord p then _ else _) = _
  rw [if_pos rfl]
  exact kn_cong (fun o ho => kp_ky w (by omega) (o3 o ho))
theorem ky_eq {σ : Ab} {t : Nat} (w : WF σ) (ht : t < σ.nt) : σ.ky t = σ.kn σ.ky t := by
  obtain ⟨q, h1, h2⟩ := inn_ex _ (inn_all w ht)
  rw [h2]
  exact ky_ord w h1
theorem ky_le {σ : Ab} {t : Nat} (w : WF σ) (ht : t < σ.nt) : σ.ky t ≤ σ.nk := by
  rw [ky_eq w ht]
  exact kn_le σ _ t
theorem c_all {C : Mem} {σ : Ab} (w : WF σ) (r : RC C σ) : ∃ C', fX3_lookUpAll C = some C' ∧ RC C' σ ∧ (∀ t, t < σ.nt → C' 440 t = nI (σ.ky t)) ∧ (∀ p, p < σ.nt → C' 59 p = nI (σ.ord p)) := by
  have hn := w.nt
  have hnk := w.nk
  obtain ⟨C0, c1, c2, c3, c4⟩ := c_ord w r
  have st : ∀ i, i ≤ σ.nt → ∃ C', lp fX3_lookUpAll_9 (C0, (0 : Int32)) = lp fX3_lookUpAll_9 (C', nI i) ∧ RC C' σ ∧ (∀ t, (σ.inn i).testBit t = true → C' 440 t = nI (σ.ky t)) ∧ ∀ p, p < σ.nt → C' 59 p = nI (σ.ord p) := by
    intro i
    induction i with
    | zero =>
      intro _
      refine ⟨C0, rfl, c2, fun t ht => ?_, c3⟩
      rw [show σ.inn 0 = 0 from rfl, Nat.zero_testBit] at ht
      cases ht
    | succ i ih =>
      intro hi
      obtain ⟨C', e1, e2, e3, e4⟩ := ih (by omega)
      obtain ⟨o1, o2, o3⟩ := ord_s w (p := i) (by omega)
      obtain ⟨C2, f1, f2, f3, _, _, f4⟩ := c_look (K := σ.ky) w e2 o1 (fun o ho => ⟨e3 o (o3 o ho), Nat.le_trans (ky_le w (bit_le (w.de _) ho)) hnk⟩)
      refine ⟨C2, ?_, f2, fun t ht => ?_, fun p hp => ?_⟩
      · rw [e1]
        refine lp_go ?_
        unfold fX3_lookUpAll_9 fX2_size fX2_atPlace
        simp only [li_1]
        rw [e2.nt, nI_clamp (by omega), e4 i (by omega)]
        simp (disch := omega) only [li_0, li_1, li_2, li_3, li_4, li_5, li_7, li_8, li_12, li_16, li_23, li_24, li_31, li_40, li_42, li_47, li_63, li_64, li_76, li_77, li_97, li_122, li_200, li_201, li_1000, li_1824, li_9999, li_16000, nI_add, nx_or, nx_and, pk_mul, nx_xor, nI_leI, nI_ltI, nI_eq, nI_clamp, vp_nI, px_sub, px_shl, px_shl2, px_shr2, px_bit, Bool.true_eq_false, Bool.false_eq_true, hol_0, hol_1, px_chr, chk, cnd_true, cnd_false, cnd_ite, bnd_s, nmv, exR, if_pos, if_neg, if_true, if_false, reduceIte, eq_self, not_true_eq_false, not_false_eq_true, show ¬ σ.nt ≤ i by omega, show i < 16 by omega, f1]
      · rcases (inn_o σ i t).mp ht with h | h
        · rw [f4 440 t (by omega) (by
            rintro ⟨_, e⟩
            rw [e, o2] at h
            cases h)]
          exact e3 t h
        · rw [h, f3, ← ky_ord w (by omega)]
      · rw [f4 59 p (by omega) (by omega)]
        exact e4 p hp
  obtain ⟨C', e1, e2, e3, e4⟩ := st σ.nt (Nat.le_refl _)
  refine ⟨C', ?_, e2, fun t ht => e3 t (inn_all w ht), e4⟩
  unfold fX3_lookUpAll
  rw [c1, bnd_s, e1]
  refine lp_exq ?_
  unfold fX3_lookUpAll_9 fX2_size
  show cnd (C' 55 4 ≤ nI σ.nt) (exR (some C')) _ = _
  rw [e2.nt, cnd_t (nI_le (Nat.le_refl _) (by omega))]
/-- the targets that need to run -/
noncomputable def Ab.nee (σ : Ab) : Nat := msk (fun t => decide (σ.ky t = 0)) σ.nt
theorem nee_lt (σ : Ab) : σ.nee < 2 ^ σ.nt := msk_lt _ _
theorem wok_nee {C : Mem} {σ : Ab} (w : WF σ) (h : ∀ t, t < σ.nt → C 440 t = nI (σ.ky t)) : wok C σ = σ.nee := by
  unfold wok Ab.nee
  refine msk_cong (fun t ht => ?_)
  have h1 := ky_le w ht
  have h2 := w.nk
  rw [h t ht]
  exact decide_eq_decide.mpr (nI_eq (by omega) (by omega))
