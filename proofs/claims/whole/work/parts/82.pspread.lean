/-! shards: targets spread over them -/
/-- the dearest target of a set, the lowest of several -/
def Ab.bs (σ : Ab) (L : Nat) : Nat → Nat
  | 0 => 4294967295
  | k + 1 => if L.testBit k = true ∧ (Ab.bs σ L k = 4294967295 ∨ σ.cs (Ab.bs σ L k) < σ.cs k) then k else Ab.bs σ L k
theorem bs_s (σ : Ab) (L : Nat) : ∀ n, n < 4294967295 → (σ.bs L n = 4294967295 ∧ ∀ k, k < n → L.testBit k = false) ∨ (σ.bs L n < n ∧ L.testBit (σ.bs L n) = true)
  | 0, _ => Or.inl ⟨rfl, fun k hk => by omega⟩
  | n + 1, hn => by
    unfold Ab.bs
    by_cases c : L.testBit n = true ∧ (σ.bs L n = 4294967295 ∨ σ.cs (σ.bs L n) < σ.cs n)
    · rw [if_pos c]
      exact Or.inr ⟨by omega, c.1⟩
    · rw [if_neg c]
      rcases bs_s σ L n (by omega) with ⟨h1, h2⟩ | ⟨h1, h2⟩
      · refine Or.inl ⟨h1, fun k hk => ?_⟩
        by_cases e : k = n
        · cases z : L.testBit n with
          | true => exact absurd ⟨z, Or.inl h1⟩ c
          | false => rw [e]; exact z
        · exact h2 k (by omega)
      · exact Or.inr ⟨by omega, h2⟩
theorem bs_in {σ : Ab} {L : Nat} (w : WF σ) (hL : L < 2 ^ σ.nt) (h0 : L ≠ 0) : σ.bs L σ.nt < σ.nt ∧ L.testBit (σ.bs L σ.nt) = true := by
  have hn := w.nt
  rcases bs_s σ L σ.nt (by omega) with ⟨h1, h2⟩ | h
  · exfalso
    apply h0
    apply Nat.eq_of_testBit_eq
    intro k
    rw [Nat.zero_testBit]
    by_cases c : k < σ.nt
    · exact h2 k c
    · exact bit_lt hL (by omega)
  · exact h
/-- the lightest shard, the lowest of several -/
def ls (ld : Nat → Nat) : Nat → Nat
  | 0 => 0
  | k + 1 => if ld k < ld (ls ld k) then k else ls ld k
theorem ls_lt (ld : Nat → Nat) : ∀ k, 0 < k → ls ld k < k
  | 0, h => by omega
  | k + 1, _ => by
    unfold ls
    by_cases c : ld k < ld (ls ld k)
    · rw [if_pos c]; omega
    · rw [if_neg c]
      by_cases e : k = 0
      · rw [e]; exact Nat.lt_succ_self 0
      · have := ls_lt ld k (by omega)
        omega
theorem ls_1 (ld : Nat → Nat) : ls ld 1 = 0 := by
  show (if ld 0 < ld 0 then 0 else 0) = 0
  rw [if_neg (by omega)]
def mx (ld : Nat → Nat) : Nat → Nat
  | 0 => 0
  | k + 1 => max (mx ld k) (ld k)
theorem mx_up {ld : Nat → Nat} {l v : Nat} (h : ld l ≤ v) : ∀ n, mx (fun x => if x = l then v else ld x) n = if l < n then max (mx ld n) v else mx ld n
  | 0 => by rw [if_neg (by omega)]; rfl
  | n + 1 => by
    show max (mx (fun x => if x = l then v else ld x) n) (if n = l then v else ld n) = _
    rw [mx_up h n, show mx ld (n + 1) = max (mx ld n) (ld n) from rfl]
    by_cases e : n = l
    · subst e
      rw [if_pos rfl, if_neg (by omega), if_pos (by omega)]
      omega
    · rw [if_neg e]
      by_cases c : l < n
      · rw [if_pos c, if_pos (by omega)]
        omega
      · rw [if_neg c, if_neg (by omega)]
/-- what is left, the loads and the places behind i targets -/
def Ab.sp (σ : Ab) (W n : Nat) : Nat → Nat × (Nat → Nat) × (Nat → Nat)
  | 0 => (W, fun _ => 0, fun _ => 4294967295)
  | i + 1 => ((Ab.sp σ W n i).1 &&& (2 ^ σ.bs (Ab.sp σ W n i).1 σ.nt ^^^ 4294967295), (fun x => if x = ls (Ab.sp σ W n i).2.1 n then (Ab.sp σ W n i).2.1 (ls (Ab.sp σ W n i).2.1 n) + σ.cs (σ.bs (Ab.sp σ W n i).1 σ.nt) else (Ab.sp σ W n i).2.1 x), (fun x => if x = σ.bs (Ab.sp σ W n i).1 σ.nt then ls (Ab.sp σ W n i).2.1 n else (Ab.sp σ W n i).2.2 x))
theorem sp_l {σ : Ab} {W n : Nat} (w : WF σ) (hW : W < 2 ^ σ.nt) : ∀ i, i ≤ cn W 24 → (σ.sp W n i).1 < 2 ^ σ.nt ∧ ct (fun k => (σ.sp W n i).1.testBit k) σ.nt + i = cn W 24 ∧ ∀ x, (σ.sp W n i).2.1 x ≤ 1000 * i
  | 0, _ => by
    refine ⟨hW, ?_, fun x => Nat.le_refl _⟩
    have hn := w.nt
    rw [cn_ct]
    have := ct_up (p := fun k => W.testBit k) (n := σ.nt) (fun k hk => bit_lt hW hk) (24 - σ.nt)
    rw [show σ.nt + (24 - σ.nt) = 24 by omega] at this
    exact this.symm
  | i + 1, hi => by
    have hn := w.nt
    obtain ⟨h1, h2, h3⟩ := sp_l w hW i (by omega)
    have h0 : (σ.sp W n i).1 ≠ 0 := by
      intro q
      rw [q, ct_no (fun k => Nat.zero_testBit k)] at h2
      omega
    obtain ⟨b1, b2⟩ := bs_in w h1 h0
    have e1 : (σ.sp W n (i + 1)).1 = (σ.sp W n i).1 &&& (2 ^ σ.bs (σ.sp W n i).1 σ.nt ^^^ 4294967295) := rfl
    have bit := fun k => del_bit (σ.sp W n i).1 (σ.bs (σ.sp W n i).1 σ.nt) k (lt24 h1 (by omega))
    have bb : (σ.sp W n (i + 1)).1.testBit (σ.bs (σ.sp W n i).1 σ.nt) = false := by
      rw [e1, bit]
      simp
    have bo : ∀ k, k ≠ σ.bs (σ.sp W n i).1 σ.nt → (σ.sp W n i).1.testBit k = (σ.sp W n (i + 1)).1.testBit k := by
      intro k hk
      rw [e1, bit]
      simp [Ne.symm hk]
    have cc := ct_add (p := fun k => (σ.sp W n (i + 1)).1.testBit k) (q := fun k => (σ.sp W n i).1.testBit k) (x := σ.bs (σ.sp W n i).1 σ.nt) bb b2 bo σ.nt
    rw [if_pos b1] at cc
    refine ⟨by rw [e1]; exact Nat.lt_of_le_of_lt Nat.and_le_left h1, ?_, fun x => ?_⟩
    · rw [← h2, cc]
      omega
    · show (if x = ls (σ.sp W n i).2.1 n then (σ.sp W n i).2.1 (ls (σ.sp W n i).2.1 n) + σ.cs (σ.bs (σ.sp W n i).1 σ.nt) else (σ.sp W n i).2.1 x) ≤ _
      have hc := w.cs _ b1
      by_cases c : x = ls (σ.sp W n i).2.1 n
      · rw [if_pos c]
        have := h3 (ls (σ.sp W n i).2.1 n)
        omega
      · rw [if_neg c]
        have := h3 x
        omega
theorem sp_ne {σ : Ab} {W n i : Nat} (w : WF σ) (hW : W < 2 ^ σ.nt) (hi : i < cn W 24) : (σ.sp W n i).1 ≠ 0 := by
  obtain ⟨h1, h2, h3⟩ := sp_l (n := n) w hW i (by omega)
  intro q
  rw [q, ct_no (fun k => Nat.zero_testBit k)] at h2
  omega
theorem sp_en {σ : Ab} {W n : Nat} (w : WF σ) (hW : W < 2 ^ σ.nt) : (σ.sp W n (cn W 24)).1 = 0 := by
  obtain ⟨h1, h2, h3⟩ := sp_l (n := n) w hW (cn W 24) (Nat.le_refl _)
  apply Classical.byContradiction
  intro q
  obtain ⟨b1, b2⟩ := bs_in w h1 q
  have := ct_st (p := fun _ => false) (q := fun k => (σ.sp W n (cn W 24)).1.testBit k) (fun k hk => by cases hk) (x := σ.bs (σ.sp W n (cn W 24)).1 σ.nt) rfl b2 σ.nt b1
  omega
theorem cn_16 {σ : Ab} {W : Nat} (w : WF σ) (hW : W < 2 ^ σ.nt) : cn W 24 ≤ 16 := by
  obtain ⟨h1, h2, h3⟩ := sp_l (n := 1) w hW 0 (by omega)
  have h4 := ct_le (fun k => (σ.sp W 1 0).1.testBit k) σ.nt
  have hn := w.nt
  omega
theorem c_fill {C : Mem} {p n : Nat} {a : Int32} (hp : ln p = n) (hn : n < 100) : ∃ C', fJ7_fill_53178 C p a = some C' ∧ (∀ j, j < n → C' p j = a) ∧ ∀ k j, k ≠ p → C' k j = C k j := by
  have st : ∀ i, i ≤ n → ∃ C', lp (fJ7_fill_53178_5 a p (nI n)) (C, (0 : Int32)) = lp (fJ7_fill_53178_5 a p (nI n)) (C', nI i) ∧ (∀ j, j < i → C' p j = a) ∧ ∀ k j, k ≠ p → C' k j = C k j := by
    intro i
    induction i with
    | zero => intro _; exact ⟨C, rfl, fun j hj => by omega, fun k j _ => rfl⟩
    | succ i ih =>
      intro hi
      obtain ⟨C', e1, e2, e3⟩ := ih (by omega)
      refine ⟨mset C' p i a, ?_, fun j hj => ?_, fun k j hk => ?_⟩
      · rw [e1]
        refine lp_go ?_
        unfold fJ7_fill_53178_5
        simp only [li_1]
        rw [hp, nI_clamp (by omega)]
        simp (disch := omega) only [li_0, li_1, li_2, li_3, li_4, li_5, li_7, li_8, li_12, li_16, li_23, li_24, li_31, li_40, li_42, li_47, li_63, li_64, li_76, li_77, li_97, li_122, li_200, li_201, li_1000, li_1824, li_9999, li_16000, nI_add, nx_or, nx_and, pk_mul, nx_xor, nI_leI, nI_ltI, nI_eq, nI_clamp, vp_nI, px_sub, px_shl, px_shl2, px_shr2, px_bit, Bool.true_eq_false, Bool.false_eq_true, hol_0, hol_1, px_chr, chk, cnd_true, cnd_false, cnd_ite, bnd_s, nmv, exR, if_pos, if_neg, if_true, if_false, reduceIte, eq_self, not_true_eq_false, not_false_eq_true, show ¬ n ≤ i by omega, show i < n by omega]
      · by_cases q : j = i
        · rw [q, mset_eq]
        · rw [mset_ne (by omega)]; exact e2 j (by omega)
      · rw [mset_ne (by omega)]; exact e3 k j hk
  obtain ⟨C', e1, e2, e3⟩ := st n (Nat.le_refl _)
  refine ⟨C', ?_, e2, e3⟩
  unfold fJ7_fill_53178
  simp only [nmv]
  rw [hp, e1]
  refine lp_exq ?_
  unfold fJ7_fill_53178_5
  rw [cnd_t (nI_le (Nat.le_refl _) (by omega))]
theorem c_dear {C : Mem} {σ : Ab} {L : Nat} (w : WF σ) (r : RC C σ) (hL : L < 2 ^ σ.nt) (h0 : L ≠ 0) : fX5_dearest C (nI L) = some (nI (σ.bs L σ.nt)) := by
  have hn := w.nt
  have hb := lt16 hL hn
  unfold fX5_dearest
  obtain ⟨b1, b2⟩ := bs_in w hL h0
  refine lp_for (fun i => (nI (if σ.bs L i = 4294967295 then 0 else σ.bs L i), nI (if σ.bs L i = 4294967295 then 0 else σ.cs (σ.bs L i)), nI i)) σ.nt (fun i hi => ?_) ?_
  · unfold fX5_dearest_8 fX5_dearest_48 fX2_size fX2_costOf
    have hc := w.cs i hi
    have hx := bs_s σ L i (by omega)
    have hcb : (if σ.bs L i = 4294967295 then 0 else σ.cs (σ.bs L i)) ≤ 1000 := by
      rcases hx with ⟨x1, x2⟩ | ⟨x1, x2⟩
      · rw [if_pos x1]; omega
      · rw [if_neg (by omega)]
        have := w.cs (σ.bs L i) (by omega)
        omega
    simp only [li_0, li_1]
    rw [r.nt, nI_clamp (by omega), r.cs i hi, show σ.bs L (i + 1) = if L.testBit i = true ∧ (σ.bs L i = 4294967295 ∨ σ.cs (σ.bs L i) < σ.cs i) then i else σ.bs L i from rfl]
    by_cases c1 : L.testBit i = true
    · by_cases c2 : σ.bs L i = 4294967295 ∨ σ.cs (σ.bs L i) < σ.cs i
      · have c3 : ¬ σ.cs i ≤ (if σ.bs L i = 4294967295 then 0 else σ.cs (σ.bs L i)) := by
          rcases c2 with c2 | c2
          · rw [if_pos c2]; omega
          · by_cases e : σ.bs L i = 4294967295
            · rw [if_pos e]; omega
            · rw [if_neg e]; omega
        rw [if_pos (show L.testBit i = true ∧ (σ.bs L i = 4294967295 ∨ σ.cs (σ.bs L i) < σ.cs i) from ⟨c1, c2⟩), if_neg (show ¬ i = 4294967295 by omega), if_neg (show ¬ i = 4294967295 by omega)]
        generalize (if σ.bs L i = 4294967295 then 0 else σ.cs (σ.bs L i)) = z at hcb c3 ⊢
        simp (disch := omega) only [li_0, li_1, li_2, li_3, li_4, li_5, li_7, li_8, li_12, li_16, li_23, li_24, li_31, li_40, li_42, li_47, li_63, li_64, li_76, li_77, li_97, li_122, li_200, li_201, li_1000, li_1824, li_9999, li_16000, nI_add, nx_or, nx_and, pk_mul, nx_xor, nI_leI, nI_ltI, nI_eq, nI_clamp, vp_nI, px_sub, px_shl, px_shl2, px_shr2, px_bit, Bool.true_eq_false, Bool.false_eq_true, hol_0, hol_1, px_chr, chk, cnd_true, cnd_false, cnd_ite, bnd_s, nmv, exR, if_pos, if_neg, if_true, if_false, reduceIte, eq_self, not_true_eq_false, not_false_eq_true, c1, c3, show ¬ σ.nt ≤ i by omega, show i < 16 by omega]
      · have c3 : σ.cs i ≤ (if σ.bs L i = 4294967295 then 0 else σ.cs (σ.bs L i)) := by
          by_cases e : σ.bs L i = 4294967295
          · exact absurd (Or.inl e) c2
          · rw [if_neg e]
            have : ¬ σ.cs (σ.bs L i) < σ.cs i := fun q => c2 (Or.inr q)
            omega
        rw [if_neg (show ¬ (L.testBit i = true ∧ (σ.bs L i = 4294967295 ∨ σ.cs (σ.bs L i) < σ.cs i)) from fun q => c2 q.2)]
        generalize (if σ.bs L i = 4294967295 then 0 else σ.cs (σ.bs L i)) = z at hcb c3 ⊢
        simp (disch := omega) only [li_0, li_1, li_2, li_3, li_4, li_5, li_7, li_8, li_12, li_16, li_23, li_24, li_31, li_40, li_42, li_47, li_63, li_64, li_76, li_77, li_97, li_122, li_200, li_201, li_1000, li_1824, li_9999, li_16000, nI_add, nx_or, nx_and, pk_mul, nx_xor, nI_leI, nI_ltI, nI_eq, nI_clamp, vp_nI, px_sub, px_shl, px_shl2, px_shr2, px_bit, Bool.true_eq_false, Bool.false_eq_true, hol_0, hol_1, px_chr, chk, cnd_true, cnd_false, cnd_ite, bnd_s, nmv, exR, if_pos, if_neg, if_true, if_false, reduceIte, eq_self, not_true_eq_false, not_false_eq_true, c1, c3, show ¬ σ.nt ≤ i by omega, show i < 16 by omega]
    · rw [if_neg (show ¬ (L.testBit i = true ∧ (σ.bs L i = 4294967295 ∨ σ.cs (σ.bs L i) < σ.cs i)) from fun q => c1 q.1)]
      simp (disch := omega) only [li_0, li_1, li_2, li_3, li_4, li_5, li_7, li_8, li_12, li_16, li_23, li_24, li_31, li_40, li_42, li_47, li_63, li_64, li_76, li_77, li_97, li_122, li_200, li_201, li_1000, li_1824, li_9999, li_16000, nI_add, nx_or, nx_and, pk_mul, nx_xor, nI_leI, nI_ltI, nI_eq, nI_clamp, vp_nI, px_sub, px_shl, px_shl2, px_shr2, px_bit, Bool.true_eq_false, Bool.false_eq_true, hol_0, hol_1, px_chr, chk, cnd_true, cnd_false, cnd_ite, bnd_s, nmv, exR, if_pos, if_neg, if_true, if_false, reduceIte, eq_self, not_true_eq_false, not_false_eq_true, c1, show ¬ σ.nt ≤ i by omega, show i < 16 by omega]
  · unfold fX5_dearest_8 fX2_size
    rw [r.nt, cnd_t (nI_le (Nat.le_refl _) (by omega))]
    show exR (some (nI (if σ.bs L σ.nt = 4294967295 then 0 else σ.bs L σ.nt))) = _
    rw [if_neg (by omega)]
theorem c_ligh {C : Mem} {ld : Nat → Nat} {n : Nat} (h1 : 1 ≤ n) (h8 : n ≤ 8) (hl : ∀ k, k < 8 → C 444 k = nI (ld k)) (hb : ∀ k, ld k ≤ 16000) : fX5_lightest C (nI n) = some (nI (ls ld n)) := by
  unfold fX5_lightest
  rw [show ((0 : Int32), (1 : Int32)) = (fun i => (nI (ls ld (i + 1)), nI (i + 1))) 0 by
    show _ = (nI (ls ld 1), nI 1)
    rw [ls_1]; rfl]
  refine lp_for (fun i => (nI (ls ld (i + 1)), nI (i + 1))) (n - 1) (fun i hi => ?_) ?_
  · unfold fX5_lightest_4 fX5_lightest_26
    have hlt := ls_lt ld (i + 1) (by omega)
    have b1 := hb (i + 1)
    have b2 := hb (ls ld (i + 1))
    simp only [li_1]
    rw [nI_clamp (by omega), nI_clamp (by omega), hl _ (by omega), hl _ (by omega), show ls ld (i + 1 + 1) = if ld (i + 1) < ld (ls ld (i + 1)) then i + 1 else ls ld (i + 1) from rfl]
    by_cases c : ld (i + 1) < ld (ls ld (i + 1))
    · rw [if_pos c]
      simp (disch := omega) only [li_0, li_1, li_2, li_3, li_4, li_5, li_7, li_8, li_12, li_16, li_23, li_24, li_31, li_40, li_42, li_47, li_63, li_64, li_76, li_77, li_97, li_122, li_200, li_201, li_1000, li_1824, li_9999, li_16000, nI_add, nx_or, nx_and, pk_mul, nx_xor, nI_leI, nI_ltI, nI_eq, nI_clamp, vp_nI, px_sub, px_shl, px_shl2, px_shr2, px_bit, Bool.true_eq_false, Bool.false_eq_true, hol_0, hol_1, px_chr, chk, cnd_true, cnd_false, cnd_ite, bnd_s, nmv, exR, if_pos, if_neg, if_true, if_false, reduceIte, eq_self, not_true_eq_false, not_false_eq_true, show ¬ n ≤ i + 1 by omega, show i + 1 < 8 by omega, show ls ld (i + 1) < 8 by omega, show ¬ ld (ls ld (i + 1)) ≤ ld (i + 1) by omega]
    · rw [if_neg c]
      simp (disch := omega) only [li_0, li_1, li_2, li_3, li_4, li_5, li_7, li_8, li_12, li_16, li_23, li_24, li_31, li_40, li_42, li_47, li_63, li_64, li_76, li_77, li_97, li_122, li_200, li_201, li_1000, li_1824, li_9999, li_16000, nI_add, nx_or, nx_and, pk_mul, nx_xor, nI_leI, nI_ltI, nI_eq, nI_clamp, vp_nI, px_sub, px_shl, px_shl2, px_shr2, px_bit, Bool.true_eq_false, Bool.false_eq_true, hol_0, hol_1, px_chr, chk, cnd_true, cnd_false, cnd_ite, bnd_s, nmv, exR, if_pos, if_neg, if_true, if_false, reduceIte, eq_self, not_true_eq_false, not_false_eq_true, show ¬ n ≤ i + 1 by omega, show i + 1 < 8 by omega, show ls ld (i + 1) < 8 by omega, show ld (ls ld (i + 1)) ≤ ld (i + 1) by omega]
  · unfold fX5_lightest_4
    show cnd (nI n ≤ nI (n - 1 + 1)) (exR (some (nI (ls ld (n - 1 + 1))))) _ = _
    rw [show n - 1 + 1 = n by omega, cnd_t (nI_le (Nat.le_refl _) (by omega))]
theorem ln_444 : ln 444 = 8 := by decide +kernel
theorem ln_445 : ln 445 = 16 := by decide +kernel
theorem c_over {C : Mem} {σ : Ab} {W n : Nat} (w : WF σ) (r : RC C σ) (hW : W < 2 ^ σ.nt) (h1 : 1 ≤ n) (h8 : n ≤ 8) : ∃ C', fX5_over C (nI W) (nI n) = some C' ∧ RC C' σ ∧ (∀ k, k < 8 → C' 444 k = nI ((σ.sp W n (cn W 24)).2.1 k)) ∧ (∀ t, t < 16 → C' 445 t = nI ((σ.sp W n (cn W 24)).2.2 t)) ∧ ∀ k j, k ≠ 444 → k ≠ 445 → C' k j = C k j := by
  have hn := w.nt
  have hb := lt16 hW hn
  have hc16 := cn_16 w hW
  obtain ⟨C1, a1, a2, a3⟩ := c_fill (C := C) (a := (0 : Int32)) ln_444 (by decide)
  obtain ⟨C2, b1, b2, b3⟩ := c_fill (C := C1) (a := (-1 : Int32)) ln_445 (by decide)
  have fr0 : ∀ k j, k ≠ 444 → k ≠ 445 → C2 k j = C k j := fun k j k1 k2 => by rw [b3 k j k2, a3 k j k1]
  have r0 : RC C2 σ := by
    have hnf := w.nf
    have hnk := w.nk
    have hnr := w.nr
    have px : ∀ k, k < σ.nf → TV C2 (7 + 2 * k) (σ.pn k) (σ.pf k) := by
      intro k hk
      simp (disch := omega) only [TV, fr0]
      exact r.px k hk
    have gc : ∀ i, i < 16 → C2 (60 + 11 * i) 3 = nI (σ.gc i) := by
      intro i hi
      rw [fr0 _ _ (by omega) (by omega)]
      exact r.gc i hi
    have gm : ∀ i, i < 16 → C2 (60 + 11 * i) 2 = nI 4 := by
      intro i hi
      rw [fr0 _ _ (by omega) (by omega)]
      exact r.gm i hi
    have gv : ∀ t' k, t' < σ.nt → k < σ.gc t' → C2 (60 + 11 * t' + 2) k = nI (σ.cv (4 * t' + k)) := by
      intro t' k ht hk
      rw [fr0 _ _ (by omega) (by omega)]
      exact r.gv t' k ht hk
    have gx : ∀ t' k, t' < σ.nt → k < σ.gc t' → TV C2 (60 + 11 * t' + 3 + 2 * k) (σ.gn (4 * t' + k)) (σ.gf (4 * t' + k)) := by
      intro t' k ht hk
      have := w.gc t'
      simp (disch := omega) only [TV, fr0]
      exact r.gx t' k ht hk
    have rf : ∀ i k, i < σ.nk → k < 24 → C2 (238 + (i + 1)) k = nI (if (σ.hd i).testBit k then σ.kc i k + 1 else 0) := by
      intro i k hi hk
      rw [fr0 _ _ (by omega) (by omega)]
      exact r.rf i k hi hk
    have rt : ∀ i o, i < σ.nk → o < 16 → C2 (238 + (i + 1)) (24 + o) = nI (if (σ.le i).testBit o then σ.kb i o else 0) := by
      intro i o hi ho
      rw [fr0 _ _ (by omega) (by omega)]
      exact r.rt i o hi ho
    have rx : ∀ k, k < σ.nr → TV C2 (450 + 2 * k) (σ.gn (64 + k)) (σ.gf (64 + k)) := by
      intro k hk
      simp (disch := omega) only [TV, fr0]
      exact r.rx k hk
    exact (RC.mk (by intros; (try simp (disch := omega) only [TV, mset_ne, fr0]); first | exact r.tx | (apply r.tx <;> assumption)) (by intros; (try simp (disch := omega) only [TV, mset_ne, fr0]); first | exact r.nf | (apply r.nf <;> assumption)) (by intros; (try simp (disch := omega) only [TV, mset_ne, fr0]); first | exact r.th | (apply r.th <;> assumption)) (by intros; (try simp (disch := omega) only [TV, mset_ne, fr0]); first | exact r.mt | (apply r.mt <;> assumption)) (by intros; (try simp (disch := omega) only [TV, mset_ne, fr0]); first | exact r.co | (apply r.co <;> assumption)) (by intros; (try simp (disch := omega) only [TV, mset_ne, fr0]); first | exact r.mc | (apply r.mc <;> assumption)) px (by intros; (try simp (disch := omega) only [TV, mset_ne, fr0]); first | exact r.nt | (apply r.nt <;> assumption)) (by intros; (try simp (disch := omega) only [TV, mset_ne, fr0]); first | exact r.cs | (apply r.cs <;> assumption)) (by intros; (try simp (disch := omega) only [TV, mset_ne, fr0]); first | exact r.de | (apply r.de <;> assumption)) gc gm gv gx (by intros; (try simp (disch := omega) only [TV, mset_ne, fr0]); first | exact r.nk | (apply r.nk <;> assumption)) (by intros; (try simp (disch := omega) only [TV, mset_ne, fr0]); first | exact r.wh | (apply r.wh <;> assumption)) rf rt (by intros; (try simp (disch := omega) only [TV, mset_ne, fr0]); first | exact r.la | (apply r.la <;> assumption)) (by intros; (try simp (disch := omega) only [TV, mset_ne, fr0]); first | exact r.nr | (apply r.nr <;> assumption)) (by intros; (try simp (disch := omega) only [TV, mset_ne, fr0]); first | exact r.nm | (apply r.nm <;> assumption)) (by intros; (try simp (disch := omega) only [TV, mset_ne, fr0]); first | exact r.rv | (apply r.rv <;> assumption)) rx (by intros; (try simp (disch := omega) only [TV, mset_ne, fr0]); first | exact r.ow | (apply r.ow <;> assumption)))
  have st : ∀ i, i ≤ cn W 24 → ∃ C', lp (fX5_over_25 (nI n)) (C2, nI W, nI (cn W 24)) = lp (fX5_over_25 (nI n)) (C', nI (σ.sp W n i).1, nI (cn W 24 - i)) ∧ RC C' σ ∧ (∀ k, k < 8 → C' 444 k = nI ((σ.sp W n i).2.1 k)) ∧ (∀ t, t < 16 → C' 445 t = nI ((σ.sp W n i).2.2 t)) ∧ ∀ k j, k ≠ 444 → k ≠ 445 → C' k j = C2 k j := by
    intro i
    induction i with
    | zero =>
      intro _
      refine ⟨C2, rfl, r0, fun k hk => ?_, fun t ht => ?_, fun k j _ _ => rfl⟩
      · rw [b3 444 k (by omega), a2 k hk]; rfl
      · rw [b2 t ht]; exact li_m1
    | succ i ih =>
      intro hi
      obtain ⟨C', e1, e2, e3, e4, e5⟩ := ih (by omega)
      obtain ⟨s1, s2, s3⟩ := sp_l (n := n) w hW i (by omega)
      have s0 := sp_ne (n := n) w hW (i := i) (by omega)
      obtain ⟨q1, q2⟩ := bs_in w s1 s0
      have q3 := ls_lt (σ.sp W n i).2.1 n (by omega)
      have q4 := w.cs _ q1
      have q5 := s3 (ls (σ.sp W n i).2.1 n)
      have q6 := lt16 s1 hn
      refine ⟨mset (mset C' 445 (σ.bs (σ.sp W n i).1 σ.nt) (nI (ls (σ.sp W n i).2.1 n))) 444 (ls (σ.sp W n i).2.1 n) (nI ((σ.sp W n i).2.1 (ls (σ.sp W n i).2.1 n) + σ.cs (σ.bs (σ.sp W n i).1 σ.nt))), ?_, RC_scr w (RC_scr w e2 (by omega)) (by omega), fun k hk => ?_, fun t ht => ?_, fun k j k1 k2 => ?_⟩
      · rw [e1]
        refine lp_go ?_
        unfold fX5_over_25 fX2_costOf
        simp only []
        rw [c_dear w e2 s1 s0, bnd_s, c_ligh h1 h8 e3 (fun k => by have := s3 k; omega), bnd_s, nI_clamp (by omega), nI_clamp (by omega)]
        have g1 : mset C' 445 (σ.bs (σ.sp W n i).1 σ.nt) (nI (ls (σ.sp W n i).2.1 n)) 56 (σ.bs (σ.sp W n i).1 σ.nt) = nI (σ.cs (σ.bs (σ.sp W n i).1 σ.nt)) := by rw [mset_ne (by omega)]; exact e2.cs _ q1
        have g2 : mset C' 445 (σ.bs (σ.sp W n i).1 σ.nt) (nI (ls (σ.sp W n i).2.1 n)) 444 (ls (σ.sp W n i).2.1 n) = nI ((σ.sp W n i).2.1 (ls (σ.sp W n i).2.1 n)) := by rw [mset_ne (by omega)]; exact e3 _ (by omega)
        rw [g1, g2]
        have g3 : nI (cn W 24 - i) + (-1 : Int32) = nI (cn W 24 - (i + 1)) := by
          rw [← Int32.sub_eq_add_neg, show (1 : Int32) = nI 1 from rfl, px_sub (by omega)]
          congr 1
        rw [g3]
        have g4 : (1 : Int32) <<< (nI (σ.bs (σ.sp W n i).1 σ.nt) &&& 31) ^^^ (-1 : Int32) = nI (2 ^ σ.bs (σ.sp W n i).1 σ.nt ^^^ 4294967295) := by
          rw [li_m1]
          simp only [li_1, li_31]
          rw [px_shl (by omega), Nat.one_mul, nx_xor]
        rw [g4, nx_and]
        simp (disch := omega) only [li_0, li_1, li_2, li_3, li_4, li_5, li_7, li_8, li_12, li_16, li_23, li_24, li_31, li_40, li_42, li_47, li_63, li_64, li_76, li_77, li_97, li_122, li_200, li_201, li_1000, li_1824, li_9999, li_16000, nI_add, nx_or, nx_and, pk_mul, nx_xor, nI_leI, nI_ltI, nI_eq, nI_clamp, vp_nI, px_sub, px_shl, px_shl2, px_shr2, px_bit, Bool.true_eq_false, Bool.false_eq_true, hol_0, hol_1, px_chr, chk, cnd_true, cnd_false, cnd_ite, bnd_s, nmv, exR, if_pos, if_neg, if_true, if_false, reduceIte, eq_self, not_true_eq_false, not_false_eq_true, show ¬ cn W 24 - i ≤ 0 by omega, show σ.bs (σ.sp W n i).1 σ.nt < 16 by omega, show ls (σ.sp W n i).2.1 n < 8 by omega]
        rfl
      · show _ = nI (if k = ls (σ.sp W n i).2.1 n then _ else _)
        by_cases q : k = ls (σ.sp W n i).2.1 n
        · rw [q, mset_eq, if_pos rfl]
        · rw [if_neg q, mset_ne (by omega), mset_ne (by omega)]; exact e3 k hk
      · show _ = nI (if t = σ.bs (σ.sp W n i).1 σ.nt then _ else _)
        by_cases q : t = σ.bs (σ.sp W n i).1 σ.nt
        · rw [q, mset_ne (by omega), mset_eq, if_pos rfl]
        · rw [if_neg q, mset_ne (by omega), mset_ne (by omega)]; exact e4 t ht
      · rw [mset_ne (by omega), mset_ne (by omega)]; exact e5 k j k1 k2
  obtain ⟨C', e1, e2, e3, e4, e5⟩ := st (cn W 24) (Nat.le_refl _)
  refine ⟨C', ?_, e2, e3, e4, fun k j k1 k2 => by rw [e5 k j k1 k2, fr0 k j k1 k2]⟩
  unfold fX5_over
  rw [a1, bnd_s, b1, bnd_s]
  simp only [nmv]
  rw [bc_s (by omega), e1]
  refine lp_exq ?_
  unfold fX5_over_25
  rw [cnd_t (show nI (cn W 24 - cn W 24) ≤ 0 by rw [Nat.sub_self]; decide)]
theorem c_grea {C : Mem} {ld : Nat → Nat} (hl : ∀ k, k < 8 → C 444 k = nI (ld k)) (hb : ∀ k, ld k ≤ 16000) : fX5_greatestLoad C = some (nI (mx ld 8)) := by
  have hm : ∀ k, mx ld k ≤ 16000 := by
    intro k
    induction k with
    | zero => exact Nat.zero_le _
    | succ k ih =>
      have := hb k
      show max (mx ld k) (ld k) ≤ 16000
      omega
  unfold fX5_greatestLoad
  refine lp_for (fun i => (nI (mx ld i), nI i)) 8 (fun i hi => ?_) ?_
  · unfold fX5_greatestLoad_4
    have b1 := hb i
    have b2 := hm i
    simp only [li_8, li_1, nmv]
    rw [nI_clamp (by omega), hl i hi, cnd_f (nI_ge (by omega) (by omega)), chk_t (by rw [vp_nI (by omega)]; omega), nI_add, show mx ld (i + 1) = max (mx ld i) (ld i) from rfl]
    by_cases c : mx ld i < ld i
    · rw [if_pos (nI_lt c (by omega)), show max (mx ld i) (ld i) = ld i by omega]
    · rw [if_neg (by rw [nI_ltI (by omega) (by omega)]; exact c), show max (mx ld i) (ld i) = mx ld i by omega]
  · unfold fX5_greatestLoad_4
    rw [cnd_t (show (8 : Int32) ≤ nI 8 by decide)]
