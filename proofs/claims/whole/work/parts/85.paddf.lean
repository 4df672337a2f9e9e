variable {ou : Int32}
/-! addFile: a new path -/
def Ab.new (σ : Ab) (v : Nat) : Ab := ((((σ.up 1 (fun _ _ => σ.nf + 1)).up 2 (fun _ _ => σ.th ||| 2 ^ σ.nf)).up 8 (fun i _ => if i = σ.nf then σ.tn else σ.pn i)).up 9 (fun i _ => if i = σ.nf then v else σ.co i)).up 20 (fun i j => if i = σ.nf then σ.tf j else σ.pf i j)
theorem new_o {σ : Ab} {v i : Nat} (h : i < σ.nf) : (σ.new v).pn i = σ.pn i ∧ (σ.new v).pf i = σ.pf i := ⟨if_neg (show ¬ i = σ.nf by omega), funext fun j => if_neg (show ¬ i = σ.nf by omega)⟩
theorem new_n (σ : Ab) (v : Nat) : (σ.new v).pn σ.nf = σ.tn ∧ (σ.new v).pf σ.nf = σ.tf := ⟨if_pos rfl, funext fun j => if_pos rfl⟩
theorem new_cv (σ : Ab) (v q : Nat) : (σ.new v).cv q = σ.cv q ||| (if mat σ.tn σ.tf (σ.gn q) (σ.gf q) then 2 ^ σ.nf else 0) := by
  show msk (fun k => mat ((σ.new v).pn k) ((σ.new v).pf k) (σ.gn q) (σ.gf q)) (σ.nf + 1) = _
  rw [msk, msk_cong (q := fun k => mat (σ.pn k) (σ.pf k) (σ.gn q) (σ.gf q)) (fun k hk => by rw [(new_o hk).1, (new_o hk).2])]
  show _ ||| (if mat ((σ.new v).pn σ.nf) ((σ.new v).pf σ.nf) (σ.gn q) (σ.gf q) = true then _ else _) = _
  rw [(new_n σ v).1, (new_n σ v).2]
  rfl
theorem WF_new {σ : Ab} {v : Nat} (w : WF σ) (h : σ.nf < 24) (hv : v ≤ 9999) (hp : isP σ.tn σ.tf) (hd : ∀ k, k < σ.nf → ¬ σ.sm k) : WF (σ.new v) := by
  have a1 : σ.nf + 1 ≤ 24 := by omega
  have a2 : ∀ k, k < σ.nf + 1 → TX ((σ.new v).pn k) ((σ.new v).pf k) ∧ isP ((σ.new v).pn k) ((σ.new v).pf k) := by
    intro k hk
    rcases nk_cs hk with q | q
    · rw [(new_o q).1, (new_o q).2]; exact w.px k q
    · rw [q, (new_n σ v).1, (new_n σ v).2]; exact ⟨w.tx, hp⟩
  have a3 : ∀ i j, i < j → j < σ.nf + 1 → ¬ ((σ.new v).pn i = (σ.new v).pn j ∧ ∀ x, x < (σ.new v).pn j → (σ.new v).pf i x = (σ.new v).pf j x) := by
    intro i j hij hj
    have hi : i < σ.nf := by omega
    rw [(new_o hi).1, (new_o hi).2]
    rcases nk_cs hj with q | q
    · rw [(new_o q).1, (new_o q).2]; exact w.pd i j hij q
    · rw [q, (new_n σ v).1, (new_n σ v).2]
      exact hd i hi
  have a4 : σ.th ||| 2 ^ σ.nf < 2 ^ (σ.nf + 1) := or_lt (p2_s w.th) (p2_lt (by omega))
  have a5 : σ.mt < 2 ^ (σ.nf + 1) := p2_s w.mt
  have a6 : ∀ k, k < σ.nf + 1 → (if k = σ.nf then v else σ.co k) ≤ 9999 := by
    intro k hk
    by_cases e : k = σ.nf
    · rw [if_pos e]; exact hv
    · rw [if_neg e]; exact w.co k (by omega)
  have a7 : ∀ i, i < σ.nk → σ.hd i < 2 ^ (σ.nf + 1) := fun i hi => p2_s (w.hd i hi)
  exact (WF.mk w.tx a1 a2 a3 a4 a5 a6 w.mc w.nt w.cs w.gc w.g0 w.gx w.de w.d0 w.ac w.la w.l0 w.nr w.ow w.nk w.wh a7 w.le w.kc w.kb w.ku)
theorem RC_new {C C' : Mem} {σ : Ab} {v : Nat} (w : WF σ) (r : RC C σ) (h : σ.nf < 24) (h1 : C' 3 3 = nI (σ.nf + 1)) (h2 : C' 3 4 = nI (σ.th ||| 2 ^ σ.nf)) (h3 : C' 3 5 = nI σ.mt) (h4 : C' 5 σ.nf = nI v) (h5 : ∀ k, k < σ.nf → C' 5 k = C 5 k) (h6 : TV C' (7 + 2 * σ.nf) σ.tn σ.tf) (h7 : ∀ t k, t < σ.nt → k < σ.gc t → C' (60 + 11 * t + 2) k = nI ((σ.new v).cv (4 * t + k))) (h8 : ∀ k, k < σ.nr → C' 449 k = nI ((σ.new v).cv (64 + k))) (e4 : ∀ k j, k ≠ 3 → k ≠ 5 → k ≠ 7 + 2 * σ.nf → k ≠ 7 + 2 * σ.nf + 1 → k ≠ 449 → ¬ (60 ≤ k ∧ k < 236 ∧ (k - 60) % 11 = 2) → C' k j = C k j) : RC C' (σ.new v) := by
  have hnt := w.nt
  have hnr := w.nr
  have hnk := w.nk
  have co : ∀ k, k < σ.nf + 1 → C' 5 k = nI (if k = σ.nf then v else σ.co k) := by
    intro k hk
    by_cases e : k = σ.nf
    · rw [if_pos e, e]; exact h4
    · rw [if_neg e, h5 k (by omega)]; exact r.co k (by omega)
  have px : ∀ k, k < σ.nf + 1 → TV C' (7 + 2 * k) ((σ.new v).pn k) ((σ.new v).pf k) := by
    intro k hk
    rcases nk_cs hk with q | q
    · rw [(new_o q).1, (new_o q).2]
      simp (disch := omega) only [TV, e4]
      exact r.px k q
    · rw [q, (new_n σ v).1, (new_n σ v).2]
      exact h6
  have gc : ∀ i, i < 16 → C' (60 + 11 * i) 3 = nI (σ.gc i) := by
    intro i hi
    rw [e4 _ _ (by omega) (by omega) (by omega) (by omega) (by omega) (by omega)]
    exact r.gc i hi
  have gm : ∀ i, i < 16 → C' (60 + 11 * i) 2 = nI 4 := by
    intro i hi
    rw [e4 _ _ (by omega) (by omega) (by omega) (by omega) (by omega) (by omega)]
    exact r.gm i hi
  have gx : ∀ t' k, t' < σ.nt → k < σ.gc t' → TV C' (60 + 11 * t' + 3 + 2 * k) (σ.gn (4 * t' + k)) (σ.gf (4 * t' + k)) := by
    intro t' k ht hk
    have := w.gc t'
    simp (disch := omega) only [TV, e4]
    exact r.gx t' k ht hk
  have rf : ∀ i k, i < σ.nk → k < 24 → C' (238 + (i + 1)) k = nI (if (σ.hd i).testBit k then σ.kc i k + 1 else 0) := by
    intro i k hi hk
    rw [e4 _ _ (by omega) (by omega) (by omega) (by omega) (by omega) (by omega)]
    exact r.rf i k hi hk
  have rt : ∀ i o, i < σ.nk → o < 16 → C' (238 + (i + 1)) (24 + o) = nI (if (σ.le i).testBit o then σ.kb i o else 0) := by
    intro i o hi ho
    rw [e4 _ _ (by omega) (by omega) (by omega) (by omega) (by omega) (by omega)]
    exact r.rt i o hi ho
  have rx : ∀ k, k < σ.nr → TV C' (450 + 2 * k) (σ.gn (64 + k)) (σ.gf (64 + k)) := by
    intro k hk
    simp (disch := omega) only [TV, e4]
    exact r.rx k hk
  exact (RC.mk (by intros; (try simp (disch := omega) only [TV, mset_ne, e4]); first | exact r.tx | (apply r.tx <;> assumption)) h1 h2 h3 co (by intros; (try simp (disch := omega) only [TV, mset_ne, e4]); first | exact r.mc | (apply r.mc <;> assumption)) px (by intros; (try simp (disch := omega) only [TV, mset_ne, e4]); first | exact r.nt | (apply r.nt <;> assumption)) (by intros; (try simp (disch := omega) only [TV, mset_ne, e4]); first | exact r.cs | (apply r.cs <;> assumption)) (by intros; (try simp (disch := omega) only [TV, mset_ne, e4]); first | exact r.de | (apply r.de <;> assumption)) gc gm h7 gx (by intros; (try simp (disch := omega) only [TV, mset_ne, e4]); first | exact r.nk | (apply r.nk <;> assumption)) (by intros; (try simp (disch := omega) only [TV, mset_ne, e4]); first | exact r.wh | (apply r.wh <;> assumption)) rf rt (by intros; (try simp (disch := omega) only [TV, mset_ne, e4]); first | exact r.la | (apply r.la <;> assumption)) (by intros; (try simp (disch := omega) only [TV, mset_ne, e4]); first | exact r.nr | (apply r.nr <;> assumption)) (by intros; (try simp (disch := omega) only [TV, mset_ne, e4]); first | exact r.nm | (apply r.nm <;> assumption)) h8 rx (by intros; (try simp (disch := omega) only [TV, mset_ne, e4]); first | exact r.ow | (apply r.ow <;> assumption)))
theorem RM_new {M M' : Mem} {σ : Ab} {v : Nat} (w : WF σ) (s : RM ou M σ) (h : σ.nf < 24) (h1 : M' 475 2 = nI (σ.nf + 1)) (h2 : M' 480 σ.nf = nI 1) (h3 : ∀ k, k ≠ σ.nf → M' 480 k = M 480 k) (h4 : M' 481 σ.nf = nI v) (h5 : ∀ k, k ≠ σ.nf → M' 481 k = M 481 k) (h6 : PV M' σ.nf σ.tn σ.tf) (e4 : ∀ k j, ¬ (k = 475 ∧ j = 2) → ¬ (k = 478 ∧ 24 * σ.nf ≤ j) → ¬ (k = 479 ∧ j = σ.nf) → k ≠ 480 → k ≠ 481 → M' k j = M k j) : RM ou M' (σ.new v) := by
  have px : ∀ k, k < σ.nf + 1 → PV M' k ((σ.new v).pn k) ((σ.new v).pf k) := by
    intro k hk
    rcases nk_cs hk with q | q
    · rw [(new_o q).1, (new_o q).2]
      obtain ⟨p1, p2, p3⟩ := s.px k q
      refine ⟨?_, p2, fun j hj => ?_⟩
      · rw [e4 _ _ (by omega) (by omega) (by omega) (by omega) (by omega)]; exact p1
      · rw [e4 _ _ (by omega) (by omega) (by omega) (by omega) (by omega)]; exact p3 j hj
    · rw [q, (new_n σ v).1, (new_n σ v).2]
      exact h6
  have th : ∀ k, k < 24 → M' 480 k = nI (if (σ.th ||| 2 ^ σ.nf).testBit k then 1 else 0) := by
    intro k hk
    rw [Nat.testBit_or, Nat.testBit_two_pow]
    by_cases e : k = σ.nf
    · rw [e, h2]
      simp
    · rw [h3 k e, s.th k hk, decide_eq_false (fun q => e q.symm), Bool.or_false]
  have co : ∀ k, k < σ.nf + 1 → M' 481 k = nI (if k = σ.nf then v else σ.co k) := by
    intro k hk
    by_cases e : k = σ.nf
    · rw [if_pos e, e]; exact h4
    · rw [if_neg e, h5 k e]; exact s.co k (by omega)
  have gx : ∀ q, σ.us q → MV M' q (σ.gn q) (σ.gf q) := by
    intro q hq
    simp (disch := omega) only [MV, e4]
    exact s.gx q hq
  exact (RM.mk (by intros; (try simp (disch := omega) only [MV, PV, mset_ne, e4]); first | exact s.o8 | (apply s.o8 <;> assumption)) (by intros; (try simp (disch := omega) only [MV, PV, mset_ne, e4]); first | exact s.tx | (apply s.tx <;> assumption)) h1 px th co (by intros; (try simp (disch := omega) only [MV, PV, mset_ne, e4]); first | exact s.mt | (apply s.mt <;> assumption)) (by intros; (try simp (disch := omega) only [MV, PV, mset_ne, e4]); first | exact s.mc | (apply s.mc <;> assumption)) (by intros; (try simp (disch := omega) only [MV, PV, mset_ne, e4]); first | exact s.nt | (apply s.nt <;> assumption)) (by intros; (try simp (disch := omega) only [MV, PV, mset_ne, e4]); first | exact s.cs | (apply s.cs <;> assumption)) (by intros; (try simp (disch := omega) only [MV, PV, mset_ne, e4]); first | exact s.gc | (apply s.gc <;> assumption)) (by intros; (try simp (disch := omega) only [MV, PV, mset_ne, e4]); first | exact s.de | (apply s.de <;> assumption)) (by intros; (try simp (disch := omega) only [MV, PV, mset_ne, e4]); first | exact s.la | (apply s.la <;> assumption)) gx (by intros; (try simp (disch := omega) only [MV, PV, mset_ne, e4]); first | exact s.nr | (apply s.nr <;> assumption)) (by intros; (try simp (disch := omega) only [MV, PV, mset_ne, e4]); first | exact s.ow | (apply s.ow <;> assumption)) (by intros; (try simp (disch := omega) only [MV, PV, mset_ne, e4]); first | exact s.nk | (apply s.nk <;> assumption)) (by intros; (try simp (disch := omega) only [MV, PV, mset_ne, e4]); first | exact s.wh | (apply s.wh <;> assumption)) (by intros; (try simp (disch := omega) only [MV, PV, mset_ne, e4]); first | exact s.hd | (apply s.hd <;> assumption)) (by intros; (try simp (disch := omega) only [MV, PV, mset_ne, e4]); first | exact s.le | (apply s.le <;> assumption)) (by intros; (try simp (disch := omega) only [MV, PV, mset_ne, e4]); first | exact s.kc | (apply s.kc <;> assumption)) (by intros; (try simp (disch := omega) only [MV, PV, mset_ne, e4]); first | exact s.kb | (apply s.kb <;> assumption)))
/-- some globs meet a new file -/
theorem c_meet {C : Mem} {σ : Ab} {o n f L : Nat} {g : Nat → Nat} {gf : Nat → Nat → Nat} {u : Nat → Nat} (r : TV C 1 σ.tn σ.tf) (hp : isP σ.tn σ.tf) (ho : 2 < o) (hL : ln o = L) (hn : n ≤ L) (hL2 : L ≤ 12) (hf : f < 24) (hc : C o 3 = nI n) (hg : ∀ i, i < n → TV C (o + 3 + 2 * i) (g i) (gf i) ∧ isG (g i) (gf i)) (hu : ∀ i, i < n → C (o + 2) i = nI (u i)) : ∃ C', fX1_meetFile C o (nI f) 1 = some C' ∧ (∀ i, i < n → C' (o + 2) i = nI (u i ||| (if mat σ.tn σ.tf (g i) (gf i) then 2 ^ f else 0))) ∧ ∀ k j, k ≠ o + 2 → C' k j = C k j := by
  have st : ∀ i, i ≤ n → ∃ C', lp (fX1_meetFile_2 (nI f) o 1) (C, (0 : Int32)) = lp (fX1_meetFile_2 (nI f) o 1) (C', nI i) ∧ (∀ j, j < i → C' (o + 2) j = nI (u j ||| (if mat σ.tn σ.tf (g j) (gf j) then 2 ^ f else 0))) ∧ (∀ j, i ≤ j → C' (o + 2) j = C (o + 2) j) ∧ ∀ k j, k ≠ o + 2 → C' k j = C k j := by
    intro i
    induction i with
    | zero => intro _; exact ⟨C, rfl, fun j hj => by omega, fun j _ => rfl, fun k j _ => rfl⟩
    | succ i ih =>
      intro hi
      obtain ⟨C', e1, e2, e3, e4⟩ := ih (by omega)
      have t1 : TV C' 1 σ.tn σ.tf := by
        have := r
        simp (disch := omega) only [TV, e4]
        exact this
      have t2 : TV C' (o + 3 + 2 * i) (g i) (gf i) := by
        have := (hg i (by omega)).1
        simp (disch := omega) only [TV, e4]
        exact this
      have t3 : C' o 3 = nI n := by rw [e4 _ _ (by omega)]; exact hc
      have t4 : C' (o + 2) i = nI (u i) := by rw [e3 i (Nat.le_refl _)]; exact hu i (by omega)
      have cm := c_mat t1 t2 hp.2 (hg i (by omega)).2.1
      have hs : fX1_meetFile_2 (nI f) o 1 (C', nI i) = if mat σ.tn σ.tf (g i) (gf i) then some (.inl (mset C' (o + 2) i (nI (u i ||| 2 ^ f)), nI (i + 1))) else some (.inl (C', nI (i + 1))) := by
        unfold fX1_meetFile_2 fX1_meetFile_35
        simp only [li_0, li_1]
        rw [t3, hL, nI_clamp (by omega), cm, t4]
        by_cases c : mat σ.tn σ.tf (g i) (gf i) = true
        · rw [c]
          simp (disch := omega) only [li_0, li_1, li_2, li_3, li_4, li_5, li_7, li_8, li_12, li_16, li_23, li_24, li_31, li_40, li_42, li_47, li_63, li_64, li_76, li_77, li_97, li_122, li_200, li_201, li_1000, li_1824, li_9999, li_16000, nI_add, nx_or, nx_and, pk_mul, nx_xor, nI_leI, nI_ltI, nI_eq, nI_clamp, vp_nI, px_sub, px_shl, px_shl2, px_shr2, px_bit, Bool.true_eq_false, Bool.false_eq_true, hol_0, hol_1, px_chr, chk, cnd_true, cnd_false, cnd_ite, bnd_s, nmv, exR, if_pos, if_neg, if_true, if_false, reduceIte, eq_self, not_true_eq_false, not_false_eq_true, show ¬ n ≤ i by omega, show i < L by omega, Nat.one_mul]
        · simp only [Bool.not_eq_true] at c
          rw [c]
          simp (disch := omega) only [li_0, li_1, li_2, li_3, li_4, li_5, li_7, li_8, li_12, li_16, li_23, li_24, li_31, li_40, li_42, li_47, li_63, li_64, li_76, li_77, li_97, li_122, li_200, li_201, li_1000, li_1824, li_9999, li_16000, nI_add, nx_or, nx_and, pk_mul, nx_xor, nI_leI, nI_ltI, nI_eq, nI_clamp, vp_nI, px_sub, px_shl, px_shl2, px_shr2, px_bit, Bool.true_eq_false, Bool.false_eq_true, hol_0, hol_1, px_chr, chk, cnd_true, cnd_false, cnd_ite, bnd_s, nmv, exR, if_pos, if_neg, if_true, if_false, reduceIte, eq_self, not_true_eq_false, not_false_eq_true, show ¬ n ≤ i by omega, show i < L by omega, Nat.one_mul]
      by_cases c : mat σ.tn σ.tf (g i) (gf i) = true
      · rw [if_pos c] at hs
        refine ⟨mset C' (o + 2) i (nI (u i ||| 2 ^ f)), by rw [e1, lp_go hs], fun j hj => ?_, fun j hj => ?_, fun k j hk => ?_⟩
        · by_cases q : j = i
          · rw [q, mset_eq, if_pos c]
          · rw [mset_ne (by omega)]; exact e2 j (by omega)
        · rw [mset_ne (by omega)]; exact e3 j (by omega)
        · rw [mset_ne (by omega)]; exact e4 k j hk
      · rw [if_neg c] at hs
        refine ⟨C', by rw [e1, lp_go hs], fun j hj => ?_, fun j hj => e3 j (by omega), e4⟩
        by_cases q : j = i
        · rw [q, t4, if_neg c, Nat.or_zero]
        · exact e2 j (by omega)
  obtain ⟨C', e1, e2, e3, e4⟩ := st n (Nat.le_refl _)
  refine ⟨C', ?_, e2, e4⟩
  unfold fX1_meetFile
  rw [e1]
  refine lp_exq ?_
  unfold fX1_meetFile_2
  show cnd (C' o 3 ≤ nI n) (exR (some C')) _ = _
  rw [e4 _ _ (by omega), hc, cnd_t (nI_le (Nat.le_refl _) (by omega))]
