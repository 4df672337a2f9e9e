variable {ou : Int32}
/-! addGlob, addRule -/
def Ab.agl (σ : Ab) (t : Nat) : Ab := (σ.slo (4 * t + σ.gc t)).up 12 (fun i _ => if i = t then σ.gc i + 1 else σ.gc i)
theorem us_agl {σ : Ab} {t q : Nat} (h : (σ.agl t).us q) : σ.us q ∨ q = 4 * t + σ.gc t := by
  rcases h with ⟨t', k, h1, h2, h3⟩ | h
  · have h1 : t' < σ.nt := h1
    have h2 : k < (if t' = t then σ.gc t' + 1 else σ.gc t') := h2
    by_cases e : t' = t
    · rw [if_pos e] at h2
      subst e
      by_cases e2 : k = σ.gc t'
      · exact Or.inr (by omega)
      · exact Or.inl (Or.inl ⟨t', k, h1, by omega, h3⟩)
    · rw [if_neg e] at h2
      exact Or.inl (Or.inl ⟨t', k, h1, h2, h3⟩)
  · exact Or.inl (Or.inr h)
theorem us_no {σ : Ab} {t q : Nat} (w : WF σ) (ht : t < σ.nt) (h4 : σ.gc t < 4) (h : σ.us q) : q ≠ 4 * t + σ.gc t := by
  rcases h with ⟨t', k, h1, h2, h3⟩ | ⟨k, h1, h2⟩
  · have := w.gc t'
    intro e
    have e2 : t' = t := by omega
    subst e2
    omega
  · have := w.nt
    omega
theorem slo_o {σ : Ab} {q q' : Nat} (h : q' ≠ q) : (σ.slo q).gn q' = σ.gn q' ∧ (σ.slo q).gf q' = σ.gf q' ∧ (σ.slo q).cv q' = σ.cv q' := by
  have h1 : (if q' = q then σ.tn else σ.gn q') = σ.gn q' := if_neg h
  have h2 : (fun j => if q' = q then σ.tf j else σ.gf q' j) = σ.gf q' := funext fun j => if_neg h
  refine ⟨h1, h2, ?_⟩
  show msk (fun k => mat (σ.pn k) (σ.pf k) (if q' = q then σ.tn else σ.gn q') (fun j => if q' = q then σ.tf j else σ.gf q' j)) σ.nf = _
  rw [h1, h2]
  rfl
theorem slo_n (σ : Ab) (q : Nat) : (σ.slo q).gn q = σ.tn ∧ (σ.slo q).gf q = σ.tf ∧ (σ.slo q).cv q = msk (fun k => mat (σ.pn k) (σ.pf k) σ.tn σ.tf) σ.nf := by
  have h1 : (if q = q then σ.tn else σ.gn q) = σ.tn := if_pos rfl
  have h2 : (fun j => if q = q then σ.tf j else σ.gf q j) = σ.tf := funext fun j => if_pos rfl
  refine ⟨h1, h2, ?_⟩
  show msk (fun k => mat (σ.pn k) (σ.pf k) (if q = q then σ.tn else σ.gn q) (fun j => if q = q then σ.tf j else σ.gf q j)) σ.nf = _
  rw [h1, h2]
theorem WF_agl {σ : Ab} {t : Nat} (w : WF σ) (ht : t < σ.nt) (h4 : σ.gc t < 4) (hg : isG σ.tn σ.tf) : WF (σ.agl t) := by
  have a1 : ∀ i, (if i = t then σ.gc i + 1 else σ.gc i) ≤ 4 := by
    intro i
    by_cases e : i = t
    · rw [if_pos e, e]; omega
    · rw [if_neg e]; exact w.gc i
  have a2 : ∀ i, σ.nt ≤ i → (if i = t then σ.gc i + 1 else σ.gc i) = 0 := by
    intro i hi
    rw [if_neg (by omega)]; exact w.g0 i hi
  have a3 : ∀ q, (σ.agl t).us q → TX ((σ.slo (4 * t + σ.gc t)).gn q) ((σ.slo (4 * t + σ.gc t)).gf q) ∧ isG ((σ.slo (4 * t + σ.gc t)).gn q) ((σ.slo (4 * t + σ.gc t)).gf q) := by
    intro q hq
    rcases us_agl hq with h | h
    · obtain ⟨b1, b2, _⟩ := slo_o (σ := σ) (us_no w ht h4 h)
      rw [b1, b2]
      exact w.gx q h
    · subst h
      obtain ⟨b1, b2, _⟩ := slo_n σ (4 * t + σ.gc t)
      rw [b1, b2]
      exact ⟨w.tx, hg⟩
  exact (WF.mk w.tx w.nf w.px w.pd w.th w.mt w.co w.mc w.nt w.cs a1 a2 a3 w.de w.d0 w.ac w.la w.l0 w.nr w.ow w.nk w.wh w.hd w.le w.kc w.kb w.ku)
theorem RC_agl {C C1 : Mem} {σ : Ab} {t : Nat} (w : WF σ) (r : RC C σ) (ht : t < σ.nt) (h4 : σ.gc t < 4) (h1 : TV C1 (60 + 11 * t + 3 + 2 * σ.gc t) σ.tn σ.tf) (e4 : ∀ k j, k ≠ 60 + 11 * t + 3 + 2 * σ.gc t → k ≠ 60 + 11 * t + 3 + 2 * σ.gc t + 1 → C1 k j = C k j) : RC (mset (mset C1 (60 + 11 * t + 2) (σ.gc t) (nI (msk (fun k => mat (σ.pn k) (σ.pf k) σ.tn σ.tf) σ.nf))) (60 + 11 * t) 3 (nI (σ.gc t + 1))) (σ.agl t) := by
  have hnt := w.nt
  have hnr := w.nr
  have hnf := w.nf
  have px : ∀ k, k < σ.nf → TV (mset (mset C1 (60 + 11 * t + 2) (σ.gc t) (nI (msk (fun k => mat (σ.pn k) (σ.pf k) σ.tn σ.tf) σ.nf))) (60 + 11 * t) 3 (nI (σ.gc t + 1))) (7 + 2 * k) (σ.pn k) (σ.pf k) := by
    intro k hk
    simp (disch := omega) only [TV, mset_ne, e4]
    exact r.px k hk
  have gc : ∀ i, i < 16 → mset (mset C1 (60 + 11 * t + 2) (σ.gc t) (nI (msk (fun k => mat (σ.pn k) (σ.pf k) σ.tn σ.tf) σ.nf))) (60 + 11 * t) 3 (nI (σ.gc t + 1)) (60 + 11 * i) 3 = nI (if i = t then σ.gc i + 1 else σ.gc i) := by
    intro i hi
    by_cases e : i = t
    · rw [if_pos e, e, mset_eq]
    · rw [if_neg e]
      simp (disch := omega) only [mset_ne, e4]
      exact r.gc i hi
  have gm : ∀ i, i < 16 → mset (mset C1 (60 + 11 * t + 2) (σ.gc t) (nI (msk (fun k => mat (σ.pn k) (σ.pf k) σ.tn σ.tf) σ.nf))) (60 + 11 * t) 3 (nI (σ.gc t + 1)) (60 + 11 * i) 2 = nI 4 := by
    intro i hi
    simp (disch := omega) only [mset_ne, e4]
    exact r.gm i hi
  have sp : ∀ i k, i < σ.nt → k < (if i = t then σ.gc i + 1 else σ.gc i) → (i = t ∧ k = σ.gc t) ∨ (k < σ.gc i ∧ 4 * i + k ≠ 4 * t + σ.gc t ∧ k < 4) := by
    intro i k hi hk
    have := w.gc i
    by_cases e : i = t
    · rw [if_pos e] at hk
      by_cases e2 : k = σ.gc t
      · exact Or.inl ⟨e, e2⟩
      · subst e
        exact Or.inr ⟨by omega, by omega, by omega⟩
    · rw [if_neg e] at hk
      exact Or.inr ⟨hk, by omega, by omega⟩
  have gv : ∀ i k, i < σ.nt → k < (if i = t then σ.gc i + 1 else σ.gc i) → mset (mset C1 (60 + 11 * t + 2) (σ.gc t) (nI (msk (fun k => mat (σ.pn k) (σ.pf k) σ.tn σ.tf) σ.nf))) (60 + 11 * t) 3 (nI (σ.gc t + 1)) (60 + 11 * i + 2) k = nI ((σ.slo (4 * t + σ.gc t)).cv (4 * i + k)) := by
    intro i k hi hk
    rcases sp i k hi hk with ⟨e1, e2⟩ | ⟨e1, e2, e3⟩
    · rw [e1, e2, mset_ne (by omega), mset_eq, (slo_n σ _).2.2]
    · rw [(slo_o e2).2.2]
      simp (disch := omega) only [mset_ne, e4]
      exact r.gv i k hi e1
  have gx : ∀ i k, i < σ.nt → k < (if i = t then σ.gc i + 1 else σ.gc i) → TV (mset (mset C1 (60 + 11 * t + 2) (σ.gc t) (nI (msk (fun k => mat (σ.pn k) (σ.pf k) σ.tn σ.tf) σ.nf))) (60 + 11 * t) 3 (nI (σ.gc t + 1))) (60 + 11 * i + 3 + 2 * k) ((σ.slo (4 * t + σ.gc t)).gn (4 * i + k)) ((σ.slo (4 * t + σ.gc t)).gf (4 * i + k)) := by
    intro i k hi hk
    rcases sp i k hi hk with ⟨e1, e2⟩ | ⟨e1, e2, e3⟩
    · rw [e1, e2, (slo_n σ _).1, (slo_n σ _).2.1]
      simp (disch := omega) only [TV, mset_ne]
      exact h1
    · rw [(slo_o e2).1, (slo_o e2).2.1]
      simp (disch := omega) only [TV, mset_ne, e4]
      exact r.gx i k hi e1
  have rv : ∀ k, k < σ.nr → mset (mset C1 (60 + 11 * t + 2) (σ.gc t) (nI (msk (fun k => mat (σ.pn k) (σ.pf k) σ.tn σ.tf) σ.nf))) (60 + 11 * t) 3 (nI (σ.gc t + 1)) 449 k = nI ((σ.slo (4 * t + σ.gc t)).cv (64 + k)) := by
    intro k hk
    rw [(slo_o (by omega)).2.2]
    simp (disch := omega) only [mset_ne, e4]
    exact r.rv k hk
  have rx : ∀ k, k < σ.nr → TV (mset (mset C1 (60 + 11 * t + 2) (σ.gc t) (nI (msk (fun k => mat (σ.pn k) (σ.pf k) σ.tn σ.tf) σ.nf))) (60 + 11 * t) 3 (nI (σ.gc t + 1))) (450 + 2 * k) ((σ.slo (4 * t + σ.gc t)).gn (64 + k)) ((σ.slo (4 * t + σ.gc t)).gf (64 + k)) := by
    intro k hk
    rw [(slo_o (by omega)).1, (slo_o (by omega)).2.1]
    simp (disch := omega) only [TV, mset_ne, e4]
    exact r.rx k hk
  exact (RC.mk (by intros; (try simp (disch := omega) only [TV, mset_ne, e4]); first | exact r.tx | (apply r.tx <;> assumption)) (by intros; (try simp (disch := omega) only [TV, mset_ne, e4]); first | exact r.nf | (apply r.nf <;> assumption)) (by intros; (try simp (disch := omega) only [TV, mset_ne, e4]); first | exact r.th | (apply r.th <;> assumption)) (by intros; (try simp (disch := omega) only [TV, mset_ne, e4]); first | exact r.mt | (apply r.mt <;> assumption)) (by intros; (try simp (disch := omega) only [TV, mset_ne, e4]); first | exact r.co | (apply r.co <;> assumption)) (by intros; (try simp (disch := omega) only [TV, mset_ne, e4]); first | exact r.mc | (apply r.mc <;> assumption)) px (by intros; (try simp (disch := omega) only [TV, mset_ne, e4]); first | exact r.nt | (apply r.nt <;> assumption)) (by intros; (try simp (disch := omega) only [TV, mset_ne, e4]); first | exact r.cs | (apply r.cs <;> assumption)) (by intros; (try simp (disch := omega) only [TV, mset_ne, e4]); first | exact r.de | (apply r.de <;> assumption)) gc gm gv gx (by intros; (try simp (disch := omega) only [TV, mset_ne, e4]); first | exact r.nk | (apply r.nk <;> assumption)) (by intros; (try simp (disch := omega) only [TV, mset_ne, e4]); first | exact r.wh | (apply r.wh <;> assumption)) (by intros; (try simp (disch := omega) only [TV, mset_ne, e4]); first | exact r.rf | (apply r.rf <;> assumption)) (by intros; (try simp (disch := omega) only [TV, mset_ne, e4]); first | exact r.rt | (apply r.rt <;> assumption)) (by intros; (try simp (disch := omega) only [TV, mset_ne, e4]); first | exact r.la | (apply r.la <;> assumption)) (by intros; (try simp (disch := omega) only [TV, mset_ne, e4]); first | exact r.nr | (apply r.nr <;> assumption)) (by intros; (try simp (disch := omega) only [TV, mset_ne, e4]); first | exact r.nm | (apply r.nm <;> assumption)) rv rx (by intros; (try simp (disch := omega) only [TV, mset_ne, e4]); first | exact r.ow | (apply r.ow <;> assumption)))
theorem RM_agl {M M1 : Mem} {σ : Ab} {t : Nat} (w : WF σ) (s : RM ou M σ) (ht : t < σ.nt) (h4 : σ.gc t < 4) (h1 : MV M1 (4 * t + σ.gc t) σ.tn σ.tf) (e4 : ∀ k j, ¬ (k = 477 ∧ j = 4 * t + σ.gc t) → ¬ (k = 476 ∧ 24 * (4 * t + σ.gc t) ≤ j ∧ j < 24 * (4 * t + σ.gc t) + 24) → M1 k j = M k j) : RM ou (mset M1 485 t (nI (σ.gc t + 1))) (σ.agl t) := by
  have hnt := w.nt
  have gc : ∀ i, i < 16 → mset M1 485 t (nI (σ.gc t + 1)) 485 i = nI (if i = t then σ.gc i + 1 else σ.gc i) := by
    intro i hi
    by_cases e : i = t
    · rw [if_pos e, e, mset_eq]
    · rw [if_neg e, mset_ne (by omega), e4 _ _ (by omega) (by omega)]; exact s.gc i hi
  have gx : ∀ q, (σ.agl t).us q → MV (mset M1 485 t (nI (σ.gc t + 1))) q ((σ.slo (4 * t + σ.gc t)).gn q) ((σ.slo (4 * t + σ.gc t)).gf q) := by
    intro q hq
    rcases us_agl hq with h | h
    · have hne := us_no w ht h4 h
      obtain ⟨b1, b2, _⟩ := slo_o (σ := σ) hne
      rw [b1, b2]
      obtain ⟨c1, c2, c3⟩ := s.gx q h
      refine ⟨?_, c2, fun j hj => ?_⟩
      · rw [mset_ne (by omega), e4 _ _ (by omega) (by omega)]; exact c1
      · rw [mset_ne (by omega), e4 _ _ (by omega) (by omega)]; exact c3 j hj
    · subst h
      rw [(slo_n σ _).1, (slo_n σ _).2.1]
      simp (disch := omega) only [MV, mset_ne]
      exact h1
  exact (RM.mk (by intros; (try simp (disch := omega) only [MV, PV, mset_ne, e4]); first | exact s.o8 | (apply s.o8 <;> assumption)) (by intros; (try simp (disch := omega) only [MV, PV, mset_ne, e4]); first | exact s.tx | (apply s.tx <;> assumption)) (by intros; (try simp (disch := omega) only [MV, PV, mset_ne, e4]); first | exact s.nf | (apply s.nf <;> assumption)) (by intros; (try simp (disch := omega) only [MV, PV, mset_ne, e4]); first | exact s.px | (apply s.px <;> assumption)) (by intros; (try simp (disch := omega) only [MV, PV, mset_ne, e4]); first | exact s.th | (apply s.th <;> assumption)) (by intros; (try simp (disch := omega) only [MV, PV, mset_ne, e4]); first | exact s.co | (apply s.co <;> assumption)) (by intros; (try simp (disch := omega) only [MV, PV, mset_ne, e4]); first | exact s.mt | (apply s.mt <;> assumption)) (by intros; (try simp (disch := omega) only [MV, PV, mset_ne, e4]); first | exact s.mc | (apply s.mc <;> assumption)) (by intros; (try simp (disch := omega) only [MV, PV, mset_ne, e4]); first | exact s.nt | (apply s.nt <;> assumption)) (by intros; (try simp (disch := omega) only [MV, PV, mset_ne, e4]); first | exact s.cs | (apply s.cs <;> assumption)) gc (by intros; (try simp (disch := omega) only [MV, PV, mset_ne, e4]); first | exact s.de | (apply s.de <;> assumption)) (by intros; (try simp (disch := omega) only [MV, PV, mset_ne, e4]); first | exact s.la | (apply s.la <;> assumption)) gx (by intros; (try simp (disch := omega) only [MV, PV, mset_ne, e4]); first | exact s.nr | (apply s.nr <;> assumption)) (by intros; (try simp (disch := omega) only [MV, PV, mset_ne, e4]); first | exact s.ow | (apply s.ow <;> assumption)) (by intros; (try simp (disch := omega) only [MV, PV, mset_ne, e4]); first | exact s.nk | (apply s.nk <;> assumption)) (by intros; (try simp (disch := omega) only [MV, PV, mset_ne, e4]); first | exact s.wh | (apply s.wh <;> assumption)) (by intros; (try simp (disch := omega) only [MV, PV, mset_ne, e4]); first | exact s.hd | (apply s.hd <;> assumption)) (by intros; (try simp (disch := omega) only [MV, PV, mset_ne, e4]); first | exact s.le | (apply s.le <;> assumption)) (by intros; (try simp (disch := omega) only [MV, PV, mset_ne, e4]); first | exact s.kc | (apply s.kc <;> assumption)) (by intros; (try simp (disch := omega) only [MV, PV, mset_ne, e4]); first | exact s.kb | (apply s.kb <;> assumption)))
