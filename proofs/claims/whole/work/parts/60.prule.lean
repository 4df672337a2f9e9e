variable {ou : Int32}
/-! addRule -/
def Ab.aru (σ : Ab) (o : Nat) : Ab := ((σ.slo (64 + σ.nr)).up 5 (fun _ _ => σ.nr + 1)).up 16 (fun i _ => if i = σ.nr then o else σ.ow i)
theorem us_aru {σ : Ab} {o q : Nat} (h : (σ.aru o).us q) : σ.us q ∨ q = 64 + σ.nr := by
  rcases h with h | ⟨k, h1, h2⟩
  · exact Or.inl (Or.inl h)
  · have h1 : k < σ.nr + 1 := h1
    by_cases e : k = σ.nr
    · exact Or.inr (by omega)
    · exact Or.inl (Or.inr ⟨k, by omega, h2⟩)
theorem us_nr {σ : Ab} {q : Nat} (w : WF σ) (h : σ.us q) : q ≠ 64 + σ.nr := by
  rcases h with ⟨t, k, h1, h2, h3⟩ | ⟨k, h1, h2⟩
  · have := w.nt
    have := w.gc t
    omega
  · omega
theorem WF_aru {σ : Ab} {o : Nat} (w : WF σ) (h : σ.nr < 12) (ho : o ≤ 7) (hg : isG σ.tn σ.tf) : WF (σ.aru o) := by
  have a1 : σ.nr + 1 ≤ 12 := by omega
  have a2 : ∀ k, k < σ.nr + 1 → (if k = σ.nr then o else σ.ow k) ≤ 7 := by
    intro k hk
    by_cases e : k = σ.nr
    · rw [if_pos e]; exact ho
    · rw [if_neg e]; exact w.ow k (by omega)
  have a3 : ∀ q, (σ.aru o).us q → TX ((σ.slo (64 + σ.nr)).gn q) ((σ.slo (64 + σ.nr)).gf q) ∧ isG ((σ.slo (64 + σ.nr)).gn q) ((σ.slo (64 + σ.nr)).gf q) := by
    intro q hq
    rcases us_aru hq with h | h
    · obtain ⟨b1, b2, _⟩ := slo_o (σ := σ) (us_nr w h)
      rw [b1, b2]
      exact w.gx q h
    · subst h
      obtain ⟨b1, b2, _⟩ := slo_n σ (64 + σ.nr)
      rw [b1, b2]
      exact ⟨w.tx, hg⟩
  exact (WF.mk w.tx w.nf w.px w.pd w.th w.mt w.co w.mc w.nt w.cs w.gc w.g0 a3 w.de w.d0 w.ac w.la w.l0 a1 a2 w.nk w.wh w.hd w.le w.kc w.kb w.ku)
theorem RC_474 {C : Mem} {σ : Ab} {x : Int32} (w : WF σ) (r : RC C σ) : RC (mset C 474 σ.nr x) σ := by
  have hnk := w.nk
  have hnr := w.nr
  have hnf := w.nf
  have hnt := w.nt
  have px : ∀ k, k < σ.nf → TV (mset C 474 σ.nr x) (7 + 2 * k) (σ.pn k) (σ.pf k) := by
    intro k hk
    simp (disch := omega) only [TV, mset_ne]
    exact r.px k hk
  have gx : ∀ t k, t < σ.nt → k < σ.gc t → TV (mset C 474 σ.nr x) (60 + 11 * t + 3 + 2 * k) (σ.gn (4 * t + k)) (σ.gf (4 * t + k)) := by
    intro t k ht hk
    have := w.gc t
    simp (disch := omega) only [TV, mset_ne]
    exact r.gx t k ht hk
  have rx : ∀ k, k < σ.nr → TV (mset C 474 σ.nr x) (450 + 2 * k) (σ.gn (64 + k)) (σ.gf (64 + k)) := by
    intro k hk
    simp (disch := omega) only [TV, mset_ne]
    exact r.rx k hk
  exact (RC.mk (by intros; (try simp (disch := omega) only [TV, mset_ne]); first | exact r.tx | (apply r.tx <;> assumption)) (by intros; (try simp (disch := omega) only [TV, mset_ne]); first | exact r.nf | (apply r.nf <;> assumption)) (by intros; (try simp (disch := omega) only [TV, mset_ne]); first | exact r.th | (apply r.th <;> assumption)) (by intros; (try simp (disch := omega) only [TV, mset_ne]); first | exact r.mt | (apply r.mt <;> assumption)) (by intros; (try simp (disch := omega) only [TV, mset_ne]); first | exact r.co | (apply r.co <;> assumption)) (by intros; (try simp (disch := omega) only [TV, mset_ne]); first | exact r.mc | (apply r.mc <;> assumption)) px (by intros; (try simp (disch := omega) only [TV, mset_ne]); first | exact r.nt | (apply r.nt <;> assumption)) (by intros; (try simp (disch := omega) only [TV, mset_ne]); first | exact r.cs | (apply r.cs <;> assumption)) (by intros; (try simp (disch := omega) only [TV, mset_ne]); first | exact r.de | (apply r.de <;> assumption)) (by intros; (try simp (disch := omega) only [TV, mset_ne]); first | exact r.gc | (apply r.gc <;> assumption)) (by intros; (try simp (disch := omega) only [TV, mset_ne]); first | exact r.gm | (apply r.gm <;> assumption)) (by intros; (try simp (disch := omega) only [TV, mset_ne]); first | exact r.gv | (apply r.gv <;> assumption)) gx (by intros; (try simp (disch := omega) only [TV, mset_ne]); first | exact r.nk | (apply r.nk <;> assumption)) (by intros; (try simp (disch := omega) only [TV, mset_ne]); first | exact r.wh | (apply r.wh <;> assumption)) (by intros; (try simp (disch := omega) only [TV, mset_ne]); first | exact r.rf | (apply r.rf <;> assumption)) (by intros; (try simp (disch := omega) only [TV, mset_ne]); first | exact r.rt | (apply r.rt <;> assumption)) (by intros; (try simp (disch := omega) only [TV, mset_ne]); first | exact r.la | (apply r.la <;> assumption)) (by intros; (try simp (disch := omega) only [TV, mset_ne]); first | exact r.nr | (apply r.nr <;> assumption)) (by intros; (try simp (disch := omega) only [TV, mset_ne]); first | exact r.nm | (apply r.nm <;> assumption)) (by intros; (try simp (disch := omega) only [TV, mset_ne]); first | exact r.rv | (apply r.rv <;> assumption)) rx (by intros; (try simp (disch := omega) only [TV, mset_ne]); first | exact r.ow | (apply r.ow <;> assumption)))
theorem RC_aru {C C1 : Mem} {σ : Ab} {o : Nat} (w : WF σ) (r : RC C σ) (h : σ.nr < 12) (ho : C 474 σ.nr = nI o) (h1 : TV C1 (447 + 3 + 2 * σ.nr) σ.tn σ.tf) (e4 : ∀ k j, k ≠ 447 + 3 + 2 * σ.nr → k ≠ 447 + 3 + 2 * σ.nr + 1 → C1 k j = C k j) : RC (mset (mset C1 (447 + 2) σ.nr (nI (msk (fun k => mat (σ.pn k) (σ.pf k) σ.tn σ.tf) σ.nf))) 447 3 (nI (σ.nr + 1))) (σ.aru o) := by
  have hnk := w.nk
  have hnf := w.nf
  have hnt := w.nt
  have px : ∀ k, k < σ.nf → TV (mset (mset C1 (447 + 2) σ.nr (nI (msk (fun k => mat (σ.pn k) (σ.pf k) σ.tn σ.tf) σ.nf))) 447 3 (nI (σ.nr + 1))) (7 + 2 * k) (σ.pn k) (σ.pf k) := by
    intro k hk
    simp (disch := omega) only [TV, mset_ne, e4]
    exact r.px k hk
  have gc : ∀ i, i < 16 → mset (mset C1 (447 + 2) σ.nr (nI (msk (fun k => mat (σ.pn k) (σ.pf k) σ.tn σ.tf) σ.nf))) 447 3 (nI (σ.nr + 1)) (60 + 11 * i) 3 = nI (σ.gc i) := by
    intro i hi
    simp (disch := omega) only [mset_ne, e4]
    exact r.gc i hi
  have gm : ∀ i, i < 16 → mset (mset C1 (447 + 2) σ.nr (nI (msk (fun k => mat (σ.pn k) (σ.pf k) σ.tn σ.tf) σ.nf))) 447 3 (nI (σ.nr + 1)) (60 + 11 * i) 2 = nI 4 := by
    intro i hi
    simp (disch := omega) only [mset_ne, e4]
    exact r.gm i hi
  have gv : ∀ t k, t < σ.nt → k < σ.gc t → mset (mset C1 (447 + 2) σ.nr (nI (msk (fun k => mat (σ.pn k) (σ.pf k) σ.tn σ.tf) σ.nf))) 447 3 (nI (σ.nr + 1)) (60 + 11 * t + 2) k = nI ((σ.slo (64 + σ.nr)).cv (4 * t + k)) := by
    intro t k ht hk
    have := w.gc t
    rw [(slo_o (by omega)).2.2]
    simp (disch := omega) only [mset_ne, e4]
    exact r.gv t k ht hk
  have gx : ∀ t k, t < σ.nt → k < σ.gc t → TV (mset (mset C1 (447 + 2) σ.nr (nI (msk (fun k => mat (σ.pn k) (σ.pf k) σ.tn σ.tf) σ.nf))) 447 3 (nI (σ.nr + 1))) (60 + 11 * t + 3 + 2 * k) ((σ.slo (64 + σ.nr)).gn (4 * t + k)) ((σ.slo (64 + σ.nr)).gf (4 * t + k)) := by
    intro t k ht hk
    have := w.gc t
    rw [(slo_o (by omega)).1, (slo_o (by omega)).2.1]
    simp (disch := omega) only [TV, mset_ne, e4]
    exact r.gx t k ht hk
  have rf : ∀ i k, i < σ.nk → k < 24 → mset (mset C1 (447 + 2) σ.nr (nI (msk (fun k => mat (σ.pn k) (σ.pf k) σ.tn σ.tf) σ.nf))) 447 3 (nI (σ.nr + 1)) (238 + (i + 1)) k = nI (if (σ.hd i).testBit k then σ.kc i k + 1 else 0) := by
    intro i k hi hk
    simp (disch := omega) only [mset_ne, e4]
    exact r.rf i k hi hk
  have rt : ∀ i t, i < σ.nk → t < 16 → mset (mset C1 (447 + 2) σ.nr (nI (msk (fun k => mat (σ.pn k) (σ.pf k) σ.tn σ.tf) σ.nf))) 447 3 (nI (σ.nr + 1)) (238 + (i + 1)) (24 + t) = nI (if (σ.le i).testBit t then σ.kb i t else 0) := by
    intro i t hi ht
    simp (disch := omega) only [mset_ne, e4]
    exact r.rt i t hi ht
  have rv : ∀ k, k < σ.nr + 1 → mset (mset C1 (447 + 2) σ.nr (nI (msk (fun k => mat (σ.pn k) (σ.pf k) σ.tn σ.tf) σ.nf))) 447 3 (nI (σ.nr + 1)) 449 k = nI ((σ.slo (64 + σ.nr)).cv (64 + k)) := by
    intro k hk
    by_cases e : k = σ.nr
    · rw [e, mset_ne (by omega), show 449 = 447 + 2 from rfl, mset_eq, (slo_n σ _).2.2]
    · rw [(slo_o (by omega)).2.2]
      simp (disch := omega) only [mset_ne, e4]
      exact r.rv k (by omega)
  have rx : ∀ k, k < σ.nr + 1 → TV (mset (mset C1 (447 + 2) σ.nr (nI (msk (fun k => mat (σ.pn k) (σ.pf k) σ.tn σ.tf) σ.nf))) 447 3 (nI (σ.nr + 1))) (450 + 2 * k) ((σ.slo (64 + σ.nr)).gn (64 + k)) ((σ.slo (64 + σ.nr)).gf (64 + k)) := by
    intro k hk
    by_cases e : k = σ.nr
    · rw [e, (slo_n σ _).1, (slo_n σ _).2.1]
      simp (disch := omega) only [TV, mset_ne]
      exact h1
    · rw [(slo_o (by omega)).1, (slo_o (by omega)).2.1]
      simp (disch := omega) only [TV, mset_ne, e4]
      exact r.rx k (by omega)
  have ow : ∀ k, k < σ.nr + 1 → mset (mset C1 (447 + 2) σ.nr (nI (msk (fun k => mat (σ.pn k) (σ.pf k) σ.tn σ.tf) σ.nf))) 447 3 (nI (σ.nr + 1)) 474 k = nI (if k = σ.nr then o else σ.ow k) := by
    intro k hk
    simp (disch := omega) only [mset_ne, e4]
    by_cases e : k = σ.nr
    · rw [if_pos e, e]; exact ho
    · rw [if_neg e]; exact r.ow k (by omega)
  exact (RC.mk (by intros; (try simp (disch := omega) only [TV, mset_ne, e4]); first | exact r.tx | (apply r.tx <;> assumption)) (by intros; (try simp (disch := omega) only [TV, mset_ne, e4]); first | exact r.nf | (apply r.nf <;> assumption)) (by intros; (try simp (disch := omega) only [TV, mset_ne, e4]); first | exact r.th | (apply r.th <;> assumption)) (by intros; (try simp (disch := omega) only [TV, mset_ne, e4]); first | exact r.mt | (apply r.mt <;> assumption)) (by intros; (try simp (disch := omega) only [TV, mset_ne, e4]); first | exact r.co | (apply r.co <;> assumption)) (by intros; (try simp (disch := omega) only [TV, mset_ne, e4]); first | exact r.mc | (apply r.mc <;> assumption)) px (by intros; (try simp (disch := omega) only [TV, mset_ne, e4]); first | exact r.nt | (apply r.nt <;> assumption)) (by intros; (try simp (disch := omega) only [TV, mset_ne, e4]); first | exact r.cs | (apply r.cs <;> assumption)) (by intros; (try simp (disch := omega) only [TV, mset_ne, e4]); first | exact r.de | (apply r.de <;> assumption)) gc gm gv gx (by intros; (try simp (disch := omega) only [TV, mset_ne, e4]); first | exact r.nk | (apply r.nk <;> assumption)) (by intros; (try simp (disch := omega) only [TV, mset_ne, e4]); first | exact r.wh | (apply r.wh <;> assumption)) rf rt (by intros; (try simp (disch := omega) only [TV, mset_ne, e4]); first | exact r.la | (apply r.la <;> assumption)) mset_eq (by intros; (try simp (disch := omega) only [TV, mset_ne, e4]); first | exact r.nm | (apply r.nm <;> assumption)) rv rx ow)
theorem RM_aru {M M1 : Mem} {σ : Ab} {o : Nat} (w : WF σ) (s : RM ou M σ) (h : σ.nr < 12) (h1 : MV M1 (64 + σ.nr) σ.tn σ.tf) (e4 : ∀ k j, ¬ (k = 477 ∧ j = 64 + σ.nr) → ¬ (k = 476 ∧ 24 * (64 + σ.nr) ≤ j ∧ j < 24 * (64 + σ.nr) + 24) → M1 k j = M k j) : RM ou (mset (mset M1 488 σ.nr (nI o)) 475 14 (nI (σ.nr + 1))) (σ.aru o) := by
  have ow : ∀ k, k < σ.nr + 1 → mset (mset M1 488 σ.nr (nI o)) 475 14 (nI (σ.nr + 1)) 488 k = nI (if k = σ.nr then o else σ.ow k) := by
    intro k hk
    rw [mset_ne (by omega)]
    by_cases e : k = σ.nr
    · rw [if_pos e, e, mset_eq]
    · rw [if_neg e, mset_ne (by omega), e4 _ _ (by omega) (by omega)]; exact s.ow k (by omega)
  have gx : ∀ q, (σ.aru o).us q → MV (mset (mset M1 488 σ.nr (nI o)) 475 14 (nI (σ.nr + 1))) q ((σ.slo (64 + σ.nr)).gn q) ((σ.slo (64 + σ.nr)).gf q) := by
    intro q hq
    rcases us_aru hq with h | h
    · have hne := us_nr w h
      obtain ⟨b1, b2, _⟩ := slo_o (σ := σ) hne
      rw [b1, b2]
      obtain ⟨c1, c2, c3⟩ := s.gx q h
      refine ⟨?_, c2, fun j hj => ?_⟩
      · rw [mset_ne (by omega), mset_ne (by omega), e4 _ _ (by omega) (by omega)]; exact c1
      · rw [mset_ne (by omega), mset_ne (by omega), e4 _ _ (by omega) (by omega)]; exact c3 j hj
    · subst h
      rw [(slo_n σ _).1, (slo_n σ _).2.1]
      simp (disch := omega) only [MV, mset_ne]
      exact h1
  exact (RM.mk (by intros; (try simp (disch := omega) only [MV, PV, mset_ne, e4]); first | exact s.o8 | (apply s.o8 <;> assumption)) (by intros; (try simp (disch := omega) only [MV, PV, mset_ne, e4]); first | exact s.tx | (apply s.tx <;> assumption)) (by intros; (try simp (disch := omega) only [MV, PV, mset_ne, e4]); first | exact s.nf | (apply s.nf <;> assumption)) (by intros; (try simp (disch := omega) only [MV, PV, mset_ne, e4]); first | exact s.px | (apply s.px <;> assumption)) (by intros; (try simp (disch := omega) only [MV, PV, mset_ne, e4]); first | exact s.th | (apply s.th <;> assumption)) (by intros; (try simp (disch := omega) only [MV, PV, mset_ne, e4]); first | exact s.co | (apply s.co <;> assumption)) (by intros; (try simp (disch := omega) only [MV, PV, mset_ne, e4]); first | exact s.mt | (apply s.mt <;> assumption)) (by intros; (try simp (disch := omega) only [MV, PV, mset_ne, e4]); first | exact s.mc | (apply s.mc <;> assumption)) (by intros; (try simp (disch := omega) only [MV, PV, mset_ne, e4]); first | exact s.nt | (apply s.nt <;> assumption)) (by intros; (try simp (disch := omega) only [MV, PV, mset_ne, e4]); first | exact s.cs | (apply s.cs <;> assumption)) (by intros; (try simp (disch := omega) only [MV, PV, mset_ne, e4]); first | exact s.gc | (apply s.gc <;> assumption)) (by intros; (try simp (disch := omega) only [MV, PV, mset_ne, e4]); first | exact s.de | (apply s.de <;> assumption)) (by intros; (try simp (disch := omega) only [MV, PV, mset_ne, e4]); first | exact s.la | (apply s.la <;> assumption)) gx mset_eq ow (by intros; (try simp (disch := omega) only [MV, PV, mset_ne, e4]); first | exact s.nk | (apply s.nk <;> assumption)) (by intros; (try simp (disch := omega) only [MV, PV, mset_ne, e4]); first | exact s.wh | (apply s.wh <;> assumption)) (by intros; (try simp (disch := omega) only [MV, PV, mset_ne, e4]); first | exact s.hd | (apply s.hd <;> assumption)) (by intros; (try simp (disch := omega) only [MV, PV, mset_ne, e4]); first | exact s.le | (apply s.le <;> assumption)) (by intros; (try simp (disch := omega) only [MV, PV, mset_ne, e4]); first | exact s.kc | (apply s.kc <;> assumption)) (by intros; (try simp (disch := omega) only [MV, PV, mset_ne, e4]); first | exact s.kb | (apply s.kb <;> assumption)))
