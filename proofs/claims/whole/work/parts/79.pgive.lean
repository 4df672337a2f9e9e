variable {ou : Int32}
/-! a key is given, a target is run or found -/
def Ab.givT (σ : Ab) (K : Nat → Nat) (t I : Nat) : Ab := (((((σ.up 6 (fun _ _ => σ.nk + 1)).up 17 (fun i _ => if i = σ.nk then t else σ.wh i)).up 18 (fun i _ => if i = σ.nk then I else σ.hd i)).up 19 (fun i _ => if i = σ.nk then σ.de t else σ.le i)).up 22 (fun i k => if i = σ.nk then σ.co k else σ.kc i k)).up 23 (fun i o => if i = σ.nk then K o else σ.kb i o)
noncomputable def Ab.giv (σ : Ab) (K : Nat → Nat) (t : Nat) : Ab := σ.givT K t (σ.inp t)
def Ab.lat (σ : Ab) (t v : Nat) : Ab := σ.up 15 (fun i _ => if i = t then v else σ.la i)
theorem giv_o {σ : Ab} {K : Nat → Nat} {t i : Nat} (h : i < σ.nk) : (σ.giv K t).wh i = σ.wh i ∧ (σ.giv K t).hd i = σ.hd i ∧ (σ.giv K t).le i = σ.le i ∧ (∀ k, (σ.giv K t).kc i k = σ.kc i k) ∧ ∀ o, (σ.giv K t).kb i o = σ.kb i o := by
  have e : ¬ i = σ.nk := by omega
  exact ⟨if_neg e, if_neg e, if_neg e, fun k => if_neg e, fun o => if_neg e⟩
theorem giv_n (σ : Ab) (K : Nat → Nat) (t : Nat) : (σ.giv K t).wh σ.nk = t ∧ (σ.giv K t).hd σ.nk = σ.inp t ∧ (σ.giv K t).le σ.nk = σ.de t ∧ (∀ k, (σ.giv K t).kc σ.nk k = σ.co k) ∧ ∀ o, (σ.giv K t).kb σ.nk o = K o := ⟨if_pos rfl, if_pos rfl, if_pos rfl, fun k => if_pos rfl, fun o => if_pos rfl⟩
theorem nk_cs {n i : Nat} (h : i < n + 1) : i < n ∨ i = n := by omega
theorem WF_giv {σ : Ab} {K : Nat → Nat} {t : Nat} (w : WF σ) (ht : t < σ.nt) (h : σ.nk < 200) (hr : σ.rdy K t) (hK : ∀ o, (σ.de t).testBit o = true → K o ≤ σ.nk) (hn : ∀ i, i < σ.nk → ¬ σ.mtc K t i) : WF (σ.giv K t) := by
  have n := giv_n σ K t
  have a1 : ∀ x, σ.la x ≤ σ.nk + 1 := fun x => Nat.le_succ_of_le (w.la x)
  have a2 : σ.nk + 1 ≤ 200 := by omega
  have a3 : ∀ i, i < σ.nk + 1 → (σ.giv K t).wh i < σ.nt := by
    intro i hi
    rcases nk_cs hi with q | q
    · rw [(giv_o q).1]; exact w.wh i q
    · rw [q, n.1]; exact ht
  have a4 : ∀ i, i < σ.nk + 1 → (σ.giv K t).hd i < 2 ^ σ.nf := by
    intro i hi
    rcases nk_cs hi with q | q
    · rw [(giv_o q).2.1]; exact w.hd i q
    · rw [q, n.2.1]; exact inp_lt σ t
  have a5 : ∀ i, i < σ.nk + 1 → (σ.giv K t).le i < 2 ^ σ.nt := by
    intro i hi
    rcases nk_cs hi with q | q
    · rw [(giv_o q).2.2.1]; exact w.le i q
    · rw [q, n.2.2.1]; exact w.de t
  have a6 : ∀ i k, i < σ.nk + 1 → ((σ.giv K t).hd i).testBit k = true → (σ.giv K t).kc i k ≤ 9999 := by
    intro i k hi hb
    rcases nk_cs hi with q | q
    · rw [(giv_o q).2.1] at hb
      rw [(giv_o q).2.2.2.1]; exact w.kc i k q hb
    · rw [q, n.2.1] at hb
      rw [q, n.2.2.2.1]
      exact w.co k (bit_le (inp_lt σ t) hb)
  have a7 : ∀ i o, i < σ.nk + 1 → ((σ.giv K t).le i).testBit o = true → 0 < (σ.giv K t).kb i o ∧ (σ.giv K t).kb i o ≤ i := by
    intro i o hi hb
    rcases nk_cs hi with q | q
    · rw [(giv_o q).2.2.1] at hb
      rw [(giv_o q).2.2.2.2]; exact w.kb i o q hb
    · rw [q, n.2.2.1] at hb
      rw [q, n.2.2.2.2]
      exact ⟨hr o hb, hK o hb⟩
  have a8 : ∀ i j, i < j → j < σ.nk + 1 → ¬ (σ.giv K t).sr i j := by
    intro i j hij hj
    have hi : i < σ.nk := by omega
    have oi := giv_o (K := K) (t := t) hi
    rcases nk_cs hj with q | q
    · have oj := giv_o (K := K) (t := t) q
      rintro ⟨h1, h2, h3, h4, h5⟩
      rw [oi.1, oj.1] at h1
      rw [oi.2.1, oj.2.1] at h2
      rw [oi.2.2.1, oj.2.2.1] at h3
      rw [oi.2.1] at h4
      rw [oi.2.2.1] at h5
      refine w.ku i j hij q ⟨h1, h2, h3, fun k hk => ?_, fun o ho => ?_⟩
      · have := h4 k hk
        rwa [oi.2.2.2.1, oj.2.2.2.1] at this
      · have := h5 o ho
        rwa [oi.2.2.2.2, oj.2.2.2.2] at this
    · rw [q]
      rintro ⟨h1, h2, h3, h4, h5⟩
      rw [oi.1, n.1] at h1
      rw [oi.2.1, n.2.1] at h2
      rw [oi.2.2.1, n.2.2.1] at h3
      rw [oi.2.1] at h4
      rw [oi.2.2.1] at h5
      refine hn i hi ⟨h1, ⟨h2, fun k hk => ?_⟩, h3, fun o ho => ?_⟩
      · have := h4 k (by rw [h2]; exact hk)
        rwa [oi.2.2.2.1, n.2.2.2.1] at this
      · have := h5 o (by rw [h3]; exact ho)
        rwa [oi.2.2.2.2, n.2.2.2.2] at this
  exact (WF.mk w.tx w.nf w.px w.pd w.th w.mt w.co w.mc w.nt w.cs w.gc w.g0 w.gx w.de w.d0 w.ac a1 w.l0 w.nr w.ow a2 a3 a4 a5 a6 a7 a8)
theorem WF_lat {σ : Ab} {t v : Nat} (w : WF σ) (ht : t < σ.nt) (hv : v ≤ σ.nk) : WF (σ.lat t v) := by
  have a1 : ∀ x, (if x = t then v else σ.la x) ≤ σ.nk := by
    intro x
    by_cases e : x = t
    · rw [if_pos e]; exact hv
    · rw [if_neg e]; exact w.la x
  have a2 : ∀ x, σ.nt ≤ x → (if x = t then v else σ.la x) = 0 := by
    intro x hx
    rw [if_neg (by omega)]; exact w.l0 x hx
  exact (WF.mk w.tx w.nf w.px w.pd w.th w.mt w.co w.mc w.nt w.cs w.gc w.g0 w.gx w.de w.d0 w.ac a1 a2 w.nr w.ow w.nk w.wh w.hd w.le w.kc w.kb w.ku)
theorem RC_lat {C : Mem} {σ : Ab} {t v : Nat} (w : WF σ) (r : RC C σ) : RC (mset C 441 t (nI v)) (σ.lat t v) := by
  have hnf := w.nf
  have hnk := w.nk
  have hnt := w.nt
  have hnr := w.nr
  have px : ∀ k, k < σ.nf → TV (mset C 441 t (nI v)) (7 + 2 * k) (σ.pn k) (σ.pf k) := by
    intro k hk
    simp (disch := omega) only [TV, mset_ne]
    exact r.px k hk
  have gx : ∀ t' k, t' < σ.nt → k < σ.gc t' → TV (mset C 441 t (nI v)) (60 + 11 * t' + 3 + 2 * k) (σ.gn (4 * t' + k)) (σ.gf (4 * t' + k)) := by
    intro t' k ht hk
    have := w.gc t'
    simp (disch := omega) only [TV, mset_ne]
    exact r.gx t' k ht hk
  have rf : ∀ i k, i < σ.nk → k < 24 → mset C 441 t (nI v) (238 + (i + 1)) k = nI (if (σ.hd i).testBit k then σ.kc i k + 1 else 0) := by
    intro i k hi hk
    rw [mset_ne (by omega)]
    exact r.rf i k hi hk
  have rt : ∀ i o, i < σ.nk → o < 16 → mset C 441 t (nI v) (238 + (i + 1)) (24 + o) = nI (if (σ.le i).testBit o then σ.kb i o else 0) := by
    intro i o hi ho
    rw [mset_ne (by omega)]
    exact r.rt i o hi ho
  have la : ∀ x, x < 16 → mset C 441 t (nI v) 441 x = nI (if x = t then v else σ.la x) := by
    intro x hx
    by_cases e : x = t
    · rw [if_pos e, e, mset_eq]
    · rw [if_neg e, mset_ne (by omega)]; exact r.la x hx
  exact (RC.mk (by intros; (try simp (disch := omega) only [TV, mset_ne]); first | exact r.tx | (apply r.tx <;> assumption)) (by intros; (try simp (disch := omega) only [TV, mset_ne]); first | exact r.nf | (apply r.nf <;> assumption)) (by intros; (try simp (disch := omega) only [TV, mset_ne]); first | exact r.th | (apply r.th <;> assumption)) (by intros; (try simp (disch := omega) only [TV, mset_ne]); first | exact r.mt | (apply r.mt <;> assumption)) (by intros; (try simp (disch := omega) only [TV, mset_ne]); first | exact r.co | (apply r.co <;> assumption)) (by intros; (try simp (disch := omega) only [TV, mset_ne]); first | exact r.mc | (apply r.mc <;> assumption)) px (by intros; (try simp (disch := omega) only [TV, mset_ne]); first | exact r.nt | (apply r.nt <;> assumption)) (by intros; (try simp (disch := omega) only [TV, mset_ne]); first | exact r.cs | (apply r.cs <;> assumption)) (by intros; (try simp (disch := omega) only [TV, mset_ne]); first | exact r.de | (apply r.de <;> assumption)) (by intros; (try simp (disch := omega) only [TV, mset_ne]); first | exact r.gc | (apply r.gc <;> assumption)) (by intros; (try simp (disch := omega) only [TV, mset_ne]); first | exact r.gm | (apply r.gm <;> assumption)) (by intros; (try simp (disch := omega) only [TV, mset_ne]); first | exact r.gv | (apply r.gv <;> assumption)) gx (by intros; (try simp (disch := omega) only [TV, mset_ne]); first | exact r.nk | (apply r.nk <;> assumption)) (by intros; (try simp (disch := omega) only [TV, mset_ne]); first | exact r.wh | (apply r.wh <;> assumption)) rf rt la (by intros; (try simp (disch := omega) only [TV, mset_ne]); first | exact r.nr | (apply r.nr <;> assumption)) (by intros; (try simp (disch := omega) only [TV, mset_ne]); first | exact r.nm | (apply r.nm <;> assumption)) (by intros; (try simp (disch := omega) only [TV, mset_ne]); first | exact r.rv | (apply r.rv <;> assumption)) (by intros; (try simp (disch := omega) only [TV, mset_ne]); first | exact r.rx | (apply r.rx <;> assumption)) (by intros; (try simp (disch := omega) only [TV, mset_ne]); first | exact r.ow | (apply r.ow <;> assumption)))
theorem RM_lat {M : Mem} {σ : Ab} {t v : Nat} (s : RM ou M σ) : RM ou (mset M 487 t (nI v)) (σ.lat t v) := by
  have la : ∀ x, x < 16 → mset M 487 t (nI v) 487 x = nI (if x = t then v else σ.la x) := by
    intro x hx
    by_cases e : x = t
    · rw [if_pos e, e, mset_eq]
    · rw [if_neg e, mset_ne (by omega)]; exact s.la x hx
  exact (RM.mk (by intros; (try simp (disch := omega) only [MV, PV, mset_ne]); first | exact s.o8 | (apply s.o8 <;> assumption)) (by intros; (try simp (disch := omega) only [MV, PV, mset_ne]); first | exact s.tx | (apply s.tx <;> assumption)) (by intros; (try simp (disch := omega) only [MV, PV, mset_ne]); first | exact s.nf | (apply s.nf <;> assumption)) (by intros; (try simp (disch := omega) only [MV, PV, mset_ne]); first | exact s.px | (apply s.px <;> assumption)) (by intros; (try simp (disch := omega) only [MV, PV, mset_ne]); first | exact s.th | (apply s.th <;> assumption)) (by intros; (try simp (disch := omega) only [MV, PV, mset_ne]); first | exact s.co | (apply s.co <;> assumption)) (by intros; (try simp (disch := omega) only [MV, PV, mset_ne]); first | exact s.mt | (apply s.mt <;> assumption)) (by intros; (try simp (disch := omega) only [MV, PV, mset_ne]); first | exact s.mc | (apply s.mc <;> assumption)) (by intros; (try simp (disch := omega) only [MV, PV, mset_ne]); first | exact s.nt | (apply s.nt <;> assumption)) (by intros; (try simp (disch := omega) only [MV, PV, mset_ne]); first | exact s.cs | (apply s.cs <;> assumption)) (by intros; (try simp (disch := omega) only [MV, PV, mset_ne]); first | exact s.gc | (apply s.gc <;> assumption)) (by intros; (try simp (disch := omega) only [MV, PV, mset_ne]); first | exact s.de | (apply s.de <;> assumption)) la (by intros; (try simp (disch := omega) only [MV, PV, mset_ne]); first | exact s.gx | (apply s.gx <;> assumption)) (by intros; (try simp (disch := omega) only [MV, PV, mset_ne]); first | exact s.nr | (apply s.nr <;> assumption)) (by intros; (try simp (disch := omega) only [MV, PV, mset_ne]); first | exact s.ow | (apply s.ow <;> assumption)) (by intros; (try simp (disch := omega) only [MV, PV, mset_ne]); first | exact s.nk | (apply s.nk <;> assumption)) (by intros; (try simp (disch := omega) only [MV, PV, mset_ne]); first | exact s.wh | (apply s.wh <;> assumption)) (by intros; (try simp (disch := omega) only [MV, PV, mset_ne]); first | exact s.hd | (apply s.hd <;> assumption)) (by intros; (try simp (disch := omega) only [MV, PV, mset_ne]); first | exact s.le | (apply s.le <;> assumption)) (by intros; (try simp (disch := omega) only [MV, PV, mset_ne]); first | exact s.kc | (apply s.kc <;> assumption)) (by intros; (try simp (disch := omega) only [MV, PV, mset_ne]); first | exact s.kb | (apply s.kb <;> assumption)))
theorem mcp_ne {C : Mem} {a b n k j : Nat} (h : k ≠ b) : mcpy C a b 0 0 n k j = C k j := by
  unfold mcpy
  rw [if_neg h]
theorem mcp_in {C : Mem} {a b n j : Nat} (h : j < n) : mcpy C a b 0 0 n b j = C a j := by
  unfold mcpy
  rw [if_pos rfl]
  unfold va_cpy
  rw [if_pos ⟨by omega, by omega⟩, show 0 + (j - 0) = j by omega]
theorem RC_giv {C C' : Mem} {σ : Ab} {K : Nat → Nat} {t : Nat} (w : WF σ) (r : RC C σ) (h : σ.nk < 200) (h1 : C' 236 7 = nI (σ.nk + 1)) (h2 : C' 439 (σ.nk + 1) = nI t) (h3 : ∀ j, j ≠ σ.nk + 1 → C' 439 j = C 439 j) (h4 : ∀ k, k < 24 → C' (238 + (σ.nk + 1)) k = nI (if (σ.inp t).testBit k then σ.co k + 1 else 0)) (h5 : ∀ o, o < 16 → C' (238 + (σ.nk + 1)) (24 + o) = nI (if (σ.de t).testBit o then K o else 0)) (e4 : ∀ k j, k ≠ 236 → k ≠ 439 → k ≠ 238 + (σ.nk + 1) → C' k j = C k j) : RC C' (σ.giv K t) := by
  have hnf := w.nf
  have hnt := w.nt
  have hnr := w.nr
  have n := giv_n σ K t
  have px : ∀ k, k < σ.nf → TV C' (7 + 2 * k) (σ.pn k) (σ.pf k) := by
    intro k hk
    simp (disch := omega) only [TV, e4]
    exact r.px k hk
  have gc : ∀ i, i < 16 → C' (60 + 11 * i) 3 = nI (σ.gc i) := by
    intro i hi
    rw [e4 _ _ (by omega) (by omega) (by omega)]
    exact r.gc i hi
  have gm : ∀ i, i < 16 → C' (60 + 11 * i) 2 = nI 4 := by
    intro i hi
    rw [e4 _ _ (by omega) (by omega) (by omega)]
    exact r.gm i hi
  have gv : ∀ t' k, t' < σ.nt → k < σ.gc t' → C' (60 + 11 * t' + 2) k = nI (σ.cv (4 * t' + k)) := by
    intro t' k ht hk
    rw [e4 _ _ (by omega) (by omega) (by omega)]
    exact r.gv t' k ht hk
  have gx : ∀ t' k, t' < σ.nt → k < σ.gc t' → TV C' (60 + 11 * t' + 3 + 2 * k) (σ.gn (4 * t' + k)) (σ.gf (4 * t' + k)) := by
    intro t' k ht hk
    have := w.gc t'
    simp (disch := omega) only [TV, e4]
    exact r.gx t' k ht hk
  have wh : ∀ i, i < σ.nk + 1 → C' 439 (i + 1) = nI ((σ.giv K t).wh i) := by
    intro i hi
    rcases nk_cs hi with q | q
    · rw [h3 _ (by omega), (giv_o q).1]; exact r.wh i q
    · rw [q, n.1]; exact h2
  have rf : ∀ i k, i < σ.nk + 1 → k < 24 → C' (238 + (i + 1)) k = nI (if ((σ.giv K t).hd i).testBit k then (σ.giv K t).kc i k + 1 else 0) := by
    intro i k hi hk
    rcases nk_cs hi with q | q
    · rw [e4 _ _ (by omega) (by omega) (by omega), (giv_o q).2.1, (giv_o q).2.2.2.1]; exact r.rf i k q hk
    · rw [q, n.2.1, n.2.2.2.1]; exact h4 k hk
  have rt : ∀ i o, i < σ.nk + 1 → o < 16 → C' (238 + (i + 1)) (24 + o) = nI (if ((σ.giv K t).le i).testBit o then (σ.giv K t).kb i o else 0) := by
    intro i o hi ho
    rcases nk_cs hi with q | q
    · rw [e4 _ _ (by omega) (by omega) (by omega), (giv_o q).2.2.1, (giv_o q).2.2.2.2]; exact r.rt i o q ho
    · rw [q, n.2.2.1, n.2.2.2.2]; exact h5 o ho
  have rx : ∀ k, k < σ.nr → TV C' (450 + 2 * k) (σ.gn (64 + k)) (σ.gf (64 + k)) := by
    intro k hk
    simp (disch := omega) only [TV, e4]
    exact r.rx k hk
  exact (RC.mk (by intros; (try simp (disch := omega) only [TV, mset_ne, e4]); first | exact r.tx | (apply r.tx <;> assumption)) (by intros; (try simp (disch := omega) only [TV, mset_ne, e4]); first | exact r.nf | (apply r.nf <;> assumption)) (by intros; (try simp (disch := omega) only [TV, mset_ne, e4]); first | exact r.th | (apply r.th <;> assumption)) (by intros; (try simp (disch := omega) only [TV, mset_ne, e4]); first | exact r.mt | (apply r.mt <;> assumption)) (by intros; (try simp (disch := omega) only [TV, mset_ne, e4]); first | exact r.co | (apply r.co <;> assumption)) (by intros; (try simp (disch := omega) only [TV, mset_ne, e4]); first | exact r.mc | (apply r.mc <;> assumption)) px (by intros; (try simp (disch := omega) only [TV, mset_ne, e4]); first | exact r.nt | (apply r.nt <;> assumption)) (by intros; (try simp (disch := omega) only [TV, mset_ne, e4]); first | exact r.cs | (apply r.cs <;> assumption)) (by intros; (try simp (disch := omega) only [TV, mset_ne, e4]); first | exact r.de | (apply r.de <;> assumption)) gc gm gv gx h1 wh rf rt (by intros; (try simp (disch := omega) only [TV, mset_ne, e4]); first | exact r.la | (apply r.la <;> assumption)) (by intros; (try simp (disch := omega) only [TV, mset_ne, e4]); first | exact r.nr | (apply r.nr <;> assumption)) (by intros; (try simp (disch := omega) only [TV, mset_ne, e4]); first | exact r.nm | (apply r.nm <;> assumption)) (by intros; (try simp (disch := omega) only [TV, mset_ne, e4]); first | exact r.rv | (apply r.rv <;> assumption)) rx (by intros; (try simp (disch := omega) only [TV, mset_ne, e4]); first | exact r.ow | (apply r.ow <;> assumption)))
theorem RM_giv {M M' : Mem} {σ : Ab} {K : Nat → Nat} {t : Nat} (w : WF σ) (s : RM ou M σ) (h : σ.nk < 200) (h0 : M' 475 16 = nI (σ.nk + 1)) (h1 : M' 489 σ.nk = nI t) (h2 : M' 490 σ.nk = nI (σ.inp t)) (h3 : M' 491 σ.nk = nI (σ.de t)) (h4 : ∀ k, k < σ.nf → M' 492 (24 * σ.nk + k) = nI (σ.co k)) (h5 : ∀ o, o < σ.nt → M' 493 (16 * σ.nk + o) = nI (K o)) (e4 : ∀ k j, ¬ (k = 475 ∧ j = 16) → ¬ (k = 489 ∧ j = σ.nk) → ¬ (k = 490 ∧ j = σ.nk) → ¬ (k = 491 ∧ j = σ.nk) → ¬ (k = 492 ∧ 24 * σ.nk ≤ j) → ¬ (k = 493 ∧ 16 * σ.nk ≤ j) → k ≠ 495 → M' k j = M k j) : RM ou M' (σ.giv K t) := by
  have hnf := w.nf
  have hnt := w.nt
  have n := giv_n σ K t
  have gx : ∀ q, σ.us q → MV M' q (σ.gn q) (σ.gf q) := by
    intro q hq
    simp (disch := omega) only [MV, e4]
    exact s.gx q hq
  have wh : ∀ i, i < σ.nk + 1 → M' 489 i = nI ((σ.giv K t).wh i) := by
    intro i hi
    rcases nk_cs hi with q | q
    · rw [e4 _ _ (by omega) (by omega) (by omega) (by omega) (by omega) (by omega) (by omega), (giv_o q).1]; exact s.wh i q
    · rw [q, n.1]; exact h1
  have hd : ∀ i, i < σ.nk + 1 → M' 490 i = nI ((σ.giv K t).hd i) := by
    intro i hi
    rcases nk_cs hi with q | q
    · rw [e4 _ _ (by omega) (by omega) (by omega) (by omega) (by omega) (by omega) (by omega), (giv_o q).2.1]; exact s.hd i q
    · rw [q, n.2.1]; exact h2
  have le : ∀ i, i < σ.nk + 1 → M' 491 i = nI ((σ.giv K t).le i) := by
    intro i hi
    rcases nk_cs hi with q | q
    · rw [e4 _ _ (by omega) (by omega) (by omega) (by omega) (by omega) (by omega) (by omega), (giv_o q).2.2.1]; exact s.le i q
    · rw [q, n.2.2.1]; exact h3
  have kc : ∀ i k, i < σ.nk + 1 → ((σ.giv K t).hd i).testBit k = true → M' 492 (24 * i + k) = nI ((σ.giv K t).kc i k) := by
    intro i k hi hb
    rcases nk_cs hi with q | q
    · rw [(giv_o q).2.1] at hb
      have := bit_le (w.hd i q) hb
      rw [e4 _ _ (by omega) (by omega) (by omega) (by omega) (by omega) (by omega) (by omega), (giv_o q).2.2.2.1]; exact s.kc i k q hb
    · rw [q, n.2.1] at hb
      rw [q, n.2.2.2.1]; exact h4 k (bit_le (inp_lt σ t) hb)
  have kb : ∀ i o, i < σ.nk + 1 → ((σ.giv K t).le i).testBit o = true → M' 493 (16 * i + o) = nI ((σ.giv K t).kb i o) := by
    intro i o hi hb
    rcases nk_cs hi with q | q
    · rw [(giv_o q).2.2.1] at hb
      have := bit_le (w.le i q) hb
      rw [e4 _ _ (by omega) (by omega) (by omega) (by omega) (by omega) (by omega) (by omega), (giv_o q).2.2.2.2]; exact s.kb i o q hb
    · rw [q, n.2.2.1] at hb
      rw [q, n.2.2.2.2]; exact h5 o (bit_le (w.de t) hb)
  exact (RM.mk (by intros; (try simp (disch := omega) only [MV, PV, mset_ne, e4]); first | exact s.o8 | (apply s.o8 <;> assumption)) (by intros; (try simp (disch := omega) only [MV, PV, mset_ne, e4]); first | exact s.tx | (apply s.tx <;> assumption)) (by intros; (try simp (disch := omega) only [MV, PV, mset_ne, e4]); first | exact s.nf | (apply s.nf <;> assumption)) (by intros; (try simp (disch := omega) only [MV, PV, mset_ne, e4]); first | exact s.px | (apply s.px <;> assumption)) (by intros; (try simp (disch := omega) only [MV, PV, mset_ne, e4]); first | exact s.th | (apply s.th <;> assumption)) (by intros; (try simp (disch := omega) only [MV, PV, mset_ne, e4]); first | exact s.co | (apply s.co <;> assumption)) (by intros; (try simp (disch := omega) only [MV, PV, mset_ne, e4]); first | exact s.mt | (apply s.mt <;> assumption)) (by intros; (try simp (disch := omega) only [MV, PV, mset_ne, e4]); first | exact s.mc | (apply s.mc <;> assumption)) (by intros; (try simp (disch := omega) only [MV, PV, mset_ne, e4]); first | exact s.nt | (apply s.nt <;> assumption)) (by intros; (try simp (disch := omega) only [MV, PV, mset_ne, e4]); first | exact s.cs | (apply s.cs <;> assumption)) (by intros; (try simp (disch := omega) only [MV, PV, mset_ne, e4]); first | exact s.gc | (apply s.gc <;> assumption)) (by intros; (try simp (disch := omega) only [MV, PV, mset_ne, e4]); first | exact s.de | (apply s.de <;> assumption)) (by intros; (try simp (disch := omega) only [MV, PV, mset_ne, e4]); first | exact s.la | (apply s.la <;> assumption)) gx (by intros; (try simp (disch := omega) only [MV, PV, mset_ne, e4]); first | exact s.nr | (apply s.nr <;> assumption)) (by intros; (try simp (disch := omega) only [MV, PV, mset_ne, e4]); first | exact s.ow | (apply s.ow <;> assumption)) h0 wh hd le kc kb)
