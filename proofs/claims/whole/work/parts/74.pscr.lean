/-! scratch of the class: present, row, loads, places -/
theorem RC_scr {C : Mem} {σ : Ab} {q j : Nat} {x : Int32} (w : WF σ) (r : RC C σ) (hq : q = 440 ∨ q = 442 ∨ q = 444 ∨ q = 445) : RC (mset C q j x) σ := by
  have hnf := w.nf
  have hnk := w.nk
  have hnt := w.nt
  have hnr := w.nr
  have px : ∀ k, k < σ.nf → TV (mset C q j x) (7 + 2 * k) (σ.pn k) (σ.pf k) := by
    intro k hk
    simp (disch := omega) only [TV, mset_ne]
    exact r.px k hk
  have gx : ∀ t k, t < σ.nt → k < σ.gc t → TV (mset C q j x) (60 + 11 * t + 3 + 2 * k) (σ.gn (4 * t + k)) (σ.gf (4 * t + k)) := by
    intro t k ht hk
    have := w.gc t
    simp (disch := omega) only [TV, mset_ne]
    exact r.gx t k ht hk
  have rf : ∀ i k, i < σ.nk → k < 24 → mset C q j x (238 + (i + 1)) k = nI (if (σ.hd i).testBit k then σ.kc i k + 1 else 0) := by
    intro i k hi hk
    rw [mset_ne (by omega)]
    exact r.rf i k hi hk
  have rt : ∀ i t, i < σ.nk → t < 16 → mset C q j x (238 + (i + 1)) (24 + t) = nI (if (σ.le i).testBit t then σ.kb i t else 0) := by
    intro i t hi ht
    rw [mset_ne (by omega)]
    exact r.rt i t hi ht
  exact (RC.mk (by intros; (try simp (disch := omega) only [TV, mset_ne]); first | exact r.tx | (apply r.tx <;> assumption)) (by intros; (try simp (disch := omega) only [TV, mset_ne]); first | exact r.nf | (apply r.nf <;> assumption)) (by intros; (try simp (disch := omega) only [TV, mset_ne]); first | exact r.th | (apply r.th <;> assumption)) (by intros; (try simp (disch := omega) only [TV, mset_ne]); first | exact r.mt | (apply r.mt <;> assumption)) (by intros; (try simp (disch := omega) only [TV, mset_ne]); first | exact r.co | (apply r.co <;> assumption)) (by intros; (try simp (disch := omega) only [TV, mset_ne]); first | exact r.mc | (apply r.mc <;> assumption)) px (by intros; (try simp (disch := omega) only [TV, mset_ne]); first | exact r.nt | (apply r.nt <;> assumption)) (by intros; (try simp (disch := omega) only [TV, mset_ne]); first | exact r.cs | (apply r.cs <;> assumption)) (by intros; (try simp (disch := omega) only [TV, mset_ne]); first | exact r.de | (apply r.de <;> assumption)) (by intros; (try simp (disch := omega) only [TV, mset_ne]); first | exact r.gc | (apply r.gc <;> assumption)) (by intros; (try simp (disch := omega) only [TV, mset_ne]); first | exact r.gm | (apply r.gm <;> assumption)) (by intros; (try simp (disch := omega) only [TV, mset_ne]); first | exact r.gv | (apply r.gv <;> assumption)) gx (by intros; (try simp (disch := omega) only [TV, mset_ne]); first | exact r.nk | (apply r.nk <;> assumption)) (by intros; (try simp (disch := omega) only [TV, mset_ne]); first | exact r.wh | (apply r.wh <;> assumption)) rf rt (by intros; (try simp (disch := omega) only [TV, mset_ne]); first | exact r.la | (apply r.la <;> assumption)) (by intros; (try simp (disch := omega) only [TV, mset_ne]); first | exact r.nr | (apply r.nr <;> assumption)) (by intros; (try simp (disch := omega) only [TV, mset_ne]); first | exact r.nm | (apply r.nm <;> assumption)) (by intros; (try simp (disch := omega) only [TV, mset_ne]); first | exact r.rv | (apply r.rv <;> assumption)) (by intros; (try simp (disch := omega) only [TV, mset_ne]); first | exact r.rx | (apply r.rx <;> assumption)) (by intros; (try simp (disch := omega) only [TV, mset_ne]); first | exact r.ow | (apply r.ow <;> assumption)))
