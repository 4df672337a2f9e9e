variable {ou : Int32}
/-! whether a glob matches a path, by numbers alone -/
def M1c (n : Nat) (f : Nat → Nat) (m : Nat) (g : Nat → Nat) : Mem := fun k j => if k = 479 then nI n else if k = 478 then nI (f j) else if k = 477 then nI m else nI (g j)
def C1c (n : Nat) (f : Nat → Nat) (m : Nat) (g : Nat → Nat) : Mem := fun k j => if k = 3 then nI n else if k = 4 then nI (f j) else if k = 1 then nI m else nI (g j)
/-- n signs: some text -/
def TX (n : Nat) (f : Nat → Nat) : Prop := n ≤ 24 ∧ ∀ j, j < n → f j < 128
noncomputable def mat (n : Nat) (f : Nat → Nat) (m : Nat) (g : Nat → Nat) : Bool := @decide (fX8_isMatched (M1c n f m g) (nI 0) (nI 0) = some (nI 1)) (Classical.propDecidable _)
theorem tv_tx {C : Mem} {o n : Nat} {f : Nat → Nat} (h : TV C o n f) : TX n f := ⟨h.2.1, fun j hj => (h.2.2 j hj).2⟩
theorem mv_tx {M : Mem} {q n : Nat} {f : Nat → Nat} (h : MV M q n f) : TX n f := ⟨h.2.1, fun j hj => (h.2.2 j hj).2⟩
theorem pv_tx {M : Mem} {q n : Nat} {f : Nat → Nat} (h : PV M q n f) : TX n f := ⟨h.2.1, fun j hj => (h.2.2 j hj).2⟩
theorem M1p {n m : Nat} {f g : Nat → Nat} (h : TX n f) : PV (M1c n f m g) 0 n f := ⟨rfl, h.1, fun j hj => ⟨by show nI (f (24 * 0 + j)) = _; rw [Nat.mul_zero, Nat.zero_add], h.2 j hj⟩⟩
theorem M1g {n m : Nat} {f g : Nat → Nat} (h : TX m g) : MV (M1c n f m g) 0 m g := ⟨rfl, h.1, fun j hj => ⟨by show nI (g (24 * 0 + j)) = _; rw [Nat.mul_zero, Nat.zero_add], h.2 j hj⟩⟩
theorem C1p {n m : Nat} {f g : Nat → Nat} (h : TX n f) : TV (C1c n f m g) 3 n f := ⟨rfl, h.1, fun j hj => ⟨rfl, h.2 j hj⟩⟩
theorem C1g {n m : Nat} {f g : Nat → Nat} (h : TX m g) : TV (C1c n f m g) 1 m g := ⟨rfl, h.1, fun j hj => ⟨rfl, h.2 j hj⟩⟩
theorem b01 {b c : Bool} (h : nI (if b then 1 else 0) = nI (if c then 1 else 0)) : b = c := by
  cases b <;> cases c <;> first | rfl | exact absurd h (by decide)
theorem mat_b {n m : Nat} {f g : Nat → Nat} {b : Bool} (h : fX8_isMatched (M1c n f m g) (nI 0) (nI 0) = some (nI (if b then 1 else 0))) : mat n f m g = b := by
  unfold mat
  cases b
  · refine @decide_eq_false _ (Classical.propDecidable _) (fun q => ?_)
    rw [h] at q
    exact absurd (Option.some.inj q) (by decide)
  · exact @decide_eq_true _ (Classical.propDecidable _) h
theorem c_mat {C : Mem} {o p n m : Nat} {f g : Nat → Nat} (hp : TV C p n f) (hg : TV C o m g) (hf : ¬ HE n f) (hD : ¬ HD m g) : fX6_covers C o p = some (nI (if mat n f m g then 1 else 0)) := by
  obtain ⟨b, b1, b2⟩ := cov_eq hp hg (M1p (m := m) (g := g) (tv_tx hp)) (by decide) (M1g (n := n) (f := f) (tv_tx hg)) (by decide) hf hD
  rw [b1, mat_b b2]
theorem m_mat {M : Mem} {q n r m : Nat} {f g : Nat → Nat} (h : PV M q n f) (hq : q < 24) (hm : MV M r m g) (hr : r < 77) (hf : ¬ HE n f) (hD : ¬ HD m g) : fX8_isMatched M (nI r) (nI q) = some (nI (if mat n f m g then 1 else 0)) := by
  obtain ⟨b, b1, b2⟩ := cov_eq (C1p (m := m) (g := g) (pv_tx h)) (C1g (n := n) (f := f) (mv_tx hm)) h hq hm hr hf hD
  have b3 := c_mat (C1p (m := m) (g := g) (pv_tx h)) (C1g (n := n) (f := f) (mv_tx hm)) hf hD
  rw [b1] at b3
  rw [b2, b01 (Option.some.inj b3)]
/-! what both sides hold -/
abbrev Ab := Nat → Nat → Nat → Nat
def Ab.tn (σ : Ab) : Nat := σ 0 0 0
def Ab.nf (σ : Ab) : Nat := σ 1 0 0
def Ab.th (σ : Ab) : Nat := σ 2 0 0
def Ab.mt (σ : Ab) : Nat := σ 3 0 0
def Ab.nt (σ : Ab) : Nat := σ 4 0 0
def Ab.nr (σ : Ab) : Nat := σ 5 0 0
def Ab.nk (σ : Ab) : Nat := σ 6 0 0
def Ab.tf (σ : Ab) (i : Nat) : Nat := σ 7 i 0
def Ab.pn (σ : Ab) (i : Nat) : Nat := σ 8 i 0
def Ab.co (σ : Ab) (i : Nat) : Nat := σ 9 i 0
def Ab.mc (σ : Ab) (i : Nat) : Nat := σ 10 i 0
def Ab.cs (σ : Ab) (i : Nat) : Nat := σ 11 i 0
def Ab.gc (σ : Ab) (i : Nat) : Nat := σ 12 i 0
def Ab.gn (σ : Ab) (i : Nat) : Nat := σ 13 i 0
def Ab.de (σ : Ab) (i : Nat) : Nat := σ 14 i 0
def Ab.la (σ : Ab) (i : Nat) : Nat := σ 15 i 0
def Ab.ow (σ : Ab) (i : Nat) : Nat := σ 16 i 0
def Ab.wh (σ : Ab) (i : Nat) : Nat := σ 17 i 0
def Ab.hd (σ : Ab) (i : Nat) : Nat := σ 18 i 0
def Ab.le (σ : Ab) (i : Nat) : Nat := σ 19 i 0
def Ab.pf (σ : Ab) (i j : Nat) : Nat := σ 20 i j
def Ab.gf (σ : Ab) (i j : Nat) : Nat := σ 21 i j
def Ab.kc (σ : Ab) (i j : Nat) : Nat := σ 22 i j
def Ab.kb (σ : Ab) (i j : Nat) : Nat := σ 23 i j
/-- a slot of the globs that is in use -/
def Ab.us (σ : Ab) (q : Nat) : Prop := (∃ t k, t < σ.nt ∧ k < σ.gc t ∧ q = 4 * t + k) ∨ ∃ k, k < σ.nr ∧ q = 64 + k
/-- the files that slot q matches, as bits -/
noncomputable def Ab.cv (σ : Ab) (q : Nat) : Nat := msk (fun k => mat (σ.pn k) (σ.pf k) (σ.gn q) (σ.gf q)) σ.nf
/-- two keys with the same row -/
def Ab.sr (σ : Ab) (i j : Nat) : Prop := σ.wh i = σ.wh j ∧ σ.hd i = σ.hd j ∧ σ.le i = σ.le j ∧ (∀ k, (σ.hd i).testBit k = true → σ.kc i k = σ.kc j k) ∧ ∀ t, (σ.le i).testBit t = true → σ.kb i t = σ.kb j t
abbrev WF (σ : Ab) : Prop := (TX σ.tn σ.tf) ∧ (σ.nf ≤ 24) ∧ (∀ k, k < σ.nf → TX (σ.pn k) (σ.pf k) ∧ isP (σ.pn k) (σ.pf k)) ∧ (∀ i j, i < j → j < σ.nf → ¬ (σ.pn i = σ.pn j ∧ ∀ x, x < σ.pn j → σ.pf i x = σ.pf j x)) ∧ (σ.th < 2 ^ σ.nf) ∧ (σ.mt < 2 ^ σ.nf) ∧ (∀ k, k < σ.nf → σ.co k ≤ 9999) ∧ (∀ k, σ.mt.testBit k = true → σ.mc k ≤ 9999) ∧ (σ.nt ≤ 16) ∧ (∀ t, t < σ.nt → 1 ≤ σ.cs t ∧ σ.cs t ≤ 1000) ∧ (∀ t, σ.gc t ≤ 4) ∧ (∀ t, σ.nt ≤ t → σ.gc t = 0) ∧ (∀ q, σ.us q → TX (σ.gn q) (σ.gf q) ∧ isG (σ.gn q) (σ.gf q)) ∧ (∀ t, σ.de t < 2 ^ σ.nt) ∧ (∀ t, σ.nt ≤ t → σ.de t = 0) ∧ (∃ rk : Nat → Nat, ∀ t o, (σ.de t).testBit o = true → rk o < rk t) ∧ (∀ t, σ.la t ≤ σ.nk) ∧ (∀ t, σ.nt ≤ t → σ.la t = 0) ∧ (σ.nr ≤ 12) ∧ (∀ k, k < σ.nr → σ.ow k ≤ 7) ∧ (σ.nk ≤ 200) ∧ (∀ i, i < σ.nk → σ.wh i < σ.nt) ∧ (∀ i, i < σ.nk → σ.hd i < 2 ^ σ.nf) ∧ (∀ i, i < σ.nk → σ.le i < 2 ^ σ.nt) ∧ (∀ i k, i < σ.nk → (σ.hd i).testBit k = true → σ.kc i k ≤ 9999) ∧ (∀ i t, i < σ.nk → (σ.le i).testBit t = true → 0 < σ.kb i t ∧ σ.kb i t ≤ i) ∧ (∀ i j, i < j → j < σ.nk → ¬ σ.sr i j)
theorem WF.tx {σ : Ab} (h : WF σ) : TX σ.tn σ.tf := h.1
theorem WF.nf {σ : Ab} (h : WF σ) : σ.nf ≤ 24 := h.2.1
theorem WF.px {σ : Ab} (h : WF σ) : ∀ k, k < σ.nf → TX (σ.pn k) (σ.pf k) ∧ isP (σ.pn k) (σ.pf k) := h.2.2.1
theorem WF.pd {σ : Ab} (h : WF σ) : ∀ i j, i < j → j < σ.nf → ¬ (σ.pn i = σ.pn j ∧ ∀ x, x < σ.pn j → σ.pf i x = σ.pf j x) := h.2.2.2.1
theorem WF.th {σ : Ab} (h : WF σ) : σ.th < 2 ^ σ.nf := h.2.2.2.2.1
theorem WF.mt {σ : Ab} (h : WF σ) : σ.mt < 2 ^ σ.nf := h.2.2.2.2.2.1
theorem WF.co {σ : Ab} (h : WF σ) : ∀ k, k < σ.nf → σ.co k ≤ 9999 := h.2.2.2.2.2.2.1
theorem WF.mc {σ : Ab} (h : WF σ) : ∀ k, σ.mt.testBit k = true → σ.mc k ≤ 9999 := h.2.2.2.2.2.2.2.1
theorem WF.nt {σ : Ab} (h : WF σ) : σ.nt ≤ 16 := h.2.2.2.2.2.2.2.2.1
theorem WF.cs {σ : Ab} (h : WF σ) : ∀ t, t < σ.nt → 1 ≤ σ.cs t ∧ σ.cs t ≤ 1000 := h.2.2.2.2.2.2.2.2.2.1
theorem WF.gc {σ : Ab} (h : WF σ) : ∀ t, σ.gc t ≤ 4 := h.2.2.2.2.2.2.2.2.2.2.1
theorem WF.g0 {σ : Ab} (h : WF σ) : ∀ t, σ.nt ≤ t → σ.gc t = 0 := h.2.2.2.2.2.2.2.2.2.2.2.1
theorem WF.gx {σ : Ab} (h : WF σ) : ∀ q, σ.us q → TX (σ.gn q) (σ.gf q) ∧ isG (σ.gn q) (σ.gf q) := h.2.2.2.2.2.2.2.2.2.2.2.2.1
theorem WF.de {σ : Ab} (h : WF σ) : ∀ t, σ.de t < 2 ^ σ.nt := h.2.2.2.2.2.2.2.2.2.2.2.2.2.1
theorem WF.d0 {σ : Ab} (h : WF σ) : ∀ t, σ.nt ≤ t → σ.de t = 0 := h.2.2.2.2.2.2.2.2.2.2.2.2.2.2.1
theorem WF.ac {σ : Ab} (h : WF σ) : ∃ rk : Nat → Nat, ∀ t o, (σ.de t).testBit o = true → rk o < rk t := h.2.2.2.2.2.2.2.2.2.2.2.2.2.2.2.1
theorem WF.la {σ : Ab} (h : WF σ) : ∀ t, σ.la t ≤ σ.nk := h.2.2.2.2.2.2.2.2.2.2.2.2.2.2.2.2.1
theorem WF.l0 {σ : Ab} (h : WF σ) : ∀ t, σ.nt ≤ t → σ.la t = 0 := h.2.2.2.2.2.2.2.2.2.2.2.2.2.2.2.2.2.1
theorem WF.nr {σ : Ab} (h : WF σ) : σ.nr ≤ 12 := h.2.2.2.2.2.2.2.2.2.2.2.2.2.2.2.2.2.2.1
theorem WF.ow {σ : Ab} (h : WF σ) : ∀ k, k < σ.nr → σ.ow k ≤ 7 := h.2.2.2.2.2.2.2.2.2.2.2.2.2.2.2.2.2.2.2.1
theorem WF.nk {σ : Ab} (h : WF σ) : σ.nk ≤ 200 := h.2.2.2.2.2.2.2.2.2.2.2.2.2.2.2.2.2.2.2.2.1
theorem WF.wh {σ : Ab} (h : WF σ) : ∀ i, i < σ.nk → σ.wh i < σ.nt := h.2.2.2.2.2.2.2.2.2.2.2.2.2.2.2.2.2.2.2.2.2.1
theorem WF.hd {σ : Ab} (h : WF σ) : ∀ i, i < σ.nk → σ.hd i < 2 ^ σ.nf := h.2.2.2.2.2.2.2.2.2.2.2.2.2.2.2.2.2.2.2.2.2.2.1
theorem WF.le {σ : Ab} (h : WF σ) : ∀ i, i < σ.nk → σ.le i < 2 ^ σ.nt := h.2.2.2.2.2.2.2.2.2.2.2.2.2.2.2.2.2.2.2.2.2.2.2.1
theorem WF.kc {σ : Ab} (h : WF σ) : ∀ i k, i < σ.nk → (σ.hd i).testBit k = true → σ.kc i k ≤ 9999 := h.2.2.2.2.2.2.2.2.2.2.2.2.2.2.2.2.2.2.2.2.2.2.2.2.1
theorem WF.kb {σ : Ab} (h : WF σ) : ∀ i t, i < σ.nk → (σ.le i).testBit t = true → 0 < σ.kb i t ∧ σ.kb i t ≤ i := h.2.2.2.2.2.2.2.2.2.2.2.2.2.2.2.2.2.2.2.2.2.2.2.2.2.1
theorem WF.ku {σ : Ab} (h : WF σ) : ∀ i j, i < j → j < σ.nk → ¬ σ.sr i j := h.2.2.2.2.2.2.2.2.2.2.2.2.2.2.2.2.2.2.2.2.2.2.2.2.2.2
theorem WF.mk {σ : Ab} (h0 : TX σ.tn σ.tf) (h1 : σ.nf ≤ 24) (h2 : ∀ k, k < σ.nf → TX (σ.pn k) (σ.pf k) ∧ isP (σ.pn k) (σ.pf k)) (h3 : ∀ i j, i < j → j < σ.nf → ¬ (σ.pn i = σ.pn j ∧ ∀ x, x < σ.pn j → σ.pf i x = σ.pf j x)) (h4 : σ.th < 2 ^ σ.nf) (h5 : σ.mt < 2 ^ σ.nf) (h6 : ∀ k, k < σ.nf → σ.co k ≤ 9999) (h7 : ∀ k, σ.mt.testBit k = true → σ.mc k ≤ 9999) (h8 : σ.nt ≤ 16) (h9 : ∀ t, t < σ.nt → 1 ≤ σ.cs t ∧ σ.cs t ≤ 1000) (h10 : ∀ t, σ.gc t ≤ 4) (h11 : ∀ t, σ.nt ≤ t → σ.gc t = 0) (h12 : ∀ q, σ.us q → TX (σ.gn q) (σ.gf q) ∧ isG (σ.gn q) (σ.gf q)) (h13 : ∀ t, σ.de t < 2 ^ σ.nt) (h14 : ∀ t, σ.nt ≤ t → σ.de t = 0) (h15 : ∃ rk : Nat → Nat, ∀ t o, (σ.de t).testBit o = true → rk o < rk t) (h16 : ∀ t, σ.la t ≤ σ.nk) (h17 : ∀ t, σ.nt ≤ t → σ.la t = 0) (h18 : σ.nr ≤ 12) (h19 : ∀ k, k < σ.nr → σ.ow k ≤ 7) (h20 : σ.nk ≤ 200) (h21 : ∀ i, i < σ.nk → σ.wh i < σ.nt) (h22 : ∀ i, i < σ.nk → σ.hd i < 2 ^ σ.nf) (h23 : ∀ i, i < σ.nk → σ.le i < 2 ^ σ.nt) (h24 : ∀ i k, i < σ.nk → (σ.hd i).testBit k = true → σ.kc i k ≤ 9999) (h25 : ∀ i t, i < σ.nk → (σ.le i).testBit t = true → 0 < σ.kb i t ∧ σ.kb i t ≤ i) (h26 : ∀ i j, i < j → j < σ.nk → ¬ σ.sr i j) : WF σ := ⟨h0, h1, h2, h3, h4, h5, h6, h7, h8, h9, h10, h11, h12, h13, h14, h15, h16, h17, h18, h19, h20, h21, h22, h23, h24, h25, h26⟩
abbrev RC (C : Mem) (σ : Ab) : Prop := (TV C 1 σ.tn σ.tf) ∧ (C 3 3 = nI σ.nf) ∧ (C 3 4 = nI σ.th) ∧ (C 3 5 = nI σ.mt) ∧ (∀ k, k < σ.nf → C 5 k = nI (σ.co k)) ∧ (∀ k, σ.mt.testBit k = true → C 6 k = nI (σ.mc k)) ∧ (∀ k, k < σ.nf → TV C (7 + 2 * k) (σ.pn k) (σ.pf k)) ∧ (C 55 4 = nI σ.nt) ∧ (∀ t, t < σ.nt → C 56 t = nI (σ.cs t)) ∧ (∀ t, t < 16 → C 57 t = nI (σ.de t)) ∧ (∀ t, t < 16 → C (60 + 11 * t) 3 = nI (σ.gc t)) ∧ (∀ t, t < 16 → C (60 + 11 * t) 2 = nI 4) ∧ (∀ t k, t < σ.nt → k < σ.gc t → C (60 + 11 * t + 2) k = nI (σ.cv (4 * t + k))) ∧ (∀ t k, t < σ.nt → k < σ.gc t → TV C (60 + 11 * t + 3 + 2 * k) (σ.gn (4 * t + k)) (σ.gf (4 * t + k))) ∧ (C 236 7 = nI σ.nk) ∧ (∀ i, i < σ.nk → C 439 (i + 1) = nI (σ.wh i)) ∧ (∀ i k, i < σ.nk → k < 24 → C (238 + (i + 1)) k = nI (if (σ.hd i).testBit k then σ.kc i k + 1 else 0)) ∧ (∀ i t, i < σ.nk → t < 16 → C (238 + (i + 1)) (24 + t) = nI (if (σ.le i).testBit t then σ.kb i t else 0)) ∧ (∀ t, t < 16 → C 441 t = nI (σ.la t)) ∧ (C 447 3 = nI σ.nr) ∧ (C 447 2 = nI 12) ∧ (∀ k, k < σ.nr → C 449 k = nI (σ.cv (64 + k))) ∧ (∀ k, k < σ.nr → TV C (450 + 2 * k) (σ.gn (64 + k)) (σ.gf (64 + k))) ∧ (∀ k, k < σ.nr → C 474 k = nI (σ.ow k))
theorem RC.tx {C : Mem} {σ : Ab} (h : RC C σ) : TV C 1 σ.tn σ.tf := h.1
theorem RC.nf {C : Mem} {σ : Ab} (h : RC C σ) : C 3 3 = nI σ.nf := h.2.1
theorem RC.th {C : Mem} {σ : Ab} (h : RC C σ) : C 3 4 = nI σ.th := h.2.2.1
theorem RC.mt {C : Mem} {σ : Ab} (h : RC C σ) : C 3 5 = nI σ.mt := h.2.2.2.1
theorem RC.co {C : Mem} {σ : Ab} (h : RC C σ) : ∀ k, k < σ.nf → C 5 k = nI (σ.co k) := h.2.2.2.2.1
theorem RC.mc {C : Mem} {σ : Ab} (h : RC C σ) : ∀ k, σ.mt.testBit k = true → C 6 k = nI (σ.mc k) := h.2.2.2.2.2.1
theorem RC.px {C : Mem} {σ : Ab} (h : RC C σ) : ∀ k, k < σ.nf → TV C (7 + 2 * k) (σ.pn k) (σ.pf k) := h.2.2.2.2.2.2.1
theorem RC.nt {C : Mem} {σ : Ab} (h : RC C σ) : C 55 4 = nI σ.nt := h.2.2.2.2.2.2.2.1
theorem RC.cs {C : Mem} {σ : Ab} (h : RC C σ) : ∀ t, t < σ.nt → C 56 t = nI (σ.cs t) := h.2.2.2.2.2.2.2.2.1
theorem RC.de {C : Mem} {σ : Ab} (h : RC C σ) : ∀ t, t < 16 → C 57 t = nI (σ.de t) := h.2.2.2.2.2.2.2.2.2.1
theorem RC.gc {C : Mem} {σ : Ab} (h : RC C σ) : ∀ t, t < 16 → C (60 + 11 * t) 3 = nI (σ.gc t) := h.2.2.2.2.2.2.2.2.2.2.1
theorem RC.gm {C : Mem} {σ : Ab} (h : RC C σ) : ∀ t, t < 16 → C (60 + 11 * t) 2 = nI 4 := h.2.2.2.2.2.2.2.2.2.2.2.1
theorem RC.gv {C : Mem} {σ : Ab} (h : RC C σ) : ∀ t k, t < σ.nt → k < σ.gc t → C (60 + 11 * t + 2) k = nI (σ.cv (4 * t + k)) := h.2.2.2.2.2.2.2.2.2.2.2.2.1
theorem RC.gx {C : Mem} {σ : Ab} (h : RC C σ) : ∀ t k, t < σ.nt → k < σ.gc t → TV C (60 + 11 * t + 3 + 2 * k) (σ.gn (4 * t + k)) (σ.gf (4 * t + k)) := h.2.2.2.2.2.2.2.2.2.2.2.2.2.1
theorem RC.nk {C : Mem} {σ : Ab} (h : RC C σ) : C 236 7 = nI σ.nk := h.2.2.2.2.2.2.2.2.2.2.2.2.2.2.1
theorem RC.wh {C : Mem} {σ : Ab} (h : RC C σ) : ∀ i, i < σ.nk → C 439 (i + 1) = nI (σ.wh i) := h.2.2.2.2.2.2.2.2.2.2.2.2.2.2.2.1
theorem RC.rf {C : Mem} {σ : Ab} (h : RC C σ) : ∀ i k, i < σ.nk → k < 24 → C (238 + (i + 1)) k = nI (if (σ.hd i).testBit k then σ.kc i k + 1 else 0) := h.2.2.2.2.2.2.2.2.2.2.2.2.2.2.2.2.1
theorem RC.rt {C : Mem} {σ : Ab} (h : RC C σ) : ∀ i t, i < σ.nk → t < 16 → C (238 + (i + 1)) (24 + t) = nI (if (σ.le i).testBit t then σ.kb i t else 0) := h.2.2.2.2.2.2.2.2.2.2.2.2.2.2.2.2.2.1
theorem RC.la {C : Mem} {σ : Ab} (h : RC C σ) : ∀ t, t < 16 → C 441 t = nI (σ.la t) := h.2.2.2.2.2.2.2.2.2.2.2.2.2.2.2.2.2.2.1
theorem RC.nr {C : Mem} {σ : Ab} (h : RC C σ) : C 447 3 = nI σ.nr := h.2.2.2.2.2.2.2.2.2.2.2.2.2.2.2.2.2.2.2.1
theorem RC.nm {C : Mem} {σ : Ab} (h : RC C σ) : C 447 2 = nI 12 := h.2.2.2.2.2.2.2.2.2.2.2.2.2.2.2.2.2.2.2.2.1
theorem RC.rv {C : Mem} {σ : Ab} (h : RC C σ) : ∀ k, k < σ.nr → C 449 k = nI (σ.cv (64 + k)) := h.2.2.2.2.2.2.2.2.2.2.2.2.2.2.2.2.2.2.2.2.2.1
theorem RC.rx {C : Mem} {σ : Ab} (h : RC C σ) : ∀ k, k < σ.nr → TV C (450 + 2 * k) (σ.gn (64 + k)) (σ.gf (64 + k)) := h.2.2.2.2.2.2.2.2.2.2.2.2.2.2.2.2.2.2.2.2.2.2.1
theorem RC.ow {C : Mem} {σ : Ab} (h : RC C σ) : ∀ k, k < σ.nr → C 474 k = nI (σ.ow k) := h.2.2.2.2.2.2.2.2.2.2.2.2.2.2.2.2.2.2.2.2.2.2.2
theorem RC.mk {C : Mem} {σ : Ab} (h0 : TV C 1 σ.tn σ.tf) (h1 : C 3 3 = nI σ.nf) (h2 : C 3 4 = nI σ.th) (h3 : C 3 5 = nI σ.mt) (h4 : ∀ k, k < σ.nf → C 5 k = nI (σ.co k)) (h5 : ∀ k, σ.mt.testBit k = true → C 6 k = nI (σ.mc k)) (h6 : ∀ k, k < σ.nf → TV C (7 + 2 * k) (σ.pn k) (σ.pf k)) (h7 : C 55 4 = nI σ.nt) (h8 : ∀ t, t < σ.nt → C 56 t = nI (σ.cs t)) (h9 : ∀ t, t < 16 → C 57 t = nI (σ.de t)) (h10 : ∀ t, t < 16 → C (60 + 11 * t) 3 = nI (σ.gc t)) (h11 : ∀ t, t < 16 → C (60 + 11 * t) 2 = nI 4) (h12 : ∀ t k, t < σ.nt → k < σ.gc t → C (60 + 11 * t + 2) k = nI (σ.cv (4 * t + k))) (h13 : ∀ t k, t < σ.nt → k < σ.gc t → TV C (60 + 11 * t + 3 + 2 * k) (σ.gn (4 * t + k)) (σ.gf (4 * t + k))) (h14 : C 236 7 = nI σ.nk) (h15 : ∀ i, i < σ.nk → C 439 (i + 1) = nI (σ.wh i)) (h16 : ∀ i k, i < σ.nk → k < 24 → C (238 + (i + 1)) k = nI (if (σ.hd i).testBit k then σ.kc i k + 1 else 0)) (h17 : ∀ i t, i < σ.nk → t < 16 → C (238 + (i + 1)) (24 + t) = nI (if (σ.le i).testBit t then σ.kb i t else 0)) (h18 : ∀ t, t < 16 → C 441 t = nI (σ.la t)) (h19 : C 447 3 = nI σ.nr) (h20 : C 447 2 = nI 12) (h21 : ∀ k, k < σ.nr → C 449 k = nI (σ.cv (64 + k))) (h22 : ∀ k, k < σ.nr → TV C (450 + 2 * k) (σ.gn (64 + k)) (σ.gf (64 + k))) (h23 : ∀ k, k < σ.nr → C 474 k = nI (σ.ow k)) : RC C σ := ⟨h0, h1, h2, h3, h4, h5, h6, h7, h8, h9, h10, h11, h12, h13, h14, h15, h16, h17, h18, h19, h20, h21, h22, h23⟩
abbrev RM (ou : Int32) (M : Mem) (σ : Ab) : Prop := (M 498 0 = ou) ∧ (MV M 76 σ.tn σ.tf) ∧ (M 475 2 = nI σ.nf) ∧ (∀ k, k < σ.nf → PV M k (σ.pn k) (σ.pf k)) ∧ (∀ k, k < 24 → M 480 k = nI (if σ.th.testBit k then 1 else 0)) ∧ (∀ k, k < σ.nf → M 481 k = nI (σ.co k)) ∧ (∀ k, k < 24 → M 482 k = nI (if σ.mt.testBit k then 1 else 0)) ∧ (∀ k, σ.mt.testBit k = true → M 483 k = nI (σ.mc k)) ∧ (M 475 9 = nI σ.nt) ∧ (∀ t, t < σ.nt → M 484 t = nI (σ.cs t)) ∧ (∀ t, t < 16 → M 485 t = nI (σ.gc t)) ∧ (∀ t, t < 16 → M 486 t = nI (σ.de t)) ∧ (∀ t, t < 16 → M 487 t = nI (σ.la t)) ∧ (∀ q, σ.us q → MV M q (σ.gn q) (σ.gf q)) ∧ (M 475 14 = nI σ.nr) ∧ (∀ k, k < σ.nr → M 488 k = nI (σ.ow k)) ∧ (M 475 16 = nI σ.nk) ∧ (∀ i, i < σ.nk → M 489 i = nI (σ.wh i)) ∧ (∀ i, i < σ.nk → M 490 i = nI (σ.hd i)) ∧ (∀ i, i < σ.nk → M 491 i = nI (σ.le i)) ∧ (∀ i k, i < σ.nk → (σ.hd i).testBit k = true → M 492 (24 * i + k) = nI (σ.kc i k)) ∧ (∀ i t, i < σ.nk → (σ.le i).testBit t = true → M 493 (16 * i + t) = nI (σ.kb i t))
theorem RM.o8 {ou : Int32} {M : Mem} {σ : Ab} (h : RM ou M σ) : M 498 0 = ou := h.1
theorem RM.tx {ou : Int32} {M : Mem} {σ : Ab} (h : RM ou M σ) : MV M 76 σ.tn σ.tf := h.2.1
theorem RM.nf {ou : Int32} {M : Mem} {σ : Ab} (h : RM ou M σ) : M 475 2 = nI σ.nf := h.2.2.1
theorem RM.px {ou : Int32} {M : Mem} {σ : Ab} (h : RM ou M σ) : ∀ k, k < σ.nf → PV M k (σ.pn k) (σ.pf k) := h.2.2.2.1
theorem RM.th {ou : Int32} {M : Mem} {σ : Ab} (h : RM ou M σ) : ∀ k, k < 24 → M 480 k = nI (if σ.th.testBit k then 1 else 0) := h.2.2.2.2.1
theorem RM.co {ou : Int32} {M : Mem} {σ : Ab} (h : RM ou M σ) : ∀ k, k < σ.nf → M 481 k = nI (σ.co k) := h.2.2.2.2.2.1
theorem RM.mt {ou : Int32} {M : Mem} {σ : Ab} (h : RM ou M σ) : ∀ k, k < 24 → M 482 k = nI (if σ.mt.testBit k then 1 else 0) := h.2.2.2.2.2.2.1
theorem RM.mc {ou : Int32} {M : Mem} {σ : Ab} (h : RM ou M σ) : ∀ k, σ.mt.testBit k = true → M 483 k = nI (σ.mc k) := h.2.2.2.2.2.2.2.1
theorem RM.nt {ou : Int32} {M : Mem} {σ : Ab} (h : RM ou M σ) : M 475 9 = nI σ.nt := h.2.2.2.2.2.2.2.2.1
theorem RM.cs {ou : Int32} {M : Mem} {σ : Ab} (h : RM ou M σ) : ∀ t, t < σ.nt → M 484 t = nI (σ.cs t) := h.2.2.2.2.2.2.2.2.2.1
theorem RM.gc {ou : Int32} {M : Mem} {σ : Ab} (h : RM ou M σ) : ∀ t, t < 16 → M 485 t = nI (σ.gc t) := h.2.2.2.2.2.2.2.2.2.2.1
theorem RM.de {ou : Int32} {M : Mem} {σ : Ab} (h : RM ou M σ) : ∀ t, t < 16 → M 486 t = nI (σ.de t) := h.2.2.2.2.2.2.2.2.2.2.2.1
theorem RM.la {ou : Int32} {M : Mem} {σ : Ab} (h : RM ou M σ) : ∀ t, t < 16 → M 487 t = nI (σ.la t) := h.2.2.2.2.2.2.2.2.2.2.2.2.1
theorem RM.gx {ou : Int32} {M : Mem} {σ : Ab} (h : RM ou M σ) : ∀ q, σ.us q → MV M q (σ.gn q) (σ.gf q) := h.2.2.2.2.2.2.2.2.2.2.2.2.2.1
theorem RM.nr {ou : Int32} {M : Mem} {σ : Ab} (h : RM ou M σ) : M 475 14 = nI σ.nr := h.2.2.2.2.2.2.2.2.2.2.2.2.2.2.1
theorem RM.ow {ou : Int32} {M : Mem} {σ : Ab} (h : RM ou M σ) : ∀ k, k < σ.nr → M 488 k = nI (σ.ow k) := h.2.2.2.2.2.2.2.2.2.2.2.2.2.2.2.1
theorem RM.nk {ou : Int32} {M : Mem} {σ : Ab} (h : RM ou M σ) : M 475 16 = nI σ.nk := h.2.2.2.2.2.2.2.2.2.2.2.2.2.2.2.2.1
theorem RM.wh {ou : Int32} {M : Mem} {σ : Ab} (h : RM ou M σ) : ∀ i, i < σ.nk → M 489 i = nI (σ.wh i) := h.2.2.2.2.2.2.2.2.2.2.2.2.2.2.2.2.2.1
theorem RM.hd {ou : Int32} {M : Mem} {σ : Ab} (h : RM ou M σ) : ∀ i, i < σ.nk → M 490 i = nI (σ.hd i) := h.2.2.2.2.2.2.2.2.2.2.2.2.2.2.2.2.2.2.1
theorem RM.le {ou : Int32} {M : Mem} {σ : Ab} (h : RM ou M σ) : ∀ i, i < σ.nk → M 491 i = nI (σ.le i) := h.2.2.2.2.2.2.2.2.2.2.2.2.2.2.2.2.2.2.2.1
theorem RM.kc {ou : Int32} {M : Mem} {σ : Ab} (h : RM ou M σ) : ∀ i k, i < σ.nk → (σ.hd i).testBit k = true → M 492 (24 * i + k) = nI (σ.kc i k) := h.2.2.2.2.2.2.2.2.2.2.2.2.2.2.2.2.2.2.2.2.1
theorem RM.kb {ou : Int32} {M : Mem} {σ : Ab} (h : RM ou M σ) : ∀ i t, i < σ.nk → (σ.le i).testBit t = true → M 493 (16 * i + t) = nI (σ.kb i t) := h.2.2.2.2.2.2.2.2.2.2.2.2.2.2.2.2.2.2.2.2.2
theorem RM.mk {ou : Int32} {M : Mem} {σ : Ab} (h0 : M 498 0 = ou) (h1 : MV M 76 σ.tn σ.tf) (h2 : M 475 2 = nI σ.nf) (h3 : ∀ k, k < σ.nf → PV M k (σ.pn k) (σ.pf k)) (h4 : ∀ k, k < 24 → M 480 k = nI (if σ.th.testBit k then 1 else 0)) (h5 : ∀ k, k < σ.nf → M 481 k = nI (σ.co k)) (h6 : ∀ k, k < 24 → M 482 k = nI (if σ.mt.testBit k then 1 else 0)) (h7 : ∀ k, σ.mt.testBit k = true → M 483 k = nI (σ.mc k)) (h8 : M 475 9 = nI σ.nt) (h9 : ∀ t, t < σ.nt → M 484 t = nI (σ.cs t)) (h10 : ∀ t, t < 16 → M 485 t = nI (σ.gc t)) (h11 : ∀ t, t < 16 → M 486 t = nI (σ.de t)) (h12 : ∀ t, t < 16 → M 487 t = nI (σ.la t)) (h13 : ∀ q, σ.us q → MV M q (σ.gn q) (σ.gf q)) (h14 : M 475 14 = nI σ.nr) (h15 : ∀ k, k < σ.nr → M 488 k = nI (σ.ow k)) (h16 : M 475 16 = nI σ.nk) (h17 : ∀ i, i < σ.nk → M 489 i = nI (σ.wh i)) (h18 : ∀ i, i < σ.nk → M 490 i = nI (σ.hd i)) (h19 : ∀ i, i < σ.nk → M 491 i = nI (σ.le i)) (h20 : ∀ i k, i < σ.nk → (σ.hd i).testBit k = true → M 492 (24 * i + k) = nI (σ.kc i k)) (h21 : ∀ i t, i < σ.nk → (σ.le i).testBit t = true → M 493 (16 * i + t) = nI (σ.kb i t)) : RM ou M σ := ⟨h0, h1, h2, h3, h4, h5, h6, h7, h8, h9, h10, h11, h12, h13, h14, h15, h16, h17, h18, h19, h20, h21⟩
/-- cells of the reference that hold nothing -/
theorem RM_thr {M : Mem} {σ : Ab} {x : Int32} (h : RM ou M σ) : RM ou (mset M 475 26 x) σ := by
  simpa (disch := omega) only [RM, MV, PV, mset_ne] using h
theorem RM_scr {M : Mem} {σ : Ab} {k j : Nat} {x : Int32} (h : RM ou M σ) (hk : 494 ≤ k ∧ k < 498) : RM ou (mset M k j x) σ := by
  simpa (disch := omega) only [RM, MV, PV, mset_ne] using h
/-- the beginning -/
def Ab0 : Ab := fun _ _ _ => 0
theorem WF0 : WF Ab0 := by
  refine WF.mk ⟨?_, ?_⟩ ?_ ?_ ?_ ?_ ?_ ?_ ?_ ?_ ?_ ?_ ?_ ?_ ?_ ?_ ⟨fun _ => 0, ?_⟩ ?_ ?_ ?_ ?_ ?_ ?_ ?_ ?_ ?_ ?_ ?_ <;> simp [Ab0, Ab.us, Ab.tn, Ab.nf, Ab.th, Ab.mt, Ab.nt, Ab.nr, Ab.nk, Ab.tf, Ab.pn, Ab.co, Ab.mc, Ab.cs, Ab.gc, Ab.gn, Ab.de, Ab.la, Ab.ow, Ab.wh, Ab.hd, Ab.le, Ab.pf, Ab.gf, Ab.kc, Ab.kb]
theorem RM0 : RM (nI 0) M0m Ab0 := by
  refine RM.mk ?_ ?_ ?_ ?_ ?_ ?_ ?_ ?_ ?_ ?_ ?_ ?_ ?_ ?_ ?_ ?_ ?_ ?_ ?_ ?_ ?_ ?_ <;> simp [Ab0, Ab.us, MV, PV, M0m, Ab.tn, Ab.nf, Ab.th, Ab.mt, Ab.nt, Ab.nr, Ab.nk, Ab.tf, Ab.pn, Ab.co, Ab.mc, Ab.cs, Ab.gc, Ab.gn, Ab.de, Ab.la, Ab.ow, Ab.wh, Ab.hd, Ab.le, Ab.pf, Ab.gf, Ab.kc, Ab.kb] <;> intros <;> rfl
theorem RC0 : RC C0m Ab0 := by
  refine RC.mk ?_ ?_ ?_ ?_ ?_ ?_ ?_ ?_ ?_ ?_ ?_ ?_ ?_ ?_ ?_ ?_ ?_ ?_ ?_ ?_ ?_ ?_ ?_ ?_ <;> try simp [Ab0, Ab.us, TV, Ab.tn, Ab.nf, Ab.th, Ab.mt, Ab.nt, Ab.nr, Ab.nk, Ab.tf, Ab.pn, Ab.co, Ab.mc, Ab.cs, Ab.gc, Ab.gn, Ab.de, Ab.la, Ab.ow, Ab.wh, Ab.hd, Ab.le, Ab.pf, Ab.gf, Ab.kc, Ab.kb]
  all_goals first
  | rfl
  | exact (by decide +kernel : ∀ t, t < 16 → C0m 57 t = nI 0)
  | exact (by decide +kernel : ∀ t, t < 16 → C0m (60 + 11 * t) 3 = nI 0)
  | exact (by decide +kernel : ∀ t, t < 16 → C0m (60 + 11 * t) 2 = nI 4)
  | exact (by decide +kernel : ∀ t, t < 16 → C0m 441 t = nI 0)
