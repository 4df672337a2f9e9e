/-! the law: what one call does -/
def Gd (C M : Mem) : Prop := ∃ σ ou, WF σ ∧ RC C σ ∧ RM ou M σ
abbrev Lo : Type := Option ((Mem × Mem × Int32) ⊕ Int32)
def Fin3 (o : Lo) (i : Int32) : Prop := ∃ C' M', o = some (.inl (C', M', i)) ∧ Gd C' M'
theorem RM_out {M : Mem} {σ : Ab} {ou r : Int32} (s : RM ou M σ) : RM r (mset M 498 0 r) σ := (RM.mk mset_eq (by intros; (try simp (disch := omega) only [MV, PV, mset_ne]); first | exact s.tx | (apply s.tx <;> assumption)) (by intros; (try simp (disch := omega) only [MV, PV, mset_ne]); first | exact s.nf | (apply s.nf <;> assumption)) (by intros; (try simp (disch := omega) only [MV, PV, mset_ne]); first | exact s.px | (apply s.px <;> assumption)) (by intros; (try simp (disch := omega) only [MV, PV, mset_ne]); first | exact s.th | (apply s.th <;> assumption)) (by intros; (try simp (disch := omega) only [MV, PV, mset_ne]); first | exact s.co | (apply s.co <;> assumption)) (by intros; (try simp (disch := omega) only [MV, PV, mset_ne]); first | exact s.mt | (apply s.mt <;> assumption)) (by intros; (try simp (disch := omega) only [MV, PV, mset_ne]); first | exact s.mc | (apply s.mc <;> assumption)) (by intros; (try simp (disch := omega) only [MV, PV, mset_ne]); first | exact s.nt | (apply s.nt <;> assumption)) (by intros; (try simp (disch := omega) only [MV, PV, mset_ne]); first | exact s.cs | (apply s.cs <;> assumption)) (by intros; (try simp (disch := omega) only [MV, PV, mset_ne]); first | exact s.gc | (apply s.gc <;> assumption)) (by intros; (try simp (disch := omega) only [MV, PV, mset_ne]); first | exact s.de | (apply s.de <;> assumption)) (by intros; (try simp (disch := omega) only [MV, PV, mset_ne]); first | exact s.la | (apply s.la <;> assumption)) (by intros; (try simp (disch := omega) only [MV, PV, mset_ne]); first | exact s.gx | (apply s.gx <;> assumption)) (by intros; (try simp (disch := omega) only [MV, PV, mset_ne]); first | exact s.nr | (apply s.nr <;> assumption)) (by intros; (try simp (disch := omega) only [MV, PV, mset_ne]); first | exact s.ow | (apply s.ow <;> assumption)) (by intros; (try simp (disch := omega) only [MV, PV, mset_ne]); first | exact s.nk | (apply s.nk <;> assumption)) (by intros; (try simp (disch := omega) only [MV, PV, mset_ne]); first | exact s.wh | (apply s.wh <;> assumption)) (by intros; (try simp (disch := omega) only [MV, PV, mset_ne]); first | exact s.hd | (apply s.hd <;> assumption)) (by intros; (try simp (disch := omega) only [MV, PV, mset_ne]); first | exact s.le | (apply s.le <;> assumption)) (by intros; (try simp (disch := omega) only [MV, PV, mset_ne]); first | exact s.kc | (apply s.kc <;> assumption)) (by intros; (try simp (disch := omega) only [MV, PV, mset_ne]); first | exact s.kb | (apply s.kb <;> assumption)))
theorem F3_c {P : Prop} {a b : Lo} {i : Int32} (h1 : P → Fin3 a i) (h2 : ¬ P → Fin3 b i) : Fin3 (cnd P a b) i := by
  by_cases h : P
  · rw [cnd_t h]; exact h1 h
  · rw [cnd_f h]; exact h2 h
theorem F3_f {P : Prop} {a b : Lo} {i : Int32} (h : ¬ P) (h2 : Fin3 b i) : Fin3 (cnd P a b) i := by
  rw [cnd_f h]; exact h2
theorem F3_k {P : Prop} {a : Lo} {i : Int32} (h : P) (h2 : Fin3 a i) : Fin3 (chk P a) i := by
  rw [chk_t h]; exact h2
theorem cd_1 {α : Type} {k : Nat} (f : Int32 → Option α) (h : 0 < wr_1 k) : cnd (k = 1) (f 1) none = f (nI (wr_1 k)) := by
  unfold wr_1 at *
  by_cases h1 : k = 1
  · rw [cnd_t h1, if_pos h1]; rfl
  · rw [if_neg h1] at h; omega
theorem cd_2 {α : Type} {k : Nat} (f : Int32 → Option α) (h : 0 < wr_2 k) : cnd (k = 2) (f 1) none = f (nI (wr_2 k)) := by
  unfold wr_2 at *
  by_cases h1 : k = 2
  · rw [cnd_t h1, if_pos h1]; rfl
  · rw [if_neg h1] at h; omega
theorem cd_3 {α : Type} {k : Nat} (f : Int32 → Option α) (h : 0 < wr_3 k) : cnd (k = 3) (f 1) none = f (nI (wr_3 k)) := by
  unfold wr_3 at *
  by_cases h1 : k = 3
  · rw [cnd_t h1, if_pos h1]; rfl
  · rw [if_neg h1] at h; omega
theorem cd_12 {α : Type} {k : Nat} (f : Int32 → Option α) (h : 0 < wr_12 k) : cnd (k = 1) (f 1) (cnd (k = 2) (f 2) none) = f (nI (wr_12 k)) := by
  unfold wr_12 at *
  by_cases h1 : k = 1
  · rw [cnd_t h1, if_pos h1]; rfl
  · by_cases h2 : k = 2
    · rw [cnd_f h1, cnd_t h2, if_neg h1, if_pos h2]; rfl
    · rw [if_neg h1, if_neg h2] at h; omega
theorem cd_31 {α : Type} {k : Nat} (f : Int32 → Option α) (h : 0 < wr_31 k) : cnd (k = 3) (f 1) (cnd (k = 1) (f 2) none) = f (nI (wr_31 k)) := by
  unfold wr_31 at *
  by_cases h1 : k = 3
  · rw [cnd_t h1, if_pos h1]; rfl
  · by_cases h2 : k = 1
    · rw [cnd_f h1, cnd_t h2, if_neg h1, if_pos h2]; rfl
    · rw [if_neg h1, if_neg h2] at h; omega
theorem cd_32 {α : Type} {k : Nat} (f : Int32 → Option α) (h : 0 < wr_32 k) : cnd (k = 3) (f 1) (cnd (k = 2) (f 2) none) = f (nI (wr_32 k)) := by
  unfold wr_32 at *
  by_cases h1 : k = 3
  · rw [cnd_t h1, if_pos h1]; rfl
  · by_cases h2 : k = 2
    · rw [cnd_f h1, cnd_t h2, if_neg h1, if_pos h2]; rfl
    · rw [if_neg h1, if_neg h2] at h; omega
theorem cd_312 {α : Type} {k : Nat} (f : Int32 → Option α) (h : 0 < wr_312 k) : cnd (k = 3) (f 1) (cnd (k = 1) (f 2) (cnd (k = 2) (f 3) none)) = f (nI (wr_312 k)) := by
  unfold wr_312 at *
  by_cases h1 : k = 3
  · rw [cnd_t h1, if_pos h1]; rfl
  · by_cases h2 : k = 1
    · rw [cnd_f h1, cnd_t h2, if_neg h1, if_pos h2]; rfl
    · by_cases h3 : k = 2
      · rw [cnd_f h1, cnd_f h2, cnd_t h3, if_neg h1, if_neg h2, if_pos h3]; rfl
      · rw [if_neg h1, if_neg h2, if_neg h3] at h; omega
/-- what the law asks behind a call that may throw -/
noncomputable def ask (K : Mem → Mem → Lo) (mf : Mem → Option (Int32 × Mem)) (q1 : Int32 × Mem × Mem) : Lo := bnd (mf q1.2.2) fun q2 => cnd ((fX8_thrown q2.2) = q1.1) (cnd (q1.1 = (0 : Int32)) (cnd ((lg_cmp ((q2.2 498 (0 : Int32).toNatClampNeg).toInt64) (q2.1.toInt64)) = (0 : Int32)) (K q1.2.1 q2.2) (exR (some (0 : Int32)))) (K q1.2.1 q2.2)) (exR (some (0 : Int32)))
theorem ask_0 {K : Mem → Mem → Lo} {mf : Mem → Option (Int32 × Mem)} {C' M M' : Mem} {r : Int32} (hm : mf M = some (r, M')) (h0 : M' 475 26 = nI 0) (h1 : M' 498 0 = r) : ask K mf ((0 : Int32), C', M) = K C' M' := by
  unfold ask fX8_thrown
  show bnd (mf M) _ = _
  rw [hm, bnd_s]
  show cnd (M' 475 26 = 0) (cnd ((0 : Int32) = 0) (cnd (lg_cmp (M' 498 0).toInt64 r.toInt64 = 0) (K C' M') _) _) _ = _
  rw [h0, cnd_t (p := nI 0 = 0) rfl, cnd_t (p := (0 : Int32) = 0) rfl, h1, cnd_t ((lg_cmp_eq _ _).mpr rfl)]
theorem ask_k {K : Mem → Mem → Lo} {mf : Mem → Option (Int32 × Mem)} {C' M M' : Mem} {r : Int32} {v : Nat} (hm : mf M = some (r, M')) (h0 : M' 475 26 = nI v) (hv : 0 < v) (hv2 : v < 4) : ask K mf (nI v, C', M) = K C' M' := by
  unfold ask fX8_thrown
  show bnd (mf M) _ = _
  rw [hm, bnd_s]
  show cnd (M' 475 26 = nI v) (cnd (nI v = 0) _ (K C' M')) _ = _
  rw [h0, cnd_t rfl, cnd_f (by rw [li_0, nI_eq (by omega) (by omega)]; omega)]
theorem law_w {wf : Option (Int32 × Mem × Mem)} {cf : Option ((Int32 ⊕ Nat) × Mem)} (mf : Mem → Option (Int32 × Mem)) {wr : Nat → Nat} {M : Mem} {σ : Ab} {ou : Int32} (K : Mem → Mem → Lo) {i : Int32} {code : Nat → (Int32 ⊕ Nat) × Mem → Option (Int32 × Mem × Mem)} (op : ∀ (ou : Int32) (M : Mem), RM ou M σ → Opp ou wr cf (mf M)) (s : RM ou M σ) (hw : wf = bnd cf fun q => sw q.1 (fun r => some ((0 : Int32), q.2, mset M 498 0 r)) (fun k => code k q)) (hcode : ∀ k q, 0 < wr k → code k q = some (nI (wr k), q.2, M)) (hK : ∀ C' M', K C' M' = some (.inl (C', M', i))) : Fin3 (bnd wf fun q1 => ask K mf q1) i := by
  rw [hw]
  rcases op ou M s with ⟨C', M', σ', w', r', s', ⟨r, h1, h2, h3⟩ | ⟨k, x, h1, h2, h3, h4, h5⟩⟩
  · rcases op r (mset M 498 0 r) (RM_out s) with ⟨C2, M2, σ2, w2, r2, s2, ⟨y, g1, g2, g3⟩ | ⟨k, x, g1, g2, g3, g4, g5⟩⟩
    · rw [h1] at g1
      cases g1
      rw [h1, bnd_s]
      show Fin3 (ask K mf ((0 : Int32), C', mset M 498 0 r)) i
      rw [ask_0 g2 g3 s2.o8, hK]
      exact ⟨C', M2, rfl, σ2, r, w2, r2, s2⟩
    · rw [h1] at g1
      cases g1
  · rw [h1, bnd_s]
    show Fin3 (bnd (code k (Sum.inr k, C')) fun q1 => ask K mf q1) i
    rw [hcode k _ h4, bnd_s]
    show Fin3 (ask K mf (nI (wr k), C', M)) i
    rw [ask_k h2 h3 h4 h5, hK]
    exact ⟨C', M', rfl, σ', ou, w', r', s'⟩
theorem law_r {wf : Option (Int32 × Mem × Mem)} {cf : Option (Int32 ⊕ Nat)} (mf : Mem → Option (Int32 × Mem)) {wr : Nat → Nat} {C M : Mem} {σ : Ab} {ou : Int32} (K : Mem → Mem → Lo) {i : Int32} {code : Nat → Option (Int32 × Mem × Mem)} (w : WF σ) (r : RC C σ) (op : ∀ (ou : Int32) (M : Mem), RM ou M σ → Opr ou wr σ cf (mf M)) (s : RM ou M σ) (hw : wf = bnd cf fun q => sw q (fun r => some ((0 : Int32), C, mset M 498 0 r)) (fun k => code k)) (hcode : ∀ k, 0 < wr k → code k = some (nI (wr k), C, M)) (hK : ∀ C' M', K C' M' = some (.inl (C', M', i))) : Fin3 (bnd wf fun q1 => ask K mf q1) i := by
  rw [hw]
  rcases op ou M s with ⟨M', s', ⟨x, h1, h2, h3⟩ | ⟨k, x, h1, h2, h3, h4, h5⟩⟩
  · rcases op x (mset M 498 0 x) (RM_out s) with ⟨M2, s2, ⟨y, g1, g2, g3⟩ | ⟨k, x, g1, g2, g3, g4, g5⟩⟩
    · rw [h1] at g1
      cases g1
      rw [h1, bnd_s]
      show Fin3 (ask K mf ((0 : Int32), C, mset M 498 0 x)) i
      rw [ask_0 g2 g3 s2.o8, hK]
      exact ⟨C, M2, rfl, σ, x, w, r, s2⟩
    · rw [h1] at g1
      cases g1
  · rw [h1, bnd_s]
    show Fin3 (bnd (code k) fun q1 => ask K mf q1) i
    rw [hcode k h4, bnd_s]
    show Fin3 (ask K mf (nI (wr k), C, M)) i
    rw [ask_k h2 h3 h4 h5, hK]
    exact ⟨C, M', rfl, σ, ou, w, r, s'⟩
theorem law_n {cf mf : Option (Int32 × Mem)} {ou : Int32} (K : Mem → Mem → Lo) {i : Int32} (op : Opn ou cf mf) (hK : ∀ C' M', K C' M' = some (.inl (C', M', i))) : Fin3 (bnd cf fun q => bnd mf fun q' => cnd (q.1 = q'.1) (K q.2 q'.2) (exR (some (0 : Int32)))) i := by
  obtain ⟨C', M', σ', x, w, r, s, h1, h2⟩ := op
  rw [h1, h2, bnd_s, bnd_s]
  show Fin3 (cnd (x = x) (K C' M') _) i
  rw [cnd_t rfl, hK]
  exact ⟨C', M', rfl, σ', ou, w, r, s⟩
theorem law_q {cf : Option Int32} {mf : Option (Int32 × Mem)} {C : Mem} {σ : Ab} {ou : Int32} (K : Mem → Mem → Lo) {i : Int32} (w : WF σ) (r : RC C σ) (op : ∃ M' v, cf = some v ∧ mf = some (v, M') ∧ RM ou M' σ) (hK : ∀ C' M', K C' M' = some (.inl (C', M', i))) : Fin3 (bnd cf fun q => bnd mf fun q' => cnd (q = q'.1) (K C q'.2) (exR (some (0 : Int32)))) i := by
  obtain ⟨M', v, h1, h2, s⟩ := op
  rw [h1, h2, bnd_s, bnd_s]
  show Fin3 (cnd (v = v) (K C M') _) i
  rw [cnd_t rfl, hK]
  exact ⟨C, M', rfl, σ, ou, w, r, s⟩
theorem law_v {cf : Int32} {mf : Option (Int32 × Mem)} {C : Mem} {σ : Ab} {ou : Int32} (K : Mem → Mem → Lo) {i : Int32} (w : WF σ) (r : RC C σ) (op : ∃ M' v, cf = v ∧ mf = some (v, M') ∧ RM ou M' σ) (hK : ∀ C' M', K C' M' = some (.inl (C', M', i))) : Fin3 (bnd mf fun q' => cnd (cf = q'.1) (K C q'.2) (exR (some (0 : Int32)))) i := by
  obtain ⟨M', v, h1, h2, s⟩ := op
  rw [h1, h2, bnd_s]
  show Fin3 (cnd (v = v) (K C M') _) i
  rw [cnd_t rfl, hK]
  exact ⟨C, M', rfl, σ, ou, w, r, s⟩
