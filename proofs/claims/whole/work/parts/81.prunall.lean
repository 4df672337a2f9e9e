variable {ou : Int32}
/-! runAll -/
theorem cn_ct (a : Nat) : ∀ n, cn a n = ct (fun k => a.testBit k) n
  | 0 => rfl
  | n + 1 => by
    show cn a n + a / 2 ^ n % 2 = ct (fun k => a.testBit k) n + (if a.testBit n = true then 1 else 0)
    rw [cn_ct a n, Nat.testBit_eq_decide_div_mod_eq]
    have := Nat.mod_lt (a / 2 ^ n) (show 0 < 2 by decide)
    by_cases h : a / 2 ^ n % 2 = 1
    · rw [h]; rfl
    · have h0 : a / 2 ^ n % 2 = 0 := by omega
      rw [h0]; rfl
theorem ct_up {p : Nat → Bool} {n : Nat} (h : ∀ k, n ≤ k → p k = false) : ∀ d, ct p (n + d) = ct p n
  | 0 => rfl
  | d + 1 => by
    show ct p (n + d) + (if p (n + d) = true then 1 else 0) = _
    rw [ct_up h d, h _ (by omega)]
    rfl
theorem ct_no {p : Nat → Bool} (h : ∀ k, p k = false) : ∀ n, ct p n = 0
  | 0 => rfl
  | n + 1 => by
    show ct p n + (if p n = true then 1 else 0) = _
    rw [ct_no h n, h]
    rfl
theorem ct_cong {p q : Nat → Bool} (h : ∀ k, p k = q k) (n : Nat) : ct p n = ct q n := by rw [funext h]
theorem cn_nee {σ : Ab} (w : WF σ) : cn σ.nee 24 = ct (fun k => σ.nee.testBit k) σ.nt := by
  have hn := w.nt
  rw [cn_ct]
  have := ct_up (p := fun k => σ.nee.testBit k) (n := σ.nt) (fun k hk => bit_lt (nee_lt σ) hk) (24 - σ.nt)
  rwa [show σ.nt + (24 - σ.nt) = 24 by omega] at this
noncomputable def Ab.ra (σ : Ab) : Nat → Ab × (Nat → Nat)
  | 0 => (σ, σ.ky)
  | p + 1 => ((Ab.ra σ p).1.rus (Ab.ra σ p).2 (σ.ord p), krs (Ab.ra σ p).1 (Ab.ra σ p).2 (σ.ord p))
abbrev RI (σ : Ab) (τ : Ab) (K : Nat → Nat) (p : Nat) : Prop := (WF τ) ∧ (τ.nt = σ.nt) ∧ (τ.de = σ.de) ∧ (τ.inp = σ.inp) ∧ (τ.co = σ.co) ∧ (σ.nk ≤ τ.nk) ∧ (∀ i, i < σ.nk → τ.wh i = σ.wh i ∧ τ.hd i = σ.hd i ∧ τ.le i = σ.le i ∧ (∀ k, τ.kc i k = σ.kc i k) ∧ ∀ o, τ.kb i o = σ.kb i o) ∧ (∀ i, σ.nk ≤ i → i < τ.nk → (σ.inn p).testBit (τ.wh i) = true) ∧ (τ.nk = σ.nk + ct (fun t => (σ.inn p).testBit t && σ.nee.testBit t) σ.nt) ∧ (∀ t, t < σ.nt → (σ.inn p).testBit t = false → K t = σ.ky t) ∧ (∀ t, (σ.inn p).testBit t = true → 0 < K t ∧ K t ≤ τ.nk ∧ (σ.ky t ≠ 0 → K t = σ.ky t) ∧ (σ.ky t = 0 → σ.nk < K t))
theorem RI.w {σ : Ab} {τ : Ab} {K : Nat → Nat} {p : Nat} (h : RI σ τ K p) : WF τ := h.1
theorem RI.nt {σ : Ab} {τ : Ab} {K : Nat → Nat} {p : Nat} (h : RI σ τ K p) : τ.nt = σ.nt := h.2.1
theorem RI.de {σ : Ab} {τ : Ab} {K : Nat → Nat} {p : Nat} (h : RI σ τ K p) : τ.de = σ.de := h.2.2.1
theorem RI.inp {σ : Ab} {τ : Ab} {K : Nat → Nat} {p : Nat} (h : RI σ τ K p) : τ.inp = σ.inp := h.2.2.2.1
theorem RI.co {σ : Ab} {τ : Ab} {K : Nat → Nat} {p : Nat} (h : RI σ τ K p) : τ.co = σ.co := h.2.2.2.2.1
theorem RI.nk {σ : Ab} {τ : Ab} {K : Nat → Nat} {p : Nat} (h : RI σ τ K p) : σ.nk ≤ τ.nk := h.2.2.2.2.2.1
theorem RI.lo {σ : Ab} {τ : Ab} {K : Nat → Nat} {p : Nat} (h : RI σ τ K p) : ∀ i, i < σ.nk → τ.wh i = σ.wh i ∧ τ.hd i = σ.hd i ∧ τ.le i = σ.le i ∧ (∀ k, τ.kc i k = σ.kc i k) ∧ ∀ o, τ.kb i o = σ.kb i o := h.2.2.2.2.2.2.1
theorem RI.hi {σ : Ab} {τ : Ab} {K : Nat → Nat} {p : Nat} (h : RI σ τ K p) : ∀ i, σ.nk ≤ i → i < τ.nk → (σ.inn p).testBit (τ.wh i) = true := h.2.2.2.2.2.2.2.1
theorem RI.cou {σ : Ab} {τ : Ab} {K : Nat → Nat} {p : Nat} (h : RI σ τ K p) : τ.nk = σ.nk + ct (fun t => (σ.inn p).testBit t && σ.nee.testBit t) σ.nt := h.2.2.2.2.2.2.2.2.1
theorem RI.out {σ : Ab} {τ : Ab} {K : Nat → Nat} {p : Nat} (h : RI σ τ K p) : ∀ t, t < σ.nt → (σ.inn p).testBit t = false → K t = σ.ky t := h.2.2.2.2.2.2.2.2.2.1
theorem RI.inn {σ : Ab} {τ : Ab} {K : Nat → Nat} {p : Nat} (h : RI σ τ K p) : ∀ t, (σ.inn p).testBit t = true → 0 < K t ∧ K t ≤ τ.nk ∧ (σ.ky t ≠ 0 → K t = σ.ky t) ∧ (σ.ky t = 0 → σ.nk < K t) := h.2.2.2.2.2.2.2.2.2.2
theorem RI.mk {σ : Ab} {τ : Ab} {K : Nat → Nat} {p : Nat} (h0 : WF τ) (h1 : τ.nt = σ.nt) (h2 : τ.de = σ.de) (h3 : τ.inp = σ.inp) (h4 : τ.co = σ.co) (h5 : σ.nk ≤ τ.nk) (h6 : ∀ i, i < σ.nk → τ.wh i = σ.wh i ∧ τ.hd i = σ.hd i ∧ τ.le i = σ.le i ∧ (∀ k, τ.kc i k = σ.kc i k) ∧ ∀ o, τ.kb i o = σ.kb i o) (h7 : ∀ i, σ.nk ≤ i → i < τ.nk → (σ.inn p).testBit (τ.wh i) = true) (h8 : τ.nk = σ.nk + ct (fun t => (σ.inn p).testBit t && σ.nee.testBit t) σ.nt) (h9 : ∀ t, t < σ.nt → (σ.inn p).testBit t = false → K t = σ.ky t) (h10 : ∀ t, (σ.inn p).testBit t = true → 0 < K t ∧ K t ≤ τ.nk ∧ (σ.ky t ≠ 0 → K t = σ.ky t) ∧ (σ.ky t = 0 → σ.nk < K t)) : RI σ τ K p := ⟨h0, h1, h2, h3, h4, h5, h6, h7, h8, h9, h10⟩
theorem RI_0 {σ : Ab} (w : WF σ) : RI σ σ σ.ky 0 := by
  have z : ∀ t, (σ.inn 0).testBit t = false := fun t => Nat.zero_testBit t
  refine RI.mk w rfl rfl rfl rfl (Nat.le_refl _) (fun i _ => ⟨rfl, rfl, rfl, fun _ => rfl, fun _ => rfl⟩) (fun i h1 h2 => by omega) ?_ (fun t _ _ => rfl) (fun t ht => ?_)
  · rw [ct_no (fun k => by rw [z k]; rfl)]
    rfl
  · rw [z] at ht
    cases ht
/-- what holds ahead of a target's run -/
theorem RI_pre {σ τ : Ab} {K : Nat → Nat} {p : Nat} (w : WF σ) (h : RI σ τ K p) (hp : p < σ.nt) (hT : σ.nk + ct (fun k => σ.nee.testBit k) σ.nt ≤ 200) : K (σ.ord p) = σ.ky (σ.ord p) ∧ (∀ o, (τ.de (σ.ord p)).testBit o = true → 0 < K o ∧ K o ≤ τ.nk) ∧ τ.kn K (σ.ord p) = K (σ.ord p) ∧ (K (σ.ord p) = 0 → τ.nk < 200 ∧ ∀ i, i < τ.nk → ¬ τ.mtc K (σ.ord p) i) := by
  obtain ⟨o1, o2, o3⟩ := ord_s w hp
  have hK := h.out _ o1 o2
  have hdep : ∀ o, (τ.de (σ.ord p)).testBit o = true → 0 < K o ∧ K o ≤ τ.nk := by
    intro o ho
    rw [h.de] at ho
    have := h.inn o (o3 o ho)
    exact ⟨this.1, this.2.1⟩
  have hr : τ.rdy K (σ.ord p) := fun o ho => (hdep o ho).1
  have hno : K (σ.ord p) = 0 → ∀ i, i < τ.nk → ¬ τ.mtc K (σ.ord p) i := by
    intro h0 i hi q
    by_cases c : σ.nk ≤ i
    · have := h.hi i c hi
      rw [q.1, o2] at this
      cases this
    · obtain ⟨l1, l2, l3, l4, l5⟩ := h.lo i (by omega)
      obtain ⟨q1, ⟨q2, q3⟩, q4, q5⟩ := q
      rw [l1] at q1
      rw [l2, h.inp] at q2
      rw [l3, h.de] at q4
      rw [h.inp] at q3
      rw [h.de] at q5
      have dk : ∀ o, (σ.de (σ.ord p)).testBit o = true → σ.ky o ≠ 0 ∧ K o = σ.ky o := by
        intro o ho
        have h1 := q5 o ho
        have h2 := w.kb i o (by omega) (by rw [q4]; exact ho)
        rw [l5] at h1
        have h3 := h.inn o (o3 o ho)
        by_cases e : σ.ky o = 0
        · have := h3.2.2.2 e
          omega
        · exact ⟨e, h3.2.2.1 e⟩
      refine ky_no w o1 (fun o ho => by have := (dk o ho).1; omega) (by omega) i (by omega) ⟨q1, ⟨q2, fun k hk => ?_⟩, q4, fun o ho => ?_⟩
      · have := q3 k hk
        rwa [l4, h.co] at this
      · rw [← l5, q5 o ho, (dk o ho).2]
  refine ⟨hK, hdep, ?_, fun h0 => ⟨?_, hno h0⟩⟩
  · unfold Ab.kn
    rw [cnd_t hr]
    by_cases e : σ.ky (σ.ord p) = 0
    · rcases gvn_s τ K (σ.ord p) τ.nk with ⟨i, i1, i2, i3⟩ | ⟨i1, _⟩
      · exact absurd i2 (hno (by omega) i i1)
      · omega
    · have e2 := ky_ord w hp
      unfold Ab.kn at e2
      by_cases c : σ.rdy σ.ky (σ.ord p)
      · rw [cnd_t c] at e2
        rcases gvn_s σ σ.ky (σ.ord p) σ.nk with ⟨i, i1, i2, i3⟩ | ⟨i1, _⟩
        · obtain ⟨l1, l2, l3, l4, l5⟩ := h.lo i i1
          obtain ⟨q1, ⟨q2, q3⟩, q4, q5⟩ := i2
          have hm : τ.mtc K (σ.ord p) i := by
            refine ⟨by rw [l1]; exact q1, ⟨by rw [l2, h.inp]; exact q2, fun k hk => ?_⟩, by rw [l3, h.de]; exact q4, fun o ho => ?_⟩
            · rw [h.inp] at hk
              rw [l4, h.co]; exact q3 k hk
            · rw [h.de] at ho
              have h3 := h.inn o (o3 o ho)
              rw [l5, q5 o ho, h3.2.2.1 (by have := c o ho; omega)]
          have hnk := h.nk
          rw [gvn_i h.w (by omega) hm, hK, e2, i3]
        · omega
      · rw [cnd_f c] at e2
        omega
  · have hc := h.cou
    have : ct (fun t => (σ.inn p).testBit t && σ.nee.testBit t) σ.nt < ct (fun k => σ.nee.testBit k) σ.nt := by
      refine ct_st (fun k hk => ?_) (x := σ.ord p) ?_ ?_ σ.nt o1
      · rw [Bool.and_eq_true] at hk
        exact hk.2
      · rw [o2]; rfl
      · exact (nee_bit o1).mpr (by omega)
    omega
theorem RI_wf {σ τ : Ab} {K : Nat → Nat} {p : Nat} (w : WF σ) (h : RI σ τ K p) (hp : p < σ.nt) (hT : σ.nk + ct (fun k => σ.nee.testBit k) σ.nt ≤ 200) : WF (τ.rus K (σ.ord p)) ∧ (K (σ.ord p) = 0 → τ.nk < 200 ∧ WF (τ.giv K (σ.ord p))) := by
  obtain ⟨o1, o2, o3⟩ := ord_s w hp
  obtain ⟨p1, p2, p3, p4⟩ := RI_pre w h hp hT
  have ht : σ.ord p < τ.nt := by rw [h.nt]; exact o1
  have hle : K (σ.ord p) ≤ τ.nk := by rw [← p3]; exact kn_le _ _ _
  refine ⟨WF_rus h.w ht hle (fun q => ⟨(p4 q).1, fun o ho => (p2 o ho).1, fun o ho => (p2 o ho).2, (p4 q).2⟩), fun q => ⟨(p4 q).1, WF_giv h.w ht (p4 q).1 (fun o ho => (p2 o ho).1) (fun o ho => (p2 o ho).2) (p4 q).2⟩⟩
theorem RI_s {σ τ : Ab} {K : Nat → Nat} {p : Nat} (w : WF σ) (h : RI σ τ K p) (hp : p < σ.nt) (hT : σ.nk + ct (fun k => σ.nee.testBit k) σ.nt ≤ 200) : RI σ (τ.rus K (σ.ord p)) (krs τ K (σ.ord p)) (p + 1) := by
  obtain ⟨o1, o2, o3⟩ := ord_s w hp
  obtain ⟨p1, p2, p3, p4⟩ := RI_pre w h hp hT
  obtain ⟨w1, _⟩ := RI_wf w h hp hT
  have hnk := h.nk
  have out : ∀ t, t < σ.nt → (σ.inn (p + 1)).testBit t = false → krs τ K (σ.ord p) t = σ.ky t := by
    intro t ht hb
    have h1 : ¬ ((σ.inn p).testBit t = true ∨ t = σ.ord p) := fun q => by
      rw [← inn_o, hb] at q
      cases q
    unfold krs
    rw [if_neg (fun q => h1 (Or.inr q))]
    refine h.out t ht ?_
    cases z : (σ.inn p).testBit t with
    | true => exact absurd (Or.inl z) h1
    | false => rfl
  by_cases c : K (σ.ord p) = 0
  · have e1 : τ.rus K (σ.ord p) = (τ.giv K (σ.ord p)).lat (σ.ord p) (τ.nk + 1) := if_pos c
    have e2 : ∀ i, i < τ.nk → (τ.rus K (σ.ord p)).wh i = τ.wh i ∧ (τ.rus K (σ.ord p)).hd i = τ.hd i ∧ (τ.rus K (σ.ord p)).le i = τ.le i ∧ (∀ k, (τ.rus K (σ.ord p)).kc i k = τ.kc i k) ∧ ∀ o, (τ.rus K (σ.ord p)).kb i o = τ.kb i o := by
      intro i hi
      rw [e1]
      exact giv_o hi
    have e3 : (τ.rus K (σ.ord p)).wh τ.nk = σ.ord p := by
      rw [e1]
      exact (giv_n τ K (σ.ord p)).1
    have e4 : (τ.rus K (σ.ord p)).nk = τ.nk + 1 := by rw [e1]; rfl
    refine RI.mk w1 (by rw [e1]; exact h.nt) (by rw [e1]; exact h.de) (by rw [e1]; exact h.inp) (by rw [e1]; exact h.co) (by omega) (fun i hi => ?_) (fun i h1 h2 => ?_) ?_ out (fun t ht => ?_)
    · obtain ⟨a1, a2, a3, a4, a5⟩ := e2 i (by omega)
      obtain ⟨b1, b2, b3, b4, b5⟩ := h.lo i hi
      exact ⟨a1.trans b1, a2.trans b2, a3.trans b3, fun k => (a4 k).trans (b4 k), fun o => (a5 o).trans (b5 o)⟩
    · rw [e4] at h2
      rcases nk_cs h2 with q | q
      · rw [(e2 i q).1]
        exact (inn_o σ p _).mpr (Or.inl (h.hi i h1 q))
      · rw [q, e3]
        exact (inn_o σ p _).mpr (Or.inr rfl)
    · rw [e4, h.cou]
      rw [ct_add (p := fun t => (σ.inn p).testBit t && σ.nee.testBit t) (q := fun t => (σ.inn (p + 1)).testBit t && σ.nee.testBit t) (x := σ.ord p) (by rw [o2]; rfl) (by rw [(inn_o σ p _).mpr (Or.inr rfl), (nee_bit o1).mpr (by omega)]; rfl) (fun k hk => ?_) σ.nt, if_pos o1]
      · omega
      · congr 1
        cases z : (σ.inn p).testBit k with
        | true => exact (inn_o σ p k).mpr (Or.inl z)
        | false =>
          cases z2 : (σ.inn (p + 1)).testBit k with
          | true =>
            rcases (inn_o σ p k).mp z2 with q | q
            · rw [z] at q; cases q
            · exact absurd q hk
          | false => rfl
    · rw [e4]
      unfold krs
      by_cases e : t = σ.ord p
      · rw [if_pos e, if_pos c, e]
        exact ⟨by omega, Nat.le_refl _, fun q => absurd (p1.symm.trans c) q, fun _ => by omega⟩
      · rw [if_neg e]
        rcases (inn_o σ p t).mp ht with q | q
        · obtain ⟨a1, a2, a3, a4⟩ := h.inn t q
          exact ⟨a1, by omega, a3, a4⟩
        · exact absurd q e
  · have e1 : τ.rus K (σ.ord p) = τ.lat (σ.ord p) (K (σ.ord p)) := if_neg c
    have e4 : (τ.rus K (σ.ord p)).nk = τ.nk := by rw [e1]; rfl
    have hle : K (σ.ord p) ≤ τ.nk := by rw [← p3]; exact kn_le _ _ _
    refine RI.mk w1 (by rw [e1]; exact h.nt) (by rw [e1]; exact h.de) (by rw [e1]; exact h.inp) (by rw [e1]; exact h.co) (by omega) (fun i hi => by rw [e1]; exact h.lo i hi) (fun i h1 h2 => ?_) ?_ out (fun t ht => ?_)
    · rw [e4] at h2
      rw [e1]
      exact (inn_o σ p _).mpr (Or.inl (h.hi i h1 h2))
    · rw [e4, h.cou]
      congr 1
      refine ct_cong (fun k => ?_) _
      cases z : (σ.inn p).testBit k with
      | true => rw [(inn_o σ p k).mpr (Or.inl z)]
      | false =>
        cases z2 : (σ.inn (p + 1)).testBit k with
        | true =>
          rcases (inn_o σ p k).mp z2 with q | q
          · rw [z] at q; cases q
          · cases z3 : σ.nee.testBit k with
            | true =>
              rw [q] at z3
              have := (nee_bit o1).mp z3
              omega
            | false => rfl
        | false => rfl
    · rw [e4]
      unfold krs
      by_cases e : t = σ.ord p
      · rw [if_pos e, if_neg c, e]
        exact ⟨by omega, hle, fun _ => p1, fun q => absurd (p1.trans q) c⟩
      · rw [if_neg e]
        rcases (inn_o σ p t).mp ht with q | q
        · exact h.inn t q
        · exact absurd q e
theorem RI_all {σ : Ab} (w : WF σ) (hT : σ.nk + ct (fun k => σ.nee.testBit k) σ.nt ≤ 200) : ∀ p, p ≤ σ.nt → RI σ (σ.ra p).1 (σ.ra p).2 p
  | 0, _ => RI_0 w
  | p + 1, hp => RI_s w (RI_all w hT p (by omega)) (by omega) hT
theorem c_raa {C : Mem} {σ : Ab} (w : WF σ) (r : RC C σ) (hT : σ.nk + ct (fun k => σ.nee.testBit k) σ.nt ≤ 200) (hK : ∀ t, t < σ.nt → C 440 t = nI (σ.ky t)) (hO : ∀ p, p < σ.nt → C 59 p = nI (σ.ord p)) : ∃ C', fX3_runOrFindAll C = some C' ∧ RC C' (σ.ra σ.nt).1 := by
  have hn := w.nt
  have st : ∀ i, i ≤ σ.nt → ∃ C', lp fX3_runOrFindAll_2 (C, (0 : Int32)) = lp fX3_runOrFindAll_2 (C', nI i) ∧ RC C' (σ.ra i).1 ∧ (∀ t, t < σ.nt → C' 440 t = nI ((σ.ra i).2 t)) ∧ ∀ p, C' 59 p = C 59 p := by
    intro i
    induction i with
    | zero => intro _; exact ⟨C, rfl, r, hK, fun _ => rfl⟩
    | succ i ih =>
      intro hi
      obtain ⟨C', e1, e2, e3, e4⟩ := ih (by omega)
      have h := RI_all w hT i (by omega)
      obtain ⟨o1, o2, o3⟩ := ord_s w (p := i) (by omega)
      obtain ⟨p1, p2, p3, p4⟩ := RI_pre w h (by omega) hT
      obtain ⟨w1, w2⟩ := RI_wf w h (by omega) hT
      have hnk := h.w.nk
      obtain ⟨C2, f1, f2, f3, f4, f5⟩ := c_rof h.w e2 (t := σ.ord i) (K := (σ.ra i).2) (by rw [h.nt]; exact o1) (fun o ho => ⟨e3 o (by have := bit_le (h.w.de _) ho; rw [h.nt] at this; exact this), Nat.le_trans (p2 o ho).2 hnk⟩) p3 w1 w2
      refine ⟨C2, ?_, f2, fun t ht => ?_, fun p => by rw [f5, e4]⟩
      · rw [e1]
        refine lp_go ?_
        unfold fX3_runOrFindAll_2 fX2_size fX2_atPlace
        simp only [li_1]
        rw [e2.nt, h.nt, nI_clamp (by omega), e4, hO i (by omega)]
        simp (disch := omega) only [li_0, li_1, li_2, li_3, li_4, li_5, li_7, li_8, li_12, li_16, li_23, li_24, li_31, li_40, li_42, li_47, li_63, li_64, li_76, li_77, li_97, li_122, li_200, li_201, li_1000, li_1824, li_9999, li_16000, nI_add, nx_or, nx_and, pk_mul, nx_xor, nI_leI, nI_ltI, nI_eq, nI_clamp, vp_nI, px_sub, px_shl, px_shl2, px_shr2, px_bit, Bool.true_eq_false, Bool.false_eq_true, hol_0, hol_1, px_chr, chk, cnd_true, cnd_false, cnd_ite, bnd_s, nmv, exR, if_pos, if_neg, if_true, if_false, reduceIte, eq_self, not_true_eq_false, not_false_eq_true, show ¬ σ.nt ≤ i by omega, show i < 16 by omega, f1]
      · by_cases q : t = σ.ord i
        · rw [q, f3]
          rfl
        · rw [f4 t q, e3 t ht]
          show _ = nI (krs (σ.ra i).1 (σ.ra i).2 (σ.ord i) t)
          unfold krs
          rw [if_neg q]
  obtain ⟨C', e1, e2, e3, e4⟩ := st σ.nt (Nat.le_refl _)
  have h := RI_all w hT σ.nt (Nat.le_refl _)
  refine ⟨C', ?_, e2⟩
  unfold fX3_runOrFindAll
  rw [e1]
  refine lp_exq ?_
  unfold fX3_runOrFindAll_2 fX2_size
  show cnd (C' 55 4 ≤ nI σ.nt) (exR (some C')) _ = _
  rw [e2.nt, h.nt, cnd_t (nI_le (Nat.le_refl _) (by omega))]
theorem m_raa {M : Mem} {σ : Ab} {n : Int32} (w : WF σ) (s : RM ou M σ) (hT : σ.nk + ct (fun k => σ.nee.testBit k) σ.nt ≤ 200) (hK : ∀ t, t < σ.nt → M 495 t = nI (σ.ky t)) (hO : ∀ p, p < σ.nt → M 494 p = nI (σ.ord p)) (h0 : M 475 26 = nI 0) : ∃ M', lp (fX8_runAll_31 n) (M, (0 : Int32)) = some (n, M') ∧ RM ou M' (σ.ra σ.nt).1 ∧ M' 475 26 = nI 0 := by
  have hn := w.nt
  have st : ∀ i, i ≤ σ.nt → ∃ M', lp (fX8_runAll_31 n) (M, (0 : Int32)) = lp (fX8_runAll_31 n) (M', nI i) ∧ RM ou M' (σ.ra i).1 ∧ (∀ t, t < σ.nt → M' 495 t = nI ((σ.ra i).2 t)) ∧ (∀ p, M' 494 p = M 494 p) ∧ M' 475 26 = nI 0 := by
    intro i
    induction i with
    | zero => intro _; exact ⟨M, rfl, s, hK, fun _ => rfl, h0⟩
    | succ i ih =>
      intro hi
      obtain ⟨M', e1, e2, e3, e4, e5⟩ := ih (by omega)
      have h := RI_all w hT i (by omega)
      obtain ⟨o1, o2, o3⟩ := ord_s w (p := i) (by omega)
      obtain ⟨p1, p2, p3, p4⟩ := RI_pre w h (by omega) hT
      have hnk := h.w.nk
      have hle := kn_le (σ.ra i).1 (σ.ra i).2 (σ.ord i)
      obtain ⟨M2, f1, f2, f3, f4, f5⟩ := m_rus h.w e2 (t := σ.ord i) (K := (σ.ra i).2) (by rw [h.nt]; exact o1) (fun o ho => e3 o (by rw [h.nt] at ho; exact ho)) (by omega) (fun q => (p4 q).1)
      refine ⟨M2, ?_, f2, fun t ht => f3 t (by rw [h.nt]; exact ht), fun p => by rw [f4, e4], by rw [f5, e5]⟩
      rw [e1]
      refine lp_go ?_
      unfold fX8_runAll_31
      simp only [li_1]
      rw [e2.nt, h.nt, nI_clamp (by omega), e4, hO i (by omega), e5]
      simp (disch := omega) only [li_0, li_1, li_2, li_3, li_4, li_5, li_7, li_8, li_12, li_16, li_23, li_24, li_31, li_40, li_42, li_47, li_63, li_64, li_76, li_77, li_97, li_122, li_200, li_201, li_1000, li_1824, li_9999, li_16000, nI_add, nx_or, nx_and, pk_mul, nx_xor, nI_leI, nI_ltI, nI_eq, nI_clamp, vp_nI, px_sub, px_shl, px_shl2, px_shr2, px_bit, Bool.true_eq_false, Bool.false_eq_true, hol_0, hol_1, px_chr, chk, cnd_true, cnd_false, cnd_ite, bnd_s, nmv, exR, if_pos, if_neg, if_true, if_false, reduceIte, eq_self, not_true_eq_false, not_false_eq_true, show ¬ σ.nt ≤ i by omega, show i < 16 by omega, f1]
  obtain ⟨M', e1, e2, e3, e4, e5⟩ := st σ.nt (Nat.le_refl _)
  have h := RI_all w hT σ.nt (Nat.le_refl _)
  refine ⟨M', ?_, e2, e5⟩
  rw [e1]
  refine lp_exq ?_
  unfold fX8_runAll_31 fX8_runAll_62
  show cnd (M' 475 9 ≤ nI σ.nt) (exR (cnd (M' 475 26 ≤ 0) (some (n, M')) _)) _ = _
  rw [e2.nt, h.nt, e5, cnd_t (nI_le (Nat.le_refl _) (by omega)), cnd_t (by decide)]
theorem op_runAll {C M : Mem} {σ : Ab} (w : WF σ) (r : RC C σ) (s : RM ou M σ) : Opp ou wr_2 (fX7_runAll C) (fX8_runAll M) := by
  have hnt := w.nt
  have hnk := w.nk
  obtain ⟨C', c1, c2, c3, c4⟩ := c_all w r
  obtain ⟨M', m1, m2, m3, m4, m5⟩ := m_need w s
  have hne := lt16 (nee_lt σ) hnt
  have hcn := cn_nee w
  have hct := ct_le (fun k => σ.nee.testBit k) σ.nt
  have hc : fX7_runAll C = cnd (σ.nk + cn σ.nee 24 ≤ 200) (bnd (fX3_runOrFindAll C') fun q47 => some (.inl (nI (cn σ.nee 24)), q47)) (some (.inr 2, C')) := by
    unfold fX7_runAll fX3_given
    rw [c1, bnd_s, c_wok w c2, bnd_s, wok_nee w c3, bc_s (by omega)]
    simp only [nmv, li_200]
    rw [c2.nk, nI_add]
    exact cnd_iff (nI_leI (by omega) (by omega))
  have hm : fX8_runAll M = cnd (σ.nk + cn σ.nee 24 ≤ 200) (lp (fX8_runAll_31 (nI (cn σ.nee 24))) (mset M' 475 26 (nI 0), (0 : Int32))) (lp (fX8_runAll_31 (nI (cn σ.nee 24))) (mset M' 475 26 (nI 1), (0 : Int32))) := by
    unfold fX8_runAll fX8_runAll_26
    rw [m1, bnd_s]
    simp only []
    rw [m_count (by omega), bnd_s, m2.nk, nI_add, li_200]
    exact cnd_iff (nI_leI (by omega) (by omega))
  rw [hc, hm]
  by_cases e : σ.nk + cn σ.nee 24 ≤ 200
  · rw [cnd_t e, cnd_t e]
    rw [hcn] at e
    obtain ⟨C2, f1, f2⟩ := c_raa w c2 e c3 c4
    obtain ⟨M2, g1, g2, g3⟩ := m_raa (n := nI (cn σ.nee 24)) w (RM_thr (x := nI 0) m2) e (fun t ht => by rw [mset_ne (by omega)]; exact m3 t ht) (fun p hp => by rw [mset_ne (by omega)]; exact m4 p hp) mset_eq
    have h := RI_all w e σ.nt (Nat.le_refl _)
    exact ⟨C2, M2, (σ.ra σ.nt).1, h.w, f2, g2, Or.inl ⟨nI (cn σ.nee 24), by rw [f1, bnd_s], g1, g3⟩⟩
  · rw [cnd_f e, cnd_f e]
    refine ⟨C', mset M' 475 26 (nI 1), σ, w, c2, RM_thr m2, Or.inr ⟨2, nI 0, rfl, ?_, mset_eq, by decide, by decide⟩⟩
    refine lp_exq ?_
    unfold fX8_runAll_31 fX8_runAll_62
    simp only [mset_eq]
    have e2 : mset M' 475 26 (nI 1) 475 9 = nI σ.nt := by rw [mset_ne (by omega)]; exact m2.nt
    rw [e2, cnd_f (p := nI 1 ≤ 0) (by decide), cnd_f (p := nI 1 = 0) (by decide)]
    by_cases z : σ.nt = 0
    · rw [cnd_t (by rw [z]; decide)]
      rfl
    · rw [cnd_f (by rw [li_0, nI_leI (by omega) (by omega)]; omega)]
      rfl
