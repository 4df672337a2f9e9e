/-! EVALUATION: what a piece of the law comes to, by the kernel -/
noncomputable def eqT (a : RT) : RT → Bool := @Lean.RArray.rec Nat (fun _ => RT → Bool) (fun v b => @Lean.RArray.rec Nat (fun _ => Bool) (fun w => Nat.beq v w) (fun _ _ _ _ _ => false) b) (fun p _ _ el er b => @Lean.RArray.rec Nat (fun _ => Bool) (fun _ => false) (fun q l r _ _ => and (Nat.beq p q) (and (el l) (er r))) b) a
theorem eqT_s (a : RT) : ∀ b : RT, eqT a b = true → a = b := by
  induction a with
  | leaf v =>
    intro b h
    cases b with
    | leaf w => rw [Nat.eq_of_beq_eq_true (show Nat.beq v w = true from h)]
    | branch q l r => exact absurd (show false = true from h) (by decide)
  | branch p l r ihl ihr =>
    intro b h
    cases b with
    | leaf w => exact absurd (show false = true from h) (by decide)
    | branch q l' r' =>
      have h : and (Nat.beq p q) (and (eqT l l') (eqT r r')) = true := h
      simp only [Bool.and_eq_true] at h
      rw [Nat.eq_of_beq_eq_true h.1, ihl _ h.2.1, ihr _ h.2.2]
noncomputable def eqO (o : Option RT) (R : RT) : Bool := @Option.rec RT (fun _ => Bool) false (fun a => eqT a R) o
noncomputable def eqN (o : Option Nat) (n : Nat) : Bool := @Option.rec Nat (fun _ => Bool) false (fun a => Nat.beq a n) o
noncomputable def eqL (o : Option ((RT × Nat) ⊕ Nat)) (R : RT) (i : Nat) : Bool := @Option.rec ((RT × Nat) ⊕ Nat) (fun _ => Bool) false (fun y => @Sum.rec (RT × Nat) Nat (fun _ => Bool) (fun t => and (Nat.beq t.2 i) (eqT t.1 R)) (fun _ => false) y) o
theorem eqO_s {o : Option RT} {R : RT} (h : eqO o R = true) : o = some R := by
  cases o with
  | none => exact absurd (show false = true from h) (by decide)
  | some a => rw [eqT_s a R h]
theorem eqN_s {o : Option Nat} {n : Nat} (h : eqN o n = true) : o = some n := by
  cases o with
  | none => exact absurd (show false = true from h) (by decide)
  | some a => rw [Nat.eq_of_beq_eq_true (show Nat.beq a n = true from h)]
theorem eqL_s {o : Option ((RT × Nat) ⊕ Nat)} {R : RT} {i : Nat} (h : eqL o R i = true) : o = some (.inl (R, i)) := by
  cases o with
  | none => exact absurd (show false = true from h) (by decide)
  | some y =>
    cases y with
    | inr r => exact absurd (show false = true from h) (by decide)
    | inl t =>
      have h : and (Nat.beq t.2 i) (eqT t.1 R) = true := h
      simp only [Bool.and_eq_true] at h
      obtain ⟨a, b⟩ := t
      have h1 : b = i := Nat.eq_of_beq_eq_true h.1
      have h2 : a = R := eqT_s _ _ h.2
      rw [h1, h2]
noncomputable def allC (f : Nat → Bool) (s n : Nat) : Bool := @Nat.rec (fun _ => Bool) true (fun i ih => and (f (Nat.add s i)) ih) n
theorem allC_s {f : Nat → Bool} {s : Nat} : ∀ n : Nat, allC f s n = true → ∀ i, s ≤ i → i < s + n → f i = true
  | 0, _, i, h1, h2 => by omega
  | n + 1, h, i, h1, h2 => by
    have h : and (f (s + n)) (allC f s n) = true := h
    simp only [Bool.and_eq_true] at h
    by_cases e : i = s + n
    · rw [e]; exact h.1
    · exact allC_s n h.2 i h1 (by omega)
theorem ev_step {x : Nat} {F : Mem → Option Int32} {o' : Option RT} {o : Option Int32} {R : RT} (h : RZ (Zex x F) o' o) (e : eqO o' R = true) : ∃ C, rm x R C ∧ o = F C := h R (eqO_s e)
theorem ev_fin {x : Nat} {o' : Option Nat} {o : Option Int32} (h : RZ (RO (rv x)) o' o) (e : eqN o' 1 = true) : o = some (1 : Int32) := by
  obtain ⟨a, e1, e2⟩ := h 1 (eqN_s e)
  rw [e1, rv_c e2 (by decide)]
  rfl
theorem ev_loop {x : Nat} {it' : RT × Nat → Option ((RT × Nat) ⊕ Nat)} {it : Mem × Int32 → Option ((Mem × Int32) ⊕ Int32)} {s' : RT × Nat} {s : Mem × Int32} {R : RT} {i : Nat} {o : Option Int32} (h : RZ (RO (rs (rp (rm x) (rv x)) (rv x))) (it' s') (it s)) (e : eqL (it' s') R i = true) (ho : o = lp it s) : ∃ t, rp (rm x) (rv x) (R, i) t ∧ o = lp it t := by
  obtain ⟨y, e1, e2⟩ := h _ (eqL_s e)
  cases y with
  | inl t => exact ⟨t, e2, ho.trans (lp_go e1)⟩
  | inr r => exact e2.elim
theorem ev_exit {σ ρ : Type} {it : σ → Option (σ ⊕ ρ)} {s : σ} {o : Option ρ} (h : it s = exR o) : lp it s = o := by
  cases o with
  | some r => exact lp_out h
  | none =>
    cases hl : lp it s with
    | none => rfl
    | some r =>
      obtain ⟨n, hn⟩ := lp_to hl
      cases n with
      | zero => cases hn
      | succ n =>
        simp only [lpN] at hn
        rw [h] at hn
        cases hn
