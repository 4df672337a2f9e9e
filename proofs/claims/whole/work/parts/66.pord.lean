/-! the order -/
def Ab.fr (σ : Ab) (I k : Nat) : Prop := I.testBit k = false ∧ σ.de k &&& (I ^^^ 4294967295) = 0
theorem fr_dep {σ : Ab} {I k o : Nat} (w : WF σ) (h : σ.fr I k) (ho : (σ.de k).testBit o = true) : I.testBit o = true := by
  have hn := w.nt
  have ho2 := bit_le (w.de k) ho
  have h2 := congrArg (fun x => x.testBit o) h.2
  simp only [Nat.testBit_and, Nat.testBit_xor, Nat.zero_testBit, ho, Bool.true_and] at h2
  rw [show 4294967295 = 2 ^ 32 - 1 by decide, Nat.testBit_two_pow_sub_one, decide_eq_true (by omega : o < 32)] at h2
  cases q : I.testBit o with
  | true => rfl
  | false => rw [q] at h2; cases h2
theorem fr_mk {σ : Ab} {I k : Nat} (h : I.testBit k = false) (hd : ∀ o, (σ.de k).testBit o = true → I.testBit o = true) (hn : σ.de k < 4294967296) : σ.fr I k := by
  refine ⟨h, ?_⟩
  apply Nat.eq_of_testBit_eq
  intro o
  rw [Nat.testBit_and, Nat.testBit_xor, Nat.zero_testBit, show 4294967295 = 2 ^ 32 - 1 by decide, Nat.testBit_two_pow_sub_one]
  by_cases c : (σ.de k).testBit o = true
  · have : o < 32 := bit_le (N := 32) hn c
    rw [hd o c, decide_eq_true this, c]; rfl
  · simp only [Bool.not_eq_true] at c
    rw [c]; rfl
theorem fr_ex {σ : Ab} {I : Nat} (w : WF σ) (h : ∃ k, k < σ.nt ∧ I.testBit k = false) : ∃ k, k < σ.nt ∧ σ.fr I k := by
  obtain ⟨rk, hrk⟩ := w.ac
  obtain ⟨k0, h1, h2⟩ := h
  obtain ⟨m, ⟨k, k1, k2, k3⟩, hmin⟩ := pk_least (fun m => ∃ k, k < σ.nt ∧ I.testBit k = false ∧ rk k = m) ⟨rk k0, k0, h1, h2, rfl⟩
  have hd := lt16 (w.de k) w.nt
  refine ⟨k, k1, fr_mk k2 (fun o ho => ?_) (by omega)⟩
  have ho2 := bit_le (w.de k) ho
  have hr := hrk k o ho
  cases q : I.testBit o with
  | true => rfl
  | false => exact absurd ⟨o, ho2, q, rfl⟩ (hmin (rk o) (by omega))
theorem nx_ex (σ : Ab) (I : Nat) (h : ∃ k, k < σ.nt ∧ σ.fr I k) : ∃ k, (k < σ.nt ∧ σ.fr I k) ∧ ∀ j, j < k → ¬ (j < σ.nt ∧ σ.fr I j) := pk_least (fun k => k < σ.nt ∧ σ.fr I k) h

/-- the least target that is free behind a set -/
noncomputable def Ab.nxt (σ : Ab) (I : Nat) : Nat := @dite _ (∃ k, k < σ.nt ∧ σ.fr I k) (Classical.propDecidable _) (fun h => Classical.choose (nx_ex σ I h)) (fun _ => 0)
noncomputable def Ab.inn (σ : Ab) : Nat → Nat
  | 0 => 0
  | p + 1 => Ab.inn σ p ||| 2 ^ σ.nxt (Ab.inn σ p)
noncomputable def Ab.ord (σ : Ab) (p : Nat) : Nat := σ.nxt (σ.inn p)
theorem nxt_s {σ : Ab} {I : Nat} (h : ∃ k, k < σ.nt ∧ σ.fr I k) : (σ.nxt I < σ.nt ∧ σ.fr I (σ.nxt I)) ∧ ∀ j, j < σ.nxt I → ¬ (j < σ.nt ∧ σ.fr I j) := by
  have e : σ.nxt I = Classical.choose (nx_ex σ I h) := by
    unfold Ab.nxt
    exact @dif_pos _ (Classical.propDecidable _) h _ _ _
  rw [e]
  exact Classical.choose_spec (nx_ex σ I h)
theorem ct_add {p q : Nat → Bool} {x : Nat} (h1 : p x = false) (h2 : q x = true) (h : ∀ k, k ≠ x → q k = p k) : ∀ n, ct q n = ct p n + if x < n then 1 else 0
  | 0 => rfl
  | n + 1 => by
    have ih := ct_add h1 h2 h n
    unfold ct
    rw [ih]
    by_cases e : n = x
    · subst e
      rw [h1, h2, if_neg (show ¬ n < n by omega), if_pos (show n < n + 1 by omega)]
      simp
    · rw [h n e]
      by_cases c : x < n
      · rw [if_pos c, if_pos (show x < n + 1 by omega)]; omega
      · rw [if_neg c, if_neg (show ¬ x < n + 1 by omega)]
        omega
theorem inn_s {σ : Ab} (w : WF σ) : ∀ p, p ≤ σ.nt → σ.inn p < 2 ^ σ.nt ∧ ct (fun k => (σ.inn p).testBit k) σ.nt = p ∧ (p < σ.nt → ∃ k, k < σ.nt ∧ σ.fr (σ.inn p) k)
  | 0, _ => by
    have e : ct (fun k => (σ.inn 0).testBit k) σ.nt = 0 := by
      have : ∀ n, ct (fun k => (0 : Nat).testBit k) n = 0 := by
        intro n
        induction n with
        | zero => rfl
        | succ n ih =>
          show ct (fun k => (0 : Nat).testBit k) n + (if (0 : Nat).testBit n = true then 1 else 0) = 0
          rw [ih, Nat.zero_testBit]
          rfl
      exact this σ.nt
    exact ⟨Nat.two_pow_pos _, e, fun h => fr_ex w ⟨0, h, Nat.zero_testBit _⟩⟩
  | p + 1, hp => by
    obtain ⟨i1, i2, i3⟩ := inn_s w p (by omega)
    obtain ⟨⟨n1, n2⟩, _⟩ := nxt_s (i3 (by omega))
    have e : σ.inn (p + 1) = σ.inn p ||| 2 ^ σ.nxt (σ.inn p) := rfl
    have c1 : ct (fun k => (σ.inn (p + 1)).testBit k) σ.nt = p + 1 := by
      rw [ct_add (p := fun k => (σ.inn p).testBit k) (x := σ.nxt (σ.inn p)) n2.1 (by show (σ.inn (p + 1)).testBit _ = true; rw [e, Nat.testBit_or, Nat.testBit_two_pow_self, Bool.or_true]) (fun k hk => by show (σ.inn (p + 1)).testBit k = _; rw [e, Nat.testBit_or, Nat.testBit_two_pow, decide_eq_false (fun q => hk q.symm), Bool.or_false]), i2, if_pos n1]
    refine ⟨by rw [e]; exact or_lt i1 (p2_lt n1), c1, fun h => fr_ex w ?_⟩
    apply Classical.byContradiction
    intro q
    have all : ∀ n, n ≤ σ.nt → ct (fun k => (σ.inn (p + 1)).testBit k) n = n := by
      intro n
      induction n with
      | zero => intro _; rfl
      | succ n ih =>
        intro hn
        show ct (fun k => (σ.inn (p + 1)).testBit k) n + (if (σ.inn (p + 1)).testBit n = true then 1 else 0) = n + 1
        rw [ih (by omega), if_pos]
        cases z : (σ.inn (p + 1)).testBit n with
        | true => rfl
        | false => exact absurd ⟨n, by omega, z⟩ q
    have := all σ.nt (Nat.le_refl _)
    omega
