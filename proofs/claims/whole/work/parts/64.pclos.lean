/-! going up ends: what u2 gives after as many rounds as targets is closed -/
def ct (p : Nat → Bool) : Nat → Nat
  | 0 => 0
  | n + 1 => ct p n + if p n = true then 1 else 0
theorem ct_le (p : Nat → Bool) : ∀ n, ct p n ≤ n
  | 0 => Nat.le_refl _
  | n + 1 => by
    have := ct_le p n
    unfold ct
    by_cases c : p n = true
    · rw [if_pos c]; omega
    · rw [if_neg c]; omega
theorem ct_sub {p q : Nat → Bool} (h : ∀ k, p k = true → q k = true) : ∀ n, ct p n ≤ ct q n
  | 0 => Nat.le_refl _
  | n + 1 => by
    have := ct_sub h n
    unfold ct
    by_cases c : p n = true
    · rw [if_pos c, if_pos (h n c)]; omega
    · rw [if_neg c]
      omega
theorem ct_st {p q : Nat → Bool} (h : ∀ k, p k = true → q k = true) {x : Nat} (h1 : p x = false) (h2 : q x = true) : ∀ n, x < n → ct p n < ct q n
  | 0, hx => by omega
  | n + 1, hx => by
    unfold ct
    by_cases e : x = n
    · subst e
      have := ct_sub h x
      rw [if_pos h2, if_neg (by rw [h1]; decide)]
      omega
    · have := ct_st h h1 h2 n (by omega)
      by_cases c : p n = true
      · rw [if_pos c, if_pos (h n c)]; omega
      · rw [if_neg c]
        omega
theorem ct_all {p : Nat → Bool} : ∀ n, ct p n = n → ∀ k, k < n → p k = true
  | 0, _, k, hk => by omega
  | n + 1, h, k, hk => by
    have h1 := ct_le p n
    unfold ct at h
    by_cases c : p n = true
    · rw [if_pos c] at h
      by_cases e : k = n
      · subst e; exact c
      · exact ct_all n (by omega) k (by omega)
    · rw [if_neg c] at h
      omega
theorem u1_sub {σ : Ab} {S x : Nat} (h : S.testBit x = true) : ∀ k, (σ.u1 S k).testBit x = true
  | 0 => h
  | k + 1 => by
    have ih := u1_sub (σ := σ) h k
    unfold Ab.u1
    by_cases c : σ.de k &&& σ.u1 S k = 0
    · rw [if_pos c]; exact ih
    · rw [if_neg c, Nat.testBit_or, ih]; rfl
theorem and_ne {a b x : Nat} (h1 : a.testBit x = true) (h2 : b.testBit x = true) : a &&& b ≠ 0 := by
  intro h
  have : (a &&& b).testBit x = true := by rw [Nat.testBit_and, h1, h2]; rfl
  rw [h, Nat.zero_testBit] at this
  cases this
/-- a set that holds all above it -/
def Ab.cl (σ : Ab) (S : Nat) : Prop := ∀ t o, t < σ.nt → (σ.de t).testBit o = true → S.testBit o = true → S.testBit t = true
/-- one more round adds the next ones above -/
theorem u1_add {σ : Ab} {S t o : Nat} (h1 : (σ.de t).testBit o = true) (h2 : S.testBit o = true) : ∀ k, t < k → (σ.u1 S k).testBit t = true
  | 0, h => by omega
  | k + 1, h => by
    by_cases e : t = k
    · subst e
      rw [show σ.u1 S (t + 1) = σ.u1 S t ||| 2 ^ t from if_neg (and_ne h1 (u1_sub h2 t)), Nat.testBit_or, Nat.testBit_two_pow]
      simp
    · have ih := u1_add h1 h2 k (by omega)
      unfold Ab.u1
      by_cases c : σ.de k &&& σ.u1 S k = 0
      · rw [if_pos c]; exact ih
      · rw [if_neg c, Nat.testBit_or, ih]; rfl
theorem cl_u1 {σ : Ab} {S : Nat} (h : σ.cl S) : ∀ k, k ≤ σ.nt → σ.u1 S k = S
  | 0, _ => rfl
  | k + 1, hk => by
    have ih := cl_u1 h k (by omega)
    unfold Ab.u1
    rw [ih]
    by_cases c : σ.de k &&& S = 0
    · rw [if_pos c]
    · rw [if_neg c]
      apply Nat.eq_of_testBit_eq
      intro i
      rw [Nat.testBit_or, Nat.testBit_two_pow]
      by_cases e : k = i
      · subst e
        obtain ⟨x, hx⟩ := Nat.exists_testBit_of_ne_zero c
        rw [Nat.testBit_and, Bool.and_eq_true] at hx
        rw [h k x (by omega) hx.1 hx.2]
        simp
      · simp [e]
theorem u2_sub {σ : Ab} {S x : Nat} (h : S.testBit x = true) : ∀ i, (σ.u2 S i).testBit x = true
  | 0 => h
  | i + 1 => u1_sub (u2_sub h i) _
theorem u2_grow {σ : Ab} {S : Nat} (hS : S < 2 ^ σ.nt) : ∀ i, σ.cl (σ.u2 S i) ∨ i ≤ ct (fun k => (σ.u2 S i).testBit k) σ.nt
  | 0 => Or.inr (Nat.zero_le _)
  | i + 1 => by
    have e : σ.u2 S (i + 1) = σ.u1 (σ.u2 S i) σ.nt := rfl
    by_cases hc : σ.cl (σ.u2 S i)
    · left
      rw [e, cl_u1 hc _ (Nat.le_refl _)]
      exact hc
    · rcases u2_grow hS i with h | h
      · exact absurd h hc
      · right
        have : ∃ t o, t < σ.nt ∧ (σ.de t).testBit o = true ∧ (σ.u2 S i).testBit o = true ∧ (σ.u2 S i).testBit t = false := by
          apply Classical.byContradiction
          intro q
          apply hc
          intro t o h1 h2 h3
          apply Classical.byContradiction
          intro h4
          exact q ⟨t, o, h1, h2, h3, by simpa using h4⟩
        obtain ⟨t, o, h1, h2, h3, h4⟩ := this
        have := ct_st (p := fun k => (σ.u2 S i).testBit k) (q := fun k => (σ.u2 S (i + 1)).testBit k) (fun k hk => u1_sub hk _) (x := t) h4 (u1_add h2 h3 _ h1) σ.nt h1
        omega
theorem ups_cl {σ : Ab} {S : Nat} (hS : S < 2 ^ σ.nt) : σ.cl (σ.ups S) := by
  rcases u2_grow hS σ.nt with h | h
  · exact h
  · intro t o h1 _ _
    exact ct_all (p := fun k => (σ.u2 S σ.nt).testBit k) σ.nt (by have := ct_le (fun k => (σ.u2 S σ.nt).testBit k) σ.nt; omega) t h1
