/-! what going down gives: closed, and nothing but what is below -/
def Ab.dc (σ : Ab) (S : Nat) : Prop := ∀ t o, t < σ.nt → S.testBit t = true → (σ.de t).testBit o = true → S.testBit o = true
theorem d1_add {σ : Ab} {S t o : Nat} (h1 : S.testBit t = true) (h2 : (σ.de t).testBit o = true) : ∀ k, t < k → (σ.d1 S k).testBit o = true
  | 0, h => by omega
  | k + 1, h => by
    by_cases e : t = k
    · subst e
      rw [show σ.d1 S (t + 1) = σ.d1 S t ||| σ.de t from if_pos (d1_sub h1 t), Nat.testBit_or, h2, Bool.or_true]
    · have ih := d1_add h1 h2 k (by omega)
      unfold Ab.d1
      by_cases c : (σ.d1 S k).testBit k = true
      · rw [if_pos c, Nat.testBit_or, ih]; rfl
      · rw [if_neg c]; exact ih
theorem dc_d1 {σ : Ab} {S : Nat} (h : σ.dc S) : ∀ k, k ≤ σ.nt → σ.d1 S k = S
  | 0, _ => rfl
  | k + 1, hk => by
    have ih := dc_d1 h k (by omega)
    unfold Ab.d1
    rw [ih]
    by_cases c : S.testBit k = true
    · rw [if_pos c]
      apply Nat.eq_of_testBit_eq
      intro i
      rw [Nat.testBit_or]
      by_cases e : (σ.de k).testBit i = true
      · rw [h k i (by omega) c e]; rfl
      · simp only [Bool.not_eq_true] at e
        rw [e, Bool.or_false]
    · rw [if_neg c]
theorem d2_sub {σ : Ab} {S x : Nat} (h : S.testBit x = true) : ∀ i, (σ.d2 S i).testBit x = true
  | 0 => h
  | i + 1 => d1_sub (d2_sub h i) _
theorem d2_grow {σ : Ab} {S : Nat} (w : WF σ) : ∀ i, σ.dc (σ.d2 S i) ∨ i ≤ ct (fun k => (σ.d2 S i).testBit k) σ.nt
  | 0 => Or.inr (Nat.zero_le _)
  | i + 1 => by
    have e : σ.d2 S (i + 1) = σ.d1 (σ.d2 S i) σ.nt := rfl
    by_cases hc : σ.dc (σ.d2 S i)
    · left
      rw [e, dc_d1 hc _ (Nat.le_refl _)]
      exact hc
    · rcases d2_grow w i with h | h
      · exact absurd h hc
      · right
        have : ∃ t o, t < σ.nt ∧ (σ.d2 S i).testBit t = true ∧ (σ.de t).testBit o = true ∧ (σ.d2 S i).testBit o = false := by
          apply Classical.byContradiction
          intro q
          apply hc
          intro t o h1 h2 h3
          apply Classical.byContradiction
          intro h4
          exact q ⟨t, o, h1, h2, h3, by simpa using h4⟩
        obtain ⟨t, o, h1, h2, h3, h4⟩ := this
        have := ct_st (p := fun k => (σ.d2 S i).testBit k) (q := fun k => (σ.d2 S (i + 1)).testBit k) (fun k hk => d1_sub hk _) (x := o) h4 (d1_add h2 h3 _ h1) σ.nt (bit_le (w.de t) h3)
        omega
theorem d2_dc {σ : Ab} {S : Nat} (w : WF σ) : σ.dc (σ.d2 S σ.nt) := by
  rcases d2_grow (S := S) w σ.nt with h | h
  · exact h
  · intro t o h1 _ h3
    exact ct_all (p := fun k => (σ.d2 S σ.nt).testBit k) σ.nt (by have := ct_le (fun k => (σ.d2 S σ.nt).testBit k) σ.nt; omega) o (bit_le (w.de t) h3)
/-- least: it lies in each closed set around -/
theorem d1_min {σ : Ab} {S V : Nat} (hV : σ.dc V) (h : ∀ x, S.testBit x = true → V.testBit x = true) : ∀ k, k ≤ σ.nt → ∀ x, (σ.d1 S k).testBit x = true → V.testBit x = true
  | 0, _ => h
  | k + 1, hk => by
    have ih := d1_min hV h k (by omega)
    intro x hx
    unfold Ab.d1 at hx
    by_cases c : (σ.d1 S k).testBit k = true
    · rw [if_pos c, Nat.testBit_or, Bool.or_eq_true] at hx
      rcases hx with hx | hx
      · exact ih x hx
      · exact hV k x (by omega) (ih k c) hx
    · rw [if_neg c] at hx
      exact ih x hx
theorem d2_min {σ : Ab} {S V : Nat} (hV : σ.dc V) (h : ∀ x, S.testBit x = true → V.testBit x = true) : ∀ i x, (σ.d2 S i).testBit x = true → V.testBit x = true
  | 0 => h
  | i + 1 => d1_min hV (d2_min hV h i) σ.nt (Nat.le_refl _)
theorem u1_min {σ : Ab} {S V : Nat} (hV : σ.cl V) (h : ∀ x, S.testBit x = true → V.testBit x = true) : ∀ k, k ≤ σ.nt → ∀ x, (σ.u1 S k).testBit x = true → V.testBit x = true
  | 0, _ => h
  | k + 1, hk => by
    have ih := u1_min hV h k (by omega)
    intro x hx
    unfold Ab.u1 at hx
    by_cases c : σ.de k &&& σ.u1 S k = 0
    · rw [if_pos c] at hx
      exact ih x hx
    · rw [if_neg c, Nat.testBit_or, Bool.or_eq_true] at hx
      rcases hx with hx | hx
      · exact ih x hx
      · rw [Nat.testBit_two_pow, decide_eq_true_iff] at hx
        subst hx
        obtain ⟨o, ho⟩ := Nat.exists_testBit_of_ne_zero c
        rw [Nat.testBit_and, Bool.and_eq_true] at ho
        exact hV k o (by omega) ho.1 (ih o ho.2)
theorem u2_min {σ : Ab} {S V : Nat} (hV : σ.cl V) (h : ∀ x, S.testBit x = true → V.testBit x = true) : ∀ i x, (σ.u2 S i).testBit x = true → V.testBit x = true
  | 0 => h
  | i + 1 => u1_min hV (u2_min hV h i) σ.nt (Nat.le_refl _)
