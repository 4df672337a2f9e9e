theorem s2 {k x : Nat} (h : (2 ^ k).testBit x = true) : x = k := by
  rw [Nat.testBit_two_pow, decide_eq_true_iff] at h
  exact h.symm
theorem ups_in {σ : Ab} {S x : Nat} (h : S.testBit x = true) : (σ.ups S).testBit x = true := u2_sub h _
/-- going down from t meets S: t is above S or in it -/
theorem down_up {σ : Ab} (w : WF σ) {S t : Nat} (hS : S < 2 ^ σ.nt) (ht : t < σ.nt) : σ.d2 (2 ^ t) σ.nt &&& S ≠ 0 ↔ (σ.ups S).testBit t = true := by
  have self : ∀ k, (σ.d2 (2 ^ k) σ.nt).testBit k = true := fun k => d2_sub (Nat.testBit_two_pow_self) _
  constructor
  · intro h
    obtain ⟨z, hz⟩ := Nat.exists_testBit_of_ne_zero h
    rw [Nat.testBit_and, Bool.and_eq_true] at hz
    have hV : σ.dc (msk (fun k => (σ.ups (2 ^ k)).testBit t) σ.nt) := by
      intro k o hk h1 h2
      have ho := bit_le (w.de k) h2
      rw [msk_bit] at *
      simp only [Bool.and_eq_true, decide_eq_true_eq] at *
      refine ⟨ho, u2_min (ups_cl (p2_lt ho)) (fun x hx => ?_) _ t h1.2⟩
      rw [s2 hx]
      exact ups_cl (p2_lt ho) k o hk h2 (ups_in Nat.testBit_two_pow_self)
    have := d2_min hV (S := 2 ^ t) (fun x hx => by
      rw [s2 hx, msk_bit]
      simp only [Bool.and_eq_true, decide_eq_true_eq]
      exact ⟨ht, ups_in Nat.testBit_two_pow_self⟩) σ.nt z hz.1
    rw [msk_bit] at this
    simp only [Bool.and_eq_true, decide_eq_true_eq] at this
    exact u2_min (ups_cl hS) (fun x hx => by rw [s2 hx]; exact ups_in hz.2) _ t this.2
  · intro h
    have hV : σ.cl (msk (fun k => decide (σ.d2 (2 ^ k) σ.nt &&& S ≠ 0)) σ.nt) := by
      intro k o hk h1 h2
      rw [msk_bit] at *
      simp only [Bool.and_eq_true, decide_eq_true_eq] at *
      obtain ⟨z, hz⟩ := Nat.exists_testBit_of_ne_zero h2.2
      rw [Nat.testBit_and, Bool.and_eq_true] at hz
      refine ⟨hk, and_ne (x := z) (d2_min (d2_dc w) (fun x hx => ?_) _ z hz.1) hz.2⟩
      rw [s2 hx]
      exact d2_dc w k o hk (self k) h1
    have := u2_min hV (S := S) (fun x hx => by
      rw [msk_bit]
      simp only [Bool.and_eq_true, decide_eq_true_eq]
      exact ⟨bit_le hS hx, and_ne (self x) hx⟩) σ.nt t h
    rw [msk_bit] at this
    simp only [Bool.and_eq_true, decide_eq_true_eq] at this
    exact this.2
