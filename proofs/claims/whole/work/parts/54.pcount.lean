/-! bitCount -/
def cn (a : Nat) : Nat → Nat
  | 0 => 0
  | k + 1 => cn a k + a / 2 ^ k % 2
theorem ush (n : Nat) (h : n < 4294967296) {k : UInt32} {j : Nat} (hk : k.toNat % 32 = j) : ((nI n).toUInt32 >>> k).toInt32 = nI (n / 2 ^ j) := by
  apply Int32.toBitVec_inj.mp
  apply BitVec.eq_of_toNat_eq
  show ((nI n).toUInt32 >>> k).toNat = (BitVec.ofNat 32 _).toNat
  have e : (nI n).toUInt32.toNat = n := by
    show (BitVec.ofNat 32 n).toNat = n
    rw [BitVec.toNat_ofNat, Nat.mod_eq_of_lt (by omega)]
  rw [UInt32.toNat_shiftRight, hk, e, BitVec.toNat_ofNat, Nat.shiftRight_eq_div_pow, Nat.mod_eq_of_lt]
  exact Nat.lt_of_le_of_lt (Nat.div_le_self _ _) (by omega)
theorem and2 {x c : Nat} (y d : Nat) (hx : x < 256) (hc : c < 256) : (256 * y + x) &&& (256 * d + c) = 256 * (y &&& d) + (x &&& c) := by
  apply Nat.eq_of_testBit_eq
  intro j
  have h3 : x &&& c < 2 ^ 8 := Nat.lt_of_le_of_lt Nat.and_le_left hx
  rw [Nat.testBit_and, show 256 = 2 ^ 8 from rfl, Nat.testBit_two_pow_mul_add _ hx, Nat.testBit_two_pow_mul_add _ hc, Nat.testBit_two_pow_mul_add _ h3]
  by_cases q : j < 8
  · simp [q, Nat.testBit_and]
  · simp [q, Nat.testBit_and]
theorem and3 {x c y d : Nat} (z f : Nat) (hx : x < 256) (hc : c < 256) (hy : y < 256) (hd : d < 256) : (65536 * z + 256 * y + x) &&& (65536 * f + 256 * d + c) = 65536 * (z &&& f) + 256 * (y &&& d) + (x &&& c) := by
  rw [show 65536 * z + 256 * y + x = 256 * (256 * z + y) + x by omega, show 65536 * f + 256 * d + c = 256 * (256 * f + d) + c by omega, and2 _ _ hx hc, and2 _ _ hy hd]
  omega
def t1 (b : Nat) : Nat := b - (b / 2 &&& 85)
def t2 (p : Nat) : Nat := (p &&& 51) + (p / 4 &&& 51)
theorem f1 : ∀ b, b < 256 → (b / 2 &&& 21845 = b / 2 &&& 85) ∧ (b / 2 &&& 85) ≤ b ∧ t1 b < 256 := by decide +kernel
theorem f1e : ∀ b, b < 256 → ∀ e, e < 2 → (128 * e + b / 2) &&& 85 = b / 2 &&& 85 := by decide +kernel
theorem f2 : ∀ p, p < 256 → (p &&& 13107 = p &&& 51) ∧ (p / 4 &&& 13107 = p / 4 &&& 51) := by decide +kernel
theorem f2e : ∀ p, p < 256 → ∀ e, e < 4 → (64 * e + p / 4) &&& 51 = p / 4 &&& 51 := by decide +kernel
theorem f3 : ∀ b, b < 256 → t2 (t1 b) < 256 ∧ t2 (t1 b) % 16 < 5 ∧ t2 (t1 b) / 16 < 5 ∧ cn b 8 < 9 := by decide +kernel
theorem f3e : ∀ b, b < 256 → ∀ e, e < 5 → (t2 (t1 b) + 16 * e + t2 (t1 b) / 16) &&& 15 = cn b 8 := by decide +kernel
theorem f3f : ∀ b, b < 256 → (t2 (t1 b) + t2 (t1 b) / 16) &&& 3855 = cn b 8 := by decide +kernel
theorem cn_lo {h b : Nat} (hb : b < 256) : cn (256 * h + b) 8 = cn b 8 := by
  have e0 : (256 * h + b) / 2 ^ 0 % 2 = b / 2 ^ 0 % 2 := by omega
  have e1 : (256 * h + b) / 2 ^ 1 % 2 = b / 2 ^ 1 % 2 := by omega
  have e2 : (256 * h + b) / 2 ^ 2 % 2 = b / 2 ^ 2 % 2 := by omega
  have e3 : (256 * h + b) / 2 ^ 3 % 2 = b / 2 ^ 3 % 2 := by omega
  have e4 : (256 * h + b) / 2 ^ 4 % 2 = b / 2 ^ 4 % 2 := by omega
  have e5 : (256 * h + b) / 2 ^ 5 % 2 = b / 2 ^ 5 % 2 := by omega
  have e6 : (256 * h + b) / 2 ^ 6 % 2 = b / 2 ^ 6 % 2 := by omega
  have e7 : (256 * h + b) / 2 ^ 7 % 2 = b / 2 ^ 7 % 2 := by omega
  show 0 + _ + _ + _ + _ + _ + _ + _ + _ = 0 + _ + _ + _ + _ + _ + _ + _ + _
  rw [e0, e1, e2, e3, e4, e5, e6, e7]
theorem cn_hi {h b : Nat} (hb : b < 256) : ∀ k, cn (256 * h + b) (8 + k) = cn b 8 + cn h k
  | 0 => cn_lo hb
  | k + 1 => by
    show cn (256 * h + b) (8 + k) + (256 * h + b) / 2 ^ (8 + k) % 2 = cn b 8 + (cn h k + h / 2 ^ k % 2)
    rw [cn_hi hb k, Nat.pow_add, ← Nat.div_div_eq_div_mul, show (256 * h + b) / 2 ^ 8 = h by omega, Nat.add_assoc]
theorem cn_24 {b0 b1 b2 : Nat} (h0 : b0 < 256) (h1 : b1 < 256) : cn (65536 * b2 + 256 * b1 + b0) 24 = cn b0 8 + cn b1 8 + cn b2 8 := by
  rw [show 65536 * b2 + 256 * b1 + b0 = 256 * (256 * b2 + b1) + b0 by omega, show 24 = 8 + (8 + 8) from rfl, cn_hi h0, cn_hi h1, Nat.add_assoc]
theorem bc_l {x y z : Nat} (hx : x < 9) (hy : y < 9) (hz : z < 9) : (65536 * z + 256 * y + x + (65536 * z + 256 * y + x) / 2 ^ 8 + (65536 * z + 256 * y + x + (65536 * z + 256 * y + x) / 2 ^ 8) / 2 ^ 16) % 2 ^ 6 = x + y + z := by
  have e1 : (65536 * z + 256 * y + x) / 2 ^ 8 = 256 * z + y := by omega
  rw [e1]
  have e2 : (65536 * z + 256 * y + x + (256 * z + y)) / 2 ^ 16 = z := by omega
  rw [e2]
  omega
theorem bc_s {a : Nat} (h : a < 16777216) : fJ6_bitCount_0f7a4 (nI a) = nI (cn a 24) := by
  obtain ⟨b0, b1, b2, h0, h1, h2, rfl⟩ : ∃ b0 b1 b2, b0 < 256 ∧ b1 < 256 ∧ b2 < 256 ∧ a = 65536 * b2 + 256 * b1 + b0 := ⟨a % 256, a / 256 % 256, a / 65536, by omega, by omega, by omega, by omega⟩
  rw [cn_24 h0 h1]
  have g0 := f1 b0 h0
  have g1 := f1 b1 h1
  have g2 := f1 b2 h2
  have k0 := f3 b0 h0
  have k1 := f3 b1 h1
  have k2 := f3 b2 h2
  have e1 : (65536 * b2 + 256 * b1 + b0) / 2 ^ 1 &&& 1431655765 = 65536 * (b2 / 2 &&& 85) + 256 * (b1 / 2 &&& 85) + (b0 / 2 &&& 85) := by
    rw [show (65536 * b2 + 256 * b1 + b0) / 2 ^ 1 = 65536 * (b2 / 2) + 256 * (128 * (b2 % 2) + b1 / 2) + (128 * (b1 % 2) + b0 / 2) by omega]
    rw [show (1431655765 : Nat) = 65536 * 21845 + 256 * 85 + 85 by decide, and3 _ _ (by omega) (by decide) (by omega) (by decide), g2.1, f1e b1 h1 _ (by omega), f1e b0 h0 _ (by omega)]
  have v1 : nI (65536 * b2 + 256 * b1 + b0) - nI (65536 * (b2 / 2 &&& 85) + 256 * (b1 / 2 &&& 85) + (b0 / 2 &&& 85)) = nI (65536 * t1 b2 + 256 * t1 b1 + t1 b0) := by
    rw [px_sub (by omega)]
    congr 1
    unfold t1
    omega
  have e2 : (65536 * t1 b2 + 256 * t1 b1 + t1 b0) &&& 858993459 = 65536 * (t1 b2 &&& 51) + 256 * (t1 b1 &&& 51) + (t1 b0 &&& 51) := by
    rw [show (858993459 : Nat) = 65536 * 13107 + 256 * 51 + 51 by decide, and3 _ _ g0.2.2 (by decide) g1.2.2 (by decide), (f2 _ g2.2.2).1]
  have e3 : (65536 * t1 b2 + 256 * t1 b1 + t1 b0) / 2 ^ 2 &&& 858993459 = 65536 * (t1 b2 / 4 &&& 51) + 256 * (t1 b1 / 4 &&& 51) + (t1 b0 / 4 &&& 51) := by
    rw [show (65536 * t1 b2 + 256 * t1 b1 + t1 b0) / 2 ^ 2 = 65536 * (t1 b2 / 4) + 256 * (64 * (t1 b2 % 4) + t1 b1 / 4) + (64 * (t1 b1 % 4) + t1 b0 / 4) by omega]
    rw [show (858993459 : Nat) = 65536 * 13107 + 256 * 51 + 51 by decide, and3 _ _ (by omega) (by decide) (by omega) (by decide), (f2 _ g2.2.2).2, f2e _ g1.2.2 _ (by omega), f2e _ g0.2.2 _ (by omega)]
  have v2 : 65536 * (t1 b2 &&& 51) + 256 * (t1 b1 &&& 51) + (t1 b0 &&& 51) + (65536 * (t1 b2 / 4 &&& 51) + 256 * (t1 b1 / 4 &&& 51) + (t1 b0 / 4 &&& 51)) = 65536 * t2 (t1 b2) + 256 * t2 (t1 b1) + t2 (t1 b0) := by
    unfold t2
    omega
  have e4 : (65536 * t2 (t1 b2) + 256 * t2 (t1 b1) + t2 (t1 b0) + (65536 * t2 (t1 b2) + 256 * t2 (t1 b1) + t2 (t1 b0)) / 2 ^ 4) &&& 252645135 = 65536 * cn b2 8 + 256 * cn b1 8 + cn b0 8 := by
    rw [show 65536 * t2 (t1 b2) + 256 * t2 (t1 b1) + t2 (t1 b0) + (65536 * t2 (t1 b2) + 256 * t2 (t1 b1) + t2 (t1 b0)) / 2 ^ 4 = 65536 * (t2 (t1 b2) + t2 (t1 b2) / 16) + 256 * (t2 (t1 b1) + 16 * (t2 (t1 b2) % 16) + t2 (t1 b1) / 16) + (t2 (t1 b0) + 16 * (t2 (t1 b1) % 16) + t2 (t1 b0) / 16) by omega]
    rw [show (252645135 : Nat) = 65536 * 3855 + 256 * 15 + 15 by decide, and3 _ _ (by omega) (by decide) (by omega) (by decide), f3f b2 h2, f3e b1 h1 _ k2.2.1, f3e b0 h0 _ k1.2.1]
  unfold fJ6_bitCount_0f7a4
  simp only [nmv]
  rw [show (1431655765 : Int32) = nI 1431655765 from rfl, show (858993459 : Int32) = nI 858993459 from rfl, show (252645135 : Int32) = nI 252645135 from rfl, show (63 : Int32) = nI 63 from rfl]
  rw [ush (65536 * b2 + 256 * b1 + b0) (by omega) (j := 1) (by decide), nx_and, e1, v1]
  rw [ush (65536 * t1 b2 + 256 * t1 b1 + t1 b0) (by omega) (j := 2) (by decide), nx_and, nx_and, e2, e3, nI_add, v2]
  rw [ush (65536 * t2 (t1 b2) + 256 * t2 (t1 b1) + t2 (t1 b0)) (by omega) (j := 4) (by decide), nI_add, nx_and, e4]
  rw [ush (65536 * cn b2 8 + 256 * cn b1 8 + cn b0 8) (by omega) (j := 8) (by decide), nI_add]
  rw [ush _ (by omega) (j := 16) (by decide), nI_add, nx_and, show (63 : Nat) = 2 ^ 6 - 1 from rfl, Nat.and_two_pow_sub_one_eq_mod, bc_l k0.2.2.2 k1.2.2.2 k2.2.2.2]
theorem m_count {a : Nat} (h : a < 16777216) : fX8_count (nI a) = some (nI (cn a 24)) := by
  unfold fX8_count
  refine lp_for (fun k => (nI (cn a k), nI k)) 24 (fun k hk => ?_) ?_
  · unfold fX8_count_4
    simp only [li_24, li_1, li_31]
    rw [px_shr (by omega) (by omega), nx_and, Nat.and_one_is_mod, nI_add, nI_add, cnd_f (nI_ge (by omega) (by omega))]
    rfl
  · unfold fX8_count_4
    simp only [li_24]
    rw [cnd_t (nI_le (Nat.le_refl 24) (by decide))]
