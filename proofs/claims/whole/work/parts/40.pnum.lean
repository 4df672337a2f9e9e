/-! PURE: numbers, branches, loops of the written functions -/
theorem li_0 : (0 : Int32) = nI 0 := rfl
theorem li_1 : (1 : Int32) = nI 1 := rfl
theorem li_2 : (2 : Int32) = nI 2 := rfl
theorem li_3 : (3 : Int32) = nI 3 := rfl
theorem li_4 : (4 : Int32) = nI 4 := rfl
theorem li_5 : (5 : Int32) = nI 5 := rfl
theorem li_7 : (7 : Int32) = nI 7 := rfl
theorem li_8 : (8 : Int32) = nI 8 := rfl
theorem li_12 : (12 : Int32) = nI 12 := rfl
theorem li_16 : (16 : Int32) = nI 16 := rfl
theorem li_23 : (23 : Int32) = nI 23 := rfl
theorem li_24 : (24 : Int32) = nI 24 := rfl
theorem li_31 : (31 : Int32) = nI 31 := rfl
theorem li_40 : (40 : Int32) = nI 40 := rfl
theorem li_42 : (42 : Int32) = nI 42 := rfl
theorem li_47 : (47 : Int32) = nI 47 := rfl
theorem li_63 : (63 : Int32) = nI 63 := rfl
theorem li_64 : (64 : Int32) = nI 64 := rfl
theorem li_76 : (76 : Int32) = nI 76 := rfl
theorem li_77 : (77 : Int32) = nI 77 := rfl
theorem li_97 : (97 : Int32) = nI 97 := rfl
theorem li_122 : (122 : Int32) = nI 122 := rfl
theorem li_200 : (200 : Int32) = nI 200 := rfl
theorem li_201 : (201 : Int32) = nI 201 := rfl
theorem li_1000 : (1000 : Int32) = nI 1000 := rfl
theorem li_1824 : (1824 : Int32) = nI 1824 := rfl
theorem li_9999 : (9999 : Int32) = nI 9999 := rfl
theorem li_16000 : (16000 : Int32) = nI 16000 := rfl
theorem li_m1 : (-1 : Int32) = nI 4294967295 := by decide
theorem nx_or (a b : Nat) : nI a ||| nI b = nI (a ||| b) := by
  apply Int32.toBitVec_inj.mp
  apply BitVec.eq_of_toNat_eq
  show (BitVec.ofNat 32 a ||| BitVec.ofNat 32 b).toNat = (BitVec.ofNat 32 (a ||| b)).toNat
  rw [BitVec.toNat_or, BitVec.toNat_ofNat, BitVec.toNat_ofNat, BitVec.toNat_ofNat, Nat.or_mod_two_pow]
theorem nx_and (a b : Nat) : nI a &&& nI b = nI (a &&& b) := by
  apply Int32.toBitVec_inj.mp
  apply BitVec.eq_of_toNat_eq
  show (BitVec.ofNat 32 a &&& BitVec.ofNat 32 b).toNat = (BitVec.ofNat 32 (a &&& b)).toNat
  rw [BitVec.toNat_and, BitVec.toNat_ofNat, BitVec.toNat_ofNat, BitVec.toNat_ofNat, Nat.and_mod_two_pow]
theorem nx_xor (a b : Nat) : nI a ^^^ nI b = nI (a ^^^ b) := by
  apply Int32.toBitVec_inj.mp
  apply BitVec.eq_of_toNat_eq
  show (BitVec.ofNat 32 a ^^^ BitVec.ofNat 32 b).toNat = (BitVec.ofNat 32 (a ^^^ b)).toNat
  rw [BitVec.toNat_xor, BitVec.toNat_ofNat, BitVec.toNat_ofNat, BitVec.toNat_ofNat, Nat.xor_mod_two_pow]
theorem px_sub {a b : Nat} (h : b ≤ a) : nI a - nI b = nI (a - b) := pk_sub h
theorem vp_nI {n N : Nat} (hn : n < 2147483648) : vp_in (nI n) N = (n < N) := by
  apply propext
  constructor
  · intro h
    have h2 := in_lt h
    rwa [nI_clamp (by omega)] at h2
  · intro h hh
    rcases hh with h1 | h1
    · exact nI_pos (by omega) h1
    · rw [nI_clamp (by omega)] at h1
      omega
theorem px_c31 {i : Nat} (h : i < 32) : ((nI i &&& nI 31).toBitVec.smod 32).toNat = i := (by decide +kernel : ∀ i, i < 32 → ((nI i &&& nI 31).toBitVec.smod 32).toNat = i) i h
theorem px_shl {i a : Nat} (h : i < 32) : nI a <<< (nI i &&& nI 31) = nI (a * 2 ^ i) := by
  apply Int32.toBitVec_inj.mp
  apply BitVec.eq_of_toNat_eq
  rw [pk_shl _ _ i (px_c31 h)]
  show (BitVec.ofNat 32 a).toNat * 2 ^ i % 2 ^ 32 = (BitVec.ofNat 32 (a * 2 ^ i)).toNat
  rw [BitVec.toNat_ofNat, BitVec.toNat_ofNat, Nat.mod_mul_mod]
theorem px_shr {i a : Nat} (h : i < 32) (ha : a < 2147483648) : nI a >>> (nI i &&& nI 31) = nI (a / 2 ^ i) := pk_shrN (by omega) _ i (px_c31 h)
theorem px_shr1 {i a : Nat} (h : i < 32) (ha : a < 2147483648) : (nI a >>> (nI i &&& nI 31)) &&& nI 1 = nI (if a.testBit i then 1 else 0) := by
  rw [px_shr h ha, nx_and, Nat.and_one_is_mod, Nat.testBit_eq_decide_div_mod_eq]
  have := Nat.mod_lt (a / 2 ^ i) (show 0 < 2 by decide)
  by_cases hh : a / 2 ^ i % 2 = 1
  · simp [hh]
  · have : a / 2 ^ i % 2 = 0 := by omega
    simp [this]
theorem px_hol {i a : Nat} (h : i < 32) (ha : a < 2147483648) : fX7_holds (nI a) (nI i) = nI (if a.testBit i then 1 else 0) := by
  unfold fX7_holds
  rw [li_31, li_1, px_shr1 h ha]
  by_cases hh : a.testBit i = true
  · rw [if_pos hh, cnd_t rfl]
  · rw [if_neg hh, cnd_f (by decide)]
    rfl
theorem px_chr {a : Nat} (h : a < 65536) : vp_nar .char (nI a) = nI a := by
  have := (pk_charN h).1
  unfold vp_nar
  rw [this]
theorem px_shl2 {i a : Nat} (h : i < 32) : nI a <<< nI (i &&& 31) = nI (a * 2 ^ i) := by
  rw [← nx_and]
  exact px_shl h
theorem px_shr2 {i a : Nat} (h : i < 32) (ha : a < 2147483648) : nI a >>> nI (i &&& 31) = nI (a / 2 ^ i) := by
  rw [← nx_and]
  exact px_shr h ha
theorem px_bit {a i : Nat} : (nI (a / 2 ^ i &&& 1) = nI 1) = (a.testBit i = true) := by
  rw [Nat.and_one_is_mod, Nat.testBit_eq_decide_div_mod_eq]
  rcases Nat.mod_two_eq_zero_or_one (a / 2 ^ i) with h | h <;> rw [h] <;> simp
  decide
theorem px_bool (b : Bool) : vp_nar .boolean (nI (if b then 1 else 0)) = nI (if b then 1 else 0) := by cases b <;> rfl
theorem px_b1 : vp_nar .boolean (nI 1) = nI 1 := rfl
theorem px_b0 : vp_nar .boolean (nI 0) = nI 0 := rfl
theorem px_nb (b : Bool) : narrow .boolean (.int (nI (if b then 1 else 0))) = .int (nI (if b then 1 else 0)) := by cases b <;> rfl
theorem px_nc {a : Nat} (h : a < 65536) : narrow .char (.int (nI a)) = .int (nI a) := (pk_charN h).1
/-! loops -/
theorem lp_exq {σ ρ : Type} {it : σ → Option (σ ⊕ ρ)} {s : σ} {o : Option ρ} (h : it s = exR o) : lp it s = o := by
  cases o with
  | some r => exact lp_out h
  | none =>
    cases hl : lp it s with
    | none => rfl
    | some r =>
      obtain ⟨n, hn⟩ := lp_to hl
      cases n with
      | zero => cases hn
      | succ n =>
        simp only [lpN] at hn
        rw [h] at hn
        cases hn
theorem lp_fr {σ ρ : Type} {it : σ → Option (σ ⊕ ρ)} (K : Nat → σ) (n : Nat) (hs : ∀ i, i < n → it (K i) = some (.inl (K (i + 1)))) : lp it (K 0) = lp it (K n) := by
  induction n with
  | zero => rfl
  | succ n ih =>
    rw [ih (fun i hi => hs i (by omega))]
    exact lp_go (hs n (by omega))
/-- a loop by its states: n rounds, then out with o -/
theorem lp_for {σ ρ : Type} {it : σ → Option (σ ⊕ ρ)} (K : Nat → σ) (n : Nat) {o : Option ρ} (hs : ∀ i, i < n → it (K i) = some (.inl (K (i + 1)))) (he : it (K n) = exR o) : lp it (K 0) = o := by
  rw [lp_fr K n hs]
  exact lp_exq he
theorem exR_s {σ ρ : Type} (r : ρ) : (exR (some r) : Option (σ ⊕ ρ)) = some (.inr r) := rfl
/-! sets of small numbers as bits -/
def msk (p : Nat → Bool) : Nat → Nat
  | 0 => 0
  | n + 1 => msk p n ||| (if p n then 2 ^ n else 0)
theorem msk_bit (p : Nat → Bool) : ∀ (n k : Nat), (msk p n).testBit k = (decide (k < n) && p k)
  | 0, k => by simp [msk]
  | n + 1, k => by
    rw [msk, Nat.testBit_or, msk_bit p n k]
    by_cases h : k = n
    · subst h
      by_cases hp : p k = true
      · simp [hp, Nat.testBit_two_pow_self]
      · simp [hp]
    · have h3 : (if p n then 2 ^ n else 0).testBit k = false := by
        by_cases hp : p n = true
        · rw [if_pos hp, Nat.testBit_two_pow]
          simp [Ne.symm h]
        · rw [if_neg hp, Nat.zero_testBit]
      rw [h3]
      by_cases h4 : k < n
      · simp [h4, Nat.lt_succ_of_lt h4]
      · simp [h4, show ¬ k < n + 1 by omega]
theorem msk_lt (p : Nat → Bool) (n : Nat) : msk p n < 2 ^ n := by
  apply Nat.lt_pow_two_of_testBit
  intro i hi
  rw [msk_bit]
  simp [show ¬ i < n by omega]
theorem msk_ext {a : Nat} {p : Nat → Bool} {n : Nat} (h : ∀ k, a.testBit k = (decide (k < n) && p k)) : a = msk p n := by
  apply Nat.eq_of_testBit_eq
  intro k
  rw [h, msk_bit]
theorem msk_cong {p q : Nat → Bool} {n : Nat} (h : ∀ k, k < n → p k = q k) : msk p n = msk q n := by
  apply msk_ext
  intro k
  rw [msk_bit]
  by_cases hk : k < n
  · rw [h k hk]
  · simp [hk]
theorem bit_lt {a n k : Nat} (h : a < 2 ^ n) (hk : n ≤ k) : a.testBit k = false := Nat.testBit_lt_two_pow (Nat.lt_of_lt_of_le h (Nat.pow_le_pow_right (by decide) hk))
theorem or_lt {a b n : Nat} (ha : a < 2 ^ n) (hb : b < 2 ^ n) : a ||| b < 2 ^ n := Nat.or_lt_two_pow ha hb
theorem p2_lt {i n : Nat} (h : i < n) : 2 ^ i < 2 ^ n := Nat.pow_lt_pow_right (by decide) h
theorem mset_eq {C : Mem} {k j : Nat} {x : Int32} : mset C k j x k j = x := by simp [mset, upd]
theorem mset_ne {C : Mem} {k j k' j' : Nat} {x : Int32} (h : k' ≠ k ∨ j' ≠ j) : mset C k j x k' j' = C k' j' := by
  unfold mset upd
  by_cases h1 : k' = k
  · subst h1
    simp only [if_true]
    rcases h with h | h
    · exact absurd rfl h
    · simp [h]
  · simp [h1]
theorem hol_0 {a i : Nat} (h : i < 32) (ha : a < 2147483648) : (fX7_holds (nI a) (nI i) = nI 0) = (a.testBit i = false) := by
  rw [px_hol h ha]
  by_cases hh : a.testBit i = true
  · rw [hh]; simp; decide
  · simp only [Bool.not_eq_true] at hh
    rw [hh]; simp
theorem hol_1 {a i : Nat} (h : i < 32) (ha : a < 2147483648) : (fX7_holds (nI a) (nI i) = nI 1) = (a.testBit i = true) := by
  rw [px_hol h ha]
  by_cases hh : a.testBit i = true
  · rw [hh]; simp
  · simp only [Bool.not_eq_true] at hh
    rw [hh]; simp; decide
/-- a loop that looks for a place -/
theorem lp_find {σ ρ : Type} {it : σ → Option (σ ⊕ ρ)} (K : Nat → σ) (n : Nat) (P : Nat → Prop) {oY oN : Option ρ} (hs : ∀ i, i < n → ¬ P i → it (K i) = some (.inl (K (i + 1)))) (hy : ∀ i, i < n → P i → it (K i) = exR oY) (hN : it (K n) = exR oN) : lp it (K 0) = cnd (∃ i, i < n ∧ P i) oY oN := by
  by_cases h : ∃ i, i < n ∧ P i
  · rw [cnd_t h]
    obtain ⟨i, ⟨hi, hp⟩, hmin⟩ := pk_least (fun i => i < n ∧ P i) h
    exact lp_for K i (fun j hj => hs j (by omega) (fun hq => hmin j hj ⟨by omega, hq⟩)) (hy i hi hp)
  · rw [cnd_f h]
    exact lp_for K n (fun j hj => hs j hj (fun hq => h ⟨j, hj, hq⟩)) hN
/-- .. and answers by it -/
theorem lp_first {σ ρ : Type} {it : σ → Option (σ ⊕ ρ)} (K : Nat → σ) (n : Nat) (P : Nat → Prop) {oY : Nat → Option ρ} {oN : Option ρ} (hs : ∀ i, i < n → ¬ P i → it (K i) = some (.inl (K (i + 1)))) (hy : ∀ i, i < n → P i → it (K i) = exR (oY i)) (hN : it (K n) = exR oN) : (∃ i, i < n ∧ P i ∧ (∀ j, j < i → ¬ P j) ∧ lp it (K 0) = oY i) ∨ ((∀ i, i < n → ¬ P i) ∧ lp it (K 0) = oN) := by
  by_cases h : ∃ i, i < n ∧ P i
  · obtain ⟨i, ⟨hi, hp⟩, hmin⟩ := pk_least (fun i => i < n ∧ P i) h
    exact Or.inl ⟨i, hi, hp, fun j hj hq => hmin j hj ⟨by omega, hq⟩, lp_for K i (fun j hj => hs j (by omega) (fun hq => hmin j hj ⟨by omega, hq⟩)) (hy i hi hp)⟩
  · exact Or.inr ⟨fun i hi hq => h ⟨i, hi, hq⟩, lp_for K n (fun j hj => hs j hj (fun hq => h ⟨j, hj, hq⟩)) hN⟩
/-- 'some place below k', as 1 or 0 -/
noncomputable def an (P : Nat → Prop) (k : Nat) : Nat := cnd (∃ i, i < k ∧ P i) 1 0
theorem an_0 (P : Nat → Prop) : an P 0 = 0 := cnd_f (fun ⟨_, h, _⟩ => by omega)
theorem an_t {P : Nat → Prop} {k : Nat} (h : P k) : an P (k + 1) = 1 := cnd_t ⟨k, by omega, h⟩
theorem an_f {P : Nat → Prop} {k : Nat} (h : ¬ P k) : an P (k + 1) = an P k := by
  unfold an
  by_cases hh : ∃ i, i < k ∧ P i
  · rw [cnd_t hh, cnd_t]
    obtain ⟨i, h1, h2⟩ := hh
    exact ⟨i, by omega, h2⟩
  · rw [cnd_f hh, cnd_f]
    rintro ⟨i, h1, h2⟩
    by_cases e : i = k
    · subst e; exact h h2
    · exact hh ⟨i, by omega, h2⟩
theorem an_01 (P : Nat → Prop) (k : Nat) : an P k = 0 ∨ an P k = 1 := by
  unfold an
  by_cases hh : ∃ i, i < k ∧ P i
  · rw [cnd_t hh]; exact Or.inr rfl
  · rw [cnd_f hh]; exact Or.inl rfl
theorem an_lt (P : Nat → Prop) (k : Nat) : an P k < 2 := by rcases an_01 P k with h | h <;> omega
theorem cnd_nI {P : Prop} {a b : Nat} : nI (cnd P a b) = cnd P (nI a) (nI b) := by
  by_cases h : P
  · rw [cnd_t h, cnd_t h]
  · rw [cnd_f h, cnd_f h]
theorem cnd_some {α : Type} {P : Prop} {a b : α} : cnd P (some a) (some b) = some (cnd P a b) := by
  by_cases h : P
  · rw [cnd_t h, cnd_t h]
  · rw [cnd_f h, cnd_f h]
theorem cnd_not {α : Type} {P : Prop} {a b : α} : cnd (¬ P) a b = cnd P b a := by
  by_cases h : P
  · rw [cnd_t h, cnd_f (fun q => q h)]
  · rw [cnd_f h, cnd_t h]
theorem cnd_iff {α : Type} {P Q : Prop} (h : P ↔ Q) {a b : α} : cnd P a b = cnd Q a b := by rw [propext h]
theorem nb_an (P : Nat → Prop) (k : Nat) : narrow .boolean (.int (nI (an P k))) = .int (nI (an P k)) := by
  rcases an_01 P k with h | h <;> rw [h] <;> rfl
theorem nb_cnd (P : Prop) : narrow .boolean (.int (cnd P (nI 1) (nI 0))) = .int (cnd P (nI 1) (nI 0)) := by
  by_cases h : P
  · rw [cnd_t h]; rfl
  · rw [cnd_f h]; rfl
theorem cnd_0 {P : Prop} : (cnd P (nI 1) (nI 0) = nI 0) = ¬ P := by
  apply propext
  by_cases h : P
  · rw [cnd_t h]
    simp only [h, not_true_eq_false, iff_false]
    decide
  · rw [cnd_f h]
    simp [h]
theorem cnd_true {α : Sort _} {a b : α} : cnd True a b = a := cnd_t trivial
theorem cnd_false {α : Sort _} {a b : α} : cnd False a b = b := cnd_f (fun h => h)
