/-! A PICTURE OF THE FUNCTIONS THAT CAN BE COMPUTED. A number: v below 2^32, or v = 2^32 + a for a + x (x one unknown below 1000), or not known (2^33). A memory: a tree of cells, each one big number, a slot 64 bits. -/
noncomputable def ifN (c : Bool) (a b : Nat) : Nat := @Bool.rec (fun _ => Nat) b a c
noncomputable def b2 (c : Bool) : Nat := @Bool.rec (fun _ => Nat) 0 1 c
def rv (x v : Nat) (w : Int32) : Prop := v < 8589934592 → w = nI (v + v / 4294967296 * x)
theorem nI_c {u v : Nat} (h : u % 4294967296 = v % 4294967296) : nI u = nI v := by
  apply Int32.toBitVec_inj.mp
  apply BitVec.eq_of_toNat_eq
  show (BitVec.ofNat 32 u).toNat = (BitVec.ofNat 32 v).toNat
  rw [BitVec.toNat_ofNat, BitVec.toNat_ofNat]
  exact h
theorem nI_j {u v : Nat} (h : nI u = nI v) : u % 4294967296 = v % 4294967296 := by
  have h2 : (BitVec.ofNat 32 u).toNat = (BitVec.ofNat 32 v).toNat := congrArg (fun q : Int32 => q.toBitVec.toNat) h
  rw [BitVec.toNat_ofNat, BitVec.toNat_ofNat] at h2
  exact h2
theorem nI_ti {a : Nat} (h : a < 4294967296) : (nI a).toInt = if a < 2147483648 then (a : Int) else (a : Int) - 4294967296 := by
  show (BitVec.ofNat 32 a).toInt = _
  rw [BitVec.toInt_eq_toNat_cond, BitVec.toNat_ofNat, Nat.mod_eq_of_lt h]
  by_cases c : a < 2147483648
  · rw [if_pos (by omega), if_pos c]
  · rw [if_neg (by omega), if_neg c]
    rfl
theorem rv_c {x v : Nat} {w : Int32} (h : rv x v w) (hv : v < 4294967296) : w = nI v := by
  have := h (by omega)
  rw [this, Nat.div_eq_of_lt hv, Nat.zero_mul, Nat.add_zero]
theorem rv_x {x v : Nat} {w : Int32} (h : rv x v w) (h1 : 4294967296 ≤ v) (h2 : v < 8589934592) : w = nI (v - 4294967296 + x) := by
  have e : v / 4294967296 = 1 := by omega
  rw [h h2, e, Nat.one_mul]
  exact nI_c (by omega)
theorem rv_i {x v : Nat} {w : Int32} (hv : v < 4294967296) (h : w = nI v) : rv x v w := by
  intro _
  rw [h, Nat.div_eq_of_lt hv, Nat.zero_mul, Nat.add_zero]
theorem rv_p {x : Nat} {w : Int32} : rv x 8589934592 w := fun h => absurd h (by decide)
theorem lor_M {a b M : Nat} (h : Nat.lor a b ≤ M) : a ≤ M ∧ b ≤ M := ⟨Nat.le_trans (Nat.left_le_or (n := a) (m := b)) h, Nat.le_trans (Nat.right_le_or (n := a) (m := b)) h⟩
theorem lor_N {a b : Nat} (h : 4294967295 < Nat.lor a b) (ha : a < 4294967296) : 4294967296 ≤ b := by
  rcases Nat.lt_or_ge b 4294967296 with hb | hb
  · have h2 : a ||| b < 2 ^ 32 := Nat.or_lt_two_pow ha hb
    have h3 : 4294967295 < a ||| b := h
    omega
  · exact hb
theorem ifN_r {X x y a b : Nat} {w : Int32} (h1 : x ≤ y → rv X a w) (h2 : y < x → rv X b w) : rv X (ifN (Nat.ble x y) a b) w := by
  cases h : Nat.ble x y
  · exact h2 (Nat.not_le.mp (fun q => by rw [Nat.ble_eq_true_of_le q] at h; cases h))
  · exact h1 (Nat.le_of_ble_eq_true h)
/-- an answer to a question: 1 yes, 0 no, else not known -/
def T3 (c : Nat) (p : Prop) : Prop := (c = 1 → p) ∧ (c = 0 → ¬ p)
theorem T3_2 {p : Prop} : T3 2 p := ⟨fun h => absurd h (by decide), fun h => absurd h (by decide)⟩
theorem T3_1 {p : Prop} (h : p) : T3 1 p := ⟨fun _ => h, fun h => absurd h (by decide)⟩
theorem T3_0 {p : Prop} (h : ¬ p) : T3 0 p := ⟨fun h => absurd h (by decide), fun _ => h⟩
theorem ifN_t {x y a b : Nat} {p : Prop} (h1 : x ≤ y → T3 a p) (h2 : y < x → T3 b p) : T3 (ifN (Nat.ble x y) a b) p := by
  cases h : Nat.ble x y
  · exact h2 (Nat.not_le.mp (fun q => by rw [Nat.ble_eq_true_of_le q] at h; cases h))
  · exact h1 (Nat.le_of_ble_eq_true h)
theorem b2_le {x y : Nat} {p : Prop} (h1 : x ≤ y → p) (h2 : y < x → ¬ p) : T3 (b2 (Nat.ble x y)) p := by
  cases h : Nat.ble x y
  · exact T3_0 (h2 (Nat.not_le.mp (fun q => by rw [Nat.ble_eq_true_of_le q] at h; cases h)))
  · exact T3_1 (h1 (Nat.le_of_ble_eq_true h))
theorem b2_eq {x y : Nat} {p : Prop} (h1 : x = y → p) (h2 : x ≠ y → ¬ p) : T3 (b2 (Nat.beq x y)) p := by
  cases h : Nat.beq x y
  · exact T3_0 (h2 (Nat.ne_of_beq_eq_false h))
  · exact T3_1 (h1 (Nat.eq_of_beq_eq_true h))
/-! the machine's numbers -/
noncomputable def vadd (a b : Nat) : Nat := ifN (Nat.ble (Nat.add a b) 4294967295) (Nat.add a b) (ifN (Nat.ble (Nat.add (Nat.div a 4294967296) (Nat.div b 4294967296)) 1) (Nat.add (Nat.mod (Nat.add a b) 4294967296) (Nat.mul 4294967296 (Nat.add (Nat.div a 4294967296) (Nat.div b 4294967296)))) 8589934592)
theorem vadd_s {x a b : Nat} {w z : Int32} (ha : rv x a w) (hb : rv x b z) : rv x (vadd a b) (w + z) := by
  refine ifN_r (fun h1 => ?_) (fun _ => ifN_r (fun h2 => ?_) (fun _ => rv_p))
  · have h1 : a + b ≤ 4294967295 := h1
    refine rv_i (v := a + b) (by omega) ?_
    rw [rv_c ha (by omega), rv_c hb (by omega), nI_add]
  · have h2 : a / 4294967296 + b / 4294967296 ≤ 1 := h2
    intro _
    show w + z = nI (((a + b) % 4294967296 + 4294967296 * (a / 4294967296 + b / 4294967296)) + ((a + b) % 4294967296 + 4294967296 * (a / 4294967296 + b / 4294967296)) / 4294967296 * x)
    have e : ((a + b) % 4294967296 + 4294967296 * (a / 4294967296 + b / 4294967296)) / 4294967296 = a / 4294967296 + b / 4294967296 := by omega
    rw [e, ha (by omega), hb (by omega), nI_add]
    generalize ha' : a / 4294967296 = p at h2 ⊢
    generalize hb' : b / 4294967296 = q at h2 ⊢
    rcases (by omega : p = 0 ∧ q = 0 ∨ p = 0 ∧ q = 1 ∨ p = 1 ∧ q = 0) with ⟨rfl, rfl⟩ | ⟨rfl, rfl⟩ | ⟨rfl, rfl⟩ <;> exact nI_c (by omega)
theorem lor_c {x a b : Nat} {w z : Int32} (h : Nat.lor a b ≤ 4294967295) (ha : rv x a w) (hb : rv x b z) : a < 4294967296 ∧ b < 4294967296 ∧ w = nI a ∧ z = nI b := by
  have h1 := lor_M h
  exact ⟨by omega, by omega, rv_c ha (by omega), rv_c hb (by omega)⟩
noncomputable def vsub (a b : Nat) : Nat := ifN (Nat.ble (Nat.lor a b) 4294967295) (Nat.mod (Nat.sub (Nat.add a 4294967296) b) 4294967296) 8589934592
theorem vsub_s {x a b : Nat} {w z : Int32} (ha : rv x a w) (hb : rv x b z) : rv x (vsub a b) (w - z) := by
  refine ifN_r (fun h1 => ?_) (fun _ => rv_p)
  obtain ⟨h2, h3, rfl, rfl⟩ := lor_c h1 ha hb
  refine rv_i (v := (a + 4294967296 - b) % 4294967296) (by omega) ?_
  rw [show nI a = nI (a + 4294967296) from nI_c (by omega), pk_sub (by omega)]
  exact nI_c (by omega)
noncomputable def vmul (a b : Nat) : Nat := ifN (Nat.ble (Nat.lor a b) 4294967295) (Nat.mod (Nat.mul a b) 4294967296) 8589934592
theorem vmul_s {x a b : Nat} {w z : Int32} (ha : rv x a w) (hb : rv x b z) : rv x (vmul a b) (w * z) := by
  refine ifN_r (fun h1 => ?_) (fun _ => rv_p)
  obtain ⟨h2, h3, rfl, rfl⟩ := lor_c h1 ha hb
  refine rv_i (v := (a * b) % 4294967296) (Nat.mod_lt _ (by decide)) ?_
  rw [pk_mul]
  exact nI_c (Nat.mod_mod _ _).symm
theorem mx_and (a b : Nat) : nI a &&& nI b = nI (a &&& b) := by
  apply Int32.toBitVec_inj.mp
  apply BitVec.eq_of_toNat_eq
  show (BitVec.ofNat 32 a &&& BitVec.ofNat 32 b).toNat = (BitVec.ofNat 32 (a &&& b)).toNat
  rw [BitVec.toNat_and, BitVec.toNat_ofNat, BitVec.toNat_ofNat, BitVec.toNat_ofNat, Nat.and_mod_two_pow]
theorem mx_or (a b : Nat) : nI a ||| nI b = nI (a ||| b) := by
  apply Int32.toBitVec_inj.mp
  apply BitVec.eq_of_toNat_eq
  show (BitVec.ofNat 32 a ||| BitVec.ofNat 32 b).toNat = (BitVec.ofNat 32 (a ||| b)).toNat
  rw [BitVec.toNat_or, BitVec.toNat_ofNat, BitVec.toNat_ofNat, BitVec.toNat_ofNat, Nat.or_mod_two_pow]
theorem mx_xor (a b : Nat) : nI a ^^^ nI b = nI (a ^^^ b) := by
  apply Int32.toBitVec_inj.mp
  apply BitVec.eq_of_toNat_eq
  show (BitVec.ofNat 32 a ^^^ BitVec.ofNat 32 b).toNat = (BitVec.ofNat 32 (a ^^^ b)).toNat
  rw [BitVec.toNat_xor, BitVec.toNat_ofNat, BitVec.toNat_ofNat, BitVec.toNat_ofNat, Nat.xor_mod_two_pow]
noncomputable def vand (a b : Nat) : Nat := ifN (Nat.ble (Nat.lor a b) 4294967295) (Nat.land a b) 8589934592
theorem vand_s {x a b : Nat} {w z : Int32} (ha : rv x a w) (hb : rv x b z) : rv x (vand a b) (w &&& z) := by
  refine ifN_r (fun h1 => ?_) (fun _ => rv_p)
  obtain ⟨h2, h3, rfl, rfl⟩ := lor_c h1 ha hb
  exact rv_i (v := a &&& b) (Nat.lt_of_le_of_lt Nat.and_le_left h2) (mx_and a b)
noncomputable def vor (a b : Nat) : Nat := ifN (Nat.ble (Nat.lor a b) 4294967295) (Nat.lor a b) 8589934592
theorem vor_s {x a b : Nat} {w z : Int32} (ha : rv x a w) (hb : rv x b z) : rv x (vor a b) (w ||| z) := by
  refine ifN_r (fun h1 => ?_) (fun _ => rv_p)
  obtain ⟨h2, h3, rfl, rfl⟩ := lor_c h1 ha hb
  exact rv_i (v := a ||| b) (Nat.lt_succ_of_le h1) (mx_or a b)
noncomputable def vxor (a b : Nat) : Nat := ifN (Nat.ble (Nat.lor a b) 4294967295) (Nat.xor a b) 8589934592
theorem vxor_s {x a b : Nat} {w z : Int32} (ha : rv x a w) (hb : rv x b z) : rv x (vxor a b) (w ^^^ z) := by
  refine ifN_r (fun h1 => ?_) (fun _ => rv_p)
  obtain ⟨h2, h3, rfl, rfl⟩ := lor_c h1 ha hb
  exact rv_i (v := a ^^^ b) (Nat.xor_lt_two_pow (n := 32) h2 h3) (mx_xor a b)
noncomputable def vneg (a : Nat) : Nat := ifN (Nat.ble a 4294967295) (Nat.mod (Nat.sub 4294967296 a) 4294967296) 8589934592
theorem vneg_s {x a : Nat} {w : Int32} (ha : rv x a w) : rv x (vneg a) (-w) := by
  refine ifN_r (fun h1 => ?_) (fun _ => rv_p)
  have e := rv_c ha (by omega)
  subst e
  refine rv_i (v := (4294967296 - a) % 4294967296) (Nat.mod_lt _ (by decide)) ?_
  have h2 : -nI a = nI 0 - nI a := by
    show -nI a = (0 : Int32) - nI a
    rw [Int32.zero_sub]
  rw [h2, show nI 0 = nI 4294967296 from nI_c (by decide), pk_sub (by omega)]
  exact nI_c (Nat.mod_mod _ _).symm
theorem mx_c31 {i : Nat} (h : i < 32) : ((nI i &&& nI 31).toBitVec.smod 32).toNat = i := (by decide +kernel : ∀ i, i < 32 → ((nI i &&& nI 31).toBitVec.smod 32).toNat = i) i h
noncomputable def vshl (a b : Nat) : Nat := ifN (Nat.ble a 4294967295) (ifN (Nat.ble b 31) (Nat.mod (Nat.shiftLeft a b) 4294967296) 8589934592) 8589934592
theorem vshl_s {x a b : Nat} {w z : Int32} (ha : rv x a w) (hb : rv x b z) : rv x (vshl a b) (w <<< (z &&& 31)) := by
  refine ifN_r (fun h1 => ifN_r (fun h2 => ?_) (fun _ => rv_p)) (fun _ => rv_p)
  have e := rv_c ha (by omega)
  have e2 := rv_c hb (by omega)
  subst e
  subst e2
  refine rv_i (v := (a <<< b) % 4294967296) (Nat.mod_lt _ (by decide)) ?_
  apply Int32.toBitVec_inj.mp
  apply BitVec.eq_of_toNat_eq
  show (nI a <<< (nI b &&& nI 31)).toBitVec.toNat = (BitVec.ofNat 32 _).toNat
  rw [pk_shl _ _ b (mx_c31 (by omega))]
  show (BitVec.ofNat 32 a).toNat * 2 ^ b % 2 ^ 32 = _
  rw [BitVec.toNat_ofNat, BitVec.toNat_ofNat, Nat.mod_mul_mod, Nat.shiftLeft_eq]
  exact (Nat.mod_mod _ _).symm
noncomputable def vshr (a b : Nat) : Nat := ifN (Nat.ble a 2147483647) (ifN (Nat.ble b 31) (Nat.shiftRight a b) 8589934592) 8589934592
theorem vshr_s {x a b : Nat} {w z : Int32} (ha : rv x a w) (hb : rv x b z) : rv x (vshr a b) (w >>> (z &&& 31)) := by
  refine ifN_r (fun h1 => ifN_r (fun h2 => ?_) (fun _ => rv_p)) (fun _ => rv_p)
  have e := rv_c ha (by omega)
  have e2 := rv_c hb (by omega)
  subst e
  subst e2
  have h4 : a >>> b = a / 2 ^ b := Nat.shiftRight_eq_div_pow a b
  refine rv_i (v := a >>> b) (by rw [h4]; exact Nat.lt_of_le_of_lt (Nat.div_le_self _ _) (by omega)) ?_
  rw [h4]
  exact pk_shrN (by omega) _ b (mx_c31 (by omega))
noncomputable def vush (a n : Nat) : Nat := ifN (Nat.ble a 4294967295) (Nat.shiftRight a n) 8589934592
theorem vush_s {x a n : Nat} {w z : Int32} (ha : rv x a w) (hn : n < 32) (hz : z = nI n) : rv x (vush a n) ((w.toUInt32 >>> (z.toUInt32 &&& Int32.toUInt32 31)).toInt32) := by
  refine ifN_r (fun h1 => ?_) (fun _ => rv_p)
  have e := rv_c ha (by omega)
  subst e
  subst hz
  have h4 : a >>> n = a / 2 ^ n := Nat.shiftRight_eq_div_pow a n
  have h5 : a / 2 ^ n ≤ a := Nat.div_le_self _ _
  refine rv_i (v := a >>> n) (by rw [h4]; omega) ?_
  apply Int32.toBitVec_inj.mp
  apply BitVec.eq_of_toNat_eq
  show ((nI a).toUInt32 >>> ((nI n).toUInt32 &&& Int32.toUInt32 31)).toNat = (BitVec.ofNat 32 _).toNat
  have e : (nI a).toUInt32.toNat = a := by
    show (BitVec.ofNat 32 a).toNat = a
    rw [BitVec.toNat_ofNat, Nat.mod_eq_of_lt (by omega)]
  have hk : ((nI n).toUInt32 &&& Int32.toUInt32 31).toNat % 32 = n := (by decide +kernel : ∀ n, n < 32 → ((nI n).toUInt32 &&& Int32.toUInt32 31).toNat % 32 = n) n hn
  rw [UInt32.toNat_shiftRight, hk, e, BitVec.toNat_ofNat, h4, Nat.mod_eq_of_lt (by omega)]
noncomputable def vi2c (a : Nat) : Nat := ifN (Nat.ble a 4294967295) (Nat.mod a 65536) 8589934592
theorem vi2c_s {x a : Nat} {w : Int32} (ha : rv x a w) : rv x (vi2c a) ((w.toUInt32 % 65536).toInt32) := by
  refine ifN_r (fun h1 => ?_) (fun _ => rv_p)
  have e := rv_c ha (by omega)
  subst e
  refine rv_i (v := a % 65536) (by omega) ?_
  apply Int32.toBitVec_inj.mp
  apply BitVec.eq_of_toNat_eq
  show ((nI a).toUInt32 % 65536).toNat = (BitVec.ofNat 32 _).toNat
  have e : (nI a).toUInt32.toNat = a := by
    show (BitVec.ofNat 32 a).toNat = a
    rw [BitVec.toNat_ofNat, Nat.mod_eq_of_lt (by omega)]
  rw [UInt32.toNat_mod, e, BitVec.toNat_ofNat, Nat.mod_eq_of_lt (b := 2 ^ 32) (by omega)]
  rfl
noncomputable def vrem (a n : Nat) : Nat := ifN (Nat.ble a 2147483647) (Nat.mod a n) 8589934592
theorem vrem_s {x a n : Nat} {w z : Int32} (ha : rv x a w) (h0 : 0 < n) (hn : n < 2147483648) (hz : z = nI n) : rv x (vrem a n) (w - w / z * z) := by
  refine ifN_r (fun h1 => ?_) (fun _ => rv_p)
  have e := rv_c ha (by omega)
  subst e
  subst hz
  have h2 : a % n < n := Nat.mod_lt _ h0
  have h3 : a % n ≤ a := Nat.mod_le _ _
  refine rv_i (v := a % n) (by omega) ?_
  have h4 : (nI a / nI n) = nI (a / n) := by
    apply Int32.toInt_inj.mp
    have h5 : a / n ≤ a := Nat.div_le_self _ _
    rw [lg_idiv_nonneg (by rw [nI_toInt (by omega)]; omega) (by rw [nI_toInt (by omega)]; omega), nI_toInt (by omega), nI_toInt (by omega), nI_toInt (by omega)]
    exact (Int.natCast_ediv a n).symm
  have h6 := Nat.div_mul_le_self a n
  rw [h4, pk_mul, pk_sub h6]
  have h7 := Nat.div_add_mod a n
  rw [Nat.mul_comm] at h7
  congr 1
  omega
noncomputable def vnarc (a : Nat) : Nat := ifN (Nat.ble a 65535) a 8589934592
theorem vnarc_s {x a : Nat} {w : Int32} (ha : rv x a w) : rv x (vnarc a) (vp_nar .char w) := by
  refine ifN_r (fun h1 => ?_) (fun _ => rv_p)
  have e := rv_c ha (by omega)
  subst e
  refine rv_i (by omega) ?_
  have := (pk_charN (q := a) (by omega)).1
  unfold vp_nar
  rw [this]
/-! questions -/
noncomputable def veqM (a b : Nat) : Nat := ifN (Nat.ble (Nat.add a 999) 4294967295) (ifN (Nat.ble a b) (ifN (Nat.ble b (Nat.add a 999)) 2 0) 0) 2
noncomputable def veqS (a b : Nat) : Nat := ifN (Nat.ble 8589934592 (Nat.lor a b)) 2 (ifN (Nat.ble 4294967296 a) (ifN (Nat.ble 4294967296 b) (b2 (Nat.beq a b)) (veqM (Nat.sub a 4294967296) b)) (veqM (Nat.sub b 4294967296) a))
noncomputable def veq (a b : Nat) : Nat := ifN (Nat.ble (Nat.lor a b) 4294967295) (b2 (Nat.beq a b)) (veqS a b)
theorem veqM_s {x a b : Nat} (hx : x < 1000) (hb : b < 4294967296) : T3 (veqM a b) (nI (a + x) = nI b) := by
  refine ifN_t (fun h1 => ifN_t (fun h2 => ifN_t (fun _ => T3_2) (fun h3 => T3_0 (fun e => ?_))) (fun h2 => T3_0 (fun e => ?_))) (fun _ => T3_2)
  · have h1 : a + 999 ≤ 4294967295 := h1
    have h3 : a + 999 < b := h3
    have := nI_j e
    omega
  · have h1 : a + 999 ≤ 4294967295 := h1
    have := nI_j e
    omega
theorem veq_s {x a b : Nat} {w z : Int32} (hx : x < 1000) (ha : rv x a w) (hb : rv x b z) : T3 (veq a b) (w = z) := by
  refine ifN_t (fun h1 => ?_) (fun h0 => ifN_t (fun _ => T3_2) (fun h1 => ifN_t (fun h2 => ifN_t (fun h3 => ?_) (fun h3 => ?_)) (fun h2 => ?_)))
  · obtain ⟨h2, h3, rfl, rfl⟩ := lor_c h1 ha hb
    refine b2_eq (fun e => by rw [e]) (fun hne e => hne ?_)
    have := nI_j e
    omega
  · have h4 := lor_M (Nat.le_of_lt_succ h1)
    rw [rv_x ha h2 (by omega), rv_x hb h3 (by omega)]
    refine b2_eq (fun e => by rw [e]) (fun hne e => hne ?_)
    have := nI_j e
    omega
  · have h4 := lor_M (Nat.le_of_lt_succ h1)
    rw [rv_x ha h2 (by omega), rv_c hb h3]
    exact veqM_s hx h3
  · have h4 := lor_M (Nat.le_of_lt_succ h1)
    have h5 := lor_N h0 h2
    rw [rv_c ha h2, rv_x hb h5 (by omega)]
    have := veqM_s (x := x) (a := b - 4294967296) (b := a) hx h2
    exact ⟨fun h => (this.1 h).symm, fun h e => this.2 h e.symm⟩
noncomputable def vltB (a b : Nat) : Nat := ifN (Nat.ble (Nat.add a 999) 2147483647) (ifN (Nat.ble (Nat.add b 999) 2147483647) (b2 (Nat.ble (Nat.succ a) b)) 2) 2
noncomputable def vltX (a b : Nat) : Nat := ifN (Nat.ble (Nat.add a 999) 2147483647) (ifN (Nat.ble 2147483648 b) 0 (ifN (Nat.ble b a) 0 (ifN (Nat.ble (Nat.succ (Nat.add a 999)) b) 1 2))) 2
noncomputable def vltY (a b : Nat) : Nat := ifN (Nat.ble (Nat.add b 999) 2147483647) (ifN (Nat.ble 2147483648 a) 1 (ifN (Nat.ble (Nat.succ a) b) 1 (ifN (Nat.ble (Nat.add b 999) a) 0 2))) 2
noncomputable def vltS (a b : Nat) : Nat := ifN (Nat.ble (Nat.lor a b) 4294967295) (b2 (Nat.ble (Nat.succ (Nat.mod (Nat.add a 2147483648) 4294967296)) (Nat.mod (Nat.add b 2147483648) 4294967296))) (ifN (Nat.ble 8589934592 (Nat.lor a b)) 2 (ifN (Nat.ble 4294967296 a) (ifN (Nat.ble 4294967296 b) (vltB (Nat.sub a 4294967296) (Nat.sub b 4294967296)) (vltX (Nat.sub a 4294967296) b)) (vltY a (Nat.sub b 4294967296))))
noncomputable def vlt (a b : Nat) : Nat := ifN (Nat.ble (Nat.lor a b) 2147483647) (b2 (Nat.ble (Nat.succ a) b)) (vltS a b)
theorem nI_lc {a b : Nat} (ha : a < 4294967296) (hb : b < 4294967296) : nI a < nI b ↔ (a + 2147483648) % 4294967296 < (b + 2147483648) % 4294967296 := by
  rw [Int32.lt_iff_toInt_lt, nI_ti ha, nI_ti hb]
  by_cases h1 : a < 2147483648 <;> by_cases h2 : b < 2147483648 <;> simp only [h1, h2, if_true, if_false] <;> omega
theorem nI_lb {a b : Nat} (ha : a ≤ 2147483647) (hb : b ≤ 2147483647) : nI a < nI b ↔ a < b := nI_ltI (by omega) (by omega)
theorem vltB_s {x a b : Nat} (hx : x < 1000) : T3 (vltB a b) (nI (a + x) < nI (b + x)) := by
  refine ifN_t (fun h1 => ifN_t (fun h2 => ?_) (fun _ => T3_2)) (fun _ => T3_2)
  have h1 : a + 999 ≤ 2147483647 := h1
  have h2 : b + 999 ≤ 2147483647 := h2
  rw [nI_lb (by omega) (by omega)]
  exact b2_le (fun h => by have h : a + 1 ≤ b := h; omega) (fun h => by have h : b < a + 1 := h; omega)
theorem vltX_s {x a b : Nat} (hx : x < 1000) (hb : b < 4294967296) : T3 (vltX a b) (nI (a + x) < nI b) := by
  refine ifN_t (fun h1 => ?_) (fun _ => T3_2)
  have h1 : a + 999 ≤ 2147483647 := h1
  refine ifN_t (fun h2 => T3_0 ?_) (fun h2 => ?_)
  · rw [nI_lc (by omega) hb]
    omega
  · rw [nI_lb (by omega) (by omega)]
    refine ifN_t (fun h3 => T3_0 (by omega)) (fun h3 => ifN_t (fun h4 => T3_1 ?_) (fun _ => T3_2))
    have h4 : a + 999 + 1 ≤ b := h4
    omega
theorem vltY_s {x a b : Nat} (hx : x < 1000) (ha : a < 4294967296) : T3 (vltY a b) (nI a < nI (b + x)) := by
  refine ifN_t (fun h1 => ?_) (fun _ => T3_2)
  have h1 : b + 999 ≤ 2147483647 := h1
  refine ifN_t (fun h2 => T3_1 ?_) (fun h2 => ?_)
  · rw [nI_lc ha (by omega)]
    omega
  · rw [nI_lb (by omega) (by omega)]
    refine ifN_t (fun h3 => T3_1 ?_) (fun h3 => ifN_t (fun h4 => T3_0 ?_) (fun _ => T3_2))
    · have h3 : a + 1 ≤ b := h3
      omega
    · have h4 : b + 999 ≤ a := h4
      omega
theorem vlt_s {x a b : Nat} {w z : Int32} (hx : x < 1000) (ha : rv x a w) (hb : rv x b z) : T3 (vlt a b) (w < z) := by
  refine ifN_t (fun h1 => ?_) (fun h0 => ifN_t (fun h1 => ?_) (fun h0 => ifN_t (fun _ => T3_2) (fun h1 => ifN_t (fun h2 => ifN_t (fun h3 => ?_) (fun h3 => ?_)) (fun h2 => ?_))))
  · have h4 := lor_M h1
    rw [rv_c ha (by omega), rv_c hb (by omega), nI_lb (by omega) (by omega)]
    exact b2_le (fun h => by have h : a + 1 ≤ b := h; omega) (fun h => by have h : b < a + 1 := h; omega)
  · obtain ⟨h2, h3, rfl, rfl⟩ := lor_c h1 ha hb
    rw [nI_lc h2 h3]
    exact b2_le (fun h => h) (fun h => Nat.not_lt.mpr (Nat.le_of_lt_succ h))
  · have h4 := lor_M (Nat.le_of_lt_succ h1)
    rw [rv_x ha h2 (by omega), rv_x hb h3 (by omega)]
    exact vltB_s hx
  · have h4 := lor_M (Nat.le_of_lt_succ h1)
    rw [rv_x ha h2 (by omega), rv_c hb h3]
    exact vltX_s hx h3
  · have h4 := lor_M (Nat.le_of_lt_succ h1)
    have h5 := lor_N h0 h2
    rw [rv_c ha h2, rv_x hb h5 (by omega)]
    exact vltY_s hx h2
noncomputable def vnot (c : Nat) : Nat := @Nat.rec (fun _ => Nat) 1 (fun c' _ => @Nat.rec (fun _ => Nat) 0 (fun _ _ => 2) c') c
theorem vle_s {x a b : Nat} {w z : Int32} (hx : x < 1000) (ha : rv x a w) (hb : rv x b z) : T3 (vnot (vlt b a)) (w ≤ z) := by
  have h := vlt_s hx hb ha
  generalize vlt b a = c at h
  match c, h with
  | 0, h => exact T3_1 (Int32.not_lt.mp (h.2 rfl))
  | 1, h => exact T3_0 (fun e => Int32.not_lt.mpr e (h.1 rfl))
  | c + 2, _ => exact T3_2
noncomputable def vin (v n : Nat) : Nat := ifN (Nat.ble (Nat.succ v) n) (ifN (Nat.ble v 2147483647) 1 2) 2
theorem vin_s {x v n : Nat} {w : Int32} (h : rv x v w) : T3 (vin v n) (vp_in w n) := by
  refine ifN_t (fun h1 => ifN_t (fun h2 => T3_1 ?_) (fun _ => T3_2)) (fun _ => T3_2)
  rw [rv_c h (by omega)]
  refine vp_in_iff.mpr ⟨by rw [nI_toInt (by omega)]; omega, by rw [nI_toInt (by omega)]; exact Int.ofNat_lt.mpr h1⟩
theorem vin_c {x v n : Nat} {w : Int32} (h : rv x v w) (h1 : vin v n = 1) : w.toNatClampNeg = v := by
  rcases Nat.lt_or_ge v 2147483648 with hv | hv
  · rw [rv_c h (by omega), nI_clamp (by omega)]
  · exfalso
    have : T3 (vin v n) False := ifN_t (fun _ => ifN_t (fun h2 => absurd h2 (by omega)) (fun _ => T3_2)) (fun _ => T3_2)
    exact this.1 h1
noncomputable def vbo (q : Nat) : Nat := ifN (Nat.ble q 1) 1 2
theorem vbo_s {x q : Nat} {w : Int32} (h : rv x q w) : T3 (vbo q) (narrow .boolean (.int w) = .int w) := by
  refine ifN_t (fun h1 => T3_1 ?_) (fun _ => T3_2)
  rw [rv_c h (by omega)]
  rcases (by omega : q = 0 ∨ q = 1) with rfl | rfl <;> rfl
noncomputable def vch (q : Nat) : Nat := ifN (Nat.ble q 65535) 1 2
theorem vch_s {x q : Nat} {w : Int32} (h : rv x q w) : T3 (vch q) (narrow .char (.int w) = .int w) := by
  refine ifN_t (fun h1 => T3_1 ?_) (fun _ => T3_2)
  rw [rv_c h (by omega)]
  exact (pk_charN (by omega)).1
noncomputable def vnq (a b : Nat) : Nat := b2 (Nat.beq a b)
theorem vnq_s (a b : Nat) : T3 (vnq a b) (a = b) := b2_eq (fun h => h) (fun h => h)
/-! the memory -/
abbrev RT : Type := Lean.RArray Nat
noncomputable def getR (R : RT) (n : Nat) : Nat := @Lean.RArray.rec Nat (fun _ => Nat) (fun v => v) (fun p _ _ l r => @Bool.rec (fun _ => Nat) l r (Nat.ble p n)) R
noncomputable def setR (R : RT) (n v : Nat) : RT := @Lean.RArray.rec Nat (fun _ => RT) (fun _ => Lean.RArray.leaf v) (fun p l r l' r' => @Bool.rec (fun _ => RT) (Lean.RArray.branch p l' r) (Lean.RArray.branch p l r') (Nat.ble p n)) R
def wfR : RT → Nat → Nat → Prop
  | .leaf _, lo, hi => hi = lo + 1
  | .branch p l r, lo, hi => lo < p ∧ p < hi ∧ wfR l lo p ∧ wfR r p hi
theorem getR_b (p n : Nat) (l r : RT) : getR (.branch p l r) n = if p ≤ n then getR r n else getR l n := by
  by_cases h : p ≤ n
  · rw [if_pos h]
    show @Bool.rec (fun _ => Nat) (getR l n) (getR r n) (Nat.ble p n) = _
    rw [Nat.ble_eq_true_of_le h]
  · rw [if_neg h]
    show @Bool.rec (fun _ => Nat) (getR l n) (getR r n) (Nat.ble p n) = _
    have : Nat.ble p n = false := Bool.eq_false_iff.mpr (fun q => h (Nat.le_of_ble_eq_true q))
    rw [this]
theorem setR_b (p n v : Nat) (l r : RT) : setR (.branch p l r) n v = if p ≤ n then .branch p l (setR r n v) else .branch p (setR l n v) r := by
  by_cases h : p ≤ n
  · rw [if_pos h]
    show @Bool.rec (fun _ => RT) (.branch p (setR l n v) r) (.branch p l (setR r n v)) (Nat.ble p n) = _
    rw [Nat.ble_eq_true_of_le h]
  · rw [if_neg h]
    show @Bool.rec (fun _ => RT) (.branch p (setR l n v) r) (.branch p l (setR r n v)) (Nat.ble p n) = _
    have : Nat.ble p n = false := Bool.eq_false_iff.mpr (fun q => h (Nat.le_of_ble_eq_true q))
    rw [this]
theorem wf_set (R : RT) (n v : Nat) : ∀ (lo hi : Nat), wfR R lo hi → wfR (setR R n v) lo hi := by
  induction R with
  | leaf _ => intro lo hi h; exact h
  | branch p l r ihl ihr =>
    intro lo hi h
    obtain ⟨h1, h2, h3, h4⟩ := h
    rw [setR_b]
    by_cases q : p ≤ n
    · rw [if_pos q]; exact ⟨h1, h2, h3, ihr _ _ h4⟩
    · rw [if_neg q]; exact ⟨h1, h2, ihl _ _ h3, h4⟩
theorem get_set (R : RT) (n m v : Nat) : ∀ (lo hi : Nat), wfR R lo hi → lo ≤ n → n < hi → lo ≤ m → m < hi → getR (setR R n v) m = if m = n then v else getR R m := by
  induction R with
  | leaf _ =>
    intro lo hi h h1 h2 h3 h4
    have h : hi = lo + 1 := h
    rw [if_pos (by omega)]
    rfl
  | branch p l r ihl ihr =>
    intro lo hi h h1 h2 h3 h4
    obtain ⟨g1, g2, g3, g4⟩ := h
    rw [setR_b]
    by_cases q : p ≤ n
    · rw [if_pos q, getR_b, getR_b]
      by_cases q2 : p ≤ m
      · rw [if_pos q2, if_pos q2]; exact ihr _ _ g4 q h2 q2 h4
      · rw [if_neg q2, if_neg q2, if_neg (by omega)]
    · rw [if_neg q, getR_b, getR_b]
      by_cases q2 : p ≤ m
      · rw [if_pos q2, if_pos q2, if_neg (by omega)]
      · rw [if_neg q2, if_neg q2]; exact ihl _ _ g3 h1 (by omega) h3 (by omega)
noncomputable def rdc (c j : Nat) : Nat := Nat.mod (Nat.shiftRight c (Nat.mul 64 j)) 18446744073709551616
noncomputable def capN (v : Nat) : Nat := ifN (Nat.ble v 8589934592) v 8589934592
noncomputable def wrc (c j v : Nat) : Nat := Nat.xor c (Nat.shiftLeft (Nat.xor (rdc c j) (capN v)) (Nat.mul 64 j))
noncomputable def cpc (ca cb n : Nat) : Nat := Nat.lor (Nat.shiftLeft (Nat.shiftRight cb (Nat.mul 64 n)) (Nat.mul 64 n)) (Nat.mod ca (Nat.pow 2 (Nat.mul 64 n)))
theorem capN_le (v : Nat) : capN v ≤ 8589934592 := by
  unfold capN ifN
  cases h : Nat.ble v 8589934592
  · exact Nat.le_refl _
  · exact Nat.le_of_ble_eq_true h
theorem capN_s {x v : Nat} {w : Int32} (h : rv x v w) : rv x (capN v) w := ifN_r (fun _ => h) (fun _ => rv_p)
theorem rdc_bit (c j b : Nat) : (rdc c j).testBit b = (decide (b < 64) && c.testBit (64 * j + b)) := by
  show (c >>> (64 * j) % 2 ^ 64).testBit b = _
  rw [Nat.testBit_mod_two_pow, Nat.testBit_shiftRight]
theorem rdc_wrc (c j v i : Nat) : rdc (wrc c j v) i = if i = j then capN v else rdc c i := by
  apply Nat.eq_of_testBit_eq
  intro b
  rw [rdc_bit]
  have hw : (wrc c j v).testBit (64 * i + b) = (c.testBit (64 * i + b) ^^ (decide (64 * j ≤ 64 * i + b) && ((rdc c j).testBit (64 * i + b - 64 * j) ^^ (capN v).testBit (64 * i + b - 64 * j)))) := by
    show (c ^^^ ((rdc c j ^^^ capN v) <<< (64 * j))).testBit _ = _
    rw [Nat.testBit_xor, Nat.testBit_shiftLeft, Nat.testBit_xor]
  have hc : ∀ q, 64 ≤ q → (capN v).testBit q = false := fun q hq => Nat.testBit_lt_two_pow (Nat.lt_of_le_of_lt (capN_le v) (Nat.lt_of_lt_of_le (by decide : 8589934592 < 2 ^ 64) (Nat.pow_le_pow_right (by decide) hq)))
  by_cases hb : b < 64
  · rw [hw, rdc_bit]
    by_cases h : i = j
    · subst h
      rw [if_pos rfl, Nat.add_sub_cancel_left]
      simp [hb]
    · rw [if_neg h, rdc_bit]
      by_cases h2 : 64 * j ≤ 64 * i + b
      · have h3 : 64 ≤ 64 * i + b - 64 * j := by omega
        rw [hc _ h3]
        simp [hb, show ¬ (64 * i + b - 64 * j < 64) by omega]
      · simp [hb, h2]
  · by_cases h : i = j
    · rw [if_pos h, hc b (by omega)]
      simp [hb]
    · rw [if_neg h, rdc_bit]
      simp [hb]
theorem rdc_cpc (ca cb n i : Nat) : rdc (cpc ca cb n) i = if i < n then rdc ca i else rdc cb i := by
  apply Nat.eq_of_testBit_eq
  intro b
  have hw : (cpc ca cb n).testBit (64 * i + b) = ((decide (64 * n ≤ 64 * i + b) && cb.testBit (64 * n + (64 * i + b - 64 * n))) || (decide (64 * i + b < 64 * n) && ca.testBit (64 * i + b))) := by
    show ((cb >>> (64 * n)) <<< (64 * n) ||| ca % 2 ^ (64 * n)).testBit _ = _
    rw [Nat.testBit_or, Nat.testBit_shiftLeft, Nat.testBit_shiftRight, Nat.testBit_mod_two_pow]
  rw [rdc_bit]
  by_cases hb : b < 64
  · rw [hw]
    by_cases h : i < n
    · rw [if_pos h, rdc_bit]
      simp [hb, show ¬ 64 * n ≤ 64 * i + b by omega, show 64 * i + b < 64 * n by omega]
    · rw [if_neg h, rdc_bit]
      simp [hb, show 64 * n ≤ 64 * i + b by omega, show ¬ 64 * i + b < 64 * n by omega, show 64 * n + (64 * i + b - 64 * n) = 64 * i + b by omega]
  · by_cases h : i < n
    · rw [if_pos h, rdc_bit]; simp [hb]
    · rw [if_neg h, rdc_bit]; simp [hb]
def rm (x : Nat) (R : RT) (C : Mem) : Prop := wfR R 0 475 ∧ ∀ k, k < 475 → ∀ j, rv x (rdc (getR R k) j) (C k j)
noncomputable def rd (R : RT) (k j : Nat) : Nat := ifN (Nat.ble k 474) (rdc (getR R k) j) 8589934592
theorem rd_s {x : Nat} {R : RT} {C : Mem} (h : rm x R C) (k j : Nat) : rv x (rd R k j) (C k j) := ifN_r (fun h1 => h.2 k (by omega) j) (fun _ => rv_p)
noncomputable def wr (R : RT) (k j v : Nat) : RT := @Bool.rec (fun _ => RT) R (setR R k (wrc (getR R k) j v)) (Nat.ble k 474)
theorem wr_s {x v : Nat} {R : RT} {C : Mem} {w : Int32} (h : rm x R C) (k j : Nat) (hv : rv x v w) : rm x (wr R k j v) (mset C k j w) := by
  unfold wr
  cases hk : Nat.ble k 474
  · have hk2 : ¬ k ≤ 474 := fun q => by rw [Nat.ble_eq_true_of_le q] at hk; cases hk
    refine ⟨h.1, fun k' hk' j' => ?_⟩
    have : mset C k j w k' = C k' := by unfold mset; rw [if_neg (by omega)]
    rw [this]
    exact h.2 k' hk' j'
  · have hk2 := Nat.le_of_ble_eq_true hk
    refine ⟨wf_set _ _ _ _ _ h.1, fun k' hk' j' => ?_⟩
    show rv x (rdc (getR (setR R k (wrc (getR R k) j v)) k') j') _
    rw [get_set _ _ _ _ 0 475 h.1 (Nat.zero_le _) (by omega) (Nat.zero_le _) hk']
    by_cases e : k' = k
    · subst e
      rw [if_pos rfl, rdc_wrc]
      by_cases e2 : j' = j
      · subst e2
        rw [if_pos rfl]
        have : mset C k' j' w k' j' = w := by simp [mset, upd]
        rw [this]
        exact capN_s hv
      · rw [if_neg e2]
        have : mset C k' j w k' j' = C k' j' := by simp [mset, upd, e2]
        rw [this]
        exact h.2 k' hk' j'
    · rw [if_neg e]
      have : mset C k j w k' = C k' := by unfold mset; rw [if_neg e]
      rw [this]
      exact h.2 k' hk' j'
noncomputable def cpM (R : RT) (a b n : Nat) : RT := @Bool.rec (fun _ => RT) R (setR R b (cpc (getR R a) (getR R b) n)) (Nat.ble b 474)
theorem cpM_s {x a : Nat} {R : RT} {C : Mem} (h : rm x R C) (ha : a < 475) (b n : Nat) {i0 i1 i2 : Nat} (h0 : i0 = 0) (h1 : i1 = 0) (h2 : i2 = n) : rm x (cpM R a b n) (mcpy C a b i0 i1 i2) := by
  subst h0
  subst h1
  subst h2
  unfold cpM
  cases hk : Nat.ble b 474
  · have hk2 : ¬ b ≤ 474 := fun q => by rw [Nat.ble_eq_true_of_le q] at hk; cases hk
    refine ⟨h.1, fun k' hk' j' => ?_⟩
    have : mcpy C a b 0 0 i2 k' = C k' := by unfold mcpy; rw [if_neg (by omega)]
    rw [this]
    exact h.2 k' hk' j'
  · have hk2 := Nat.le_of_ble_eq_true hk
    refine ⟨wf_set _ _ _ _ _ h.1, fun k' hk' j' => ?_⟩
    show rv x (rdc (getR (setR R b (cpc (getR R a) (getR R b) i2)) k') j') _
    rw [get_set _ _ _ _ 0 475 h.1 (Nat.zero_le _) (by omega) (Nat.zero_le _) hk']
    by_cases e : k' = b
    · subst e
      rw [if_pos rfl, rdc_cpc]
      have : mcpy C a k' 0 0 i2 k' j' = if j' < i2 then C a j' else C k' j' := by simp [mcpy, va_cpy]
      rw [this]
      by_cases q : j' < i2
      · rw [if_pos q, if_pos q]; exact h.2 a ha j'
      · rw [if_neg q, if_neg q]; exact h.2 k' hk' j'
    · rw [if_neg e]
      have : mcpy C a b 0 0 i2 k' = C k' := by unfold mcpy; rw [if_neg e]
      rw [this]
      exact h.2 k' hk' j'
/-! how a picture's answer tells of the function's -/
def RZ {α' α : Type} (Z : α' → Option α → Prop) (o' : Option α') (o : Option α) : Prop := ∀ a', o' = some a' → Z a' o
def RO {α' α : Type} (P : α' → α → Prop) (a' : α') (o : Option α) : Prop := ∃ a, o = some a ∧ P a' a
def rp {α' α β' β : Type} (P : α' → α → Prop) (Q : β' → β → Prop) (a' : α' × β') (a : α × β) : Prop := P a'.1 a.1 ∧ Q a'.2 a.2
def rs {α' α β' β : Type} (P : α' → α → Prop) (Q : β' → β → Prop) : α' ⊕ β' → α ⊕ β → Prop
  | .inl a', .inl a => P a' a
  | .inr a', .inr a => Q a' a
  | _, _ => False
noncomputable def bdM {α β : Type} (o : Option α) (k : α → Option β) : Option β := @Option.rec α (fun _ => Option β) none k o
noncomputable def tst {α : Type} (c : Nat) (a b : Option α) : Option α := @Nat.rec (fun _ => Option α) b (fun c' _ => @Nat.rec (fun _ => Option α) a (fun _ _ => none) c') c
noncomputable def tsv (c a b : Nat) : Nat := @Nat.rec (fun _ => Nat) b (fun c' _ => @Nat.rec (fun _ => Nat) a (fun _ _ => 8589934592) c') c
noncomputable def ckM {α : Type} (c : Nat) (a : Option α) : Option α := @Nat.rec (fun _ => Option α) none (fun c' _ => @Nat.rec (fun _ => Option α) a (fun _ _ => none) c') c
noncomputable def swM {α : Type} (s : Nat ⊕ Nat) (a b : Nat → Option α) : Option α := @Sum.rec Nat Nat (fun _ => Option α) a b s
noncomputable def nmM {β : Type} (v : Nat) (k : Nat → β) : β := @Nat.rec (fun _ => β) (k 0) (fun n _ => k (Nat.succ n)) v
noncomputable def lpM {σ ρ : Type} (it : σ → Option (σ ⊕ ρ)) (n : Nat) : σ → Option ρ := @Nat.rec (fun _ => σ → Option ρ) (fun _ => none) (fun _ ih s => @Option.rec (σ ⊕ ρ) (fun _ => Option ρ) none (fun y => @Sum.rec σ ρ (fun _ => Option ρ) ih (fun r => some r) y) (it s)) n
noncomputable def exM {σ ρ : Type} (o : Option ρ) : Option (σ ⊕ ρ) := @Option.rec ρ (fun _ => Option (σ ⊕ ρ)) none (fun r => some (.inr r)) o
section RZs
variable {α' α β' β σ' σ ρ' ρ : Type}
theorem rz_none {Z : α' → Option α → Prop} {o : Option α} : RZ Z none o := fun _ h => by cases h
theorem rz_some {P : α' → α → Prop} {a' : α'} {a : α} (h : P a' a) : RZ (RO P) (some a') (some a) := fun b hb => by cases hb; exact ⟨a, rfl, h⟩
theorem rz_bnd {P : α' → α → Prop} {Z : β' → Option β → Prop} {o' : Option α'} {o : Option α} {k' : α' → Option β'} {k : α → Option β} (h : RZ (RO P) o' o) (hk : ∀ a' a, P a' a → RZ Z (k' a') (k a)) : RZ Z (bdM o' k') (bnd o k) := by
  intro b' hb
  cases o' with
  | none => cases hb
  | some a' =>
    obtain ⟨a, rfl, ha⟩ := h a' rfl
    exact hk a' a ha b' hb
theorem rz_tst {Z : α' → Option α → Prop} {c : Nat} {p : Prop} {a' b' : Option α'} {a b : Option α} (h : T3 c p) (ha : RZ Z a' a) (hb : RZ Z b' b) : RZ Z (tst c a' b') (cnd p a b) := by
  match c, h with
  | 0, h => rw [cnd_f (h.2 rfl)]; exact hb
  | 1, h => rw [cnd_t (h.1 rfl)]; exact ha
  | c + 2, _ => exact rz_none
theorem rz_ck {Z : α' → Option α → Prop} {c : Nat} {p : Prop} {a' : Option α'} {a : Option α} (h : T3 c p) (ha : RZ Z a' a) : RZ Z (ckM c a') (chk p a) := by
  match c, h with
  | 0, _ => exact rz_none
  | 1, h => rw [chk_t (h.1 rfl)]; exact ha
  | c + 2, _ => exact rz_none
theorem rz_in {Z : α' → Option α → Prop} {x v n : Nat} {w : Int32} {a' : Option α'} {a : Option α} (h : rv x v w) (ha : w.toNatClampNeg = v → RZ Z a' a) : RZ Z (ckM (vin v n) a') (chk (vp_in w n) a) := by
  have h3 := vin_s (n := n) h
  have h4 := vin_c (n := n) h
  generalize vin v n = c at h3 h4
  match c, h3, h4 with
  | 0, _, _ => exact rz_none
  | 1, h3, h4 => rw [chk_t (h3.1 rfl)]; exact ha (h4 rfl)
  | c + 2, _, _ => exact rz_none
theorem rz_sw {Z : α' → Option α → Prop} {x : Nat} {s' : Nat ⊕ Nat} {s : Int32 ⊕ Nat} {a' : Nat → Option α'} {b' : Nat → Option α'} {a : Int32 → Option α} {b : Nat → Option α} (h : rs (rv x) Eq s' s) (ha : ∀ v' v, rv x v' v → RZ Z (a' v') (a v)) (hb : ∀ k, RZ Z (b' k) (b k)) : RZ Z (swM s' a' b') (sw s a b) := by
  match s', s, h with
  | .inl v', .inl v, h => exact ha v' v h
  | .inr k', .inr k, h =>
    have e : k' = k := h
    subst e
    exact hb k'
theorem nmM_e {γ : Type} (v : Nat) (k : Nat → γ) : nmM v k = k v := by cases v <;> rfl
theorem rz_nm {Z : α' → Option α → Prop} {x v : Nat} {w : Int32} {k' : Nat → Option α'} {k : Int32 → Option α} (h : rv x v w) (hk : ∀ v' v, rv x v' v → RZ Z (k' v') (k v)) : RZ Z (nmM v k') (nmv w k) := by
  rw [nmM_e]
  exact hk v w h
theorem rv_nm {x v : Nat} {w : Int32} {k' : Nat → Nat} {k : Int32 → Int32} (h : rv x v w) (hk : ∀ v' v, rv x v' v → rv x (k' v') (k v)) : rv x (nmM v k') (nmv w k) := by
  rw [nmM_e]
  exact hk v w h
theorem rv_ts {x c a' b' : Nat} {p : Prop} {a b : Int32} (h : T3 c p) (ha : rv x a' a) (hb : rv x b' b) : rv x (tsv c a' b') (cnd p a b) := by
  match c, h with
  | 0, h => rw [cnd_f (h.2 rfl)]; exact hb
  | 1, h => rw [cnd_t (h.1 rfl)]; exact ha
  | c + 2, _ => exact rv_p
theorem rv_ite {x c a' b' : Nat} {p : Prop} [d : Decidable p] {a b : Int32} (h : T3 c p) (ha : rv x a' a) (hb : rv x b' b) : rv x (tsv c a' b') (if p then a else b) := by
  match c, h with
  | 0, h => rw [if_neg (h.2 rfl)]; exact hb
  | 1, h => rw [if_pos (h.1 rfl)]; exact ha
  | c + 2, _ => exact rv_p
theorem rz_ex {P : ρ' → ρ → Prop} {PS : σ' → σ → Prop} {o' : Option ρ'} {o : Option ρ} (h : RZ (RO P) o' o) : RZ (RO (rs PS P)) (exM o') (exR o) := by
  intro y' hy
  cases o' with
  | none => cases hy
  | some r' =>
    cases hy
    obtain ⟨r, rfl, hr⟩ := h r' rfl
    exact ⟨.inr r, rfl, hr⟩
theorem rz_lp {P : ρ' → ρ → Prop} {PS : σ' → σ → Prop} {it' : σ' → Option (σ' ⊕ ρ')} {it : σ → Option (σ ⊕ ρ)} (hi : ∀ s' s, PS s' s → RZ (RO (rs PS P)) (it' s') (it s)) : ∀ (n : Nat) {s' : σ'} {s : σ}, PS s' s → RZ (RO P) (lpM it' n s') (lp it s)
  | 0, _, _, _ => rz_none
  | n + 1, s', s, hs => by
    intro r' hr
    have h := hi s' s hs
    have hr : @Option.rec (σ' ⊕ ρ') (fun _ => Option ρ') none (fun y => @Sum.rec σ' ρ' (fun _ => Option ρ') (lpM it' n) (fun r => some r) y) (it' s') = some r' := hr
    cases hy : it' s' with
    | none => rw [hy] at hr; cases hr
    | some y' =>
      rw [hy] at hr
      obtain ⟨y, e, hyy⟩ := h y' hy
      cases y' with
      | inl t' =>
        cases y with
        | inl t =>
          rw [lp_go e]
          exact rz_lp hi n (s' := t') (s := t) hyy r' hr
        | inr r => exact hyy.elim
      | inr q' =>
        cases y with
        | inl t => exact hyy.elim
        | inr q =>
          rw [lp_out e]
          cases hr
          exact ⟨q, rfl, hyy⟩
end RZs
theorem rv_l {x n : Nat} {w : Int32} (h : n < 4294967296) (e : w = nI n) : rv x n w := rv_i h e
theorem rv_nI {x n : Nat} (h : n < 4294967296) : rv x n (nI n) := rv_i h rfl
