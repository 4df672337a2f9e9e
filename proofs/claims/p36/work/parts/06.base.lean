/-! ONE MEMORY FOR AN OBJECT OF THE CLASS. Every cell of it has a number k < 475; what it holds that can change is a row of ints, C k (M, the reference's in another claim, is nothing here); what it refers to never changes. gx_W says: the heap holds the cells of C and M. -/
def TsG : List Cond := lw_tbl.filter goodWord
theorem TsG_of {w : Cond} (h : w ∈ lw_tbl) (hg : goodWord w = true) : w ∈ TsG := List.mem_filter.mpr ⟨h, hg⟩
theorem TsG_t {w : Cond} (h : w ∈ tables_1) (hg : goodWord w = true) : w ∈ TsG := TsG_of (List.mem_append_right _ h) hg
theorem TsG_s {q : MethodName × Nat} (h : q ∈ lw_privs) : Cond.selects q.1.cls q.1 q.1 ∈ TsG := TsG_of (List.mem_append_left _ (List.mem_map.mpr ⟨q, h, rfl⟩)) rfl
theorem TsG_g {w : Cond} (h : w ∈ TsG) : (w.onTables && w.keeps) = true ∨ ∃ ty, w = .arrayClass ty := good_of_word (List.mem_filter.mp h).2
theorem TsG_l {w : Cond} (h : w ∈ TsG) : w ∈ lw_tbl := (List.mem_filter.mp h).1
theorem gi_all {big ws : List Cond} (h : ∀ w ∈ ws, w ∈ TsG) (h2 : ∀ w ∈ TsG, w ∈ big) : GoodIn big ws := fun w hw => ⟨h2 w (h w hw), TsG_g (h w hw)⟩
/-- what is to be known of a method that is called: its words are among the tables' -/
def Pk (y : MethodName) (bytes : ByteArray) (maxL : Nat) (ret : Option FieldType) (n : Nat) : Prop :=
  Cond.code y bytes maxL ret ∈ TsG ∧ Cond.initialized y.cls ∈ TsG ∧ y.cls ≠ "java/lang/invoke/MethodHandle" ∧ y.cls ≠ "java/lang/invoke/VarHandle" ∧ (parseMethodDescriptor y.desc).map (fun d => d.parameters.length) = some n
def PkV (y : MethodName) (bytes : ByteArray) (maxL : Nat) (ret : Option FieldType) (n : Nat) : Prop :=
  Pk y bytes maxL ret n ∧ Cond.instanceMethod y ∈ TsG ∧ Cond.selects y.cls y y ∈ TsG
def PkS (y : MethodName) (bytes : ByteArray) (maxL : Nat) (ret : Option FieldType) (n : Nat) : Prop :=
  Pk y bytes maxL ret n ∧ Cond.static y ∈ TsG
/-! the memory -/
abbrev Mem : Type := Nat → Nat → Int32
def mset (C : Mem) (k j : Nat) (x : Int32) : Mem := fun k' => if k' = k then upd (C k) j x else C k'
/-- the addresses, the array classes, the classes' numbers and slots, the lowest address of ours -/
abbrev gx_G : Type := (Nat → Nat) × (Nat → ClassId) × va_G × Nat
/-- what kind of cell k is -/
def shp (k : Nat) : Nat :=
  if k < 55 then (if k < 7 then (if k = 0 then 4 else if k = 1 then 1 else if k = 2 then 2 else if k = 3 then 5 else if k = 4 then 6 else 3) else if k % 2 = 1 then 1 else 2)
  else if k < 60 then (if k = 55 then 7 else if k = 58 then 8 else 3)
  else if k < 236 then (if (k - 60) % 11 = 0 then 9 else if (k - 60) % 11 = 1 then 10 else if (k - 60) % 11 = 2 then 3 else if (k - 60) % 11 % 2 = 1 then 1 else 2)
  else if k < 443 then (if k = 236 then 11 else if k = 237 then 12 else 3)
  else if k < 475 then (if k = 443 then 13 else if k = 446 then 14 else if k = 447 then 9 else if k = 448 then 10 else if k < 450 then 3 else if k = 474 then 3 else if k % 2 = 0 then 1 else 2)
  else 0
/-- how long the row k is -/
def ln (k : Nat) : Nat :=
  if k < 55 then 24
  else if k < 60 then 16
  else if k < 236 then (if (k - 60) % 11 < 3 then 4 else 24)
  else if k < 238 then 201
  else if k < 443 then (if k < 439 then 40 else if k = 439 then 201 else if k = 442 then 40 else 16)
  else if k < 475 then (if k = 444 then 8 else if k = 445 then 16 else if k < 450 then 12 else if k = 474 then 12 else 24)
  else 16
def gx_cc (Γ : gx_G) (k : Nat) (v w : Nat → Int32) : va_E := match shp k with
  | 1 => .inr (6, [.ref (Γ.1 (k + 1)), .int (v 1)])
  | 2 => .inl (Γ.2.1 0, 24, .inl v)
  | 3 => .inl (Γ.2.1 1, ln k, .inl v)
  | 4 => .inr (7, [.ref (Γ.1 1), .ref (Γ.1 3), .ref (Γ.1 55), .ref (Γ.1 236), .ref (Γ.1 443), .ref (Γ.1 446)])
  | 5 => .inr (0, [.ref (Γ.1 4), .ref (Γ.1 5), .ref (Γ.1 6), .int (v 3), .int (v 4), .int (v 5)])
  | 6 => .inl (Γ.2.1 4, 24, .inr (.inr (.inr (.inr (fun i => some (Γ.1 (7 + 2 * i)))))))
  | 7 => .inr (2, [.ref (Γ.1 56), .ref (Γ.1 57), .ref (Γ.1 58), .ref (Γ.1 59), .int (v 4)])
  | 8 => .inl (Γ.2.1 5, 16, .inr (.inr (.inr (.inr (fun i => some (Γ.1 (60 + 11 * i)))))))
  | 9 => .inr (1, [.ref (Γ.1 (k + 1)), .ref (Γ.1 (k + 2)), .int (v 2), .int (v 3)])
  | 10 => .inl (Γ.2.1 4, ln k, .inr (.inr (.inr (.inr (fun i => some (Γ.1 (k + 2 + 2 * i)))))))
  | 11 => .inr (3, [.ref (Γ.1 3), .ref (Γ.1 55), .ref (Γ.1 237), .ref (Γ.1 439), .ref (Γ.1 440), .ref (Γ.1 441), .ref (Γ.1 442), .int (v 7)])
  | 12 => .inl (Γ.2.1 6, 201, .inr (.inr (.inr (.inr (fun i => some (Γ.1 (238 + i)))))))
  | 13 => .inr (5, [.ref (Γ.1 444), .ref (Γ.1 445)])
  | 14 => .inr (4, [.ref (Γ.1 447), .ref (Γ.1 474)])
  | _ => .inl (Γ.2.1 1, ln k, .inl w)
def gx_ws (Γ : gx_G) (C M : Mem) : va_W := (List.range 475).map (fun k => (Γ.1 k, gx_cc Γ k (C k) (M k)))
def gx_W (Γ : gx_G) (C M : Mem) (H : Heap) : Prop := va_P Γ.2.2.1 vwCl (gx_ws Γ C M) H
def gx_tys (Γ : gx_G) : List (ClassId × FieldType) := [(Γ.2.1 0, .char), (Γ.2.1 1, .int), (Γ.2.1 2, .int), (Γ.2.1 3, .int), (Γ.2.1 4, .object "Monobuild$Text"), (Γ.2.1 5, .object "Monobuild$Globs"), (Γ.2.1 6, .array .int)]
def gA (Γ : gx_G) : Nat → Prop := fun q => Γ.2.2.2 ≤ q
def gx_I (Γ : gx_G) : Prop := (∀ i j : Nat, i < 475 → j < 475 → Γ.1 i = Γ.1 j → i = j) ∧ ∀ k : Nat, k < 475 → Γ.2.2.2 ≤ Γ.1 k
/-- exceptions of which none is of the other's class -/
def gx_ncs : List (String × String) := [("java/lang/IllegalStateException", "java/lang/IllegalArgumentException"), ("java/lang/IllegalArgumentException", "java/lang/IndexOutOfBoundsException"), ("java/lang/IllegalStateException", "java/lang/IndexOutOfBoundsException")]
def gx_cas : List String := ["java/lang/IllegalArgumentException", "java/lang/IllegalStateException", "java/lang/IndexOutOfBoundsException"]
def gx_dec : List MethodName := [⟨"java/lang/RuntimeException", "<init>", "(Ljava/lang/String;)V"⟩, ⟨"java/lang/Exception", "<init>", "(Ljava/lang/String;)V"⟩, ⟨"java/lang/Throwable", "<init>", "(Ljava/lang/String;)V"⟩]
theorem gx_decl {q : MethodName} {s U : State} (hW : s.vm.Alike U.vm) (hZ : va_Nw (.declares q) s) : va_Nw (.declares q) U := va_tabs rfl (rfl : (s.setVm U.vm).vm = U.vm) (by rw [Cond.declares_setVm hW]; exact hZ)
/-- what a throw needs of the machine -/
def gx_T (Γ : gx_G) (U : State) : Prop := vx_Zq Bundle.tN "UNASSIGNED_STACK" Bundle.steD (gA Γ) U U.heap ∧ vx_Zq Bundle.tN "SUPPRESSED_SENTINEL" Bundle.listD (gA Γ) U U.heap ∧ (∀ q ∈ gx_strs, ∃ sa, vk_R RX7 q.1 q.2 sa U) ∧ (∀ q ∈ gx_ncs, va_Nc q.1 q.2 U) ∧ (∀ q ∈ gx_cas, va_Nw (.castable q q) U) ∧ ∀ q ∈ gx_dec, va_Nw (.declares q) U
def gx_N (U : State) : Prop := ∀ q ∈ gx_nst, va_Nw (.methodLinkNest q.1 q.2.1 q.2.2 RX7) U
def gx_K (Γ : gx_G) (U : State) : Prop := va_K Γ.2.2.1 vwCl (gx_tys Γ) U ∧ gx_I Γ ∧ Γ.2.2.2 ≤ U.heap.size ∧ gx_T Γ U ∧ gx_N U
def gx_P (Γ : gx_G) (C M : Mem) (U : State) : Prop := gx_K Γ U ∧ gx_W Γ C M U.heap
theorem gx_at {Γ : gx_G} {C M : Mem} {k : Nat} (hk : k < 475) : (gx_ws Γ C M)[k]? = some (Γ.1 k, gx_cc Γ k (C k) (M k)) := by simp [gx_ws, hk]
theorem gx_at_c {Γ : gx_G} {C M : Mem} {k : Nat} {e : va_E} (hk : k < 475) (he : gx_cc Γ k (C k) (M k) = e) : (gx_ws Γ C M)[k]? = some (Γ.1 k, e) := by rw [← he]; exact gx_at hk
theorem gx_setC {Γ : gx_G} {C M : Mem} {k : Nat} (hk : k < 475) (v : Nat → Int32) : (gx_ws Γ C M).set k (Γ.1 k, gx_cc Γ k v (M k)) = gx_ws Γ (fun k' => if k' = k then v else C k') M := by
  apply List.ext_getElem?
  intro i
  rw [List.getElem?_set]
  by_cases h : k = i
  · subst h
    simp [gx_ws, hk]
  · by_cases hi : i < 475
    · simp [gx_ws, h, hi, Ne.symm h]
    · simp [gx_ws, h, hi]
theorem gx_setM {Γ : gx_G} {C M : Mem} {k : Nat} (hk : k < 475) (v : Nat → Int32) : (gx_ws Γ C M).set k (Γ.1 k, gx_cc Γ k (C k) v) = gx_ws Γ C (fun k' => if k' = k then v else M k') := by
  apply List.ext_getElem?
  intro i
  rw [List.getElem?_set]
  by_cases h : k = i
  · subst h
    simp [gx_ws, hk]
  · by_cases hi : i < 475
    · simp [gx_ws, h, hi, Ne.symm h]
    · simp [gx_ws, h, hi]
theorem gx_D {Γ : gx_G} (C M : Mem) (h : gx_I Γ) : va_D (gA Γ) (gx_ws Γ C M) := by
  have key : ∀ (k : Nat) (q : Nat × va_E), (gx_ws Γ C M)[k]? = some q → k < 475 ∧ q.1 = Γ.1 k := by
    intro k q hq
    by_cases hk : k < 475
    · rw [gx_at hk] at hq
      cases hq
      exact ⟨hk, rfl⟩
    · simp [gx_ws, hk] at hq
  refine ⟨fun i j p q hp hq hpq => ?_, fun k q hq => ?_⟩
  · obtain ⟨hi, e1⟩ := key i p hp
    obtain ⟨hj, e2⟩ := key j q hq
    exact h.1 i j hi hj (by rw [← e1, ← e2]; exact hpq)
  · obtain ⟨hk, e1⟩ := key k q hq
    show Γ.2.2.2 ≤ q.1
    rw [e1]
    exact h.2 k hk
theorem gx_K_blind {Γ : gx_G} {U : State} {a : Array Value} {g : JFrame} {mk : MethodId} (h : gx_K Γ U) : gx_K Γ (U.calling g mk a) := by
  obtain ⟨h1, h2, h3, ⟨h4, h5, h6, h8, h9, h10⟩, h7⟩ := h
  refine ⟨va_K.moved (u := U) (U := U.calling g mk a) (Vm.Alike.refl U.vm) h1, h2, h3, ⟨vx_Zq.moved (u := U) (U := U.calling g mk a) (Vm.Alike.refl U.vm) h4, vx_Zq.moved (u := U) (U := U.calling g mk a) (Vm.Alike.refl U.vm) h5, fun q hq => ?_, fun q hq => va_Nc.moved (u := U) (U := U.calling g mk a) (Vm.Alike.refl U.vm) (h8 q hq), fun q hq => va_Nw.same (u := U) (U := U.calling g mk a) rfl rfl (h9 q hq), fun q hq => va_Nw.same (u := U) (U := U.calling g mk a) rfl rfl (h10 q hq)⟩, fun q hq => ?_⟩
  · obtain ⟨sa, hs⟩ := h6 q hq
    exact ⟨sa, vk_R.same (u := U) (U := U.calling g mk a) rfl hs⟩
  · exact va_Nw.same (u := U) (U := U.calling g mk a) rfl rfl (h7 q hq)
theorem gx_P_blind {Γ : gx_G} {C M : Mem} (av : List Value) : FrameBlind (va_Pc av (gx_P Γ C M)) := fun _ _ _ _ h => ⟨h.1, gx_K_blind h.2.1, h.2.2⟩
theorem gx_K_on {Γ : gx_G} {s U : State} {H : Heap} {locs : List Loc} (h : gx_K Γ s) (hS : va_S (gA Γ) s.heap H locs) (hU : U.heap = H) (hW : s.WarmedH U.vm) : gx_K Γ U := by
  obtain ⟨h1, h2, h3, ⟨h4, h5, h6, h8, h9, h10⟩, h7⟩ := h
  have kp : ∀ a : Nat, a < s.heap.size → ¬ gA Γ a → U.heap[a]? = s.heap[a]? := fun a ha hn => by rw [hU]; exact hS.2.1 a ha hn
  refine ⟨va_K.moved hW.alike h1, h2, Nat.le_trans h3 (by rw [hU]; exact hS.1), ⟨vx_Zq.moved hW.alike (vx_Zq.kept h4 kp), vx_Zq.moved hW.alike (vx_Zq.kept h5 kp), fun q hq => ?_, fun q hq => va_Nc.moved hW.alike (h8 q hq), fun q hq => va_Nw.warmC hW (h9 q hq), fun q hq => gx_decl hW.alike (h10 q hq)⟩, fun q hq => ?_⟩
  · obtain ⟨sa, hs⟩ := h6 q hq
    exact ⟨sa, vk_R.warm hW hs⟩
  · exact va_Nw.warmM hW (h7 q hq)
theorem gx_A {Γ : gx_G} {s : State} (h : gx_K Γ s) : ∀ q : Nat, s.heap.size ≤ q → gA Γ q := fun q hq => Nat.le_trans h.2.2.1 hq
/-! branches of the written functions, and their loops -/
noncomputable def cnd {α : Sort _} (p : Prop) (a b : α) : α := @ite α p (Classical.propDecidable p) a b
theorem cnd_t {α : Sort _} {p : Prop} {a b : α} (h : p) : cnd p a b = a := @if_pos p (Classical.propDecidable p) h α a b
theorem cnd_f {α : Sort _} {p : Prop} {a b : α} (h : ¬ p) : cnd p a b = b := @if_neg p (Classical.propDecidable p) h α a b
theorem cnd_ite {α : Sort _} {p : Prop} [d : Decidable p] {a b : α} : cnd p a b = if p then a else b := by
  by_cases h : p
  · rw [cnd_t h, if_pos h]
  · rw [cnd_f h, if_neg h]
theorem cn_t {α : Type} {p : Prop} {a b r : α} (h : p) (hf : cnd p a b = r) : a = r := (cnd_t h).symm.trans hf
theorem cn_f {α : Type} {p : Prop} {a b r : α} (h : ¬ p) (hf : cnd p a b = r) : b = r := (cnd_f h).symm.trans hf
/-- a check: what the machine would throw at is 'none' -/
noncomputable def chk {α : Type} (p : Prop) (a : Option α) : Option α := cnd p a none
theorem ck_p {α : Type} {p : Prop} {a : Option α} {r : α} (hf : chk p a = some r) : p := by
  by_cases h : p
  · exact h
  · rw [chk, cnd_f h] at hf
    cases hf
theorem ck_r {α : Type} {p : Prop} {a : Option α} {r : α} (hf : chk p a = some r) : a = some r := by
  rw [chk, cnd_t (ck_p hf)] at hf
  exact hf
theorem chk_t {α : Type} {p : Prop} {a : Option α} (h : p) : chk p a = a := cnd_t h
def bnd {α β : Type} (o : Option α) (k : α → Option β) : Option β := match o with
  | none => none
  | some a => k a
theorem bnd_e {α β : Type} {o : Option α} {k : α → Option β} {b : β} (h : bnd o k = some b) : ∃ a, o = some a ∧ k a = some b := by
  cases o with
  | none => cases h
  | some a => exact ⟨a, rfl, h⟩
theorem bnd_s {α β : Type} (a : α) (k : α → Option β) : bnd (some a) k = k a := rfl
/-- a loop's rounds: on with a new state, or out with an answer -/
def lpN {σ ρ : Type} (it : σ → Option (σ ⊕ ρ)) : Nat → σ → Option ρ
  | 0, _ => none
  | n + 1, s => match it s with
    | none => none
    | some (.inl s') => lpN it n s'
    | some (.inr r) => some r
theorem lpN_more {σ ρ : Type} {it : σ → Option (σ ⊕ ρ)} {r : ρ} : ∀ (n k : Nat) (s : σ), lpN it n s = some r → lpN it (n + k) s = some r
  | 0, _, _, h => by cases h
  | n + 1, k, s, h => by
    rw [show n + 1 + k = (n + k) + 1 by omega]
    simp only [lpN] at h ⊢
    cases hi : it s with
    | none => rw [hi] at h; cases h
    | some x =>
      rw [hi] at h
      cases x with
      | inl s' => exact lpN_more n k s' h
      | inr r' => exact h
noncomputable def lp {σ ρ : Type} (it : σ → Option (σ ⊕ ρ)) (s : σ) : Option ρ :=
  @dite (Option ρ) (∃ (n : Nat) (r : ρ), lpN it n s = some r) (Classical.propDecidable _) (fun h => lpN it (Classical.choose h) s) (fun _ => none)
theorem lp_of {σ ρ : Type} {it : σ → Option (σ ⊕ ρ)} {s : σ} {n : Nat} {r : ρ} (h : lpN it n s = some r) : lp it s = some r := by
  have hx : ∃ (n : Nat) (r : ρ), lpN it n s = some r := ⟨n, r, h⟩
  have e : lp it s = lpN it (Classical.choose hx) s := @dif_pos _ (Classical.propDecidable _) hx _ _ _
  obtain ⟨r', h'⟩ := Classical.choose_spec hx
  have h1 := lpN_more _ n _ h'
  have h2 := lpN_more _ (Classical.choose hx) _ h
  rw [Nat.add_comm] at h1
  have : some r = some r' := h2.symm.trans h1
  rw [e, h', this]
theorem lp_to {σ ρ : Type} {it : σ → Option (σ ⊕ ρ)} {s : σ} {r : ρ} (h : lp it s = some r) : ∃ n : Nat, lpN it n s = some r := by
  by_cases hx : ∃ (n : Nat) (r : ρ), lpN it n s = some r
  · have e : lp it s = lpN it (Classical.choose hx) s := @dif_pos _ (Classical.propDecidable _) hx _ _ _
    exact ⟨_, e.symm.trans h⟩
  · have e : lp it s = none := @dif_neg _ (Classical.propDecidable _) hx _ _ _
    rw [e] at h
    cases h
theorem lp_go {σ ρ : Type} {it : σ → Option (σ ⊕ ρ)} {s s' : σ} (h : it s = some (.inl s')) : lp it s = lp it s' := by
  apply Option.ext
  intro r
  constructor
  · intro hr
    obtain ⟨n, hn⟩ := lp_to hr
    cases n with
    | zero => cases hn
    | succ n =>
      simp only [lpN, h] at hn
      exact lp_of hn
  · intro hr
    obtain ⟨n, hn⟩ := lp_to hr
    refine lp_of (n := n + 1) ?_
    simp only [lpN, h]
    exact hn
theorem lp_out {σ ρ : Type} {it : σ → Option (σ ⊕ ρ)} {s : σ} {r : ρ} (h : it s = some (.inr r)) : lp it s = some r := lp_of (n := 1) (by simp only [lpN, h])
theorem lp_ind {σ ρ : Type} {it : σ → Option (σ ⊕ ρ)} {x : ρ} {P : σ → Prop} (h : ∀ (s : σ) (y : σ ⊕ ρ), it s = some y → (∀ s', y = .inl s' → P s') → (∀ x', y = .inr x' → x' = x) → P s) : ∀ s : σ, lp it s = some x → P s := by
  intro s hs
  obtain ⟨n, hn⟩ := lp_to hs
  induction n generalizing s with
  | zero => cases hn
  | succ n ih =>
    simp only [lpN] at hn
    cases hi : it s with
    | none => rw [hi] at hn; cases hn
    | some y =>
      rw [hi] at hn
      refine h s y hi (fun s' e => ?_) (fun x' e => ?_)
      · subst e
        exact ih s' (lp_of hn) hn
      · subst e
        exact Option.some.inj hn
/-- out of a loop, with what comes behind it -/
def exR {σ ρ : Type} (o : Option ρ) : Option (σ ⊕ ρ) := bnd o (fun r => some (.inr r))
theorem exR_e {σ ρ : Type} {o : Option ρ} {y : σ ⊕ ρ} (h : exR o = some y) : ∃ r, o = some r ∧ y = .inr r := by
  obtain ⟨r, h1, h2⟩ := bnd_e h
  exact ⟨r, h1, (Option.some.inj h2).symm⟩
theorem lp_exR {σ ρ : Type} {it : σ → Option (σ ⊕ ρ)} {s : σ} {o : Option ρ} {r : ρ} (h : it s = exR o) (ho : o = some r) : lp it s = some r := lp_out (by rw [h, ho]; rfl)
/-! the kinds of cells -/
theorem sh_lt {k : Nat} (h : shp k ≠ 0) : k < 475 := by
  rcases Nat.lt_or_ge k 475 with q | q
  · exact q
  · exact absurd (by unfold shp; simp [show ¬ k < 55 by omega, show ¬ k < 60 by omega, show ¬ k < 236 by omega, show ¬ k < 443 by omega, show ¬ k < 475 by omega]) h
theorem sh_lt1 {k : Nat} (h : shp k = 1) : k < 475 := sh_lt (by rw [h]; decide)
theorem sh_lt9 {k : Nat} (h : shp k = 9) : k < 475 := sh_lt (by rw [h]; decide)
theorem sh_t1 {k : Nat} (h : shp k = 1) : shp (k + 1) = 2 := (by decide +kernel : ∀ k, k < 475 → shp k = 1 → shp (k + 1) = 2) k (sh_lt1 h) h
theorem sh_g1 {k : Nat} (h : shp k = 9) : shp (k + 1) = 10 := (by decide +kernel : ∀ k, k < 475 → shp k = 9 → shp (k + 1) = 10) k (sh_lt9 h) h
theorem sh_g2 {k : Nat} (h : shp k = 9) : shp (k + 2) = 3 := (by decide +kernel : ∀ k, k < 475 → shp k = 9 → shp (k + 2) = 3) k (sh_lt9 h) h
theorem ln_g1 {k : Nat} (h : shp k = 9) : ln (k + 1) = ln k := (by decide +kernel : ∀ k, k < 475 → shp k = 9 → ln (k + 1) = ln k) k (sh_lt9 h) h
theorem ln_g2 {k : Nat} (h : shp k = 9) : ln (k + 2) = ln k := (by decide +kernel : ∀ k, k < 475 → shp k = 9 → ln (k + 2) = ln k) k (sh_lt9 h) h
theorem sh_gp {k : Nat} (h : shp k = 9) {j : Nat} (hj : j < ln k) : shp (k + 3 + 2 * j) = 1 := (by decide +kernel : ∀ k, k < 475 → shp k = 9 → ∀ j, j < ln k → shp (k + 3 + 2 * j) = 1) k (sh_lt9 h) h j hj
theorem sh_path {i : Nat} (h : i < 24) : shp (7 + 2 * i) = 1 := (by decide +kernel : ∀ i, i < 24 → shp (7 + 2 * i) = 1) i h
theorem sh_glob {i : Nat} (h : i < 16) : shp (60 + 11 * i) = 9 := (by decide +kernel : ∀ i, i < 16 → shp (60 + 11 * i) = 9) i h
theorem sh_row {i : Nat} (h : i < 201) : shp (238 + i) = 3 := (by decide +kernel : ∀ i, i < 201 → shp (238 + i) = 3) i h
theorem ln_row {i : Nat} (h : i < 201) : ln (238 + i) = 40 := (by decide +kernel : ∀ i, i < 201 → ln (238 + i) = 40) i h
theorem in_lt {x : Int32} {n : Nat} (h : vp_in x n) : x.toNatClampNeg < n := Nat.not_le.mp fun q => h (Or.inr q)
theorem cc_1 {Γ : gx_G} {k : Nat} (h : shp k = 1) (v w : Nat → Int32) : gx_cc Γ k v w = .inr (6, [.ref (Γ.1 (k + 1)), .int (v 1)]) := by simp only [gx_cc, h]
theorem cc_2 {Γ : gx_G} {k : Nat} (h : shp k = 2) (v w : Nat → Int32) : gx_cc Γ k v w = .inl (Γ.2.1 0, 24, .inl v) := by simp only [gx_cc, h]
theorem cc_3 {Γ : gx_G} {k : Nat} (h : shp k = 3) (v w : Nat → Int32) : gx_cc Γ k v w = .inl (Γ.2.1 1, ln k, .inl v) := by simp only [gx_cc, h]
theorem cc_9 {Γ : gx_G} {k : Nat} (h : shp k = 9) (v w : Nat → Int32) : gx_cc Γ k v w = .inr (1, [.ref (Γ.1 (k + 1)), .ref (Γ.1 (k + 2)), .int (v 2), .int (v 3)]) := by simp only [gx_cc, h]
theorem cc_10 {Γ : gx_G} {k : Nat} (h : shp k = 10) (v w : Nat → Int32) : gx_cc Γ k v w = .inl (Γ.2.1 4, ln k, .inr (.inr (.inr (.inr (fun i => some (Γ.1 (k + 2 + 2 * i))))))) := by simp only [gx_cc, h]
