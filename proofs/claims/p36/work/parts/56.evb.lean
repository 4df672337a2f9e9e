theorem pr_1 {x : Nat} {R : RT} {i : Nat} {t : Mem × Int32} (h : rp (rm x) (rv x) (R, i) t) : rm x R t.1 := h.1
theorem pr_2 {x : Nat} {R : RT} {i : Nat} {t : Mem × Int32} (h : rp (rm x) (rv x) (R, i) t) : rv x i t.2 := h.2
theorem b60 {x : Nat} (hx : x < 1000) {a1 : Int32} (ha : rv x 4294967296 a1) {C : Mem} (hC : rm x RB58 C) : ∀ k, k ≤ 200 → ∃ t, rp (rm x) (rv x) (Rk k, k) t ∧ fL_bounds_58 a1 C = lp (fL_bounds_60 a1) t
  | 0, _ => ⟨(C, (0 : Int32)), ⟨hC, rl_0⟩, rfl⟩
  | k + 1, hk => by
    obtain ⟨t, ht, e⟩ := b60 hx ha hC k (by omega)
    exact ev_loop (sL_bounds_60 hx ha ht) (ck60_all k (by omega)) e
theorem b194 {x : Nat} (hx : x < 1000) {C : Mem} (hC : rm x RB192 C) : ∃ t, rp (rm x) (rv x) (RT25, 25) t ∧ fL_bounds_192 C = lp fL_bounds_194 t := by
  have e0 : fL_bounds_192 C = lp fL_bounds_194 (C, (1 : Int32)) := rfl
  have h0 : rp (rm x) (rv x) (RT1, 1) (C, (1 : Int32)) := ⟨hC, rl_1⟩
  obtain ⟨t1, h1, e1⟩ := ev_loop (sL_bounds_194 hx h0) k194_1 e0
  obtain ⟨t2, h2, e2⟩ := ev_loop (sL_bounds_194 hx h1) k194_2 e1
  obtain ⟨t3, h3, e3⟩ := ev_loop (sL_bounds_194 hx h2) k194_3 e2
  obtain ⟨t4, h4, e4⟩ := ev_loop (sL_bounds_194 hx h3) k194_4 e3
  obtain ⟨t5, h5, e5⟩ := ev_loop (sL_bounds_194 hx h4) k194_5 e4
  obtain ⟨t6, h6, e6⟩ := ev_loop (sL_bounds_194 hx h5) k194_6 e5
  obtain ⟨t7, h7, e7⟩ := ev_loop (sL_bounds_194 hx h6) k194_7 e6
  obtain ⟨t8, h8, e8⟩ := ev_loop (sL_bounds_194 hx h7) k194_8 e7
  obtain ⟨t9, h9, e9⟩ := ev_loop (sL_bounds_194 hx h8) k194_9 e8
  obtain ⟨t10, h10, e10⟩ := ev_loop (sL_bounds_194 hx h9) k194_10 e9
  obtain ⟨t11, h11, e11⟩ := ev_loop (sL_bounds_194 hx h10) k194_11 e10
  obtain ⟨t12, h12, e12⟩ := ev_loop (sL_bounds_194 hx h11) k194_12 e11
  obtain ⟨t13, h13, e13⟩ := ev_loop (sL_bounds_194 hx h12) k194_13 e12
  obtain ⟨t14, h14, e14⟩ := ev_loop (sL_bounds_194 hx h13) k194_14 e13
  obtain ⟨t15, h15, e15⟩ := ev_loop (sL_bounds_194 hx h14) k194_15 e14
  obtain ⟨t16, h16, e16⟩ := ev_loop (sL_bounds_194 hx h15) k194_16 e15
  obtain ⟨t17, h17, e17⟩ := ev_loop (sL_bounds_194 hx h16) k194_17 e16
  obtain ⟨t18, h18, e18⟩ := ev_loop (sL_bounds_194 hx h17) k194_18 e17
  obtain ⟨t19, h19, e19⟩ := ev_loop (sL_bounds_194 hx h18) k194_19 e18
  obtain ⟨t20, h20, e20⟩ := ev_loop (sL_bounds_194 hx h19) k194_20 e19
  obtain ⟨t21, h21, e21⟩ := ev_loop (sL_bounds_194 hx h20) k194_21 e20
  obtain ⟨t22, h22, e22⟩ := ev_loop (sL_bounds_194 hx h21) k194_22 e21
  obtain ⟨t23, h23, e23⟩ := ev_loop (sL_bounds_194 hx h22) k194_23 e22
  obtain ⟨t24, h24, e24⟩ := ev_loop (sL_bounds_194 hx h23) k194_24 e23
  exact ⟨t24, h24, e24⟩
theorem pure_bounds : ∀ k : Nat, k < 1000 → fL_bounds (nI k) = some (1 : Int32) := by
  intro x hx
  have ha : rv x 4294967296 (nI x) := fun _ => nI_c (by omega)
  obtain ⟨C0, h0, e0⟩ := ev_step (tL_bounds hx ha) kL_bounds
  obtain ⟨t, ht, e1⟩ := b60 hx ha h0 200 (Nat.le_refl _)
  have ht2 : t.2 = nI 200 := rv_c (pr_2 ht) (by decide)
  have e2 : lp (fL_bounds_60 (nI x)) t = fL_bounds_105 (nI x) t.1 := ev_exit (by
    unfold fL_bounds_60
    rw [cnd_t (by rw [ht2]; decide)])
  obtain ⟨C1, h1, e3⟩ := ev_step (tL_bounds_105 hx ha (pr_1 ht)) kL_bounds_105
  obtain ⟨u, hu, e4⟩ := b194 hx h1
  have hu2 : u.2 = nI 25 := rv_c (pr_2 hu) (by decide)
  have e5 : lp fL_bounds_194 u = fL_bounds_320 u.1 := ev_exit (by
    unfold fL_bounds_194
    rw [cnd_t (by rw [hu2]; decide)])
  have h6 := pr_1 hu
  have e6 := ev_fin (sL_bounds_320 hx h6) kk_320
  exact e0.trans (e1.trans (e2.trans (e3.trans (e4.trans (e5.trans e6)))))
