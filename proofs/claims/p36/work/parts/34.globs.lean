noncomputable def fL_globs_1026 (C_1026 : Mem) : Option Int32 := some (0 : Int32)
noncomputable def fL_globs_987 (C_987 : Mem) : Option Int32 := bnd (fL_act C_987 (0 : Int32) (97 : Int32) (0 : Int32)) fun q992 => cnd (q992.1 = (-33 : Int32)) (bnd (fL_act q992.2 (0 : Int32) (65 : Int32) (0 : Int32)) fun q1005 => cnd (q1005.1 = (-32 : Int32)) (bnd (fX7_clearText q1005.2) fun q1014 => cnd (q1014.1 = (24 : Int32)) (some (1 : Int32)) (fL_globs_1026 q1014.2)) (fL_globs_1026 q1005.2)) (fL_globs_1026 q992.2)
noncomputable def fL_globs_981 (t_932 : (Mem × Int32)) (C_981 : Mem) : Option ((Mem × Int32) ⊕ Int32) := some (.inl (C_981, (t_932.2 + (1 : Int32))))
noncomputable def fL_globs_979 (C_979 : Mem) : Option Int32 := some (0 : Int32)
noncomputable def fL_globs_976 (t_932 : (Mem × Int32)) (C_976 : Mem) (s0_976 : Int32) (s1_976 : Int32) : Option ((Mem × Int32) ⊕ Int32) := cnd (s1_976 = s0_976) (fL_globs_981 t_932 C_976) (exR (fL_globs_979 C_976))
noncomputable def fL_globs_952 (t_932 : (Mem × Int32)) (C_952 : Mem) (s0_952 : Int32) : Option ((Mem × Int32) ⊕ Int32) := bnd (fX7_type C_952 s0_952) fun q952 => sw q952.1 (fun v952 => cnd (v952 = (t_932.2 + (1 : Int32))) (bnd (fL_kind q952.2) fun q962 => cnd ((t_932.2 - t_932.2 / (2 : Int32) * (2 : Int32)) = (0 : Int32)) (fL_globs_976 t_932 q952.2 (3 : Int32) q962) (fL_globs_976 t_932 q952.2 (0 : Int32) q962)) (exR (fL_globs_979 q952.2))) (fun _ => none)
noncomputable def fL_globs_932  : (Mem × Int32) → Option ((Mem × Int32) ⊕ Int32) := fun t_932 => cnd ((24 : Int32) ≤ t_932.2) (exR (fL_globs_987 t_932.1)) (cnd ((t_932.2 - t_932.2 / (2 : Int32) * (2 : Int32)) = (0 : Int32)) (fL_globs_952 t_932 t_932.1 (122 : Int32)) (fL_globs_952 t_932 t_932.1 (47 : Int32)))
noncomputable def fL_globs_925 (C_925 : Mem) : Option Int32 := bnd (fX7_clearText C_925) fun q926 => lp (fL_globs_932) (q926.2, (0 : Int32))
noncomputable def fL_globs_923 (C_923 : Mem) : Option Int32 := some (0 : Int32)
noncomputable def fL_globs_810 (C_810 : Mem) : Option Int32 := bnd (fX7_delete C_810 (2 : Int32)) fun q812 => sw q812.1 (fun v812 => cnd (v812 = (4 : Int32)) (bnd (fL_act q812.2 (2 : Int32) (2 : Int32) (5 : Int32)) fun q823 => cnd (q823.1 = (-31 : Int32)) (bnd (fL_act q823.2 (3 : Int32) (2 : Int32) (0 : Int32)) fun q835 => cnd (q835.1 = (-31 : Int32)) (cnd ((fX7_files q835.2) = (3 : Int32)) (bnd (fL_text q835.2 (101 : Int32) (46 : Int32) (46 : Int32) (46 : Int32) (46 : Int32) (46 : Int32) (46 : Int32) (46 : Int32)) fun q868 => cnd (q868.1 = (0 : Int32)) (fL_globs_923 q868.2) (bnd (fX7_findFile q868.2) fun q875 => cnd (q875 = (2 : Int32)) (bnd (fL_act q868.2 (4 : Int32) (2 : Int32) (0 : Int32)) fun q886 => cnd (q886.1 = (1 : Int32)) (bnd (fX7_addFile q886.2 (9 : Int32)) fun q896 => sw q896.1 (fun v896 => cnd (v896 = (2 : Int32)) (bnd (fX7_edit q896.2 (2 : Int32) (5 : Int32)) fun q906 => sw q906.1 (fun v906 => cnd (v906 = (9 : Int32)) (cnd ((fX7_files q906.2) = (7 : Int32)) (fL_globs_925 q906.2) (fL_globs_923 q906.2)) (fL_globs_923 q906.2)) (fun _ => none)) (fL_globs_923 q896.2)) (fun _ => none)) (fL_globs_923 q886.2)) (fL_globs_923 q868.2))) (fL_globs_923 q835.2)) (fL_globs_923 q835.2)) (fL_globs_923 q823.2)) (fL_globs_923 q812.2)) (fun _ => none)
noncomputable def fL_globs_808 (C_808 : Mem) : Option Int32 := some (0 : Int32)
noncomputable def fL_globs_452 (C_452 : Mem) : Option Int32 := bnd (fL_text C_452 (97 : Int32) (47 : Int32) (42 : Int32) (46 : Int32) (46 : Int32) (46 : Int32) (46 : Int32) (46 : Int32)) fun q469 => cnd (q469.1 = (0 : Int32)) (fL_globs_808 q469.2) (bnd (fL_matched q469.2 (3 : Int32)) fun q477 => cnd (q477.1 = (1 : Int32)) (bnd (fL_text q477.2 (97 : Int32) (47 : Int32) (42 : Int32) (42 : Int32) (46 : Int32) (46 : Int32) (46 : Int32) (46 : Int32)) fun q501 => cnd (q501.1 = (0 : Int32)) (fL_globs_808 q501.2) (bnd (fL_matched q501.2 (3 : Int32)) fun q509 => cnd (q509.1 = (3 : Int32)) (bnd (fL_text q509.2 (42 : Int32) (42 : Int32) (46 : Int32) (46 : Int32) (46 : Int32) (46 : Int32) (46 : Int32) (46 : Int32)) fun q533 => cnd (q533.1 = (0 : Int32)) (fL_globs_808 q533.2) (bnd (fL_matched q533.2 (3 : Int32)) fun q541 => cnd (q541.1 = (7 : Int32)) (bnd (fL_text q541.2 (42 : Int32) (42 : Int32) (47 : Int32) (100 : Int32) (46 : Int32) (46 : Int32) (46 : Int32) (46 : Int32)) fun q566 => cnd (q566.1 = (0 : Int32)) (fL_globs_808 q566.2) (bnd (fL_matched q566.2 (3 : Int32)) fun q574 => cnd (q574.1 = (2 : Int32)) (bnd (fL_text q574.2 (63 : Int32) (46 : Int32) (46 : Int32) (46 : Int32) (46 : Int32) (46 : Int32) (46 : Int32) (46 : Int32)) fun q598 => cnd (q598.1 = (0 : Int32)) (fL_globs_808 q598.2) (bnd (fL_matched q598.2 (3 : Int32)) fun q606 => cnd (q606.1 = (4 : Int32)) (bnd (fL_text q606.2 (42 : Int32) (42 : Int32) (47 : Int32) (63 : Int32) (46 : Int32) (46 : Int32) (46 : Int32) (46 : Int32)) fun q630 => cnd (q630.1 = (0 : Int32)) (fL_globs_808 q630.2) (bnd (fL_matched q630.2 (3 : Int32)) fun q638 => cnd (q638.1 = (7 : Int32)) (bnd (fL_text q638.2 (97 : Int32) (47 : Int32) (42 : Int32) (42 : Int32) (47 : Int32) (98 : Int32) (46 : Int32) (46 : Int32)) fun q663 => cnd (q663.1 = (0 : Int32)) (fL_globs_808 q663.2) (bnd (fL_matched q663.2 (3 : Int32)) fun q671 => cnd (q671.1 = (1 : Int32)) (bnd (fL_text q671.2 (42 : Int32) (47 : Int32) (42 : Int32) (47 : Int32) (42 : Int32) (46 : Int32) (46 : Int32) (46 : Int32)) fun q695 => cnd (q695.1 = (0 : Int32)) (fL_globs_808 q695.2) (bnd (fL_matched q695.2 (3 : Int32)) fun q703 => cnd (q703.1 = (2 : Int32)) (bnd (fL_text q703.2 (97 : Int32) (47 : Int32) (98 : Int32) (42 : Int32) (46 : Int32) (46 : Int32) (46 : Int32) (46 : Int32)) fun q727 => cnd (q727.1 = (0 : Int32)) (fL_globs_808 q727.2) (bnd (fL_matched q727.2 (3 : Int32)) fun q735 => cnd (q735.1 = (1 : Int32)) (bnd (fL_text q735.2 (42 : Int32) (42 : Int32) (47 : Int32) (42 : Int32) (42 : Int32) (47 : Int32) (97 : Int32) (46 : Int32)) fun q759 => cnd (q759.1 = (0 : Int32)) (fL_globs_808 q759.2) (bnd (fL_matched q759.2 (3 : Int32)) fun q767 => cnd (q767.1 = (0 : Int32)) (bnd (fL_text q767.2 (97 : Int32) (42 : Int32) (42 : Int32) (46 : Int32) (46 : Int32) (46 : Int32) (46 : Int32) (46 : Int32)) fun q790 => cnd (q790.1 = (0 : Int32)) (fL_globs_808 q790.2) (bnd (fL_act q790.2 (4 : Int32) (0 : Int32) (0 : Int32)) fun q800 => cnd (q800.1 = (-33 : Int32)) (fL_globs_810 q800.2) (fL_globs_808 q800.2))) (fL_globs_808 q767.2))) (fL_globs_808 q735.2))) (fL_globs_808 q703.2))) (fL_globs_808 q671.2))) (fL_globs_808 q638.2))) (fL_globs_808 q606.2))) (fL_globs_808 q574.2))) (fL_globs_808 q541.2))) (fL_globs_808 q509.2))) (fL_globs_808 q477.2))
noncomputable def fL_globs_450 (C_450 : Mem) : Option Int32 := some (0 : Int32)
noncomputable def fL_globs_310 (C_310 : Mem) : Option Int32 := bnd (fL_text C_310 (97 : Int32) (47 : Int32) (98 : Int32) (46 : Int32) (46 : Int32) (46 : Int32) (46 : Int32) (46 : Int32)) fun q327 => cnd (q327.1 = (0 : Int32)) (fL_globs_450 q327.2) (bnd (fX7_findFile q327.2) fun q334 => cnd (q334 = (-1 : Int32)) (bnd (fX7_addFile q327.2 (1 : Int32)) fun q343 => sw q343.1 (fun v343 => cnd (v343 = (0 : Int32)) (bnd (fL_act q343.2 (1 : Int32) (2 : Int32) (0 : Int32)) fun q353 => cnd (q353.1 = (-33 : Int32)) (bnd (fX7_findFile q353.2) fun q362 => cnd (q362 = (0 : Int32)) (bnd (fL_text q353.2 (97 : Int32) (47 : Int32) (99 : Int32) (47 : Int32) (100 : Int32) (46 : Int32) (46 : Int32) (46 : Int32)) fun q385 => cnd (q385.1 = (0 : Int32)) (fL_globs_450 q385.2) (bnd (fX7_addFile q385.2 (3 : Int32)) fun q393 => sw q393.1 (fun v393 => cnd (v393 = (1 : Int32)) (bnd (fL_text q393.2 (101 : Int32) (46 : Int32) (46 : Int32) (46 : Int32) (46 : Int32) (46 : Int32) (46 : Int32) (46 : Int32)) fun q417 => cnd (q417.1 = (0 : Int32)) (fL_globs_450 q417.2) (bnd (fX7_addFile q417.2 (4 : Int32)) fun q425 => sw q425.1 (fun v425 => cnd (v425 = (2 : Int32)) (cnd ((fX7_files q425.2) = (7 : Int32)) (bnd (fX7_changed q425.2) fun q442 => cnd (q442 = (7 : Int32)) (fL_globs_452 q425.2) (fL_globs_450 q425.2)) (fL_globs_450 q425.2)) (fL_globs_450 q425.2)) (fun _ => none))) (fL_globs_450 q393.2)) (fun _ => none))) (fL_globs_450 q353.2)) (fL_globs_450 q353.2)) (fL_globs_450 q343.2)) (fun _ => none)) (fL_globs_450 q327.2))
noncomputable def fL_globs_308 (C_308 : Mem) : Option Int32 := some (0 : Int32)
noncomputable def fL_globs_157 (C_157 : Mem) : Option Int32 := bnd (fL_text C_157 (97 : Int32) (42 : Int32) (46 : Int32) (46 : Int32) (46 : Int32) (46 : Int32) (46 : Int32) (46 : Int32)) fun q174 => cnd (q174.1 = (0 : Int32)) (fL_globs_308 q174.2) (bnd (fL_kind q174.2) fun q181 => cnd (q181 = (2 : Int32)) (bnd (fL_act q174.2 (1 : Int32) (5 : Int32) (0 : Int32)) fun q192 => cnd (q192.1 = (-32 : Int32)) (bnd (fL_text q192.2 (97 : Int32) (42 : Int32) (42 : Int32) (46 : Int32) (46 : Int32) (46 : Int32) (46 : Int32) (46 : Int32)) fun q217 => cnd (q217.1 = (0 : Int32)) (fL_globs_308 q217.2) (bnd (fL_kind q217.2) fun q224 => cnd (q224 = (0 : Int32)) (bnd (fL_text q217.2 (42 : Int32) (42 : Int32) (42 : Int32) (46 : Int32) (46 : Int32) (46 : Int32) (46 : Int32) (46 : Int32)) fun q247 => cnd (q247.1 = (0 : Int32)) (fL_globs_308 q247.2) (bnd (fL_kind q247.2) fun q254 => cnd (q254 = (0 : Int32)) (bnd (fL_text q247.2 (42 : Int32) (97 : Int32) (42 : Int32) (47 : Int32) (42 : Int32) (42 : Int32) (46 : Int32) (46 : Int32)) fun q277 => cnd (q277.1 = (0 : Int32)) (fL_globs_308 q277.2) (bnd (fL_kind q277.2) fun q284 => cnd (q284 = (2 : Int32)) (bnd (fX7_clearText q277.2) fun q292 => cnd (q292.1 = (6 : Int32)) (bnd (fX7_findFile q292.2) fun q301 => cnd (q301 = (-1 : Int32)) (fL_globs_310 q292.2) (fL_globs_308 q292.2)) (fL_globs_308 q292.2)) (fL_globs_308 q277.2))) (fL_globs_308 q247.2))) (fL_globs_308 q217.2))) (fL_globs_308 q192.2)) (fL_globs_308 q174.2))
noncomputable def fL_globs_155 (C_155 : Mem) : Option Int32 := some (0 : Int32)
noncomputable def fL_globs  : Option Int32 := bnd (fX7_clearText C0m) fun q9 => cnd (q9.1 = (0 : Int32)) (bnd (fL_kind q9.2) fun q16 => cnd (q16 = (0 : Int32)) (bnd (fL_text q9.2 (97 : Int32) (46 : Int32) (46 : Int32) (46 : Int32) (46 : Int32) (46 : Int32) (46 : Int32) (46 : Int32)) fun q39 => cnd (q39.1 = (0 : Int32)) (fL_globs_155 q39.2) (bnd (fL_kind q39.2) fun q46 => cnd (q46 = (3 : Int32)) (bnd (fL_text q39.2 (97 : Int32) (47 : Int32) (46 : Int32) (46 : Int32) (46 : Int32) (46 : Int32) (46 : Int32) (46 : Int32)) fun q70 => cnd (q70.1 = (0 : Int32)) (fL_globs_155 q70.2) (bnd (fL_kind q70.2) fun q77 => cnd (q77 = (0 : Int32)) (bnd (fL_act q70.2 (1 : Int32) (5 : Int32) (0 : Int32)) fun q87 => cnd (q87.1 = (-32 : Int32)) (bnd (fL_text q87.2 (47 : Int32) (97 : Int32) (46 : Int32) (46 : Int32) (46 : Int32) (46 : Int32) (46 : Int32) (46 : Int32)) fun q112 => cnd (q112.1 = (0 : Int32)) (fL_globs_155 q112.2) (bnd (fL_kind q112.2) fun q119 => cnd (q119 = (0 : Int32)) (bnd (fL_text q112.2 (97 : Int32) (47 : Int32) (47 : Int32) (98 : Int32) (46 : Int32) (46 : Int32) (46 : Int32) (46 : Int32)) fun q142 => cnd (q142.1 = (0 : Int32)) (fL_globs_155 q142.2) (bnd (fL_kind q142.2) fun q149 => cnd (q149 = (0 : Int32)) (fL_globs_157 q142.2) (fL_globs_155 q142.2))) (fL_globs_155 q112.2))) (fL_globs_155 q87.2)) (fL_globs_155 q70.2))) (fL_globs_155 q39.2))) (fL_globs_155 q9.2)) (fL_globs_155 q9.2)
abbrev rm_L_globs : Room := { frames := 11, cells := 1474, slots := 38844, locals := 232 }
set_option maxRecDepth 100000 in
set_option maxHeartbeats 40000000 in
theorem w_L_globs {p : Program} {l : Launch} {e : Env} {s : State} {m : MethodId} {args : Array Value} {below : List Frame} {meth : Method} {c : Code} {Q : State → Prop} {Γ : gx_G} {M : Mem} (hl0 : l.stackTraces = false) (S : CallFix p m c cL_globs 2 s args TsG RL) (hG : gx_K Γ s)  {y0 : Int32} (hf : fL_globs = some y0) (hret : ∀ (pc : Nat) (ls : Array Slot) (H : Heap) (locs : List Loc) (v : Int32) (cs ss : Nat), va_S (gA Γ) s.heap H locs → narrow .boolean (.int v) = .int v → v = y0 → cs ≤ 1474 → ss ≤ 38844 → decode cL_globs pc = .ok (.ireturn, 1) → W p l e rm_L_globs s m args below meth c H locs cs ss Q (F0 m pc ls [.int v])) : ∀ (cs ss : Nat), cs ≤ 740 → ss ≤ 34440 → ∀ (H : Heap) (locs : List Loc) (ls : Array Slot), gx_W Γ C0m M H → va_S (gA Γ) s.heap H locs → lv_has ls 2 [(0, .ref (Γ.1 0))] → W p l e rm_L_globs s m args below meth c H locs cs ss Q (F0 m 8 ls []) := by
  obtain ⟨hx, hb, hml, hown, hts⟩ := id S
  intro cs ss hcs hss H locs ls hW hS hl
  unfold fL_globs at hf
  refine lv_aload_n hx hb dL_globs_8 rfl (lv_at hl 0 rfl) ?_
  obtain ⟨q9, hq9, hf⟩ := bnd_e hf
  refine gk0_i hS (gv_run (rest := []) S hG hW hS [] (c_X7_clearText l Γ C0m M hq9) pk_X7_clearText ml_L_92 (Nat.le_of_ble_eq_true rfl) rfl rfl rfl rfl ⟨Nat.le_of_ble_eq_true rfl, Nat.le_of_ble_eq_true rfl⟩ rfl hl.1 rfl (Nat.le_of_ble_eq_true rfl) dL_globs_9 ⟨by show cs + 0 ≤ 1474; omega, by show ss + 0 ≤ 38844; omega⟩) (fun H locs hW hS => ?_)
  have J_155 : ∀ (C_155 : Mem) , fL_globs_155 C_155 = some y0 → ∀ (cs ss : Nat), cs ≤ 839 → ss ≤ 35034 → ∀ (H : Heap) (locs : List Loc) (ls : Array Slot), gx_W Γ C_155 M H → va_S (gA Γ) s.heap H locs → lv_has ls 2 [] → W p l e rm_L_globs s m args below meth c H locs cs ss Q (F0 m 155 ls []) := by
    intro C_155 hf cs ss hcs hss H locs ls hW hS hl
    unfold fL_globs_155 at hf
    refine lv_iconst (v := (0 : Int32)) hx hb dL_globs_155 (by decide) ?_
    have e9 := Option.some.inj hf
    exact hret _ _ _ _ _ _ _ hS rfl e9 (by show cs ≤ 1474; omega) (by show ss ≤ 38844; omega) dL_globs_156
  refine lv_if_ne (tgt := 155) hx hb dL_globs_12 (by decide) (fun c12 => ?_) (fun c12 => ?_)
  · have hf := cn_f c12 hf
    exact J_155 q9.2 hf cs ss (by omega) (by omega) H locs ls hW hS (lv_sub hl [] rfl)
  · have hf := cn_t c12 hf
    refine lv_aload_n hx hb dL_globs_15 rfl (lv_at hl 0 rfl) ?_
    obtain ⟨q16, hq16, hf⟩ := bnd_e hf
    refine gk0_i hS (gs_run (rest := []) S hG hW hS [.ref (Γ.1 0)] (c_L_kind l Γ q9.2 M hq16) pk_L_kind ml_L_117 rfl rfl ⟨Nat.le_of_ble_eq_true rfl, Nat.le_of_ble_eq_true rfl⟩ rfl hl.1 rfl (Nat.le_of_ble_eq_true rfl) dL_globs_16 ⟨by show cs + 0 ≤ 1474; omega, by show ss + 0 ≤ 38844; omega⟩) (fun H locs hW hS => ?_)
    refine lv_if_ne (tgt := 155) hx hb dL_globs_19 (by decide) (fun c19 => ?_) (fun c19 => ?_)
    · have hf := cn_f c19 hf
      exact J_155 q9.2 hf cs ss (by omega) (by omega) H locs ls hW hS (lv_sub hl [] rfl)
    · have hf := cn_t c19 hf
      refine lv_aload_n hx hb dL_globs_22 rfl (lv_at hl 0 rfl) ?_
      refine lv_bipush (v := (97 : Int32)) hx hb dL_globs_23 (by decide) ?_
      refine lv_bipush (v := (46 : Int32)) hx hb dL_globs_25 (by decide) ?_
      refine lv_bipush (v := (46 : Int32)) hx hb dL_globs_27 (by decide) ?_
      refine lv_bipush (v := (46 : Int32)) hx hb dL_globs_29 (by decide) ?_
      refine lv_bipush (v := (46 : Int32)) hx hb dL_globs_31 (by decide) ?_
      refine lv_bipush (v := (46 : Int32)) hx hb dL_globs_33 (by decide) ?_
      refine lv_bipush (v := (46 : Int32)) hx hb dL_globs_35 (by decide) ?_
      refine lv_bipush (v := (46 : Int32)) hx hb dL_globs_37 (by decide) ?_
      obtain ⟨q39, hq39, hf⟩ := bnd_e hf
      refine gk_i hS (gs_run (rest := []) S hG hW hS [.ref (Γ.1 0), .int (97 : Int32), .int (46 : Int32), .int (46 : Int32), .int (46 : Int32), .int (46 : Int32), .int (46 : Int32), .int (46 : Int32), .int (46 : Int32)] (c_L_text l hl0 Γ q9.2 M (97 : Int32) (46 : Int32) (46 : Int32) (46 : Int32) (46 : Int32) (46 : Int32) (46 : Int32) (46 : Int32) hq39) pk_L_text ml_L_121 rfl rfl ⟨Nat.le_of_ble_eq_true rfl, Nat.le_of_ble_eq_true rfl⟩ rfl hl.1 rfl (Nat.le_of_ble_eq_true rfl) dL_globs_39 ⟨by show cs + 24 ≤ 1474; omega, by show ss + 144 ≤ 38844; omega⟩) (fun H locs hW hS => ?_)
      refine lv_if_eq (tgt := 155) hx hb dL_globs_42 (by decide) (fun c42 => ?_) (fun c42 => ?_)
      · have hf := cn_t c42 hf
        exact J_155 q39.2 hf (cs + 24) (ss + 144) (by omega) (by omega) H locs ls hW hS (lv_sub hl [] rfl)
      · have hf := cn_f c42 hf
        refine lv_aload_n hx hb dL_globs_45 rfl (lv_at hl 0 rfl) ?_
        obtain ⟨q46, hq46, hf⟩ := bnd_e hf
        refine gk0_i hS (gs_run (rest := []) S hG hW hS [.ref (Γ.1 0)] (c_L_kind l Γ q39.2 M hq46) pk_L_kind ml_L_117 rfl rfl ⟨Nat.le_of_ble_eq_true rfl, Nat.le_of_ble_eq_true rfl⟩ rfl hl.1 rfl (Nat.le_of_ble_eq_true rfl) dL_globs_46 ⟨by show (cs + 24) + 0 ≤ 1474; omega, by show (ss + 144) + 0 ≤ 38844; omega⟩) (fun H locs hW hS => ?_)
        refine lv_iconst (v := (3 : Int32)) hx hb dL_globs_49 (by decide) ?_
        refine lv_icmp_ne (tgt := 155) hx hb dL_globs_50 (by decide) (fun c50 => ?_) (fun c50 => ?_)
        · have hf := cn_f c50 hf
          exact J_155 q39.2 hf (cs + 24) (ss + 144) (by omega) (by omega) H locs ls hW hS (lv_sub hl [] rfl)
        · have hf := cn_t c50 hf
          refine lv_aload_n hx hb dL_globs_53 rfl (lv_at hl 0 rfl) ?_
          refine lv_bipush (v := (97 : Int32)) hx hb dL_globs_54 (by decide) ?_
          refine lv_bipush (v := (47 : Int32)) hx hb dL_globs_56 (by decide) ?_
          refine lv_bipush (v := (46 : Int32)) hx hb dL_globs_58 (by decide) ?_
          refine lv_bipush (v := (46 : Int32)) hx hb dL_globs_60 (by decide) ?_
          refine lv_bipush (v := (46 : Int32)) hx hb dL_globs_62 (by decide) ?_
          refine lv_bipush (v := (46 : Int32)) hx hb dL_globs_64 (by decide) ?_
          refine lv_bipush (v := (46 : Int32)) hx hb dL_globs_66 (by decide) ?_
          refine lv_bipush (v := (46 : Int32)) hx hb dL_globs_68 (by decide) ?_
          obtain ⟨q70, hq70, hf⟩ := bnd_e hf
          refine gk_i hS (gs_run (rest := []) S hG hW hS [.ref (Γ.1 0), .int (97 : Int32), .int (47 : Int32), .int (46 : Int32), .int (46 : Int32), .int (46 : Int32), .int (46 : Int32), .int (46 : Int32), .int (46 : Int32)] (c_L_text l hl0 Γ q39.2 M (97 : Int32) (47 : Int32) (46 : Int32) (46 : Int32) (46 : Int32) (46 : Int32) (46 : Int32) (46 : Int32) hq70) pk_L_text ml_L_121 rfl rfl ⟨Nat.le_of_ble_eq_true rfl, Nat.le_of_ble_eq_true rfl⟩ rfl hl.1 rfl (Nat.le_of_ble_eq_true rfl) dL_globs_70 ⟨by show (cs + 24) + 24 ≤ 1474; omega, by show (ss + 144) + 144 ≤ 38844; omega⟩) (fun H locs hW hS => ?_)
          refine lv_if_eq (tgt := 155) hx hb dL_globs_73 (by decide) (fun c73 => ?_) (fun c73 => ?_)
          · have hf := cn_t c73 hf
            exact J_155 q70.2 hf (cs + 48) (ss + 288) (by omega) (by omega) H locs ls hW hS (lv_sub hl [] rfl)
          · have hf := cn_f c73 hf
            refine lv_aload_n hx hb dL_globs_76 rfl (lv_at hl 0 rfl) ?_
            obtain ⟨q77, hq77, hf⟩ := bnd_e hf
            refine gk0_i hS (gs_run (rest := []) S hG hW hS [.ref (Γ.1 0)] (c_L_kind l Γ q70.2 M hq77) pk_L_kind ml_L_117 rfl rfl ⟨Nat.le_of_ble_eq_true rfl, Nat.le_of_ble_eq_true rfl⟩ rfl hl.1 rfl (Nat.le_of_ble_eq_true rfl) dL_globs_77 ⟨by show (cs + 48) + 0 ≤ 1474; omega, by show (ss + 288) + 0 ≤ 38844; omega⟩) (fun H locs hW hS => ?_)
            refine lv_if_ne (tgt := 155) hx hb dL_globs_80 (by decide) (fun c80 => ?_) (fun c80 => ?_)
            · have hf := cn_f c80 hf
              exact J_155 q70.2 hf (cs + 48) (ss + 288) (by omega) (by omega) H locs ls hW hS (lv_sub hl [] rfl)
            · have hf := cn_t c80 hf
              refine lv_aload_n hx hb dL_globs_83 rfl (lv_at hl 0 rfl) ?_
              refine lv_iconst (v := (1 : Int32)) hx hb dL_globs_84 (by decide) ?_
              refine lv_iconst (v := (5 : Int32)) hx hb dL_globs_85 (by decide) ?_
              refine lv_iconst (v := (0 : Int32)) hx hb dL_globs_86 (by decide) ?_
              obtain ⟨q87, hq87, hf⟩ := bnd_e hf
              refine gk_i hS (gsw_run (rest := []) S hG hW hS [.ref (Γ.1 0), .int (1 : Int32), .int (5 : Int32), .int (0 : Int32)] (c_L_act l hl0 Γ q70.2 M (1 : Int32) (5 : Int32) (0 : Int32) hq87) pk_L_act ml_L_86 rfl rfl ⟨Nat.le_of_ble_eq_true rfl, Nat.le_of_ble_eq_true rfl⟩ rfl hl.1 rfl (Nat.le_of_ble_eq_true rfl) dL_globs_87 ⟨by show (cs + 48) + 3 ≤ 1474; omega, by show (ss + 288) + 18 ≤ 38844; omega⟩) (fun H locs hW hS => ?_)
              refine lv_bipush (v := (-32 : Int32)) hx hb dL_globs_90 (by decide) ?_
              refine lv_icmp_ne (tgt := 155) hx hb dL_globs_92 (by decide) (fun c92 => ?_) (fun c92 => ?_)
              · have hf := cn_f c92 hf
                exact J_155 q87.2 hf (cs + 51) (ss + 306) (by omega) (by omega) H locs ls hW hS (lv_sub hl [] rfl)
              · have hf := cn_t c92 hf
                refine lv_aload_n hx hb dL_globs_95 rfl (lv_at hl 0 rfl) ?_
                refine lv_bipush (v := (47 : Int32)) hx hb dL_globs_96 (by decide) ?_
                refine lv_bipush (v := (97 : Int32)) hx hb dL_globs_98 (by decide) ?_
                refine lv_bipush (v := (46 : Int32)) hx hb dL_globs_100 (by decide) ?_
                refine lv_bipush (v := (46 : Int32)) hx hb dL_globs_102 (by decide) ?_
                refine lv_bipush (v := (46 : Int32)) hx hb dL_globs_104 (by decide) ?_
                refine lv_bipush (v := (46 : Int32)) hx hb dL_globs_106 (by decide) ?_
                refine lv_bipush (v := (46 : Int32)) hx hb dL_globs_108 (by decide) ?_
                refine lv_bipush (v := (46 : Int32)) hx hb dL_globs_110 (by decide) ?_
                obtain ⟨q112, hq112, hf⟩ := bnd_e hf
                refine gk_i hS (gs_run (rest := []) S hG hW hS [.ref (Γ.1 0), .int (47 : Int32), .int (97 : Int32), .int (46 : Int32), .int (46 : Int32), .int (46 : Int32), .int (46 : Int32), .int (46 : Int32), .int (46 : Int32)] (c_L_text l hl0 Γ q87.2 M (47 : Int32) (97 : Int32) (46 : Int32) (46 : Int32) (46 : Int32) (46 : Int32) (46 : Int32) (46 : Int32) hq112) pk_L_text ml_L_121 rfl rfl ⟨Nat.le_of_ble_eq_true rfl, Nat.le_of_ble_eq_true rfl⟩ rfl hl.1 rfl (Nat.le_of_ble_eq_true rfl) dL_globs_112 ⟨by show (cs + 51) + 24 ≤ 1474; omega, by show (ss + 306) + 144 ≤ 38844; omega⟩) (fun H locs hW hS => ?_)
                refine lv_if_eq (tgt := 155) hx hb dL_globs_115 (by decide) (fun c115 => ?_) (fun c115 => ?_)
                · have hf := cn_t c115 hf
                  exact J_155 q112.2 hf (cs + 75) (ss + 450) (by omega) (by omega) H locs ls hW hS (lv_sub hl [] rfl)
                · have hf := cn_f c115 hf
                  refine lv_aload_n hx hb dL_globs_118 rfl (lv_at hl 0 rfl) ?_
                  obtain ⟨q119, hq119, hf⟩ := bnd_e hf
                  refine gk0_i hS (gs_run (rest := []) S hG hW hS [.ref (Γ.1 0)] (c_L_kind l Γ q112.2 M hq119) pk_L_kind ml_L_117 rfl rfl ⟨Nat.le_of_ble_eq_true rfl, Nat.le_of_ble_eq_true rfl⟩ rfl hl.1 rfl (Nat.le_of_ble_eq_true rfl) dL_globs_119 ⟨by show (cs + 75) + 0 ≤ 1474; omega, by show (ss + 450) + 0 ≤ 38844; omega⟩) (fun H locs hW hS => ?_)
                  refine lv_if_ne (tgt := 155) hx hb dL_globs_122 (by decide) (fun c122 => ?_) (fun c122 => ?_)
                  · have hf := cn_f c122 hf
                    exact J_155 q112.2 hf (cs + 75) (ss + 450) (by omega) (by omega) H locs ls hW hS (lv_sub hl [] rfl)
                  · have hf := cn_t c122 hf
                    refine lv_aload_n hx hb dL_globs_125 rfl (lv_at hl 0 rfl) ?_
                    refine lv_bipush (v := (97 : Int32)) hx hb dL_globs_126 (by decide) ?_
                    refine lv_bipush (v := (47 : Int32)) hx hb dL_globs_128 (by decide) ?_
                    refine lv_bipush (v := (47 : Int32)) hx hb dL_globs_130 (by decide) ?_
                    refine lv_bipush (v := (98 : Int32)) hx hb dL_globs_132 (by decide) ?_
                    refine lv_bipush (v := (46 : Int32)) hx hb dL_globs_134 (by decide) ?_
                    refine lv_bipush (v := (46 : Int32)) hx hb dL_globs_136 (by decide) ?_
                    refine lv_bipush (v := (46 : Int32)) hx hb dL_globs_138 (by decide) ?_
                    refine lv_bipush (v := (46 : Int32)) hx hb dL_globs_140 (by decide) ?_
                    obtain ⟨q142, hq142, hf⟩ := bnd_e hf
                    refine gk_i hS (gs_run (rest := []) S hG hW hS [.ref (Γ.1 0), .int (97 : Int32), .int (47 : Int32), .int (47 : Int32), .int (98 : Int32), .int (46 : Int32), .int (46 : Int32), .int (46 : Int32), .int (46 : Int32)] (c_L_text l hl0 Γ q112.2 M (97 : Int32) (47 : Int32) (47 : Int32) (98 : Int32) (46 : Int32) (46 : Int32) (46 : Int32) (46 : Int32) hq142) pk_L_text ml_L_121 rfl rfl ⟨Nat.le_of_ble_eq_true rfl, Nat.le_of_ble_eq_true rfl⟩ rfl hl.1 rfl (Nat.le_of_ble_eq_true rfl) dL_globs_142 ⟨by show (cs + 75) + 24 ≤ 1474; omega, by show (ss + 450) + 144 ≤ 38844; omega⟩) (fun H locs hW hS => ?_)
                    refine lv_if_eq (tgt := 155) hx hb dL_globs_145 (by decide) (fun c145 => ?_) (fun c145 => ?_)
                    · have hf := cn_t c145 hf
                      exact J_155 q142.2 hf (cs + 99) (ss + 594) (by omega) (by omega) H locs ls hW hS (lv_sub hl [] rfl)
                    · have hf := cn_f c145 hf
                      refine lv_aload_n hx hb dL_globs_148 rfl (lv_at hl 0 rfl) ?_
                      obtain ⟨q149, hq149, hf⟩ := bnd_e hf
                      refine gk0_i hS (gs_run (rest := []) S hG hW hS [.ref (Γ.1 0)] (c_L_kind l Γ q142.2 M hq149) pk_L_kind ml_L_117 rfl rfl ⟨Nat.le_of_ble_eq_true rfl, Nat.le_of_ble_eq_true rfl⟩ rfl hl.1 rfl (Nat.le_of_ble_eq_true rfl) dL_globs_149 ⟨by show (cs + 99) + 0 ≤ 1474; omega, by show (ss + 594) + 0 ≤ 38844; omega⟩) (fun H locs hW hS => ?_)
                      have J_157 : ∀ (C_157 : Mem) , fL_globs_157 C_157 = some y0 → ∀ (cs ss : Nat), cs ≤ 839 → ss ≤ 35034 → ∀ (H : Heap) (locs : List Loc) (ls : Array Slot), gx_W Γ C_157 M H → va_S (gA Γ) s.heap H locs → lv_has ls 2 [(0, .ref (Γ.1 0))] → W p l e rm_L_globs s m args below meth c H locs cs ss Q (F0 m 157 ls []) := by
                        intro C_157 hf cs ss hcs hss H locs ls hW hS hl
                        unfold fL_globs_157 at hf
                        refine lv_aload_n hx hb dL_globs_157 rfl (lv_at hl 0 rfl) ?_
                        refine lv_bipush (v := (97 : Int32)) hx hb dL_globs_158 (by decide) ?_
                        refine lv_bipush (v := (42 : Int32)) hx hb dL_globs_160 (by decide) ?_
                        refine lv_bipush (v := (46 : Int32)) hx hb dL_globs_162 (by decide) ?_
                        refine lv_bipush (v := (46 : Int32)) hx hb dL_globs_164 (by decide) ?_
                        refine lv_bipush (v := (46 : Int32)) hx hb dL_globs_166 (by decide) ?_
                        refine lv_bipush (v := (46 : Int32)) hx hb dL_globs_168 (by decide) ?_
                        refine lv_bipush (v := (46 : Int32)) hx hb dL_globs_170 (by decide) ?_
                        refine lv_bipush (v := (46 : Int32)) hx hb dL_globs_172 (by decide) ?_
                        obtain ⟨q174, hq174, hf⟩ := bnd_e hf
                        refine gk_i hS (gs_run (rest := []) S hG hW hS [.ref (Γ.1 0), .int (97 : Int32), .int (42 : Int32), .int (46 : Int32), .int (46 : Int32), .int (46 : Int32), .int (46 : Int32), .int (46 : Int32), .int (46 : Int32)] (c_L_text l hl0 Γ C_157 M (97 : Int32) (42 : Int32) (46 : Int32) (46 : Int32) (46 : Int32) (46 : Int32) (46 : Int32) (46 : Int32) hq174) pk_L_text ml_L_121 rfl rfl ⟨Nat.le_of_ble_eq_true rfl, Nat.le_of_ble_eq_true rfl⟩ rfl hl.1 rfl (Nat.le_of_ble_eq_true rfl) dL_globs_174 ⟨by show cs + 24 ≤ 1474; omega, by show ss + 144 ≤ 38844; omega⟩) (fun H locs hW hS => ?_)
                        have J_308 : ∀ (C_308 : Mem) , fL_globs_308 C_308 = some y0 → ∀ (cs ss : Nat), cs ≤ 938 → ss ≤ 35628 → ∀ (H : Heap) (locs : List Loc) (ls : Array Slot), gx_W Γ C_308 M H → va_S (gA Γ) s.heap H locs → lv_has ls 2 [] → W p l e rm_L_globs s m args below meth c H locs cs ss Q (F0 m 308 ls []) := by
                          intro C_308 hf cs ss hcs hss H locs ls hW hS hl
                          unfold fL_globs_308 at hf
                          refine lv_iconst (v := (0 : Int32)) hx hb dL_globs_308 (by decide) ?_
                          have e9 := Option.some.inj hf
                          exact hret _ _ _ _ _ _ _ hS rfl e9 (by show cs ≤ 1474; omega) (by show ss ≤ 38844; omega) dL_globs_309
                        refine lv_if_eq (tgt := 308) hx hb dL_globs_177 (by decide) (fun c177 => ?_) (fun c177 => ?_)
                        · have hf := cn_t c177 hf
                          exact J_308 q174.2 hf (cs + 24) (ss + 144) (by omega) (by omega) H locs ls hW hS (lv_sub hl [] rfl)
                        · have hf := cn_f c177 hf
                          refine lv_aload_n hx hb dL_globs_180 rfl (lv_at hl 0 rfl) ?_
                          obtain ⟨q181, hq181, hf⟩ := bnd_e hf
                          refine gk0_i hS (gs_run (rest := []) S hG hW hS [.ref (Γ.1 0)] (c_L_kind l Γ q174.2 M hq181) pk_L_kind ml_L_117 rfl rfl ⟨Nat.le_of_ble_eq_true rfl, Nat.le_of_ble_eq_true rfl⟩ rfl hl.1 rfl (Nat.le_of_ble_eq_true rfl) dL_globs_181 ⟨by show (cs + 24) + 0 ≤ 1474; omega, by show (ss + 144) + 0 ≤ 38844; omega⟩) (fun H locs hW hS => ?_)
                          refine lv_iconst (v := (2 : Int32)) hx hb dL_globs_184 (by decide) ?_
                          refine lv_icmp_ne (tgt := 308) hx hb dL_globs_185 (by decide) (fun c185 => ?_) (fun c185 => ?_)
                          · have hf := cn_f c185 hf
                            exact J_308 q174.2 hf (cs + 24) (ss + 144) (by omega) (by omega) H locs ls hW hS (lv_sub hl [] rfl)
                          · have hf := cn_t c185 hf
                            refine lv_aload_n hx hb dL_globs_188 rfl (lv_at hl 0 rfl) ?_
                            refine lv_iconst (v := (1 : Int32)) hx hb dL_globs_189 (by decide) ?_
                            refine lv_iconst (v := (5 : Int32)) hx hb dL_globs_190 (by decide) ?_
                            refine lv_iconst (v := (0 : Int32)) hx hb dL_globs_191 (by decide) ?_
                            obtain ⟨q192, hq192, hf⟩ := bnd_e hf
                            refine gk_i hS (gsw_run (rest := []) S hG hW hS [.ref (Γ.1 0), .int (1 : Int32), .int (5 : Int32), .int (0 : Int32)] (c_L_act l hl0 Γ q174.2 M (1 : Int32) (5 : Int32) (0 : Int32) hq192) pk_L_act ml_L_86 rfl rfl ⟨Nat.le_of_ble_eq_true rfl, Nat.le_of_ble_eq_true rfl⟩ rfl hl.1 rfl (Nat.le_of_ble_eq_true rfl) dL_globs_192 ⟨by show (cs + 24) + 3 ≤ 1474; omega, by show (ss + 144) + 18 ≤ 38844; omega⟩) (fun H locs hW hS => ?_)
                            refine lv_bipush (v := (-32 : Int32)) hx hb dL_globs_195 (by decide) ?_
                            refine lv_icmp_ne (tgt := 308) hx hb dL_globs_197 (by decide) (fun c197 => ?_) (fun c197 => ?_)
                            · have hf := cn_f c197 hf
                              exact J_308 q192.2 hf (cs + 27) (ss + 162) (by omega) (by omega) H locs ls hW hS (lv_sub hl [] rfl)
                            · have hf := cn_t c197 hf
                              refine lv_aload_n hx hb dL_globs_200 rfl (lv_at hl 0 rfl) ?_
                              refine lv_bipush (v := (97 : Int32)) hx hb dL_globs_201 (by decide) ?_
                              refine lv_bipush (v := (42 : Int32)) hx hb dL_globs_203 (by decide) ?_
                              refine lv_bipush (v := (42 : Int32)) hx hb dL_globs_205 (by decide) ?_
                              refine lv_bipush (v := (46 : Int32)) hx hb dL_globs_207 (by decide) ?_
                              refine lv_bipush (v := (46 : Int32)) hx hb dL_globs_209 (by decide) ?_
                              refine lv_bipush (v := (46 : Int32)) hx hb dL_globs_211 (by decide) ?_
                              refine lv_bipush (v := (46 : Int32)) hx hb dL_globs_213 (by decide) ?_
                              refine lv_bipush (v := (46 : Int32)) hx hb dL_globs_215 (by decide) ?_
                              obtain ⟨q217, hq217, hf⟩ := bnd_e hf
                              refine gk_i hS (gs_run (rest := []) S hG hW hS [.ref (Γ.1 0), .int (97 : Int32), .int (42 : Int32), .int (42 : Int32), .int (46 : Int32), .int (46 : Int32), .int (46 : Int32), .int (46 : Int32), .int (46 : Int32)] (c_L_text l hl0 Γ q192.2 M (97 : Int32) (42 : Int32) (42 : Int32) (46 : Int32) (46 : Int32) (46 : Int32) (46 : Int32) (46 : Int32) hq217) pk_L_text ml_L_121 rfl rfl ⟨Nat.le_of_ble_eq_true rfl, Nat.le_of_ble_eq_true rfl⟩ rfl hl.1 rfl (Nat.le_of_ble_eq_true rfl) dL_globs_217 ⟨by show (cs + 27) + 24 ≤ 1474; omega, by show (ss + 162) + 144 ≤ 38844; omega⟩) (fun H locs hW hS => ?_)
                              refine lv_if_eq (tgt := 308) hx hb dL_globs_220 (by decide) (fun c220 => ?_) (fun c220 => ?_)
                              · have hf := cn_t c220 hf
                                exact J_308 q217.2 hf (cs + 51) (ss + 306) (by omega) (by omega) H locs ls hW hS (lv_sub hl [] rfl)
                              · have hf := cn_f c220 hf
                                refine lv_aload_n hx hb dL_globs_223 rfl (lv_at hl 0 rfl) ?_
                                obtain ⟨q224, hq224, hf⟩ := bnd_e hf
                                refine gk0_i hS (gs_run (rest := []) S hG hW hS [.ref (Γ.1 0)] (c_L_kind l Γ q217.2 M hq224) pk_L_kind ml_L_117 rfl rfl ⟨Nat.le_of_ble_eq_true rfl, Nat.le_of_ble_eq_true rfl⟩ rfl hl.1 rfl (Nat.le_of_ble_eq_true rfl) dL_globs_224 ⟨by show (cs + 51) + 0 ≤ 1474; omega, by show (ss + 306) + 0 ≤ 38844; omega⟩) (fun H locs hW hS => ?_)
                                refine lv_if_ne (tgt := 308) hx hb dL_globs_227 (by decide) (fun c227 => ?_) (fun c227 => ?_)
                                · have hf := cn_f c227 hf
                                  exact J_308 q217.2 hf (cs + 51) (ss + 306) (by omega) (by omega) H locs ls hW hS (lv_sub hl [] rfl)
                                · have hf := cn_t c227 hf
                                  refine lv_aload_n hx hb dL_globs_230 rfl (lv_at hl 0 rfl) ?_
                                  refine lv_bipush (v := (42 : Int32)) hx hb dL_globs_231 (by decide) ?_
                                  refine lv_bipush (v := (42 : Int32)) hx hb dL_globs_233 (by decide) ?_
                                  refine lv_bipush (v := (42 : Int32)) hx hb dL_globs_235 (by decide) ?_
                                  refine lv_bipush (v := (46 : Int32)) hx hb dL_globs_237 (by decide) ?_
                                  refine lv_bipush (v := (46 : Int32)) hx hb dL_globs_239 (by decide) ?_
                                  refine lv_bipush (v := (46 : Int32)) hx hb dL_globs_241 (by decide) ?_
                                  refine lv_bipush (v := (46 : Int32)) hx hb dL_globs_243 (by decide) ?_
                                  refine lv_bipush (v := (46 : Int32)) hx hb dL_globs_245 (by decide) ?_
                                  obtain ⟨q247, hq247, hf⟩ := bnd_e hf
                                  refine gk_i hS (gs_run (rest := []) S hG hW hS [.ref (Γ.1 0), .int (42 : Int32), .int (42 : Int32), .int (42 : Int32), .int (46 : Int32), .int (46 : Int32), .int (46 : Int32), .int (46 : Int32), .int (46 : Int32)] (c_L_text l hl0 Γ q217.2 M (42 : Int32) (42 : Int32) (42 : Int32) (46 : Int32) (46 : Int32) (46 : Int32) (46 : Int32) (46 : Int32) hq247) pk_L_text ml_L_121 rfl rfl ⟨Nat.le_of_ble_eq_true rfl, Nat.le_of_ble_eq_true rfl⟩ rfl hl.1 rfl (Nat.le_of_ble_eq_true rfl) dL_globs_247 ⟨by show (cs + 51) + 24 ≤ 1474; omega, by show (ss + 306) + 144 ≤ 38844; omega⟩) (fun H locs hW hS => ?_)
                                  refine lv_if_eq (tgt := 308) hx hb dL_globs_250 (by decide) (fun c250 => ?_) (fun c250 => ?_)
                                  · have hf := cn_t c250 hf
                                    exact J_308 q247.2 hf (cs + 75) (ss + 450) (by omega) (by omega) H locs ls hW hS (lv_sub hl [] rfl)
                                  · have hf := cn_f c250 hf
                                    refine lv_aload_n hx hb dL_globs_253 rfl (lv_at hl 0 rfl) ?_
                                    obtain ⟨q254, hq254, hf⟩ := bnd_e hf
                                    refine gk0_i hS (gs_run (rest := []) S hG hW hS [.ref (Γ.1 0)] (c_L_kind l Γ q247.2 M hq254) pk_L_kind ml_L_117 rfl rfl ⟨Nat.le_of_ble_eq_true rfl, Nat.le_of_ble_eq_true rfl⟩ rfl hl.1 rfl (Nat.le_of_ble_eq_true rfl) dL_globs_254 ⟨by show (cs + 75) + 0 ≤ 1474; omega, by show (ss + 450) + 0 ≤ 38844; omega⟩) (fun H locs hW hS => ?_)
                                    refine lv_if_ne (tgt := 308) hx hb dL_globs_257 (by decide) (fun c257 => ?_) (fun c257 => ?_)
                                    · have hf := cn_f c257 hf
                                      exact J_308 q247.2 hf (cs + 75) (ss + 450) (by omega) (by omega) H locs ls hW hS (lv_sub hl [] rfl)
                                    · have hf := cn_t c257 hf
                                      refine lv_aload_n hx hb dL_globs_260 rfl (lv_at hl 0 rfl) ?_
                                      refine lv_bipush (v := (42 : Int32)) hx hb dL_globs_261 (by decide) ?_
                                      refine lv_bipush (v := (97 : Int32)) hx hb dL_globs_263 (by decide) ?_
                                      refine lv_bipush (v := (42 : Int32)) hx hb dL_globs_265 (by decide) ?_
                                      refine lv_bipush (v := (47 : Int32)) hx hb dL_globs_267 (by decide) ?_
                                      refine lv_bipush (v := (42 : Int32)) hx hb dL_globs_269 (by decide) ?_
                                      refine lv_bipush (v := (42 : Int32)) hx hb dL_globs_271 (by decide) ?_
                                      refine lv_bipush (v := (46 : Int32)) hx hb dL_globs_273 (by decide) ?_
                                      refine lv_bipush (v := (46 : Int32)) hx hb dL_globs_275 (by decide) ?_
                                      obtain ⟨q277, hq277, hf⟩ := bnd_e hf
                                      refine gk_i hS (gs_run (rest := []) S hG hW hS [.ref (Γ.1 0), .int (42 : Int32), .int (97 : Int32), .int (42 : Int32), .int (47 : Int32), .int (42 : Int32), .int (42 : Int32), .int (46 : Int32), .int (46 : Int32)] (c_L_text l hl0 Γ q247.2 M (42 : Int32) (97 : Int32) (42 : Int32) (47 : Int32) (42 : Int32) (42 : Int32) (46 : Int32) (46 : Int32) hq277) pk_L_text ml_L_121 rfl rfl ⟨Nat.le_of_ble_eq_true rfl, Nat.le_of_ble_eq_true rfl⟩ rfl hl.1 rfl (Nat.le_of_ble_eq_true rfl) dL_globs_277 ⟨by show (cs + 75) + 24 ≤ 1474; omega, by show (ss + 450) + 144 ≤ 38844; omega⟩) (fun H locs hW hS => ?_)
                                      refine lv_if_eq (tgt := 308) hx hb dL_globs_280 (by decide) (fun c280 => ?_) (fun c280 => ?_)
                                      · have hf := cn_t c280 hf
                                        exact J_308 q277.2 hf (cs + 99) (ss + 594) (by omega) (by omega) H locs ls hW hS (lv_sub hl [] rfl)
                                      · have hf := cn_f c280 hf
                                        refine lv_aload_n hx hb dL_globs_283 rfl (lv_at hl 0 rfl) ?_
                                        obtain ⟨q284, hq284, hf⟩ := bnd_e hf
                                        refine gk0_i hS (gs_run (rest := []) S hG hW hS [.ref (Γ.1 0)] (c_L_kind l Γ q277.2 M hq284) pk_L_kind ml_L_117 rfl rfl ⟨Nat.le_of_ble_eq_true rfl, Nat.le_of_ble_eq_true rfl⟩ rfl hl.1 rfl (Nat.le_of_ble_eq_true rfl) dL_globs_284 ⟨by show (cs + 99) + 0 ≤ 1474; omega, by show (ss + 594) + 0 ≤ 38844; omega⟩) (fun H locs hW hS => ?_)
                                        refine lv_iconst (v := (2 : Int32)) hx hb dL_globs_287 (by decide) ?_
                                        refine lv_icmp_ne (tgt := 308) hx hb dL_globs_288 (by decide) (fun c288 => ?_) (fun c288 => ?_)
                                        · have hf := cn_f c288 hf
                                          exact J_308 q277.2 hf (cs + 99) (ss + 594) (by omega) (by omega) H locs ls hW hS (lv_sub hl [] rfl)
                                        · have hf := cn_t c288 hf
                                          refine lv_aload_n hx hb dL_globs_291 rfl (lv_at hl 0 rfl) ?_
                                          obtain ⟨q292, hq292, hf⟩ := bnd_e hf
                                          refine gk0_i hS (gv_run (rest := []) S hG hW hS [] (c_X7_clearText l Γ q277.2 M hq292) pk_X7_clearText ml_L_92 (Nat.le_of_ble_eq_true rfl) rfl rfl rfl rfl ⟨Nat.le_of_ble_eq_true rfl, Nat.le_of_ble_eq_true rfl⟩ rfl hl.1 rfl (Nat.le_of_ble_eq_true rfl) dL_globs_292 ⟨by show (cs + 99) + 0 ≤ 1474; omega, by show (ss + 594) + 0 ≤ 38844; omega⟩) (fun H locs hW hS => ?_)
                                          refine lv_bipush (v := (6 : Int32)) hx hb dL_globs_295 (by decide) ?_
                                          refine lv_icmp_ne (tgt := 308) hx hb dL_globs_297 (by decide) (fun c297 => ?_) (fun c297 => ?_)
                                          · have hf := cn_f c297 hf
                                            exact J_308 q292.2 hf (cs + 99) (ss + 594) (by omega) (by omega) H locs ls hW hS (lv_sub hl [] rfl)
                                          · have hf := cn_t c297 hf
                                            refine lv_aload_n hx hb dL_globs_300 rfl (lv_at hl 0 rfl) ?_
                                            obtain ⟨q301, hq301, hf⟩ := bnd_e hf
                                            refine gk0_i hS (gv_run (rest := []) S hG hW hS [] (c_X7_findFile l Γ q292.2 M hq301) pk_X7_findFile ml_L_125 (Nat.le_of_ble_eq_true rfl) rfl rfl rfl rfl ⟨Nat.le_of_ble_eq_true rfl, Nat.le_of_ble_eq_true rfl⟩ rfl hl.1 rfl (Nat.le_of_ble_eq_true rfl) dL_globs_301 ⟨by show (cs + 99) + 0 ≤ 1474; omega, by show (ss + 594) + 0 ≤ 38844; omega⟩) (fun H locs hW hS => ?_)
                                            refine lv_iconst (v := (-1 : Int32)) hx hb dL_globs_304 (by decide) ?_
                                            have J_310 : ∀ (C_310 : Mem) , fL_globs_310 C_310 = some y0 → ∀ (cs ss : Nat), cs ≤ 938 → ss ≤ 35628 → ∀ (H : Heap) (locs : List Loc) (ls : Array Slot), gx_W Γ C_310 M H → va_S (gA Γ) s.heap H locs → lv_has ls 2 [(0, .ref (Γ.1 0))] → W p l e rm_L_globs s m args below meth c H locs cs ss Q (F0 m 310 ls []) := by
                                              intro C_310 hf cs ss hcs hss H locs ls hW hS hl
                                              unfold fL_globs_310 at hf
                                              refine lv_aload_n hx hb dL_globs_310 rfl (lv_at hl 0 rfl) ?_
                                              refine lv_bipush (v := (97 : Int32)) hx hb dL_globs_311 (by decide) ?_
                                              refine lv_bipush (v := (47 : Int32)) hx hb dL_globs_313 (by decide) ?_
                                              refine lv_bipush (v := (98 : Int32)) hx hb dL_globs_315 (by decide) ?_
                                              refine lv_bipush (v := (46 : Int32)) hx hb dL_globs_317 (by decide) ?_
                                              refine lv_bipush (v := (46 : Int32)) hx hb dL_globs_319 (by decide) ?_
                                              refine lv_bipush (v := (46 : Int32)) hx hb dL_globs_321 (by decide) ?_
                                              refine lv_bipush (v := (46 : Int32)) hx hb dL_globs_323 (by decide) ?_
                                              refine lv_bipush (v := (46 : Int32)) hx hb dL_globs_325 (by decide) ?_
                                              obtain ⟨q327, hq327, hf⟩ := bnd_e hf
                                              refine gk_i hS (gs_run (rest := []) S hG hW hS [.ref (Γ.1 0), .int (97 : Int32), .int (47 : Int32), .int (98 : Int32), .int (46 : Int32), .int (46 : Int32), .int (46 : Int32), .int (46 : Int32), .int (46 : Int32)] (c_L_text l hl0 Γ C_310 M (97 : Int32) (47 : Int32) (98 : Int32) (46 : Int32) (46 : Int32) (46 : Int32) (46 : Int32) (46 : Int32) hq327) pk_L_text ml_L_121 rfl rfl ⟨Nat.le_of_ble_eq_true rfl, Nat.le_of_ble_eq_true rfl⟩ rfl hl.1 rfl (Nat.le_of_ble_eq_true rfl) dL_globs_327 ⟨by show cs + 24 ≤ 1474; omega, by show ss + 144 ≤ 38844; omega⟩) (fun H locs hW hS => ?_)
                                              have J_450 : ∀ (C_450 : Mem) , fL_globs_450 C_450 = some y0 → ∀ (cs ss : Nat), cs ≤ 1019 → ss ≤ 36114 → ∀ (H : Heap) (locs : List Loc) (ls : Array Slot), gx_W Γ C_450 M H → va_S (gA Γ) s.heap H locs → lv_has ls 2 [] → W p l e rm_L_globs s m args below meth c H locs cs ss Q (F0 m 450 ls []) := by
                                                intro C_450 hf cs ss hcs hss H locs ls hW hS hl
                                                unfold fL_globs_450 at hf
                                                refine lv_iconst (v := (0 : Int32)) hx hb dL_globs_450 (by decide) ?_
                                                have e9 := Option.some.inj hf
                                                exact hret _ _ _ _ _ _ _ hS rfl e9 (by show cs ≤ 1474; omega) (by show ss ≤ 38844; omega) dL_globs_451
                                              refine lv_if_eq (tgt := 450) hx hb dL_globs_330 (by decide) (fun c330 => ?_) (fun c330 => ?_)
                                              · have hf := cn_t c330 hf
                                                exact J_450 q327.2 hf (cs + 24) (ss + 144) (by omega) (by omega) H locs ls hW hS (lv_sub hl [] rfl)
                                              · have hf := cn_f c330 hf
                                                refine lv_aload_n hx hb dL_globs_333 rfl (lv_at hl 0 rfl) ?_
                                                obtain ⟨q334, hq334, hf⟩ := bnd_e hf
                                                refine gk0_i hS (gv_run (rest := []) S hG hW hS [] (c_X7_findFile l Γ q327.2 M hq334) pk_X7_findFile ml_L_125 (Nat.le_of_ble_eq_true rfl) rfl rfl rfl rfl ⟨Nat.le_of_ble_eq_true rfl, Nat.le_of_ble_eq_true rfl⟩ rfl hl.1 rfl (Nat.le_of_ble_eq_true rfl) dL_globs_334 ⟨by show (cs + 24) + 0 ≤ 1474; omega, by show (ss + 144) + 0 ≤ 38844; omega⟩) (fun H locs hW hS => ?_)
                                                refine lv_iconst (v := (-1 : Int32)) hx hb dL_globs_337 (by decide) ?_
                                                refine lv_icmp_ne (tgt := 450) hx hb dL_globs_338 (by decide) (fun c338 => ?_) (fun c338 => ?_)
                                                · have hf := cn_f c338 hf
                                                  exact J_450 q327.2 hf (cs + 24) (ss + 144) (by omega) (by omega) H locs ls hW hS (lv_sub hl [] rfl)
                                                · have hf := cn_t c338 hf
                                                  refine lv_aload_n hx hb dL_globs_341 rfl (lv_at hl 0 rfl) ?_
                                                  refine lv_iconst (v := (1 : Int32)) hx hb dL_globs_342 (by decide) ?_
                                                  obtain ⟨q343, hq343, hf⟩ := bnd_e hf
                                                  refine gxk_i hS (gvx_run (rest := []) S hG hW hS [.int (1 : Int32)] (c_X7_addFile l hl0 Γ q327.2 M (1 : Int32) hq343) pk_X7_addFile rfl ml_L_13 rfl rfl ⟨Nat.le_of_ble_eq_true rfl, Nat.le_of_ble_eq_true rfl⟩ rfl hl.1 rfl (Nat.le_of_ble_eq_true rfl) dL_globs_343 ⟨by show (cs + 24) + 2 ≤ 1474; omega, by show (ss + 144) + 12 ≤ 38844; omega⟩) (fun H locs k9 ce9 z9 hW hS e9 hce hcv hcl => by have hf := sw_r e9 hf; cases hf) (fun H locs v343 hW hS e9 => ?_)
                                                  have hf := sw_l e9 hf
                                                  refine lv_if_ne (tgt := 450) hx hb dL_globs_346 (by decide) (fun c346 => ?_) (fun c346 => ?_)
                                                  · have hf := cn_f c346 hf
                                                    exact J_450 q343.2 hf (cs + 26) (ss + 156) (by omega) (by omega) H locs ls hW hS (lv_sub hl [] rfl)
                                                  · have hf := cn_t c346 hf
                                                    refine lv_aload_n hx hb dL_globs_349 rfl (lv_at hl 0 rfl) ?_
                                                    refine lv_iconst (v := (1 : Int32)) hx hb dL_globs_350 (by decide) ?_
                                                    refine lv_iconst (v := (2 : Int32)) hx hb dL_globs_351 (by decide) ?_
                                                    refine lv_iconst (v := (0 : Int32)) hx hb dL_globs_352 (by decide) ?_
                                                    obtain ⟨q353, hq353, hf⟩ := bnd_e hf
                                                    refine gk_i hS (gsw_run (rest := []) S hG hW hS [.ref (Γ.1 0), .int (1 : Int32), .int (2 : Int32), .int (0 : Int32)] (c_L_act l hl0 Γ q343.2 M (1 : Int32) (2 : Int32) (0 : Int32) hq353) pk_L_act ml_L_86 rfl rfl ⟨Nat.le_of_ble_eq_true rfl, Nat.le_of_ble_eq_true rfl⟩ rfl hl.1 rfl (Nat.le_of_ble_eq_true rfl) dL_globs_353 ⟨by show (cs + 26) + 3 ≤ 1474; omega, by show (ss + 156) + 18 ≤ 38844; omega⟩) (fun H locs hW hS => ?_)
                                                    refine lv_bipush (v := (-33 : Int32)) hx hb dL_globs_356 (by decide) ?_
                                                    refine lv_icmp_ne (tgt := 450) hx hb dL_globs_358 (by decide) (fun c358 => ?_) (fun c358 => ?_)
                                                    · have hf := cn_f c358 hf
                                                      exact J_450 q353.2 hf (cs + 29) (ss + 174) (by omega) (by omega) H locs ls hW hS (lv_sub hl [] rfl)
                                                    · have hf := cn_t c358 hf
                                                      refine lv_aload_n hx hb dL_globs_361 rfl (lv_at hl 0 rfl) ?_
                                                      obtain ⟨q362, hq362, hf⟩ := bnd_e hf
                                                      refine gk0_i hS (gv_run (rest := []) S hG hW hS [] (c_X7_findFile l Γ q353.2 M hq362) pk_X7_findFile ml_L_125 (Nat.le_of_ble_eq_true rfl) rfl rfl rfl rfl ⟨Nat.le_of_ble_eq_true rfl, Nat.le_of_ble_eq_true rfl⟩ rfl hl.1 rfl (Nat.le_of_ble_eq_true rfl) dL_globs_362 ⟨by show (cs + 29) + 0 ≤ 1474; omega, by show (ss + 174) + 0 ≤ 38844; omega⟩) (fun H locs hW hS => ?_)
                                                      refine lv_if_ne (tgt := 450) hx hb dL_globs_365 (by decide) (fun c365 => ?_) (fun c365 => ?_)
                                                      · have hf := cn_f c365 hf
                                                        exact J_450 q353.2 hf (cs + 29) (ss + 174) (by omega) (by omega) H locs ls hW hS (lv_sub hl [] rfl)
                                                      · have hf := cn_t c365 hf
                                                        refine lv_aload_n hx hb dL_globs_368 rfl (lv_at hl 0 rfl) ?_
                                                        refine lv_bipush (v := (97 : Int32)) hx hb dL_globs_369 (by decide) ?_
                                                        refine lv_bipush (v := (47 : Int32)) hx hb dL_globs_371 (by decide) ?_
                                                        refine lv_bipush (v := (99 : Int32)) hx hb dL_globs_373 (by decide) ?_
                                                        refine lv_bipush (v := (47 : Int32)) hx hb dL_globs_375 (by decide) ?_
                                                        refine lv_bipush (v := (100 : Int32)) hx hb dL_globs_377 (by decide) ?_
                                                        refine lv_bipush (v := (46 : Int32)) hx hb dL_globs_379 (by decide) ?_
                                                        refine lv_bipush (v := (46 : Int32)) hx hb dL_globs_381 (by decide) ?_
                                                        refine lv_bipush (v := (46 : Int32)) hx hb dL_globs_383 (by decide) ?_
                                                        obtain ⟨q385, hq385, hf⟩ := bnd_e hf
                                                        refine gk_i hS (gs_run (rest := []) S hG hW hS [.ref (Γ.1 0), .int (97 : Int32), .int (47 : Int32), .int (99 : Int32), .int (47 : Int32), .int (100 : Int32), .int (46 : Int32), .int (46 : Int32), .int (46 : Int32)] (c_L_text l hl0 Γ q353.2 M (97 : Int32) (47 : Int32) (99 : Int32) (47 : Int32) (100 : Int32) (46 : Int32) (46 : Int32) (46 : Int32) hq385) pk_L_text ml_L_121 rfl rfl ⟨Nat.le_of_ble_eq_true rfl, Nat.le_of_ble_eq_true rfl⟩ rfl hl.1 rfl (Nat.le_of_ble_eq_true rfl) dL_globs_385 ⟨by show (cs + 29) + 24 ≤ 1474; omega, by show (ss + 174) + 144 ≤ 38844; omega⟩) (fun H locs hW hS => ?_)
                                                        refine lv_if_eq (tgt := 450) hx hb dL_globs_388 (by decide) (fun c388 => ?_) (fun c388 => ?_)
                                                        · have hf := cn_t c388 hf
                                                          exact J_450 q385.2 hf (cs + 53) (ss + 318) (by omega) (by omega) H locs ls hW hS (lv_sub hl [] rfl)
                                                        · have hf := cn_f c388 hf
                                                          refine lv_aload_n hx hb dL_globs_391 rfl (lv_at hl 0 rfl) ?_
                                                          refine lv_iconst (v := (3 : Int32)) hx hb dL_globs_392 (by decide) ?_
                                                          obtain ⟨q393, hq393, hf⟩ := bnd_e hf
                                                          refine gxk_i hS (gvx_run (rest := []) S hG hW hS [.int (3 : Int32)] (c_X7_addFile l hl0 Γ q385.2 M (3 : Int32) hq393) pk_X7_addFile rfl ml_L_13 rfl rfl ⟨Nat.le_of_ble_eq_true rfl, Nat.le_of_ble_eq_true rfl⟩ rfl hl.1 rfl (Nat.le_of_ble_eq_true rfl) dL_globs_393 ⟨by show (cs + 53) + 2 ≤ 1474; omega, by show (ss + 318) + 12 ≤ 38844; omega⟩) (fun H locs k9 ce9 z9 hW hS e9 hce hcv hcl => by have hf := sw_r e9 hf; cases hf) (fun H locs v393 hW hS e9 => ?_)
                                                          have hf := sw_l e9 hf
                                                          refine lv_iconst (v := (1 : Int32)) hx hb dL_globs_396 (by decide) ?_
                                                          refine lv_icmp_ne (tgt := 450) hx hb dL_globs_397 (by decide) (fun c397 => ?_) (fun c397 => ?_)
                                                          · have hf := cn_f c397 hf
                                                            exact J_450 q393.2 hf (cs + 55) (ss + 330) (by omega) (by omega) H locs ls hW hS (lv_sub hl [] rfl)
                                                          · have hf := cn_t c397 hf
                                                            refine lv_aload_n hx hb dL_globs_400 rfl (lv_at hl 0 rfl) ?_
                                                            refine lv_bipush (v := (101 : Int32)) hx hb dL_globs_401 (by decide) ?_
                                                            refine lv_bipush (v := (46 : Int32)) hx hb dL_globs_403 (by decide) ?_
                                                            refine lv_bipush (v := (46 : Int32)) hx hb dL_globs_405 (by decide) ?_
                                                            refine lv_bipush (v := (46 : Int32)) hx hb dL_globs_407 (by decide) ?_
                                                            refine lv_bipush (v := (46 : Int32)) hx hb dL_globs_409 (by decide) ?_
                                                            refine lv_bipush (v := (46 : Int32)) hx hb dL_globs_411 (by decide) ?_
                                                            refine lv_bipush (v := (46 : Int32)) hx hb dL_globs_413 (by decide) ?_
                                                            refine lv_bipush (v := (46 : Int32)) hx hb dL_globs_415 (by decide) ?_
                                                            obtain ⟨q417, hq417, hf⟩ := bnd_e hf
                                                            refine gk_i hS (gs_run (rest := []) S hG hW hS [.ref (Γ.1 0), .int (101 : Int32), .int (46 : Int32), .int (46 : Int32), .int (46 : Int32), .int (46 : Int32), .int (46 : Int32), .int (46 : Int32), .int (46 : Int32)] (c_L_text l hl0 Γ q393.2 M (101 : Int32) (46 : Int32) (46 : Int32) (46 : Int32) (46 : Int32) (46 : Int32) (46 : Int32) (46 : Int32) hq417) pk_L_text ml_L_121 rfl rfl ⟨Nat.le_of_ble_eq_true rfl, Nat.le_of_ble_eq_true rfl⟩ rfl hl.1 rfl (Nat.le_of_ble_eq_true rfl) dL_globs_417 ⟨by show (cs + 55) + 24 ≤ 1474; omega, by show (ss + 330) + 144 ≤ 38844; omega⟩) (fun H locs hW hS => ?_)
                                                            refine lv_if_eq (tgt := 450) hx hb dL_globs_420 (by decide) (fun c420 => ?_) (fun c420 => ?_)
                                                            · have hf := cn_t c420 hf
                                                              exact J_450 q417.2 hf (cs + 79) (ss + 474) (by omega) (by omega) H locs ls hW hS (lv_sub hl [] rfl)
                                                            · have hf := cn_f c420 hf
                                                              refine lv_aload_n hx hb dL_globs_423 rfl (lv_at hl 0 rfl) ?_
                                                              refine lv_iconst (v := (4 : Int32)) hx hb dL_globs_424 (by decide) ?_
                                                              obtain ⟨q425, hq425, hf⟩ := bnd_e hf
                                                              refine gxk_i hS (gvx_run (rest := []) S hG hW hS [.int (4 : Int32)] (c_X7_addFile l hl0 Γ q417.2 M (4 : Int32) hq425) pk_X7_addFile rfl ml_L_13 rfl rfl ⟨Nat.le_of_ble_eq_true rfl, Nat.le_of_ble_eq_true rfl⟩ rfl hl.1 rfl (Nat.le_of_ble_eq_true rfl) dL_globs_425 ⟨by show (cs + 79) + 2 ≤ 1474; omega, by show (ss + 474) + 12 ≤ 38844; omega⟩) (fun H locs k9 ce9 z9 hW hS e9 hce hcv hcl => by have hf := sw_r e9 hf; cases hf) (fun H locs v425 hW hS e9 => ?_)
                                                              have hf := sw_l e9 hf
                                                              refine lv_iconst (v := (2 : Int32)) hx hb dL_globs_428 (by decide) ?_
                                                              refine lv_icmp_ne (tgt := 450) hx hb dL_globs_429 (by decide) (fun c429 => ?_) (fun c429 => ?_)
                                                              · have hf := cn_f c429 hf
                                                                exact J_450 q425.2 hf (cs + 81) (ss + 486) (by omega) (by omega) H locs ls hW hS (lv_sub hl [] rfl)
                                                              · have hf := cn_t c429 hf
                                                                refine lv_aload_n hx hb dL_globs_432 rfl (lv_at hl 0 rfl) ?_
                                                                refine gk0_i hS (gv_run (rest := []) S hG hW hS [] (c_X7_files l Γ q425.2 M) pk_X7_files ml_L_99 (Nat.le_of_ble_eq_true rfl) rfl rfl rfl rfl ⟨Nat.le_of_ble_eq_true rfl, Nat.le_of_ble_eq_true rfl⟩ rfl hl.1 rfl (Nat.le_of_ble_eq_true rfl) dL_globs_433 ⟨by show (cs + 81) + 0 ≤ 1474; omega, by show (ss + 486) + 0 ≤ 38844; omega⟩) (fun H locs hW hS => ?_)
                                                                refine lv_bipush (v := (7 : Int32)) hx hb dL_globs_436 (by decide) ?_
                                                                refine lv_icmp_ne (tgt := 450) hx hb dL_globs_438 (by decide) (fun c438 => ?_) (fun c438 => ?_)
                                                                · have hf := cn_f c438 hf
                                                                  exact J_450 q425.2 hf (cs + 81) (ss + 486) (by omega) (by omega) H locs ls hW hS (lv_sub hl [] rfl)
                                                                · have hf := cn_t c438 hf
                                                                  refine lv_aload_n hx hb dL_globs_441 rfl (lv_at hl 0 rfl) ?_
                                                                  obtain ⟨q442, hq442, hf⟩ := bnd_e hf
                                                                  refine gk0_i hS (gv_run (rest := []) S hG hW hS [] (c_X7_changed l Γ q425.2 M hq442) pk_X7_changed ml_L_128 (Nat.le_of_ble_eq_true rfl) rfl rfl rfl rfl ⟨Nat.le_of_ble_eq_true rfl, Nat.le_of_ble_eq_true rfl⟩ rfl hl.1 rfl (Nat.le_of_ble_eq_true rfl) dL_globs_442 ⟨by show (cs + 81) + 0 ≤ 1474; omega, by show (ss + 486) + 0 ≤ 38844; omega⟩) (fun H locs hW hS => ?_)
                                                                  refine lv_bipush (v := (7 : Int32)) hx hb dL_globs_445 (by decide) ?_
                                                                  have J_452 : ∀ (C_452 : Mem) , fL_globs_452 C_452 = some y0 → ∀ (cs ss : Nat), cs ≤ 1019 → ss ≤ 36114 → ∀ (H : Heap) (locs : List Loc) (ls : Array Slot), gx_W Γ C_452 M H → va_S (gA Γ) s.heap H locs → lv_has ls 2 [(0, .ref (Γ.1 0))] → W p l e rm_L_globs s m args below meth c H locs cs ss Q (F0 m 452 ls []) := by
                                                                    intro C_452 hf cs ss hcs hss H locs ls hW hS hl
                                                                    unfold fL_globs_452 at hf
                                                                    refine lv_aload_n hx hb dL_globs_452 rfl (lv_at hl 0 rfl) ?_
                                                                    refine lv_bipush (v := (97 : Int32)) hx hb dL_globs_453 (by decide) ?_
                                                                    refine lv_bipush (v := (47 : Int32)) hx hb dL_globs_455 (by decide) ?_
                                                                    refine lv_bipush (v := (42 : Int32)) hx hb dL_globs_457 (by decide) ?_
                                                                    refine lv_bipush (v := (46 : Int32)) hx hb dL_globs_459 (by decide) ?_
                                                                    refine lv_bipush (v := (46 : Int32)) hx hb dL_globs_461 (by decide) ?_
                                                                    refine lv_bipush (v := (46 : Int32)) hx hb dL_globs_463 (by decide) ?_
                                                                    refine lv_bipush (v := (46 : Int32)) hx hb dL_globs_465 (by decide) ?_
                                                                    refine lv_bipush (v := (46 : Int32)) hx hb dL_globs_467 (by decide) ?_
                                                                    obtain ⟨q469, hq469, hf⟩ := bnd_e hf
                                                                    refine gk_i hS (gs_run (rest := []) S hG hW hS [.ref (Γ.1 0), .int (97 : Int32), .int (47 : Int32), .int (42 : Int32), .int (46 : Int32), .int (46 : Int32), .int (46 : Int32), .int (46 : Int32), .int (46 : Int32)] (c_L_text l hl0 Γ C_452 M (97 : Int32) (47 : Int32) (42 : Int32) (46 : Int32) (46 : Int32) (46 : Int32) (46 : Int32) (46 : Int32) hq469) pk_L_text ml_L_121 rfl rfl ⟨Nat.le_of_ble_eq_true rfl, Nat.le_of_ble_eq_true rfl⟩ rfl hl.1 rfl (Nat.le_of_ble_eq_true rfl) dL_globs_469 ⟨by show cs + 24 ≤ 1474; omega, by show ss + 144 ≤ 38844; omega⟩) (fun H locs hW hS => ?_)
                                                                    have J_808 : ∀ (C_808 : Mem) , fL_globs_808 C_808 = some y0 → ∀ (cs ss : Nat), cs ≤ 1406 → ss ≤ 38436 → ∀ (H : Heap) (locs : List Loc) (ls : Array Slot), gx_W Γ C_808 M H → va_S (gA Γ) s.heap H locs → lv_has ls 2 [] → W p l e rm_L_globs s m args below meth c H locs cs ss Q (F0 m 808 ls []) := by
                                                                      intro C_808 hf cs ss hcs hss H locs ls hW hS hl
                                                                      unfold fL_globs_808 at hf
                                                                      refine lv_iconst (v := (0 : Int32)) hx hb dL_globs_808 (by decide) ?_
                                                                      have e9 := Option.some.inj hf
                                                                      exact hret _ _ _ _ _ _ _ hS rfl e9 (by show cs ≤ 1474; omega) (by show ss ≤ 38844; omega) dL_globs_809
                                                                    refine lv_if_eq (tgt := 808) hx hb dL_globs_472 (by decide) (fun c472 => ?_) (fun c472 => ?_)
                                                                    · have hf := cn_t c472 hf
                                                                      exact J_808 q469.2 hf (cs + 24) (ss + 144) (by omega) (by omega) H locs ls hW hS (lv_sub hl [] rfl)
                                                                    · have hf := cn_f c472 hf
                                                                      refine lv_aload_n hx hb dL_globs_475 rfl (lv_at hl 0 rfl) ?_
                                                                      refine lv_iconst (v := (3 : Int32)) hx hb dL_globs_476 (by decide) ?_
                                                                      obtain ⟨q477, hq477, hf⟩ := bnd_e hf
                                                                      refine gk_i hS (gs_run (rest := []) S hG hW hS [.ref (Γ.1 0), .int (3 : Int32)] (c_L_matched l hl0 Γ q469.2 M (3 : Int32) (by decide) hq477) pk_L_matched ml_L_131 rfl rfl ⟨Nat.le_of_ble_eq_true rfl, Nat.le_of_ble_eq_true rfl⟩ rfl hl.1 rfl (Nat.le_of_ble_eq_true rfl) dL_globs_477 ⟨by show (cs + 24) + 12 ≤ 1474; omega, by show (ss + 144) + 72 ≤ 38844; omega⟩) (fun H locs hW hS => ?_)
                                                                      refine lv_iconst (v := (1 : Int32)) hx hb dL_globs_480 (by decide) ?_
                                                                      refine lv_icmp_ne (tgt := 808) hx hb dL_globs_481 (by decide) (fun c481 => ?_) (fun c481 => ?_)
                                                                      · have hf := cn_f c481 hf
                                                                        exact J_808 q477.2 hf (cs + 36) (ss + 216) (by omega) (by omega) H locs ls hW hS (lv_sub hl [] rfl)
                                                                      · have hf := cn_t c481 hf
                                                                        refine lv_aload_n hx hb dL_globs_484 rfl (lv_at hl 0 rfl) ?_
                                                                        refine lv_bipush (v := (97 : Int32)) hx hb dL_globs_485 (by decide) ?_
                                                                        refine lv_bipush (v := (47 : Int32)) hx hb dL_globs_487 (by decide) ?_
                                                                        refine lv_bipush (v := (42 : Int32)) hx hb dL_globs_489 (by decide) ?_
                                                                        refine lv_bipush (v := (42 : Int32)) hx hb dL_globs_491 (by decide) ?_
                                                                        refine lv_bipush (v := (46 : Int32)) hx hb dL_globs_493 (by decide) ?_
                                                                        refine lv_bipush (v := (46 : Int32)) hx hb dL_globs_495 (by decide) ?_
                                                                        refine lv_bipush (v := (46 : Int32)) hx hb dL_globs_497 (by decide) ?_
                                                                        refine lv_bipush (v := (46 : Int32)) hx hb dL_globs_499 (by decide) ?_
                                                                        obtain ⟨q501, hq501, hf⟩ := bnd_e hf
                                                                        refine gk_i hS (gs_run (rest := []) S hG hW hS [.ref (Γ.1 0), .int (97 : Int32), .int (47 : Int32), .int (42 : Int32), .int (42 : Int32), .int (46 : Int32), .int (46 : Int32), .int (46 : Int32), .int (46 : Int32)] (c_L_text l hl0 Γ q477.2 M (97 : Int32) (47 : Int32) (42 : Int32) (42 : Int32) (46 : Int32) (46 : Int32) (46 : Int32) (46 : Int32) hq501) pk_L_text ml_L_121 rfl rfl ⟨Nat.le_of_ble_eq_true rfl, Nat.le_of_ble_eq_true rfl⟩ rfl hl.1 rfl (Nat.le_of_ble_eq_true rfl) dL_globs_501 ⟨by show (cs + 36) + 24 ≤ 1474; omega, by show (ss + 216) + 144 ≤ 38844; omega⟩) (fun H locs hW hS => ?_)
                                                                        refine lv_if_eq (tgt := 808) hx hb dL_globs_504 (by decide) (fun c504 => ?_) (fun c504 => ?_)
                                                                        · have hf := cn_t c504 hf
                                                                          exact J_808 q501.2 hf (cs + 60) (ss + 360) (by omega) (by omega) H locs ls hW hS (lv_sub hl [] rfl)
                                                                        · have hf := cn_f c504 hf
                                                                          refine lv_aload_n hx hb dL_globs_507 rfl (lv_at hl 0 rfl) ?_
                                                                          refine lv_iconst (v := (3 : Int32)) hx hb dL_globs_508 (by decide) ?_
                                                                          obtain ⟨q509, hq509, hf⟩ := bnd_e hf
                                                                          refine gk_i hS (gs_run (rest := []) S hG hW hS [.ref (Γ.1 0), .int (3 : Int32)] (c_L_matched l hl0 Γ q501.2 M (3 : Int32) (by decide) hq509) pk_L_matched ml_L_131 rfl rfl ⟨Nat.le_of_ble_eq_true rfl, Nat.le_of_ble_eq_true rfl⟩ rfl hl.1 rfl (Nat.le_of_ble_eq_true rfl) dL_globs_509 ⟨by show (cs + 60) + 12 ≤ 1474; omega, by show (ss + 360) + 72 ≤ 38844; omega⟩) (fun H locs hW hS => ?_)
                                                                          refine lv_iconst (v := (3 : Int32)) hx hb dL_globs_512 (by decide) ?_
                                                                          refine lv_icmp_ne (tgt := 808) hx hb dL_globs_513 (by decide) (fun c513 => ?_) (fun c513 => ?_)
                                                                          · have hf := cn_f c513 hf
                                                                            exact J_808 q509.2 hf (cs + 72) (ss + 432) (by omega) (by omega) H locs ls hW hS (lv_sub hl [] rfl)
                                                                          · have hf := cn_t c513 hf
                                                                            refine lv_aload_n hx hb dL_globs_516 rfl (lv_at hl 0 rfl) ?_
                                                                            refine lv_bipush (v := (42 : Int32)) hx hb dL_globs_517 (by decide) ?_
                                                                            refine lv_bipush (v := (42 : Int32)) hx hb dL_globs_519 (by decide) ?_
                                                                            refine lv_bipush (v := (46 : Int32)) hx hb dL_globs_521 (by decide) ?_
                                                                            refine lv_bipush (v := (46 : Int32)) hx hb dL_globs_523 (by decide) ?_
                                                                            refine lv_bipush (v := (46 : Int32)) hx hb dL_globs_525 (by decide) ?_
                                                                            refine lv_bipush (v := (46 : Int32)) hx hb dL_globs_527 (by decide) ?_
                                                                            refine lv_bipush (v := (46 : Int32)) hx hb dL_globs_529 (by decide) ?_
                                                                            refine lv_bipush (v := (46 : Int32)) hx hb dL_globs_531 (by decide) ?_
                                                                            obtain ⟨q533, hq533, hf⟩ := bnd_e hf
                                                                            refine gk_i hS (gs_run (rest := []) S hG hW hS [.ref (Γ.1 0), .int (42 : Int32), .int (42 : Int32), .int (46 : Int32), .int (46 : Int32), .int (46 : Int32), .int (46 : Int32), .int (46 : Int32), .int (46 : Int32)] (c_L_text l hl0 Γ q509.2 M (42 : Int32) (42 : Int32) (46 : Int32) (46 : Int32) (46 : Int32) (46 : Int32) (46 : Int32) (46 : Int32) hq533) pk_L_text ml_L_121 rfl rfl ⟨Nat.le_of_ble_eq_true rfl, Nat.le_of_ble_eq_true rfl⟩ rfl hl.1 rfl (Nat.le_of_ble_eq_true rfl) dL_globs_533 ⟨by show (cs + 72) + 24 ≤ 1474; omega, by show (ss + 432) + 144 ≤ 38844; omega⟩) (fun H locs hW hS => ?_)
                                                                            refine lv_if_eq (tgt := 808) hx hb dL_globs_536 (by decide) (fun c536 => ?_) (fun c536 => ?_)
                                                                            · have hf := cn_t c536 hf
                                                                              exact J_808 q533.2 hf (cs + 96) (ss + 576) (by omega) (by omega) H locs ls hW hS (lv_sub hl [] rfl)
                                                                            · have hf := cn_f c536 hf
                                                                              refine lv_aload_n hx hb dL_globs_539 rfl (lv_at hl 0 rfl) ?_
                                                                              refine lv_iconst (v := (3 : Int32)) hx hb dL_globs_540 (by decide) ?_
                                                                              obtain ⟨q541, hq541, hf⟩ := bnd_e hf
                                                                              refine gk_i hS (gs_run (rest := []) S hG hW hS [.ref (Γ.1 0), .int (3 : Int32)] (c_L_matched l hl0 Γ q533.2 M (3 : Int32) (by decide) hq541) pk_L_matched ml_L_131 rfl rfl ⟨Nat.le_of_ble_eq_true rfl, Nat.le_of_ble_eq_true rfl⟩ rfl hl.1 rfl (Nat.le_of_ble_eq_true rfl) dL_globs_541 ⟨by show (cs + 96) + 12 ≤ 1474; omega, by show (ss + 576) + 72 ≤ 38844; omega⟩) (fun H locs hW hS => ?_)
                                                                              refine lv_bipush (v := (7 : Int32)) hx hb dL_globs_544 (by decide) ?_
                                                                              refine lv_icmp_ne (tgt := 808) hx hb dL_globs_546 (by decide) (fun c546 => ?_) (fun c546 => ?_)
                                                                              · have hf := cn_f c546 hf
                                                                                exact J_808 q541.2 hf (cs + 108) (ss + 648) (by omega) (by omega) H locs ls hW hS (lv_sub hl [] rfl)
                                                                              · have hf := cn_t c546 hf
                                                                                refine lv_aload_n hx hb dL_globs_549 rfl (lv_at hl 0 rfl) ?_
                                                                                refine lv_bipush (v := (42 : Int32)) hx hb dL_globs_550 (by decide) ?_
                                                                                refine lv_bipush (v := (42 : Int32)) hx hb dL_globs_552 (by decide) ?_
                                                                                refine lv_bipush (v := (47 : Int32)) hx hb dL_globs_554 (by decide) ?_
                                                                                refine lv_bipush (v := (100 : Int32)) hx hb dL_globs_556 (by decide) ?_
                                                                                refine lv_bipush (v := (46 : Int32)) hx hb dL_globs_558 (by decide) ?_
                                                                                refine lv_bipush (v := (46 : Int32)) hx hb dL_globs_560 (by decide) ?_
                                                                                refine lv_bipush (v := (46 : Int32)) hx hb dL_globs_562 (by decide) ?_
                                                                                refine lv_bipush (v := (46 : Int32)) hx hb dL_globs_564 (by decide) ?_
                                                                                obtain ⟨q566, hq566, hf⟩ := bnd_e hf
                                                                                refine gk_i hS (gs_run (rest := []) S hG hW hS [.ref (Γ.1 0), .int (42 : Int32), .int (42 : Int32), .int (47 : Int32), .int (100 : Int32), .int (46 : Int32), .int (46 : Int32), .int (46 : Int32), .int (46 : Int32)] (c_L_text l hl0 Γ q541.2 M (42 : Int32) (42 : Int32) (47 : Int32) (100 : Int32) (46 : Int32) (46 : Int32) (46 : Int32) (46 : Int32) hq566) pk_L_text ml_L_121 rfl rfl ⟨Nat.le_of_ble_eq_true rfl, Nat.le_of_ble_eq_true rfl⟩ rfl hl.1 rfl (Nat.le_of_ble_eq_true rfl) dL_globs_566 ⟨by show (cs + 108) + 24 ≤ 1474; omega, by show (ss + 648) + 144 ≤ 38844; omega⟩) (fun H locs hW hS => ?_)
                                                                                refine lv_if_eq (tgt := 808) hx hb dL_globs_569 (by decide) (fun c569 => ?_) (fun c569 => ?_)
                                                                                · have hf := cn_t c569 hf
                                                                                  exact J_808 q566.2 hf (cs + 132) (ss + 792) (by omega) (by omega) H locs ls hW hS (lv_sub hl [] rfl)
                                                                                · have hf := cn_f c569 hf
                                                                                  refine lv_aload_n hx hb dL_globs_572 rfl (lv_at hl 0 rfl) ?_
                                                                                  refine lv_iconst (v := (3 : Int32)) hx hb dL_globs_573 (by decide) ?_
                                                                                  obtain ⟨q574, hq574, hf⟩ := bnd_e hf
                                                                                  refine gk_i hS (gs_run (rest := []) S hG hW hS [.ref (Γ.1 0), .int (3 : Int32)] (c_L_matched l hl0 Γ q566.2 M (3 : Int32) (by decide) hq574) pk_L_matched ml_L_131 rfl rfl ⟨Nat.le_of_ble_eq_true rfl, Nat.le_of_ble_eq_true rfl⟩ rfl hl.1 rfl (Nat.le_of_ble_eq_true rfl) dL_globs_574 ⟨by show (cs + 132) + 12 ≤ 1474; omega, by show (ss + 792) + 72 ≤ 38844; omega⟩) (fun H locs hW hS => ?_)
                                                                                  refine lv_iconst (v := (2 : Int32)) hx hb dL_globs_577 (by decide) ?_
                                                                                  refine lv_icmp_ne (tgt := 808) hx hb dL_globs_578 (by decide) (fun c578 => ?_) (fun c578 => ?_)
                                                                                  · have hf := cn_f c578 hf
                                                                                    exact J_808 q574.2 hf (cs + 144) (ss + 864) (by omega) (by omega) H locs ls hW hS (lv_sub hl [] rfl)
                                                                                  · have hf := cn_t c578 hf
                                                                                    refine lv_aload_n hx hb dL_globs_581 rfl (lv_at hl 0 rfl) ?_
                                                                                    refine lv_bipush (v := (63 : Int32)) hx hb dL_globs_582 (by decide) ?_
                                                                                    refine lv_bipush (v := (46 : Int32)) hx hb dL_globs_584 (by decide) ?_
                                                                                    refine lv_bipush (v := (46 : Int32)) hx hb dL_globs_586 (by decide) ?_
                                                                                    refine lv_bipush (v := (46 : Int32)) hx hb dL_globs_588 (by decide) ?_
                                                                                    refine lv_bipush (v := (46 : Int32)) hx hb dL_globs_590 (by decide) ?_
                                                                                    refine lv_bipush (v := (46 : Int32)) hx hb dL_globs_592 (by decide) ?_
                                                                                    refine lv_bipush (v := (46 : Int32)) hx hb dL_globs_594 (by decide) ?_
                                                                                    refine lv_bipush (v := (46 : Int32)) hx hb dL_globs_596 (by decide) ?_
                                                                                    obtain ⟨q598, hq598, hf⟩ := bnd_e hf
                                                                                    refine gk_i hS (gs_run (rest := []) S hG hW hS [.ref (Γ.1 0), .int (63 : Int32), .int (46 : Int32), .int (46 : Int32), .int (46 : Int32), .int (46 : Int32), .int (46 : Int32), .int (46 : Int32), .int (46 : Int32)] (c_L_text l hl0 Γ q574.2 M (63 : Int32) (46 : Int32) (46 : Int32) (46 : Int32) (46 : Int32) (46 : Int32) (46 : Int32) (46 : Int32) hq598) pk_L_text ml_L_121 rfl rfl ⟨Nat.le_of_ble_eq_true rfl, Nat.le_of_ble_eq_true rfl⟩ rfl hl.1 rfl (Nat.le_of_ble_eq_true rfl) dL_globs_598 ⟨by show (cs + 144) + 24 ≤ 1474; omega, by show (ss + 864) + 144 ≤ 38844; omega⟩) (fun H locs hW hS => ?_)
                                                                                    refine lv_if_eq (tgt := 808) hx hb dL_globs_601 (by decide) (fun c601 => ?_) (fun c601 => ?_)
                                                                                    · have hf := cn_t c601 hf
                                                                                      exact J_808 q598.2 hf (cs + 168) (ss + 1008) (by omega) (by omega) H locs ls hW hS (lv_sub hl [] rfl)
                                                                                    · have hf := cn_f c601 hf
                                                                                      refine lv_aload_n hx hb dL_globs_604 rfl (lv_at hl 0 rfl) ?_
                                                                                      refine lv_iconst (v := (3 : Int32)) hx hb dL_globs_605 (by decide) ?_
                                                                                      obtain ⟨q606, hq606, hf⟩ := bnd_e hf
                                                                                      refine gk_i hS (gs_run (rest := []) S hG hW hS [.ref (Γ.1 0), .int (3 : Int32)] (c_L_matched l hl0 Γ q598.2 M (3 : Int32) (by decide) hq606) pk_L_matched ml_L_131 rfl rfl ⟨Nat.le_of_ble_eq_true rfl, Nat.le_of_ble_eq_true rfl⟩ rfl hl.1 rfl (Nat.le_of_ble_eq_true rfl) dL_globs_606 ⟨by show (cs + 168) + 12 ≤ 1474; omega, by show (ss + 1008) + 72 ≤ 38844; omega⟩) (fun H locs hW hS => ?_)
                                                                                      refine lv_iconst (v := (4 : Int32)) hx hb dL_globs_609 (by decide) ?_
                                                                                      refine lv_icmp_ne (tgt := 808) hx hb dL_globs_610 (by decide) (fun c610 => ?_) (fun c610 => ?_)
                                                                                      · have hf := cn_f c610 hf
                                                                                        exact J_808 q606.2 hf (cs + 180) (ss + 1080) (by omega) (by omega) H locs ls hW hS (lv_sub hl [] rfl)
                                                                                      · have hf := cn_t c610 hf
                                                                                        refine lv_aload_n hx hb dL_globs_613 rfl (lv_at hl 0 rfl) ?_
                                                                                        refine lv_bipush (v := (42 : Int32)) hx hb dL_globs_614 (by decide) ?_
                                                                                        refine lv_bipush (v := (42 : Int32)) hx hb dL_globs_616 (by decide) ?_
                                                                                        refine lv_bipush (v := (47 : Int32)) hx hb dL_globs_618 (by decide) ?_
                                                                                        refine lv_bipush (v := (63 : Int32)) hx hb dL_globs_620 (by decide) ?_
                                                                                        refine lv_bipush (v := (46 : Int32)) hx hb dL_globs_622 (by decide) ?_
                                                                                        refine lv_bipush (v := (46 : Int32)) hx hb dL_globs_624 (by decide) ?_
                                                                                        refine lv_bipush (v := (46 : Int32)) hx hb dL_globs_626 (by decide) ?_
                                                                                        refine lv_bipush (v := (46 : Int32)) hx hb dL_globs_628 (by decide) ?_
                                                                                        obtain ⟨q630, hq630, hf⟩ := bnd_e hf
                                                                                        refine gk_i hS (gs_run (rest := []) S hG hW hS [.ref (Γ.1 0), .int (42 : Int32), .int (42 : Int32), .int (47 : Int32), .int (63 : Int32), .int (46 : Int32), .int (46 : Int32), .int (46 : Int32), .int (46 : Int32)] (c_L_text l hl0 Γ q606.2 M (42 : Int32) (42 : Int32) (47 : Int32) (63 : Int32) (46 : Int32) (46 : Int32) (46 : Int32) (46 : Int32) hq630) pk_L_text ml_L_121 rfl rfl ⟨Nat.le_of_ble_eq_true rfl, Nat.le_of_ble_eq_true rfl⟩ rfl hl.1 rfl (Nat.le_of_ble_eq_true rfl) dL_globs_630 ⟨by show (cs + 180) + 24 ≤ 1474; omega, by show (ss + 1080) + 144 ≤ 38844; omega⟩) (fun H locs hW hS => ?_)
                                                                                        refine lv_if_eq (tgt := 808) hx hb dL_globs_633 (by decide) (fun c633 => ?_) (fun c633 => ?_)
                                                                                        · have hf := cn_t c633 hf
                                                                                          exact J_808 q630.2 hf (cs + 204) (ss + 1224) (by omega) (by omega) H locs ls hW hS (lv_sub hl [] rfl)
                                                                                        · have hf := cn_f c633 hf
                                                                                          refine lv_aload_n hx hb dL_globs_636 rfl (lv_at hl 0 rfl) ?_
                                                                                          refine lv_iconst (v := (3 : Int32)) hx hb dL_globs_637 (by decide) ?_
                                                                                          obtain ⟨q638, hq638, hf⟩ := bnd_e hf
                                                                                          refine gk_i hS (gs_run (rest := []) S hG hW hS [.ref (Γ.1 0), .int (3 : Int32)] (c_L_matched l hl0 Γ q630.2 M (3 : Int32) (by decide) hq638) pk_L_matched ml_L_131 rfl rfl ⟨Nat.le_of_ble_eq_true rfl, Nat.le_of_ble_eq_true rfl⟩ rfl hl.1 rfl (Nat.le_of_ble_eq_true rfl) dL_globs_638 ⟨by show (cs + 204) + 12 ≤ 1474; omega, by show (ss + 1224) + 72 ≤ 38844; omega⟩) (fun H locs hW hS => ?_)
                                                                                          refine lv_bipush (v := (7 : Int32)) hx hb dL_globs_641 (by decide) ?_
                                                                                          refine lv_icmp_ne (tgt := 808) hx hb dL_globs_643 (by decide) (fun c643 => ?_) (fun c643 => ?_)
                                                                                          · have hf := cn_f c643 hf
                                                                                            exact J_808 q638.2 hf (cs + 216) (ss + 1296) (by omega) (by omega) H locs ls hW hS (lv_sub hl [] rfl)
                                                                                          · have hf := cn_t c643 hf
                                                                                            refine lv_aload_n hx hb dL_globs_646 rfl (lv_at hl 0 rfl) ?_
                                                                                            refine lv_bipush (v := (97 : Int32)) hx hb dL_globs_647 (by decide) ?_
                                                                                            refine lv_bipush (v := (47 : Int32)) hx hb dL_globs_649 (by decide) ?_
                                                                                            refine lv_bipush (v := (42 : Int32)) hx hb dL_globs_651 (by decide) ?_
                                                                                            refine lv_bipush (v := (42 : Int32)) hx hb dL_globs_653 (by decide) ?_
                                                                                            refine lv_bipush (v := (47 : Int32)) hx hb dL_globs_655 (by decide) ?_
                                                                                            refine lv_bipush (v := (98 : Int32)) hx hb dL_globs_657 (by decide) ?_
                                                                                            refine lv_bipush (v := (46 : Int32)) hx hb dL_globs_659 (by decide) ?_
                                                                                            refine lv_bipush (v := (46 : Int32)) hx hb dL_globs_661 (by decide) ?_
                                                                                            obtain ⟨q663, hq663, hf⟩ := bnd_e hf
                                                                                            refine gk_i hS (gs_run (rest := []) S hG hW hS [.ref (Γ.1 0), .int (97 : Int32), .int (47 : Int32), .int (42 : Int32), .int (42 : Int32), .int (47 : Int32), .int (98 : Int32), .int (46 : Int32), .int (46 : Int32)] (c_L_text l hl0 Γ q638.2 M (97 : Int32) (47 : Int32) (42 : Int32) (42 : Int32) (47 : Int32) (98 : Int32) (46 : Int32) (46 : Int32) hq663) pk_L_text ml_L_121 rfl rfl ⟨Nat.le_of_ble_eq_true rfl, Nat.le_of_ble_eq_true rfl⟩ rfl hl.1 rfl (Nat.le_of_ble_eq_true rfl) dL_globs_663 ⟨by show (cs + 216) + 24 ≤ 1474; omega, by show (ss + 1296) + 144 ≤ 38844; omega⟩) (fun H locs hW hS => ?_)
                                                                                            refine lv_if_eq (tgt := 808) hx hb dL_globs_666 (by decide) (fun c666 => ?_) (fun c666 => ?_)
                                                                                            · have hf := cn_t c666 hf
                                                                                              exact J_808 q663.2 hf (cs + 240) (ss + 1440) (by omega) (by omega) H locs ls hW hS (lv_sub hl [] rfl)
                                                                                            · have hf := cn_f c666 hf
                                                                                              refine lv_aload_n hx hb dL_globs_669 rfl (lv_at hl 0 rfl) ?_
                                                                                              refine lv_iconst (v := (3 : Int32)) hx hb dL_globs_670 (by decide) ?_
                                                                                              obtain ⟨q671, hq671, hf⟩ := bnd_e hf
                                                                                              refine gk_i hS (gs_run (rest := []) S hG hW hS [.ref (Γ.1 0), .int (3 : Int32)] (c_L_matched l hl0 Γ q663.2 M (3 : Int32) (by decide) hq671) pk_L_matched ml_L_131 rfl rfl ⟨Nat.le_of_ble_eq_true rfl, Nat.le_of_ble_eq_true rfl⟩ rfl hl.1 rfl (Nat.le_of_ble_eq_true rfl) dL_globs_671 ⟨by show (cs + 240) + 12 ≤ 1474; omega, by show (ss + 1440) + 72 ≤ 38844; omega⟩) (fun H locs hW hS => ?_)
                                                                                              refine lv_iconst (v := (1 : Int32)) hx hb dL_globs_674 (by decide) ?_
                                                                                              refine lv_icmp_ne (tgt := 808) hx hb dL_globs_675 (by decide) (fun c675 => ?_) (fun c675 => ?_)
                                                                                              · have hf := cn_f c675 hf
                                                                                                exact J_808 q671.2 hf (cs + 252) (ss + 1512) (by omega) (by omega) H locs ls hW hS (lv_sub hl [] rfl)
                                                                                              · have hf := cn_t c675 hf
                                                                                                refine lv_aload_n hx hb dL_globs_678 rfl (lv_at hl 0 rfl) ?_
                                                                                                refine lv_bipush (v := (42 : Int32)) hx hb dL_globs_679 (by decide) ?_
                                                                                                refine lv_bipush (v := (47 : Int32)) hx hb dL_globs_681 (by decide) ?_
                                                                                                refine lv_bipush (v := (42 : Int32)) hx hb dL_globs_683 (by decide) ?_
                                                                                                refine lv_bipush (v := (47 : Int32)) hx hb dL_globs_685 (by decide) ?_
                                                                                                refine lv_bipush (v := (42 : Int32)) hx hb dL_globs_687 (by decide) ?_
                                                                                                refine lv_bipush (v := (46 : Int32)) hx hb dL_globs_689 (by decide) ?_
                                                                                                refine lv_bipush (v := (46 : Int32)) hx hb dL_globs_691 (by decide) ?_
                                                                                                refine lv_bipush (v := (46 : Int32)) hx hb dL_globs_693 (by decide) ?_
                                                                                                obtain ⟨q695, hq695, hf⟩ := bnd_e hf
                                                                                                refine gk_i hS (gs_run (rest := []) S hG hW hS [.ref (Γ.1 0), .int (42 : Int32), .int (47 : Int32), .int (42 : Int32), .int (47 : Int32), .int (42 : Int32), .int (46 : Int32), .int (46 : Int32), .int (46 : Int32)] (c_L_text l hl0 Γ q671.2 M (42 : Int32) (47 : Int32) (42 : Int32) (47 : Int32) (42 : Int32) (46 : Int32) (46 : Int32) (46 : Int32) hq695) pk_L_text ml_L_121 rfl rfl ⟨Nat.le_of_ble_eq_true rfl, Nat.le_of_ble_eq_true rfl⟩ rfl hl.1 rfl (Nat.le_of_ble_eq_true rfl) dL_globs_695 ⟨by show (cs + 252) + 24 ≤ 1474; omega, by show (ss + 1512) + 144 ≤ 38844; omega⟩) (fun H locs hW hS => ?_)
                                                                                                refine lv_if_eq (tgt := 808) hx hb dL_globs_698 (by decide) (fun c698 => ?_) (fun c698 => ?_)
                                                                                                · have hf := cn_t c698 hf
                                                                                                  exact J_808 q695.2 hf (cs + 276) (ss + 1656) (by omega) (by omega) H locs ls hW hS (lv_sub hl [] rfl)
                                                                                                · have hf := cn_f c698 hf
                                                                                                  refine lv_aload_n hx hb dL_globs_701 rfl (lv_at hl 0 rfl) ?_
                                                                                                  refine lv_iconst (v := (3 : Int32)) hx hb dL_globs_702 (by decide) ?_
                                                                                                  obtain ⟨q703, hq703, hf⟩ := bnd_e hf
                                                                                                  refine gk_i hS (gs_run (rest := []) S hG hW hS [.ref (Γ.1 0), .int (3 : Int32)] (c_L_matched l hl0 Γ q695.2 M (3 : Int32) (by decide) hq703) pk_L_matched ml_L_131 rfl rfl ⟨Nat.le_of_ble_eq_true rfl, Nat.le_of_ble_eq_true rfl⟩ rfl hl.1 rfl (Nat.le_of_ble_eq_true rfl) dL_globs_703 ⟨by show (cs + 276) + 12 ≤ 1474; omega, by show (ss + 1656) + 72 ≤ 38844; omega⟩) (fun H locs hW hS => ?_)
                                                                                                  refine lv_iconst (v := (2 : Int32)) hx hb dL_globs_706 (by decide) ?_
                                                                                                  refine lv_icmp_ne (tgt := 808) hx hb dL_globs_707 (by decide) (fun c707 => ?_) (fun c707 => ?_)
                                                                                                  · have hf := cn_f c707 hf
                                                                                                    exact J_808 q703.2 hf (cs + 288) (ss + 1728) (by omega) (by omega) H locs ls hW hS (lv_sub hl [] rfl)
                                                                                                  · have hf := cn_t c707 hf
                                                                                                    refine lv_aload_n hx hb dL_globs_710 rfl (lv_at hl 0 rfl) ?_
                                                                                                    refine lv_bipush (v := (97 : Int32)) hx hb dL_globs_711 (by decide) ?_
                                                                                                    refine lv_bipush (v := (47 : Int32)) hx hb dL_globs_713 (by decide) ?_
                                                                                                    refine lv_bipush (v := (98 : Int32)) hx hb dL_globs_715 (by decide) ?_
                                                                                                    refine lv_bipush (v := (42 : Int32)) hx hb dL_globs_717 (by decide) ?_
                                                                                                    refine lv_bipush (v := (46 : Int32)) hx hb dL_globs_719 (by decide) ?_
                                                                                                    refine lv_bipush (v := (46 : Int32)) hx hb dL_globs_721 (by decide) ?_
                                                                                                    refine lv_bipush (v := (46 : Int32)) hx hb dL_globs_723 (by decide) ?_
                                                                                                    refine lv_bipush (v := (46 : Int32)) hx hb dL_globs_725 (by decide) ?_
                                                                                                    obtain ⟨q727, hq727, hf⟩ := bnd_e hf
                                                                                                    refine gk_i hS (gs_run (rest := []) S hG hW hS [.ref (Γ.1 0), .int (97 : Int32), .int (47 : Int32), .int (98 : Int32), .int (42 : Int32), .int (46 : Int32), .int (46 : Int32), .int (46 : Int32), .int (46 : Int32)] (c_L_text l hl0 Γ q703.2 M (97 : Int32) (47 : Int32) (98 : Int32) (42 : Int32) (46 : Int32) (46 : Int32) (46 : Int32) (46 : Int32) hq727) pk_L_text ml_L_121 rfl rfl ⟨Nat.le_of_ble_eq_true rfl, Nat.le_of_ble_eq_true rfl⟩ rfl hl.1 rfl (Nat.le_of_ble_eq_true rfl) dL_globs_727 ⟨by show (cs + 288) + 24 ≤ 1474; omega, by show (ss + 1728) + 144 ≤ 38844; omega⟩) (fun H locs hW hS => ?_)
                                                                                                    refine lv_if_eq (tgt := 808) hx hb dL_globs_730 (by decide) (fun c730 => ?_) (fun c730 => ?_)
                                                                                                    · have hf := cn_t c730 hf
                                                                                                      exact J_808 q727.2 hf (cs + 312) (ss + 1872) (by omega) (by omega) H locs ls hW hS (lv_sub hl [] rfl)
                                                                                                    · have hf := cn_f c730 hf
                                                                                                      refine lv_aload_n hx hb dL_globs_733 rfl (lv_at hl 0 rfl) ?_
                                                                                                      refine lv_iconst (v := (3 : Int32)) hx hb dL_globs_734 (by decide) ?_
                                                                                                      obtain ⟨q735, hq735, hf⟩ := bnd_e hf
                                                                                                      refine gk_i hS (gs_run (rest := []) S hG hW hS [.ref (Γ.1 0), .int (3 : Int32)] (c_L_matched l hl0 Γ q727.2 M (3 : Int32) (by decide) hq735) pk_L_matched ml_L_131 rfl rfl ⟨Nat.le_of_ble_eq_true rfl, Nat.le_of_ble_eq_true rfl⟩ rfl hl.1 rfl (Nat.le_of_ble_eq_true rfl) dL_globs_735 ⟨by show (cs + 312) + 12 ≤ 1474; omega, by show (ss + 1872) + 72 ≤ 38844; omega⟩) (fun H locs hW hS => ?_)
                                                                                                      refine lv_iconst (v := (1 : Int32)) hx hb dL_globs_738 (by decide) ?_
                                                                                                      refine lv_icmp_ne (tgt := 808) hx hb dL_globs_739 (by decide) (fun c739 => ?_) (fun c739 => ?_)
                                                                                                      · have hf := cn_f c739 hf
                                                                                                        exact J_808 q735.2 hf (cs + 324) (ss + 1944) (by omega) (by omega) H locs ls hW hS (lv_sub hl [] rfl)
                                                                                                      · have hf := cn_t c739 hf
                                                                                                        refine lv_aload_n hx hb dL_globs_742 rfl (lv_at hl 0 rfl) ?_
                                                                                                        refine lv_bipush (v := (42 : Int32)) hx hb dL_globs_743 (by decide) ?_
                                                                                                        refine lv_bipush (v := (42 : Int32)) hx hb dL_globs_745 (by decide) ?_
                                                                                                        refine lv_bipush (v := (47 : Int32)) hx hb dL_globs_747 (by decide) ?_
                                                                                                        refine lv_bipush (v := (42 : Int32)) hx hb dL_globs_749 (by decide) ?_
                                                                                                        refine lv_bipush (v := (42 : Int32)) hx hb dL_globs_751 (by decide) ?_
                                                                                                        refine lv_bipush (v := (47 : Int32)) hx hb dL_globs_753 (by decide) ?_
                                                                                                        refine lv_bipush (v := (97 : Int32)) hx hb dL_globs_755 (by decide) ?_
                                                                                                        refine lv_bipush (v := (46 : Int32)) hx hb dL_globs_757 (by decide) ?_
                                                                                                        obtain ⟨q759, hq759, hf⟩ := bnd_e hf
                                                                                                        refine gk_i hS (gs_run (rest := []) S hG hW hS [.ref (Γ.1 0), .int (42 : Int32), .int (42 : Int32), .int (47 : Int32), .int (42 : Int32), .int (42 : Int32), .int (47 : Int32), .int (97 : Int32), .int (46 : Int32)] (c_L_text l hl0 Γ q735.2 M (42 : Int32) (42 : Int32) (47 : Int32) (42 : Int32) (42 : Int32) (47 : Int32) (97 : Int32) (46 : Int32) hq759) pk_L_text ml_L_121 rfl rfl ⟨Nat.le_of_ble_eq_true rfl, Nat.le_of_ble_eq_true rfl⟩ rfl hl.1 rfl (Nat.le_of_ble_eq_true rfl) dL_globs_759 ⟨by show (cs + 324) + 24 ≤ 1474; omega, by show (ss + 1944) + 144 ≤ 38844; omega⟩) (fun H locs hW hS => ?_)
                                                                                                        refine lv_if_eq (tgt := 808) hx hb dL_globs_762 (by decide) (fun c762 => ?_) (fun c762 => ?_)
                                                                                                        · have hf := cn_t c762 hf
                                                                                                          exact J_808 q759.2 hf (cs + 348) (ss + 2088) (by omega) (by omega) H locs ls hW hS (lv_sub hl [] rfl)
                                                                                                        · have hf := cn_f c762 hf
                                                                                                          refine lv_aload_n hx hb dL_globs_765 rfl (lv_at hl 0 rfl) ?_
                                                                                                          refine lv_iconst (v := (3 : Int32)) hx hb dL_globs_766 (by decide) ?_
                                                                                                          obtain ⟨q767, hq767, hf⟩ := bnd_e hf
                                                                                                          refine gk_i hS (gs_run (rest := []) S hG hW hS [.ref (Γ.1 0), .int (3 : Int32)] (c_L_matched l hl0 Γ q759.2 M (3 : Int32) (by decide) hq767) pk_L_matched ml_L_131 rfl rfl ⟨Nat.le_of_ble_eq_true rfl, Nat.le_of_ble_eq_true rfl⟩ rfl hl.1 rfl (Nat.le_of_ble_eq_true rfl) dL_globs_767 ⟨by show (cs + 348) + 12 ≤ 1474; omega, by show (ss + 2088) + 72 ≤ 38844; omega⟩) (fun H locs hW hS => ?_)
                                                                                                          refine lv_if_ne (tgt := 808) hx hb dL_globs_770 (by decide) (fun c770 => ?_) (fun c770 => ?_)
                                                                                                          · have hf := cn_f c770 hf
                                                                                                            exact J_808 q767.2 hf (cs + 360) (ss + 2160) (by omega) (by omega) H locs ls hW hS (lv_sub hl [] rfl)
                                                                                                          · have hf := cn_t c770 hf
                                                                                                            refine lv_aload_n hx hb dL_globs_773 rfl (lv_at hl 0 rfl) ?_
                                                                                                            refine lv_bipush (v := (97 : Int32)) hx hb dL_globs_774 (by decide) ?_
                                                                                                            refine lv_bipush (v := (42 : Int32)) hx hb dL_globs_776 (by decide) ?_
                                                                                                            refine lv_bipush (v := (42 : Int32)) hx hb dL_globs_778 (by decide) ?_
                                                                                                            refine lv_bipush (v := (46 : Int32)) hx hb dL_globs_780 (by decide) ?_
                                                                                                            refine lv_bipush (v := (46 : Int32)) hx hb dL_globs_782 (by decide) ?_
                                                                                                            refine lv_bipush (v := (46 : Int32)) hx hb dL_globs_784 (by decide) ?_
                                                                                                            refine lv_bipush (v := (46 : Int32)) hx hb dL_globs_786 (by decide) ?_
                                                                                                            refine lv_bipush (v := (46 : Int32)) hx hb dL_globs_788 (by decide) ?_
                                                                                                            obtain ⟨q790, hq790, hf⟩ := bnd_e hf
                                                                                                            refine gk_i hS (gs_run (rest := []) S hG hW hS [.ref (Γ.1 0), .int (97 : Int32), .int (42 : Int32), .int (42 : Int32), .int (46 : Int32), .int (46 : Int32), .int (46 : Int32), .int (46 : Int32), .int (46 : Int32)] (c_L_text l hl0 Γ q767.2 M (97 : Int32) (42 : Int32) (42 : Int32) (46 : Int32) (46 : Int32) (46 : Int32) (46 : Int32) (46 : Int32) hq790) pk_L_text ml_L_121 rfl rfl ⟨Nat.le_of_ble_eq_true rfl, Nat.le_of_ble_eq_true rfl⟩ rfl hl.1 rfl (Nat.le_of_ble_eq_true rfl) dL_globs_790 ⟨by show (cs + 360) + 24 ≤ 1474; omega, by show (ss + 2160) + 144 ≤ 38844; omega⟩) (fun H locs hW hS => ?_)
                                                                                                            refine lv_if_eq (tgt := 808) hx hb dL_globs_793 (by decide) (fun c793 => ?_) (fun c793 => ?_)
                                                                                                            · have hf := cn_t c793 hf
                                                                                                              exact J_808 q790.2 hf (cs + 384) (ss + 2304) (by omega) (by omega) H locs ls hW hS (lv_sub hl [] rfl)
                                                                                                            · have hf := cn_f c793 hf
                                                                                                              refine lv_aload_n hx hb dL_globs_796 rfl (lv_at hl 0 rfl) ?_
                                                                                                              refine lv_iconst (v := (4 : Int32)) hx hb dL_globs_797 (by decide) ?_
                                                                                                              refine lv_iconst (v := (0 : Int32)) hx hb dL_globs_798 (by decide) ?_
                                                                                                              refine lv_iconst (v := (0 : Int32)) hx hb dL_globs_799 (by decide) ?_
                                                                                                              obtain ⟨q800, hq800, hf⟩ := bnd_e hf
                                                                                                              refine gk_i hS (gsw_run (rest := []) S hG hW hS [.ref (Γ.1 0), .int (4 : Int32), .int (0 : Int32), .int (0 : Int32)] (c_L_act l hl0 Γ q790.2 M (4 : Int32) (0 : Int32) (0 : Int32) hq800) pk_L_act ml_L_86 rfl rfl ⟨Nat.le_of_ble_eq_true rfl, Nat.le_of_ble_eq_true rfl⟩ rfl hl.1 rfl (Nat.le_of_ble_eq_true rfl) dL_globs_800 ⟨by show (cs + 384) + 3 ≤ 1474; omega, by show (ss + 2304) + 18 ≤ 38844; omega⟩) (fun H locs hW hS => ?_)
                                                                                                              refine lv_bipush (v := (-33 : Int32)) hx hb dL_globs_803 (by decide) ?_
                                                                                                              have J_810 : ∀ (C_810 : Mem) , fL_globs_810 C_810 = some y0 → ∀ (cs ss : Nat), cs ≤ 1406 → ss ≤ 38436 → ∀ (H : Heap) (locs : List Loc) (ls : Array Slot), gx_W Γ C_810 M H → va_S (gA Γ) s.heap H locs → lv_has ls 2 [(0, .ref (Γ.1 0))] → W p l e rm_L_globs s m args below meth c H locs cs ss Q (F0 m 810 ls []) := by
                                                                                                                intro C_810 hf cs ss hcs hss H locs ls hW hS hl
                                                                                                                unfold fL_globs_810 at hf
                                                                                                                refine lv_aload_n hx hb dL_globs_810 rfl (lv_at hl 0 rfl) ?_
                                                                                                                refine lv_iconst (v := (2 : Int32)) hx hb dL_globs_811 (by decide) ?_
                                                                                                                obtain ⟨q812, hq812, hf⟩ := bnd_e hf
                                                                                                                refine gxk_i hS (gvx_run (rest := []) S hG hW hS [.int (2 : Int32)] (c_X7_delete l hl0 Γ C_810 M (2 : Int32) hq812) pk_X7_delete rfl ml_L_21 rfl rfl ⟨Nat.le_of_ble_eq_true rfl, Nat.le_of_ble_eq_true rfl⟩ rfl hl.1 rfl (Nat.le_of_ble_eq_true rfl) dL_globs_812 ⟨by show cs + 1 ≤ 1474; omega, by show ss + 6 ≤ 38844; omega⟩) (fun H locs k9 ce9 z9 hW hS e9 hce hcv hcl => by have hf := sw_r e9 hf; cases hf) (fun H locs v812 hW hS e9 => ?_)
                                                                                                                have hf := sw_l e9 hf
                                                                                                                refine lv_iconst (v := (4 : Int32)) hx hb dL_globs_815 (by decide) ?_
                                                                                                                have J_923 : ∀ (C_923 : Mem) , fL_globs_923 C_923 = some y0 → ∀ (cs ss : Nat), cs ≤ 1444 → ss ≤ 38664 → ∀ (H : Heap) (locs : List Loc) (ls : Array Slot), gx_W Γ C_923 M H → va_S (gA Γ) s.heap H locs → lv_has ls 2 [] → W p l e rm_L_globs s m args below meth c H locs cs ss Q (F0 m 923 ls []) := by
                                                                                                                  intro C_923 hf cs ss hcs hss H locs ls hW hS hl
                                                                                                                  unfold fL_globs_923 at hf
                                                                                                                  refine lv_iconst (v := (0 : Int32)) hx hb dL_globs_923 (by decide) ?_
                                                                                                                  have e9 := Option.some.inj hf
                                                                                                                  exact hret _ _ _ _ _ _ _ hS rfl e9 (by show cs ≤ 1474; omega) (by show ss ≤ 38844; omega) dL_globs_924
                                                                                                                refine lv_icmp_ne (tgt := 923) hx hb dL_globs_816 (by decide) (fun c816 => ?_) (fun c816 => ?_)
                                                                                                                · have hf := cn_f c816 hf
                                                                                                                  exact J_923 q812.2 hf (cs + 1) (ss + 6) (by omega) (by omega) H locs ls hW hS (lv_sub hl [] rfl)
                                                                                                                · have hf := cn_t c816 hf
                                                                                                                  refine lv_aload_n hx hb dL_globs_819 rfl (lv_at hl 0 rfl) ?_
                                                                                                                  refine lv_iconst (v := (2 : Int32)) hx hb dL_globs_820 (by decide) ?_
                                                                                                                  refine lv_iconst (v := (2 : Int32)) hx hb dL_globs_821 (by decide) ?_
                                                                                                                  refine lv_iconst (v := (5 : Int32)) hx hb dL_globs_822 (by decide) ?_
                                                                                                                  obtain ⟨q823, hq823, hf⟩ := bnd_e hf
                                                                                                                  refine gk_i hS (gsw_run (rest := []) S hG hW hS [.ref (Γ.1 0), .int (2 : Int32), .int (2 : Int32), .int (5 : Int32)] (c_L_act l hl0 Γ q812.2 M (2 : Int32) (2 : Int32) (5 : Int32) hq823) pk_L_act ml_L_86 rfl rfl ⟨Nat.le_of_ble_eq_true rfl, Nat.le_of_ble_eq_true rfl⟩ rfl hl.1 rfl (Nat.le_of_ble_eq_true rfl) dL_globs_823 ⟨by show (cs + 1) + 3 ≤ 1474; omega, by show (ss + 6) + 18 ≤ 38844; omega⟩) (fun H locs hW hS => ?_)
                                                                                                                  refine lv_bipush (v := (-31 : Int32)) hx hb dL_globs_826 (by decide) ?_
                                                                                                                  refine lv_icmp_ne (tgt := 923) hx hb dL_globs_828 (by decide) (fun c828 => ?_) (fun c828 => ?_)
                                                                                                                  · have hf := cn_f c828 hf
                                                                                                                    exact J_923 q823.2 hf (cs + 4) (ss + 24) (by omega) (by omega) H locs ls hW hS (lv_sub hl [] rfl)
                                                                                                                  · have hf := cn_t c828 hf
                                                                                                                    refine lv_aload_n hx hb dL_globs_831 rfl (lv_at hl 0 rfl) ?_
                                                                                                                    refine lv_iconst (v := (3 : Int32)) hx hb dL_globs_832 (by decide) ?_
                                                                                                                    refine lv_iconst (v := (2 : Int32)) hx hb dL_globs_833 (by decide) ?_
                                                                                                                    refine lv_iconst (v := (0 : Int32)) hx hb dL_globs_834 (by decide) ?_
                                                                                                                    obtain ⟨q835, hq835, hf⟩ := bnd_e hf
                                                                                                                    refine gk_i hS (gsw_run (rest := []) S hG hW hS [.ref (Γ.1 0), .int (3 : Int32), .int (2 : Int32), .int (0 : Int32)] (c_L_act l hl0 Γ q823.2 M (3 : Int32) (2 : Int32) (0 : Int32) hq835) pk_L_act ml_L_86 rfl rfl ⟨Nat.le_of_ble_eq_true rfl, Nat.le_of_ble_eq_true rfl⟩ rfl hl.1 rfl (Nat.le_of_ble_eq_true rfl) dL_globs_835 ⟨by show (cs + 4) + 3 ≤ 1474; omega, by show (ss + 24) + 18 ≤ 38844; omega⟩) (fun H locs hW hS => ?_)
                                                                                                                    refine lv_bipush (v := (-31 : Int32)) hx hb dL_globs_838 (by decide) ?_
                                                                                                                    refine lv_icmp_ne (tgt := 923) hx hb dL_globs_840 (by decide) (fun c840 => ?_) (fun c840 => ?_)
                                                                                                                    · have hf := cn_f c840 hf
                                                                                                                      exact J_923 q835.2 hf (cs + 7) (ss + 42) (by omega) (by omega) H locs ls hW hS (lv_sub hl [] rfl)
                                                                                                                    · have hf := cn_t c840 hf
                                                                                                                      refine lv_aload_n hx hb dL_globs_843 rfl (lv_at hl 0 rfl) ?_
                                                                                                                      refine gk0_i hS (gv_run (rest := []) S hG hW hS [] (c_X7_files l Γ q835.2 M) pk_X7_files ml_L_99 (Nat.le_of_ble_eq_true rfl) rfl rfl rfl rfl ⟨Nat.le_of_ble_eq_true rfl, Nat.le_of_ble_eq_true rfl⟩ rfl hl.1 rfl (Nat.le_of_ble_eq_true rfl) dL_globs_844 ⟨by show (cs + 7) + 0 ≤ 1474; omega, by show (ss + 42) + 0 ≤ 38844; omega⟩) (fun H locs hW hS => ?_)
                                                                                                                      refine lv_iconst (v := (3 : Int32)) hx hb dL_globs_847 (by decide) ?_
                                                                                                                      refine lv_icmp_ne (tgt := 923) hx hb dL_globs_848 (by decide) (fun c848 => ?_) (fun c848 => ?_)
                                                                                                                      · have hf := cn_f c848 hf
                                                                                                                        exact J_923 q835.2 hf (cs + 7) (ss + 42) (by omega) (by omega) H locs ls hW hS (lv_sub hl [] rfl)
                                                                                                                      · have hf := cn_t c848 hf
                                                                                                                        refine lv_aload_n hx hb dL_globs_851 rfl (lv_at hl 0 rfl) ?_
                                                                                                                        refine lv_bipush (v := (101 : Int32)) hx hb dL_globs_852 (by decide) ?_
                                                                                                                        refine lv_bipush (v := (46 : Int32)) hx hb dL_globs_854 (by decide) ?_
                                                                                                                        refine lv_bipush (v := (46 : Int32)) hx hb dL_globs_856 (by decide) ?_
                                                                                                                        refine lv_bipush (v := (46 : Int32)) hx hb dL_globs_858 (by decide) ?_
                                                                                                                        refine lv_bipush (v := (46 : Int32)) hx hb dL_globs_860 (by decide) ?_
                                                                                                                        refine lv_bipush (v := (46 : Int32)) hx hb dL_globs_862 (by decide) ?_
                                                                                                                        refine lv_bipush (v := (46 : Int32)) hx hb dL_globs_864 (by decide) ?_
                                                                                                                        refine lv_bipush (v := (46 : Int32)) hx hb dL_globs_866 (by decide) ?_
                                                                                                                        obtain ⟨q868, hq868, hf⟩ := bnd_e hf
                                                                                                                        refine gk_i hS (gs_run (rest := []) S hG hW hS [.ref (Γ.1 0), .int (101 : Int32), .int (46 : Int32), .int (46 : Int32), .int (46 : Int32), .int (46 : Int32), .int (46 : Int32), .int (46 : Int32), .int (46 : Int32)] (c_L_text l hl0 Γ q835.2 M (101 : Int32) (46 : Int32) (46 : Int32) (46 : Int32) (46 : Int32) (46 : Int32) (46 : Int32) (46 : Int32) hq868) pk_L_text ml_L_121 rfl rfl ⟨Nat.le_of_ble_eq_true rfl, Nat.le_of_ble_eq_true rfl⟩ rfl hl.1 rfl (Nat.le_of_ble_eq_true rfl) dL_globs_868 ⟨by show (cs + 7) + 24 ≤ 1474; omega, by show (ss + 42) + 144 ≤ 38844; omega⟩) (fun H locs hW hS => ?_)
                                                                                                                        refine lv_if_eq (tgt := 923) hx hb dL_globs_871 (by decide) (fun c871 => ?_) (fun c871 => ?_)
                                                                                                                        · have hf := cn_t c871 hf
                                                                                                                          exact J_923 q868.2 hf (cs + 31) (ss + 186) (by omega) (by omega) H locs ls hW hS (lv_sub hl [] rfl)
                                                                                                                        · have hf := cn_f c871 hf
                                                                                                                          refine lv_aload_n hx hb dL_globs_874 rfl (lv_at hl 0 rfl) ?_
                                                                                                                          obtain ⟨q875, hq875, hf⟩ := bnd_e hf
                                                                                                                          refine gk0_i hS (gv_run (rest := []) S hG hW hS [] (c_X7_findFile l Γ q868.2 M hq875) pk_X7_findFile ml_L_125 (Nat.le_of_ble_eq_true rfl) rfl rfl rfl rfl ⟨Nat.le_of_ble_eq_true rfl, Nat.le_of_ble_eq_true rfl⟩ rfl hl.1 rfl (Nat.le_of_ble_eq_true rfl) dL_globs_875 ⟨by show (cs + 31) + 0 ≤ 1474; omega, by show (ss + 186) + 0 ≤ 38844; omega⟩) (fun H locs hW hS => ?_)
                                                                                                                          refine lv_iconst (v := (2 : Int32)) hx hb dL_globs_878 (by decide) ?_
                                                                                                                          refine lv_icmp_ne (tgt := 923) hx hb dL_globs_879 (by decide) (fun c879 => ?_) (fun c879 => ?_)
                                                                                                                          · have hf := cn_f c879 hf
                                                                                                                            exact J_923 q868.2 hf (cs + 31) (ss + 186) (by omega) (by omega) H locs ls hW hS (lv_sub hl [] rfl)
                                                                                                                          · have hf := cn_t c879 hf
                                                                                                                            refine lv_aload_n hx hb dL_globs_882 rfl (lv_at hl 0 rfl) ?_
                                                                                                                            refine lv_iconst (v := (4 : Int32)) hx hb dL_globs_883 (by decide) ?_
                                                                                                                            refine lv_iconst (v := (2 : Int32)) hx hb dL_globs_884 (by decide) ?_
                                                                                                                            refine lv_iconst (v := (0 : Int32)) hx hb dL_globs_885 (by decide) ?_
                                                                                                                            obtain ⟨q886, hq886, hf⟩ := bnd_e hf
                                                                                                                            refine gk_i hS (gsw_run (rest := []) S hG hW hS [.ref (Γ.1 0), .int (4 : Int32), .int (2 : Int32), .int (0 : Int32)] (c_L_act l hl0 Γ q868.2 M (4 : Int32) (2 : Int32) (0 : Int32) hq886) pk_L_act ml_L_86 rfl rfl ⟨Nat.le_of_ble_eq_true rfl, Nat.le_of_ble_eq_true rfl⟩ rfl hl.1 rfl (Nat.le_of_ble_eq_true rfl) dL_globs_886 ⟨by show (cs + 31) + 3 ≤ 1474; omega, by show (ss + 186) + 18 ≤ 38844; omega⟩) (fun H locs hW hS => ?_)
                                                                                                                            refine lv_iconst (v := (1 : Int32)) hx hb dL_globs_889 (by decide) ?_
                                                                                                                            refine lv_icmp_ne (tgt := 923) hx hb dL_globs_890 (by decide) (fun c890 => ?_) (fun c890 => ?_)
                                                                                                                            · have hf := cn_f c890 hf
                                                                                                                              exact J_923 q886.2 hf (cs + 34) (ss + 204) (by omega) (by omega) H locs ls hW hS (lv_sub hl [] rfl)
                                                                                                                            · have hf := cn_t c890 hf
                                                                                                                              refine lv_aload_n hx hb dL_globs_893 rfl (lv_at hl 0 rfl) ?_
                                                                                                                              refine lv_bipush (v := (9 : Int32)) hx hb dL_globs_894 (by decide) ?_
                                                                                                                              obtain ⟨q896, hq896, hf⟩ := bnd_e hf
                                                                                                                              refine gxk_i hS (gvx_run (rest := []) S hG hW hS [.int (9 : Int32)] (c_X7_addFile l hl0 Γ q886.2 M (9 : Int32) hq896) pk_X7_addFile rfl ml_L_13 rfl rfl ⟨Nat.le_of_ble_eq_true rfl, Nat.le_of_ble_eq_true rfl⟩ rfl hl.1 rfl (Nat.le_of_ble_eq_true rfl) dL_globs_896 ⟨by show (cs + 34) + 2 ≤ 1474; omega, by show (ss + 204) + 12 ≤ 38844; omega⟩) (fun H locs k9 ce9 z9 hW hS e9 hce hcv hcl => by have hf := sw_r e9 hf; cases hf) (fun H locs v896 hW hS e9 => ?_)
                                                                                                                              have hf := sw_l e9 hf
                                                                                                                              refine lv_iconst (v := (2 : Int32)) hx hb dL_globs_899 (by decide) ?_
                                                                                                                              refine lv_icmp_ne (tgt := 923) hx hb dL_globs_900 (by decide) (fun c900 => ?_) (fun c900 => ?_)
                                                                                                                              · have hf := cn_f c900 hf
                                                                                                                                exact J_923 q896.2 hf (cs + 36) (ss + 216) (by omega) (by omega) H locs ls hW hS (lv_sub hl [] rfl)
                                                                                                                              · have hf := cn_t c900 hf
                                                                                                                                refine lv_aload_n hx hb dL_globs_903 rfl (lv_at hl 0 rfl) ?_
                                                                                                                                refine lv_iconst (v := (2 : Int32)) hx hb dL_globs_904 (by decide) ?_
                                                                                                                                refine lv_iconst (v := (5 : Int32)) hx hb dL_globs_905 (by decide) ?_
                                                                                                                                obtain ⟨q906, hq906, hf⟩ := bnd_e hf
                                                                                                                                refine gxk_i hS (gvx_run (rest := []) S hG hW hS [.int (2 : Int32), .int (5 : Int32)] (c_X7_edit l hl0 Γ q896.2 M (2 : Int32) (5 : Int32) hq906) pk_X7_edit rfl ml_L_17 rfl rfl ⟨Nat.le_of_ble_eq_true rfl, Nat.le_of_ble_eq_true rfl⟩ rfl hl.1 rfl (Nat.le_of_ble_eq_true rfl) dL_globs_906 ⟨by show (cs + 36) + 2 ≤ 1474; omega, by show (ss + 216) + 12 ≤ 38844; omega⟩) (fun H locs k9 ce9 z9 hW hS e9 hce hcv hcl => by have hf := sw_r e9 hf; cases hf) (fun H locs v906 hW hS e9 => ?_)
                                                                                                                                have hf := sw_l e9 hf
                                                                                                                                refine lv_bipush (v := (9 : Int32)) hx hb dL_globs_909 (by decide) ?_
                                                                                                                                refine lv_icmp_ne (tgt := 923) hx hb dL_globs_911 (by decide) (fun c911 => ?_) (fun c911 => ?_)
                                                                                                                                · have hf := cn_f c911 hf
                                                                                                                                  exact J_923 q906.2 hf (cs + 38) (ss + 228) (by omega) (by omega) H locs ls hW hS (lv_sub hl [] rfl)
                                                                                                                                · have hf := cn_t c911 hf
                                                                                                                                  refine lv_aload_n hx hb dL_globs_914 rfl (lv_at hl 0 rfl) ?_
                                                                                                                                  refine gk0_i hS (gv_run (rest := []) S hG hW hS [] (c_X7_files l Γ q906.2 M) pk_X7_files ml_L_99 (Nat.le_of_ble_eq_true rfl) rfl rfl rfl rfl ⟨Nat.le_of_ble_eq_true rfl, Nat.le_of_ble_eq_true rfl⟩ rfl hl.1 rfl (Nat.le_of_ble_eq_true rfl) dL_globs_915 ⟨by show (cs + 38) + 0 ≤ 1474; omega, by show (ss + 228) + 0 ≤ 38844; omega⟩) (fun H locs hW hS => ?_)
                                                                                                                                  refine lv_bipush (v := (7 : Int32)) hx hb dL_globs_918 (by decide) ?_
                                                                                                                                  have J_925 : ∀ (C_925 : Mem) , fL_globs_925 C_925 = some y0 → ∀ (cs ss : Nat), cs ≤ 1444 → ss ≤ 38664 → ∀ (H : Heap) (locs : List Loc) (ls : Array Slot), gx_W Γ C_925 M H → va_S (gA Γ) s.heap H locs → lv_has ls 2 [(0, .ref (Γ.1 0))] → W p l e rm_L_globs s m args below meth c H locs cs ss Q (F0 m 925 ls []) := by
                                                                                                                                    intro C_925 hf cs ss hcs hss H locs ls hW hS hl
                                                                                                                                    unfold fL_globs_925 at hf
                                                                                                                                    refine lv_aload_n hx hb dL_globs_925 rfl (lv_at hl 0 rfl) ?_
                                                                                                                                    obtain ⟨q926, hq926, hf⟩ := bnd_e hf
                                                                                                                                    refine gk0_i hS (gv_run (rest := []) S hG hW hS [] (c_X7_clearText l Γ C_925 M hq926) pk_X7_clearText ml_L_92 (Nat.le_of_ble_eq_true rfl) rfl rfl rfl rfl ⟨Nat.le_of_ble_eq_true rfl, Nat.le_of_ble_eq_true rfl⟩ rfl hl.1 rfl (Nat.le_of_ble_eq_true rfl) dL_globs_926 ⟨by show cs + 0 ≤ 1474; omega, by show ss + 0 ≤ 38844; omega⟩) (fun H locs hW hS => ?_)
                                                                                                                                    refine lv_pop hx hb dL_globs_929 rfl ?_
                                                                                                                                    refine lv_iconst (v := (0 : Int32)) hx hb dL_globs_930 (by decide) ?_
                                                                                                                                    refine lv_istore_n (lv' := [(1, .int (0 : Int32)), (0, .ref (Γ.1 0))]) hx hb dL_globs_931 rfl hl (by decide) rfl (fun ls hl => ?_)
                                                                                                                                    have J_932 : ∀  (t_932 : Mem × Int32), lp (fL_globs_932) t_932 = some y0 → ∀ (cs ss : Nat), cs + 1 * rmn (24 : Int32) t_932.2 ≤ 1468 → ss + 6 * rmn (24 : Int32) t_932.2 ≤ 38808 → ∀ (H : Heap) (locs : List Loc) (ls : Array Slot), gx_W Γ t_932.1 M H → va_S (gA Γ) s.heap H locs → lv_has ls 2 [(0, .ref (Γ.1 0)), (1, .int t_932.2)] → W p l e rm_L_globs s m args below meth c H locs cs ss Q (F0 m 932 ls []) := by
                                                                                                                                      refine lp_ind (P := fun (t_932 : Mem × Int32) => ∀ (cs ss : Nat), cs + 1 * rmn (24 : Int32) t_932.2 ≤ 1468 → ss + 6 * rmn (24 : Int32) t_932.2 ≤ 38808 → ∀ (H : Heap) (locs : List Loc) (ls : Array Slot), gx_W Γ t_932.1 M H → va_S (gA Γ) s.heap H locs → lv_has ls 2 [(0, .ref (Γ.1 0)), (1, .int t_932.2)] → W p l e rm_L_globs s m args below meth c H locs cs ss Q (F0 m 932 ls [])) ?_
                                                                                                                                      intro t_932 y1 hf kI1 kX1 cs ss hcs hss H locs ls hW hS hl
                                                                                                                                      unfold fL_globs_932 at hf
                                                                                                                                      refine lv_iload_n hx hb dL_globs_932 rfl (lv_at hl 1 rfl) ?_
                                                                                                                                      refine lv_bipush (v := (24 : Int32)) hx hb dL_globs_933 (by decide) ?_
                                                                                                                                      have J_987 : ∀ (C_987 : Mem) , fL_globs_987 C_987 = some y0 → ∀ (cs ss : Nat), cs ≤ 1468 → ss ≤ 38808 → ∀ (H : Heap) (locs : List Loc) (ls : Array Slot), gx_W Γ C_987 M H → va_S (gA Γ) s.heap H locs → lv_has ls 2 [(0, .ref (Γ.1 0))] → W p l e rm_L_globs s m args below meth c H locs cs ss Q (F0 m 987 ls []) := by
                                                                                                                                        intro C_987 hf cs ss hcs hss H locs ls hW hS hl
                                                                                                                                        unfold fL_globs_987 at hf
                                                                                                                                        refine lv_aload_n hx hb dL_globs_987 rfl (lv_at hl 0 rfl) ?_
                                                                                                                                        refine lv_iconst (v := (0 : Int32)) hx hb dL_globs_988 (by decide) ?_
                                                                                                                                        refine lv_bipush (v := (97 : Int32)) hx hb dL_globs_989 (by decide) ?_
                                                                                                                                        refine lv_iconst (v := (0 : Int32)) hx hb dL_globs_991 (by decide) ?_
                                                                                                                                        obtain ⟨q992, hq992, hf⟩ := bnd_e hf
                                                                                                                                        refine gk_i hS (gsw_run (rest := []) S hG hW hS [.ref (Γ.1 0), .int (0 : Int32), .int (97 : Int32), .int (0 : Int32)] (c_L_act l hl0 Γ C_987 M (0 : Int32) (97 : Int32) (0 : Int32) hq992) pk_L_act ml_L_86 rfl rfl ⟨Nat.le_of_ble_eq_true rfl, Nat.le_of_ble_eq_true rfl⟩ rfl hl.1 rfl (Nat.le_of_ble_eq_true rfl) dL_globs_992 ⟨by show cs + 3 ≤ 1474; omega, by show ss + 18 ≤ 38844; omega⟩) (fun H locs hW hS => ?_)
                                                                                                                                        refine lv_bipush (v := (-33 : Int32)) hx hb dL_globs_995 (by decide) ?_
                                                                                                                                        have J_1026 : ∀ (C_1026 : Mem) , fL_globs_1026 C_1026 = some y0 → ∀ (cs ss : Nat), cs ≤ 1474 → ss ≤ 38844 → ∀ (H : Heap) (locs : List Loc) (ls : Array Slot), gx_W Γ C_1026 M H → va_S (gA Γ) s.heap H locs → lv_has ls 2 [] → W p l e rm_L_globs s m args below meth c H locs cs ss Q (F0 m 1026 ls []) := by
                                                                                                                                          intro C_1026 hf cs ss hcs hss H locs ls hW hS hl
                                                                                                                                          unfold fL_globs_1026 at hf
                                                                                                                                          refine lv_iconst (v := (0 : Int32)) hx hb dL_globs_1026 (by decide) ?_
                                                                                                                                          have e9 := Option.some.inj hf
                                                                                                                                          exact hret _ _ _ _ _ _ _ hS rfl e9 (by show cs ≤ 1474; omega) (by show ss ≤ 38844; omega) dL_globs_1027
                                                                                                                                        refine lv_icmp_ne (tgt := 1026) hx hb dL_globs_997 (by decide) (fun c997 => ?_) (fun c997 => ?_)
                                                                                                                                        · have hf := cn_f c997 hf
                                                                                                                                          exact J_1026 q992.2 hf (cs + 3) (ss + 18) (by omega) (by omega) H locs ls hW hS (lv_sub hl [] rfl)
                                                                                                                                        · have hf := cn_t c997 hf
                                                                                                                                          refine lv_aload_n hx hb dL_globs_1000 rfl (lv_at hl 0 rfl) ?_
                                                                                                                                          refine lv_iconst (v := (0 : Int32)) hx hb dL_globs_1001 (by decide) ?_
                                                                                                                                          refine lv_bipush (v := (65 : Int32)) hx hb dL_globs_1002 (by decide) ?_
                                                                                                                                          refine lv_iconst (v := (0 : Int32)) hx hb dL_globs_1004 (by decide) ?_
                                                                                                                                          obtain ⟨q1005, hq1005, hf⟩ := bnd_e hf
                                                                                                                                          refine gk_i hS (gsw_run (rest := []) S hG hW hS [.ref (Γ.1 0), .int (0 : Int32), .int (65 : Int32), .int (0 : Int32)] (c_L_act l hl0 Γ q992.2 M (0 : Int32) (65 : Int32) (0 : Int32) hq1005) pk_L_act ml_L_86 rfl rfl ⟨Nat.le_of_ble_eq_true rfl, Nat.le_of_ble_eq_true rfl⟩ rfl hl.1 rfl (Nat.le_of_ble_eq_true rfl) dL_globs_1005 ⟨by show (cs + 3) + 3 ≤ 1474; omega, by show (ss + 18) + 18 ≤ 38844; omega⟩) (fun H locs hW hS => ?_)
                                                                                                                                          refine lv_bipush (v := (-32 : Int32)) hx hb dL_globs_1008 (by decide) ?_
                                                                                                                                          refine lv_icmp_ne (tgt := 1026) hx hb dL_globs_1010 (by decide) (fun c1010 => ?_) (fun c1010 => ?_)
                                                                                                                                          · have hf := cn_f c1010 hf
                                                                                                                                            exact J_1026 q1005.2 hf (cs + 6) (ss + 36) (by omega) (by omega) H locs ls hW hS (lv_sub hl [] rfl)
                                                                                                                                          · have hf := cn_t c1010 hf
                                                                                                                                            refine lv_aload_n hx hb dL_globs_1013 rfl (lv_at hl 0 rfl) ?_
                                                                                                                                            obtain ⟨q1014, hq1014, hf⟩ := bnd_e hf
                                                                                                                                            refine gk0_i hS (gv_run (rest := []) S hG hW hS [] (c_X7_clearText l Γ q1005.2 M hq1014) pk_X7_clearText ml_L_92 (Nat.le_of_ble_eq_true rfl) rfl rfl rfl rfl ⟨Nat.le_of_ble_eq_true rfl, Nat.le_of_ble_eq_true rfl⟩ rfl hl.1 rfl (Nat.le_of_ble_eq_true rfl) dL_globs_1014 ⟨by show (cs + 6) + 0 ≤ 1474; omega, by show (ss + 36) + 0 ≤ 38844; omega⟩) (fun H locs hW hS => ?_)
                                                                                                                                            refine lv_bipush (v := (24 : Int32)) hx hb dL_globs_1017 (by decide) ?_
                                                                                                                                            refine lv_icmp_ne (tgt := 1026) hx hb dL_globs_1019 (by decide) (fun c1019 => ?_) (fun c1019 => ?_)
                                                                                                                                            · have hf := cn_f c1019 hf
                                                                                                                                              exact J_1026 q1014.2 hf (cs + 6) (ss + 36) (by omega) (by omega) H locs ls hW hS (lv_sub hl [] rfl)
                                                                                                                                            · have hf := cn_t c1019 hf
                                                                                                                                              refine lv_iconst (v := (1 : Int32)) hx hb dL_globs_1022 (by decide) ?_
                                                                                                                                              refine lv_goto (tgt := 1027) hx hb dL_globs_1023 (by decide) ?_
                                                                                                                                              have e9 := Option.some.inj hf
                                                                                                                                              exact hret _ _ _ _ _ _ _ hS rfl e9 (by show (cs + 6) ≤ 1474; omega) (by show (ss + 36) ≤ 38844; omega) dL_globs_1027
                                                                                                                                      refine lv_icmp_ge (tgt := 987) hx hb dL_globs_935 (by decide) (fun c935 => ?_) (fun c935 => ?_)
                                                                                                                                      · have hf := cn_t c935 hf
                                                                                                                                        obtain ⟨z935, hf, ez⟩ := exR_e hf
                                                                                                                                        rw [kX1 _ ez] at hf
                                                                                                                                        exact J_987 t_932.1 hf cs ss (by omega) (by omega) H locs ls hW hS (lv_sub hl [0] rfl)
                                                                                                                                      · have hf := cn_f c935 hf
                                                                                                                                        have r932 := rmn_s c935
                                                                                                                                        refine lv_aload_n hx hb dL_globs_938 rfl (lv_at hl 0 rfl) ?_
                                                                                                                                        refine lv_iload_n hx hb dL_globs_939 rfl (lv_at hl 1 rfl) ?_
                                                                                                                                        refine lv_iconst (v := (2 : Int32)) hx hb dL_globs_940 (by decide) ?_
                                                                                                                                        refine lv_irem hx hb dL_globs_941 (by decide) ?_
                                                                                                                                        have J_952 : ∀ (C_952 : Mem) (s0_952 : Int32) , fL_globs_952 t_932 C_952 s0_952 = some y1 → ∀ (cs ss : Nat), cs + 1 * rmn (24 : Int32) t_932.2 ≤ 1468 → ss + 6 * rmn (24 : Int32) t_932.2 ≤ 38808 → ∀ (H : Heap) (locs : List Loc) (ls : Array Slot), gx_W Γ C_952 M H → va_S (gA Γ) s.heap H locs → lv_has ls 2 [(0, .ref (Γ.1 0)), (1, .int t_932.2)] → W p l e rm_L_globs s m args below meth c H locs cs ss Q (F0 m 952 ls [.int s0_952, .ref (Γ.1 0)]) := by
                                                                                                                                          intro C_952 s0_952 hf cs ss hcs hss H locs ls hW hS hl
                                                                                                                                          unfold fL_globs_952 at hf
                                                                                                                                          obtain ⟨q952, hq952, hf⟩ := bnd_e hf
                                                                                                                                          refine gxk_i hS (gvx_run (rest := []) S hG hW hS [.int s0_952] (c_X7_type l hl0 Γ C_952 M s0_952 hq952) pk_X7_type rfl ml_L_7 rfl rfl ⟨Nat.le_of_ble_eq_true rfl, Nat.le_of_ble_eq_true rfl⟩ rfl hl.1 rfl (Nat.le_of_ble_eq_true rfl) dL_globs_952 ⟨by show cs + 1 ≤ 1474; omega, by show ss + 6 ≤ 38844; omega⟩) (fun H locs k9 ce9 z9 hW hS e9 hce hcv hcl => by have hf := sw_r e9 hf; cases hf) (fun H locs v952 hW hS e9 => ?_)
                                                                                                                                          have hf := sw_l e9 hf
                                                                                                                                          refine lv_iload_n hx hb dL_globs_955 rfl (lv_at hl 1 rfl) ?_
                                                                                                                                          refine lv_iconst (v := (1 : Int32)) hx hb dL_globs_956 (by decide) ?_
                                                                                                                                          refine lv_iadd hx hb dL_globs_957 ?_
                                                                                                                                          have J_979 : ∀ (C_979 : Mem) , fL_globs_979 C_979 = some y0 → ∀ (cs ss : Nat), cs ≤ 1469 → ss ≤ 38814 → ∀ (H : Heap) (locs : List Loc) (ls : Array Slot), gx_W Γ C_979 M H → va_S (gA Γ) s.heap H locs → lv_has ls 2 [] → W p l e rm_L_globs s m args below meth c H locs cs ss Q (F0 m 979 ls []) := by
                                                                                                                                            intro C_979 hf cs ss hcs hss H locs ls hW hS hl
                                                                                                                                            unfold fL_globs_979 at hf
                                                                                                                                            refine lv_iconst (v := (0 : Int32)) hx hb dL_globs_979 (by decide) ?_
                                                                                                                                            have e9 := Option.some.inj hf
                                                                                                                                            exact hret _ _ _ _ _ _ _ hS rfl e9 (by show cs ≤ 1474; omega) (by show ss ≤ 38844; omega) dL_globs_980
                                                                                                                                          refine lv_icmp_ne (tgt := 979) hx hb dL_globs_958 (by decide) (fun c958 => ?_) (fun c958 => ?_)
                                                                                                                                          · have hf := cn_f c958 hf
                                                                                                                                            obtain ⟨z958, hf, ez⟩ := exR_e hf
                                                                                                                                            rw [kX1 _ ez] at hf
                                                                                                                                            exact J_979 q952.2 hf (cs + 1) (ss + 6) (by omega) (by omega) H locs ls hW hS (lv_sub hl [] rfl)
                                                                                                                                          · have hf := cn_t c958 hf
                                                                                                                                            refine lv_aload_n hx hb dL_globs_961 rfl (lv_at hl 0 rfl) ?_
                                                                                                                                            obtain ⟨q962, hq962, hf⟩ := bnd_e hf
                                                                                                                                            refine gk0_i hS (gs_run (rest := []) S hG hW hS [.ref (Γ.1 0)] (c_L_kind l Γ q952.2 M hq962) pk_L_kind ml_L_117 rfl rfl ⟨Nat.le_of_ble_eq_true rfl, Nat.le_of_ble_eq_true rfl⟩ rfl hl.1 rfl (Nat.le_of_ble_eq_true rfl) dL_globs_962 ⟨by show (cs + 1) + 0 ≤ 1474; omega, by show (ss + 6) + 0 ≤ 38844; omega⟩) (fun H locs hW hS => ?_)
                                                                                                                                            refine lv_iload_n hx hb dL_globs_965 rfl (lv_at hl 1 rfl) ?_
                                                                                                                                            refine lv_iconst (v := (2 : Int32)) hx hb dL_globs_966 (by decide) ?_
                                                                                                                                            refine lv_irem hx hb dL_globs_967 (by decide) ?_
                                                                                                                                            have J_976 : ∀ (C_976 : Mem) (s0_976 : Int32) (s1_976 : Int32) , fL_globs_976 t_932 C_976 s0_976 s1_976 = some y1 → ∀ (cs ss : Nat), cs + 1 * rmn (24 : Int32) t_932.2 ≤ 1469 → ss + 6 * rmn (24 : Int32) t_932.2 ≤ 38814 → ∀ (H : Heap) (locs : List Loc) (ls : Array Slot), gx_W Γ C_976 M H → va_S (gA Γ) s.heap H locs → lv_has ls 2 [(0, .ref (Γ.1 0)), (1, .int t_932.2)] → W p l e rm_L_globs s m args below meth c H locs cs ss Q (F0 m 976 ls [.int s0_976, .int s1_976]) := by
                                                                                                                                              intro C_976 s0_976 s1_976 hf cs ss hcs hss H locs ls hW hS hl
                                                                                                                                              unfold fL_globs_976 at hf
                                                                                                                                              have J_981 : ∀ (C_981 : Mem) , fL_globs_981 t_932 C_981 = some y1 → ∀ (cs ss : Nat), cs + 1 * rmn (24 : Int32) t_932.2 ≤ 1469 → ss + 6 * rmn (24 : Int32) t_932.2 ≤ 38814 → ∀ (H : Heap) (locs : List Loc) (ls : Array Slot), gx_W Γ C_981 M H → va_S (gA Γ) s.heap H locs → lv_has ls 2 [(0, .ref (Γ.1 0)), (1, .int t_932.2)] → W p l e rm_L_globs s m args below meth c H locs cs ss Q (F0 m 981 ls []) := by
                                                                                                                                                intro C_981 hf cs ss hcs hss H locs ls hW hS hl
                                                                                                                                                unfold fL_globs_981 at hf
                                                                                                                                                refine lv_iinc (v := (t_932.2 + (1 : Int32))) (lv' := [(1, .int (t_932.2 + (1 : Int32))), (0, .ref (Γ.1 0))]) hx hb dL_globs_981 hl (k := 1) rfl rfl (by decide) rfl (fun ls hl => ?_)
                                                                                                                                                refine lv_goto (tgt := 932) hx hb dL_globs_984 (by decide) ?_
                                                                                                                                                exact kI1 _ (Option.some.inj hf).symm cs ss (by show cs + 1 * rmn (24 : Int32) (t_932.2 + (1 : Int32)) ≤ 1468; omega) (by show ss + 6 * rmn (24 : Int32) (t_932.2 + (1 : Int32)) ≤ 38808; omega) H locs ls hW hS (lv_sub hl [1, 0] rfl)
                                                                                                                                              refine lv_icmp_eq (tgt := 981) hx hb dL_globs_976 (by decide) (fun c976 => ?_) (fun c976 => ?_)
                                                                                                                                              · have hf := cn_t c976 hf
                                                                                                                                                exact J_981 C_976 hf cs ss (by omega) (by omega) H locs ls hW hS (lv_sub hl [0, 1] rfl)
                                                                                                                                              · have hf := cn_f c976 hf
                                                                                                                                                obtain ⟨z976, hf, ez⟩ := exR_e hf
                                                                                                                                                rw [kX1 _ ez] at hf
                                                                                                                                                exact J_979 C_976 hf cs ss (by omega) (by omega) H locs ls hW hS (lv_sub hl [] rfl)
                                                                                                                                            refine lv_if_ne (tgt := 975) hx hb dL_globs_968 (by decide) (fun c968 => ?_) (fun c968 => ?_)
                                                                                                                                            · have hf := cn_f c968 hf
                                                                                                                                              refine lv_iconst (v := (0 : Int32)) hx hb dL_globs_975 (by decide) ?_
                                                                                                                                              exact J_976 q952.2 (0 : Int32) q962 hf (cs + 1) (ss + 6) (by omega) (by omega) H locs ls hW hS (lv_sub hl [0, 1] rfl)
                                                                                                                                            · have hf := cn_t c968 hf
                                                                                                                                              refine lv_iconst (v := (3 : Int32)) hx hb dL_globs_971 (by decide) ?_
                                                                                                                                              refine lv_goto (tgt := 976) hx hb dL_globs_972 (by decide) ?_
                                                                                                                                              exact J_976 q952.2 (3 : Int32) q962 hf (cs + 1) (ss + 6) (by omega) (by omega) H locs ls hW hS (lv_sub hl [0, 1] rfl)
                                                                                                                                        refine lv_if_ne (tgt := 950) hx hb dL_globs_942 (by decide) (fun c942 => ?_) (fun c942 => ?_)
                                                                                                                                        · have hf := cn_f c942 hf
                                                                                                                                          refine lv_bipush (v := (47 : Int32)) hx hb dL_globs_950 (by decide) ?_
                                                                                                                                          exact J_952 t_932.1 (47 : Int32) hf cs ss (by omega) (by omega) H locs ls hW hS (lv_sub hl [0, 1] rfl)
                                                                                                                                        · have hf := cn_t c942 hf
                                                                                                                                          refine lv_bipush (v := (122 : Int32)) hx hb dL_globs_945 (by decide) ?_
                                                                                                                                          refine lv_goto (tgt := 952) hx hb dL_globs_947 (by decide) ?_
                                                                                                                                          exact J_952 t_932.1 (122 : Int32) hf cs ss (by omega) (by omega) H locs ls hW hS (lv_sub hl [0, 1] rfl)
                                                                                                                                    exact J_932  (q926.2, (0 : Int32)) hf cs ss (by have e9 : rmn (24 : Int32) (0 : Int32) = 24 := (by decide); show cs + 1 * rmn (24 : Int32) (0 : Int32) ≤ 1468; omega) (by have e9 : rmn (24 : Int32) (0 : Int32) = 24 := (by decide); show ss + 6 * rmn (24 : Int32) (0 : Int32) ≤ 38808; omega) H locs ls hW hS (lv_sub hl [1, 0] rfl)
                                                                                                                                  refine lv_icmp_eq (tgt := 925) hx hb dL_globs_920 (by decide) (fun c920 => ?_) (fun c920 => ?_)
                                                                                                                                  · have hf := cn_t c920 hf
                                                                                                                                    exact J_925 q906.2 hf (cs + 38) (ss + 228) (by omega) (by omega) H locs ls hW hS (lv_sub hl [0] rfl)
                                                                                                                                  · have hf := cn_f c920 hf
                                                                                                                                    exact J_923 q906.2 hf (cs + 38) (ss + 228) (by omega) (by omega) H locs ls hW hS (lv_sub hl [] rfl)
                                                                                                              refine lv_icmp_eq (tgt := 810) hx hb dL_globs_805 (by decide) (fun c805 => ?_) (fun c805 => ?_)
                                                                                                              · have hf := cn_t c805 hf
                                                                                                                exact J_810 q800.2 hf (cs + 387) (ss + 2322) (by omega) (by omega) H locs ls hW hS (lv_sub hl [0] rfl)
                                                                                                              · have hf := cn_f c805 hf
                                                                                                                exact J_808 q800.2 hf (cs + 387) (ss + 2322) (by omega) (by omega) H locs ls hW hS (lv_sub hl [] rfl)
                                                                  refine lv_icmp_eq (tgt := 452) hx hb dL_globs_447 (by decide) (fun c447 => ?_) (fun c447 => ?_)
                                                                  · have hf := cn_t c447 hf
                                                                    exact J_452 q425.2 hf (cs + 81) (ss + 486) (by omega) (by omega) H locs ls hW hS (lv_sub hl [0] rfl)
                                                                  · have hf := cn_f c447 hf
                                                                    exact J_450 q425.2 hf (cs + 81) (ss + 486) (by omega) (by omega) H locs ls hW hS (lv_sub hl [] rfl)
                                            refine lv_icmp_eq (tgt := 310) hx hb dL_globs_305 (by decide) (fun c305 => ?_) (fun c305 => ?_)
                                            · have hf := cn_t c305 hf
                                              exact J_310 q292.2 hf (cs + 99) (ss + 594) (by omega) (by omega) H locs ls hW hS (lv_sub hl [0] rfl)
                                            · have hf := cn_f c305 hf
                                              exact J_308 q292.2 hf (cs + 99) (ss + 594) (by omega) (by omega) H locs ls hW hS (lv_sub hl [] rfl)
                      refine lv_if_eq (tgt := 157) hx hb dL_globs_152 (by decide) (fun c152 => ?_) (fun c152 => ?_)
                      · have hf := cn_t c152 hf
                        exact J_157 q142.2 hf (cs + 99) (ss + 594) (by omega) (by omega) H locs ls hW hS (lv_sub hl [0] rfl)
                      · have hf := cn_f c152 hf
                        exact J_155 q142.2 hf (cs + 99) (ss + 594) (by omega) (by omega) H locs ls hW hS (lv_sub hl [] rfl)
