variable {ou : Int32}
theorem op_addFile {C M : Mem} {σ : Ab} (w : WF σ) (r : RC C σ) (s : RM ou M σ) (x : Int32) : Opp ou wr_12 (fX7_addFile C x) (fX8_addFile M x) := by
  have hnf := w.nf
  have s1 := RM_thr (x := nI 1) s
  have s0 := RM_thr (x := nI 0) s
  have m19 : fX8_addFile_19 M x = some (nI 0, mset M 475 26 (nI 1)) := by
    unfold fX8_addFile_19 fX8_addFile_24
    rw [show (1 : Int32) = nI 1 from rfl, mset_eq, cnd_f (p := nI 1 ≤ 0) (by decide)]
    rfl
  have bad1 : fX7_addFile C x = some (.inr 1, C) → fX8_addFile M x = fX8_addFile_19 M x → Opp ou wr_12 (fX7_addFile C x) (fX8_addFile M x) := by
    intro h1 h2
    exact ⟨C, mset M 475 26 (nI 1), σ, w, r, s1, Or.inr ⟨1, nI 0, h1, by rw [h2, m19], mset_eq, by decide, by decide⟩⟩
  have badc : fX7_requireContent x = some (.inr 1) → fX8_isIn x 0 9999 = nI 0 → Opp ou wr_12 (fX7_addFile C x) (fX8_addFile M x) := by
    intro h1 h2
    refine bad1 ?_ ?_
    · unfold fX7_addFile
      rw [h1]
      rfl
    · unfold fX8_addFile
      rw [h2, cnd00]
  rcases nI_cs x with hx | ⟨v, hv, rfl⟩
  · exact badc (c_cont0 hx) (m_in0 hx _)
  · by_cases hc : v ≤ 9999
    · have a1 : fX7_requireContent (nI v) = some (.inl (nI 0)) := by rw [c_cont hv, cnd_t hc]
      have a2 : fX8_isIn (nI v) 0 9999 = nI 1 := by rw [li_9999, m_in hv (by decide), cnd_t hc]
      by_cases hp : isP σ.tn σ.tf
      · have hcl : fX7_addFile C (nI v) = cnd (fX0_isThere C (nI (σ.fo σ.nf)) = (0 : Int32)) (cnd (nI (σ.fo σ.nf) = (-1 : Int32)) (cnd ((fX0_isFull C) = (0 : Int32)) (fX7_addFile_83 C (nI v) (nI (σ.fo σ.nf))) (some (.inr 2, C))) (fX7_addFile_83 C (nI v) (nI (σ.fo σ.nf)))) (some (.inr 2, C)) := by
          unfold fX7_addFile
          rw [a1]
          simp only [bnd_s, sw]
          rw [tx_path r.tx, cnd_t hp, bnd_s, cnd10, c_no w r, bnd_s]
        have hml : fX8_addFile M (nI v) = fX8_addFile_24 M (nI v) (nI 0) := by
          unfold fX8_addFile
          rw [a2, cnd10, mt_path s.tx, cnd_t hp, bnd_s, cnd10]
          rfl
        have m77 : fX8_addFile_77 (nI v) (nI (σ.fo σ.nf)) (mset M 475 26 (nI 0)) (2 : Int32) = some (nI 0, mset (mset M 475 26 (nI 0)) 475 26 (nI 2)) := by
          unfold fX8_addFile_77
          rw [show (2 : Int32) = nI 2 from rfl, mset_eq, cnd_f (p := nI 2 ≤ 0) (by decide)]
          rfl
        have bad2 : fX7_addFile C (nI v) = some (.inr 2, C) → fX8_addFile M (nI v) = fX8_addFile_77 (nI v) (nI (σ.fo σ.nf)) (mset M 475 26 (nI 0)) (2 : Int32) → Opp ou wr_12 (fX7_addFile C (nI v)) (fX8_addFile M (nI v)) := by
          intro h1 h2
          exact ⟨C, mset (mset M 475 26 (nI 0)) 475 26 (nI 2), σ, w, r, RM_th2 s, Or.inr ⟨2, nI 0, h1, by rw [h2, m77], mset_eq, by decide, by decide⟩⟩
        rcases fo_lt σ σ.nf with ⟨f1, f2⟩ | ⟨f1, f2⟩
        · have hneg : ¬ nI (σ.fo σ.nf) = (-1 : Int32) := by
            rw [li_m1, nI_m1 (by omega)]
            exact fun q => q
          have hm24 : fX8_addFile_24 M (nI v) (nI 0) = cnd (nI (if σ.th.testBit (σ.fo σ.nf) then 1 else 0) = 0) (fX8_addFile_77 (nI v) (nI (σ.fo σ.nf)) (mset M 475 26 (nI 0)) (0 : Int32)) (fX8_addFile_77 (nI v) (nI (σ.fo σ.nf)) (mset M 475 26 (nI 0)) (2 : Int32)) := by
            unfold fX8_addFile_24
            rw [mset_eq, cnd_t (p := nI 0 ≤ 0) (by decide), m_fo w s0, bnd_s, cnd_t (p := (0 : Int32) ≤ nI (σ.fo σ.nf)) (nI_le (a := 0) (Nat.zero_le _) (by omega)), nI_clamp (by omega), s0.th _ (by omega), chk_t (by rw [vp_nI (by omega)]; omega)]
          by_cases ht : σ.th.testBit (σ.fo σ.nf) = true
          · refine bad2 ?_ ?_
            · rw [hcl, c_there w r (by omega), cnd_t ht, cnd10]
            · rw [hml, hm24, if_pos ht, cnd10]
          · refine ⟨_, _, σ.put (σ.fo σ.nf) v, WF_put w f1 hc, RC_put r, RM_put (RM_th2 (x := nI 0) (y := nI 0) s), Or.inl ⟨nI (σ.fo σ.nf), ?_, ?_, ?_⟩⟩
            · rw [hcl, c_there w r (by omega), cnd_f ht, cnd00, cnd_f hneg]
              unfold fX7_addFile_83 fX7_addFile_93
              rw [cnd_f hneg, c_put w r (by omega), bnd_s]
            · rw [hml, hm24, if_neg ht, cnd00]
              unfold fX8_addFile_77 fX8_addFile_161
              rw [show (0 : Int32) = nI 0 from rfl, show (1 : Int32) = nI 1 from rfl, mset_eq, cnd_t (p := nI 0 ≤ nI 0) (by decide), cnd_t (nI_le (a := 0) (Nat.zero_le _) (by omega)), nI_clamp (by omega), px_b1, chk_t (by rw [vp_nI (by omega)]; omega), chk_t (by rw [vp_nI (by omega)]; omega)]
            · rw [mset_ne (by omega), mset_ne (by omega)]
              exact mset_eq
        · have hcl2 : fX7_addFile C (nI v) = cnd ((fX0_isFull C) = (0 : Int32)) (fX7_addFile_83 C (nI v) (nI 4294967295)) (some (.inr 2, C)) := by
            rw [hcl, f1, c_there0 C (by decide), cnd00, li_m1, cnd_t rfl]
          have hm24 : fX8_addFile_24 M (nI v) (nI 0) = cnd (nI σ.nf = (24 : Int32)) (fX8_addFile_77 (nI v) (nI (σ.fo σ.nf)) (mset M 475 26 (nI 0)) (2 : Int32)) (fX8_addFile_77 (nI v) (nI (σ.fo σ.nf)) (mset M 475 26 (nI 0)) (0 : Int32)) := by
            unfold fX8_addFile_24
            rw [mset_eq, cnd_t (p := nI 0 ≤ 0) (by decide), m_fo w s0, bnd_s, f1, cnd_f (p := (0 : Int32) ≤ nI 4294967295) (by decide), s0.nf]
          by_cases hf : σ.nf = 24
          · refine bad2 ?_ ?_
            · rw [hcl2]
              unfold fX0_isFull
              rw [r.nf, hf, cnd_f (p := nI 24 < 24) (by decide), cnd_f (p := (1 : Int32) = 0) (by decide)]
            · rw [hml, hm24, hf, cnd_t (p := nI 24 = 24) rfl]
          · obtain ⟨C4, g1, g2, g3⟩ := c_new v w r (by omega) hp
            obtain ⟨M4, k1, k2, k3⟩ := m_new (v := v) w (RM_th2 (x := nI 0) (y := nI 0) s) (by omega)
            refine ⟨_, M4, σ.new v, WF_new w (by omega) hc hp f2, g2, k2, Or.inl ⟨nI σ.nf, ?_, ?_, ?_⟩⟩
            · rw [hcl2]
              unfold fX0_isFull fX7_addFile_83 fX7_addFile_93
              rw [r.nf, li_24, cnd_t (p := nI σ.nf < nI 24) (nI_lt (by omega) (by omega)), cnd_t (p := (0 : Int32) = 0) rfl, li_m1, cnd_t rfl, g1, bnd_s]
              show bnd (fX0_put C4 (nI σ.nf) (nI v)) _ = _
              unfold fX0_put
              have q1 : mset C4 5 σ.nf (nI v) 3 4 = nI σ.th := by rw [mset_ne (by omega)]; exact g3
              have q2 : (1 : Int32) <<< (nI σ.nf &&& 31) = nI (2 ^ σ.nf) := by
                simp only [li_1, li_31]
                rw [px_shl (by omega), Nat.one_mul]
              rw [nI_clamp (by omega), q1, q2, nx_or, chk_t (by rw [vp_nI (by omega)]; omega), bnd_s]
            · rw [hml, hm24, cnd_f (by rw [li_24, nI_eq (by omega) (by omega)]; exact hf), f1]
              unfold fX8_addFile_77
              simp only [nmv]
              have q3 : mset (mset M 475 26 (nI 0)) 475 26 (nI 0) 475 2 = nI σ.nf := by rw [mset_ne (by omega), mset_ne (by omega)]; exact s.nf
              rw [show (0 : Int32) = nI 0 from rfl, mset_eq, cnd_t (p := nI 0 ≤ nI 0) (by decide), cnd_f (p := nI 0 ≤ nI 4294967295) (by decide), q3]
              exact k1
            · rw [k3]
              exact mset_eq
      · refine bad1 ?_ ?_
        · unfold fX7_addFile
          rw [a1]
          simp only [bnd_s, sw]
          rw [tx_path r.tx, cnd_f hp, bnd_s, cnd00]
        · unfold fX8_addFile
          rw [a2, cnd10, mt_path s.tx, cnd_f hp, bnd_s, cnd00]
    · exact badc (by rw [c_cont hv, cnd_f hc]) (by rw [li_9999, m_in hv (by decide), cnd_f hc])
