/-! ===== Layer 2: what is asked of how all is ===== -/
theorem tk_ask {μ μ1 μ3 : tk_M} (hR : tk_R μ) (hf1 : tk_f1 21 30 μ μ1) (hf3 : tk_f1 116 120 (tk_set μ1 96 24 0) μ3) : tk_R μ3 ∧ tk_mv μ3 = tk_mv μ := by
  have h1 : tk_mv (tk_set μ1 96 24 0) = tk_mv μ := by rw [tk_mv_ob (by omega), tk_mv_f1 hf1 (by omega)]
  have h3 : tk_mv μ3 = tk_mv μ := by rw [tk_mv_f1 hf3 (by omega), h1]
  refine ⟨tk_R_sc hR (fun o i ho => ?_) (by rw [h3]; exact tk_CC_r), h3⟩
  unfold tk_sc2 at ho
  rw [hf3 o i (by omega)]
  unfold tk_set
  rw [if_neg (by omega)]
  exact hf1 o i (by omega)
theorem tk_ask_m {μ μ1 : tk_M} (hf1 : tk_f1 21 30 μ μ1) : tk_mv (tk_set μ1 96 24 0) = tk_mv μ := by rw [tk_mv_ob (by omega), tk_mv_f1 hf1 (by omega)]
theorem m_readyBits {b : Int} {sh : Int → Int} {μ : tk_M} {Q : Int → tk_M → Prop} (hJ : tk_J b (tk_mv μ)) (hm : tk_mq sh μ) (hb : tk_shb sh) (hQ : ∀ r, tk_bs2 8 r → (∀ c, tk_bit r c ↔ (0 ≤ c ∧ c < μ 96 5) ∧ tk_rd sh (tk_mv μ) c = 1) → Q r μ) : tkF_X7_readyBits [96] Q μ := by
  obtain ⟨g1, g2, g3, g4, g5⟩ := tk_mJ hJ
  simp [tk_fn, tk_env, tk_sq, tk_sk, tk_if, tk_re, tk_rez, tk_rev, tk_xp, tk_se, tk_pf, tk_pfz, tk_pfo, tk_as, tk_asz, tk_asb, tk_aso, tk_cpy, tk_sw, tk_swc, tk_lit, tk_loc, tk_u1, tk_bin, tk_dv, tk_gf, tk_gr, tk_gn, tk_ald, tk_aldq, tk_aln, tk_unl, tk_una, tk_ter, tk_args, tk_cs, tk_cv, tk_ceq, tk_cne, tk_clt, tk_cge, tk_cgt, tk_cle, tk_zeq, tk_zne, tk_zlt, tk_zge, tk_zgt, tk_zle, tk_and, tk_or, tk_not, tk_ct2, tk_isC, List.headD_cons, tk_up, tk_sca, tk_scl, tkF_X7_readyBits, tkS_X7_readyBits]
  refine tk_for (μ 96 5) (fun i ρ μ' => μ' = μ ∧ ρ 0 = 96 ∧ ρ 2 = i ∧ tk_bs2 8 (ρ 1) ∧ ∀ c, tk_bit (ρ 1) c ↔ (0 ≤ c ∧ c < i) ∧ tk_rd sh (tk_mv μ) c = 1) g1.1 ⟨rfl, rfl, rfl, tk_bs_0 8, fun c => ⟨fun z => absurd z (tk_bit_z c), fun z => by omega⟩⟩ ?_ ?_
  · rintro i ρ μ' hi0 hi6 ⟨rfl, r0, r2, hs, hr⟩ K hK
    have i1 : tk_iadd i 1 = i + 1 := tk_iadd_id (by omega) (by omega)
    simp [tk_fn, tk_env, tk_sq, tk_sk, tk_if, tk_re, tk_rez, tk_rev, tk_xp, tk_se, tk_pf, tk_pfz, tk_pfo, tk_as, tk_asz, tk_asb, tk_aso, tk_cpy, tk_sw, tk_swc, tk_lit, tk_loc, tk_u1, tk_bin, tk_dv, tk_gf, tk_gr, tk_gn, tk_ald, tk_aldq, tk_aln, tk_unl, tk_una, tk_ter, tk_args, tk_cs, tk_cv, tk_ceq, tk_cne, tk_clt, tk_cge, tk_cgt, tk_cle, tk_zeq, tk_zne, tk_zlt, tk_zge, tk_zgt, tk_zle, tk_and, tk_or, tk_not, tk_ct2, tk_isC, List.headD_cons, tk_up, tk_sca, tk_scl, r0, r2, hi6, i1]
    refine m_isReady hJ hm hb ⟨hi0, hi6⟩ ?_
    rcases tk_rd_01 (sh := sh) (S := tk_mv μ') (c := i) with h | h
    · rw [h]
      simp
      refine hK _ _ ⟨rfl, r0, rfl, tk_bs_or (by omega) hs (tk_bs_0 8), fun c => ?_⟩
      show tk_bit (tk_ior (ρ 1) 0) c ↔ _
      rw [tk_bit_or (n := 8) (by omega) hs (tk_bs_0 8), hr]
      constructor
      · rintro (⟨z1, z2⟩ | z)
        · exact ⟨by omega, z2⟩
        · exact absurd z (tk_bit_z c)
      · rintro ⟨z1, z2⟩
        by_cases hc : c = i
        · subst hc; omega
        · exact .inl ⟨by omega, z2⟩
    · rw [h]
      simp
      have hsh := tk_bs_sh (n := 8) (j := i) ⟨hi0, by omega⟩ (by omega)
      refine hK _ _ ⟨rfl, r0, rfl, tk_bs_or (by omega) hs hsh, fun c => ?_⟩
      show tk_bit (tk_ior (ρ 1) (tk_ishl 1 i)) c ↔ _
      rw [tk_bit_or (n := 8) (by omega) hs hsh, hr, tk_bit_sh (by omega)]
      constructor
      · rintro (⟨z1, z2⟩ | z)
        · exact ⟨by omega, z2⟩
        · subst z; exact ⟨by omega, h⟩
      · rintro ⟨z1, z2⟩
        by_cases hc : c = i
        · exact .inr hc
        · exact .inl ⟨by omega, z2⟩
  · rintro ρ μ' ⟨rfl, r0, r2, hs, hr⟩ X
    simp [tk_fn, tk_env, tk_sq, tk_sk, tk_if, tk_re, tk_rez, tk_rev, tk_xp, tk_se, tk_pf, tk_pfz, tk_pfo, tk_as, tk_asz, tk_asb, tk_aso, tk_cpy, tk_sw, tk_swc, tk_lit, tk_loc, tk_u1, tk_bin, tk_dv, tk_gf, tk_gr, tk_gn, tk_ald, tk_aldq, tk_aln, tk_unl, tk_una, tk_ter, tk_args, tk_cs, tk_cv, tk_ceq, tk_cne, tk_clt, tk_cge, tk_cgt, tk_cle, tk_zeq, tk_zne, tk_zlt, tk_zge, tk_zgt, tk_zle, tk_and, tk_or, tk_not, tk_ct2, tk_isC, List.headD_cons, tk_up, tk_sca, tk_scl, r0, r2]
    exact hQ _ hs hr
theorem c_told (w : Int) : tk_cp tkF_X6_told tkF_X7_told [w] := by
  intro μ hR K hK; have hT := tk_R_thr (v := 0) hR; obtain ⟨hE, hI, hIm⟩ := tk_R_S hR; obtain ⟨e1, e2, e3, e4, e5, e6, e7, e8, e9, hc, hn, hm, hk⟩ := tk_R_n hR; have hJx := (tk_J_of hI).1; have hJm := (tk_J_of hIm).1; have hshb := tk_shr_shb hI.1 hI.2.1 (tk_I5s hI).2.2.2.1; have hshe := tk_shr_EE hE hI; have hQE := tk_EQ_of hE
  simp [tk_fn, tk_env, tk_sq, tk_sk, tk_if, tk_re, tk_rez, tk_rev, tk_xp, tk_se, tk_pf, tk_pfz, tk_pfo, tk_as, tk_asz, tk_asb, tk_aso, tk_cpy, tk_sw, tk_swc, tk_lit, tk_loc, tk_u1, tk_bin, tk_dv, tk_gf, tk_gr, tk_gn, tk_ald, tk_aldq, tk_aln, tk_unl, tk_una, tk_ter, tk_args, tk_cs, tk_cv, tk_ceq, tk_cne, tk_clt, tk_cge, tk_cgt, tk_cle, tk_zeq, tk_zne, tk_zlt, tk_zge, tk_zgt, tk_zle, tk_and, tk_or, tk_not, tk_ct2, tk_isC, List.headD_cons, tk_up, tk_sca, tk_scl, tkF_X6_told, tkS_X6_told]
  refine x_refresh1 (tk_I5s hI) (tk_J_w hJx (by omega)) (fun μ1 hf1 hs1 hd1 hw1 ha1 => ?_); have hT1 : tk_hw 1 μ1 = tk_hw 1 μ := tk_hw_f1 hf1 (by omega); have hM1 := tk_ask_m hf1
  have d3 : μ1 1 3 = μ 1 3 := hf1 _ _ (by omega)
  have d4 : μ1 1 4 = μ 1 4 := hf1 _ _ (by omega)
  by_cases h0 : w = 0
  · simp [h0, tk_fn, tk_env, tk_sq, tk_sk, tk_if, tk_re, tk_rez, tk_rev, tk_xp, tk_se, tk_pf, tk_pfz, tk_pfo, tk_as, tk_asz, tk_asb, tk_aso, tk_cpy, tk_sw, tk_swc, tk_lit, tk_loc, tk_u1, tk_bin, tk_dv, tk_gf, tk_gr, tk_gn, tk_ald, tk_aldq, tk_aln, tk_unl, tk_una, tk_ter, tk_args, tk_cs, tk_cv, tk_ceq, tk_cne, tk_clt, tk_cge, tk_cgt, tk_cle, tk_zeq, tk_zne, tk_zlt, tk_zge, tk_zgt, tk_zle, tk_and, tk_or, tk_not, tk_ct2, tk_isC, List.headD_cons, tk_up, tk_sca, tk_scl, tkF_X7_told, tkS_X7_told]
    refine m_layShares (by rw [hM1]; exact tk_I5s hIm) (fun μ3 hf3 hL3 => ?_); obtain ⟨hR3, hM3⟩ := tk_ask hR hf1 hf3; rw [hM1] at hL3
    have q : μ3 96 13 = μ 1 3 := by rw [← e4]; exact congrFun (congrFun hM3 0) 3
    rw [q, d3]
    exact hK _ _ hR3
  by_cases h1 : w = 1
  · simp [h1, tk_fn, tk_env, tk_sq, tk_sk, tk_if, tk_re, tk_rez, tk_rev, tk_xp, tk_se, tk_pf, tk_pfz, tk_pfo, tk_as, tk_asz, tk_asb, tk_aso, tk_cpy, tk_sw, tk_swc, tk_lit, tk_loc, tk_u1, tk_bin, tk_dv, tk_gf, tk_gr, tk_gn, tk_ald, tk_aldq, tk_aln, tk_unl, tk_una, tk_ter, tk_args, tk_cs, tk_cv, tk_ceq, tk_cne, tk_clt, tk_cge, tk_cgt, tk_cle, tk_zeq, tk_zne, tk_zlt, tk_zge, tk_zgt, tk_zle, tk_and, tk_or, tk_not, tk_ct2, tk_isC, List.headD_cons, tk_up, tk_sca, tk_scl, tkF_X7_told, tkS_X7_told]
    refine m_layShares (by rw [hM1]; exact tk_I5s hIm) (fun μ3 hf3 hL3 => ?_); obtain ⟨hR3, hM3⟩ := tk_ask hR hf1 hf3; rw [hM1] at hL3
    have q : μ3 96 14 = μ 1 4 := by rw [← e5]; exact congrFun (congrFun hM3 0) 4
    rw [q, d4]
    exact hK _ _ hR3
  by_cases h2 : w = 2
  · simp [h2]
    refine x_next1 (b := 99999) (sh := tk_shr (tk_hw 1 μ)) (by rw [hT1]; exact hJx) hd1 ?_
    rw [hT1]
    simp [tk_fn, tk_env, tk_sq, tk_sk, tk_if, tk_re, tk_rez, tk_rev, tk_xp, tk_se, tk_pf, tk_pfz, tk_pfo, tk_as, tk_asz, tk_asb, tk_aso, tk_cpy, tk_sw, tk_swc, tk_lit, tk_loc, tk_u1, tk_bin, tk_dv, tk_gf, tk_gr, tk_gn, tk_ald, tk_aldq, tk_aln, tk_unl, tk_una, tk_ter, tk_args, tk_cs, tk_cv, tk_ceq, tk_cne, tk_clt, tk_cge, tk_cgt, tk_cle, tk_zeq, tk_zne, tk_zlt, tk_zge, tk_zgt, tk_zle, tk_and, tk_or, tk_not, tk_ct2, tk_isC, List.headD_cons, tk_up, tk_sca, tk_scl, tkF_X7_told, tkS_X7_told]
    refine m_layShares (by rw [hM1]; exact tk_I5s hIm) (fun μ3 hf3 hL3 => ?_); obtain ⟨hR3, hM3⟩ := tk_ask hR hf1 hf3; rw [hM1] at hL3
    refine m_nextOf (b := 99999) (sh := tk_shr (tk_mv μ)) (by rw [hM3]; exact hJm) hL3.2 (by rw [hshe]; exact hshb) ?_
    rw [hM3, hshe, tk_nxt_eq hm.1 hQE]
    exact hK _ _ hR3
  by_cases h3 : w = 3
  · simp [h3, tk_fn, tk_env, tk_sq, tk_sk, tk_if, tk_re, tk_rez, tk_rev, tk_xp, tk_se, tk_pf, tk_pfz, tk_pfo, tk_as, tk_asz, tk_asb, tk_aso, tk_cpy, tk_sw, tk_swc, tk_lit, tk_loc, tk_u1, tk_bin, tk_dv, tk_gf, tk_gr, tk_gn, tk_ald, tk_aldq, tk_aln, tk_unl, tk_una, tk_ter, tk_args, tk_cs, tk_cv, tk_ceq, tk_cne, tk_clt, tk_cge, tk_cgt, tk_cle, tk_zeq, tk_zne, tk_zlt, tk_zge, tk_zgt, tk_zle, tk_and, tk_or, tk_not, tk_ct2, tk_isC, List.headD_cons, tk_up, tk_sca, tk_scl, tkF_X7_told, tkS_X7_told]
    refine m_layShares (by rw [hM1]; exact tk_I5s hIm) (fun μ3 hf3 hL3 => ?_); obtain ⟨hR3, hM3⟩ := tk_ask hR hf1 hf3; rw [hM1] at hL3
    refine m_readyBits (b := 99999) (sh := tk_shr (tk_mv μ)) (by rw [hM3]; exact hJm) hL3.2 (by rw [hshe]; exact hshb) (fun r hr hrb => ?_)
    have q5 : μ3 96 5 = μ 1 2 := by rw [← e3]; exact congrFun (congrFun hM3 0) 2
    obtain ⟨-, d1, d2, -⟩ := hd1
    have d12 : μ1 1 2 = μ 1 2 := hf1 _ _ (by omega)
    have e : μ1 21 3 = r := by
      refine tk_bit_ext d1 hr (fun c h4 h5 => ?_)
      have z1 := d2 c
      have z2 := hrb c
      rw [hT1, d12] at z1
      rw [hM3, q5, hshe] at z2
      refine z1.trans (Iff.trans ?_ z2.symm)
      constructor
      · rintro ⟨y1, y2⟩; exact ⟨y1, by rw [tk_rd_eq hQE y1]; exact y2⟩
      · rintro ⟨y1, y2⟩; exact ⟨y1, by rw [tk_rd_eq hQE y1] at y2; exact y2⟩
    rw [e]
    exact hK _ _ hR3
  · simp [h0, h1, h2, h3, tk_fn, tk_env, tk_sq, tk_sk, tk_if, tk_re, tk_rez, tk_rev, tk_xp, tk_se, tk_pf, tk_pfz, tk_pfo, tk_as, tk_asz, tk_asb, tk_aso, tk_cpy, tk_sw, tk_swc, tk_lit, tk_loc, tk_u1, tk_bin, tk_dv, tk_gf, tk_gr, tk_gn, tk_ald, tk_aldq, tk_aln, tk_unl, tk_una, tk_ter, tk_args, tk_cs, tk_cv, tk_ceq, tk_cne, tk_clt, tk_cge, tk_cgt, tk_cle, tk_zeq, tk_zne, tk_zlt, tk_zge, tk_zgt, tk_zle, tk_and, tk_or, tk_not, tk_ct2, tk_isC, List.headD_cons, tk_up, tk_sca, tk_scl, tkF_X7_told, tkS_X7_told]
    refine m_layShares (by rw [hM1]; exact tk_I5s hIm) (fun μ3 hf3 hL3 => ?_); obtain ⟨hR3, hM3⟩ := tk_ask hR hf1 hf3; rw [hM1] at hL3
    exact hK _ _ hR3
