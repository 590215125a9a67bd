/-! ===== Layer 2: worth ===== -/
theorem c_worth_0 (n : Int) : tk_cp tkF_X6_worth tkF_X7_worth [0, n] := by
  intro μ hR K hK; have hT := tk_R_thr (v := 0) hR; obtain ⟨hE, hI, hIm⟩ := tk_R_S hR; obtain ⟨e1, e2, e3, e4, e5, e6, e7, e8, e9, hc, hn, hm, hk⟩ := tk_R_n hR; have hJx := (tk_J_of hI).1; have hJm := (tk_J_of hIm).1; have hshb := tk_shr_shb hI.1 hI.2.1 (tk_I5s hI).2.2.2.1; have hshe := tk_shr_EE hE hI; have hQE := tk_EQ_of hE
  simp [tk_fn, tk_env, tk_sq, tk_sk, tk_if, tk_re, tk_rez, tk_rev, tk_xp, tk_se, tk_pf, tk_pfz, tk_pfo, tk_as, tk_asz, tk_asb, tk_aso, tk_cpy, tk_sw, tk_swc, tk_lit, tk_loc, tk_u1, tk_bin, tk_dv, tk_gf, tk_gr, tk_gn, tk_ald, tk_aldq, tk_aln, tk_unl, tk_una, tk_ter, tk_args, tk_cs, tk_cv, tk_ceq, tk_cne, tk_clt, tk_cge, tk_cgt, tk_cle, tk_zeq, tk_zne, tk_zlt, tk_zge, tk_zgt, tk_zle, tk_and, tk_or, tk_not, tk_ct2, tk_isC, List.headD_cons, tk_up, tk_sca, tk_scl, tkF_X6_worth, tkS_X6_worth]
  refine x_refresh1 (tk_I5s hI) (tk_J_w hJx (by omega)) (fun μ1 hf1 hs1 hd1 hw1 ha1 => ?_); have hT1 : tk_hw 1 μ1 = tk_hw 1 μ := tk_hw_f1 hf1 (by omega); have hM1 := tk_ask_m hf1
  have d1 : μ1 1 1 = μ 1 1 := hf1 _ _ (by omega)
  have d0 : μ1 1 0 = μ 1 0 := hf1 _ _ (by omega)
  have d2 : μ1 1 2 = μ 1 2 := hf1 _ _ (by omega)
  have m0 : μ1 96 0 = μ 1 0 := by rw [hf1 _ _ (by omega), e1]
  have m1 : μ1 96 1 = μ 1 1 := by rw [hf1 _ _ (by omega), e2]
  have m5 : μ1 96 5 = μ 1 2 := by rw [hf1 _ _ (by omega), e3]
  have hc' : 0 ≤ μ 1 0 ∧ μ 1 0 ≤ 6 := by omega
  have hRx : tk_R (tk_set μ1 96 24 0) := tk_R_sc hR (fun o i ho => by unfold tk_sc2 at ho; unfold tk_set; rw [if_neg (by omega)]; exact hf1 o i (by omega)) (by rw [hM1]; exact tk_CC_r)
  by_cases ht : 0 ≤ n ∧ n < μ 1 1
  · have h24 : n < 24 := by omega
    simp [tk_fn, tk_env, tk_sq, tk_sk, tk_if, tk_re, tk_rez, tk_rev, tk_xp, tk_se, tk_pf, tk_pfz, tk_pfo, tk_as, tk_asz, tk_asb, tk_aso, tk_cpy, tk_sw, tk_swc, tk_lit, tk_loc, tk_u1, tk_bin, tk_dv, tk_gf, tk_gr, tk_gn, tk_ald, tk_aldq, tk_aln, tk_unl, tk_una, tk_ter, tk_args, tk_cs, tk_cv, tk_ceq, tk_cne, tk_clt, tk_cge, tk_cgt, tk_cle, tk_zeq, tk_zne, tk_zlt, tk_zge, tk_zgt, tk_zle, tk_and, tk_or, tk_not, tk_ct2, tk_isC, List.headD_cons, tk_up, tk_sca, tk_scl, x_hasTicket, d1, tk_bo_0, ht.1, ht.2, tk_al_2, tk_al_3, tk_al_4, tk_al_5, tk_al_6, tk_al_7, tk_al_8, tk_al_9, tk_al_10, tk_al_11, tk_al_13, tk_al_14, tk_al_16, tk_al_17, tk_al_19, tk_al_20, tk_al_22, tk_al_24, tk_al_25, tk_al_26, tk_al_27, tk_al_28, tk_al_29, tk_al_30, tk_al_32, tk_al_33, tk_al_34, tk_al_35, tk_al_36, tk_al_37, tk_al_38, tk_al_39, tk_al_40, tk_al_41, tk_al_43, tk_al_44, tk_al_46, tk_al_47, tk_al_49, tk_al_50, tk_al_52, tk_al_54, tk_al_55, tk_al_56, tk_al_57, tk_al_58, tk_al_59, tk_al_60, tk_al_62, tk_al_63, tk_al_64, tk_al_65, tk_al_66, tk_al_67, tk_al_68, tk_al_69, tk_al_70, tk_al_71, tk_al_73, tk_al_74, tk_al_76, tk_al_77, tk_al_79, tk_al_80, tk_al_81, tk_al_83, tk_al_85, tk_al_87, tk_al_89, tk_al_91, tk_al_93, tk_al_95, tk_al_97, tk_al_98, tk_al_99, tk_al_100, tk_al_101, tk_al_102, tk_al_103, tk_al_104, tk_al_105, tk_al_106, tk_al_107, tk_al_108, tk_al_109, tk_al_110, tk_al_111, tk_al_112, tk_al_113, tk_al_114, tk_al_115, tk_al_116, tk_al_117, tk_al_118, tk_al_119, tk_al_120, tk_al_121, tk_al_122, tk_al_123, tk_al_124, tk_al_125, tk_al_126, tk_al_127, tk_al_128, tk_al_129, h24, tkF_X7_worth, tkS_X7_worth, m_isTicket, tk_set_j, m1, hn.1, hn.2, show ¬ μ 1 1 ≤ n from by omega]
    refine m_layShares (by rw [hM1]; exact tk_I5s hIm) (fun μ3 hf3 hL3 => ?_); obtain ⟨hR3, hM3⟩ := tk_ask hR hf1 hf3; rw [hM1] at hL3
    have q97 : ∀ t, μ3 97 t = μ 97 t := fun t => congrFun (congrFun hM3 1) t
    have hs1 := (hIm.2.1 n ht.1 (by have : tk_mv μ 0 1 = μ 96 1 := rfl; omega)).1
    have hs1' : 0 ≤ μ 97 n ∧ μ 97 n < tk_mv μ 0 0 := hs1
    have hc6 := hIm.1.1.2
    refine m_worthOf (v := tk_V (tk_mv μ)) (by rw [hM3]; exact hIm.1) (by rw [hM3]; exact hIm.2.1) ⟨ht.1, by have : μ3 96 1 = tk_mv μ 0 1 := congrFun (congrFun hM3 0) 1; have h2 : tk_mv μ 0 1 = μ 96 1 := rfl; omega⟩ (fun c h2 h3 => by rw [hM3]; exact (hL3.1 c h2 h3).2) (by rw [q97]; exact (hL3.1 _ hs1'.1 (by omega)).1) (by rw [q97]; exact tk_V_bd hIm.1 hIm.2.1 (tk_I5s hIm).2.2.2.1 _ hs1'.1) ?_
    rw [hM3]
    have z1 : μ1 28 n = tk_Wt (tk_hw 1 μ) n := by have := hw1.1 n ht.1 (by rw [d1]; exact ht.2); rw [hT1] at this; exact this
    have z2 : tk_wo (tk_mv μ) (tk_V (tk_mv μ)) n = tk_Wt (tk_hw 1 μ) n := tk_Wt_eq hE.1 hE.2.1 n ⟨ht.1, ht.2⟩
    rw [z1, z2]
    exact hK _ _ hR3
  · simp [tk_fn, tk_env, tk_sq, tk_sk, tk_if, tk_re, tk_rez, tk_rev, tk_xp, tk_se, tk_pf, tk_pfz, tk_pfo, tk_as, tk_asz, tk_asb, tk_aso, tk_cpy, tk_sw, tk_swc, tk_lit, tk_loc, tk_u1, tk_bin, tk_dv, tk_gf, tk_gr, tk_gn, tk_ald, tk_aldq, tk_aln, tk_unl, tk_una, tk_ter, tk_args, tk_cs, tk_cv, tk_ceq, tk_cne, tk_clt, tk_cge, tk_cgt, tk_cle, tk_zeq, tk_zne, tk_zlt, tk_zge, tk_zgt, tk_zle, tk_and, tk_or, tk_not, tk_ct2, tk_isC, List.headD_cons, tk_up, tk_sca, tk_scl, x_hasTicket, d1, tk_bo_0, ht, tkF_X7_worth, tkS_X7_worth, m_isTicket, tk_set_j, m1, hn.1, hn.2, -not_and]
    exact hK _ _ hRx
theorem c_worth_1 (n : Int) : tk_cp tkF_X6_worth tkF_X7_worth [1, n] := by
  intro μ hR K hK; have hT := tk_R_thr (v := 0) hR; obtain ⟨hE, hI, hIm⟩ := tk_R_S hR; obtain ⟨e1, e2, e3, e4, e5, e6, e7, e8, e9, hc, hn, hm, hk⟩ := tk_R_n hR; have hJx := (tk_J_of hI).1; have hJm := (tk_J_of hIm).1; have hshb := tk_shr_shb hI.1 hI.2.1 (tk_I5s hI).2.2.2.1; have hshe := tk_shr_EE hE hI; have hQE := tk_EQ_of hE
  simp [tk_fn, tk_env, tk_sq, tk_sk, tk_if, tk_re, tk_rez, tk_rev, tk_xp, tk_se, tk_pf, tk_pfz, tk_pfo, tk_as, tk_asz, tk_asb, tk_aso, tk_cpy, tk_sw, tk_swc, tk_lit, tk_loc, tk_u1, tk_bin, tk_dv, tk_gf, tk_gr, tk_gn, tk_ald, tk_aldq, tk_aln, tk_unl, tk_una, tk_ter, tk_args, tk_cs, tk_cv, tk_ceq, tk_cne, tk_clt, tk_cge, tk_cgt, tk_cle, tk_zeq, tk_zne, tk_zlt, tk_zge, tk_zgt, tk_zle, tk_and, tk_or, tk_not, tk_ct2, tk_isC, List.headD_cons, tk_up, tk_sca, tk_scl, tkF_X6_worth, tkS_X6_worth]
  refine x_refresh1 (tk_I5s hI) (tk_J_w hJx (by omega)) (fun μ1 hf1 hs1 hd1 hw1 ha1 => ?_); have hT1 : tk_hw 1 μ1 = tk_hw 1 μ := tk_hw_f1 hf1 (by omega); have hM1 := tk_ask_m hf1
  have d1 : μ1 1 1 = μ 1 1 := hf1 _ _ (by omega)
  have d0 : μ1 1 0 = μ 1 0 := hf1 _ _ (by omega)
  have d2 : μ1 1 2 = μ 1 2 := hf1 _ _ (by omega)
  have m0 : μ1 96 0 = μ 1 0 := by rw [hf1 _ _ (by omega), e1]
  have m1 : μ1 96 1 = μ 1 1 := by rw [hf1 _ _ (by omega), e2]
  have m5 : μ1 96 5 = μ 1 2 := by rw [hf1 _ _ (by omega), e3]
  have hc' : 0 ≤ μ 1 0 ∧ μ 1 0 ≤ 6 := by omega
  have hRx : tk_R (tk_set μ1 96 24 0) := tk_R_sc hR (fun o i ho => by unfold tk_sc2 at ho; unfold tk_set; rw [if_neg (by omega)]; exact hf1 o i (by omega)) (by rw [hM1]; exact tk_CC_r)
  by_cases ht : 0 ≤ n ∧ n < μ 1 0
  · have h6 : n < 6 := by omega
    simp [tk_fn, tk_env, tk_sq, tk_sk, tk_if, tk_re, tk_rez, tk_rev, tk_xp, tk_se, tk_pf, tk_pfz, tk_pfo, tk_as, tk_asz, tk_asb, tk_aso, tk_cpy, tk_sw, tk_swc, tk_lit, tk_loc, tk_u1, tk_bin, tk_dv, tk_gf, tk_gr, tk_gn, tk_ald, tk_aldq, tk_aln, tk_unl, tk_una, tk_ter, tk_args, tk_cs, tk_cv, tk_ceq, tk_cne, tk_clt, tk_cge, tk_cgt, tk_cle, tk_zeq, tk_zne, tk_zlt, tk_zge, tk_zgt, tk_zle, tk_and, tk_or, tk_not, tk_ct2, tk_isC, List.headD_cons, tk_up, tk_sca, tk_scl, x_hasCurrency, d0, tk_bo_0, ht.1, ht.2, tk_al_2, tk_al_3, tk_al_4, tk_al_5, tk_al_6, tk_al_7, tk_al_8, tk_al_9, tk_al_10, tk_al_11, tk_al_13, tk_al_14, tk_al_16, tk_al_17, tk_al_19, tk_al_20, tk_al_22, tk_al_24, tk_al_25, tk_al_26, tk_al_27, tk_al_28, tk_al_29, tk_al_30, tk_al_32, tk_al_33, tk_al_34, tk_al_35, tk_al_36, tk_al_37, tk_al_38, tk_al_39, tk_al_40, tk_al_41, tk_al_43, tk_al_44, tk_al_46, tk_al_47, tk_al_49, tk_al_50, tk_al_52, tk_al_54, tk_al_55, tk_al_56, tk_al_57, tk_al_58, tk_al_59, tk_al_60, tk_al_62, tk_al_63, tk_al_64, tk_al_65, tk_al_66, tk_al_67, tk_al_68, tk_al_69, tk_al_70, tk_al_71, tk_al_73, tk_al_74, tk_al_76, tk_al_77, tk_al_79, tk_al_80, tk_al_81, tk_al_83, tk_al_85, tk_al_87, tk_al_89, tk_al_91, tk_al_93, tk_al_95, tk_al_97, tk_al_98, tk_al_99, tk_al_100, tk_al_101, tk_al_102, tk_al_103, tk_al_104, tk_al_105, tk_al_106, tk_al_107, tk_al_108, tk_al_109, tk_al_110, tk_al_111, tk_al_112, tk_al_113, tk_al_114, tk_al_115, tk_al_116, tk_al_117, tk_al_118, tk_al_119, tk_al_120, tk_al_121, tk_al_122, tk_al_123, tk_al_124, tk_al_125, tk_al_126, tk_al_127, tk_al_128, tk_al_129, h6, tkF_X7_worth, tkS_X7_worth, m_isCurrency, tk_set_j, m0, hc'.1, hc'.2, show ¬ μ 1 0 ≤ n from by omega]
    refine m_layShares (by rw [hM1]; exact tk_I5s hIm) (fun μ3 hf3 hL3 => ?_); obtain ⟨hR3, hM3⟩ := tk_ask hR hf1 hf3; rw [hM1] at hL3
    have z1 : μ1 27 n = tk_V (tk_hw 1 μ) n := by have := (hw1.2 n ht.1 h6).1; rw [hT1] at this; exact this
    rw [z1, (hL3.1 n ht.1 h6).1, tk_V_eq hE.1 hE.2.1]
    exact hK _ _ hR3
  · simp [tk_fn, tk_env, tk_sq, tk_sk, tk_if, tk_re, tk_rez, tk_rev, tk_xp, tk_se, tk_pf, tk_pfz, tk_pfo, tk_as, tk_asz, tk_asb, tk_aso, tk_cpy, tk_sw, tk_swc, tk_lit, tk_loc, tk_u1, tk_bin, tk_dv, tk_gf, tk_gr, tk_gn, tk_ald, tk_aldq, tk_aln, tk_unl, tk_una, tk_ter, tk_args, tk_cs, tk_cv, tk_ceq, tk_cne, tk_clt, tk_cge, tk_cgt, tk_cle, tk_zeq, tk_zne, tk_zlt, tk_zge, tk_zgt, tk_zle, tk_and, tk_or, tk_not, tk_ct2, tk_isC, List.headD_cons, tk_up, tk_sca, tk_scl, x_hasCurrency, d0, tk_bo_0, ht, tkF_X7_worth, tkS_X7_worth, m_isCurrency, tk_set_j, m0, hc'.1, hc'.2, -not_and]
    exact hK _ _ hRx
theorem c_worth_2 (n : Int) : tk_cp tkF_X6_worth tkF_X7_worth [2, n] := by
  intro μ hR K hK; have hT := tk_R_thr (v := 0) hR; obtain ⟨hE, hI, hIm⟩ := tk_R_S hR; obtain ⟨e1, e2, e3, e4, e5, e6, e7, e8, e9, hc, hn, hm, hk⟩ := tk_R_n hR; have hJx := (tk_J_of hI).1; have hJm := (tk_J_of hIm).1; have hshb := tk_shr_shb hI.1 hI.2.1 (tk_I5s hI).2.2.2.1; have hshe := tk_shr_EE hE hI; have hQE := tk_EQ_of hE
  simp [tk_fn, tk_env, tk_sq, tk_sk, tk_if, tk_re, tk_rez, tk_rev, tk_xp, tk_se, tk_pf, tk_pfz, tk_pfo, tk_as, tk_asz, tk_asb, tk_aso, tk_cpy, tk_sw, tk_swc, tk_lit, tk_loc, tk_u1, tk_bin, tk_dv, tk_gf, tk_gr, tk_gn, tk_ald, tk_aldq, tk_aln, tk_unl, tk_una, tk_ter, tk_args, tk_cs, tk_cv, tk_ceq, tk_cne, tk_clt, tk_cge, tk_cgt, tk_cle, tk_zeq, tk_zne, tk_zlt, tk_zge, tk_zgt, tk_zle, tk_and, tk_or, tk_not, tk_ct2, tk_isC, List.headD_cons, tk_up, tk_sca, tk_scl, tkF_X6_worth, tkS_X6_worth]
  refine x_refresh1 (tk_I5s hI) (tk_J_w hJx (by omega)) (fun μ1 hf1 hs1 hd1 hw1 ha1 => ?_); have hT1 : tk_hw 1 μ1 = tk_hw 1 μ := tk_hw_f1 hf1 (by omega); have hM1 := tk_ask_m hf1
  have d1 : μ1 1 1 = μ 1 1 := hf1 _ _ (by omega)
  have d0 : μ1 1 0 = μ 1 0 := hf1 _ _ (by omega)
  have d2 : μ1 1 2 = μ 1 2 := hf1 _ _ (by omega)
  have m0 : μ1 96 0 = μ 1 0 := by rw [hf1 _ _ (by omega), e1]
  have m1 : μ1 96 1 = μ 1 1 := by rw [hf1 _ _ (by omega), e2]
  have m5 : μ1 96 5 = μ 1 2 := by rw [hf1 _ _ (by omega), e3]
  have hc' : 0 ≤ μ 1 0 ∧ μ 1 0 ≤ 6 := by omega
  have hRx : tk_R (tk_set μ1 96 24 0) := tk_R_sc hR (fun o i ho => by unfold tk_sc2 at ho; unfold tk_set; rw [if_neg (by omega)]; exact hf1 o i (by omega)) (by rw [hM1]; exact tk_CC_r)
  by_cases ht : 0 ≤ n ∧ n < μ 1 0
  · have h6 : n < 6 := by omega
    simp [tk_fn, tk_env, tk_sq, tk_sk, tk_if, tk_re, tk_rez, tk_rev, tk_xp, tk_se, tk_pf, tk_pfz, tk_pfo, tk_as, tk_asz, tk_asb, tk_aso, tk_cpy, tk_sw, tk_swc, tk_lit, tk_loc, tk_u1, tk_bin, tk_dv, tk_gf, tk_gr, tk_gn, tk_ald, tk_aldq, tk_aln, tk_unl, tk_una, tk_ter, tk_args, tk_cs, tk_cv, tk_ceq, tk_cne, tk_clt, tk_cge, tk_cgt, tk_cle, tk_zeq, tk_zne, tk_zlt, tk_zge, tk_zgt, tk_zle, tk_and, tk_or, tk_not, tk_ct2, tk_isC, List.headD_cons, tk_up, tk_sca, tk_scl, x_hasCurrency, d0, tk_bo_0, ht.1, ht.2, tk_al_2, tk_al_3, tk_al_4, tk_al_5, tk_al_6, tk_al_7, tk_al_8, tk_al_9, tk_al_10, tk_al_11, tk_al_13, tk_al_14, tk_al_16, tk_al_17, tk_al_19, tk_al_20, tk_al_22, tk_al_24, tk_al_25, tk_al_26, tk_al_27, tk_al_28, tk_al_29, tk_al_30, tk_al_32, tk_al_33, tk_al_34, tk_al_35, tk_al_36, tk_al_37, tk_al_38, tk_al_39, tk_al_40, tk_al_41, tk_al_43, tk_al_44, tk_al_46, tk_al_47, tk_al_49, tk_al_50, tk_al_52, tk_al_54, tk_al_55, tk_al_56, tk_al_57, tk_al_58, tk_al_59, tk_al_60, tk_al_62, tk_al_63, tk_al_64, tk_al_65, tk_al_66, tk_al_67, tk_al_68, tk_al_69, tk_al_70, tk_al_71, tk_al_73, tk_al_74, tk_al_76, tk_al_77, tk_al_79, tk_al_80, tk_al_81, tk_al_83, tk_al_85, tk_al_87, tk_al_89, tk_al_91, tk_al_93, tk_al_95, tk_al_97, tk_al_98, tk_al_99, tk_al_100, tk_al_101, tk_al_102, tk_al_103, tk_al_104, tk_al_105, tk_al_106, tk_al_107, tk_al_108, tk_al_109, tk_al_110, tk_al_111, tk_al_112, tk_al_113, tk_al_114, tk_al_115, tk_al_116, tk_al_117, tk_al_118, tk_al_119, tk_al_120, tk_al_121, tk_al_122, tk_al_123, tk_al_124, tk_al_125, tk_al_126, tk_al_127, tk_al_128, tk_al_129, h6, tkF_X7_worth, tkS_X7_worth, m_isCurrency, tk_set_j, m0, hc'.1, hc'.2, show ¬ μ 1 0 ≤ n from by omega]
    refine m_layShares (by rw [hM1]; exact tk_I5s hIm) (fun μ3 hf3 hL3 => ?_); obtain ⟨hR3, hM3⟩ := tk_ask hR hf1 hf3; rw [hM1] at hL3
    have z1 : μ1 26 n = tk_isu (tk_hw 1 μ) n := by have := (hw1.2 n ht.1 h6).2; rw [hT1] at this; exact this
    rw [z1, (hL3.1 n ht.1 h6).2, tk_isu_eq hE.1 hE.2.1]
    exact hK _ _ hR3
  · simp [tk_fn, tk_env, tk_sq, tk_sk, tk_if, tk_re, tk_rez, tk_rev, tk_xp, tk_se, tk_pf, tk_pfz, tk_pfo, tk_as, tk_asz, tk_asb, tk_aso, tk_cpy, tk_sw, tk_swc, tk_lit, tk_loc, tk_u1, tk_bin, tk_dv, tk_gf, tk_gr, tk_gn, tk_ald, tk_aldq, tk_aln, tk_unl, tk_una, tk_ter, tk_args, tk_cs, tk_cv, tk_ceq, tk_cne, tk_clt, tk_cge, tk_cgt, tk_cle, tk_zeq, tk_zne, tk_zlt, tk_zge, tk_zgt, tk_zle, tk_and, tk_or, tk_not, tk_ct2, tk_isC, List.headD_cons, tk_up, tk_sca, tk_scl, x_hasCurrency, d0, tk_bo_0, ht, tkF_X7_worth, tkS_X7_worth, m_isCurrency, tk_set_j, m0, hc'.1, hc'.2, -not_and]
    exact hK _ _ hRx
theorem c_worth_3 (n : Int) : tk_cp tkF_X6_worth tkF_X7_worth [3, n] := by
  intro μ hR K hK; have hT := tk_R_thr (v := 0) hR; obtain ⟨hE, hI, hIm⟩ := tk_R_S hR; obtain ⟨e1, e2, e3, e4, e5, e6, e7, e8, e9, hc, hn, hm, hk⟩ := tk_R_n hR; have hJx := (tk_J_of hI).1; have hJm := (tk_J_of hIm).1; have hshb := tk_shr_shb hI.1 hI.2.1 (tk_I5s hI).2.2.2.1; have hshe := tk_shr_EE hE hI; have hQE := tk_EQ_of hE
  simp [tk_fn, tk_env, tk_sq, tk_sk, tk_if, tk_re, tk_rez, tk_rev, tk_xp, tk_se, tk_pf, tk_pfz, tk_pfo, tk_as, tk_asz, tk_asb, tk_aso, tk_cpy, tk_sw, tk_swc, tk_lit, tk_loc, tk_u1, tk_bin, tk_dv, tk_gf, tk_gr, tk_gn, tk_ald, tk_aldq, tk_aln, tk_unl, tk_una, tk_ter, tk_args, tk_cs, tk_cv, tk_ceq, tk_cne, tk_clt, tk_cge, tk_cgt, tk_cle, tk_zeq, tk_zne, tk_zlt, tk_zge, tk_zgt, tk_zle, tk_and, tk_or, tk_not, tk_ct2, tk_isC, List.headD_cons, tk_up, tk_sca, tk_scl, tkF_X6_worth, tkS_X6_worth]
  refine x_refresh1 (tk_I5s hI) (tk_J_w hJx (by omega)) (fun μ1 hf1 hs1 hd1 hw1 ha1 => ?_); have hT1 : tk_hw 1 μ1 = tk_hw 1 μ := tk_hw_f1 hf1 (by omega); have hM1 := tk_ask_m hf1
  have d1 : μ1 1 1 = μ 1 1 := hf1 _ _ (by omega)
  have d0 : μ1 1 0 = μ 1 0 := hf1 _ _ (by omega)
  have d2 : μ1 1 2 = μ 1 2 := hf1 _ _ (by omega)
  have m0 : μ1 96 0 = μ 1 0 := by rw [hf1 _ _ (by omega), e1]
  have m1 : μ1 96 1 = μ 1 1 := by rw [hf1 _ _ (by omega), e2]
  have m5 : μ1 96 5 = μ 1 2 := by rw [hf1 _ _ (by omega), e3]
  have hc' : 0 ≤ μ 1 0 ∧ μ 1 0 ≤ 6 := by omega
  have hRx : tk_R (tk_set μ1 96 24 0) := tk_R_sc hR (fun o i ho => by unfold tk_sc2 at ho; unfold tk_set; rw [if_neg (by omega)]; exact hf1 o i (by omega)) (by rw [hM1]; exact tk_CC_r)
  by_cases ht : 0 ≤ n ∧ n < μ 1 2
  · have h8 : n < 8 := by omega
    simp [tk_fn, tk_env, tk_sq, tk_sk, tk_if, tk_re, tk_rez, tk_rev, tk_xp, tk_se, tk_pf, tk_pfz, tk_pfo, tk_as, tk_asz, tk_asb, tk_aso, tk_cpy, tk_sw, tk_swc, tk_lit, tk_loc, tk_u1, tk_bin, tk_dv, tk_gf, tk_gr, tk_gn, tk_ald, tk_aldq, tk_aln, tk_unl, tk_una, tk_ter, tk_args, tk_cs, tk_cv, tk_ceq, tk_cne, tk_clt, tk_cge, tk_cgt, tk_cle, tk_zeq, tk_zne, tk_zlt, tk_zge, tk_zgt, tk_zle, tk_and, tk_or, tk_not, tk_ct2, tk_isC, List.headD_cons, tk_up, tk_sca, tk_scl, x_hasClient, d2, tk_bo_0, ht.1, ht.2, tk_al_2, tk_al_3, tk_al_4, tk_al_5, tk_al_6, tk_al_7, tk_al_8, tk_al_9, tk_al_10, tk_al_11, tk_al_13, tk_al_14, tk_al_16, tk_al_17, tk_al_19, tk_al_20, tk_al_22, tk_al_24, tk_al_25, tk_al_26, tk_al_27, tk_al_28, tk_al_29, tk_al_30, tk_al_32, tk_al_33, tk_al_34, tk_al_35, tk_al_36, tk_al_37, tk_al_38, tk_al_39, tk_al_40, tk_al_41, tk_al_43, tk_al_44, tk_al_46, tk_al_47, tk_al_49, tk_al_50, tk_al_52, tk_al_54, tk_al_55, tk_al_56, tk_al_57, tk_al_58, tk_al_59, tk_al_60, tk_al_62, tk_al_63, tk_al_64, tk_al_65, tk_al_66, tk_al_67, tk_al_68, tk_al_69, tk_al_70, tk_al_71, tk_al_73, tk_al_74, tk_al_76, tk_al_77, tk_al_79, tk_al_80, tk_al_81, tk_al_83, tk_al_85, tk_al_87, tk_al_89, tk_al_91, tk_al_93, tk_al_95, tk_al_97, tk_al_98, tk_al_99, tk_al_100, tk_al_101, tk_al_102, tk_al_103, tk_al_104, tk_al_105, tk_al_106, tk_al_107, tk_al_108, tk_al_109, tk_al_110, tk_al_111, tk_al_112, tk_al_113, tk_al_114, tk_al_115, tk_al_116, tk_al_117, tk_al_118, tk_al_119, tk_al_120, tk_al_121, tk_al_122, tk_al_123, tk_al_124, tk_al_125, tk_al_126, tk_al_127, tk_al_128, tk_al_129, h8, tkF_X7_worth, tkS_X7_worth, m_isClient, tk_set_j, m5, hm.1, hm.2, show ¬ μ 1 2 ≤ n from by omega]
    refine m_layShares (by rw [hM1]; exact tk_I5s hIm) (fun μ3 hf3 hL3 => ?_); obtain ⟨hR3, hM3⟩ := tk_ask hR hf1 hf3; rw [hM1] at hL3
    have z1 : μ1 30 n = tk_shr (tk_hw 1 μ) n := hs1.1 n ht.1 h8
    rw [z1, hL3.2 n ht.1 h8, hshe]
    exact hK _ _ hR3
  · simp [tk_fn, tk_env, tk_sq, tk_sk, tk_if, tk_re, tk_rez, tk_rev, tk_xp, tk_se, tk_pf, tk_pfz, tk_pfo, tk_as, tk_asz, tk_asb, tk_aso, tk_cpy, tk_sw, tk_swc, tk_lit, tk_loc, tk_u1, tk_bin, tk_dv, tk_gf, tk_gr, tk_gn, tk_ald, tk_aldq, tk_aln, tk_unl, tk_una, tk_ter, tk_args, tk_cs, tk_cv, tk_ceq, tk_cne, tk_clt, tk_cge, tk_cgt, tk_cle, tk_zeq, tk_zne, tk_zlt, tk_zge, tk_zgt, tk_zle, tk_and, tk_or, tk_not, tk_ct2, tk_isC, List.headD_cons, tk_up, tk_sca, tk_scl, x_hasClient, d2, tk_bo_0, ht, tkF_X7_worth, tkS_X7_worth, m_isClient, tk_set_j, m5, hm.1, hm.2, -not_and]
    exact hK _ _ hRx
theorem m_worth_4 {F : tk_F} {μ : tk_M} {Q : Int → tk_M → Prop} {w n : Int} (hw : w = 4) (hn : 0 ≤ n ∧ n < μ 96 5) (hm : 0 ≤ μ 96 5 ∧ μ 96 5 ≤ 8) (hI : tk_I0 (tk_mv μ) ∧ tk_I1 (tk_mv μ) ∧ tk_I2 (tk_mv μ) ∧ tk_I7 (tk_mv μ) ∧ tk_I8 (tk_mv μ)) (hF : ∀ μ3, tk_f1 116 120 (tk_set μ 96 24 0) μ3 → tk_mL (tk_mv μ) μ3 → F [96, n] Q μ3) : (tk_fn [2, 0, 0] (tk_sq (tk_pf 7 24 (tk_loc 0) (tk_lit (0))) (tk_sq (tk_se 3 (tk_ter (tk_zeq (tk_loc 1)) (tk_cv 7 tkF_X7_isTicket [(tk_loc 0), (tk_loc 2)]) (tk_ter (tk_or (tk_ceq (tk_loc 1) (tk_lit (1))) (tk_ceq (tk_loc 1) (tk_lit (2)))) (tk_cv 7 tkF_X7_isCurrency [(tk_loc 0), (tk_loc 2)]) (tk_ter (tk_or (tk_ceq (tk_loc 1) (tk_lit (3))) (tk_ceq (tk_loc 1) (tk_lit (4)))) (tk_cv 7 tkF_X7_isClient [(tk_loc 0), (tk_loc 2)]) (tk_ter (tk_ceq (tk_loc 1) (tk_lit (5))) (tk_lit 1) (tk_lit 0)))))) (tk_sq (tk_if (tk_not (tk_zne (tk_loc 3))) (tk_re (tk_lit (-9223372036854775808))) tk_sk) (tk_sq (tk_xp (tk_cv 7 tkF_X7_layShares [(tk_loc 0)])) (tk_sw (tk_loc 1) (0) [(tk_re (tk_cv 7 tkF_X7_worthOf [(tk_loc 0), (tk_loc 2)])), (tk_re (tk_ald 1 (tk_gr 7 (20) (tk_loc 0)) (tk_loc 2))), (tk_re (tk_ald 1 (tk_gr 7 (21) (tk_loc 0)) (tk_loc 2))), (tk_re (tk_ald 1 (tk_gr 7 (23) (tk_loc 0)) (tk_loc 2))), (tk_re (tk_cv 7 F [(tk_loc 0), (tk_loc 2)]))] (tk_re (tk_cv 7 tkF_X7_total [(tk_loc 0)])))))))) [96, w, n] Q μ := by
  have hM : tk_mv (tk_set μ 96 24 0) = tk_mv μ := tk_mv_ob (by omega)
  have h0 : ¬ w = 0 := by omega
  have h1 : ¬ w = 1 := by omega
  have h2 : ¬ w = 2 := by omega
  have h3 : ¬ w = 3 := by omega
  have h5 : ¬ w = 5 := by omega
  simp [tk_fn, tk_env, tk_sq, tk_sk, tk_if, tk_re, tk_rez, tk_rev, tk_xp, tk_se, tk_pf, tk_pfz, tk_pfo, tk_as, tk_asz, tk_asb, tk_aso, tk_cpy, tk_sw, tk_swc, tk_lit, tk_loc, tk_u1, tk_bin, tk_dv, tk_gf, tk_gr, tk_gn, tk_ald, tk_aldq, tk_aln, tk_unl, tk_una, tk_ter, tk_args, tk_cs, tk_cv, tk_ceq, tk_cne, tk_clt, tk_cge, tk_cgt, tk_cle, tk_zeq, tk_zne, tk_zlt, tk_zge, tk_zgt, tk_zle, tk_and, tk_or, tk_not, tk_ct2, tk_isC, List.headD_cons, tk_up, tk_sca, tk_scl, h0, h1, h2, h3, h5, eq_true hw, m_isClient, tk_set_j, hm.1, hm.2, tk_bo_0, hn.1, hn.2]
  refine m_layShares (by rw [hM]; exact hI) (fun μ3 hf3 hL3 => ?_)
  rw [hM] at hL3
  exact hF μ3 hf3 hL3
theorem m_worth_5 {F : tk_F} {μ : tk_M} {Q : Int → tk_M → Prop} {w n : Int} (hw : w = 5) (hI : tk_I0 (tk_mv μ) ∧ tk_I1 (tk_mv μ) ∧ tk_I2 (tk_mv μ) ∧ tk_I7 (tk_mv μ) ∧ tk_I8 (tk_mv μ)) (hF : ∀ μ3, tk_f1 116 120 (tk_set μ 96 24 0) μ3 → tk_mL (tk_mv μ) μ3 → F [96] Q μ3) : (tk_fn [2, 0, 0] (tk_sq (tk_pf 7 24 (tk_loc 0) (tk_lit (0))) (tk_sq (tk_se 3 (tk_ter (tk_zeq (tk_loc 1)) (tk_cv 7 tkF_X7_isTicket [(tk_loc 0), (tk_loc 2)]) (tk_ter (tk_or (tk_ceq (tk_loc 1) (tk_lit (1))) (tk_ceq (tk_loc 1) (tk_lit (2)))) (tk_cv 7 tkF_X7_isCurrency [(tk_loc 0), (tk_loc 2)]) (tk_ter (tk_or (tk_ceq (tk_loc 1) (tk_lit (3))) (tk_ceq (tk_loc 1) (tk_lit (4)))) (tk_cv 7 tkF_X7_isClient [(tk_loc 0), (tk_loc 2)]) (tk_ter (tk_ceq (tk_loc 1) (tk_lit (5))) (tk_lit 1) (tk_lit 0)))))) (tk_sq (tk_if (tk_not (tk_zne (tk_loc 3))) (tk_re (tk_lit (-9223372036854775808))) tk_sk) (tk_sq (tk_xp (tk_cv 7 tkF_X7_layShares [(tk_loc 0)])) (tk_sw (tk_loc 1) (0) [(tk_re (tk_cv 7 tkF_X7_worthOf [(tk_loc 0), (tk_loc 2)])), (tk_re (tk_ald 1 (tk_gr 7 (20) (tk_loc 0)) (tk_loc 2))), (tk_re (tk_ald 1 (tk_gr 7 (21) (tk_loc 0)) (tk_loc 2))), (tk_re (tk_ald 1 (tk_gr 7 (23) (tk_loc 0)) (tk_loc 2))), (tk_re (tk_cv 7 tkF_X7_weightOf [(tk_loc 0), (tk_loc 2)]))] (tk_re (tk_cv 7 F [(tk_loc 0)])))))))) [96, w, n] Q μ := by
  have hM : tk_mv (tk_set μ 96 24 0) = tk_mv μ := tk_mv_ob (by omega)
  have h0 : ¬ w = 0 := by omega
  have h1 : ¬ w = 1 := by omega
  have h2 : ¬ w = 2 := by omega
  have h3 : ¬ w = 3 := by omega
  have h4 : ¬ w = 4 := by omega
  simp [tk_fn, tk_env, tk_sq, tk_sk, tk_if, tk_re, tk_rez, tk_rev, tk_xp, tk_se, tk_pf, tk_pfz, tk_pfo, tk_as, tk_asz, tk_asb, tk_aso, tk_cpy, tk_sw, tk_swc, tk_lit, tk_loc, tk_u1, tk_bin, tk_dv, tk_gf, tk_gr, tk_gn, tk_ald, tk_aldq, tk_aln, tk_unl, tk_una, tk_ter, tk_args, tk_cs, tk_cv, tk_ceq, tk_cne, tk_clt, tk_cge, tk_cgt, tk_cle, tk_zeq, tk_zne, tk_zlt, tk_zge, tk_zgt, tk_zle, tk_and, tk_or, tk_not, tk_ct2, tk_isC, List.headD_cons, tk_up, tk_sca, tk_scl, h0, h1, h2, h3, h4, eq_true hw]
  refine m_layShares (by rw [hM]; exact hI) (fun μ3 hf3 hL3 => ?_)
  rw [hM] at hL3
  exact hF μ3 hf3 hL3
theorem c_worth_4 (w n : Int) (hw : w = 4) : tk_cp tkF_X6_worth tkF_X7_worth [w, n] := by
  have h0 : ¬ w = 0 := by omega
  have h1 : ¬ w = 1 := by omega
  have h2 : ¬ w = 2 := by omega
  have h3 : ¬ w = 3 := by omega
  have h5 : ¬ w = 5 := by omega
  intro μ hR K hK; have hT := tk_R_thr (v := 0) hR; obtain ⟨hE, hI, hIm⟩ := tk_R_S hR; obtain ⟨e1, e2, e3, e4, e5, e6, e7, e8, e9, hc, hn, hm, hk⟩ := tk_R_n hR; have hJx := (tk_J_of hI).1; have hJm := (tk_J_of hIm).1; have hshb := tk_shr_shb hI.1 hI.2.1 (tk_I5s hI).2.2.2.1; have hshe := tk_shr_EE hE hI; have hQE := tk_EQ_of hE
  simp [tk_fn, tk_env, tk_sq, tk_sk, tk_if, tk_re, tk_rez, tk_rev, tk_xp, tk_se, tk_pf, tk_pfz, tk_pfo, tk_as, tk_asz, tk_asb, tk_aso, tk_cpy, tk_sw, tk_swc, tk_lit, tk_loc, tk_u1, tk_bin, tk_dv, tk_gf, tk_gr, tk_gn, tk_ald, tk_aldq, tk_aln, tk_unl, tk_una, tk_ter, tk_args, tk_cs, tk_cv, tk_ceq, tk_cne, tk_clt, tk_cge, tk_cgt, tk_cle, tk_zeq, tk_zne, tk_zlt, tk_zge, tk_zgt, tk_zle, tk_and, tk_or, tk_not, tk_ct2, tk_isC, List.headD_cons, tk_up, tk_sca, tk_scl, tkF_X6_worth, tkS_X6_worth]
  refine x_refresh1 (tk_I5s hI) (tk_J_w hJx (by omega)) (fun μ1 hf1 hs1 hd1 hw1 ha1 => ?_); have hT1 : tk_hw 1 μ1 = tk_hw 1 μ := tk_hw_f1 hf1 (by omega); have hM1 := tk_ask_m hf1
  have d1 : μ1 1 1 = μ 1 1 := hf1 _ _ (by omega)
  have d0 : μ1 1 0 = μ 1 0 := hf1 _ _ (by omega)
  have d2 : μ1 1 2 = μ 1 2 := hf1 _ _ (by omega)
  have m0 : μ1 96 0 = μ 1 0 := by rw [hf1 _ _ (by omega), e1]
  have m1 : μ1 96 1 = μ 1 1 := by rw [hf1 _ _ (by omega), e2]
  have m5 : μ1 96 5 = μ 1 2 := by rw [hf1 _ _ (by omega), e3]
  have hc' : 0 ≤ μ 1 0 ∧ μ 1 0 ≤ 6 := by omega
  have hRx : tk_R (tk_set μ1 96 24 0) := tk_R_sc hR (fun o i ho => by unfold tk_sc2 at ho; unfold tk_set; rw [if_neg (by omega)]; exact hf1 o i (by omega)) (by rw [hM1]; exact tk_CC_r)
  by_cases ht : 0 ≤ n ∧ n < μ 1 2
  · have h8 : n < 8 := by omega
    simp [tk_fn, tk_env, tk_sq, tk_sk, tk_if, tk_re, tk_rez, tk_rev, tk_xp, tk_se, tk_pf, tk_pfz, tk_pfo, tk_as, tk_asz, tk_asb, tk_aso, tk_cpy, tk_sw, tk_swc, tk_lit, tk_loc, tk_u1, tk_bin, tk_dv, tk_gf, tk_gr, tk_gn, tk_ald, tk_aldq, tk_aln, tk_unl, tk_una, tk_ter, tk_args, tk_cs, tk_cv, tk_ceq, tk_cne, tk_clt, tk_cge, tk_cgt, tk_cle, tk_zeq, tk_zne, tk_zlt, tk_zge, tk_zgt, tk_zle, tk_and, tk_or, tk_not, tk_ct2, tk_isC, List.headD_cons, tk_up, tk_sca, tk_scl, h0, h1, h2, h3, h5, eq_true hw, x_hasClient, d2, tk_bo_0, ht.1, ht.2, tk_al_2, tk_al_3, tk_al_4, tk_al_5, tk_al_6, tk_al_7, tk_al_8, tk_al_9, tk_al_10, tk_al_11, tk_al_13, tk_al_14, tk_al_16, tk_al_17, tk_al_19, tk_al_20, tk_al_22, tk_al_24, tk_al_25, tk_al_26, tk_al_27, tk_al_28, tk_al_29, tk_al_30, tk_al_32, tk_al_33, tk_al_34, tk_al_35, tk_al_36, tk_al_37, tk_al_38, tk_al_39, tk_al_40, tk_al_41, tk_al_43, tk_al_44, tk_al_46, tk_al_47, tk_al_49, tk_al_50, tk_al_52, tk_al_54, tk_al_55, tk_al_56, tk_al_57, tk_al_58, tk_al_59, tk_al_60, tk_al_62, tk_al_63, tk_al_64, tk_al_65, tk_al_66, tk_al_67, tk_al_68, tk_al_69, tk_al_70, tk_al_71, tk_al_73, tk_al_74, tk_al_76, tk_al_77, tk_al_79, tk_al_80, tk_al_81, tk_al_83, tk_al_85, tk_al_87, tk_al_89, tk_al_91, tk_al_93, tk_al_95, tk_al_97, tk_al_98, tk_al_99, tk_al_100, tk_al_101, tk_al_102, tk_al_103, tk_al_104, tk_al_105, tk_al_106, tk_al_107, tk_al_108, tk_al_109, tk_al_110, tk_al_111, tk_al_112, tk_al_113, tk_al_114, tk_al_115, tk_al_116, tk_al_117, tk_al_118, tk_al_119, tk_al_120, tk_al_121, tk_al_122, tk_al_123, tk_al_124, tk_al_125, tk_al_126, tk_al_127, tk_al_128, tk_al_129, h8, show ¬ μ 1 2 ≤ n from by omega]
    refine m_worth_4 hw ⟨ht.1, by rw [m5]; exact ht.2⟩ (by rw [m5]; exact hm) (by rw [tk_mv_f1 hf1 (by omega)]; exact tk_I5s hIm) (fun μ3 hf3 hL3 => ?_)
    rw [tk_mv_f1 hf1 (by omega)] at hL3
    obtain ⟨hR3, hM3⟩ := tk_ask hR hf1 hf3
    have q5 : μ3 96 5 = μ 1 2 := by rw [← e3]; exact congrFun (congrFun hM3 0) 2
    refine m_weightOf (b := 99999) (sh := tk_shr (tk_mv μ)) (by rw [hM3]; exact hJm) hL3.2 (by rw [hshe]; exact hshb) ⟨ht.1, by rw [q5]; exact ht.2⟩ ?_
    have z1 : μ1 22 n = tk_we (tk_shr (tk_hw 1 μ)) (tk_hw 1 μ1) n := hd1.1 n ht.1 (by rw [d2]; exact ht.2)
    rw [z1, hT1, hM3, hshe, tk_we_eq hQE ht]
    exact hK _ _ hR3
  · simp [tk_fn, tk_env, tk_sq, tk_sk, tk_if, tk_re, tk_rez, tk_rev, tk_xp, tk_se, tk_pf, tk_pfz, tk_pfo, tk_as, tk_asz, tk_asb, tk_aso, tk_cpy, tk_sw, tk_swc, tk_lit, tk_loc, tk_u1, tk_bin, tk_dv, tk_gf, tk_gr, tk_gn, tk_ald, tk_aldq, tk_aln, tk_unl, tk_una, tk_ter, tk_args, tk_cs, tk_cv, tk_ceq, tk_cne, tk_clt, tk_cge, tk_cgt, tk_cle, tk_zeq, tk_zne, tk_zlt, tk_zge, tk_zgt, tk_zle, tk_and, tk_or, tk_not, tk_ct2, tk_isC, List.headD_cons, tk_up, tk_sca, tk_scl, h0, h1, h2, h3, h5, eq_true hw, x_hasClient, d2, tk_bo_0, ht, tkF_X7_worth, tkS_X7_worth, m_isClient, tk_set_j, m5, hm.1, hm.2, -not_and]
    exact hK _ _ hRx
theorem c_worth_5 (n : Int) : tk_cp tkF_X6_worth tkF_X7_worth [5, n] := by
  intro μ hR K hK; have hT := tk_R_thr (v := 0) hR; obtain ⟨hE, hI, hIm⟩ := tk_R_S hR; obtain ⟨e1, e2, e3, e4, e5, e6, e7, e8, e9, hc, hn, hm, hk⟩ := tk_R_n hR; have hJx := (tk_J_of hI).1; have hJm := (tk_J_of hIm).1; have hshb := tk_shr_shb hI.1 hI.2.1 (tk_I5s hI).2.2.2.1; have hshe := tk_shr_EE hE hI; have hQE := tk_EQ_of hE
  simp [tk_fn, tk_env, tk_sq, tk_sk, tk_if, tk_re, tk_rez, tk_rev, tk_xp, tk_se, tk_pf, tk_pfz, tk_pfo, tk_as, tk_asz, tk_asb, tk_aso, tk_cpy, tk_sw, tk_swc, tk_lit, tk_loc, tk_u1, tk_bin, tk_dv, tk_gf, tk_gr, tk_gn, tk_ald, tk_aldq, tk_aln, tk_unl, tk_una, tk_ter, tk_args, tk_cs, tk_cv, tk_ceq, tk_cne, tk_clt, tk_cge, tk_cgt, tk_cle, tk_zeq, tk_zne, tk_zlt, tk_zge, tk_zgt, tk_zle, tk_and, tk_or, tk_not, tk_ct2, tk_isC, List.headD_cons, tk_up, tk_sca, tk_scl, tkF_X6_worth, tkS_X6_worth]
  refine x_refresh1 (tk_I5s hI) (tk_J_w hJx (by omega)) (fun μ1 hf1 hs1 hd1 hw1 ha1 => ?_); have hT1 : tk_hw 1 μ1 = tk_hw 1 μ := tk_hw_f1 hf1 (by omega); have hM1 := tk_ask_m hf1
  have d1 : μ1 1 1 = μ 1 1 := hf1 _ _ (by omega)
  have d0 : μ1 1 0 = μ 1 0 := hf1 _ _ (by omega)
  have d2 : μ1 1 2 = μ 1 2 := hf1 _ _ (by omega)
  have m0 : μ1 96 0 = μ 1 0 := by rw [hf1 _ _ (by omega), e1]
  have m1 : μ1 96 1 = μ 1 1 := by rw [hf1 _ _ (by omega), e2]
  have m5 : μ1 96 5 = μ 1 2 := by rw [hf1 _ _ (by omega), e3]
  have hc' : 0 ≤ μ 1 0 ∧ μ 1 0 ≤ 6 := by omega
  have hRx : tk_R (tk_set μ1 96 24 0) := tk_R_sc hR (fun o i ho => by unfold tk_sc2 at ho; unfold tk_set; rw [if_neg (by omega)]; exact hf1 o i (by omega)) (by rw [hM1]; exact tk_CC_r)
  refine m_worth_5 rfl (by rw [tk_mv_f1 hf1 (by omega)]; exact tk_I5s hIm) (fun μ3 hf3 hL3 => ?_)
  rw [tk_mv_f1 hf1 (by omega)] at hL3
  obtain ⟨hR3, hM3⟩ := tk_ask hR hf1 hf3
  refine m_total (b := 99999) (sh := tk_shr (tk_mv μ)) (by rw [hM3]; exact hJm) hL3.2 (by rw [hshe]; exact hshb) ?_
  have z1 : μ1 21 4 = tk_tot (tk_shr (tk_hw 1 μ)) (tk_hw 1 μ1) := hd1.2.2.2
  rw [z1, hT1, hM3, hshe, tk_tot_eq hQE]
  exact hK _ _ hR3
theorem c_worth_x (w n : Int) (h0 : ¬ w = 0) (h1 : ¬ w = 1) (h2 : ¬ w = 2) (h3 : ¬ w = 3) (h4 : ¬ w = 4) (h5 : ¬ w = 5) : tk_cp tkF_X6_worth tkF_X7_worth [w, n] := by
  intro μ hR K hK; have hT := tk_R_thr (v := 0) hR; obtain ⟨hE, hI, hIm⟩ := tk_R_S hR; obtain ⟨e1, e2, e3, e4, e5, e6, e7, e8, e9, hc, hn, hm, hk⟩ := tk_R_n hR; have hJx := (tk_J_of hI).1; have hJm := (tk_J_of hIm).1; have hshb := tk_shr_shb hI.1 hI.2.1 (tk_I5s hI).2.2.2.1; have hshe := tk_shr_EE hE hI; have hQE := tk_EQ_of hE
  simp [tk_fn, tk_env, tk_sq, tk_sk, tk_if, tk_re, tk_rez, tk_rev, tk_xp, tk_se, tk_pf, tk_pfz, tk_pfo, tk_as, tk_asz, tk_asb, tk_aso, tk_cpy, tk_sw, tk_swc, tk_lit, tk_loc, tk_u1, tk_bin, tk_dv, tk_gf, tk_gr, tk_gn, tk_ald, tk_aldq, tk_aln, tk_unl, tk_una, tk_ter, tk_args, tk_cs, tk_cv, tk_ceq, tk_cne, tk_clt, tk_cge, tk_cgt, tk_cle, tk_zeq, tk_zne, tk_zlt, tk_zge, tk_zgt, tk_zle, tk_and, tk_or, tk_not, tk_ct2, tk_isC, List.headD_cons, tk_up, tk_sca, tk_scl, tkF_X6_worth, tkS_X6_worth]
  refine x_refresh1 (tk_I5s hI) (tk_J_w hJx (by omega)) (fun μ1 hf1 hs1 hd1 hw1 ha1 => ?_); have hT1 : tk_hw 1 μ1 = tk_hw 1 μ := tk_hw_f1 hf1 (by omega); have hM1 := tk_ask_m hf1
  have d1 : μ1 1 1 = μ 1 1 := hf1 _ _ (by omega)
  have d0 : μ1 1 0 = μ 1 0 := hf1 _ _ (by omega)
  have d2 : μ1 1 2 = μ 1 2 := hf1 _ _ (by omega)
  have m0 : μ1 96 0 = μ 1 0 := by rw [hf1 _ _ (by omega), e1]
  have m1 : μ1 96 1 = μ 1 1 := by rw [hf1 _ _ (by omega), e2]
  have m5 : μ1 96 5 = μ 1 2 := by rw [hf1 _ _ (by omega), e3]
  have hc' : 0 ≤ μ 1 0 ∧ μ 1 0 ≤ 6 := by omega
  have hRx : tk_R (tk_set μ1 96 24 0) := tk_R_sc hR (fun o i ho => by unfold tk_sc2 at ho; unfold tk_set; rw [if_neg (by omega)]; exact hf1 o i (by omega)) (by rw [hM1]; exact tk_CC_r)
  simp [tk_fn, tk_env, tk_sq, tk_sk, tk_if, tk_re, tk_rez, tk_rev, tk_xp, tk_se, tk_pf, tk_pfz, tk_pfo, tk_as, tk_asz, tk_asb, tk_aso, tk_cpy, tk_sw, tk_swc, tk_lit, tk_loc, tk_u1, tk_bin, tk_dv, tk_gf, tk_gr, tk_gn, tk_ald, tk_aldq, tk_aln, tk_unl, tk_una, tk_ter, tk_args, tk_cs, tk_cv, tk_ceq, tk_cne, tk_clt, tk_cge, tk_cgt, tk_cle, tk_zeq, tk_zne, tk_zlt, tk_zge, tk_zgt, tk_zle, tk_and, tk_or, tk_not, tk_ct2, tk_isC, List.headD_cons, tk_up, tk_sca, tk_scl, h0, h1, h2, h3, h4, h5, tkF_X7_worth, tkS_X7_worth]
  exact hK _ _ hRx
theorem c_worth (w n : Int) : tk_cp tkF_X6_worth tkF_X7_worth [w, n] := by
  by_cases h0 : w = 0
  · subst h0; exact c_worth_0 n
  by_cases h1 : w = 1
  · subst h1; exact c_worth_1 n
  by_cases h2 : w = 2
  · subst h2; exact c_worth_2 n
  by_cases h3 : w = 3
  · subst h3; exact c_worth_3 n
  by_cases h4 : w = 4
  · exact c_worth_4 w n h4
  by_cases h5 : w = 5
  · subst h5; exact c_worth_5 n
  exact c_worth_x w n h0 h1 h2 h3 h4 h5
