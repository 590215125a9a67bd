/-! ===== Layer 2: kinds taken, clients ===== -/
theorem m_up1 {K : Int} {Q : Int → tk_M → Prop} {μ : tk_M} (h : -1 ≤ K ∧ K ≤ 6) : tkF_X7_aboveOf [K] Q μ = Q (tk_up1 K) μ := by
  rw [m_aboveOf]
  unfold tk_up1
  by_cases h0 : K = 0
  · rw [if_pos h0, if_pos h0]
  · rw [if_neg h0, if_neg h0]
    by_cases h4 : K < 4
    · rw [if_pos h4, if_pos h4]
    · rw [if_neg h4, if_neg h4, tk_isub_id (by omega) (by omega)]
theorem tk_up1_bd {K : Int} (h : -1 ≤ K ∧ K ≤ 6) : -1 ≤ tk_up1 K ∧ tk_up1 K ≤ 6 := by
  unfold tk_up1
  split
  · omega
  · split <;> omega
theorem m_taken_ok {c k : Int} {Q : Int → tk_M → Prop} {μ : tk_M} (hm : 0 ≤ μ 96 5 ∧ μ 96 5 ≤ 8) (hc : 0 ≤ c ∧ c < μ 96 5) (hK : 0 ≤ μ 100 c ∧ μ 100 c ≤ 6) (hk : 0 ≤ k ∧ k ≤ 6) (h1 : tk_kd (μ 100 c) k → Q (μ 100 c) (tk_set μ 96 24 0)) (h0 : ¬ tk_kd (μ 100 c) k → Q (-12) (tk_set μ 96 24 0)) : tkF_X7_taken [96, c, k] Q μ := by
  have b1 : -1 ≤ μ 100 c ∧ μ 100 c ≤ 6 := ⟨by omega, hK.2⟩
  have b2 := tk_up1_bd b1
  have u1 : ∀ (R : Int → tk_M → Prop) (m : tk_M), tkF_X7_aboveOf [μ 100 c] R m = R (tk_up1 (μ 100 c)) m := fun R m => m_up1 b1
  have u2 : ∀ (R : Int → tk_M → Prop) (m : tk_M), tkF_X7_aboveOf [tk_up1 (μ 100 c)] R m = R (tk_up1 (tk_up1 (μ 100 c))) m := fun R m => m_up1 b2
  have h8 : c < 8 := by omega
  unfold tk_kd at h1 h0
  by_cases a1 : μ 100 c = k
  · simp [tk_fn, tk_env, tk_sq, tk_sk, tk_if, tk_re, tk_rez, tk_rev, tk_xp, tk_se, tk_pf, tk_pfz, tk_pfo, tk_as, tk_asz, tk_asb, tk_aso, tk_cpy, tk_sw, tk_swc, tk_lit, tk_loc, tk_u1, tk_bin, tk_dv, tk_gf, tk_gr, tk_gn, tk_ald, tk_aldq, tk_aln, tk_unl, tk_una, tk_ter, tk_args, tk_cs, tk_cv, tk_ceq, tk_cne, tk_clt, tk_cge, tk_cgt, tk_cle, tk_zeq, tk_zne, tk_zlt, tk_zge, tk_zgt, tk_zle, tk_and, tk_or, tk_not, tk_ct2, tk_isC, List.headD_cons, tk_up, tk_sca, tk_scl, tkF_X7_taken, tkS_X7_taken, m_isClient, m_in, tk_set_j, tk_set_o, hm.1, hm.2, tk_bo_0, hc.1, hc.2, hk.1, hk.2, tk_al_2, tk_al_3, tk_al_4, tk_al_5, tk_al_6, tk_al_7, tk_al_8, tk_al_9, tk_al_10, tk_al_11, tk_al_13, tk_al_14, tk_al_16, tk_al_17, tk_al_19, tk_al_20, tk_al_22, tk_al_24, tk_al_25, tk_al_26, tk_al_27, tk_al_28, tk_al_29, tk_al_30, tk_al_32, tk_al_33, tk_al_34, tk_al_35, tk_al_36, tk_al_37, tk_al_38, tk_al_39, tk_al_40, tk_al_41, tk_al_43, tk_al_44, tk_al_46, tk_al_47, tk_al_49, tk_al_50, tk_al_52, tk_al_54, tk_al_55, tk_al_56, tk_al_57, tk_al_58, tk_al_59, tk_al_60, tk_al_62, tk_al_63, tk_al_64, tk_al_65, tk_al_66, tk_al_67, tk_al_68, tk_al_69, tk_al_70, tk_al_71, tk_al_73, tk_al_74, tk_al_76, tk_al_77, tk_al_79, tk_al_80, tk_al_81, tk_al_83, tk_al_85, tk_al_87, tk_al_89, tk_al_91, tk_al_93, tk_al_95, tk_al_97, tk_al_98, tk_al_99, tk_al_100, tk_al_101, tk_al_102, tk_al_103, tk_al_104, tk_al_105, tk_al_106, tk_al_107, tk_al_108, tk_al_109, tk_al_110, tk_al_111, tk_al_112, tk_al_113, tk_al_114, tk_al_115, tk_al_116, tk_al_117, tk_al_118, tk_al_119, tk_al_120, tk_al_121, tk_al_122, tk_al_123, tk_al_124, tk_al_125, tk_al_126, tk_al_127, tk_al_128, tk_al_129, h8, u1, u2, eq_true a1]
    exact h1 (.inl a1)
  by_cases a2 : tk_up1 (μ 100 c) = k
  · simp [tk_fn, tk_env, tk_sq, tk_sk, tk_if, tk_re, tk_rez, tk_rev, tk_xp, tk_se, tk_pf, tk_pfz, tk_pfo, tk_as, tk_asz, tk_asb, tk_aso, tk_cpy, tk_sw, tk_swc, tk_lit, tk_loc, tk_u1, tk_bin, tk_dv, tk_gf, tk_gr, tk_gn, tk_ald, tk_aldq, tk_aln, tk_unl, tk_una, tk_ter, tk_args, tk_cs, tk_cv, tk_ceq, tk_cne, tk_clt, tk_cge, tk_cgt, tk_cle, tk_zeq, tk_zne, tk_zlt, tk_zge, tk_zgt, tk_zle, tk_and, tk_or, tk_not, tk_ct2, tk_isC, List.headD_cons, tk_up, tk_sca, tk_scl, tkF_X7_taken, tkS_X7_taken, m_isClient, m_in, tk_set_j, tk_set_o, hm.1, hm.2, tk_bo_0, hc.1, hc.2, hk.1, hk.2, tk_al_2, tk_al_3, tk_al_4, tk_al_5, tk_al_6, tk_al_7, tk_al_8, tk_al_9, tk_al_10, tk_al_11, tk_al_13, tk_al_14, tk_al_16, tk_al_17, tk_al_19, tk_al_20, tk_al_22, tk_al_24, tk_al_25, tk_al_26, tk_al_27, tk_al_28, tk_al_29, tk_al_30, tk_al_32, tk_al_33, tk_al_34, tk_al_35, tk_al_36, tk_al_37, tk_al_38, tk_al_39, tk_al_40, tk_al_41, tk_al_43, tk_al_44, tk_al_46, tk_al_47, tk_al_49, tk_al_50, tk_al_52, tk_al_54, tk_al_55, tk_al_56, tk_al_57, tk_al_58, tk_al_59, tk_al_60, tk_al_62, tk_al_63, tk_al_64, tk_al_65, tk_al_66, tk_al_67, tk_al_68, tk_al_69, tk_al_70, tk_al_71, tk_al_73, tk_al_74, tk_al_76, tk_al_77, tk_al_79, tk_al_80, tk_al_81, tk_al_83, tk_al_85, tk_al_87, tk_al_89, tk_al_91, tk_al_93, tk_al_95, tk_al_97, tk_al_98, tk_al_99, tk_al_100, tk_al_101, tk_al_102, tk_al_103, tk_al_104, tk_al_105, tk_al_106, tk_al_107, tk_al_108, tk_al_109, tk_al_110, tk_al_111, tk_al_112, tk_al_113, tk_al_114, tk_al_115, tk_al_116, tk_al_117, tk_al_118, tk_al_119, tk_al_120, tk_al_121, tk_al_122, tk_al_123, tk_al_124, tk_al_125, tk_al_126, tk_al_127, tk_al_128, tk_al_129, h8, u1, u2, a1, eq_true a2]
    exact h1 (.inr (.inl a2))
  by_cases a3 : 0 < tk_up1 (μ 100 c)
  · by_cases a4 : tk_up1 (tk_up1 (μ 100 c)) = k
    · simp [tk_fn, tk_env, tk_sq, tk_sk, tk_if, tk_re, tk_rez, tk_rev, tk_xp, tk_se, tk_pf, tk_pfz, tk_pfo, tk_as, tk_asz, tk_asb, tk_aso, tk_cpy, tk_sw, tk_swc, tk_lit, tk_loc, tk_u1, tk_bin, tk_dv, tk_gf, tk_gr, tk_gn, tk_ald, tk_aldq, tk_aln, tk_unl, tk_una, tk_ter, tk_args, tk_cs, tk_cv, tk_ceq, tk_cne, tk_clt, tk_cge, tk_cgt, tk_cle, tk_zeq, tk_zne, tk_zlt, tk_zge, tk_zgt, tk_zle, tk_and, tk_or, tk_not, tk_ct2, tk_isC, List.headD_cons, tk_up, tk_sca, tk_scl, tkF_X7_taken, tkS_X7_taken, m_isClient, m_in, tk_set_j, tk_set_o, hm.1, hm.2, tk_bo_0, hc.1, hc.2, hk.1, hk.2, tk_al_2, tk_al_3, tk_al_4, tk_al_5, tk_al_6, tk_al_7, tk_al_8, tk_al_9, tk_al_10, tk_al_11, tk_al_13, tk_al_14, tk_al_16, tk_al_17, tk_al_19, tk_al_20, tk_al_22, tk_al_24, tk_al_25, tk_al_26, tk_al_27, tk_al_28, tk_al_29, tk_al_30, tk_al_32, tk_al_33, tk_al_34, tk_al_35, tk_al_36, tk_al_37, tk_al_38, tk_al_39, tk_al_40, tk_al_41, tk_al_43, tk_al_44, tk_al_46, tk_al_47, tk_al_49, tk_al_50, tk_al_52, tk_al_54, tk_al_55, tk_al_56, tk_al_57, tk_al_58, tk_al_59, tk_al_60, tk_al_62, tk_al_63, tk_al_64, tk_al_65, tk_al_66, tk_al_67, tk_al_68, tk_al_69, tk_al_70, tk_al_71, tk_al_73, tk_al_74, tk_al_76, tk_al_77, tk_al_79, tk_al_80, tk_al_81, tk_al_83, tk_al_85, tk_al_87, tk_al_89, tk_al_91, tk_al_93, tk_al_95, tk_al_97, tk_al_98, tk_al_99, tk_al_100, tk_al_101, tk_al_102, tk_al_103, tk_al_104, tk_al_105, tk_al_106, tk_al_107, tk_al_108, tk_al_109, tk_al_110, tk_al_111, tk_al_112, tk_al_113, tk_al_114, tk_al_115, tk_al_116, tk_al_117, tk_al_118, tk_al_119, tk_al_120, tk_al_121, tk_al_122, tk_al_123, tk_al_124, tk_al_125, tk_al_126, tk_al_127, tk_al_128, tk_al_129, h8, u1, u2, a1, a2, a3, eq_true a4]
      exact h1 (.inr (.inr ⟨a3, a4⟩))
    · simp [tk_fn, tk_env, tk_sq, tk_sk, tk_if, tk_re, tk_rez, tk_rev, tk_xp, tk_se, tk_pf, tk_pfz, tk_pfo, tk_as, tk_asz, tk_asb, tk_aso, tk_cpy, tk_sw, tk_swc, tk_lit, tk_loc, tk_u1, tk_bin, tk_dv, tk_gf, tk_gr, tk_gn, tk_ald, tk_aldq, tk_aln, tk_unl, tk_una, tk_ter, tk_args, tk_cs, tk_cv, tk_ceq, tk_cne, tk_clt, tk_cge, tk_cgt, tk_cle, tk_zeq, tk_zne, tk_zlt, tk_zge, tk_zgt, tk_zle, tk_and, tk_or, tk_not, tk_ct2, tk_isC, List.headD_cons, tk_up, tk_sca, tk_scl, tkF_X7_taken, tkS_X7_taken, m_isClient, m_in, tk_set_j, tk_set_o, hm.1, hm.2, tk_bo_0, hc.1, hc.2, hk.1, hk.2, tk_al_2, tk_al_3, tk_al_4, tk_al_5, tk_al_6, tk_al_7, tk_al_8, tk_al_9, tk_al_10, tk_al_11, tk_al_13, tk_al_14, tk_al_16, tk_al_17, tk_al_19, tk_al_20, tk_al_22, tk_al_24, tk_al_25, tk_al_26, tk_al_27, tk_al_28, tk_al_29, tk_al_30, tk_al_32, tk_al_33, tk_al_34, tk_al_35, tk_al_36, tk_al_37, tk_al_38, tk_al_39, tk_al_40, tk_al_41, tk_al_43, tk_al_44, tk_al_46, tk_al_47, tk_al_49, tk_al_50, tk_al_52, tk_al_54, tk_al_55, tk_al_56, tk_al_57, tk_al_58, tk_al_59, tk_al_60, tk_al_62, tk_al_63, tk_al_64, tk_al_65, tk_al_66, tk_al_67, tk_al_68, tk_al_69, tk_al_70, tk_al_71, tk_al_73, tk_al_74, tk_al_76, tk_al_77, tk_al_79, tk_al_80, tk_al_81, tk_al_83, tk_al_85, tk_al_87, tk_al_89, tk_al_91, tk_al_93, tk_al_95, tk_al_97, tk_al_98, tk_al_99, tk_al_100, tk_al_101, tk_al_102, tk_al_103, tk_al_104, tk_al_105, tk_al_106, tk_al_107, tk_al_108, tk_al_109, tk_al_110, tk_al_111, tk_al_112, tk_al_113, tk_al_114, tk_al_115, tk_al_116, tk_al_117, tk_al_118, tk_al_119, tk_al_120, tk_al_121, tk_al_122, tk_al_123, tk_al_124, tk_al_125, tk_al_126, tk_al_127, tk_al_128, tk_al_129, h8, u1, u2, a1, a2, a3, a4]
      exact h0 (by rintro (z | z | ⟨z, z'⟩); exact a1 z; exact a2 z; exact a4 z')
  · simp [tk_fn, tk_env, tk_sq, tk_sk, tk_if, tk_re, tk_rez, tk_rev, tk_xp, tk_se, tk_pf, tk_pfz, tk_pfo, tk_as, tk_asz, tk_asb, tk_aso, tk_cpy, tk_sw, tk_swc, tk_lit, tk_loc, tk_u1, tk_bin, tk_dv, tk_gf, tk_gr, tk_gn, tk_ald, tk_aldq, tk_aln, tk_unl, tk_una, tk_ter, tk_args, tk_cs, tk_cv, tk_ceq, tk_cne, tk_clt, tk_cge, tk_cgt, tk_cle, tk_zeq, tk_zne, tk_zlt, tk_zge, tk_zgt, tk_zle, tk_and, tk_or, tk_not, tk_ct2, tk_isC, List.headD_cons, tk_up, tk_sca, tk_scl, tkF_X7_taken, tkS_X7_taken, m_isClient, m_in, tk_set_j, tk_set_o, hm.1, hm.2, tk_bo_0, hc.1, hc.2, hk.1, hk.2, tk_al_2, tk_al_3, tk_al_4, tk_al_5, tk_al_6, tk_al_7, tk_al_8, tk_al_9, tk_al_10, tk_al_11, tk_al_13, tk_al_14, tk_al_16, tk_al_17, tk_al_19, tk_al_20, tk_al_22, tk_al_24, tk_al_25, tk_al_26, tk_al_27, tk_al_28, tk_al_29, tk_al_30, tk_al_32, tk_al_33, tk_al_34, tk_al_35, tk_al_36, tk_al_37, tk_al_38, tk_al_39, tk_al_40, tk_al_41, tk_al_43, tk_al_44, tk_al_46, tk_al_47, tk_al_49, tk_al_50, tk_al_52, tk_al_54, tk_al_55, tk_al_56, tk_al_57, tk_al_58, tk_al_59, tk_al_60, tk_al_62, tk_al_63, tk_al_64, tk_al_65, tk_al_66, tk_al_67, tk_al_68, tk_al_69, tk_al_70, tk_al_71, tk_al_73, tk_al_74, tk_al_76, tk_al_77, tk_al_79, tk_al_80, tk_al_81, tk_al_83, tk_al_85, tk_al_87, tk_al_89, tk_al_91, tk_al_93, tk_al_95, tk_al_97, tk_al_98, tk_al_99, tk_al_100, tk_al_101, tk_al_102, tk_al_103, tk_al_104, tk_al_105, tk_al_106, tk_al_107, tk_al_108, tk_al_109, tk_al_110, tk_al_111, tk_al_112, tk_al_113, tk_al_114, tk_al_115, tk_al_116, tk_al_117, tk_al_118, tk_al_119, tk_al_120, tk_al_121, tk_al_122, tk_al_123, tk_al_124, tk_al_125, tk_al_126, tk_al_127, tk_al_128, tk_al_129, h8, u1, u2, a1, a2, a3]
    exact h0 (by rintro (z | z | ⟨z, z'⟩); exact a1 z; exact a2 z; exact a3 z)
theorem c_taken (c k : Int) : tk_cp tkF_X6_taken tkF_X7_taken [c, k] := by
  intro μ hR K hK
  have hT := tk_R_thr (v := 0) hR
  obtain ⟨e1, e2, e3, e4, e5, e6, e7, e8, e9, hcu, hn, hm, hck⟩ := tk_R_n hR
  by_cases hk : 0 ≤ k ∧ k ≤ 6
  · by_cases hc : 0 ≤ c ∧ c < μ 1 2
    · have hKK : 0 ≤ μ 5 c ∧ μ 5 c ≤ 6 := (hR.2.1.2.2.1 c hc.1 hc.2).1
      have eK : μ 100 c = μ 5 c := (hR.1.2.2.1 c hc.1 hc.2).1
      have h8 : c < 8 := by omega
      simp [tk_fn, tk_env, tk_sq, tk_sk, tk_if, tk_re, tk_rez, tk_rev, tk_xp, tk_se, tk_pf, tk_pfz, tk_pfo, tk_as, tk_asz, tk_asb, tk_aso, tk_cpy, tk_sw, tk_swc, tk_lit, tk_loc, tk_u1, tk_bin, tk_dv, tk_gf, tk_gr, tk_gn, tk_ald, tk_aldq, tk_aln, tk_unl, tk_una, tk_ter, tk_args, tk_cs, tk_cv, tk_ceq, tk_cne, tk_clt, tk_cge, tk_cgt, tk_cle, tk_zeq, tk_zne, tk_zlt, tk_zge, tk_zgt, tk_zle, tk_and, tk_or, tk_not, tk_ct2, tk_isC, List.headD_cons, tk_up, tk_sca, tk_scl, tkF_X6_taken, tkS_X6_taken, x_isKind, x_hasClient, tk_bo_0, hk.1, hk.2, hc.1, hc.2, show ¬ μ 1 2 ≤ c from by omega]
      refine x_isOf1 ⟨hc.1, h8⟩ hKK hk.1 (fun hy => ?_) (fun hn => ?_)
      · simp [tk_al_2, tk_al_3, tk_al_4, tk_al_5, tk_al_6, tk_al_7, tk_al_8, tk_al_9, tk_al_10, tk_al_11, tk_al_13, tk_al_14, tk_al_16, tk_al_17, tk_al_19, tk_al_20, tk_al_22, tk_al_24, tk_al_25, tk_al_26, tk_al_27, tk_al_28, tk_al_29, tk_al_30, tk_al_32, tk_al_33, tk_al_34, tk_al_35, tk_al_36, tk_al_37, tk_al_38, tk_al_39, tk_al_40, tk_al_41, tk_al_43, tk_al_44, tk_al_46, tk_al_47, tk_al_49, tk_al_50, tk_al_52, tk_al_54, tk_al_55, tk_al_56, tk_al_57, tk_al_58, tk_al_59, tk_al_60, tk_al_62, tk_al_63, tk_al_64, tk_al_65, tk_al_66, tk_al_67, tk_al_68, tk_al_69, tk_al_70, tk_al_71, tk_al_73, tk_al_74, tk_al_76, tk_al_77, tk_al_79, tk_al_80, tk_al_81, tk_al_83, tk_al_85, tk_al_87, tk_al_89, tk_al_91, tk_al_93, tk_al_95, tk_al_97, tk_al_98, tk_al_99, tk_al_100, tk_al_101, tk_al_102, tk_al_103, tk_al_104, tk_al_105, tk_al_106, tk_al_107, tk_al_108, tk_al_109, tk_al_110, tk_al_111, tk_al_112, tk_al_113, tk_al_114, tk_al_115, tk_al_116, tk_al_117, tk_al_118, tk_al_119, tk_al_120, tk_al_121, tk_al_122, tk_al_123, tk_al_124, tk_al_125, tk_al_126, tk_al_127, tk_al_128, tk_al_129, h8, hc.1]
        refine m_taken_ok (by rw [e3]; exact hm) (by rw [e3]; exact hc) (by rw [eK]; exact hKK) hk (fun _ => ?_) (fun z => ?_)
        · rw [eK]
          exact hK _ _ hT
        · exact absurd (by rw [eK]; exact hy) z
      · simp
        refine m_taken_ok (by rw [e3]; exact hm) (by rw [e3]; exact hc) (by rw [eK]; exact hKK) hk (fun z => ?_) (fun _ => ?_)
        · exact absurd (by rw [eK] at z; exact z) hn
        · exact hK _ _ hT
    · simp [tk_fn, tk_env, tk_sq, tk_sk, tk_if, tk_re, tk_rez, tk_rev, tk_xp, tk_se, tk_pf, tk_pfz, tk_pfo, tk_as, tk_asz, tk_asb, tk_aso, tk_cpy, tk_sw, tk_swc, tk_lit, tk_loc, tk_u1, tk_bin, tk_dv, tk_gf, tk_gr, tk_gn, tk_ald, tk_aldq, tk_aln, tk_unl, tk_una, tk_ter, tk_args, tk_cs, tk_cv, tk_ceq, tk_cne, tk_clt, tk_cge, tk_cgt, tk_cle, tk_zeq, tk_zne, tk_zlt, tk_zge, tk_zgt, tk_zle, tk_and, tk_or, tk_not, tk_ct2, tk_isC, List.headD_cons, tk_up, tk_sca, tk_scl, tkF_X6_taken, tkS_X6_taken, tkF_X7_taken, tkS_X7_taken, x_isKind, x_hasClient, m_isClient, m_in, tk_set_j, e3, hm.1, hm.2, tk_bo_0, hk.1, hk.2, hc, -not_and]
      exact hK _ _ hT
  · simp [tk_fn, tk_env, tk_sq, tk_sk, tk_if, tk_re, tk_rez, tk_rev, tk_xp, tk_se, tk_pf, tk_pfz, tk_pfo, tk_as, tk_asz, tk_asb, tk_aso, tk_cpy, tk_sw, tk_swc, tk_lit, tk_loc, tk_u1, tk_bin, tk_dv, tk_gf, tk_gr, tk_gn, tk_ald, tk_aldq, tk_aln, tk_unl, tk_una, tk_ter, tk_args, tk_cs, tk_cv, tk_ceq, tk_cne, tk_clt, tk_cge, tk_cgt, tk_cle, tk_zeq, tk_zne, tk_zlt, tk_zge, tk_zgt, tk_zle, tk_and, tk_or, tk_not, tk_ct2, tk_isC, List.headD_cons, tk_up, tk_sca, tk_scl, tkF_X6_taken, tkS_X6_taken, tkF_X7_taken, tkS_X7_taken, x_isKind, m_in, tk_bo_0, hk, -not_and]
    exact hK _ _ hT
/-! the least PASS -/
def tk_lq (f : Int → Int) : Nat → Int
  | 0 => f 0
  | k + 1 => if f ((k : Int) + 1) < tk_lq f k then f ((k : Int) + 1) else tk_lq f k
def tk_lvq (n : Int) (f : Int → Int) : Int := if n = 0 then 0 else tk_lq f (n.toNat - 1)
theorem tk_lq_s {f : Int → Int} {i : Int} (hi : 0 ≤ i) : tk_lq f (i + 1).toNat = if f (i + 1) < tk_lq f i.toNat then f (i + 1) else tk_lq f i.toNat := by
  obtain ⟨m, rfl⟩ := tk_nnt hi
  have e : ((m : Int) + 1).toNat = m + 1 := by omega
  rw [e, Int.toNat_natCast]
  rfl
theorem tk_lq_bd {f : Int → Int} {B : Int} (k : Nat) (h : ∀ c : Int, 0 ≤ c → c ≤ k → 0 ≤ f c ∧ f c ≤ B) : 0 ≤ tk_lq f k ∧ tk_lq f k ≤ B := by
  induction k with
  | zero => exact h 0 (by omega) (by omega)
  | succ k ih =>
    have h1 := ih (fun c h1 h2 => h c h1 (by omega))
    have h2 := h ((k : Int) + 1) (by omega) (by omega)
    unfold tk_lq
    split
    · exact h2
    · exact h1
theorem tk_lq_eq {f g : Int → Int} (k : Nat) (h : ∀ c : Int, 0 ≤ c → c ≤ k → g c = f c) : tk_lq g k = tk_lq f k := by
  induction k with
  | zero => exact h 0 (by omega) (by omega)
  | succ k ih =>
    unfold tk_lq
    rw [ih (fun c h1 h2 => h c h1 (by omega)), h ((k : Int) + 1) (by omega) (by omega)]
theorem tk_lvq_bd {n : Int} {f : Int → Int} (hn : 0 ≤ n) (h : ∀ c : Int, 0 ≤ c → c < n → 0 ≤ f c ∧ f c ≤ 2147483647) : 0 ≤ tk_lvq n f ∧ tk_lvq n f ≤ 2147483647 := by
  unfold tk_lvq
  split
  · omega
  · exact tk_lq_bd _ (fun c h1 h2 => h c h1 (by omega))
theorem tk_lvq_eq {n : Int} {f g : Int → Int} (hn : 0 ≤ n) (h : ∀ c : Int, 0 ≤ c → c < n → g c = f c) : tk_lvq n g = tk_lvq n f := by
  unfold tk_lvq
  split
  · rfl
  · exact tk_lq_eq _ (fun c h1 h2 => h c h1 (by omega))
theorem x_leastPass {μ : tk_M} {Q : Int → tk_M → Prop} (hn : 0 ≤ μ 1 2 ∧ μ 1 2 ≤ 8) (hQ : Q (tk_lvq (μ 1 2) (μ 9)) μ) : tkF_X2_leastPass [1] Q μ := by
  unfold tk_lvq at hQ
  by_cases h0 : μ 1 2 = 0
  · rw [if_pos h0] at hQ
    simp [tk_fn, tk_env, tk_sq, tk_sk, tk_if, tk_re, tk_rez, tk_rev, tk_xp, tk_se, tk_pf, tk_pfz, tk_pfo, tk_as, tk_asz, tk_asb, tk_aso, tk_cpy, tk_sw, tk_swc, tk_lit, tk_loc, tk_u1, tk_bin, tk_dv, tk_gf, tk_gr, tk_gn, tk_ald, tk_aldq, tk_aln, tk_unl, tk_una, tk_ter, tk_args, tk_cs, tk_cv, tk_ceq, tk_cne, tk_clt, tk_cge, tk_cgt, tk_cle, tk_zeq, tk_zne, tk_zlt, tk_zge, tk_zgt, tk_zle, tk_and, tk_or, tk_not, tk_ct2, tk_isC, List.headD_cons, tk_up, tk_sca, tk_scl, tkF_X2_leastPass, tkS_X2_leastPass, h0]
    refine tk_for 0 (fun i ρ μ' => i = 0 ∧ μ' = μ ∧ ρ 0 = 1 ∧ ρ 1 = 0 ∧ ρ 2 = 1) (by omega) ⟨rfl, rfl, rfl, rfl, rfl⟩ (fun i ρ μ' h1 h2 => by omega) ?_
    rintro ρ μ' ⟨-, rfl, r0, r1, r2⟩ X
    simp [tk_fn, tk_env, tk_sq, tk_sk, tk_if, tk_re, tk_rez, tk_rev, tk_xp, tk_se, tk_pf, tk_pfz, tk_pfo, tk_as, tk_asz, tk_asb, tk_aso, tk_cpy, tk_sw, tk_swc, tk_lit, tk_loc, tk_u1, tk_bin, tk_dv, tk_gf, tk_gr, tk_gn, tk_ald, tk_aldq, tk_aln, tk_unl, tk_una, tk_ter, tk_args, tk_cs, tk_cv, tk_ceq, tk_cne, tk_clt, tk_cge, tk_cgt, tk_cle, tk_zeq, tk_zne, tk_zlt, tk_zge, tk_zgt, tk_zle, tk_and, tk_or, tk_not, tk_ct2, tk_isC, List.headD_cons, tk_up, tk_sca, tk_scl, r0, r1, r2, h0]
    exact hQ
  · rw [if_neg h0] at hQ
    have hp : 0 < μ 1 2 := by omega
    simp [tk_fn, tk_env, tk_sq, tk_sk, tk_if, tk_re, tk_rez, tk_rev, tk_xp, tk_se, tk_pf, tk_pfz, tk_pfo, tk_as, tk_asz, tk_asb, tk_aso, tk_cpy, tk_sw, tk_swc, tk_lit, tk_loc, tk_u1, tk_bin, tk_dv, tk_gf, tk_gr, tk_gn, tk_ald, tk_aldq, tk_aln, tk_unl, tk_una, tk_ter, tk_args, tk_cs, tk_cv, tk_ceq, tk_cne, tk_clt, tk_cge, tk_cgt, tk_cle, tk_zeq, tk_zne, tk_zlt, tk_zge, tk_zgt, tk_zle, tk_and, tk_or, tk_not, tk_ct2, tk_isC, List.headD_cons, tk_up, tk_sca, tk_scl, tkF_X2_leastPass, tkS_X2_leastPass, hp, tk_al_2, tk_al_3, tk_al_4, tk_al_5, tk_al_6, tk_al_7, tk_al_8, tk_al_9, tk_al_10, tk_al_11, tk_al_13, tk_al_14, tk_al_16, tk_al_17, tk_al_19, tk_al_20, tk_al_22, tk_al_24, tk_al_25, tk_al_26, tk_al_27, tk_al_28, tk_al_29, tk_al_30, tk_al_32, tk_al_33, tk_al_34, tk_al_35, tk_al_36, tk_al_37, tk_al_38, tk_al_39, tk_al_40, tk_al_41, tk_al_43, tk_al_44, tk_al_46, tk_al_47, tk_al_49, tk_al_50, tk_al_52, tk_al_54, tk_al_55, tk_al_56, tk_al_57, tk_al_58, tk_al_59, tk_al_60, tk_al_62, tk_al_63, tk_al_64, tk_al_65, tk_al_66, tk_al_67, tk_al_68, tk_al_69, tk_al_70, tk_al_71, tk_al_73, tk_al_74, tk_al_76, tk_al_77, tk_al_79, tk_al_80, tk_al_81, tk_al_83, tk_al_85, tk_al_87, tk_al_89, tk_al_91, tk_al_93, tk_al_95, tk_al_97, tk_al_98, tk_al_99, tk_al_100, tk_al_101, tk_al_102, tk_al_103, tk_al_104, tk_al_105, tk_al_106, tk_al_107, tk_al_108, tk_al_109, tk_al_110, tk_al_111, tk_al_112, tk_al_113, tk_al_114, tk_al_115, tk_al_116, tk_al_117, tk_al_118, tk_al_119, tk_al_120, tk_al_121, tk_al_122, tk_al_123, tk_al_124, tk_al_125, tk_al_126, tk_al_127, tk_al_128, tk_al_129]
    refine tk_for (μ 1 2 - 1) (fun i ρ μ' => μ' = μ ∧ ρ 0 = 1 ∧ ρ 1 = tk_lq (μ 9) i.toNat ∧ ρ 2 = i + 1) (by omega) ⟨rfl, rfl, rfl, rfl⟩ ?_ ?_
    · rintro i ρ μ' h1 h2 ⟨rfl, r0, r1, r2⟩ K hK
      have hl := tk_lq_s (f := μ' 9) h1
      have q1 : i + 1 < μ' 1 2 := by clear r1 hl; omega
      have q2 : i + 1 < 8 := by clear r1 hl; omega
      have q3 : 0 ≤ i + 1 := by clear r1 hl; omega
      have i1 : tk_iadd (i + 1) 1 = i + 1 + 1 := tk_iadd_id (by clear r1 hl; omega) (by clear r1 hl; omega)
      simp [tk_fn, tk_env, tk_sq, tk_sk, tk_if, tk_re, tk_rez, tk_rev, tk_xp, tk_se, tk_pf, tk_pfz, tk_pfo, tk_as, tk_asz, tk_asb, tk_aso, tk_cpy, tk_sw, tk_swc, tk_lit, tk_loc, tk_u1, tk_bin, tk_dv, tk_gf, tk_gr, tk_gn, tk_ald, tk_aldq, tk_aln, tk_unl, tk_una, tk_ter, tk_args, tk_cs, tk_cv, tk_ceq, tk_cne, tk_clt, tk_cge, tk_cgt, tk_cle, tk_zeq, tk_zne, tk_zlt, tk_zge, tk_zgt, tk_zle, tk_and, tk_or, tk_not, tk_ct2, tk_isC, List.headD_cons, tk_up, tk_sca, tk_scl, r0, r1, r2, q1, q2, q3, i1, tk_al_2, tk_al_3, tk_al_4, tk_al_5, tk_al_6, tk_al_7, tk_al_8, tk_al_9, tk_al_10, tk_al_11, tk_al_13, tk_al_14, tk_al_16, tk_al_17, tk_al_19, tk_al_20, tk_al_22, tk_al_24, tk_al_25, tk_al_26, tk_al_27, tk_al_28, tk_al_29, tk_al_30, tk_al_32, tk_al_33, tk_al_34, tk_al_35, tk_al_36, tk_al_37, tk_al_38, tk_al_39, tk_al_40, tk_al_41, tk_al_43, tk_al_44, tk_al_46, tk_al_47, tk_al_49, tk_al_50, tk_al_52, tk_al_54, tk_al_55, tk_al_56, tk_al_57, tk_al_58, tk_al_59, tk_al_60, tk_al_62, tk_al_63, tk_al_64, tk_al_65, tk_al_66, tk_al_67, tk_al_68, tk_al_69, tk_al_70, tk_al_71, tk_al_73, tk_al_74, tk_al_76, tk_al_77, tk_al_79, tk_al_80, tk_al_81, tk_al_83, tk_al_85, tk_al_87, tk_al_89, tk_al_91, tk_al_93, tk_al_95, tk_al_97, tk_al_98, tk_al_99, tk_al_100, tk_al_101, tk_al_102, tk_al_103, tk_al_104, tk_al_105, tk_al_106, tk_al_107, tk_al_108, tk_al_109, tk_al_110, tk_al_111, tk_al_112, tk_al_113, tk_al_114, tk_al_115, tk_al_116, tk_al_117, tk_al_118, tk_al_119, tk_al_120, tk_al_121, tk_al_122, tk_al_123, tk_al_124, tk_al_125, tk_al_126, tk_al_127, tk_al_128, tk_al_129]
      refine hK _ _ ⟨rfl, r0, ?_, rfl⟩
      rw [hl]
      rfl
    · rintro ρ μ' ⟨rfl, r0, r1, r2⟩ X
      have q1 : ¬ μ' 1 2 - 1 + 1 < μ' 1 2 := by omega
      simp [tk_fn, tk_env, tk_sq, tk_sk, tk_if, tk_re, tk_rez, tk_rev, tk_xp, tk_se, tk_pf, tk_pfz, tk_pfo, tk_as, tk_asz, tk_asb, tk_aso, tk_cpy, tk_sw, tk_swc, tk_lit, tk_loc, tk_u1, tk_bin, tk_dv, tk_gf, tk_gr, tk_gn, tk_ald, tk_aldq, tk_aln, tk_unl, tk_una, tk_ter, tk_args, tk_cs, tk_cv, tk_ceq, tk_cne, tk_clt, tk_cge, tk_cgt, tk_cle, tk_zeq, tk_zne, tk_zlt, tk_zge, tk_zgt, tk_zle, tk_and, tk_or, tk_not, tk_ct2, tk_isC, List.headD_cons, tk_up, tk_sca, tk_scl, r0, r1, r2, q1]
      exact hQ
theorem x_addClient {μ : tk_M} {Q : Int → tk_M → Prop} {k v : Int} (hn : 0 ≤ μ 1 2 ∧ μ 1 2 < 8) (hQ : Q (μ 1 2) (tk_set (tk_fw (tk_set (tk_set (tk_set (tk_set (tk_set (tk_set μ 5 (μ 1 2) k) 6 (μ 1 2) v) 7 (μ 1 2) 0) 8 (μ 1 2) 10) 9 (μ 1 2) (tk_lvq (μ 1 2) (μ 9))) 10 (μ 1 2) (-5)) 11 (4 * μ 1 2) 4 0) 1 2 (μ 1 2 + 1))) : tkF_X2_addClient [1, k, v] Q μ := by
  have m4 : tk_imul (μ 1 2) 4 = 4 * μ 1 2 := by rw [tk_imul_id (by omega) (by omega)]; omega
  have i1 : tk_iadd (μ 1 2) 1 = μ 1 2 + 1 := tk_iadd_id (by omega) (by omega)
  simp [tk_fn, tk_env, tk_sq, tk_sk, tk_if, tk_re, tk_rez, tk_rev, tk_xp, tk_se, tk_pf, tk_pfz, tk_pfo, tk_as, tk_asz, tk_asb, tk_aso, tk_cpy, tk_sw, tk_swc, tk_lit, tk_loc, tk_u1, tk_bin, tk_dv, tk_gf, tk_gr, tk_gn, tk_ald, tk_aldq, tk_aln, tk_unl, tk_una, tk_ter, tk_args, tk_cs, tk_cv, tk_ceq, tk_cne, tk_clt, tk_cge, tk_cgt, tk_cle, tk_zeq, tk_zne, tk_zlt, tk_zge, tk_zgt, tk_zle, tk_and, tk_or, tk_not, tk_ct2, tk_isC, List.headD_cons, tk_up, tk_sca, tk_scl, tkF_X2_addClient, tkS_X2_addClient, hn.1, hn.2, tk_al_2, tk_al_3, tk_al_4, tk_al_5, tk_al_6, tk_al_7, tk_al_8, tk_al_9, tk_al_10, tk_al_11, tk_al_13, tk_al_14, tk_al_16, tk_al_17, tk_al_19, tk_al_20, tk_al_22, tk_al_24, tk_al_25, tk_al_26, tk_al_27, tk_al_28, tk_al_29, tk_al_30, tk_al_32, tk_al_33, tk_al_34, tk_al_35, tk_al_36, tk_al_37, tk_al_38, tk_al_39, tk_al_40, tk_al_41, tk_al_43, tk_al_44, tk_al_46, tk_al_47, tk_al_49, tk_al_50, tk_al_52, tk_al_54, tk_al_55, tk_al_56, tk_al_57, tk_al_58, tk_al_59, tk_al_60, tk_al_62, tk_al_63, tk_al_64, tk_al_65, tk_al_66, tk_al_67, tk_al_68, tk_al_69, tk_al_70, tk_al_71, tk_al_73, tk_al_74, tk_al_76, tk_al_77, tk_al_79, tk_al_80, tk_al_81, tk_al_83, tk_al_85, tk_al_87, tk_al_89, tk_al_91, tk_al_93, tk_al_95, tk_al_97, tk_al_98, tk_al_99, tk_al_100, tk_al_101, tk_al_102, tk_al_103, tk_al_104, tk_al_105, tk_al_106, tk_al_107, tk_al_108, tk_al_109, tk_al_110, tk_al_111, tk_al_112, tk_al_113, tk_al_114, tk_al_115, tk_al_116, tk_al_117, tk_al_118, tk_al_119, tk_al_120, tk_al_121, tk_al_122, tk_al_123, tk_al_124, tk_al_125, tk_al_126, tk_al_127, tk_al_128, tk_al_129]
  refine x_leastPass (by rw [tk_set_o (by omega), tk_set_o (by omega), tk_set_o (by omega), tk_set_o (by omega)]; omega) ?_
  have e9 : tk_set (tk_set (tk_set (tk_set μ 5 (μ 1 2) k) 6 (μ 1 2) v) 7 (μ 1 2) 0) 8 (μ 1 2) 10 9 = μ 9 := by
    funext j
    rw [tk_set_o (by omega), tk_set_o (by omega), tk_set_o (by omega), tk_set_o (by omega)]
  rw [e9, tk_set_o (by omega), tk_set_o (by omega), tk_set_o (by omega), tk_set_o (by omega)]
  refine tk_for 4 (fun i ρ μ' => ρ 0 = 1 ∧ ρ 3 = μ 1 2 ∧ ρ 4 = i ∧ μ' = tk_fw (tk_set (tk_set (tk_set (tk_set (tk_set (tk_set μ 5 (μ 1 2) k) 6 (μ 1 2) v) 7 (μ 1 2) 0) 8 (μ 1 2) 10) 9 (μ 1 2) (tk_lvq (μ 1 2) (μ 9))) 10 (μ 1 2) (-5)) 11 (4 * μ 1 2) i 0) (by omega) ⟨rfl, rfl, rfl, ?_⟩ ?_ ?_
  · funext o i
    unfold tk_fw
    rw [if_neg (by omega)]
  · rintro i ρ μ' hi0 hi6 ⟨r0, r3, r4, rfl⟩ K hK
    have i2 : tk_iadd i 1 = i + 1 := tk_iadd_id (by omega) (by omega)
    have l2 : tk_iadd (4 * μ 1 2) i = 4 * μ 1 2 + i := tk_iadd_id (by omega) (by omega)
    have q1 : 0 ≤ 4 * μ 1 2 + i := by omega
    have q2 : 4 * μ 1 2 + i < 32 := by omega
    simp [tk_fn, tk_env, tk_sq, tk_sk, tk_if, tk_re, tk_rez, tk_rev, tk_xp, tk_se, tk_pf, tk_pfz, tk_pfo, tk_as, tk_asz, tk_asb, tk_aso, tk_cpy, tk_sw, tk_swc, tk_lit, tk_loc, tk_u1, tk_bin, tk_dv, tk_gf, tk_gr, tk_gn, tk_ald, tk_aldq, tk_aln, tk_unl, tk_una, tk_ter, tk_args, tk_cs, tk_cv, tk_ceq, tk_cne, tk_clt, tk_cge, tk_cgt, tk_cle, tk_zeq, tk_zne, tk_zlt, tk_zge, tk_zgt, tk_zle, tk_and, tk_or, tk_not, tk_ct2, tk_isC, List.headD_cons, tk_up, tk_sca, tk_scl, r0, r3, r4, hi6, m4, i2, l2, q1, q2, tk_al_2, tk_al_3, tk_al_4, tk_al_5, tk_al_6, tk_al_7, tk_al_8, tk_al_9, tk_al_10, tk_al_11, tk_al_13, tk_al_14, tk_al_16, tk_al_17, tk_al_19, tk_al_20, tk_al_22, tk_al_24, tk_al_25, tk_al_26, tk_al_27, tk_al_28, tk_al_29, tk_al_30, tk_al_32, tk_al_33, tk_al_34, tk_al_35, tk_al_36, tk_al_37, tk_al_38, tk_al_39, tk_al_40, tk_al_41, tk_al_43, tk_al_44, tk_al_46, tk_al_47, tk_al_49, tk_al_50, tk_al_52, tk_al_54, tk_al_55, tk_al_56, tk_al_57, tk_al_58, tk_al_59, tk_al_60, tk_al_62, tk_al_63, tk_al_64, tk_al_65, tk_al_66, tk_al_67, tk_al_68, tk_al_69, tk_al_70, tk_al_71, tk_al_73, tk_al_74, tk_al_76, tk_al_77, tk_al_79, tk_al_80, tk_al_81, tk_al_83, tk_al_85, tk_al_87, tk_al_89, tk_al_91, tk_al_93, tk_al_95, tk_al_97, tk_al_98, tk_al_99, tk_al_100, tk_al_101, tk_al_102, tk_al_103, tk_al_104, tk_al_105, tk_al_106, tk_al_107, tk_al_108, tk_al_109, tk_al_110, tk_al_111, tk_al_112, tk_al_113, tk_al_114, tk_al_115, tk_al_116, tk_al_117, tk_al_118, tk_al_119, tk_al_120, tk_al_121, tk_al_122, tk_al_123, tk_al_124, tk_al_125, tk_al_126, tk_al_127, tk_al_128, tk_al_129]
    exact hK _ _ ⟨r0, r3, rfl, tk_fw_s hi0⟩
  · rintro ρ μ' ⟨r0, r3, r4, rfl⟩ X
    have e : tk_fw (tk_set (tk_set (tk_set (tk_set (tk_set (tk_set μ 5 (μ 1 2) k) 6 (μ 1 2) v) 7 (μ 1 2) 0) 8 (μ 1 2) 10) 9 (μ 1 2) (tk_lvq (μ 1 2) (μ 9))) 10 (μ 1 2) (-5)) 11 (4 * μ 1 2) 4 0 1 2 = μ 1 2 := by
      unfold tk_fw
      rw [if_neg (by omega), tk_set_o (by omega), tk_set_o (by omega), tk_set_o (by omega), tk_set_o (by omega), tk_set_o (by omega), tk_set_o (by omega)]
    simp [tk_fn, tk_env, tk_sq, tk_sk, tk_if, tk_re, tk_rez, tk_rev, tk_xp, tk_se, tk_pf, tk_pfz, tk_pfo, tk_as, tk_asz, tk_asb, tk_aso, tk_cpy, tk_sw, tk_swc, tk_lit, tk_loc, tk_u1, tk_bin, tk_dv, tk_gf, tk_gr, tk_gn, tk_ald, tk_aldq, tk_aln, tk_unl, tk_una, tk_ter, tk_args, tk_cs, tk_cv, tk_ceq, tk_cne, tk_clt, tk_cge, tk_cgt, tk_cle, tk_zeq, tk_zne, tk_zlt, tk_zge, tk_zgt, tk_zle, tk_and, tk_or, tk_not, tk_ct2, tk_isC, List.headD_cons, tk_up, tk_sca, tk_scl, r0, r3, r4, e, i1]
    exact hQ
theorem m_client_ok {μ : tk_M} {Q : Int → tk_M → Prop} {k v : Int} (hn : 0 ≤ μ 96 5 ∧ μ 96 5 < 8) (hk : 0 ≤ k ∧ k ≤ 6) (hv : 0 ≤ v ∧ v ≤ 9) (hQ : Q (μ 96 5) (tk_set (tk_fw (tk_set (tk_set (tk_set (tk_set (tk_set (tk_set (tk_set μ 96 24 0) 100 (μ 96 5) k) 101 (μ 96 5) v) 102 (μ 96 5) 0) 103 (μ 96 5) 10) 104 (μ 96 5) (tk_lvq (μ 96 5) (μ 104))) 105 (μ 96 5) (-5)) 106 (4 * μ 96 5) 4 0) 96 5 (μ 96 5 + 1))) : tkF_X7_client [96, k, v] Q μ := by
  have m4 : tk_imul 4 (μ 96 5) = 4 * μ 96 5 := tk_imul_id (by omega) (by omega)
  have i1 : tk_iadd (μ 96 5) 1 = μ 96 5 + 1 := tk_iadd_id (by omega) (by omega)
  have i3 : tk_isub (μ 96 5 + 1) 1 = μ 96 5 := by rw [tk_isub_id (by omega) (by omega)]; omega
  have h8 : ¬ μ 96 5 = 8 := by omega
  -- behind the first loop
  have fin : ∀ (ρ : tk_L) (Qr : Int → tk_M → Prop) (Qn : tk_L → tk_M → Prop), ρ 0 = 96 → ρ 4 = 0 → (∀ ρ2 : tk_L, ρ2 0 = 96 → Qn ρ2 (tk_fw (tk_set (tk_set (tk_set (tk_set (tk_set (tk_set (tk_set μ 96 24 0) 100 (μ 96 5) k) 101 (μ 96 5) v) 102 (μ 96 5) 0) 103 (μ 96 5) 10) 104 (μ 96 5) (tk_lvq (μ 96 5) (μ 104))) 105 (μ 96 5) (-5)) 106 (4 * μ 96 5) 4 0)) → tk_wh (tk_clt (tk_loc 4) (tk_lit (4))) (tk_sq (tk_as 0 (tk_gr 7 (10) (tk_loc 0)) (tk_bin tk_iadd (tk_bin tk_imul (tk_lit (4)) (tk_gf 7 5 (tk_loc 0))) (tk_loc 4)) (tk_lit (0))) (tk_se 4 (tk_bin tk_iadd (tk_loc 4) (tk_lit (1))))) Qn Qr ρ (tk_set (tk_set (tk_set (tk_set (tk_set (tk_set (tk_set μ 96 24 0) 100 (μ 96 5) k) 101 (μ 96 5) v) 102 (μ 96 5) 0) 103 (μ 96 5) 10) 104 (μ 96 5) (tk_lvq (μ 96 5) (μ 104))) 105 (μ 96 5) (-5)) := by
    intro ρ Qr Qn p0 p4 hQn
    refine tk_for 4 (fun i ρ μ' => ρ 0 = 96 ∧ ρ 4 = i ∧ μ' = tk_fw (tk_set (tk_set (tk_set (tk_set (tk_set (tk_set (tk_set μ 96 24 0) 100 (μ 96 5) k) 101 (μ 96 5) v) 102 (μ 96 5) 0) 103 (μ 96 5) 10) 104 (μ 96 5) (tk_lvq (μ 96 5) (μ 104))) 105 (μ 96 5) (-5)) 106 (4 * μ 96 5) i 0) (by omega) ⟨p0, p4, ?_⟩ ?_ ?_
    · funext o i
      unfold tk_fw
      rw [if_neg (by omega)]
    · rintro i ρ μ' hi0 hi6 ⟨r0, r4, rfl⟩ K hK
      have i2 : tk_iadd i 1 = i + 1 := tk_iadd_id (by omega) (by omega)
      have l2 : tk_iadd (4 * μ 96 5) i = 4 * μ 96 5 + i := tk_iadd_id (by omega) (by omega)
      have q1 : 0 ≤ 4 * μ 96 5 + i := by omega
      have q2 : 4 * μ 96 5 + i < 32 := by omega
      have e : tk_fw (tk_set (tk_set (tk_set (tk_set (tk_set (tk_set (tk_set μ 96 24 0) 100 (μ 96 5) k) 101 (μ 96 5) v) 102 (μ 96 5) 0) 103 (μ 96 5) 10) 104 (μ 96 5) (tk_lvq (μ 96 5) (μ 104))) 105 (μ 96 5) (-5)) 106 (4 * μ 96 5) i 0 96 5 = μ 96 5 := by
        unfold tk_fw
        rw [if_neg (by omega), tk_set_o (by omega), tk_set_o (by omega), tk_set_o (by omega), tk_set_o (by omega), tk_set_o (by omega), tk_set_o (by omega), tk_set_j (by omega)]
      simp [tk_fn, tk_env, tk_sq, tk_sk, tk_if, tk_re, tk_rez, tk_rev, tk_xp, tk_se, tk_pf, tk_pfz, tk_pfo, tk_as, tk_asz, tk_asb, tk_aso, tk_cpy, tk_sw, tk_swc, tk_lit, tk_loc, tk_u1, tk_bin, tk_dv, tk_gf, tk_gr, tk_gn, tk_ald, tk_aldq, tk_aln, tk_unl, tk_una, tk_ter, tk_args, tk_cs, tk_cv, tk_ceq, tk_cne, tk_clt, tk_cge, tk_cgt, tk_cle, tk_zeq, tk_zne, tk_zlt, tk_zge, tk_zgt, tk_zle, tk_and, tk_or, tk_not, tk_ct2, tk_isC, List.headD_cons, tk_up, tk_sca, tk_scl, r0, r4, hi6, e, m4, i2, l2, q1, q2, tk_al_2, tk_al_3, tk_al_4, tk_al_5, tk_al_6, tk_al_7, tk_al_8, tk_al_9, tk_al_10, tk_al_11, tk_al_13, tk_al_14, tk_al_16, tk_al_17, tk_al_19, tk_al_20, tk_al_22, tk_al_24, tk_al_25, tk_al_26, tk_al_27, tk_al_28, tk_al_29, tk_al_30, tk_al_32, tk_al_33, tk_al_34, tk_al_35, tk_al_36, tk_al_37, tk_al_38, tk_al_39, tk_al_40, tk_al_41, tk_al_43, tk_al_44, tk_al_46, tk_al_47, tk_al_49, tk_al_50, tk_al_52, tk_al_54, tk_al_55, tk_al_56, tk_al_57, tk_al_58, tk_al_59, tk_al_60, tk_al_62, tk_al_63, tk_al_64, tk_al_65, tk_al_66, tk_al_67, tk_al_68, tk_al_69, tk_al_70, tk_al_71, tk_al_73, tk_al_74, tk_al_76, tk_al_77, tk_al_79, tk_al_80, tk_al_81, tk_al_83, tk_al_85, tk_al_87, tk_al_89, tk_al_91, tk_al_93, tk_al_95, tk_al_97, tk_al_98, tk_al_99, tk_al_100, tk_al_101, tk_al_102, tk_al_103, tk_al_104, tk_al_105, tk_al_106, tk_al_107, tk_al_108, tk_al_109, tk_al_110, tk_al_111, tk_al_112, tk_al_113, tk_al_114, tk_al_115, tk_al_116, tk_al_117, tk_al_118, tk_al_119, tk_al_120, tk_al_121, tk_al_122, tk_al_123, tk_al_124, tk_al_125, tk_al_126, tk_al_127, tk_al_128, tk_al_129]
      exact hK _ _ ⟨r0, rfl, tk_fw_s hi0⟩
    · rintro ρ μ' ⟨r0, r4, rfl⟩ X
      simp [tk_fn, tk_env, tk_sq, tk_sk, tk_if, tk_re, tk_rez, tk_rev, tk_xp, tk_se, tk_pf, tk_pfz, tk_pfo, tk_as, tk_asz, tk_asb, tk_aso, tk_cpy, tk_sw, tk_swc, tk_lit, tk_loc, tk_u1, tk_bin, tk_dv, tk_gf, tk_gr, tk_gn, tk_ald, tk_aldq, tk_aln, tk_unl, tk_una, tk_ter, tk_args, tk_cs, tk_cv, tk_ceq, tk_cne, tk_clt, tk_cge, tk_cgt, tk_cle, tk_zeq, tk_zne, tk_zlt, tk_zge, tk_zgt, tk_zle, tk_and, tk_or, tk_not, tk_ct2, tk_isC, List.headD_cons, tk_up, tk_sca, tk_scl, r0, r4]
      exact hQn ρ r0
  have e : tk_fw (tk_set (tk_set (tk_set (tk_set (tk_set (tk_set (tk_set μ 96 24 0) 100 (μ 96 5) k) 101 (μ 96 5) v) 102 (μ 96 5) 0) 103 (μ 96 5) 10) 104 (μ 96 5) (tk_lvq (μ 96 5) (μ 104))) 105 (μ 96 5) (-5)) 106 (4 * μ 96 5) 4 0 96 5 = μ 96 5 := by
    unfold tk_fw
    rw [if_neg (by omega), tk_set_o (by omega), tk_set_o (by omega), tk_set_o (by omega), tk_set_o (by omega), tk_set_o (by omega), tk_set_o (by omega), tk_set_j (by omega)]
  have fin2 : ∀ (ρ : tk_L) (Qr : Int → tk_M → Prop) (Qn : tk_L → tk_M → Prop) (l : Int), l = tk_lvq (μ 96 5) (μ 104) → ρ 0 = 96 → ρ 4 = 0 → (∀ ρ2 : tk_L, ρ2 0 = 96 → Qn ρ2 (tk_fw (tk_set (tk_set (tk_set (tk_set (tk_set (tk_set (tk_set μ 96 24 0) 100 (μ 96 5) k) 101 (μ 96 5) v) 102 (μ 96 5) 0) 103 (μ 96 5) 10) 104 (μ 96 5) (tk_lvq (μ 96 5) (μ 104))) 105 (μ 96 5) (-5)) 106 (4 * μ 96 5) 4 0)) → tk_wh (tk_clt (tk_loc 4) (tk_lit (4))) (tk_sq (tk_as 0 (tk_gr 7 (10) (tk_loc 0)) (tk_bin tk_iadd (tk_bin tk_imul (tk_lit (4)) (tk_gf 7 5 (tk_loc 0))) (tk_loc 4)) (tk_lit (0))) (tk_se 4 (tk_bin tk_iadd (tk_loc 4) (tk_lit (1))))) Qn Qr ρ (tk_set (tk_set (tk_set (tk_set (tk_set (tk_set (tk_set μ 96 24 0) 100 (μ 96 5) k) 101 (μ 96 5) v) 102 (μ 96 5) 0) 103 (μ 96 5) 10) 104 (μ 96 5) l) 105 (μ 96 5) (-5)) := by
    rintro ρ Qr Qn l rfl p0 p4 hQn
    exact fin ρ Qr Qn p0 p4 hQn
  by_cases h0 : μ 96 5 = 0
  · have h1 : ¬ 1 < μ 96 5 := by omega
    simp [tk_fn, tk_env, tk_sq, tk_sk, tk_if, tk_re, tk_rez, tk_rev, tk_xp, tk_se, tk_pf, tk_pfz, tk_pfo, tk_as, tk_asz, tk_asb, tk_aso, tk_cpy, tk_sw, tk_swc, tk_lit, tk_loc, tk_u1, tk_bin, tk_dv, tk_gf, tk_gr, tk_gn, tk_ald, tk_aldq, tk_aln, tk_unl, tk_una, tk_ter, tk_args, tk_cs, tk_cv, tk_ceq, tk_cne, tk_clt, tk_cge, tk_cgt, tk_cle, tk_zeq, tk_zne, tk_zlt, tk_zge, tk_zgt, tk_zle, tk_and, tk_or, tk_not, tk_ct2, tk_isC, List.headD_cons, tk_up, tk_sca, tk_scl, tkF_X7_client, tkS_X7_client, m_in, tk_bo_0, hk.1, hk.2, hv.1, hv.2, tk_set_j, eq_true h0, h8]
    refine tk_for 0 (fun i ρ μ' => i = 0 ∧ μ' = tk_set μ 96 24 0 ∧ ρ 0 = 96 ∧ ρ 1 = k ∧ ρ 2 = v ∧ ρ 3 = 0 ∧ ρ 4 = 1) (by omega) ⟨rfl, rfl, rfl, rfl, rfl, rfl, rfl⟩ (fun i ρ μ' h1 h2 => by omega) ?_
    rintro ρ μ' ⟨-, rfl, r0, r1, r2, r3, r4⟩ X
    simp [tk_fn, tk_env, tk_sq, tk_sk, tk_if, tk_re, tk_rez, tk_rev, tk_xp, tk_se, tk_pf, tk_pfz, tk_pfo, tk_as, tk_asz, tk_asb, tk_aso, tk_cpy, tk_sw, tk_swc, tk_lit, tk_loc, tk_u1, tk_bin, tk_dv, tk_gf, tk_gr, tk_gn, tk_ald, tk_aldq, tk_aln, tk_unl, tk_una, tk_ter, tk_args, tk_cs, tk_cv, tk_ceq, tk_cne, tk_clt, tk_cge, tk_cgt, tk_cle, tk_zeq, tk_zne, tk_zlt, tk_zge, tk_zgt, tk_zle, tk_and, tk_or, tk_not, tk_ct2, tk_isC, List.headD_cons, tk_up, tk_sca, tk_scl, r0, r1, r2, r3, r4, tk_set_j, tk_set_o, h1, hn.1, hn.2, tk_al_2, tk_al_3, tk_al_4, tk_al_5, tk_al_6, tk_al_7, tk_al_8, tk_al_9, tk_al_10, tk_al_11, tk_al_13, tk_al_14, tk_al_16, tk_al_17, tk_al_19, tk_al_20, tk_al_22, tk_al_24, tk_al_25, tk_al_26, tk_al_27, tk_al_28, tk_al_29, tk_al_30, tk_al_32, tk_al_33, tk_al_34, tk_al_35, tk_al_36, tk_al_37, tk_al_38, tk_al_39, tk_al_40, tk_al_41, tk_al_43, tk_al_44, tk_al_46, tk_al_47, tk_al_49, tk_al_50, tk_al_52, tk_al_54, tk_al_55, tk_al_56, tk_al_57, tk_al_58, tk_al_59, tk_al_60, tk_al_62, tk_al_63, tk_al_64, tk_al_65, tk_al_66, tk_al_67, tk_al_68, tk_al_69, tk_al_70, tk_al_71, tk_al_73, tk_al_74, tk_al_76, tk_al_77, tk_al_79, tk_al_80, tk_al_81, tk_al_83, tk_al_85, tk_al_87, tk_al_89, tk_al_91, tk_al_93, tk_al_95, tk_al_97, tk_al_98, tk_al_99, tk_al_100, tk_al_101, tk_al_102, tk_al_103, tk_al_104, tk_al_105, tk_al_106, tk_al_107, tk_al_108, tk_al_109, tk_al_110, tk_al_111, tk_al_112, tk_al_113, tk_al_114, tk_al_115, tk_al_116, tk_al_117, tk_al_118, tk_al_119, tk_al_120, tk_al_121, tk_al_122, tk_al_123, tk_al_124, tk_al_125, tk_al_126, tk_al_127, tk_al_128, tk_al_129]
    refine fin2 _ Q _ 0 (by unfold tk_lvq; rw [if_pos h0]) r0 rfl (fun ρ2 z0 => ?_)
    simp [tk_fn, tk_env, tk_sq, tk_sk, tk_if, tk_re, tk_rez, tk_rev, tk_xp, tk_se, tk_pf, tk_pfz, tk_pfo, tk_as, tk_asz, tk_asb, tk_aso, tk_cpy, tk_sw, tk_swc, tk_lit, tk_loc, tk_u1, tk_bin, tk_dv, tk_gf, tk_gr, tk_gn, tk_ald, tk_aldq, tk_aln, tk_unl, tk_una, tk_ter, tk_args, tk_cs, tk_cv, tk_ceq, tk_cne, tk_clt, tk_cge, tk_cgt, tk_cle, tk_zeq, tk_zne, tk_zlt, tk_zge, tk_zgt, tk_zle, tk_and, tk_or, tk_not, tk_ct2, tk_isC, List.headD_cons, tk_up, tk_sca, tk_scl, z0, e, i1, i3, tk_set_eq]
    exact hQ
  · have hp : 1 ≤ μ 96 5 := by omega
    simp [tk_fn, tk_env, tk_sq, tk_sk, tk_if, tk_re, tk_rez, tk_rev, tk_xp, tk_se, tk_pf, tk_pfz, tk_pfo, tk_as, tk_asz, tk_asb, tk_aso, tk_cpy, tk_sw, tk_swc, tk_lit, tk_loc, tk_u1, tk_bin, tk_dv, tk_gf, tk_gr, tk_gn, tk_ald, tk_aldq, tk_aln, tk_unl, tk_una, tk_ter, tk_args, tk_cs, tk_cv, tk_ceq, tk_cne, tk_clt, tk_cge, tk_cgt, tk_cle, tk_zeq, tk_zne, tk_zlt, tk_zge, tk_zgt, tk_zle, tk_and, tk_or, tk_not, tk_ct2, tk_isC, List.headD_cons, tk_up, tk_sca, tk_scl, tkF_X7_client, tkS_X7_client, m_in, tk_bo_0, hk.1, hk.2, hv.1, hv.2, tk_set_j, tk_set_o, h0, h8, tk_al_2, tk_al_3, tk_al_4, tk_al_5, tk_al_6, tk_al_7, tk_al_8, tk_al_9, tk_al_10, tk_al_11, tk_al_13, tk_al_14, tk_al_16, tk_al_17, tk_al_19, tk_al_20, tk_al_22, tk_al_24, tk_al_25, tk_al_26, tk_al_27, tk_al_28, tk_al_29, tk_al_30, tk_al_32, tk_al_33, tk_al_34, tk_al_35, tk_al_36, tk_al_37, tk_al_38, tk_al_39, tk_al_40, tk_al_41, tk_al_43, tk_al_44, tk_al_46, tk_al_47, tk_al_49, tk_al_50, tk_al_52, tk_al_54, tk_al_55, tk_al_56, tk_al_57, tk_al_58, tk_al_59, tk_al_60, tk_al_62, tk_al_63, tk_al_64, tk_al_65, tk_al_66, tk_al_67, tk_al_68, tk_al_69, tk_al_70, tk_al_71, tk_al_73, tk_al_74, tk_al_76, tk_al_77, tk_al_79, tk_al_80, tk_al_81, tk_al_83, tk_al_85, tk_al_87, tk_al_89, tk_al_91, tk_al_93, tk_al_95, tk_al_97, tk_al_98, tk_al_99, tk_al_100, tk_al_101, tk_al_102, tk_al_103, tk_al_104, tk_al_105, tk_al_106, tk_al_107, tk_al_108, tk_al_109, tk_al_110, tk_al_111, tk_al_112, tk_al_113, tk_al_114, tk_al_115, tk_al_116, tk_al_117, tk_al_118, tk_al_119, tk_al_120, tk_al_121, tk_al_122, tk_al_123, tk_al_124, tk_al_125, tk_al_126, tk_al_127, tk_al_128, tk_al_129]
    refine tk_for (μ 96 5 - 1) (fun i ρ μ' => μ' = tk_set μ 96 24 0 ∧ ρ 0 = 96 ∧ ρ 1 = k ∧ ρ 2 = v ∧ ρ 3 = tk_lq (μ 104) i.toNat ∧ ρ 4 = i + 1) (by omega) ⟨rfl, rfl, rfl, rfl, rfl, rfl⟩ ?_ ?_
    · rintro i ρ μ' h1 h2 ⟨rfl, r0, r1, r2, r3, r4⟩ K hK
      have hl := tk_lq_s (f := μ 104) h1
      have q1 : i + 1 < μ 96 5 := by clear r3 hl; omega
      have q2 : i + 1 < 8 := by clear r3 hl; omega
      have q3 : 0 ≤ i + 1 := by clear r3 hl; omega
      have i2 : tk_iadd (i + 1) 1 = i + 1 + 1 := tk_iadd_id (by clear r3 hl; omega) (by clear r3 hl; omega)
      by_cases hx : μ 104 (i + 1) < tk_lq (μ 104) i.toNat
      · rw [if_pos hx] at hl
        simp [tk_fn, tk_env, tk_sq, tk_sk, tk_if, tk_re, tk_rez, tk_rev, tk_xp, tk_se, tk_pf, tk_pfz, tk_pfo, tk_as, tk_asz, tk_asb, tk_aso, tk_cpy, tk_sw, tk_swc, tk_lit, tk_loc, tk_u1, tk_bin, tk_dv, tk_gf, tk_gr, tk_gn, tk_ald, tk_aldq, tk_aln, tk_unl, tk_una, tk_ter, tk_args, tk_cs, tk_cv, tk_ceq, tk_cne, tk_clt, tk_cge, tk_cgt, tk_cle, tk_zeq, tk_zne, tk_zlt, tk_zge, tk_zgt, tk_zle, tk_and, tk_or, tk_not, tk_ct2, tk_isC, List.headD_cons, tk_up, tk_sca, tk_scl, r0, r3, r4, q1, q2, q3, i2, hx, tk_set_j, tk_set_o, tk_al_2, tk_al_3, tk_al_4, tk_al_5, tk_al_6, tk_al_7, tk_al_8, tk_al_9, tk_al_10, tk_al_11, tk_al_13, tk_al_14, tk_al_16, tk_al_17, tk_al_19, tk_al_20, tk_al_22, tk_al_24, tk_al_25, tk_al_26, tk_al_27, tk_al_28, tk_al_29, tk_al_30, tk_al_32, tk_al_33, tk_al_34, tk_al_35, tk_al_36, tk_al_37, tk_al_38, tk_al_39, tk_al_40, tk_al_41, tk_al_43, tk_al_44, tk_al_46, tk_al_47, tk_al_49, tk_al_50, tk_al_52, tk_al_54, tk_al_55, tk_al_56, tk_al_57, tk_al_58, tk_al_59, tk_al_60, tk_al_62, tk_al_63, tk_al_64, tk_al_65, tk_al_66, tk_al_67, tk_al_68, tk_al_69, tk_al_70, tk_al_71, tk_al_73, tk_al_74, tk_al_76, tk_al_77, tk_al_79, tk_al_80, tk_al_81, tk_al_83, tk_al_85, tk_al_87, tk_al_89, tk_al_91, tk_al_93, tk_al_95, tk_al_97, tk_al_98, tk_al_99, tk_al_100, tk_al_101, tk_al_102, tk_al_103, tk_al_104, tk_al_105, tk_al_106, tk_al_107, tk_al_108, tk_al_109, tk_al_110, tk_al_111, tk_al_112, tk_al_113, tk_al_114, tk_al_115, tk_al_116, tk_al_117, tk_al_118, tk_al_119, tk_al_120, tk_al_121, tk_al_122, tk_al_123, tk_al_124, tk_al_125, tk_al_126, tk_al_127, tk_al_128, tk_al_129]
        exact hK _ _ ⟨rfl, r0, r1, r2, hl.symm, rfl⟩
      · rw [if_neg hx] at hl
        simp [tk_fn, tk_env, tk_sq, tk_sk, tk_if, tk_re, tk_rez, tk_rev, tk_xp, tk_se, tk_pf, tk_pfz, tk_pfo, tk_as, tk_asz, tk_asb, tk_aso, tk_cpy, tk_sw, tk_swc, tk_lit, tk_loc, tk_u1, tk_bin, tk_dv, tk_gf, tk_gr, tk_gn, tk_ald, tk_aldq, tk_aln, tk_unl, tk_una, tk_ter, tk_args, tk_cs, tk_cv, tk_ceq, tk_cne, tk_clt, tk_cge, tk_cgt, tk_cle, tk_zeq, tk_zne, tk_zlt, tk_zge, tk_zgt, tk_zle, tk_and, tk_or, tk_not, tk_ct2, tk_isC, List.headD_cons, tk_up, tk_sca, tk_scl, r0, r3, r4, q1, q2, q3, i2, hx, tk_set_j, tk_set_o, tk_al_2, tk_al_3, tk_al_4, tk_al_5, tk_al_6, tk_al_7, tk_al_8, tk_al_9, tk_al_10, tk_al_11, tk_al_13, tk_al_14, tk_al_16, tk_al_17, tk_al_19, tk_al_20, tk_al_22, tk_al_24, tk_al_25, tk_al_26, tk_al_27, tk_al_28, tk_al_29, tk_al_30, tk_al_32, tk_al_33, tk_al_34, tk_al_35, tk_al_36, tk_al_37, tk_al_38, tk_al_39, tk_al_40, tk_al_41, tk_al_43, tk_al_44, tk_al_46, tk_al_47, tk_al_49, tk_al_50, tk_al_52, tk_al_54, tk_al_55, tk_al_56, tk_al_57, tk_al_58, tk_al_59, tk_al_60, tk_al_62, tk_al_63, tk_al_64, tk_al_65, tk_al_66, tk_al_67, tk_al_68, tk_al_69, tk_al_70, tk_al_71, tk_al_73, tk_al_74, tk_al_76, tk_al_77, tk_al_79, tk_al_80, tk_al_81, tk_al_83, tk_al_85, tk_al_87, tk_al_89, tk_al_91, tk_al_93, tk_al_95, tk_al_97, tk_al_98, tk_al_99, tk_al_100, tk_al_101, tk_al_102, tk_al_103, tk_al_104, tk_al_105, tk_al_106, tk_al_107, tk_al_108, tk_al_109, tk_al_110, tk_al_111, tk_al_112, tk_al_113, tk_al_114, tk_al_115, tk_al_116, tk_al_117, tk_al_118, tk_al_119, tk_al_120, tk_al_121, tk_al_122, tk_al_123, tk_al_124, tk_al_125, tk_al_126, tk_al_127, tk_al_128, tk_al_129]
        exact hK _ _ ⟨rfl, r0, r1, r2, hl.symm, rfl⟩
    · rintro ρ μ' ⟨rfl, r0, r1, r2, r3, r4⟩ X
      have q1 : ¬ μ 96 5 - 1 + 1 < μ 96 5 := by clear r3; omega
      simp [tk_fn, tk_env, tk_sq, tk_sk, tk_if, tk_re, tk_rez, tk_rev, tk_xp, tk_se, tk_pf, tk_pfz, tk_pfo, tk_as, tk_asz, tk_asb, tk_aso, tk_cpy, tk_sw, tk_swc, tk_lit, tk_loc, tk_u1, tk_bin, tk_dv, tk_gf, tk_gr, tk_gn, tk_ald, tk_aldq, tk_aln, tk_unl, tk_una, tk_ter, tk_args, tk_cs, tk_cv, tk_ceq, tk_cne, tk_clt, tk_cge, tk_cgt, tk_cle, tk_zeq, tk_zne, tk_zlt, tk_zge, tk_zgt, tk_zle, tk_and, tk_or, tk_not, tk_ct2, tk_isC, List.headD_cons, tk_up, tk_sca, tk_scl, r0, r1, r2, r3, r4, q1, tk_set_j, tk_set_o, hn.1, hn.2, tk_al_2, tk_al_3, tk_al_4, tk_al_5, tk_al_6, tk_al_7, tk_al_8, tk_al_9, tk_al_10, tk_al_11, tk_al_13, tk_al_14, tk_al_16, tk_al_17, tk_al_19, tk_al_20, tk_al_22, tk_al_24, tk_al_25, tk_al_26, tk_al_27, tk_al_28, tk_al_29, tk_al_30, tk_al_32, tk_al_33, tk_al_34, tk_al_35, tk_al_36, tk_al_37, tk_al_38, tk_al_39, tk_al_40, tk_al_41, tk_al_43, tk_al_44, tk_al_46, tk_al_47, tk_al_49, tk_al_50, tk_al_52, tk_al_54, tk_al_55, tk_al_56, tk_al_57, tk_al_58, tk_al_59, tk_al_60, tk_al_62, tk_al_63, tk_al_64, tk_al_65, tk_al_66, tk_al_67, tk_al_68, tk_al_69, tk_al_70, tk_al_71, tk_al_73, tk_al_74, tk_al_76, tk_al_77, tk_al_79, tk_al_80, tk_al_81, tk_al_83, tk_al_85, tk_al_87, tk_al_89, tk_al_91, tk_al_93, tk_al_95, tk_al_97, tk_al_98, tk_al_99, tk_al_100, tk_al_101, tk_al_102, tk_al_103, tk_al_104, tk_al_105, tk_al_106, tk_al_107, tk_al_108, tk_al_109, tk_al_110, tk_al_111, tk_al_112, tk_al_113, tk_al_114, tk_al_115, tk_al_116, tk_al_117, tk_al_118, tk_al_119, tk_al_120, tk_al_121, tk_al_122, tk_al_123, tk_al_124, tk_al_125, tk_al_126, tk_al_127, tk_al_128, tk_al_129]
      refine fin2 _ Q _ _ (by unfold tk_lvq; rw [if_neg h0]) r0 rfl (fun ρ2 z0 => ?_)
      simp [tk_fn, tk_env, tk_sq, tk_sk, tk_if, tk_re, tk_rez, tk_rev, tk_xp, tk_se, tk_pf, tk_pfz, tk_pfo, tk_as, tk_asz, tk_asb, tk_aso, tk_cpy, tk_sw, tk_swc, tk_lit, tk_loc, tk_u1, tk_bin, tk_dv, tk_gf, tk_gr, tk_gn, tk_ald, tk_aldq, tk_aln, tk_unl, tk_una, tk_ter, tk_args, tk_cs, tk_cv, tk_ceq, tk_cne, tk_clt, tk_cge, tk_cgt, tk_cle, tk_zeq, tk_zne, tk_zlt, tk_zge, tk_zgt, tk_zle, tk_and, tk_or, tk_not, tk_ct2, tk_isC, List.headD_cons, tk_up, tk_sca, tk_scl, z0, e, i1, i3, tk_set_eq]
      exact hQ
theorem c_client_R {k v : Int} {μ : tk_M} (hR : tk_R μ) (hn : 0 ≤ μ 1 2 ∧ μ 1 2 < 8) (hk : 0 ≤ k ∧ k ≤ 6) (hv : 0 ≤ v ∧ v ≤ 9) {μ' : tk_M} (e : ∀ o j : Int, μ' o j = if o = 96 ∧ j = 5 then μ 1 2 + 1 else if o = 106 ∧ 4 * μ 1 2 ≤ j ∧ j < 4 * μ 1 2 + 4 then 0 else if o = 105 ∧ j = μ 1 2 then -5 else if o = 104 ∧ j = μ 1 2 then tk_lvq (μ 1 2) (μ 9) else if o = 103 ∧ j = μ 1 2 then 10 else if o = 102 ∧ j = μ 1 2 then 0 else if o = 101 ∧ j = μ 1 2 then v else if o = 100 ∧ j = μ 1 2 then k else if o = 96 ∧ j = 24 then 0 else if o = 1 ∧ j = 2 then μ 1 2 + 1 else if o = 11 ∧ 4 * μ 1 2 ≤ j ∧ j < 4 * μ 1 2 + 4 then 0 else if o = 10 ∧ j = μ 1 2 then -5 else if o = 9 ∧ j = μ 1 2 then tk_lvq (μ 1 2) (μ 9) else if o = 8 ∧ j = μ 1 2 then 10 else if o = 7 ∧ j = μ 1 2 then 0 else if o = 6 ∧ j = μ 1 2 then v else if o = 5 ∧ j = μ 1 2 then k else μ o j) : tk_R μ' := by
  have hl : 0 ≤ tk_lvq (μ 1 2) (μ 9) ∧ tk_lvq (μ 1 2) (μ 9) ≤ 2147483647 := tk_lvq_bd hn.1 (fun c h1 h2 => (hR.2.1.2.2.1 c h1 h2).2.2.2.2.1)
  generalize tk_lvq (μ 1 2) (μ 9) = l at hl e
  refine tk_R_live hR ?_ ?_ ?_
  · obtain ⟨⟨a1, a2, a3, a4, a5, a6, a7⟩, -⟩ := hR
    unfold tk_EE tk_E0 tk_E1 tk_E2 tk_E3 tk_E4 tk_E5 tk_E6 at *
    simp [tk_hv, tk_mv] at a1 a2 a3 a4 a5 a6 a7
    simp [tk_hv, tk_mv, e]
    refine ⟨⟨a1.1, a1.2.1, a1.2.2.2⟩, a2, fun c h1 h2 => ?_, fun j h1 h2 => ?_, a5, a6, a7⟩
    · by_cases hc : c = μ 1 2
      · simp [hc]
      · have := a3 c h1 (by omega)
        simpa [hc] using this
    · by_cases hc : 4 * μ 1 2 ≤ j ∧ j < 4 * μ 1 2 + 4
      · simp [hc]
      · have := a4 j h1 (by omega)
        rw [if_neg hc, if_neg hc]
        exact this
  · obtain ⟨-, ⟨b0, b1, b2, b3, b4, b5, b6, ⟨rk, b7a, b7⟩, ⟨rk8, b8a, b8⟩⟩, -⟩ := hR
    unfold tk_II tk_I0 tk_I1 tk_I2 tk_I3 tk_I4 tk_I5 tk_I6 tk_I7 tk_I8 at *
    simp [tk_hv] at b0 b1 b2 b3 b4 b5 b6 b7 b8
    simp [tk_hv, e]
    refine ⟨by omega, fun t h1 h2 => ?_, fun c h1 h2 => ?_, fun j h1 h2 => ?_, ⟨b4.1, fun j h1 h2 => ?_⟩, ⟨b5.1, fun j h1 h2 => ?_⟩, ⟨b6.1, fun j h1 h2 => ?_⟩, ⟨rk, b7a, b7⟩, ⟨rk8, b8a, fun c h1 h2 h3 => ?_⟩⟩
    · have := b1 t h1 h2
      omega
    · by_cases hc : c = μ 1 2
      · simp [hc]
        omega
      · have := b2 c h1 (by omega)
        simp [hc]
        omega
    · by_cases hc : 4 * μ 1 2 ≤ j ∧ j < 4 * μ 1 2 + 4
      · simp [hc]
      · rw [if_neg hc]
        exact b3 j h1 (by omega)
    · have := b4.2 j h1 h2
      omega
    · have := b5.2 j h1 h2
      omega
    · have := b6.2 j h1 h2
      omega
    · by_cases hc : c = μ 1 2
      · simp [hc] at h3
      · simp [hc] at h3 ⊢
        exact b8 c h1 (by omega) h3
  · intro o i hq
    unfold tk_kq at hq
    rw [e]
    repeat rw [if_neg (by omega)]
theorem c_client (k v : Int) : tk_cp tkF_X6_client tkF_X7_client [k, v] := by
  intro μ hR K hK
  have hT := tk_R_thr (v := 0) hR
  obtain ⟨e1, e2, e3, e4, e5, e6, e7, e8, e9, hcu, hn, hm, hck⟩ := tk_R_n hR
  by_cases hk : 0 ≤ k ∧ k ≤ 6
  · by_cases hv : 0 ≤ v ∧ v ≤ 9
    · by_cases hf : μ 1 2 = 8
      · simp [tk_fn, tk_env, tk_sq, tk_sk, tk_if, tk_re, tk_rez, tk_rev, tk_xp, tk_se, tk_pf, tk_pfz, tk_pfo, tk_as, tk_asz, tk_asb, tk_aso, tk_cpy, tk_sw, tk_swc, tk_lit, tk_loc, tk_u1, tk_bin, tk_dv, tk_gf, tk_gr, tk_gn, tk_ald, tk_aldq, tk_aln, tk_unl, tk_una, tk_ter, tk_args, tk_cs, tk_cv, tk_ceq, tk_cne, tk_clt, tk_cge, tk_cgt, tk_cle, tk_zeq, tk_zne, tk_zlt, tk_zge, tk_zgt, tk_zle, tk_and, tk_or, tk_not, tk_ct2, tk_isC, List.headD_cons, tk_up, tk_sca, tk_scl, tkF_X6_client, tkS_X6_client, tkF_X7_client, tkS_X7_client, x_isKind, x_isDigit, m_in, tk_bo_0, hk.1, hk.2, hv.1, hv.2, tk_set_j, e3, hf]
        exact hK _ _ hT
      · have h8 : ¬ 8 ≤ μ 1 2 := by omega
        have hn8 : 0 ≤ μ 1 2 ∧ μ 1 2 < 8 := by omega
        simp [tk_fn, tk_env, tk_sq, tk_sk, tk_if, tk_re, tk_rez, tk_rev, tk_xp, tk_se, tk_pf, tk_pfz, tk_pfo, tk_as, tk_asz, tk_asb, tk_aso, tk_cpy, tk_sw, tk_swc, tk_lit, tk_loc, tk_u1, tk_bin, tk_dv, tk_gf, tk_gr, tk_gn, tk_ald, tk_aldq, tk_aln, tk_unl, tk_una, tk_ter, tk_args, tk_cs, tk_cv, tk_ceq, tk_cne, tk_clt, tk_cge, tk_cgt, tk_cle, tk_zeq, tk_zne, tk_zlt, tk_zge, tk_zgt, tk_zle, tk_and, tk_or, tk_not, tk_ct2, tk_isC, List.headD_cons, tk_up, tk_sca, tk_scl, tkF_X6_client, tkS_X6_client, x_isKind, x_isDigit, tk_bo_0, hk.1, hk.2, hv.1, hv.2, h8]
        refine x_addClient hn8 ?_
        generalize hX : tk_set (tk_fw (tk_set (tk_set (tk_set (tk_set (tk_set (tk_set μ 5 (μ 1 2) k) 6 (μ 1 2) v) 7 (μ 1 2) 0) 8 (μ 1 2) 10) 9 (μ 1 2) (tk_lvq (μ 1 2) (μ 9))) 10 (μ 1 2) (-5)) 11 (4 * μ 1 2) 4 0) 1 2 (μ 1 2 + 1) = X
        have eX : ∀ o j : Int, X o j = if o = 1 ∧ j = 2 then μ 1 2 + 1 else if o = 11 ∧ 4 * μ 1 2 ≤ j ∧ j < 4 * μ 1 2 + 4 then 0 else if o = 10 ∧ j = μ 1 2 then -5 else if o = 9 ∧ j = μ 1 2 then tk_lvq (μ 1 2) (μ 9) else if o = 8 ∧ j = μ 1 2 then 10 else if o = 7 ∧ j = μ 1 2 then 0 else if o = 6 ∧ j = μ 1 2 then v else if o = 5 ∧ j = μ 1 2 then k else μ o j := fun o j => by
          rw [← hX]
          rfl
        clear hX
        have x5 : X 96 5 = μ 1 2 := by rw [eX]; simp [e3]
        have x104 : tk_lvq (μ 1 2) (X 104) = tk_lvq (μ 1 2) (μ 9) := tk_lvq_eq hm.1 (fun c h1 h2 => by
          rw [eX]
          simp
          exact (hR.1.2.2.1 c h1 h2).2.2.2.2.1)
        refine m_client_ok (by rw [x5]; exact hn8) hk hv ?_
        rw [x5, x104]
        refine hK _ _ (c_client_R hR hn8 hk hv (fun o j => ?_))
        simp only [tk_set, tk_fw, eX]
    · simp [tk_fn, tk_env, tk_sq, tk_sk, tk_if, tk_re, tk_rez, tk_rev, tk_xp, tk_se, tk_pf, tk_pfz, tk_pfo, tk_as, tk_asz, tk_asb, tk_aso, tk_cpy, tk_sw, tk_swc, tk_lit, tk_loc, tk_u1, tk_bin, tk_dv, tk_gf, tk_gr, tk_gn, tk_ald, tk_aldq, tk_aln, tk_unl, tk_una, tk_ter, tk_args, tk_cs, tk_cv, tk_ceq, tk_cne, tk_clt, tk_cge, tk_cgt, tk_cle, tk_zeq, tk_zne, tk_zlt, tk_zge, tk_zgt, tk_zle, tk_and, tk_or, tk_not, tk_ct2, tk_isC, List.headD_cons, tk_up, tk_sca, tk_scl, tkF_X6_client, tkS_X6_client, tkF_X7_client, tkS_X7_client, x_isKind, x_isDigit, m_in, tk_bo_0, hk.1, hk.2, hv, -not_and]
      exact hK _ _ hT
  · simp [tk_fn, tk_env, tk_sq, tk_sk, tk_if, tk_re, tk_rez, tk_rev, tk_xp, tk_se, tk_pf, tk_pfz, tk_pfo, tk_as, tk_asz, tk_asb, tk_aso, tk_cpy, tk_sw, tk_swc, tk_lit, tk_loc, tk_u1, tk_bin, tk_dv, tk_gf, tk_gr, tk_gn, tk_ald, tk_aldq, tk_aln, tk_unl, tk_una, tk_ter, tk_args, tk_cs, tk_cv, tk_ceq, tk_cne, tk_clt, tk_cge, tk_cgt, tk_cle, tk_zeq, tk_zne, tk_zlt, tk_zge, tk_zgt, tk_zle, tk_and, tk_or, tk_not, tk_ct2, tk_isC, List.headD_cons, tk_up, tk_sca, tk_scl, tkF_X6_client, tkS_X6_client, tkF_X7_client, tkS_X7_client, x_isKind, m_in, tk_bo_0, hk, -not_and]
    exact hK _ _ hT
