/-! ===== Layer 2: FUNDS taken by the Model; fund ===== -/
theorem tk_fok_EE {S T' : tk_M} (h : tk_EE S T') {a : Int → Int} : tk_fok T' a ↔ tk_fok S a := by
  unfold tk_fok
  rw [h.1.1, h.1.2.1, h.1.2.2.1, tk_hg_eq h.1 h.2.1]
theorem tk_EE_add {S T' : tk_M} (h : tk_EE S T') {a : Int → Int} : tk_EE (tk_add S a) (tk_add T' a) := by
  have e01 := h.1.2.1
  obtain ⟨a1, a2, a3, a4, a5, a6, a7⟩ := h
  unfold tk_EE tk_E0 tk_E1 tk_E2 tk_E3 tk_E4 tk_E5 tk_E6 tk_add at *
  simp [tk_set, e01] at *
  refine ⟨a1, fun i h3 h4 => ?_, a3, a4, a5, a6, a7⟩
  by_cases hi : i = S 0 1
  · simp [hi]
  · simp [hi]
    exact a2 i h3 (by omega)
/-- what a FUND of the Model writes -/
def tk_fF (m m' : tk_M) : Prop := ∀ o i : Int, ¬ (o = 97 ∨ o = 98 ∨ o = 99 ∨ o = 115 ∨ (o = 96 ∧ i = 1)) → m' o i = m o i
theorem tk_mv_97 {μ : tk_M} {i v : Int} : tk_mv (tk_set μ 97 i v) = tk_set (tk_mv μ) 1 i v := by
  funext f j
  unfold tk_mv tk_set
  by_cases h : f = 1
  · subst h; simp
  · simp [h]
theorem tk_mv_961 {μ : tk_M} {v : Int} : tk_mv (tk_set μ 96 1 v) = tk_set (tk_mv μ) 0 1 v := by
  funext f j
  unfold tk_mv tk_set
  by_cases h : f = 0
  · subst h
    by_cases hj : j = 1
    · subst hj; simp
    · simp [hj]
  · simp [h]
theorem m_fundComes_a {G1 : tk_F} {k : Int} {a : Int → Int} {m : tk_M} {Q : Int → tk_M → Prop} (hz0 : 1 ≤ m 96 0 ∧ m 96 0 ≤ 6) (hz1 : 0 ≤ m 96 1 ∧ m 96 1 ≤ 24) (hz5 : 0 ≤ m 96 5 ∧ m 96 5 ≤ 8) (hk : 0 ≤ k ∧ k < 51) (ha : tk_abq a) (d1 : m 122 k = a 4 + (if a 3 = 1 then 0 else 10)) (d2 : m 123 k = a 5) (d3 : m 124 k = a 6) (hno : ¬ ((0 ≤ a 6 ∧ a 6 < m 96 0) ∧ (1 ≤ a 5 ∧ a 5 ≤ 9999) ∧ m 96 1 < 24 ∧ ((a 3 = 1 ∧ 0 ≤ a 4 ∧ a 4 < m 96 5) ∨ (¬ a 3 = 1 ∧ 0 ≤ a 4 ∧ a 4 < m 96 0))) → Q 0 m) (hcl : (0 ≤ a 6 ∧ a 6 < m 96 0) → (1 ≤ a 5 ∧ a 5 ≤ 9999) → m 96 1 < 24 → a 3 = 1 → (0 ≤ a 4 ∧ a 4 < m 96 5) → Q 1 (tk_set (tk_set (tk_set (tk_set (tk_set m 97 (m 96 1) (a 6)) 98 (m 96 1) (a 5)) 99 (m 96 1) (-5)) 99 (m 96 1) (a 4)) 96 1 (m 96 1 + 1))) (hcu : (0 ≤ a 6 ∧ a 6 < m 96 0) → (1 ≤ a 5 ∧ a 5 ≤ 9999) → m 96 1 < 24 → ¬ a 3 = 1 → (0 ≤ a 4 ∧ a 4 < m 96 0) → G1 [96, m 96 1, a 4] (fun x m1 => if x = 0 then Q 0 m1 else (0 ≤ m1 96 1 ∧ m1 96 1 < 24) ∧ Q 1 (tk_set (tk_set m1 99 (m1 96 1) (a 4 + 10)) 96 1 (tk_iadd (m1 96 1) 1))) (tk_set (tk_set (tk_set m 97 (m 96 1) (a 6)) 98 (m 96 1) (a 5)) 99 (m 96 1) (-5))) : (tk_fn [2, 0] (tk_sq (tk_se 2 (tk_ald 0 (tk_gr 7 (26) (tk_loc 0)) (tk_loc 1))) (tk_sq (tk_se 3 (tk_ald 0 (tk_gr 7 (28) (tk_loc 0)) (tk_loc 1))) (tk_sq (tk_se 4 (tk_ter (tk_and (tk_and (tk_zne (tk_cv 7 tkF_X7_isCurrency [(tk_loc 0), (tk_loc 3)])) (tk_zne (tk_cs tkF_X7_in [(tk_ald 0 (tk_gr 7 (27) (tk_loc 0)) (tk_loc 1)), (tk_lit (1)), (tk_lit (9999))]))) (tk_clt (tk_gf 7 1 (tk_loc 0)) (tk_lit (24)))) (tk_lit 1) (tk_lit 0))) (tk_sq (tk_se 4 (tk_ter (tk_and (tk_zne (tk_loc 4)) (tk_ct2 (tk_clt (tk_loc 2) (tk_lit (10))) (tk_zne (tk_cv 7 tkF_X7_isClient [(tk_loc 0), (tk_loc 2)])) (tk_zne (tk_cv 7 tkF_X7_isCurrency [(tk_loc 0), (tk_bin tk_isub (tk_loc 2) (tk_lit (10)))])))) (tk_lit 1) (tk_lit 0))) (tk_sq (tk_if (tk_not (tk_zne (tk_loc 4))) (tk_rez (tk_lit (0))) tk_sk) (tk_sq (tk_as 0 (tk_gr 7 (1) (tk_loc 0)) (tk_gf 7 1 (tk_loc 0)) (tk_loc 3)) (tk_sq (tk_as 0 (tk_gr 7 (2) (tk_loc 0)) (tk_gf 7 1 (tk_loc 0)) (tk_ald 0 (tk_gr 7 (27) (tk_loc 0)) (tk_loc 1))) (tk_sq (tk_as 0 (tk_gr 7 (3) (tk_loc 0)) (tk_gf 7 1 (tk_loc 0)) (tk_lit (-5))) (tk_sq (tk_if (tk_and (tk_cge (tk_loc 2) (tk_lit (10))) (tk_not (tk_zne (tk_cv 7 G1 [(tk_loc 0), (tk_gf 7 1 (tk_loc 0)), (tk_bin tk_isub (tk_loc 2) (tk_lit (10)))])))) (tk_rez (tk_lit (0))) tk_sk) (tk_sq (tk_as 0 (tk_gr 7 (3) (tk_loc 0)) (tk_gf 7 1 (tk_loc 0)) (tk_loc 2)) (tk_sq (tk_pfo tk_iadd 7 1 (tk_loc 0) (tk_lit (1))) (tk_rez (tk_lit (1))))))))))))))) [96, k] Q m := by
  have hz00 : 0 ≤ m 96 0 := by omega
  have i1 : tk_iadd (m 96 1) 1 = m 96 1 + 1 := tk_iadd_id (by omega) (by omega)
  have ha4 := ha.2.2.2.1
  have l1 : tk_isub (a 4 + 10) 10 = a 4 := by rw [tk_isub_id (by omega) (by omega)]; omega
  by_cases hc' : ¬ (0 ≤ a 6 ∧ a 6 < m 96 0)
  · have hq := hno (fun z => hc' z.1)
    have hc := hc'
    simp [tk_fn, tk_env, tk_sq, tk_sk, tk_if, tk_re, tk_rez, tk_rev, tk_xp, tk_se, tk_pf, tk_pfz, tk_pfo, tk_as, tk_asz, tk_asb, tk_aso, tk_cpy, tk_sw, tk_swc, tk_lit, tk_loc, tk_u1, tk_bin, tk_dv, tk_gf, tk_gr, tk_gn, tk_ald, tk_aldq, tk_aln, tk_unl, tk_una, tk_ter, tk_args, tk_cs, tk_cv, tk_ceq, tk_cne, tk_clt, tk_cge, tk_cgt, tk_cle, tk_zeq, tk_zne, tk_zlt, tk_zge, tk_zgt, tk_zle, tk_and, tk_or, tk_not, tk_ct2, tk_isC, List.headD_cons, tk_up, tk_sca, tk_scl, hk.1, hk.2, tk_al_2, tk_al_3, tk_al_4, tk_al_5, tk_al_6, tk_al_7, tk_al_8, tk_al_9, tk_al_10, tk_al_11, tk_al_13, tk_al_14, tk_al_16, tk_al_17, tk_al_19, tk_al_20, tk_al_22, tk_al_24, tk_al_25, tk_al_26, tk_al_27, tk_al_28, tk_al_29, tk_al_30, tk_al_32, tk_al_33, tk_al_34, tk_al_35, tk_al_36, tk_al_37, tk_al_38, tk_al_39, tk_al_40, tk_al_41, tk_al_43, tk_al_44, tk_al_46, tk_al_47, tk_al_49, tk_al_50, tk_al_52, tk_al_54, tk_al_55, tk_al_56, tk_al_57, tk_al_58, tk_al_59, tk_al_60, tk_al_62, tk_al_63, tk_al_64, tk_al_65, tk_al_66, tk_al_67, tk_al_68, tk_al_69, tk_al_70, tk_al_71, tk_al_73, tk_al_74, tk_al_76, tk_al_77, tk_al_79, tk_al_80, tk_al_81, tk_al_83, tk_al_85, tk_al_87, tk_al_89, tk_al_91, tk_al_93, tk_al_95, tk_al_97, tk_al_98, tk_al_99, tk_al_100, tk_al_101, tk_al_102, tk_al_103, tk_al_104, tk_al_105, tk_al_106, tk_al_107, tk_al_108, tk_al_109, tk_al_110, tk_al_111, tk_al_112, tk_al_113, tk_al_114, tk_al_115, tk_al_116, tk_al_117, tk_al_118, tk_al_119, tk_al_120, tk_al_121, tk_al_122, tk_al_123, tk_al_124, tk_al_125, tk_al_126, tk_al_127, tk_al_128, tk_al_129, d1, d2, d3, m_isCurrency, hz00, hz0.2, tk_bo_0, hc, -not_and]
    exact hq
  have hc : 0 ≤ a 6 ∧ a 6 < m 96 0 := Classical.byContradiction hc'
  have hcn : ¬ m 96 0 ≤ a 6 := by omega
  by_cases hm' : ¬ (1 ≤ a 5 ∧ a 5 ≤ 9999)
  · have hq := hno (fun z => hm' z.2.1)
    have hm := hm'
    simp [tk_fn, tk_env, tk_sq, tk_sk, tk_if, tk_re, tk_rez, tk_rev, tk_xp, tk_se, tk_pf, tk_pfz, tk_pfo, tk_as, tk_asz, tk_asb, tk_aso, tk_cpy, tk_sw, tk_swc, tk_lit, tk_loc, tk_u1, tk_bin, tk_dv, tk_gf, tk_gr, tk_gn, tk_ald, tk_aldq, tk_aln, tk_unl, tk_una, tk_ter, tk_args, tk_cs, tk_cv, tk_ceq, tk_cne, tk_clt, tk_cge, tk_cgt, tk_cle, tk_zeq, tk_zne, tk_zlt, tk_zge, tk_zgt, tk_zle, tk_and, tk_or, tk_not, tk_ct2, tk_isC, List.headD_cons, tk_up, tk_sca, tk_scl, hk.1, hk.2, tk_al_2, tk_al_3, tk_al_4, tk_al_5, tk_al_6, tk_al_7, tk_al_8, tk_al_9, tk_al_10, tk_al_11, tk_al_13, tk_al_14, tk_al_16, tk_al_17, tk_al_19, tk_al_20, tk_al_22, tk_al_24, tk_al_25, tk_al_26, tk_al_27, tk_al_28, tk_al_29, tk_al_30, tk_al_32, tk_al_33, tk_al_34, tk_al_35, tk_al_36, tk_al_37, tk_al_38, tk_al_39, tk_al_40, tk_al_41, tk_al_43, tk_al_44, tk_al_46, tk_al_47, tk_al_49, tk_al_50, tk_al_52, tk_al_54, tk_al_55, tk_al_56, tk_al_57, tk_al_58, tk_al_59, tk_al_60, tk_al_62, tk_al_63, tk_al_64, tk_al_65, tk_al_66, tk_al_67, tk_al_68, tk_al_69, tk_al_70, tk_al_71, tk_al_73, tk_al_74, tk_al_76, tk_al_77, tk_al_79, tk_al_80, tk_al_81, tk_al_83, tk_al_85, tk_al_87, tk_al_89, tk_al_91, tk_al_93, tk_al_95, tk_al_97, tk_al_98, tk_al_99, tk_al_100, tk_al_101, tk_al_102, tk_al_103, tk_al_104, tk_al_105, tk_al_106, tk_al_107, tk_al_108, tk_al_109, tk_al_110, tk_al_111, tk_al_112, tk_al_113, tk_al_114, tk_al_115, tk_al_116, tk_al_117, tk_al_118, tk_al_119, tk_al_120, tk_al_121, tk_al_122, tk_al_123, tk_al_124, tk_al_125, tk_al_126, tk_al_127, tk_al_128, tk_al_129, d1, d2, d3, m_isCurrency, m_in, hz00, hz0.2, tk_bo_0, hc.1, hc.2, hcn, hm, -not_and]
    exact hq
  have hm : 1 ≤ a 5 ∧ a 5 ≤ 9999 := Classical.byContradiction hm'
  have hmn : ¬ 9999 < a 5 := by omega
  by_cases ht' : ¬ m 96 1 < 24
  · have hq := hno (fun z => ht' z.2.2.1)
    have ht := ht'
    simp [tk_fn, tk_env, tk_sq, tk_sk, tk_if, tk_re, tk_rez, tk_rev, tk_xp, tk_se, tk_pf, tk_pfz, tk_pfo, tk_as, tk_asz, tk_asb, tk_aso, tk_cpy, tk_sw, tk_swc, tk_lit, tk_loc, tk_u1, tk_bin, tk_dv, tk_gf, tk_gr, tk_gn, tk_ald, tk_aldq, tk_aln, tk_unl, tk_una, tk_ter, tk_args, tk_cs, tk_cv, tk_ceq, tk_cne, tk_clt, tk_cge, tk_cgt, tk_cle, tk_zeq, tk_zne, tk_zlt, tk_zge, tk_zgt, tk_zle, tk_and, tk_or, tk_not, tk_ct2, tk_isC, List.headD_cons, tk_up, tk_sca, tk_scl, hk.1, hk.2, tk_al_2, tk_al_3, tk_al_4, tk_al_5, tk_al_6, tk_al_7, tk_al_8, tk_al_9, tk_al_10, tk_al_11, tk_al_13, tk_al_14, tk_al_16, tk_al_17, tk_al_19, tk_al_20, tk_al_22, tk_al_24, tk_al_25, tk_al_26, tk_al_27, tk_al_28, tk_al_29, tk_al_30, tk_al_32, tk_al_33, tk_al_34, tk_al_35, tk_al_36, tk_al_37, tk_al_38, tk_al_39, tk_al_40, tk_al_41, tk_al_43, tk_al_44, tk_al_46, tk_al_47, tk_al_49, tk_al_50, tk_al_52, tk_al_54, tk_al_55, tk_al_56, tk_al_57, tk_al_58, tk_al_59, tk_al_60, tk_al_62, tk_al_63, tk_al_64, tk_al_65, tk_al_66, tk_al_67, tk_al_68, tk_al_69, tk_al_70, tk_al_71, tk_al_73, tk_al_74, tk_al_76, tk_al_77, tk_al_79, tk_al_80, tk_al_81, tk_al_83, tk_al_85, tk_al_87, tk_al_89, tk_al_91, tk_al_93, tk_al_95, tk_al_97, tk_al_98, tk_al_99, tk_al_100, tk_al_101, tk_al_102, tk_al_103, tk_al_104, tk_al_105, tk_al_106, tk_al_107, tk_al_108, tk_al_109, tk_al_110, tk_al_111, tk_al_112, tk_al_113, tk_al_114, tk_al_115, tk_al_116, tk_al_117, tk_al_118, tk_al_119, tk_al_120, tk_al_121, tk_al_122, tk_al_123, tk_al_124, tk_al_125, tk_al_126, tk_al_127, tk_al_128, tk_al_129, d1, d2, d3, m_isCurrency, m_in, hz00, hz0.2, tk_bo_0, hc.1, hc.2, hcn, hm.1, hm.2, hmn, ht, show 24 ≤ m 96 1 from by omega]
    exact hq
  have ht : m 96 1 < 24 := Classical.byContradiction ht'
  by_cases hcl3 : a 3 = 1
  · rw [if_pos hcl3, Int.add_zero] at d1
    have hw10 : a 4 < 10 := by omega
    have hw10n : ¬ 10 ≤ a 4 := by omega
    by_cases hw : 0 ≤ a 4 ∧ a 4 < m 96 5
    · have hq := hcl hc hm ht hcl3 hw
      simp [tk_fn, tk_env, tk_sq, tk_sk, tk_if, tk_re, tk_rez, tk_rev, tk_xp, tk_se, tk_pf, tk_pfz, tk_pfo, tk_as, tk_asz, tk_asb, tk_aso, tk_cpy, tk_sw, tk_swc, tk_lit, tk_loc, tk_u1, tk_bin, tk_dv, tk_gf, tk_gr, tk_gn, tk_ald, tk_aldq, tk_aln, tk_unl, tk_una, tk_ter, tk_args, tk_cs, tk_cv, tk_ceq, tk_cne, tk_clt, tk_cge, tk_cgt, tk_cle, tk_zeq, tk_zne, tk_zlt, tk_zge, tk_zgt, tk_zle, tk_and, tk_or, tk_not, tk_ct2, tk_isC, List.headD_cons, tk_up, tk_sca, tk_scl, hk.1, hk.2, tk_al_2, tk_al_3, tk_al_4, tk_al_5, tk_al_6, tk_al_7, tk_al_8, tk_al_9, tk_al_10, tk_al_11, tk_al_13, tk_al_14, tk_al_16, tk_al_17, tk_al_19, tk_al_20, tk_al_22, tk_al_24, tk_al_25, tk_al_26, tk_al_27, tk_al_28, tk_al_29, tk_al_30, tk_al_32, tk_al_33, tk_al_34, tk_al_35, tk_al_36, tk_al_37, tk_al_38, tk_al_39, tk_al_40, tk_al_41, tk_al_43, tk_al_44, tk_al_46, tk_al_47, tk_al_49, tk_al_50, tk_al_52, tk_al_54, tk_al_55, tk_al_56, tk_al_57, tk_al_58, tk_al_59, tk_al_60, tk_al_62, tk_al_63, tk_al_64, tk_al_65, tk_al_66, tk_al_67, tk_al_68, tk_al_69, tk_al_70, tk_al_71, tk_al_73, tk_al_74, tk_al_76, tk_al_77, tk_al_79, tk_al_80, tk_al_81, tk_al_83, tk_al_85, tk_al_87, tk_al_89, tk_al_91, tk_al_93, tk_al_95, tk_al_97, tk_al_98, tk_al_99, tk_al_100, tk_al_101, tk_al_102, tk_al_103, tk_al_104, tk_al_105, tk_al_106, tk_al_107, tk_al_108, tk_al_109, tk_al_110, tk_al_111, tk_al_112, tk_al_113, tk_al_114, tk_al_115, tk_al_116, tk_al_117, tk_al_118, tk_al_119, tk_al_120, tk_al_121, tk_al_122, tk_al_123, tk_al_124, tk_al_125, tk_al_126, tk_al_127, tk_al_128, tk_al_129, d1, d2, d3, m_isCurrency, m_isClient, m_in, hz00, hz0.2, hz1.1, hz5.1, hz5.2, tk_bo_0, hc.1, hc.2, hcn, hm.1, hm.2, hmn, ht, hw10, hw10n, hw.1, hw.2, show ¬ m 96 5 ≤ a 4 from by omega, tk_set_j, tk_set_o, i1]
      exact hq
    · have hq := hno (fun z => by
        rcases z.2.2.2 with y | y
        · exact hw y.2
        · exact y.1 hcl3)
      simp [tk_fn, tk_env, tk_sq, tk_sk, tk_if, tk_re, tk_rez, tk_rev, tk_xp, tk_se, tk_pf, tk_pfz, tk_pfo, tk_as, tk_asz, tk_asb, tk_aso, tk_cpy, tk_sw, tk_swc, tk_lit, tk_loc, tk_u1, tk_bin, tk_dv, tk_gf, tk_gr, tk_gn, tk_ald, tk_aldq, tk_aln, tk_unl, tk_una, tk_ter, tk_args, tk_cs, tk_cv, tk_ceq, tk_cne, tk_clt, tk_cge, tk_cgt, tk_cle, tk_zeq, tk_zne, tk_zlt, tk_zge, tk_zgt, tk_zle, tk_and, tk_or, tk_not, tk_ct2, tk_isC, List.headD_cons, tk_up, tk_sca, tk_scl, hk.1, hk.2, tk_al_2, tk_al_3, tk_al_4, tk_al_5, tk_al_6, tk_al_7, tk_al_8, tk_al_9, tk_al_10, tk_al_11, tk_al_13, tk_al_14, tk_al_16, tk_al_17, tk_al_19, tk_al_20, tk_al_22, tk_al_24, tk_al_25, tk_al_26, tk_al_27, tk_al_28, tk_al_29, tk_al_30, tk_al_32, tk_al_33, tk_al_34, tk_al_35, tk_al_36, tk_al_37, tk_al_38, tk_al_39, tk_al_40, tk_al_41, tk_al_43, tk_al_44, tk_al_46, tk_al_47, tk_al_49, tk_al_50, tk_al_52, tk_al_54, tk_al_55, tk_al_56, tk_al_57, tk_al_58, tk_al_59, tk_al_60, tk_al_62, tk_al_63, tk_al_64, tk_al_65, tk_al_66, tk_al_67, tk_al_68, tk_al_69, tk_al_70, tk_al_71, tk_al_73, tk_al_74, tk_al_76, tk_al_77, tk_al_79, tk_al_80, tk_al_81, tk_al_83, tk_al_85, tk_al_87, tk_al_89, tk_al_91, tk_al_93, tk_al_95, tk_al_97, tk_al_98, tk_al_99, tk_al_100, tk_al_101, tk_al_102, tk_al_103, tk_al_104, tk_al_105, tk_al_106, tk_al_107, tk_al_108, tk_al_109, tk_al_110, tk_al_111, tk_al_112, tk_al_113, tk_al_114, tk_al_115, tk_al_116, tk_al_117, tk_al_118, tk_al_119, tk_al_120, tk_al_121, tk_al_122, tk_al_123, tk_al_124, tk_al_125, tk_al_126, tk_al_127, tk_al_128, tk_al_129, d1, d2, d3, m_isCurrency, m_isClient, m_in, hz00, hz0.2, hz5.1, hz5.2, tk_bo_0, hc.1, hc.2, hcn, hm.1, hm.2, hmn, ht, hw10, hw, -not_and]
      exact hq
  · rw [if_neg hcl3] at d1
    have hw10 : ¬ a 4 + 10 < 10 := by omega
    have hw10n : 10 ≤ a 4 + 10 := by omega
    have ha40 : 0 ≤ a 4 := ha4.1
    by_cases hw : 0 ≤ a 4 ∧ a 4 < m 96 0
    · have hq := hcu hc hm ht hcl3 hw
      simp [tk_fn, tk_env, tk_sq, tk_sk, tk_if, tk_re, tk_rez, tk_rev, tk_xp, tk_se, tk_pf, tk_pfz, tk_pfo, tk_as, tk_asz, tk_asb, tk_aso, tk_cpy, tk_sw, tk_swc, tk_lit, tk_loc, tk_u1, tk_bin, tk_dv, tk_gf, tk_gr, tk_gn, tk_ald, tk_aldq, tk_aln, tk_unl, tk_una, tk_ter, tk_args, tk_cs, tk_cv, tk_ceq, tk_cne, tk_clt, tk_cge, tk_cgt, tk_cle, tk_zeq, tk_zne, tk_zlt, tk_zge, tk_zgt, tk_zle, tk_and, tk_or, tk_not, tk_ct2, tk_isC, List.headD_cons, tk_up, tk_sca, tk_scl, hk.1, hk.2, tk_al_2, tk_al_3, tk_al_4, tk_al_5, tk_al_6, tk_al_7, tk_al_8, tk_al_9, tk_al_10, tk_al_11, tk_al_13, tk_al_14, tk_al_16, tk_al_17, tk_al_19, tk_al_20, tk_al_22, tk_al_24, tk_al_25, tk_al_26, tk_al_27, tk_al_28, tk_al_29, tk_al_30, tk_al_32, tk_al_33, tk_al_34, tk_al_35, tk_al_36, tk_al_37, tk_al_38, tk_al_39, tk_al_40, tk_al_41, tk_al_43, tk_al_44, tk_al_46, tk_al_47, tk_al_49, tk_al_50, tk_al_52, tk_al_54, tk_al_55, tk_al_56, tk_al_57, tk_al_58, tk_al_59, tk_al_60, tk_al_62, tk_al_63, tk_al_64, tk_al_65, tk_al_66, tk_al_67, tk_al_68, tk_al_69, tk_al_70, tk_al_71, tk_al_73, tk_al_74, tk_al_76, tk_al_77, tk_al_79, tk_al_80, tk_al_81, tk_al_83, tk_al_85, tk_al_87, tk_al_89, tk_al_91, tk_al_93, tk_al_95, tk_al_97, tk_al_98, tk_al_99, tk_al_100, tk_al_101, tk_al_102, tk_al_103, tk_al_104, tk_al_105, tk_al_106, tk_al_107, tk_al_108, tk_al_109, tk_al_110, tk_al_111, tk_al_112, tk_al_113, tk_al_114, tk_al_115, tk_al_116, tk_al_117, tk_al_118, tk_al_119, tk_al_120, tk_al_121, tk_al_122, tk_al_123, tk_al_124, tk_al_125, tk_al_126, tk_al_127, tk_al_128, tk_al_129, d1, d2, d3, m_isCurrency, m_isClient, m_in, hz00, hz0.2, hz1.1, hz5.1, hz5.2, tk_bo_0, hc.1, hc.2, hcn, hm.1, hm.2, hmn, ht, hw10, hw10n, ha40, hw.2, show ¬ m 96 0 ≤ a 4 from by omega, l1, tk_set_j, tk_set_o, i1, show ¬ a 4 < 0 from by omega]
      exact hq
    · have hq := hno (fun z => by
        rcases z.2.2.2 with y | y
        · exact hcl3 y.1
        · exact hw y.2)
      simp [tk_fn, tk_env, tk_sq, tk_sk, tk_if, tk_re, tk_rez, tk_rev, tk_xp, tk_se, tk_pf, tk_pfz, tk_pfo, tk_as, tk_asz, tk_asb, tk_aso, tk_cpy, tk_sw, tk_swc, tk_lit, tk_loc, tk_u1, tk_bin, tk_dv, tk_gf, tk_gr, tk_gn, tk_ald, tk_aldq, tk_aln, tk_unl, tk_una, tk_ter, tk_args, tk_cs, tk_cv, tk_ceq, tk_cne, tk_clt, tk_cge, tk_cgt, tk_cle, tk_zeq, tk_zne, tk_zlt, tk_zge, tk_zgt, tk_zle, tk_and, tk_or, tk_not, tk_ct2, tk_isC, List.headD_cons, tk_up, tk_sca, tk_scl, hk.1, hk.2, tk_al_2, tk_al_3, tk_al_4, tk_al_5, tk_al_6, tk_al_7, tk_al_8, tk_al_9, tk_al_10, tk_al_11, tk_al_13, tk_al_14, tk_al_16, tk_al_17, tk_al_19, tk_al_20, tk_al_22, tk_al_24, tk_al_25, tk_al_26, tk_al_27, tk_al_28, tk_al_29, tk_al_30, tk_al_32, tk_al_33, tk_al_34, tk_al_35, tk_al_36, tk_al_37, tk_al_38, tk_al_39, tk_al_40, tk_al_41, tk_al_43, tk_al_44, tk_al_46, tk_al_47, tk_al_49, tk_al_50, tk_al_52, tk_al_54, tk_al_55, tk_al_56, tk_al_57, tk_al_58, tk_al_59, tk_al_60, tk_al_62, tk_al_63, tk_al_64, tk_al_65, tk_al_66, tk_al_67, tk_al_68, tk_al_69, tk_al_70, tk_al_71, tk_al_73, tk_al_74, tk_al_76, tk_al_77, tk_al_79, tk_al_80, tk_al_81, tk_al_83, tk_al_85, tk_al_87, tk_al_89, tk_al_91, tk_al_93, tk_al_95, tk_al_97, tk_al_98, tk_al_99, tk_al_100, tk_al_101, tk_al_102, tk_al_103, tk_al_104, tk_al_105, tk_al_106, tk_al_107, tk_al_108, tk_al_109, tk_al_110, tk_al_111, tk_al_112, tk_al_113, tk_al_114, tk_al_115, tk_al_116, tk_al_117, tk_al_118, tk_al_119, tk_al_120, tk_al_121, tk_al_122, tk_al_123, tk_al_124, tk_al_125, tk_al_126, tk_al_127, tk_al_128, tk_al_129, d1, d2, d3, m_isCurrency, m_isClient, m_in, hz00, hz0.2, hz5.1, hz5.2, tk_bo_0, hc.1, hc.2, hcn, hm.1, hm.2, hmn, ht, hw10, l1, hw, show ¬ a 4 < 0 from by omega, -not_and]
      exact hq
theorem tk_hg_b {S : tk_M} {w w' c d : Int} (hb : ∀ u y, tk_bk S w u y → tk_bk S w' u y) (h : tk_hg S w c d) : tk_hg S w' c d := fun P h1 h2 => h P (fun t h3 => h1 t (hb _ _ h3)) (fun t y h3 h4 => h2 t y h3 (hb _ _ h4))
theorem m_fundComes {S m : tk_M} {a : Int → Int} {k : Int} {Q : Int → tk_M → Prop} (hE : tk_EE S (tk_mv m)) (hI : tk_II S) (hk : 0 ≤ k ∧ k < 51) (ha : tk_abq a) (d1 : m 122 k = a 4 + (if a 3 = 1 then 0 else 10)) (d2 : m 123 k = a 5) (d3 : m 124 k = a 6) (hQ1 : tk_fok S a → ∀ m', tk_fF m m' → tk_EE (tk_add S a) (tk_mv m') → Q 1 m') (hQ0 : ¬ tk_fok S a → ∀ m', tk_fF m m' → tk_EE S (tk_mv m') → Q 0 m') : tkF_X7_fundComes [96, k] Q m := by
  have e0 : m 96 0 = S 0 0 := hE.1.1
  have e1 : m 96 1 = S 0 1 := hE.1.2.1
  have e5 : m 96 5 = S 0 2 := hE.1.2.2.1
  have hz := hI.1
  have hz0 : 1 ≤ S 0 0 ∧ S 0 0 ≤ 6 := hz.1
  have hz1 : 0 ≤ S 0 1 ∧ S 0 1 ≤ 24 := hz.2.1
  refine m_fundComes_a (by rw [e0]; exact hz.1) (by rw [e1]; exact hz.2.1) (by rw [e5]; exact hz.2.2.1) hk ha d1 d2 d3 (fun hno => ?_) (fun hc hm ht hcl hw => ?_) (fun hc hm ht hcl hw => ?_)
  · rw [e0, e1, e5] at hno
    refine hQ0 (fun z => hno ⟨z.1, z.2.1, z.2.2.1, ?_⟩) m (fun _ _ _ => rfl) hE
    rcases z.2.2.2 with y | y
    · exact .inl y
    · exact .inr ⟨y.1, y.2.1⟩
  · have hok : tk_fok S a := ⟨by rw [← e0]; exact hc, hm, by rw [← e1]; exact ht, .inl ⟨hcl, by rw [← e5]; exact hw⟩⟩
    refine hQ1 hok _ (fun o i ho => ?_) ?_
    · simp only [tk_set_if]
      rw [if_neg (by omega), if_neg (by omega), if_neg (by omega), if_neg (by omega), if_neg (by omega)]
    · have e : tk_mv (tk_set (tk_set (tk_set (tk_set (tk_set m 97 (m 96 1) (a 6)) 98 (m 96 1) (a 5)) 99 (m 96 1) (-5)) 99 (m 96 1) (a 4)) 96 1 (m 96 1 + 1)) = tk_add (tk_mv m) a := by
        rw [tk_set_set, tk_mv_961, tk_mv_99, tk_mv_98, tk_mv_97]
        have ea : tk_ado a = a 4 := by unfold tk_ado; rw [if_pos hcl]
        unfold tk_add
        rw [ea]
        rfl
      rw [e]
      exact tk_EE_add hE
  · generalize hMd : tk_set (tk_set (tk_set m 97 (m 96 1) (a 6)) 98 (m 96 1) (a 5)) 99 (m 96 1) (-5) = M
    have hMv : tk_mv M = tk_set (tk_set (tk_set (tk_mv m) 1 (m 96 1) (a 6)) 2 (m 96 1) (a 5)) 3 (m 96 1) (-5) := by rw [← hMd, tk_mv_99, tk_mv_98, tk_mv_97]
    have hfM : tk_fF m M := fun o i ho => by
      rw [← hMd]
      simp only [tk_set_if]
      rw [if_neg (by omega), if_neg (by omega), if_neg (by omega)]
    have hEM : tk_EE S (tk_mv M) := by
      rw [hMv]
      obtain ⟨a1, a2, a3, a4, a5, a6, a7⟩ := hE
      unfold tk_EE tk_E0 tk_E1 tk_E2 tk_E3 tk_E4 tk_E5 tk_E6 at *
      refine ⟨?_, fun i h3 h4 => ?_, ?_, ?_, ?_, ?_, ?_⟩
      · simpa [tk_set] using a1
      · have hi : ¬ i = m 96 1 := by omega
        simp [tk_set, hi]
        exact a2 i h3 h4
      · simpa [tk_set] using a3
      · simpa [tk_set] using a4
      · simpa [tk_set] using a5
      · simpa [tk_set] using a6
      · simpa [tk_set] using a7
    have hIM := tk_II_EE hEM hI
    have e97 : M 97 (m 96 1) = a 6 := by rw [← hMd]; simp [tk_set]
    have eM1 : M 96 1 = m 96 1 := by rw [← hMd]; simp [tk_set]
    rw [e0] at hc hw
    have hhg : tk_hg (tk_mv M) (m 96 1) (a 6) (a 4) ↔ tk_hg S (-5) (a 6) (a 4) := by
      rw [tk_hg_eq hEM.1 hEM.2.1]
      constructor
      · exact tk_hg_b (fun u y h => ⟨h.1, by have := h.1.1; omega, h.2.2⟩)
      · exact tk_hg_b (fun u y h => ⟨h.1, by have := h.1.2; omega, h.2.2⟩)
    have i1 : tk_iadd (m 96 1) 1 = m 96 1 + 1 := tk_iadd_id (by omega) (by omega)
    refine m_canBack hIM.1 hIM.2.1 hIM.2.2.2.2.2.2.2.1 ⟨by omega, ht⟩ (by rw [e97]; omega) (by omega) (fun m1 hf1 hy => ?_) (fun m1 hf1 hn => ?_)
    · rw [e97] at hy
      have hok : tk_fok S a := ⟨hc, hm, by rw [← e1]; exact ht, .inr ⟨hcl, hw, hy.1, hy.2.1, fun z => hy.2.2 (hhg.mpr z)⟩⟩
      have f1 : m1 96 1 = m 96 1 := by rw [hf1 _ _ (by omega), eM1]
      rw [if_neg (by omega), f1, i1]
      refine ⟨⟨by omega, ht⟩, hQ1 hok _ (fun o i ho => ?_) ?_⟩
      · simp only [tk_set_if]
        rw [if_neg (by omega), if_neg (by omega), hf1 _ _ (by omega)]
        exact hfM o i ho
      · have e : tk_mv (tk_set (tk_set m1 99 (m 96 1) (a 4 + 10)) 96 1 (m 96 1 + 1)) = tk_add (tk_mv m) a := by
          rw [tk_mv_961, tk_mv_99, tk_mv_f1 hf1 (by omega), hMv, tk_set_set]
          have ea : tk_ado a = a 4 + 10 := by unfold tk_ado; rw [if_neg hcl]; omega
          unfold tk_add
          rw [ea]
          rfl
        rw [e]
        exact tk_EE_add hE
    · rw [e97] at hn
      rw [if_pos rfl]
      refine hQ0 (fun z => hn ?_) m1 (fun o i ho => by rw [hf1 _ _ (by omega)]; exact hfM o i ho) (by rw [tk_mv_f1 hf1 (by omega)]; exact hEM)
      rcases z.2.2.2 with y | y
      · exact absurd y.1 hcl
      · exact ⟨y.2.2.1, y.2.2.2.1, fun q => y.2.2.2.2 (hhg.mp q)⟩
/-! from FUND to FUND -/
theorem tk_nx6 {T : Int → Int} {S : tk_M} {N : Nat} (d : Nat) : ∀ j : Nat, N = j + d → tk_cn T j < tk_cn T N → ∃ j', j ≤ j' ∧ j' < N ∧ tk_az T (j' + 1) 0 = 6 ∧ tk_cn T j' = tk_cn T j ∧ tk_fsq T S j' = tk_fsq T S j ∧ tk_fcm T S j' = tk_fcm T S j := by
  induction d with
  | zero => intro j h1 h2; subst h1; exact absurd h2 (Int.lt_irrefl _)
  | succ d ih =>
    intro j h1 h2
    by_cases h6 : tk_az T (j + 1) 0 = 6
    · exact ⟨j, Nat.le_refl _, by omega, h6, rfl, rfl, rfl⟩
    · have k1 := tk_cn_n h6
      have k2 : tk_fsq T S (j + 1) = tk_fsq T S j := by rw [tk_fsq_s, if_neg h6]
      have k3 : tk_fcm T S (j + 1) = tk_fcm T S j := by rw [tk_fcm_s, if_neg h6]; omega
      obtain ⟨j', z1, z2, z3, z4, z5, z6⟩ := ih (j + 1) (by omega) (by rw [k1]; exact h2)
      exact ⟨j', by omega, z2, z3, by rw [z4, k1], by rw [z5, k2], by rw [z6, k3]⟩
theorem tk_eq6 {T : Int → Int} {S : tk_M} {N : Nat} (d : Nat) : ∀ j : Nat, N = j + d → tk_cn T j = tk_cn T N → tk_fsq T S j = tk_fsq T S N ∧ tk_fcm T S j = tk_fcm T S N := by
  induction d with
  | zero => intro j h1 h2; subst h1; exact ⟨rfl, rfl⟩
  | succ d ih =>
    intro j h1 h2
    by_cases h6 : tk_az T (j + 1) 0 = 6
    · have k1 := tk_cn_y h6
      have k2 := tk_cn_le (T := T) (j := j + 1) (k := N) (by omega)
      omega
    · have k1 := tk_cn_n h6
      have k2 : tk_fsq T S (j + 1) = tk_fsq T S j := by rw [tk_fsq_s, if_neg h6]
      have k3 : tk_fcm T S (j + 1) = tk_fcm T S j := by rw [tk_fcm_s, if_neg h6]; omega
      obtain ⟨z1, z2⟩ := ih (j + 1) (by omega) (by rw [k1]; exact h2)
      exact ⟨by rw [← z1, k2], by rw [← z2, k3]⟩
theorem m_fund_a {G1 G2 : tk_F} {T : Int → Int} {n : Int} {S c : tk_M} {Q : Int → tk_M → Prop} (hc : tk_tx T n (tk_set c 96 24 0)) (hI : tk_II S) (hE : tk_EE S (tk_mv c)) (h1 : tk_acc T n.toNat → tk_az T n.toNat 0 = 6 → ∀ m', (∀ o i : Int, ¬ (o = 97 ∨ o = 98 ∨ o = 99 ∨ o = 115 ∨ o = 122 ∨ o = 123 ∨ o = 124 ∨ (o = 96 ∧ (i = 1 ∨ i = 24 ∨ i = 39 ∨ i = 40 ∨ i = 41 ∨ i = 45))) → m' o i = c o i) → m' 96 39 = 0 → tk_EE (tk_fsq T S n.toNat) (tk_mv m') → Q (tk_fcm T S n.toNat) m') (h0 : ∀ p : Nat, tk_flt T n p → ∀ m', (∀ o i : Int, ¬ (o = 97 ∨ o = 98 ∨ o = 99 ∨ o = 115 ∨ o = 122 ∨ o = 123 ∨ o = 124 ∨ (o = 96 ∧ (i = 1 ∨ i = 24 ∨ i = 39 ∨ i = 40 ∨ i = 41 ∨ i = 45))) → m' o i = c o i) → m' 96 39 = 0 → tk_EE S (tk_mv m') → Q (-10 - p) m') (hG1 : ∀ Q1 : Int → tk_M → Prop, (∀ m', tk_fP (tk_set c 96 24 0) m' → tk_acc T n.toNat → tk_az T n.toNat 0 = 6 → m' 96 45 = tk_cn T n.toNat → (∀ j : Nat, j ≤ n.toNat → tk_az T j 0 = 6 → tk_dat T j m') → Q1 1 m') → (∀ (p : Nat) m', tk_fP (tk_set c 96 24 0) m' → tk_flt T n p → m' 96 40 = p → Q1 0 m') → G1 [96] Q1 (tk_set c 96 24 0)) (hG2 : ∀ (S m : tk_M) (a : Int → Int) (k : Int) (Q1 : Int → tk_M → Prop), tk_EE S (tk_mv m) → tk_II S → (0 ≤ k ∧ k < 51) → tk_abq a → m 122 k = a 4 + (if a 3 = 1 then 0 else 10) → m 123 k = a 5 → m 124 k = a 6 → (tk_fok S a → ∀ m', tk_fF m m' → tk_EE (tk_add S a) (tk_mv m') → Q1 1 m') → (¬ tk_fok S a → ∀ m', tk_fF m m' → tk_EE S (tk_mv m') → Q1 0 m') → G2 [96, k] Q1 m) : (tk_fn [2] (tk_sq (tk_pf 7 24 (tk_loc 0) (tk_lit (0))) (tk_sq (tk_se 1 (tk_cv 7 G1 [(tk_loc 0)])) (tk_sq (tk_se 2 (tk_gf 7 40 (tk_loc 0))) (tk_sq (tk_pf 7 39 (tk_loc 0) (tk_lit (0))) (tk_sq (tk_if (tk_not (tk_zne (tk_loc 1))) (tk_re (tk_bin tk_isub (tk_lit (-10)) (tk_loc 2))) tk_sk) (tk_sq (tk_se 3 (tk_lit (0))) (tk_sq (tk_sq (tk_se 4 (tk_lit (0))) (tk_wh (tk_clt (tk_loc 4) (tk_gf 7 45 (tk_loc 0))) (tk_sq (tk_se 3 (tk_bin tk_iadd (tk_loc 3) (tk_ter (tk_zne (tk_cv 7 G2 [(tk_loc 0), (tk_loc 4)])) (tk_lit (1)) (tk_lit (0))))) (tk_se 4 (tk_bin tk_iadd (tk_loc 4) (tk_lit (1))))))) (tk_re (tk_loc 3)))))))))) [96] Q c := by
  have hn := hc.1
  simp [tk_fn, tk_env, tk_sq, tk_sk, tk_if, tk_re, tk_rez, tk_rev, tk_xp, tk_se, tk_pf, tk_pfz, tk_pfo, tk_as, tk_asz, tk_asb, tk_aso, tk_cpy, tk_sw, tk_swc, tk_lit, tk_loc, tk_u1, tk_bin, tk_dv, tk_gf, tk_gr, tk_gn, tk_ald, tk_aldq, tk_aln, tk_unl, tk_una, tk_ter, tk_args, tk_cs, tk_cv, tk_ceq, tk_cne, tk_clt, tk_cge, tk_cgt, tk_cle, tk_zeq, tk_zne, tk_zlt, tk_zge, tk_zgt, tk_zle, tk_and, tk_or, tk_not, tk_ct2, tk_isC, List.headD_cons, tk_up, tk_sca, tk_scl]
  have mvP : ∀ m', tk_fP (tk_set c 96 24 0) m' → ∀ v, tk_mv (tk_set m' 96 39 v) = tk_mv c := fun m' hf v => by
    rw [tk_mv_ob (by omega)]
    have e : tk_mv m' = tk_mv (tk_set c 96 24 0) := tk_mv_f2 (fun o i ho => hf o i (by omega))
    rw [e, tk_mv_ob (by omega)]
  have frP : ∀ m', tk_fP (tk_set c 96 24 0) m' → ∀ v o i, ¬ (o = 97 ∨ o = 98 ∨ o = 99 ∨ o = 115 ∨ o = 122 ∨ o = 123 ∨ o = 124 ∨ (o = 96 ∧ (i = 1 ∨ i = 24 ∨ i = 39 ∨ i = 40 ∨ i = 41 ∨ i = 45))) → tk_set m' 96 39 v o i = c o i := fun m' hf v o i ho => by
    unfold tk_set
    rw [if_neg (by omega), hf o i (by omega)]
    unfold tk_set
    rw [if_neg (by omega)]
  refine hG1 _ (fun m1 hf hacc h6 h45 hdat => ?_) (fun p m1 hf hflt h40 => ?_)
  · simp
    have hcb := tk_cn_bd n.toNat hacc
    rw [if_pos h6] at hcb
    have hcn0 := tk_cn_0 T n.toNat
    refine tk_for (tk_cn T n.toNat) (fun i ρ m => ρ 0 = 96 ∧ ρ 4 = i ∧ tk_fF (tk_set m1 96 39 0) m ∧ ∃ j : Nat, j ≤ n.toNat ∧ tk_cn T j = i ∧ ρ 3 = tk_fcm T S j ∧ tk_EE (tk_fsq T S j) (tk_mv m)) hcn0 ⟨rfl, rfl, fun _ _ _ => rfl, 0, by omega, rfl, rfl, by rw [mvP m1 hf]; exact hE⟩ ?_ ?_
    · rintro i ρ m hi0 hi6 ⟨r0, r4, hfm, j, hjn, hcj, r3, hEj⟩ K hK
      have i1 : tk_iadd i 1 = i + 1 := tk_iadd_id (by clear r3; omega) (by clear r3; omega)
      have e45 : m 96 45 = tk_cn T n.toNat := by
        rw [hfm _ _ (by omega), tk_set_j (by omega), h45]
      obtain ⟨j', z1, z2, z3, z4, z5, z6⟩ := tk_nx6 (T := T) (S := S) (N := n.toNat) (n.toNat - j) j (by omega) (by rw [hcj]; exact hi6)
      have hd := hdat (j' + 1) (by omega) z3
      have hcj1 := tk_cn_y z3
      have hix : tk_cn T (j' + 1) - 1 = i := by omega
      unfold tk_dat at hd
      rw [hix] at hd
      have hab := tk_ab_az (j' + 1) (tk_acc_p hacc (by omega))
      have hfs1 := tk_fsq_s T S j'
      have hfc1 := tk_fcm_s T S j'
      rw [if_pos z3] at hfs1 hfc1
      rw [← z5] at hEj
      have hIj := tk_II_fs (T := T) hI j'
      have hfb := tk_fcm_bd (T := T) (S := S) j'
      rw [← z6] at r3
      simp [tk_fn, tk_env, tk_sq, tk_sk, tk_if, tk_re, tk_rez, tk_rev, tk_xp, tk_se, tk_pf, tk_pfz, tk_pfo, tk_as, tk_asz, tk_asb, tk_aso, tk_cpy, tk_sw, tk_swc, tk_lit, tk_loc, tk_u1, tk_bin, tk_dv, tk_gf, tk_gr, tk_gn, tk_ald, tk_aldq, tk_aln, tk_unl, tk_una, tk_ter, tk_args, tk_cs, tk_cv, tk_ceq, tk_cne, tk_clt, tk_cge, tk_cgt, tk_cle, tk_zeq, tk_zne, tk_zlt, tk_zge, tk_zgt, tk_zle, tk_and, tk_or, tk_not, tk_ct2, tk_isC, List.headD_cons, tk_up, tk_sca, tk_scl, r0, r4, e45, hi6]
      refine hG2 _ _ (tk_az T (j' + 1)) _ _ hEj hIj (by omega) hab (by rw [hfm _ _ (by omega), tk_set_o (by omega)]; exact hd.1) (by rw [hfm _ _ (by omega), tk_set_o (by omega)]; exact hd.2.1) (by rw [hfm _ _ (by omega), tk_set_o (by omega)]; exact hd.2.2) (fun hok m2 hf2 hE2 => ?_) (fun hnok m2 hf2 hE2 => ?_)
      · rw [tk_fn1_y hok] at hfs1
        rw [tk_bc_t hok] at hfc1
        have l1 : tk_iadd (tk_fcm T S j') 1 = tk_fcm T S j' + 1 := tk_iadd_id (by clear r3 hfc1; omega) (by clear r3 hfc1; omega)
        simp [r3, r4, i1, l1]
        refine hK _ _ ⟨r0, rfl, fun o i ho => by rw [hf2 o i ho]; exact hfm o i ho, j' + 1, by omega, by omega, hfc1.symm, by rw [hfs1]; exact hE2⟩
      · rw [tk_fn1_n hnok] at hfs1
        rw [tk_bc_f hnok] at hfc1
        have l1 : tk_iadd (tk_fcm T S j') 0 = tk_fcm T S j' + 0 := tk_iadd_id (by clear r3 hfc1; omega) (by clear r3 hfc1; omega)
        simp [r3, r4, i1, l1]
        refine hK _ _ ⟨r0, rfl, fun o i ho => by rw [hf2 o i ho]; exact hfm o i ho, j' + 1, by omega, by omega, ?_, by rw [hfs1]; exact hE2⟩
        rw [hfc1]
        simp [tk_up]
    · rintro ρ m ⟨r0, r4, hfm, j, hjn, hcj, r3, hEj⟩ X
      have e45 : m 96 45 = tk_cn T n.toNat := by
        rw [hfm _ _ (by omega), tk_set_j (by omega), h45]
      obtain ⟨q1, q2⟩ := tk_eq6 (T := T) (S := S) (N := n.toNat) (n.toNat - j) j (by omega) hcj
      have hq := h1 hacc h6 m (fun o i ho => by rw [hfm o i (by omega)]; exact frP m1 hf 0 o i ho) (by rw [hfm _ _ (by omega)]; simp [tk_set]) (by rw [← q1]; exact hEj)
      rw [← q2, ← r3] at hq
      simp [tk_fn, tk_env, tk_sq, tk_sk, tk_if, tk_re, tk_rez, tk_rev, tk_xp, tk_se, tk_pf, tk_pfz, tk_pfo, tk_as, tk_asz, tk_asb, tk_aso, tk_cpy, tk_sw, tk_swc, tk_lit, tk_loc, tk_u1, tk_bin, tk_dv, tk_gf, tk_gr, tk_gn, tk_ald, tk_aldq, tk_aln, tk_unl, tk_una, tk_ter, tk_args, tk_cs, tk_cv, tk_ceq, tk_cne, tk_clt, tk_cge, tk_cgt, tk_cle, tk_zeq, tk_zne, tk_zlt, tk_zge, tk_zgt, tk_zle, tk_and, tk_or, tk_not, tk_ct2, tk_isC, List.headD_cons, tk_up, tk_sca, tk_scl, r0, r4, e45]
      exact hq
  · have hpb := hflt.1
    have l1 : tk_isub (-10) (p : Int) = -10 - p := tk_isub_id (by omega) (by omega)
    simp [h40, l1]
    exact h0 p hflt _ (frP m1 hf 0) (by simp [tk_set]) (by rw [mvP m1 hf]; exact hE)
theorem c_fund_m {G : tk_F} {μ : tk_M} {K : Int → Int → tk_M → Prop} (hR : tk_R μ) (hK : ∀ r μ', tk_R μ' → K r r μ') {S μX : tk_M} {r : Int} (hS : tk_II S) (hSx : tk_hw 1 μX = S) (hf : ∀ o i : Int, ¬ (o = 2 ∨ o = 3 ∨ o = 4 ∨ o = 82 ∨ (o = 1 ∧ i = 1) ∨ (o = 0 ∧ i = 7)) → μX o i = μ o i) (h07 : μX 0 7 = 0) (hcase : (tk_acc (μ 81) (μ 0 7).toNat ∧ tk_az (μ 81) (μ 0 7).toNat 0 = 6 ∧ S = tk_fsq (μ 81) (tk_hw 1 μ) (μ 0 7).toNat ∧ r = tk_fcm (μ 81) (tk_hw 1 μ) (μ 0 7).toNat) ∨ (S = tk_hw 1 μ ∧ ∃ p : Nat, tk_flt (μ 81) (μ 0 7) p ∧ r = -10 - p)) (hG : ∀ Q : Int → tk_M → Prop, tk_tx (μ 81) (μ 0 7) (tk_set μX 96 24 0) → tk_EE (tk_hw 1 μ) (tk_mv μX) → (tk_acc (μ 81) (μ 0 7).toNat → tk_az (μ 81) (μ 0 7).toNat 0 = 6 → ∀ m', (∀ o i : Int, ¬ (o = 97 ∨ o = 98 ∨ o = 99 ∨ o = 115 ∨ o = 122 ∨ o = 123 ∨ o = 124 ∨ (o = 96 ∧ (i = 1 ∨ i = 24 ∨ i = 39 ∨ i = 40 ∨ i = 41 ∨ i = 45))) → m' o i = μX o i) → m' 96 39 = 0 → tk_EE (tk_fsq (μ 81) (tk_hw 1 μ) (μ 0 7).toNat) (tk_mv m') → Q (tk_fcm (μ 81) (tk_hw 1 μ) (μ 0 7).toNat) m') → (∀ p : Nat, tk_flt (μ 81) (μ 0 7) p → ∀ m', (∀ o i : Int, ¬ (o = 97 ∨ o = 98 ∨ o = 99 ∨ o = 115 ∨ o = 122 ∨ o = 123 ∨ o = 124 ∨ (o = 96 ∧ (i = 1 ∨ i = 24 ∨ i = 39 ∨ i = 40 ∨ i = 41 ∨ i = 45))) → m' o i = μX o i) → m' 96 39 = 0 → tk_EE (tk_hw 1 μ) (tk_mv m') → Q (-10 - p) m') → G [96] Q μX) : G [96] (fun r' m => K r r' m) μX := by
  obtain ⟨hE, hI, hIm⟩ := tk_R_S hR
  obtain ⟨ht1, ht2, ht3⟩ := hR.2.2.1
  have hM : tk_mv μX = tk_mv μ := tk_mv_f2 (fun o i ho => hf o i (by omega))
  have fin : ∀ (r' : Int) (m' : tk_M), r = r' → (∀ o i : Int, ¬ (o = 97 ∨ o = 98 ∨ o = 99 ∨ o = 115 ∨ o = 122 ∨ o = 123 ∨ o = 124 ∨ (o = 96 ∧ (i = 1 ∨ i = 24 ∨ i = 39 ∨ i = 40 ∨ i = 41 ∨ i = 45))) → m' o i = μX o i) → m' 96 39 = 0 → tk_EE S (tk_mv m') → K r r' m' := by
    intro r' m' hr hf2 h39 hE2
    subst hr
    have hh : tk_hw 1 m' = S := by
      rw [← hSx]
      funext f i
      unfold tk_hw
      split
      · exact hf2 _ _ (by omega)
      · rfl
    have fr : ∀ o i : Int, ¬ (o = 2 ∨ o = 3 ∨ o = 4 ∨ o = 82 ∨ (o = 1 ∧ i = 1) ∨ (o = 0 ∧ i = 7) ∨ o = 97 ∨ o = 98 ∨ o = 99 ∨ o = 115 ∨ o = 122 ∨ o = 123 ∨ o = 124 ∨ (o = 96 ∧ (i = 1 ∨ i = 24 ∨ i = 39 ∨ i = 40 ∨ i = 41 ∨ i = 45))) → m' o i = μ o i := fun o i ho => by
      rw [hf2 o i (by omega)]
      exact hf o i (by omega)
    have f07 : m' 0 7 = 0 := by rw [hf2 _ _ (by omega)]; exact h07
    refine hK _ _ ⟨?_, ?_, ⟨by rw [h39, f07], by rw [f07]; exact ⟨by omega, by omega⟩, fun i h1 h2 => absurd h2 (by rw [f07]; omega)⟩, tk_RP_fr hR.2.2.2.1 (fun o i ho => fr o i (by omega)), tk_RI_fr hR.2.2.2.2 (fr _ _ (by omega)) (fr _ _ (by omega)) (fun o i h1 h2 => fr o i (by omega)) (fun i => fr _ _ (by omega))⟩
    · rw [tk_EE_hw, hh]
      exact hE2
    · rw [tk_II_hw, hh]
      exact hS
  have htx : tk_tx (μ 81) (μ 0 7) (tk_set μX 96 24 0) := by
    refine ⟨ht2, ?_, fun i h1 h2 => ?_⟩
    · rw [tk_set_j (by omega), hf _ _ (by omega), ht1]
    · rw [tk_set_o (by omega), hf _ _ (by omega)]
      exact ht3 i h1 h2
  refine hG _ htx (by rw [hM]; exact hE) (fun hacc h6 m' hf2 h39 hE2 => ?_) (fun p hp m' hf2 h39 hE2 => ?_)
  · rcases hcase with ⟨-, -, q3, q4⟩ | ⟨q1, p, hp, q2⟩
    · exact fin _ m' q4 hf2 h39 (by rw [q3]; exact hE2)
    · exact (tk_flt_g hp (m := (μ 0 7).toNat) (by omega) hacc h6).elim
  · rcases hcase with ⟨q1, q2, -, -⟩ | ⟨q1, p2, hp2, q2⟩
    · exact (tk_flt_g hp (m := (μ 0 7).toNat) (by omega) q1 q2).elim
    · rw [tk_flt_u hp2 hp] at q2
      exact fin _ m' q2 hf2 h39 (by rw [q1]; exact hE2)
theorem x_fund_a {F1 F2 : tk_F} {n : Int} {A : tk_M → Prop} {B : Nat → tk_M → Prop} {μ : tk_M} {Q : Int → tk_M → Prop} (hn : 0 ≤ n ∧ n ≤ 100) (hF1 : ∀ R : Int → tk_M → Prop, (∀ μ1, A μ1 → R (-1) μ1) → (∀ (p : Nat) μ1, (p : Int) ≤ n → B p μ1 → R p μ1) → F1 [0] R μ) (hA : ∀ μ1, A μ1 → F2 [0] (fun r μ2 => Q r (tk_set μ2 0 7 0)) μ1) (hB : ∀ (p : Nat) μ1, B p μ1 → Q (-10 - p) (tk_set μ1 0 7 0)) : (tk_fn [2] (tk_sq (tk_se 1 (tk_cv 6 F1 [(tk_loc 0)])) (tk_sq (tk_se 2 (tk_ter (tk_zlt (tk_loc 1)) (tk_cv 6 F2 [(tk_loc 0)]) (tk_bin tk_isub (tk_lit (-10)) (tk_loc 1)))) (tk_sq (tk_pf 6 7 (tk_loc 0) (tk_lit (0))) (tk_re (tk_loc 2)))))) [0] Q μ := by
  simp [tk_fn, tk_env, tk_sq, tk_sk, tk_if, tk_re, tk_rez, tk_rev, tk_xp, tk_se, tk_pf, tk_pfz, tk_pfo, tk_as, tk_asz, tk_asb, tk_aso, tk_cpy, tk_sw, tk_swc, tk_lit, tk_loc, tk_u1, tk_bin, tk_dv, tk_gf, tk_gr, tk_gn, tk_ald, tk_aldq, tk_aln, tk_unl, tk_una, tk_ter, tk_args, tk_cs, tk_cv, tk_ceq, tk_cne, tk_clt, tk_cge, tk_cgt, tk_cle, tk_zeq, tk_zne, tk_zlt, tk_zge, tk_zgt, tk_zle, tk_and, tk_or, tk_not, tk_ct2, tk_isC, List.headD_cons, tk_up, tk_sca, tk_scl]
  refine hF1 _ (fun μ1 h1 => ?_) (fun p μ1 hp h1 => ?_)
  · simp
    exact hA μ1 h1
  · have hp0 : ¬ (p : Int) < 0 := by omega
    have l1 : tk_isub (-10) (p : Int) = -10 - p := tk_isub_id (by omega) (by omega)
    simp [l1, hp0]
    exact hB p μ1 h1
theorem tk_hw1_82 {μ μ1 : tk_M} (hf1 : ∀ o i : Int, ¬ o = 82 → μ1 o i = μ o i) : tk_hw 1 μ1 = tk_hw 1 μ := by
  funext f i
  unfold tk_hw
  split
  · exact hf1 _ _ (by omega)
  · rfl
theorem c_fund : tk_cp tkF_X6_fund tkF_X7_fund [] := by
  intro μ hR K hK
  obtain ⟨hE, hI, hIm⟩ := tk_R_S hR
  obtain ⟨ht1, ht2, ht3⟩ := hR.2.2.1
  refine x_fund_a (F1 := tkF_X6_faultOfText) (F2 := tkF_X6_takeFunds) (n := μ 0 7) (A := fun μ1 => (∀ o i : Int, ¬ o = 82 → μ1 o i = μ o i) ∧ tk_acc (μ 81) (μ 0 7).toNat ∧ tk_az (μ 81) (μ 0 7).toNat 0 = 6) (B := fun p μ1 => (∀ o i : Int, ¬ o = 82 → μ1 o i = μ o i) ∧ tk_flt (μ 81) (μ 0 7) p) ht2 (fun R h1 h2 => ?_) (fun μ1 ⟨hf1, hacc, h6⟩ => ?_) (fun p μ1 ⟨hf1, hflt⟩ => ?_)
  · exact x_fault (T := μ 81) ht2 (fun i h3 h4 => ⟨rfl, (ht3 i h3 h4).2⟩) (fun μ' q1 q2 q3 => h1 μ' ⟨q1, q2, q3⟩) (fun p μ' q1 q2 => h2 p μ' q2.1 ⟨q1, q2⟩)
  · have h11 := tk_hw1_82 hf1
    have e7 : μ1 0 7 = μ 0 7 := hf1 _ _ (by omega)
    refine x_takeFunds (T := μ 81) (by rw [h11]; exact hI) (by rw [e7]; exact ht2) (fun i h1 h2 => by rw [e7] at h2; rw [hf1 _ _ (by omega)]; exact ⟨rfl, (ht3 i h1 h2).2⟩) (by rw [e7]; exact hacc) (fun μ2 hf2 hh2 => ?_)
    rw [h11, e7] at hh2 ⊢
    refine c_fund_m (G := tkF_X7_fund) hR hK (S := tk_fsq (μ 81) (tk_hw 1 μ) (μ 0 7).toNat) (tk_II_fs hI _) (by rw [tk_hw_ob (by omega)]; exact hh2) (fun o i ho => ?_) (by simp [tk_set]) (.inl ⟨hacc, h6, rfl, rfl⟩) (fun Q htx hEX q1 q0 => m_fund_a (G1 := tkF_X7_readFunds) (G2 := tkF_X7_fundComes) htx hI hEX q1 q0 (fun Q1 q1 q0 => m_readFunds htx q1 q0) (fun S m a k Q1 w1 w2 w3 w4 w5 w6 w7 w8 w9 => m_fundComes w1 w2 w3 w4 w5 w6 w7 w8 w9))
    unfold tk_set
    rw [if_neg (by omega), hf2 o i (by omega)]
    exact hf1 o i (by omega)
  · refine c_fund_m (G := tkF_X7_fund) hR hK (S := tk_hw 1 μ) hI ?_ (fun o i ho => ?_) (by simp [tk_set]) (.inr ⟨rfl, p, hflt, rfl⟩) (fun Q htx hEX q1 q0 => m_fund_a (G1 := tkF_X7_readFunds) (G2 := tkF_X7_fundComes) htx hI hEX q1 q0 (fun Q1 q1 q0 => m_readFunds htx q1 q0) (fun S m a k Q1 w1 w2 w3 w4 w5 w6 w7 w8 w9 => m_fundComes w1 w2 w3 w4 w5 w6 w7 w8 w9))
    · rw [tk_hw_ob (by omega)]
      exact tk_hw1_82 hf1
    · unfold tk_set
      rw [if_neg (by omega)]
      exact hf1 o i (by omega)
