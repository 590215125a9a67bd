/-! ===== Layer 2: the Model's values and shares ===== -/
theorem m_layValues {μ : tk_M} {Q : Int → tk_M → Prop} (h0 : tk_I0 (tk_mv μ)) (h1 : tk_I1 (tk_mv μ)) (h7 : tk_I7 (tk_mv μ)) (hQ : ∀ μ', tk_f1 116 118 μ μ' → (∀ c : Int, 0 ≤ c → c < 6 → μ' 116 c = tk_V (tk_mv μ) c ∧ μ' 117 c = tk_isu (tk_mv μ) c) → Q 0 μ') : tkF_X7_layValues [96] Q μ := by
  have hvb := fun k c hc => tk_vl_bd h0 h1 h7 k c hc
  have hsb := fun k i c hi hc => tk_vs_bd h0 h1 (v := tk_vl (tk_mv μ) k) (fun c hc => hvb k c hc) i c hi hc
  have g0 := h0
  have g := h1
  obtain ⟨g1, g2, g3, -⟩ := g0
  unfold tk_I1 at g
  simp [tk_mv] at g1 g2 g3 g
  have hnT : tk_mv μ 0 1 = μ 96 1 := rfl
  simp [tk_fn, tk_env, tk_sq, tk_sk, tk_if, tk_re, tk_rez, tk_rev, tk_xp, tk_se, tk_pf, tk_pfz, tk_pfo, tk_as, tk_asz, tk_asb, tk_aso, tk_cpy, tk_sw, tk_swc, tk_lit, tk_loc, tk_u1, tk_bin, tk_dv, tk_gf, tk_gr, tk_gn, tk_ald, tk_aldq, tk_aln, tk_unl, tk_una, tk_ter, tk_args, tk_cs, tk_cv, tk_ceq, tk_cne, tk_clt, tk_cge, tk_cgt, tk_cle, tk_zeq, tk_zne, tk_zlt, tk_zge, tk_zgt, tk_zle, tk_and, tk_or, tk_not, tk_ct2, tk_isC, List.headD_cons, tk_up, tk_sca, tk_scl, tkF_X7_layValues, tkS_X7_layValues]
  refine m_layIssued h0 h1 (fun μ1 hf1 hz1 => ?_)
  refine tk_for 6 (fun i ρ μ' => ρ 0 = 96 ∧ ρ 1 = i ∧ tk_f1 116 118 μ μ' ∧ ∀ c : Int, 0 ≤ c → c < 6 → μ' 116 c = tk_vl (tk_mv μ) i.toNat c ∧ μ' 117 c = tk_isu (tk_mv μ) c) (by omega) ⟨rfl, rfl, tk_f1_w hf1 (by omega), hz1⟩ ?_ ?_
  · rintro i ρ μ' hi0 hi6 ⟨r0, r1, hf, hz⟩ K hK
    have i1 : tk_iadd i 1 = i + 1 := tk_iadd_id (by omega) (by omega)
    simp [tk_fn, tk_env, tk_sq, tk_sk, tk_if, tk_re, tk_rez, tk_rev, tk_xp, tk_se, tk_pf, tk_pfz, tk_pfo, tk_as, tk_asz, tk_asb, tk_aso, tk_cpy, tk_sw, tk_swc, tk_lit, tk_loc, tk_u1, tk_bin, tk_dv, tk_gf, tk_gr, tk_gn, tk_ald, tk_aldq, tk_aln, tk_unl, tk_una, tk_ter, tk_args, tk_cs, tk_cv, tk_ceq, tk_cne, tk_clt, tk_cge, tk_cgt, tk_cle, tk_zeq, tk_zne, tk_zlt, tk_zge, tk_zgt, tk_zle, tk_and, tk_or, tk_not, tk_ct2, tk_isC, List.headD_cons, tk_up, tk_sca, tk_scl, r0, r1, hi6]
    refine tk_for 6 (fun j ρ μ' => ρ 0 = 96 ∧ ρ 1 = i ∧ ρ 2 = j ∧ tk_f1 116 118 μ μ' ∧ (∀ c : Int, 0 ≤ c → c < 6 → μ' 116 c = tk_vl (tk_mv μ) i.toNat c ∧ μ' 117 c = tk_isu (tk_mv μ) c) ∧ ∀ c : Int, 0 ≤ c → c < j → μ' 118 c = 0) (by omega) ⟨r0, r1, rfl, hf, hz, fun c h2 h3 => by omega⟩ ?_ ?_
    · rintro j ρ μ' hj0 hj6 ⟨r0, r1, r2, hf, hz, hs⟩ K hK
      have j1 : tk_iadd j 1 = j + 1 := tk_iadd_id (by omega) (by omega)
      simp [tk_fn, tk_env, tk_sq, tk_sk, tk_if, tk_re, tk_rez, tk_rev, tk_xp, tk_se, tk_pf, tk_pfz, tk_pfo, tk_as, tk_asz, tk_asb, tk_aso, tk_cpy, tk_sw, tk_swc, tk_lit, tk_loc, tk_u1, tk_bin, tk_dv, tk_gf, tk_gr, tk_gn, tk_ald, tk_aldq, tk_aln, tk_unl, tk_una, tk_ter, tk_args, tk_cs, tk_cv, tk_ceq, tk_cne, tk_clt, tk_cge, tk_cgt, tk_cle, tk_zeq, tk_zne, tk_zlt, tk_zge, tk_zgt, tk_zle, tk_and, tk_or, tk_not, tk_ct2, tk_isC, List.headD_cons, tk_up, tk_sca, tk_scl, r0, r2, hj0, hj6, tk_al_2, tk_al_3, tk_al_4, tk_al_5, tk_al_6, tk_al_7, tk_al_8, tk_al_9, tk_al_10, tk_al_11, tk_al_13, tk_al_14, tk_al_16, tk_al_17, tk_al_19, tk_al_20, tk_al_22, tk_al_24, tk_al_25, tk_al_26, tk_al_27, tk_al_28, tk_al_29, tk_al_30, tk_al_32, tk_al_33, tk_al_34, tk_al_35, tk_al_36, tk_al_37, tk_al_38, tk_al_39, tk_al_40, tk_al_41, tk_al_43, tk_al_44, tk_al_46, tk_al_47, tk_al_49, tk_al_50, tk_al_52, tk_al_54, tk_al_55, tk_al_56, tk_al_57, tk_al_58, tk_al_59, tk_al_60, tk_al_62, tk_al_63, tk_al_64, tk_al_65, tk_al_66, tk_al_67, tk_al_68, tk_al_69, tk_al_70, tk_al_71, tk_al_73, tk_al_74, tk_al_76, tk_al_77, tk_al_79, tk_al_80, tk_al_81, tk_al_83, tk_al_85, tk_al_87, tk_al_89, tk_al_91, tk_al_93, tk_al_95, tk_al_97, tk_al_98, tk_al_99, tk_al_100, tk_al_101, tk_al_102, tk_al_103, tk_al_104, tk_al_105, tk_al_106, tk_al_107, tk_al_108, tk_al_109, tk_al_110, tk_al_111, tk_al_112, tk_al_113, tk_al_114, tk_al_115, tk_al_116, tk_al_117, tk_al_118, tk_al_119, tk_al_120, tk_al_121, tk_al_122, tk_al_123, tk_al_124, tk_al_125, tk_al_126, tk_al_127, tk_al_128, tk_al_129, j1]
      refine hK _ _ ⟨r0, r1, rfl, tk_f1_s hf (by omega), fun c h2 h3 => ?_, fun c h2 h3 => ?_⟩
      · simp [tk_set]
        exact hz c h2 h3
      · by_cases hc : c = j
        · subst hc; simp [tk_set]
        · simp [tk_set, hc]
          exact hs c h2 (by omega)
    · rintro ρ μ' ⟨r0, r1, r2, hf, hz, hs⟩ X
      simp [tk_fn, tk_env, tk_sq, tk_sk, tk_if, tk_re, tk_rez, tk_rev, tk_xp, tk_se, tk_pf, tk_pfz, tk_pfo, tk_as, tk_asz, tk_asb, tk_aso, tk_cpy, tk_sw, tk_swc, tk_lit, tk_loc, tk_u1, tk_bin, tk_dv, tk_gf, tk_gr, tk_gn, tk_ald, tk_aldq, tk_aln, tk_unl, tk_una, tk_ter, tk_args, tk_cs, tk_cv, tk_ceq, tk_cne, tk_clt, tk_cge, tk_cgt, tk_cle, tk_zeq, tk_zne, tk_zlt, tk_zge, tk_zgt, tk_zle, tk_and, tk_or, tk_not, tk_ct2, tk_isC, List.headD_cons, tk_up, tk_sca, tk_scl, r0, r2]
      refine tk_for (μ 96 1) (fun j ρ μ' => ρ 0 = 96 ∧ ρ 1 = i ∧ ρ 2 = j ∧ tk_f1 116 118 μ μ' ∧ (∀ c : Int, 0 ≤ c → c < 6 → μ' 116 c = tk_vl (tk_mv μ) i.toNat c ∧ μ' 117 c = tk_isu (tk_mv μ) c) ∧ ∀ c : Int, 0 ≤ c → c < 6 → μ' 118 c = tk_vs (tk_mv μ) (tk_vl (tk_mv μ) i.toNat) j c) g2.1 ⟨r0, r1, rfl, hf, hz, hs⟩ ?_ ?_
      · rintro j ρ μ' hj0 hj6 ⟨r0, r1, r2, hf, hz, hs⟩ K hK
        have j1 : tk_iadd j 1 = j + 1 := tk_iadd_id (by omega) (by omega)
        have e96 : μ' 96 1 = μ 96 1 := hf _ _ (by omega)
        have e97 : μ' 97 j = μ 97 j := hf _ _ (by omega)
        have e99 : μ' 99 j = μ 99 j := hf _ _ (by omega)
        have hT : tk_mv μ' = tk_mv μ := tk_mv_f1 hf (by omega)
        have hg := g j hj0 hj6
        have h24 : j < 24 := by omega
        have hvs : ∀ c : Int, tk_vs (tk_mv μ) (tk_vl (tk_mv μ) i.toNat) (j + 1) c = tk_vs (tk_mv μ) (tk_vl (tk_mv μ) i.toNat) j c + (if μ 99 j = 10 + c then tk_wo (tk_mv μ) (tk_vl (tk_mv μ) i.toNat) j else 0) := fun c => tk_sm_s hj0
        by_cases hn : 10 ≤ μ 99 j
        · have i2 : tk_isub (μ 99 j) 10 = μ 99 j - 10 := tk_isub_id (by omega) (by omega)
          have hb0 : 0 ≤ μ 99 j - 10 := by omega
          have hb6 : μ 99 j - 10 < 6 := by omega
          simp [tk_fn, tk_env, tk_sq, tk_sk, tk_if, tk_re, tk_rez, tk_rev, tk_xp, tk_se, tk_pf, tk_pfz, tk_pfo, tk_as, tk_asz, tk_asb, tk_aso, tk_cpy, tk_sw, tk_swc, tk_lit, tk_loc, tk_u1, tk_bin, tk_dv, tk_gf, tk_gr, tk_gn, tk_ald, tk_aldq, tk_aln, tk_unl, tk_una, tk_ter, tk_args, tk_cs, tk_cv, tk_ceq, tk_cne, tk_clt, tk_cge, tk_cgt, tk_cle, tk_zeq, tk_zne, tk_zlt, tk_zge, tk_zgt, tk_zle, tk_and, tk_or, tk_not, tk_ct2, tk_isC, List.headD_cons, tk_up, tk_sca, tk_scl, r0, r2, hj0, hj6, h24, tk_al_2, tk_al_3, tk_al_4, tk_al_5, tk_al_6, tk_al_7, tk_al_8, tk_al_9, tk_al_10, tk_al_11, tk_al_13, tk_al_14, tk_al_16, tk_al_17, tk_al_19, tk_al_20, tk_al_22, tk_al_24, tk_al_25, tk_al_26, tk_al_27, tk_al_28, tk_al_29, tk_al_30, tk_al_32, tk_al_33, tk_al_34, tk_al_35, tk_al_36, tk_al_37, tk_al_38, tk_al_39, tk_al_40, tk_al_41, tk_al_43, tk_al_44, tk_al_46, tk_al_47, tk_al_49, tk_al_50, tk_al_52, tk_al_54, tk_al_55, tk_al_56, tk_al_57, tk_al_58, tk_al_59, tk_al_60, tk_al_62, tk_al_63, tk_al_64, tk_al_65, tk_al_66, tk_al_67, tk_al_68, tk_al_69, tk_al_70, tk_al_71, tk_al_73, tk_al_74, tk_al_76, tk_al_77, tk_al_79, tk_al_80, tk_al_81, tk_al_83, tk_al_85, tk_al_87, tk_al_89, tk_al_91, tk_al_93, tk_al_95, tk_al_97, tk_al_98, tk_al_99, tk_al_100, tk_al_101, tk_al_102, tk_al_103, tk_al_104, tk_al_105, tk_al_106, tk_al_107, tk_al_108, tk_al_109, tk_al_110, tk_al_111, tk_al_112, tk_al_113, tk_al_114, tk_al_115, tk_al_116, tk_al_117, tk_al_118, tk_al_119, tk_al_120, tk_al_121, tk_al_122, tk_al_123, tk_al_124, tk_al_125, tk_al_126, tk_al_127, tk_al_128, tk_al_129, j1, e96, e99, hn, i2, hb6, -Int.sub_nonneg]
          refine ⟨hb0, m_worthOf (v := tk_vl (tk_mv μ) i.toNat) (by rw [hT]; exact h0) (by rw [hT]; exact h1) ⟨hj0, by omega⟩ (fun c h2 h3 => by rw [hT]; exact (hz c h2 h3).2) (by rw [e97]; exact (hz _ hg.1.1 (by omega)).1) (by rw [e97]; exact hvb _ _ hg.1.1) ?_⟩
          rw [hT]
          have hwb := tk_wo_bd h0 h1 (v := tk_vl (tk_mv μ) i.toNat) (B := 79618277376) (by omega) (t := j) ⟨hj0, hj6⟩ (fun z => by have z2 : μ 99 j = -5 := z; omega) (hvb _ _ hg.1.1)
          have hsb2 := hsb i.toNat j (μ 99 j - 10) ⟨hj0, by omega⟩ hb0
          have hs2 := hs (μ 99 j - 10) hb0 hb6
          rw [hs2, tk_ladd_id (by omega) (by omega)]
          refine hK _ _ ⟨r0, r1, rfl, tk_f1_s hf (by omega), fun c h2 h3 => ?_, fun c h2 h3 => ?_⟩
          · simp [tk_set]
            exact hz c h2 h3
          · rw [hvs]
            by_cases hc : c = μ 99 j - 10
            · subst hc
              rw [tk_set_eq, if_pos (by omega)]
            · rw [tk_set_j hc, if_neg (by omega), hs c h2 h3]
              omega
        · simp [tk_fn, tk_env, tk_sq, tk_sk, tk_if, tk_re, tk_rez, tk_rev, tk_xp, tk_se, tk_pf, tk_pfz, tk_pfo, tk_as, tk_asz, tk_asb, tk_aso, tk_cpy, tk_sw, tk_swc, tk_lit, tk_loc, tk_u1, tk_bin, tk_dv, tk_gf, tk_gr, tk_gn, tk_ald, tk_aldq, tk_aln, tk_unl, tk_una, tk_ter, tk_args, tk_cs, tk_cv, tk_ceq, tk_cne, tk_clt, tk_cge, tk_cgt, tk_cle, tk_zeq, tk_zne, tk_zlt, tk_zge, tk_zgt, tk_zle, tk_and, tk_or, tk_not, tk_ct2, tk_isC, List.headD_cons, tk_up, tk_sca, tk_scl, r0, r2, hj0, hj6, h24, tk_al_2, tk_al_3, tk_al_4, tk_al_5, tk_al_6, tk_al_7, tk_al_8, tk_al_9, tk_al_10, tk_al_11, tk_al_13, tk_al_14, tk_al_16, tk_al_17, tk_al_19, tk_al_20, tk_al_22, tk_al_24, tk_al_25, tk_al_26, tk_al_27, tk_al_28, tk_al_29, tk_al_30, tk_al_32, tk_al_33, tk_al_34, tk_al_35, tk_al_36, tk_al_37, tk_al_38, tk_al_39, tk_al_40, tk_al_41, tk_al_43, tk_al_44, tk_al_46, tk_al_47, tk_al_49, tk_al_50, tk_al_52, tk_al_54, tk_al_55, tk_al_56, tk_al_57, tk_al_58, tk_al_59, tk_al_60, tk_al_62, tk_al_63, tk_al_64, tk_al_65, tk_al_66, tk_al_67, tk_al_68, tk_al_69, tk_al_70, tk_al_71, tk_al_73, tk_al_74, tk_al_76, tk_al_77, tk_al_79, tk_al_80, tk_al_81, tk_al_83, tk_al_85, tk_al_87, tk_al_89, tk_al_91, tk_al_93, tk_al_95, tk_al_97, tk_al_98, tk_al_99, tk_al_100, tk_al_101, tk_al_102, tk_al_103, tk_al_104, tk_al_105, tk_al_106, tk_al_107, tk_al_108, tk_al_109, tk_al_110, tk_al_111, tk_al_112, tk_al_113, tk_al_114, tk_al_115, tk_al_116, tk_al_117, tk_al_118, tk_al_119, tk_al_120, tk_al_121, tk_al_122, tk_al_123, tk_al_124, tk_al_125, tk_al_126, tk_al_127, tk_al_128, tk_al_129, j1, e96, e99, hn]
          refine hK _ _ ⟨r0, r1, rfl, hf, hz, fun c h2 h3 => ?_⟩
          rw [hvs, if_neg (by omega), hs c h2 h3]
          omega
      · rintro ρ μ' ⟨r0, r1, r2, hf, hz, hs⟩ X
        have e96 : μ' 96 1 = μ 96 1 := hf _ _ (by omega)
        simp [tk_fn, tk_env, tk_sq, tk_sk, tk_if, tk_re, tk_rez, tk_rev, tk_xp, tk_se, tk_pf, tk_pfz, tk_pfo, tk_as, tk_asz, tk_asb, tk_aso, tk_cpy, tk_sw, tk_swc, tk_lit, tk_loc, tk_u1, tk_bin, tk_dv, tk_gf, tk_gr, tk_gn, tk_ald, tk_aldq, tk_aln, tk_unl, tk_una, tk_ter, tk_args, tk_cs, tk_cv, tk_ceq, tk_cne, tk_clt, tk_cge, tk_cgt, tk_cle, tk_zeq, tk_zne, tk_zlt, tk_zge, tk_zgt, tk_zle, tk_and, tk_or, tk_not, tk_ct2, tk_isC, List.headD_cons, tk_up, tk_sca, tk_scl, r0, r2, e96]
        refine tk_for 6 (fun j ρ μ' => ρ 0 = 96 ∧ ρ 1 = i ∧ ρ 2 = j ∧ tk_f1 116 118 μ μ' ∧ (∀ c : Int, 0 ≤ c → c < 6 → μ' 117 c = tk_isu (tk_mv μ) c ∧ μ' 118 c = tk_vs (tk_mv μ) (tk_vl (tk_mv μ) i.toNat) (μ 96 1) c) ∧ ∀ c : Int, 0 ≤ c → c < j → μ' 116 c = tk_vs (tk_mv μ) (tk_vl (tk_mv μ) i.toNat) (μ 96 1) c) (by omega) ⟨r0, r1, rfl, hf, fun c h2 h3 => ⟨(hz c h2 h3).2, hs c h2 h3⟩, fun c h2 h3 => by omega⟩ ?_ ?_
        · rintro j ρ μ' hj0 hj6 ⟨r0, r1, r2, hf, hz, hs⟩ K hK
          have j1 : tk_iadd j 1 = j + 1 := tk_iadd_id (by omega) (by omega)
          simp [tk_fn, tk_env, tk_sq, tk_sk, tk_if, tk_re, tk_rez, tk_rev, tk_xp, tk_se, tk_pf, tk_pfz, tk_pfo, tk_as, tk_asz, tk_asb, tk_aso, tk_cpy, tk_sw, tk_swc, tk_lit, tk_loc, tk_u1, tk_bin, tk_dv, tk_gf, tk_gr, tk_gn, tk_ald, tk_aldq, tk_aln, tk_unl, tk_una, tk_ter, tk_args, tk_cs, tk_cv, tk_ceq, tk_cne, tk_clt, tk_cge, tk_cgt, tk_cle, tk_zeq, tk_zne, tk_zlt, tk_zge, tk_zgt, tk_zle, tk_and, tk_or, tk_not, tk_ct2, tk_isC, List.headD_cons, tk_up, tk_sca, tk_scl, r0, r2, hj0, hj6, tk_al_2, tk_al_3, tk_al_4, tk_al_5, tk_al_6, tk_al_7, tk_al_8, tk_al_9, tk_al_10, tk_al_11, tk_al_13, tk_al_14, tk_al_16, tk_al_17, tk_al_19, tk_al_20, tk_al_22, tk_al_24, tk_al_25, tk_al_26, tk_al_27, tk_al_28, tk_al_29, tk_al_30, tk_al_32, tk_al_33, tk_al_34, tk_al_35, tk_al_36, tk_al_37, tk_al_38, tk_al_39, tk_al_40, tk_al_41, tk_al_43, tk_al_44, tk_al_46, tk_al_47, tk_al_49, tk_al_50, tk_al_52, tk_al_54, tk_al_55, tk_al_56, tk_al_57, tk_al_58, tk_al_59, tk_al_60, tk_al_62, tk_al_63, tk_al_64, tk_al_65, tk_al_66, tk_al_67, tk_al_68, tk_al_69, tk_al_70, tk_al_71, tk_al_73, tk_al_74, tk_al_76, tk_al_77, tk_al_79, tk_al_80, tk_al_81, tk_al_83, tk_al_85, tk_al_87, tk_al_89, tk_al_91, tk_al_93, tk_al_95, tk_al_97, tk_al_98, tk_al_99, tk_al_100, tk_al_101, tk_al_102, tk_al_103, tk_al_104, tk_al_105, tk_al_106, tk_al_107, tk_al_108, tk_al_109, tk_al_110, tk_al_111, tk_al_112, tk_al_113, tk_al_114, tk_al_115, tk_al_116, tk_al_117, tk_al_118, tk_al_119, tk_al_120, tk_al_121, tk_al_122, tk_al_123, tk_al_124, tk_al_125, tk_al_126, tk_al_127, tk_al_128, tk_al_129, j1]
          refine hK _ _ ⟨r0, r1, rfl, tk_f1_s hf (by omega), fun c h2 h3 => ?_, fun c h2 h3 => ?_⟩
          · simp [tk_set]
            exact hz c h2 h3
          · by_cases hc : c = j
            · subst hc
              rw [tk_set_eq]
              exact (hz c hj0 hj6).2
            · rw [tk_set_j hc]
              exact hs c h2 (by omega)
        · rintro ρ μ' ⟨r0, r1, r2, hf, hz, hs⟩ X
          simp [tk_fn, tk_env, tk_sq, tk_sk, tk_if, tk_re, tk_rez, tk_rev, tk_xp, tk_se, tk_pf, tk_pfz, tk_pfo, tk_as, tk_asz, tk_asb, tk_aso, tk_cpy, tk_sw, tk_swc, tk_lit, tk_loc, tk_u1, tk_bin, tk_dv, tk_gf, tk_gr, tk_gn, tk_ald, tk_aldq, tk_aln, tk_unl, tk_una, tk_ter, tk_args, tk_cs, tk_cv, tk_ceq, tk_cne, tk_clt, tk_cge, tk_cgt, tk_cle, tk_zeq, tk_zne, tk_zlt, tk_zge, tk_zgt, tk_zle, tk_and, tk_or, tk_not, tk_ct2, tk_isC, List.headD_cons, tk_up, tk_sca, tk_scl, r0, r1, r2, i1]
          refine hK _ _ ⟨r0, rfl, hf, fun c h2 h3 => ?_⟩
          have e : (i + 1).toNat = i.toNat + 1 := by omega
          rw [e]
          exact ⟨hs c h2 h3, (hz c h2 h3).1⟩
  · rintro ρ μ' ⟨r0, r1, hf, hz⟩ X
    simp [tk_fn, tk_env, tk_sq, tk_sk, tk_if, tk_re, tk_rez, tk_rev, tk_xp, tk_se, tk_pf, tk_pfz, tk_pfo, tk_as, tk_asz, tk_asb, tk_aso, tk_cpy, tk_sw, tk_swc, tk_lit, tk_loc, tk_u1, tk_bin, tk_dv, tk_gf, tk_gr, tk_gn, tk_ald, tk_aldq, tk_aln, tk_unl, tk_una, tk_ter, tk_args, tk_cs, tk_cv, tk_ceq, tk_cne, tk_clt, tk_cge, tk_cgt, tk_cle, tk_zeq, tk_zne, tk_zlt, tk_zge, tk_zgt, tk_zle, tk_and, tk_or, tk_not, tk_ct2, tk_isC, List.headD_cons, tk_up, tk_sca, tk_scl, r0, r1]
    exact hQ _ hf hz
theorem tk_pth_rk {S : tk_M} (h2 : tk_I2 S) (h8 : tk_I8 S) {c : Int} (hc : 0 ≤ c ∧ c < S 0 2) {k : Nat} (hk : 0 ≤ tk_pth S c k) : k ≤ 7 := by
  obtain ⟨rk, hr, hm⟩ := h8
  have key : ∀ k : Nat, 0 ≤ tk_pth S c k → (k : Int) ≤ rk (tk_pth S c k) := by
    intro k
    induction k with
    | zero => intro _; exact (hr _).1
    | succ k ih =>
      intro h
      unfold tk_pth at h ⊢
      by_cases hp : 0 ≤ tk_pth S c k
      · rw [if_pos hp] at h ⊢
        have h3 := ih hp
        rcases tk_pth_in h2 (.inr hc) k with h4 | h4
        · omega
        · have := hm _ h4.1 h4.2 h
          omega
      · rw [if_neg hp] at h
        omega
  have := key k hk
  have := (hr (tk_pth S c k)).2
  omega
theorem tk_pth_end {S : tk_M} {c : Int} {k : Nat} (hk : tk_pth S c k < 0) (j : Nat) : tk_pth S c (k + j) < 0 := by
  induction j with
  | zero => exact hk
  | succ j ih =>
    have e : tk_pth S c (k + (j + 1)) = if 0 ≤ tk_pth S c (k + j) then S 9 (tk_pth S c (k + j)) else -5 := rfl
    rw [e, if_neg (by omega)]
    omega
theorem tk_sg_ext {n m : Nat} {f : Int → Int} (h : n ≤ m) (hz : ∀ i : Int, n ≤ i → i < m → f i = 0) : tk_sg m f = tk_sg n f := by
  induction m with
  | zero => have : n = 0 := by omega
            subst this; rfl
  | succ m ih =>
    by_cases hn : n = m + 1
    · subst hn; rfl
    · rw [tk_sg_s, ih (by omega) (fun i h1 h2 => hz i h1 (by omega)), hz m (by omega) (by omega)]
      omega
/-- what one client's wait lends -/
def tk_ln (S : tk_M) (c a : Int) (k : Nat) : Int := tk_sg k (fun j => if tk_pth S c j.toNat = a then tk_hd S c else 0)
theorem tk_ln_bd {S : tk_M} (h0 : tk_I0 S) (h1 : tk_I1 S) (h7 : tk_I7 S) {c : Int} (hc : 0 ≤ c) (a : Int) (k : Nat) : 0 ≤ tk_ln S c a k ∧ tk_ln S c a k ≤ k * 1910838657024 :=
  tk_sg_bd (fun j _ _ => by
    have := tk_hd_bd h0 h1 h7 c hc
    (try dsimp only)
    split <;> omega)
theorem tk_ln_end {S : tk_M} {c a : Int} (ha : 0 ≤ a) {k : Nat} (hk : tk_pth S c k < 0) (h8 : k ≤ 8) : tk_ln S c a k = tk_ln S c a 8 := by
  refine (tk_sg_ext h8 (fun i h1 h2 => ?_)).symm
  have h3 := tk_pth_end hk (i.toNat - k)
  rw [show k + (i.toNat - k) = i.toNat by omega] at h3
  rw [if_neg (by omega)]
def tk_shp (S : tk_M) (a i : Int) : Int := tk_sm i (fun c => tk_ln S c a 8)
theorem tk_shp_bd {S : tk_M} (h0 : tk_I0 S) (h1 : tk_I1 S) (h7 : tk_I7 S) (a i : Int) (hi : 0 ≤ i) : 0 ≤ tk_shp S a i ∧ tk_shp S a i ≤ i * 15286709256192 :=
  tk_sm_bd hi (fun c h2 _ => by
    have := tk_ln_bd h0 h1 h7 h2 a 8
    (try dsimp only)
    omega)
def tk_hdp (S : tk_M) (p i : Int) : Int := tk_sm i (fun t => if S 3 t = p then tk_Wt S t else 0)
theorem tk_hdp_bd {S : tk_M} (h0 : tk_I0 S) (h1 : tk_I1 S) (h7 : tk_I7 S) (p i : Int) (hp : 0 ≤ p) (hi : 0 ≤ i ∧ i ≤ S 0 1) : 0 ≤ tk_hdp S p i ∧ tk_hdp S p i ≤ i * 79618277376 :=
  tk_sm_bd (n := i) (B := 79618277376) hi.1 (fun t h2 h3 => by
    (try dsimp only)
    split
    · exact tk_Wt_bd h0 h1 h7 ⟨h2, by omega⟩ (by omega)
    · omega)
/-- what the Model has laid -/
def tk_mL (S : tk_M) (μ : tk_M) : Prop := (∀ c : Int, 0 ≤ c → c < 6 → μ 116 c = tk_V S c ∧ μ 117 c = tk_isu S c) ∧ ∀ a : Int, 0 ≤ a → a < 8 → μ 119 a = tk_shr S a
theorem m_layShares {μ : tk_M} {Q : Int → tk_M → Prop} (hI : tk_I0 (tk_mv μ) ∧ tk_I1 (tk_mv μ) ∧ tk_I2 (tk_mv μ) ∧ tk_I7 (tk_mv μ) ∧ tk_I8 (tk_mv μ)) (hQ : ∀ μ', tk_f1 116 120 μ μ' → tk_mL (tk_mv μ) μ' → Q 0 μ') : tkF_X7_layShares [96] Q μ := by
  obtain ⟨h0, h1, h2, h7, h8⟩ := hI
  have hV := fun c hc => tk_V_bd h0 h1 h7 c hc
  have hhb := fun p i hp hi => tk_hdp_bd h0 h1 h7 p i hp hi
  have hlb := fun c hc a k => tk_ln_bd h0 h1 h7 (c := c) hc a k
  have hshb := fun a i hi => tk_shp_bd h0 h1 h7 a i hi
  have hrk := fun c hc k hk => tk_pth_rk h2 h8 (c := c) hc (k := k) hk
  have hpin := fun c hc k => tk_pth_in h2 (c := c) (.inr hc) k
  have g0 := h0
  have g := h1
  obtain ⟨g1, g2, g3, -⟩ := g0
  unfold tk_I1 at g
  simp [tk_mv] at g1 g2 g3 g
  have hnT : tk_mv μ 0 1 = μ 96 1 := rfl
  have hnP : tk_mv μ 0 2 = μ 96 5 := rfl
  simp [tk_fn, tk_env, tk_sq, tk_sk, tk_if, tk_re, tk_rez, tk_rev, tk_xp, tk_se, tk_pf, tk_pfz, tk_pfo, tk_as, tk_asz, tk_asb, tk_aso, tk_cpy, tk_sw, tk_swc, tk_lit, tk_loc, tk_u1, tk_bin, tk_dv, tk_gf, tk_gr, tk_gn, tk_ald, tk_aldq, tk_aln, tk_unl, tk_una, tk_ter, tk_args, tk_cs, tk_cv, tk_ceq, tk_cne, tk_clt, tk_cge, tk_cgt, tk_cle, tk_zeq, tk_zne, tk_zlt, tk_zge, tk_zgt, tk_zle, tk_and, tk_or, tk_not, tk_ct2, tk_isC, List.headD_cons, tk_up, tk_sca, tk_scl, tkF_X7_layShares, tkS_X7_layShares]
  refine m_layValues h0 h1 h7 (fun μ1 hf1 hz1 => ?_)
  refine tk_for 8 (fun i ρ μ' => ρ 0 = 96 ∧ ρ 1 = i ∧ tk_f1 116 120 μ μ' ∧ (∀ c : Int, 0 ≤ c → c < 6 → μ' 116 c = tk_V (tk_mv μ) c ∧ μ' 117 c = tk_isu (tk_mv μ) c) ∧ ∀ a : Int, 0 ≤ a → a < i → μ' 119 a = 0 ∧ μ' 120 a = 0) (by omega) ⟨rfl, rfl, tk_f1_w hf1 (by omega), hz1, fun a h2 h3 => by omega⟩ ?_ ?_
  · rintro i ρ μ' hi0 hi6 ⟨r0, r1, hf, hz, hs⟩ K hK
    have i1 : tk_iadd i 1 = i + 1 := tk_iadd_id (by omega) (by omega)
    simp [tk_fn, tk_env, tk_sq, tk_sk, tk_if, tk_re, tk_rez, tk_rev, tk_xp, tk_se, tk_pf, tk_pfz, tk_pfo, tk_as, tk_asz, tk_asb, tk_aso, tk_cpy, tk_sw, tk_swc, tk_lit, tk_loc, tk_u1, tk_bin, tk_dv, tk_gf, tk_gr, tk_gn, tk_ald, tk_aldq, tk_aln, tk_unl, tk_una, tk_ter, tk_args, tk_cs, tk_cv, tk_ceq, tk_cne, tk_clt, tk_cge, tk_cgt, tk_cle, tk_zeq, tk_zne, tk_zlt, tk_zge, tk_zgt, tk_zle, tk_and, tk_or, tk_not, tk_ct2, tk_isC, List.headD_cons, tk_up, tk_sca, tk_scl, r0, r1, hi0, hi6, tk_al_2, tk_al_3, tk_al_4, tk_al_5, tk_al_6, tk_al_7, tk_al_8, tk_al_9, tk_al_10, tk_al_11, tk_al_13, tk_al_14, tk_al_16, tk_al_17, tk_al_19, tk_al_20, tk_al_22, tk_al_24, tk_al_25, tk_al_26, tk_al_27, tk_al_28, tk_al_29, tk_al_30, tk_al_32, tk_al_33, tk_al_34, tk_al_35, tk_al_36, tk_al_37, tk_al_38, tk_al_39, tk_al_40, tk_al_41, tk_al_43, tk_al_44, tk_al_46, tk_al_47, tk_al_49, tk_al_50, tk_al_52, tk_al_54, tk_al_55, tk_al_56, tk_al_57, tk_al_58, tk_al_59, tk_al_60, tk_al_62, tk_al_63, tk_al_64, tk_al_65, tk_al_66, tk_al_67, tk_al_68, tk_al_69, tk_al_70, tk_al_71, tk_al_73, tk_al_74, tk_al_76, tk_al_77, tk_al_79, tk_al_80, tk_al_81, tk_al_83, tk_al_85, tk_al_87, tk_al_89, tk_al_91, tk_al_93, tk_al_95, tk_al_97, tk_al_98, tk_al_99, tk_al_100, tk_al_101, tk_al_102, tk_al_103, tk_al_104, tk_al_105, tk_al_106, tk_al_107, tk_al_108, tk_al_109, tk_al_110, tk_al_111, tk_al_112, tk_al_113, tk_al_114, tk_al_115, tk_al_116, tk_al_117, tk_al_118, tk_al_119, tk_al_120, tk_al_121, tk_al_122, tk_al_123, tk_al_124, tk_al_125, tk_al_126, tk_al_127, tk_al_128, tk_al_129, i1]
    refine hK _ _ ⟨r0, rfl, tk_f1_s (tk_f1_s hf (by omega)) (by omega), fun c h2 h3 => ?_, fun c h2 h3 => ?_⟩
    · simp [tk_set]
      exact hz c h2 h3
    · by_cases hc : c = i
      · subst hc; simp [tk_set]
      · simp [tk_set, hc]
        exact hs c h2 (by omega)
  · rintro ρ μ' ⟨r0, r1, hf, hz, hs⟩ X
    simp [tk_fn, tk_env, tk_sq, tk_sk, tk_if, tk_re, tk_rez, tk_rev, tk_xp, tk_se, tk_pf, tk_pfz, tk_pfo, tk_as, tk_asz, tk_asb, tk_aso, tk_cpy, tk_sw, tk_swc, tk_lit, tk_loc, tk_u1, tk_bin, tk_dv, tk_gf, tk_gr, tk_gn, tk_ald, tk_aldq, tk_aln, tk_unl, tk_una, tk_ter, tk_args, tk_cs, tk_cv, tk_ceq, tk_cne, tk_clt, tk_cge, tk_cgt, tk_cle, tk_zeq, tk_zne, tk_zlt, tk_zge, tk_zgt, tk_zle, tk_and, tk_or, tk_not, tk_ct2, tk_isC, List.headD_cons, tk_up, tk_sca, tk_scl, r0, r1]
    refine tk_for (μ 96 1) (fun i ρ μ' => ρ 0 = 96 ∧ ρ 1 = i ∧ tk_f1 116 120 μ μ' ∧ (∀ c : Int, 0 ≤ c → c < 6 → μ' 116 c = tk_V (tk_mv μ) c ∧ μ' 117 c = tk_isu (tk_mv μ) c) ∧ ∀ a : Int, 0 ≤ a → a < 8 → μ' 119 a = 0 ∧ μ' 120 a = tk_hdp (tk_mv μ) a i) g2.1 ⟨r0, rfl, hf, hz, hs⟩ ?_ ?_
    · rintro j ρ μ' hj0 hj6 ⟨r0, r1, hf, hz, hs⟩ K hK
      have j1 : tk_iadd j 1 = j + 1 := tk_iadd_id (by omega) (by omega)
      have e96 : μ' 96 1 = μ 96 1 := hf _ _ (by omega)
      have e97 : μ' 97 j = μ 97 j := hf _ _ (by omega)
      have e99 : μ' 99 j = μ 99 j := hf _ _ (by omega)
      have hT : tk_mv μ' = tk_mv μ := tk_mv_f1 hf (by omega)
      have hg := g j hj0 hj6
      have h24 : j < 24 := by omega
      have hvs : ∀ a : Int, tk_hdp (tk_mv μ) a (j + 1) = tk_hdp (tk_mv μ) a j + (if μ 99 j = a then tk_Wt (tk_mv μ) j else 0) := fun c => tk_sm_s hj0
      by_cases hn : 0 ≤ μ 99 j ∧ μ 99 j ≤ 7
      · have hb6 : μ 99 j < 8 := by omega
        simp [tk_fn, tk_env, tk_sq, tk_sk, tk_if, tk_re, tk_rez, tk_rev, tk_xp, tk_se, tk_pf, tk_pfz, tk_pfo, tk_as, tk_asz, tk_asb, tk_aso, tk_cpy, tk_sw, tk_swc, tk_lit, tk_loc, tk_u1, tk_bin, tk_dv, tk_gf, tk_gr, tk_gn, tk_ald, tk_aldq, tk_aln, tk_unl, tk_una, tk_ter, tk_args, tk_cs, tk_cv, tk_ceq, tk_cne, tk_clt, tk_cge, tk_cgt, tk_cle, tk_zeq, tk_zne, tk_zlt, tk_zge, tk_zgt, tk_zle, tk_and, tk_or, tk_not, tk_ct2, tk_isC, List.headD_cons, tk_up, tk_sca, tk_scl, r0, r1, hj0, hj6, h24, tk_al_2, tk_al_3, tk_al_4, tk_al_5, tk_al_6, tk_al_7, tk_al_8, tk_al_9, tk_al_10, tk_al_11, tk_al_13, tk_al_14, tk_al_16, tk_al_17, tk_al_19, tk_al_20, tk_al_22, tk_al_24, tk_al_25, tk_al_26, tk_al_27, tk_al_28, tk_al_29, tk_al_30, tk_al_32, tk_al_33, tk_al_34, tk_al_35, tk_al_36, tk_al_37, tk_al_38, tk_al_39, tk_al_40, tk_al_41, tk_al_43, tk_al_44, tk_al_46, tk_al_47, tk_al_49, tk_al_50, tk_al_52, tk_al_54, tk_al_55, tk_al_56, tk_al_57, tk_al_58, tk_al_59, tk_al_60, tk_al_62, tk_al_63, tk_al_64, tk_al_65, tk_al_66, tk_al_67, tk_al_68, tk_al_69, tk_al_70, tk_al_71, tk_al_73, tk_al_74, tk_al_76, tk_al_77, tk_al_79, tk_al_80, tk_al_81, tk_al_83, tk_al_85, tk_al_87, tk_al_89, tk_al_91, tk_al_93, tk_al_95, tk_al_97, tk_al_98, tk_al_99, tk_al_100, tk_al_101, tk_al_102, tk_al_103, tk_al_104, tk_al_105, tk_al_106, tk_al_107, tk_al_108, tk_al_109, tk_al_110, tk_al_111, tk_al_112, tk_al_113, tk_al_114, tk_al_115, tk_al_116, tk_al_117, tk_al_118, tk_al_119, tk_al_120, tk_al_121, tk_al_122, tk_al_123, tk_al_124, tk_al_125, tk_al_126, tk_al_127, tk_al_128, tk_al_129, j1, e96, e99, m_in, tk_bo_0, hn.1, hn.2, hb6]
        refine m_worthOf (v := tk_V (tk_mv μ)) (by rw [hT]; exact h0) (by rw [hT]; exact h1) ⟨hj0, by omega⟩ (fun c h2 h3 => by rw [hT]; exact (hz c h2 h3).2) (by rw [e97]; exact (hz _ hg.1.1 (by omega)).1) (by rw [e97]; exact hV _ hg.1.1) ?_
        rw [hT]
        have hwb := tk_Wt_bd h0 h1 h7 (t := j) ⟨hj0, hj6⟩ (fun z => by have z2 : μ 99 j = -5 := z; omega)
        have hsb2 := hhb (μ 99 j) j hn.1 ⟨hj0, by omega⟩
        have hs2 := hs (μ 99 j) hn.1 hb6
        have hww : tk_wo (tk_mv μ) (tk_V (tk_mv μ)) j = tk_Wt (tk_mv μ) j := rfl
        rw [hs2.2, hww, tk_ladd_id (by omega) (by omega)]
        refine hK _ _ ⟨r0, rfl, tk_f1_s hf (by omega), fun c h2 h3 => ?_, fun c h2 h3 => ?_⟩
        · simp [tk_set]
          exact hz c h2 h3
        · rw [hvs, tk_set_o (by omega)]
          refine ⟨(hs c h2 h3).1, ?_⟩
          by_cases hc : c = μ 99 j
          · subst hc
            rw [tk_set_eq, if_pos rfl]
          · rw [tk_set_j hc, if_neg (fun z => hc z.symm), (hs c h2 h3).2]
            omega
      · simp [tk_fn, tk_env, tk_sq, tk_sk, tk_if, tk_re, tk_rez, tk_rev, tk_xp, tk_se, tk_pf, tk_pfz, tk_pfo, tk_as, tk_asz, tk_asb, tk_aso, tk_cpy, tk_sw, tk_swc, tk_lit, tk_loc, tk_u1, tk_bin, tk_dv, tk_gf, tk_gr, tk_gn, tk_ald, tk_aldq, tk_aln, tk_unl, tk_una, tk_ter, tk_args, tk_cs, tk_cv, tk_ceq, tk_cne, tk_clt, tk_cge, tk_cgt, tk_cle, tk_zeq, tk_zne, tk_zlt, tk_zge, tk_zgt, tk_zle, tk_and, tk_or, tk_not, tk_ct2, tk_isC, List.headD_cons, tk_up, tk_sca, tk_scl, r0, r1, hj0, hj6, h24, tk_al_2, tk_al_3, tk_al_4, tk_al_5, tk_al_6, tk_al_7, tk_al_8, tk_al_9, tk_al_10, tk_al_11, tk_al_13, tk_al_14, tk_al_16, tk_al_17, tk_al_19, tk_al_20, tk_al_22, tk_al_24, tk_al_25, tk_al_26, tk_al_27, tk_al_28, tk_al_29, tk_al_30, tk_al_32, tk_al_33, tk_al_34, tk_al_35, tk_al_36, tk_al_37, tk_al_38, tk_al_39, tk_al_40, tk_al_41, tk_al_43, tk_al_44, tk_al_46, tk_al_47, tk_al_49, tk_al_50, tk_al_52, tk_al_54, tk_al_55, tk_al_56, tk_al_57, tk_al_58, tk_al_59, tk_al_60, tk_al_62, tk_al_63, tk_al_64, tk_al_65, tk_al_66, tk_al_67, tk_al_68, tk_al_69, tk_al_70, tk_al_71, tk_al_73, tk_al_74, tk_al_76, tk_al_77, tk_al_79, tk_al_80, tk_al_81, tk_al_83, tk_al_85, tk_al_87, tk_al_89, tk_al_91, tk_al_93, tk_al_95, tk_al_97, tk_al_98, tk_al_99, tk_al_100, tk_al_101, tk_al_102, tk_al_103, tk_al_104, tk_al_105, tk_al_106, tk_al_107, tk_al_108, tk_al_109, tk_al_110, tk_al_111, tk_al_112, tk_al_113, tk_al_114, tk_al_115, tk_al_116, tk_al_117, tk_al_118, tk_al_119, tk_al_120, tk_al_121, tk_al_122, tk_al_123, tk_al_124, tk_al_125, tk_al_126, tk_al_127, tk_al_128, tk_al_129, j1, e96, e99, m_in, tk_bo_0, hn, -not_and]
        refine hK _ _ ⟨r0, rfl, hf, hz, fun c h2 h3 => ⟨(hs c h2 h3).1, ?_⟩⟩
        rw [hvs, if_neg (by omega), (hs c h2 h3).2]
        omega
    · rintro ρ μ' ⟨r0, r1, hf, hz, hs⟩ X
      have e96 : μ' 96 1 = μ 96 1 := hf _ _ (by omega)
      simp [tk_fn, tk_env, tk_sq, tk_sk, tk_if, tk_re, tk_rez, tk_rev, tk_xp, tk_se, tk_pf, tk_pfz, tk_pfo, tk_as, tk_asz, tk_asb, tk_aso, tk_cpy, tk_sw, tk_swc, tk_lit, tk_loc, tk_u1, tk_bin, tk_dv, tk_gf, tk_gr, tk_gn, tk_ald, tk_aldq, tk_aln, tk_unl, tk_una, tk_ter, tk_args, tk_cs, tk_cv, tk_ceq, tk_cne, tk_clt, tk_cge, tk_cgt, tk_cle, tk_zeq, tk_zne, tk_zlt, tk_zge, tk_zgt, tk_zle, tk_and, tk_or, tk_not, tk_ct2, tk_isC, List.headD_cons, tk_up, tk_sca, tk_scl, r0, r1, e96]
      refine tk_for (μ 96 5) (fun i ρ μ' => ρ 0 = 96 ∧ ρ 1 = i ∧ tk_f1 116 120 μ μ' ∧ (∀ c : Int, 0 ≤ c → c < 6 → μ' 116 c = tk_V (tk_mv μ) c ∧ μ' 117 c = tk_isu (tk_mv μ) c) ∧ ∀ a : Int, 0 ≤ a → a < 8 → μ' 120 a = tk_hd (tk_mv μ) a ∧ μ' 119 a = tk_shp (tk_mv μ) a i) g3.1 ⟨r0, rfl, hf, hz, fun a h2 h3 => ⟨(hs a h2 h3).2, (hs a h2 h3).1⟩⟩ ?_ ?_
      · rintro c ρ μ' hc0 hc6 ⟨r0, r1, hf, hz, hs⟩ K hK
        have j1 : tk_iadd c 1 = c + 1 := tk_iadd_id (by omega) (by omega)
        have e965 : μ' 96 5 = μ 96 5 := hf _ _ (by omega)
        simp [tk_fn, tk_env, tk_sq, tk_sk, tk_if, tk_re, tk_rez, tk_rev, tk_xp, tk_se, tk_pf, tk_pfz, tk_pfo, tk_as, tk_asz, tk_asb, tk_aso, tk_cpy, tk_sw, tk_swc, tk_lit, tk_loc, tk_u1, tk_bin, tk_dv, tk_gf, tk_gr, tk_gn, tk_ald, tk_aldq, tk_aln, tk_unl, tk_una, tk_ter, tk_args, tk_cs, tk_cv, tk_ceq, tk_cne, tk_clt, tk_cge, tk_cgt, tk_cle, tk_zeq, tk_zne, tk_zlt, tk_zge, tk_zgt, tk_zle, tk_and, tk_or, tk_not, tk_ct2, tk_isC, List.headD_cons, tk_up, tk_sca, tk_scl, r0, r1, hc6, e965]
        refine tk_loop (fun m ρ μ' => ∃ k : Nat, m + k = 8 ∧ ρ 0 = 96 ∧ ρ 1 = c ∧ ρ 2 = tk_pth (tk_mv μ) c k ∧ tk_f1 116 120 μ μ' ∧ (∀ c : Int, 0 ≤ c → c < 6 → μ' 116 c = tk_V (tk_mv μ) c ∧ μ' 117 c = tk_isu (tk_mv μ) c) ∧ ∀ a : Int, 0 ≤ a → a < 8 → μ' 120 a = tk_hd (tk_mv μ) a ∧ μ' 119 a = tk_shp (tk_mv μ) a c + tk_ln (tk_mv μ) c a k) ?_ 8 ⟨0, rfl, r0, r1, rfl, hf, hz, fun a h2 h3 => ⟨(hs a h2 h3).1, by rw [(hs a h2 h3).2]; exact (Int.add_zero _).symm⟩⟩
        rintro m ρ μ' ⟨k, hmk, r0, r1, r2, hf, hz, hs⟩ K2 hK2
        have hpi := hpin c ⟨hc0, hc6⟩ k
        by_cases hp : 0 ≤ tk_pth (tk_mv μ) c k
        · have hk7 := hrk c ⟨hc0, hc6⟩ k hp
          have hp8 : tk_pth (tk_mv μ) c k < μ 96 5 := by omega
          have hp9 : tk_pth (tk_mv μ) c k < 8 := by omega
          have hc8 : c < 8 := by omega
          have hs1 := hs (tk_pth (tk_mv μ) c k) hp hp9
          have hs2 := (hs c hc0 hc8).1
          have hb1 := hshb (tk_pth (tk_mv μ) c k) c hc0
          have hb2 := hlb c hc0 (tk_pth (tk_mv μ) c k) k
          have hb3 := hhb c (μ 96 1) hc0 ⟨g2.1, Int.le_refl _⟩
          have hb4 : tk_hdp (tk_mv μ) c (μ 96 1) = tk_hd (tk_mv μ) c := rfl
          have e105 : μ' 105 (tk_pth (tk_mv μ) c k) = μ 105 (tk_pth (tk_mv μ) c k) := hf _ _ (by omega)
          have l1 : tk_ladd (tk_shp (tk_mv μ) (tk_pth (tk_mv μ) c k) c + tk_ln (tk_mv μ) c (tk_pth (tk_mv μ) c k) k) (tk_hd (tk_mv μ) c) = tk_shp (tk_mv μ) (tk_pth (tk_mv μ) c k) c + tk_ln (tk_mv μ) c (tk_pth (tk_mv μ) c k) k + tk_hd (tk_mv μ) c := tk_ladd_id (by omega) (by omega)
          have hln : ∀ a : Int, tk_ln (tk_mv μ) c a (k + 1) = tk_ln (tk_mv μ) c a k + (if tk_pth (tk_mv μ) c k = a then tk_hd (tk_mv μ) c else 0) := fun a => rfl
          have hpth : tk_pth (tk_mv μ) c (k + 1) = μ 105 (tk_pth (tk_mv μ) c k) := by
            have e : tk_pth (tk_mv μ) c (k + 1) = if 0 ≤ tk_pth (tk_mv μ) c k then μ 105 (tk_pth (tk_mv μ) c k) else -5 := rfl
            rw [e, if_pos hp]
          simp [tk_fn, tk_env, tk_sq, tk_sk, tk_if, tk_re, tk_rez, tk_rev, tk_xp, tk_se, tk_pf, tk_pfz, tk_pfo, tk_as, tk_asz, tk_asb, tk_aso, tk_cpy, tk_sw, tk_swc, tk_lit, tk_loc, tk_u1, tk_bin, tk_dv, tk_gf, tk_gr, tk_gn, tk_ald, tk_aldq, tk_aln, tk_unl, tk_una, tk_ter, tk_args, tk_cs, tk_cv, tk_ceq, tk_cne, tk_clt, tk_cge, tk_cgt, tk_cle, tk_zeq, tk_zne, tk_zlt, tk_zge, tk_zgt, tk_zle, tk_and, tk_or, tk_not, tk_ct2, tk_isC, List.headD_cons, tk_up, tk_sca, tk_scl, r0, r1, r2, hp, hp9, hc0, hc8, tk_al_2, tk_al_3, tk_al_4, tk_al_5, tk_al_6, tk_al_7, tk_al_8, tk_al_9, tk_al_10, tk_al_11, tk_al_13, tk_al_14, tk_al_16, tk_al_17, tk_al_19, tk_al_20, tk_al_22, tk_al_24, tk_al_25, tk_al_26, tk_al_27, tk_al_28, tk_al_29, tk_al_30, tk_al_32, tk_al_33, tk_al_34, tk_al_35, tk_al_36, tk_al_37, tk_al_38, tk_al_39, tk_al_40, tk_al_41, tk_al_43, tk_al_44, tk_al_46, tk_al_47, tk_al_49, tk_al_50, tk_al_52, tk_al_54, tk_al_55, tk_al_56, tk_al_57, tk_al_58, tk_al_59, tk_al_60, tk_al_62, tk_al_63, tk_al_64, tk_al_65, tk_al_66, tk_al_67, tk_al_68, tk_al_69, tk_al_70, tk_al_71, tk_al_73, tk_al_74, tk_al_76, tk_al_77, tk_al_79, tk_al_80, tk_al_81, tk_al_83, tk_al_85, tk_al_87, tk_al_89, tk_al_91, tk_al_93, tk_al_95, tk_al_97, tk_al_98, tk_al_99, tk_al_100, tk_al_101, tk_al_102, tk_al_103, tk_al_104, tk_al_105, tk_al_106, tk_al_107, tk_al_108, tk_al_109, tk_al_110, tk_al_111, tk_al_112, tk_al_113, tk_al_114, tk_al_115, tk_al_116, tk_al_117, tk_al_118, tk_al_119, tk_al_120, tk_al_121, tk_al_122, tk_al_123, tk_al_124, tk_al_125, tk_al_126, tk_al_127, tk_al_128, tk_al_129, hs1.2, hs2, l1, tk_set_o, e105]
          refine hK2 (m - 1) _ _ (by omega) ⟨k + 1, by omega, r0, r1, hpth.symm, tk_f1_s hf (by omega), fun c h2 h3 => ?_, fun a h2 h3 => ?_⟩
          · rw [tk_set_o (by omega), tk_set_o (by omega)]
            exact hz c h2 h3
          · rw [tk_set_o (by omega), hln]
            refine ⟨(hs a h2 h3).1, ?_⟩
            by_cases ha : a = tk_pth (tk_mv μ) c k
            · subst ha
              rw [tk_set_eq, if_pos rfl]
              omega
            · rw [tk_set_j ha, if_neg (fun z => ha z.symm), (hs a h2 h3).2]
              omega
        · simp [tk_fn, tk_env, tk_sq, tk_sk, tk_if, tk_re, tk_rez, tk_rev, tk_xp, tk_se, tk_pf, tk_pfz, tk_pfo, tk_as, tk_asz, tk_asb, tk_aso, tk_cpy, tk_sw, tk_swc, tk_lit, tk_loc, tk_u1, tk_bin, tk_dv, tk_gf, tk_gr, tk_gn, tk_ald, tk_aldq, tk_aln, tk_unl, tk_una, tk_ter, tk_args, tk_cs, tk_cv, tk_ceq, tk_cne, tk_clt, tk_cge, tk_cgt, tk_cle, tk_zeq, tk_zne, tk_zlt, tk_zge, tk_zgt, tk_zle, tk_and, tk_or, tk_not, tk_ct2, tk_isC, List.headD_cons, tk_up, tk_sca, tk_scl, r0, r1, r2, hp, j1]
          refine hK _ _ ⟨r0, rfl, hf, hz, fun a h2 h3 => ⟨(hs a h2 h3).1, ?_⟩⟩
          rw [(hs a h2 h3).2, tk_ln_end (k := k) h2 (by omega) (by omega)]
          exact (tk_sm_s hc0).symm
      · rintro ρ μ' ⟨r0, r1, hf, hz, hs⟩ X
        have e965 : μ' 96 5 = μ 96 5 := hf _ _ (by omega)
        simp [tk_fn, tk_env, tk_sq, tk_sk, tk_if, tk_re, tk_rez, tk_rev, tk_xp, tk_se, tk_pf, tk_pfz, tk_pfo, tk_as, tk_asz, tk_asb, tk_aso, tk_cpy, tk_sw, tk_swc, tk_lit, tk_loc, tk_u1, tk_bin, tk_dv, tk_gf, tk_gr, tk_gn, tk_ald, tk_aldq, tk_aln, tk_unl, tk_una, tk_ter, tk_args, tk_cs, tk_cv, tk_ceq, tk_cne, tk_clt, tk_cge, tk_cgt, tk_cle, tk_zeq, tk_zne, tk_zlt, tk_zge, tk_zgt, tk_zle, tk_and, tk_or, tk_not, tk_ct2, tk_isC, List.headD_cons, tk_up, tk_sca, tk_scl, r0, r1, e965]
        exact hQ _ hf ⟨hz, fun a h2 h3 => (hs a h2 h3).2⟩
