/-! ===== Layer 2: the first of some rows ===== -/
def tk_ff (n : Int) (B : Int → Prop) (r : Int) : Prop := (r = -5 ∧ ∀ k : Int, 0 ≤ k → k < n → ¬ B k) ∨ (0 ≤ r ∧ r < n ∧ B r ∧ ∀ k : Int, 0 ≤ k → k < r → ¬ B k)
theorem tk_ff_u {n : Int} {B : Int → Prop} {r s : Int} (h : tk_ff n B r) (h' : tk_ff n B s) : r = s := by
  rcases h with ⟨rfl, h1⟩ | ⟨a1, a2, a3, a4⟩ <;> rcases h' with ⟨rfl, h2⟩ | ⟨b1, b2, b3, b4⟩
  · rfl
  · exact absurd b3 (h1 s b1 b2)
  · exact absurd a3 (h2 r a1 a2)
  · rcases Int.lt_trichotomy r s with h | h | h
    · exact absurd a3 (b4 r a1 h)
    · exact h
    · exact absurd b3 (a4 s b1 h)
theorem x_looked {μ : tk_M} (hI : tk_II (tk_hv 1 μ)) {Q : Int → tk_M → Prop} (hQ : ∀ r, tk_ff (μ 18 0) (fun k => ¬ μ 7 (μ 19 k) = μ 20 k) r → Q r μ) : tkF_X6_looked [0] Q μ := by
  obtain ⟨b0, b1, b2, b3, b4, b5, b6, b7, b8⟩ := hI
  unfold tk_I0 tk_I6 at *
  simp [tk_hv] at b0 b6
  simp [tk_fn, tk_env, tk_sq, tk_sk, tk_if, tk_re, tk_rez, tk_rev, tk_xp, tk_se, tk_pf, tk_pfz, tk_pfo, tk_as, tk_asz, tk_asb, tk_aso, tk_cpy, tk_sw, tk_swc, tk_lit, tk_loc, tk_u1, tk_bin, tk_dv, tk_gf, tk_gr, tk_gn, tk_ald, tk_aldq, tk_aln, tk_unl, tk_una, tk_ter, tk_args, tk_cs, tk_cv, tk_ceq, tk_cne, tk_clt, tk_cge, tk_cgt, tk_cle, tk_zeq, tk_zne, tk_zlt, tk_zge, tk_zgt, tk_zle, tk_and, tk_or, tk_not, tk_ct2, tk_isC, List.headD_cons, tk_up, tk_sca, tk_scl, tkF_X6_looked, tkS_X6_looked]
  refine tk_loop (fun j ρ μ' => ∃ i : Int, (j : Int) = μ 18 0 - i ∧ 0 ≤ i ∧ i ≤ μ 18 0 ∧ ρ 0 = 0 ∧ ρ 1 = i ∧ μ' = μ ∧ ∀ k : Int, 0 ≤ k → k < i → μ 7 (μ 19 k) = μ 20 k) ?_ (μ 18 0).toNat ?_
  rotate_left
  · exact ⟨0, by omega, by omega, by omega, rfl, rfl, rfl, fun k h1 h2 => by omega⟩
  rintro j ρ μ' ⟨i, h1, h2, h3, r0, r1, rfl, hb⟩ K hK
  by_cases hi : i < μ' 18 0
  · have hw := b6.2 i h2 hi
    have i1 : tk_iadd i 1 = i + 1 := tk_iadd_id (by omega) (by omega)
    have h8 : i < 8 := by omega
    have h9 : μ' 19 i < 8 := by omega
    by_cases hq : μ' 7 (μ' 19 i) = μ' 20 i
    · simp [tk_fn, tk_env, tk_sq, tk_sk, tk_if, tk_re, tk_rez, tk_rev, tk_xp, tk_se, tk_pf, tk_pfz, tk_pfo, tk_as, tk_asz, tk_asb, tk_aso, tk_cpy, tk_sw, tk_swc, tk_lit, tk_loc, tk_u1, tk_bin, tk_dv, tk_gf, tk_gr, tk_gn, tk_ald, tk_aldq, tk_aln, tk_unl, tk_una, tk_ter, tk_args, tk_cs, tk_cv, tk_ceq, tk_cne, tk_clt, tk_cge, tk_cgt, tk_cle, tk_zeq, tk_zne, tk_zlt, tk_zge, tk_zgt, tk_zle, tk_and, tk_or, tk_not, tk_ct2, tk_isC, List.headD_cons, tk_up, tk_sca, tk_scl, r0, r1, hi, h2, i1, tk_al_2, tk_al_3, tk_al_4, tk_al_5, tk_al_6, tk_al_7, tk_al_8, tk_al_9, tk_al_10, tk_al_11, tk_al_13, tk_al_14, tk_al_16, tk_al_17, tk_al_19, tk_al_20, tk_al_22, tk_al_24, tk_al_25, tk_al_26, tk_al_27, tk_al_28, tk_al_29, tk_al_30, tk_al_32, tk_al_33, tk_al_34, tk_al_35, tk_al_36, tk_al_37, tk_al_38, tk_al_39, tk_al_40, tk_al_41, tk_al_43, tk_al_44, tk_al_46, tk_al_47, tk_al_49, tk_al_50, tk_al_52, tk_al_54, tk_al_55, tk_al_56, tk_al_57, tk_al_58, tk_al_59, tk_al_60, tk_al_62, tk_al_63, tk_al_64, tk_al_65, tk_al_66, tk_al_67, tk_al_68, tk_al_69, tk_al_70, tk_al_71, tk_al_73, tk_al_74, tk_al_76, tk_al_77, tk_al_79, tk_al_80, tk_al_81, tk_al_83, tk_al_85, tk_al_87, tk_al_89, tk_al_91, tk_al_93, tk_al_95, tk_al_97, tk_al_98, tk_al_99, tk_al_100, tk_al_101, tk_al_102, tk_al_103, tk_al_104, tk_al_105, tk_al_106, tk_al_107, tk_al_108, tk_al_109, tk_al_110, tk_al_111, tk_al_112, tk_al_113, tk_al_114, tk_al_115, tk_al_116, tk_al_117, tk_al_118, tk_al_119, tk_al_120, tk_al_121, tk_al_122, tk_al_123, tk_al_124, tk_al_125, tk_al_126, tk_al_127, tk_al_128, tk_al_129, h8, h9, x_hasClient, tk_bo_0, hw.1, hw.2, hq]
      refine hK (j - 1) _ _ (by omega) ?_
      refine ⟨i + 1, by omega, by omega, by omega, r0, rfl, rfl, fun k h4 h5 => ?_⟩
      by_cases hk : k = i
      · rw [hk]; exact hq
      · exact hb k h4 (by omega)
    · simp [tk_fn, tk_env, tk_sq, tk_sk, tk_if, tk_re, tk_rez, tk_rev, tk_xp, tk_se, tk_pf, tk_pfz, tk_pfo, tk_as, tk_asz, tk_asb, tk_aso, tk_cpy, tk_sw, tk_swc, tk_lit, tk_loc, tk_u1, tk_bin, tk_dv, tk_gf, tk_gr, tk_gn, tk_ald, tk_aldq, tk_aln, tk_unl, tk_una, tk_ter, tk_args, tk_cs, tk_cv, tk_ceq, tk_cne, tk_clt, tk_cge, tk_cgt, tk_cle, tk_zeq, tk_zne, tk_zlt, tk_zge, tk_zgt, tk_zle, tk_and, tk_or, tk_not, tk_ct2, tk_isC, List.headD_cons, tk_up, tk_sca, tk_scl, r0, r1, hi, h2, i1, tk_al_2, tk_al_3, tk_al_4, tk_al_5, tk_al_6, tk_al_7, tk_al_8, tk_al_9, tk_al_10, tk_al_11, tk_al_13, tk_al_14, tk_al_16, tk_al_17, tk_al_19, tk_al_20, tk_al_22, tk_al_24, tk_al_25, tk_al_26, tk_al_27, tk_al_28, tk_al_29, tk_al_30, tk_al_32, tk_al_33, tk_al_34, tk_al_35, tk_al_36, tk_al_37, tk_al_38, tk_al_39, tk_al_40, tk_al_41, tk_al_43, tk_al_44, tk_al_46, tk_al_47, tk_al_49, tk_al_50, tk_al_52, tk_al_54, tk_al_55, tk_al_56, tk_al_57, tk_al_58, tk_al_59, tk_al_60, tk_al_62, tk_al_63, tk_al_64, tk_al_65, tk_al_66, tk_al_67, tk_al_68, tk_al_69, tk_al_70, tk_al_71, tk_al_73, tk_al_74, tk_al_76, tk_al_77, tk_al_79, tk_al_80, tk_al_81, tk_al_83, tk_al_85, tk_al_87, tk_al_89, tk_al_91, tk_al_93, tk_al_95, tk_al_97, tk_al_98, tk_al_99, tk_al_100, tk_al_101, tk_al_102, tk_al_103, tk_al_104, tk_al_105, tk_al_106, tk_al_107, tk_al_108, tk_al_109, tk_al_110, tk_al_111, tk_al_112, tk_al_113, tk_al_114, tk_al_115, tk_al_116, tk_al_117, tk_al_118, tk_al_119, tk_al_120, tk_al_121, tk_al_122, tk_al_123, tk_al_124, tk_al_125, tk_al_126, tk_al_127, tk_al_128, tk_al_129, h8, h9, x_hasClient, tk_bo_0, hw.1, hw.2, hq]
      exact hQ i (.inr ⟨h2, hi, hq, fun k h4 h5 => not_not_intro (hb k h4 h5)⟩)
  · have : i = μ' 18 0 := by omega
    subst this
    simp [tk_fn, tk_env, tk_sq, tk_sk, tk_if, tk_re, tk_rez, tk_rev, tk_xp, tk_se, tk_pf, tk_pfz, tk_pfo, tk_as, tk_asz, tk_asb, tk_aso, tk_cpy, tk_sw, tk_swc, tk_lit, tk_loc, tk_u1, tk_bin, tk_dv, tk_gf, tk_gr, tk_gn, tk_ald, tk_aldq, tk_aln, tk_unl, tk_una, tk_ter, tk_args, tk_cs, tk_cv, tk_ceq, tk_cne, tk_clt, tk_cge, tk_cgt, tk_cle, tk_zeq, tk_zne, tk_zlt, tk_zge, tk_zgt, tk_zle, tk_and, tk_or, tk_not, tk_ct2, tk_isC, List.headD_cons, tk_up, tk_sca, tk_scl, r0, r1]
    exact hQ (-5) (.inl ⟨rfl, fun k h4 h5 => not_not_intro (hb k h4 h5)⟩)
theorem m_looked {μ : tk_M} (hE : tk_EE (tk_hv 1 μ) (tk_mv μ)) (hI : tk_II (tk_hv 1 μ)) {Q : Int → tk_M → Prop} (hQ : ∀ r, tk_ff (μ 18 0) (fun k => ¬ μ 7 (μ 19 k) = μ 20 k) r → Q r (tk_set μ 96 24 0)) : tkF_X7_looked [96] Q μ := by
  obtain ⟨a1, a2, a3, a4, a5, a6, a7⟩ := hE
  obtain ⟨b0, b1, b2, b3, b4, b5, b6, b7, b8⟩ := hI
  unfold tk_I0 tk_I6 at *
  unfold tk_E2 tk_E6 at *
  simp [tk_hv, tk_mv] at b0 b6 a3 a7
  simp [tk_fn, tk_env, tk_sq, tk_sk, tk_if, tk_re, tk_rez, tk_rev, tk_xp, tk_se, tk_pf, tk_pfz, tk_pfo, tk_as, tk_asz, tk_asb, tk_aso, tk_cpy, tk_sw, tk_swc, tk_lit, tk_loc, tk_u1, tk_bin, tk_dv, tk_gf, tk_gr, tk_gn, tk_ald, tk_aldq, tk_aln, tk_unl, tk_una, tk_ter, tk_args, tk_cs, tk_cv, tk_ceq, tk_cne, tk_clt, tk_cge, tk_cgt, tk_cle, tk_zeq, tk_zne, tk_zlt, tk_zge, tk_zgt, tk_zle, tk_and, tk_or, tk_not, tk_ct2, tk_isC, List.headD_cons, tk_up, tk_sca, tk_scl, tkF_X7_looked, tkS_X7_looked]
  refine tk_loop (fun j ρ μ' => ∃ i : Int, (j : Int) = μ 18 0 - i ∧ 0 ≤ i ∧ i ≤ μ 18 0 ∧ ρ 0 = 96 ∧ ρ 1 = i ∧ μ' = tk_set μ 96 24 0 ∧ ∀ k : Int, 0 ≤ k → k < i → μ 7 (μ 19 k) = μ 20 k) ?_ (μ 18 0).toNat ?_
  rotate_left
  · exact ⟨0, by omega, by omega, by omega, rfl, rfl, rfl, fun k h1 h2 => by omega⟩
  rintro j ρ μ' ⟨i, h1, h2, h3, r0, r1, rfl, hb⟩ K hK
  by_cases hi : i < μ 18 0
  · have hw := b6.2 i h2 hi
    have he := a7.2 i h2 hi
    have he2 := a3 (μ 19 i) hw.1 hw.2
    have i1 : tk_iadd i 1 = i + 1 := tk_iadd_id (by omega) (by omega)
    have h8 : i < 8 := by omega
    have h9 : μ 19 i < 8 := by omega
    by_cases hq : μ 7 (μ 19 i) = μ 20 i
    · simp [tk_fn, tk_env, tk_sq, tk_sk, tk_if, tk_re, tk_rez, tk_rev, tk_xp, tk_se, tk_pf, tk_pfz, tk_pfo, tk_as, tk_asz, tk_asb, tk_aso, tk_cpy, tk_sw, tk_swc, tk_lit, tk_loc, tk_u1, tk_bin, tk_dv, tk_gf, tk_gr, tk_gn, tk_ald, tk_aldq, tk_aln, tk_unl, tk_una, tk_ter, tk_args, tk_cs, tk_cv, tk_ceq, tk_cne, tk_clt, tk_cge, tk_cgt, tk_cle, tk_zeq, tk_zne, tk_zlt, tk_zge, tk_zgt, tk_zle, tk_and, tk_or, tk_not, tk_ct2, tk_isC, List.headD_cons, tk_up, tk_sca, tk_scl, r0, r1, hi, h2, i1, tk_al_2, tk_al_3, tk_al_4, tk_al_5, tk_al_6, tk_al_7, tk_al_8, tk_al_9, tk_al_10, tk_al_11, tk_al_13, tk_al_14, tk_al_16, tk_al_17, tk_al_19, tk_al_20, tk_al_22, tk_al_24, tk_al_25, tk_al_26, tk_al_27, tk_al_28, tk_al_29, tk_al_30, tk_al_32, tk_al_33, tk_al_34, tk_al_35, tk_al_36, tk_al_37, tk_al_38, tk_al_39, tk_al_40, tk_al_41, tk_al_43, tk_al_44, tk_al_46, tk_al_47, tk_al_49, tk_al_50, tk_al_52, tk_al_54, tk_al_55, tk_al_56, tk_al_57, tk_al_58, tk_al_59, tk_al_60, tk_al_62, tk_al_63, tk_al_64, tk_al_65, tk_al_66, tk_al_67, tk_al_68, tk_al_69, tk_al_70, tk_al_71, tk_al_73, tk_al_74, tk_al_76, tk_al_77, tk_al_79, tk_al_80, tk_al_81, tk_al_83, tk_al_85, tk_al_87, tk_al_89, tk_al_91, tk_al_93, tk_al_95, tk_al_97, tk_al_98, tk_al_99, tk_al_100, tk_al_101, tk_al_102, tk_al_103, tk_al_104, tk_al_105, tk_al_106, tk_al_107, tk_al_108, tk_al_109, tk_al_110, tk_al_111, tk_al_112, tk_al_113, tk_al_114, tk_al_115, tk_al_116, tk_al_117, tk_al_118, tk_al_119, tk_al_120, tk_al_121, tk_al_122, tk_al_123, tk_al_124, tk_al_125, tk_al_126, tk_al_127, tk_al_128, tk_al_129, h8, h9, hw.1, hw.2, hq, tk_set_j, tk_set_o, a7.1, he, he2]
      refine hK (j - 1) _ _ (by omega) ?_
      refine ⟨i + 1, by omega, by omega, by omega, r0, rfl, rfl, fun k h4 h5 => ?_⟩
      by_cases hk : k = i
      · rw [hk]; exact hq
      · exact hb k h4 (by omega)
    · simp [tk_fn, tk_env, tk_sq, tk_sk, tk_if, tk_re, tk_rez, tk_rev, tk_xp, tk_se, tk_pf, tk_pfz, tk_pfo, tk_as, tk_asz, tk_asb, tk_aso, tk_cpy, tk_sw, tk_swc, tk_lit, tk_loc, tk_u1, tk_bin, tk_dv, tk_gf, tk_gr, tk_gn, tk_ald, tk_aldq, tk_aln, tk_unl, tk_una, tk_ter, tk_args, tk_cs, tk_cv, tk_ceq, tk_cne, tk_clt, tk_cge, tk_cgt, tk_cle, tk_zeq, tk_zne, tk_zlt, tk_zge, tk_zgt, tk_zle, tk_and, tk_or, tk_not, tk_ct2, tk_isC, List.headD_cons, tk_up, tk_sca, tk_scl, r0, r1, hi, h2, i1, tk_al_2, tk_al_3, tk_al_4, tk_al_5, tk_al_6, tk_al_7, tk_al_8, tk_al_9, tk_al_10, tk_al_11, tk_al_13, tk_al_14, tk_al_16, tk_al_17, tk_al_19, tk_al_20, tk_al_22, tk_al_24, tk_al_25, tk_al_26, tk_al_27, tk_al_28, tk_al_29, tk_al_30, tk_al_32, tk_al_33, tk_al_34, tk_al_35, tk_al_36, tk_al_37, tk_al_38, tk_al_39, tk_al_40, tk_al_41, tk_al_43, tk_al_44, tk_al_46, tk_al_47, tk_al_49, tk_al_50, tk_al_52, tk_al_54, tk_al_55, tk_al_56, tk_al_57, tk_al_58, tk_al_59, tk_al_60, tk_al_62, tk_al_63, tk_al_64, tk_al_65, tk_al_66, tk_al_67, tk_al_68, tk_al_69, tk_al_70, tk_al_71, tk_al_73, tk_al_74, tk_al_76, tk_al_77, tk_al_79, tk_al_80, tk_al_81, tk_al_83, tk_al_85, tk_al_87, tk_al_89, tk_al_91, tk_al_93, tk_al_95, tk_al_97, tk_al_98, tk_al_99, tk_al_100, tk_al_101, tk_al_102, tk_al_103, tk_al_104, tk_al_105, tk_al_106, tk_al_107, tk_al_108, tk_al_109, tk_al_110, tk_al_111, tk_al_112, tk_al_113, tk_al_114, tk_al_115, tk_al_116, tk_al_117, tk_al_118, tk_al_119, tk_al_120, tk_al_121, tk_al_122, tk_al_123, tk_al_124, tk_al_125, tk_al_126, tk_al_127, tk_al_128, tk_al_129, h8, h9, hw.1, hw.2, hq, tk_set_j, tk_set_o, a7.1, he, he2]
      exact hQ i (.inr ⟨h2, hi, hq, fun k h4 h5 => not_not_intro (hb k h4 h5)⟩)
  · have : i = μ 18 0 := by omega
    subst this
    simp [tk_fn, tk_env, tk_sq, tk_sk, tk_if, tk_re, tk_rez, tk_rev, tk_xp, tk_se, tk_pf, tk_pfz, tk_pfo, tk_as, tk_asz, tk_asb, tk_aso, tk_cpy, tk_sw, tk_swc, tk_lit, tk_loc, tk_u1, tk_bin, tk_dv, tk_gf, tk_gr, tk_gn, tk_ald, tk_aldq, tk_aln, tk_unl, tk_una, tk_ter, tk_args, tk_cs, tk_cv, tk_ceq, tk_cne, tk_clt, tk_cge, tk_cgt, tk_cle, tk_zeq, tk_zne, tk_zlt, tk_zge, tk_zgt, tk_zle, tk_and, tk_or, tk_not, tk_ct2, tk_isC, List.headD_cons, tk_up, tk_sca, tk_scl, r0, r1, tk_set_j, tk_set_o, a7.1]
    exact hQ (-5) (.inl ⟨rfl, fun k h4 h5 => not_not_intro (hb k h4 h5)⟩)
theorem c_looked : tk_cp tkF_X6_looked tkF_X7_looked [] := by
  intro μ hR K hK
  refine x_looked hR.2.1 (fun r hr => ?_)
  refine m_looked hR.1 hR.2.1 (fun s hs => ?_)
  rw [tk_ff_u hs hr]
  exact hK _ _ (tk_R_thr hR)
