/-! ===== Layer 2: a Hall's own quanta ===== -/
def tk_up1 (K : Int) : Int := if K = 0 then -1 else if K < 4 then 0 else K - 3
def tk_kd (K k : Int) : Prop := K = k ∨ tk_up1 K = k ∨ (0 < tk_up1 K ∧ tk_up1 (tk_up1 K) = k)
/-- what a quantum of a Hall writes -/
def tk_fx (h : Int) (μ μ' : tk_M) : Prop := ∀ o i : Int, ¬ (o = h + 6 ∨ o = h + 7 ∨ o = h + 8 ∨ o = h + 20 ∨ o = h + 21 ∨ (o = h ∧ (i = 3 ∨ i = 4))) → μ' o i = μ o i
theorem tk_fx_r {h : Int} {μ : tk_M} : tk_fx h μ μ := fun _ _ _ => rfl
theorem tk_fx_t {h : Int} {μ μ' μ'' : tk_M} (h1 : tk_fx h μ μ') (h2 : tk_fx h μ' μ'') : tk_fx h μ μ'' := fun o i ho => by rw [h2 o i ho, h1 o i ho]
theorem tk_fx_s {h o i v : Int} {μ μ' : tk_M} (h1 : tk_fx h μ μ') (ho : o = h + 6 ∨ o = h + 7 ∨ o = h + 8 ∨ o = h + 20 ∨ o = h + 21 ∨ (o = h ∧ (i = 3 ∨ i = 4))) : tk_fx h μ (tk_set μ' o i v) := fun o' j h2 => by
  unfold tk_set
  rw [if_neg (by omega)]
  exact h1 o' j h2
theorem tk_hw_set {h f i v : Int} {μ : tk_M} (hf : 0 ≤ f ∧ f ≤ 19) : tk_hw h (tk_set μ (h + f) i v) = tk_set (tk_hw h μ) f i v := by
  funext f' j
  unfold tk_hw tk_set
  by_cases h1 : f' = f
  · subst h1
    simp [hf]
  · have h2 : ¬ h + f' = h + f := by omega
    simp [h1, h2]
theorem tk_hw_oth {h o i v : Int} {μ : tk_M} (ho : ¬ (h ≤ o ∧ o ≤ h + 19)) : tk_hw h (tk_set μ o i v) = tk_hw h μ := by
  funext f' j
  unfold tk_hw tk_set
  by_cases h1 : 0 ≤ f' ∧ f' ≤ 19
  · rw [if_pos h1, if_pos h1, if_neg (by omega)]
  · rw [if_neg h1, if_neg h1]
theorem tk_mx_id (x y : Int) : tk_mx x y = if x < y then y else x := rfl
theorem x_hJ1 {b : Int} {μ : tk_M} (hJ : tk_J b (tk_hw 1 μ)) : (0 ≤ μ 1 2 ∧ μ 1 2 ≤ 8) ∧ (0 ≤ μ 1 3 ∧ μ 1 3 ≤ b) ∧ (0 ≤ μ 1 4 ∧ μ 1 4 ≤ μ 1 3 + 1) ∧ (∀ c : Int, 0 ≤ c → c < μ 1 2 → (0 ≤ μ 5 c ∧ μ 5 c ≤ 6) ∧ (0 ≤ μ 6 c ∧ μ 6 c ≤ 9) ∧ (0 ≤ μ 7 c ∧ μ 7 c ≤ μ 1 3) ∧ (1 ≤ μ 8 c ∧ μ 8 c ≤ 10) ∧ (0 ≤ μ 9 c ∧ μ 9 c ≤ 2147483647) ∧ (μ 10 c = -5 ∨ (0 ≤ μ 10 c ∧ μ 10 c < μ 1 2))) ∧ (∀ k : Int, 0 ≤ k → k < 4 * μ 1 2 → 0 ≤ μ 11 k ∧ μ 11 k ≤ 9) := hJ
theorem x_isOf1 {μ : tk_M} {Q : Int → tk_M → Prop} {c k : Int} (hc : 0 ≤ c ∧ c < 8) (hK : 0 ≤ μ 5 c ∧ μ 5 c ≤ 6) (hk : 0 ≤ k) (h1 : tk_kd (μ 5 c) k → Q 1 μ) (h0 : ¬ tk_kd (μ 5 c) k → Q 0 μ) : tkF_X2_isOf [1, c, k] Q μ := by
  have a0 : tk_iadd 0 1 = 1 := tk_iadd_id (by omega) (by omega)
  have a1 : tk_iadd 1 1 = 2 := tk_iadd_id (by omega) (by omega)
  have a2 : tk_iadd 2 1 = 3 := tk_iadd_id (by omega) (by omega)
  have hk2 : μ 5 c = 0 ∨ μ 5 c = 1 ∨ μ 5 c = 2 ∨ μ 5 c = 3 ∨ μ 5 c = 4 ∨ μ 5 c = 5 ∨ μ 5 c = 6 := by omega
  have hm : ¬ (-1 : Int) = k := by omega
  rcases hk2 with e | e | e | e | e | e | e <;> (
    rw [e] at h1 h0
    simp [tk_kd, tk_up1, hm] at h1 h0
    simp [tk_fn, tk_env, tk_sq, tk_sk, tk_if, tk_re, tk_rez, tk_rev, tk_xp, tk_se, tk_pf, tk_pfz, tk_pfo, tk_as, tk_asz, tk_asb, tk_aso, tk_cpy, tk_sw, tk_swc, tk_lit, tk_loc, tk_u1, tk_bin, tk_dv, tk_gf, tk_gr, tk_gn, tk_ald, tk_aldq, tk_aln, tk_unl, tk_una, tk_ter, tk_args, tk_cs, tk_cv, tk_ceq, tk_cne, tk_clt, tk_cge, tk_cgt, tk_cle, tk_zeq, tk_zne, tk_zlt, tk_zge, tk_zgt, tk_zle, tk_and, tk_or, tk_not, tk_ct2, tk_isC, List.headD_cons, tk_up, tk_sca, tk_scl, tkF_X2_isOf, tkS_X2_isOf, tk_al_2, tk_al_3, tk_al_4, tk_al_5, tk_al_6, tk_al_7, tk_al_8, tk_al_9, tk_al_10, tk_al_11, tk_al_13, tk_al_14, tk_al_16, tk_al_17, tk_al_19, tk_al_20, tk_al_22, tk_al_24, tk_al_25, tk_al_26, tk_al_27, tk_al_28, tk_al_29, tk_al_30, tk_al_32, tk_al_33, tk_al_34, tk_al_35, tk_al_36, tk_al_37, tk_al_38, tk_al_39, tk_al_40, tk_al_41, tk_al_43, tk_al_44, tk_al_46, tk_al_47, tk_al_49, tk_al_50, tk_al_52, tk_al_54, tk_al_55, tk_al_56, tk_al_57, tk_al_58, tk_al_59, tk_al_60, tk_al_62, tk_al_63, tk_al_64, tk_al_65, tk_al_66, tk_al_67, tk_al_68, tk_al_69, tk_al_70, tk_al_71, tk_al_73, tk_al_74, tk_al_76, tk_al_77, tk_al_79, tk_al_80, tk_al_81, tk_al_83, tk_al_85, tk_al_87, tk_al_89, tk_al_91, tk_al_93, tk_al_95, tk_al_97, tk_al_98, tk_al_99, tk_al_100, tk_al_101, tk_al_102, tk_al_103, tk_al_104, tk_al_105, tk_al_106, tk_al_107, tk_al_108, tk_al_109, tk_al_110, tk_al_111, tk_al_112, tk_al_113, tk_al_114, tk_al_115, tk_al_116, tk_al_117, tk_al_118, tk_al_119, tk_al_120, tk_al_121, tk_al_122, tk_al_123, tk_al_124, tk_al_125, tk_al_126, tk_al_127, tk_al_128, tk_al_129, hc.1, hc.2, e]
    refine ⟨4, ?_⟩
    simp [tk_wN, tk_fn, tk_env, tk_sq, tk_sk, tk_if, tk_re, tk_rez, tk_rev, tk_xp, tk_se, tk_pf, tk_pfz, tk_pfo, tk_as, tk_asz, tk_asb, tk_aso, tk_cpy, tk_sw, tk_swc, tk_lit, tk_loc, tk_u1, tk_bin, tk_dv, tk_gf, tk_gr, tk_gn, tk_ald, tk_aldq, tk_aln, tk_unl, tk_una, tk_ter, tk_args, tk_cs, tk_cv, tk_ceq, tk_cne, tk_clt, tk_cge, tk_cgt, tk_cle, tk_zeq, tk_zne, tk_zlt, tk_zge, tk_zgt, tk_zle, tk_and, tk_or, tk_not, tk_ct2, tk_isC, List.headD_cons, tk_up, tk_sca, tk_scl, a0, a1, a2, tk_un]
    repeat' split
    all_goals first | exact h1 (by omega) | exact h0 (by omega) | exact h0 (by omega) (by omega) | exact h0 (by omega) (by omega) (by omega))
theorem x_burst1 {b : Int} {μ : tk_M} {Q : Int → tk_M → Prop} (hJ : tk_J b (tk_hw 1 μ)) (hbb : b ≤ 1000000) (hQ : Q (tk_bu (tk_hw 1 μ)) μ) : tkF_X2_burstParts [1] Q μ := by
  obtain ⟨g1, g2, g3, g4, g5⟩ := x_hJ1 hJ
  have hd := tk_ediv_le (x := μ 1 3) (y := 10) g2.1 (by omega)
  have l1 : tk_idiv (μ 1 3) 10 = μ 1 3 / 10 := tk_idiv_id (by omega) (by omega)
  have l2 : tk_irem (μ 1 3 / 10) 2 = μ 1 3 / 10 % 2 := tk_irem_id (by omega) (by omega)
  have e : tk_bu (tk_hw 1 μ) = if μ 1 3 / 10 % 2 = 1 then 5 else 10 := rfl
  rw [e] at hQ
  by_cases hq : μ 1 3 / 10 % 2 = 1
  · rw [if_pos hq] at hQ
    simp [tk_fn, tk_env, tk_sq, tk_sk, tk_if, tk_re, tk_rez, tk_rev, tk_xp, tk_se, tk_pf, tk_pfz, tk_pfo, tk_as, tk_asz, tk_asb, tk_aso, tk_cpy, tk_sw, tk_swc, tk_lit, tk_loc, tk_u1, tk_bin, tk_dv, tk_gf, tk_gr, tk_gn, tk_ald, tk_aldq, tk_aln, tk_unl, tk_una, tk_ter, tk_args, tk_cs, tk_cv, tk_ceq, tk_cne, tk_clt, tk_cge, tk_cgt, tk_cle, tk_zeq, tk_zne, tk_zlt, tk_zge, tk_zgt, tk_zle, tk_and, tk_or, tk_not, tk_ct2, tk_isC, List.headD_cons, tk_up, tk_sca, tk_scl, tkF_X2_burstParts, tkS_X2_burstParts, l1, l2, hq]
    exact hQ
  · rw [if_neg hq] at hQ
    simp [tk_fn, tk_env, tk_sq, tk_sk, tk_if, tk_re, tk_rez, tk_rev, tk_xp, tk_se, tk_pf, tk_pfz, tk_pfo, tk_as, tk_asz, tk_asb, tk_aso, tk_cpy, tk_sw, tk_swc, tk_lit, tk_loc, tk_u1, tk_bin, tk_dv, tk_gf, tk_gr, tk_gn, tk_ald, tk_aldq, tk_aln, tk_unl, tk_una, tk_ter, tk_args, tk_cs, tk_cv, tk_ceq, tk_cne, tk_clt, tk_cge, tk_cgt, tk_cle, tk_zeq, tk_zne, tk_zlt, tk_zge, tk_zgt, tk_zle, tk_and, tk_or, tk_not, tk_ct2, tk_isC, List.headD_cons, tk_up, tk_sca, tk_scl, tkF_X2_burstParts, tkS_X2_burstParts, l1, l2, hq]
    exact hQ
theorem x_partsOf1 {b : Int} {μ : tk_M} {Q : Int → tk_M → Prop} {c : Int} (hJ : tk_J b (tk_hw 1 μ)) (hbb : b ≤ 1000000) (hc : 0 ≤ c ∧ c < μ 1 2) (hQ : Q (tk_prt (tk_hw 1 μ) c) μ) : tkF_X2_partsOf [1, c] Q μ := by
  obtain ⟨g1, g2, g3, g4, g5⟩ := x_hJ1 hJ
  have h := (g4 c hc.1 hc.2)
  have h8 : c < 8 := by omega
  have l3 : tk_irem (μ 1 3) 4 = μ 1 3 % 4 := tk_irem_id (by omega) (by omega)
  have hm : 0 ≤ μ 1 3 % 4 ∧ μ 1 3 % 4 < 4 := ⟨Int.emod_nonneg _ (by omega), Int.emod_lt_of_pos _ (by omega)⟩
  have l4 : tk_imul c 4 = 4 * c := by rw [tk_imul_id (by omega) (by omega)]; omega
  have l5 : tk_iadd (4 * c) (μ 1 3 % 4) = 4 * c + μ 1 3 % 4 := tk_iadd_id (by omega) (by omega)
  have l6 : tk_iadd (μ 6 c) 1 = μ 6 c + 1 := tk_iadd_id (by omega) (by omega)
  have l7 : tk_isub 10 (μ 6 c) = 10 - μ 6 c := tk_isub_id (by omega) (by omega)
  have l8 : tk_idiv (μ 6 c + 1) 2 = (μ 6 c + 1) / 2 := tk_idiv_id (by omega) (by omega)
  have hr := g5 (4 * c + μ 1 3 % 4) (by omega) (by omega)
  have h32 : 4 * c + μ 1 3 % 4 < 32 := by omega
  have h30 : 0 ≤ 4 * c + μ 1 3 % 4 := by omega
  have hbu : tk_bu (tk_hw 1 μ) = 5 ∨ tk_bu (tk_hw 1 μ) = 10 := by unfold tk_bu; split <;> simp
  have hp : tk_prt (tk_hw 1 μ) c = if μ 5 c = 1 then μ 6 c + 1 else if μ 5 c = 3 then tk_bu (tk_hw 1 μ) else if μ 5 c = 4 then tk_mx1 ((μ 6 c + 1) / 2) else if μ 5 c = 5 then 10 - μ 6 c else if μ 5 c = 6 then tk_mx1 (tk_bu (tk_hw 1 μ) - μ 11 (4 * c + μ 1 3 % 4)) else 10 := rfl
  rw [hp] at hQ
  have hk : μ 5 c = 0 ∨ μ 5 c = 1 ∨ μ 5 c = 2 ∨ μ 5 c = 3 ∨ μ 5 c = 4 ∨ μ 5 c = 5 ∨ μ 5 c = 6 := by omega
  rcases hk with hk | hk | hk | hk | hk | hk | hk
  · simp [hk] at hQ
    simp [tk_fn, tk_env, tk_sq, tk_sk, tk_if, tk_re, tk_rez, tk_rev, tk_xp, tk_se, tk_pf, tk_pfz, tk_pfo, tk_as, tk_asz, tk_asb, tk_aso, tk_cpy, tk_sw, tk_swc, tk_lit, tk_loc, tk_u1, tk_bin, tk_dv, tk_gf, tk_gr, tk_gn, tk_ald, tk_aldq, tk_aln, tk_unl, tk_una, tk_ter, tk_args, tk_cs, tk_cv, tk_ceq, tk_cne, tk_clt, tk_cge, tk_cgt, tk_cle, tk_zeq, tk_zne, tk_zlt, tk_zge, tk_zgt, tk_zle, tk_and, tk_or, tk_not, tk_ct2, tk_isC, List.headD_cons, tk_up, tk_sca, tk_scl, tkF_X2_partsOf, tkS_X2_partsOf, tk_al_2, tk_al_3, tk_al_4, tk_al_5, tk_al_6, tk_al_7, tk_al_8, tk_al_9, tk_al_10, tk_al_11, tk_al_13, tk_al_14, tk_al_16, tk_al_17, tk_al_19, tk_al_20, tk_al_22, tk_al_24, tk_al_25, tk_al_26, tk_al_27, tk_al_28, tk_al_29, tk_al_30, tk_al_32, tk_al_33, tk_al_34, tk_al_35, tk_al_36, tk_al_37, tk_al_38, tk_al_39, tk_al_40, tk_al_41, tk_al_43, tk_al_44, tk_al_46, tk_al_47, tk_al_49, tk_al_50, tk_al_52, tk_al_54, tk_al_55, tk_al_56, tk_al_57, tk_al_58, tk_al_59, tk_al_60, tk_al_62, tk_al_63, tk_al_64, tk_al_65, tk_al_66, tk_al_67, tk_al_68, tk_al_69, tk_al_70, tk_al_71, tk_al_73, tk_al_74, tk_al_76, tk_al_77, tk_al_79, tk_al_80, tk_al_81, tk_al_83, tk_al_85, tk_al_87, tk_al_89, tk_al_91, tk_al_93, tk_al_95, tk_al_97, tk_al_98, tk_al_99, tk_al_100, tk_al_101, tk_al_102, tk_al_103, tk_al_104, tk_al_105, tk_al_106, tk_al_107, tk_al_108, tk_al_109, tk_al_110, tk_al_111, tk_al_112, tk_al_113, tk_al_114, tk_al_115, tk_al_116, tk_al_117, tk_al_118, tk_al_119, tk_al_120, tk_al_121, tk_al_122, tk_al_123, tk_al_124, tk_al_125, tk_al_126, tk_al_127, tk_al_128, tk_al_129, hc.1, h8, hk]
    exact hQ
  · simp [hk] at hQ
    simp [tk_fn, tk_env, tk_sq, tk_sk, tk_if, tk_re, tk_rez, tk_rev, tk_xp, tk_se, tk_pf, tk_pfz, tk_pfo, tk_as, tk_asz, tk_asb, tk_aso, tk_cpy, tk_sw, tk_swc, tk_lit, tk_loc, tk_u1, tk_bin, tk_dv, tk_gf, tk_gr, tk_gn, tk_ald, tk_aldq, tk_aln, tk_unl, tk_una, tk_ter, tk_args, tk_cs, tk_cv, tk_ceq, tk_cne, tk_clt, tk_cge, tk_cgt, tk_cle, tk_zeq, tk_zne, tk_zlt, tk_zge, tk_zgt, tk_zle, tk_and, tk_or, tk_not, tk_ct2, tk_isC, List.headD_cons, tk_up, tk_sca, tk_scl, tkF_X2_partsOf, tkS_X2_partsOf, tk_al_2, tk_al_3, tk_al_4, tk_al_5, tk_al_6, tk_al_7, tk_al_8, tk_al_9, tk_al_10, tk_al_11, tk_al_13, tk_al_14, tk_al_16, tk_al_17, tk_al_19, tk_al_20, tk_al_22, tk_al_24, tk_al_25, tk_al_26, tk_al_27, tk_al_28, tk_al_29, tk_al_30, tk_al_32, tk_al_33, tk_al_34, tk_al_35, tk_al_36, tk_al_37, tk_al_38, tk_al_39, tk_al_40, tk_al_41, tk_al_43, tk_al_44, tk_al_46, tk_al_47, tk_al_49, tk_al_50, tk_al_52, tk_al_54, tk_al_55, tk_al_56, tk_al_57, tk_al_58, tk_al_59, tk_al_60, tk_al_62, tk_al_63, tk_al_64, tk_al_65, tk_al_66, tk_al_67, tk_al_68, tk_al_69, tk_al_70, tk_al_71, tk_al_73, tk_al_74, tk_al_76, tk_al_77, tk_al_79, tk_al_80, tk_al_81, tk_al_83, tk_al_85, tk_al_87, tk_al_89, tk_al_91, tk_al_93, tk_al_95, tk_al_97, tk_al_98, tk_al_99, tk_al_100, tk_al_101, tk_al_102, tk_al_103, tk_al_104, tk_al_105, tk_al_106, tk_al_107, tk_al_108, tk_al_109, tk_al_110, tk_al_111, tk_al_112, tk_al_113, tk_al_114, tk_al_115, tk_al_116, tk_al_117, tk_al_118, tk_al_119, tk_al_120, tk_al_121, tk_al_122, tk_al_123, tk_al_124, tk_al_125, tk_al_126, tk_al_127, tk_al_128, tk_al_129, hc.1, h8, hk, l6]
    exact hQ
  · simp [hk] at hQ
    simp [tk_fn, tk_env, tk_sq, tk_sk, tk_if, tk_re, tk_rez, tk_rev, tk_xp, tk_se, tk_pf, tk_pfz, tk_pfo, tk_as, tk_asz, tk_asb, tk_aso, tk_cpy, tk_sw, tk_swc, tk_lit, tk_loc, tk_u1, tk_bin, tk_dv, tk_gf, tk_gr, tk_gn, tk_ald, tk_aldq, tk_aln, tk_unl, tk_una, tk_ter, tk_args, tk_cs, tk_cv, tk_ceq, tk_cne, tk_clt, tk_cge, tk_cgt, tk_cle, tk_zeq, tk_zne, tk_zlt, tk_zge, tk_zgt, tk_zle, tk_and, tk_or, tk_not, tk_ct2, tk_isC, List.headD_cons, tk_up, tk_sca, tk_scl, tkF_X2_partsOf, tkS_X2_partsOf, tk_al_2, tk_al_3, tk_al_4, tk_al_5, tk_al_6, tk_al_7, tk_al_8, tk_al_9, tk_al_10, tk_al_11, tk_al_13, tk_al_14, tk_al_16, tk_al_17, tk_al_19, tk_al_20, tk_al_22, tk_al_24, tk_al_25, tk_al_26, tk_al_27, tk_al_28, tk_al_29, tk_al_30, tk_al_32, tk_al_33, tk_al_34, tk_al_35, tk_al_36, tk_al_37, tk_al_38, tk_al_39, tk_al_40, tk_al_41, tk_al_43, tk_al_44, tk_al_46, tk_al_47, tk_al_49, tk_al_50, tk_al_52, tk_al_54, tk_al_55, tk_al_56, tk_al_57, tk_al_58, tk_al_59, tk_al_60, tk_al_62, tk_al_63, tk_al_64, tk_al_65, tk_al_66, tk_al_67, tk_al_68, tk_al_69, tk_al_70, tk_al_71, tk_al_73, tk_al_74, tk_al_76, tk_al_77, tk_al_79, tk_al_80, tk_al_81, tk_al_83, tk_al_85, tk_al_87, tk_al_89, tk_al_91, tk_al_93, tk_al_95, tk_al_97, tk_al_98, tk_al_99, tk_al_100, tk_al_101, tk_al_102, tk_al_103, tk_al_104, tk_al_105, tk_al_106, tk_al_107, tk_al_108, tk_al_109, tk_al_110, tk_al_111, tk_al_112, tk_al_113, tk_al_114, tk_al_115, tk_al_116, tk_al_117, tk_al_118, tk_al_119, tk_al_120, tk_al_121, tk_al_122, tk_al_123, tk_al_124, tk_al_125, tk_al_126, tk_al_127, tk_al_128, tk_al_129, hc.1, h8, hk]
    exact hQ
  · simp [hk] at hQ
    simp [tk_fn, tk_env, tk_sq, tk_sk, tk_if, tk_re, tk_rez, tk_rev, tk_xp, tk_se, tk_pf, tk_pfz, tk_pfo, tk_as, tk_asz, tk_asb, tk_aso, tk_cpy, tk_sw, tk_swc, tk_lit, tk_loc, tk_u1, tk_bin, tk_dv, tk_gf, tk_gr, tk_gn, tk_ald, tk_aldq, tk_aln, tk_unl, tk_una, tk_ter, tk_args, tk_cs, tk_cv, tk_ceq, tk_cne, tk_clt, tk_cge, tk_cgt, tk_cle, tk_zeq, tk_zne, tk_zlt, tk_zge, tk_zgt, tk_zle, tk_and, tk_or, tk_not, tk_ct2, tk_isC, List.headD_cons, tk_up, tk_sca, tk_scl, tkF_X2_partsOf, tkS_X2_partsOf, tk_al_2, tk_al_3, tk_al_4, tk_al_5, tk_al_6, tk_al_7, tk_al_8, tk_al_9, tk_al_10, tk_al_11, tk_al_13, tk_al_14, tk_al_16, tk_al_17, tk_al_19, tk_al_20, tk_al_22, tk_al_24, tk_al_25, tk_al_26, tk_al_27, tk_al_28, tk_al_29, tk_al_30, tk_al_32, tk_al_33, tk_al_34, tk_al_35, tk_al_36, tk_al_37, tk_al_38, tk_al_39, tk_al_40, tk_al_41, tk_al_43, tk_al_44, tk_al_46, tk_al_47, tk_al_49, tk_al_50, tk_al_52, tk_al_54, tk_al_55, tk_al_56, tk_al_57, tk_al_58, tk_al_59, tk_al_60, tk_al_62, tk_al_63, tk_al_64, tk_al_65, tk_al_66, tk_al_67, tk_al_68, tk_al_69, tk_al_70, tk_al_71, tk_al_73, tk_al_74, tk_al_76, tk_al_77, tk_al_79, tk_al_80, tk_al_81, tk_al_83, tk_al_85, tk_al_87, tk_al_89, tk_al_91, tk_al_93, tk_al_95, tk_al_97, tk_al_98, tk_al_99, tk_al_100, tk_al_101, tk_al_102, tk_al_103, tk_al_104, tk_al_105, tk_al_106, tk_al_107, tk_al_108, tk_al_109, tk_al_110, tk_al_111, tk_al_112, tk_al_113, tk_al_114, tk_al_115, tk_al_116, tk_al_117, tk_al_118, tk_al_119, tk_al_120, tk_al_121, tk_al_122, tk_al_123, tk_al_124, tk_al_125, tk_al_126, tk_al_127, tk_al_128, tk_al_129, hc.1, h8, hk]
    exact x_burst1 hJ hbb hQ
  · simp [hk, tk_mx1] at hQ
    simp [tk_fn, tk_env, tk_sq, tk_sk, tk_if, tk_re, tk_rez, tk_rev, tk_xp, tk_se, tk_pf, tk_pfz, tk_pfo, tk_as, tk_asz, tk_asb, tk_aso, tk_cpy, tk_sw, tk_swc, tk_lit, tk_loc, tk_u1, tk_bin, tk_dv, tk_gf, tk_gr, tk_gn, tk_ald, tk_aldq, tk_aln, tk_unl, tk_una, tk_ter, tk_args, tk_cs, tk_cv, tk_ceq, tk_cne, tk_clt, tk_cge, tk_cgt, tk_cle, tk_zeq, tk_zne, tk_zlt, tk_zge, tk_zgt, tk_zle, tk_and, tk_or, tk_not, tk_ct2, tk_isC, List.headD_cons, tk_up, tk_sca, tk_scl, tkF_X2_partsOf, tkS_X2_partsOf, tk_al_2, tk_al_3, tk_al_4, tk_al_5, tk_al_6, tk_al_7, tk_al_8, tk_al_9, tk_al_10, tk_al_11, tk_al_13, tk_al_14, tk_al_16, tk_al_17, tk_al_19, tk_al_20, tk_al_22, tk_al_24, tk_al_25, tk_al_26, tk_al_27, tk_al_28, tk_al_29, tk_al_30, tk_al_32, tk_al_33, tk_al_34, tk_al_35, tk_al_36, tk_al_37, tk_al_38, tk_al_39, tk_al_40, tk_al_41, tk_al_43, tk_al_44, tk_al_46, tk_al_47, tk_al_49, tk_al_50, tk_al_52, tk_al_54, tk_al_55, tk_al_56, tk_al_57, tk_al_58, tk_al_59, tk_al_60, tk_al_62, tk_al_63, tk_al_64, tk_al_65, tk_al_66, tk_al_67, tk_al_68, tk_al_69, tk_al_70, tk_al_71, tk_al_73, tk_al_74, tk_al_76, tk_al_77, tk_al_79, tk_al_80, tk_al_81, tk_al_83, tk_al_85, tk_al_87, tk_al_89, tk_al_91, tk_al_93, tk_al_95, tk_al_97, tk_al_98, tk_al_99, tk_al_100, tk_al_101, tk_al_102, tk_al_103, tk_al_104, tk_al_105, tk_al_106, tk_al_107, tk_al_108, tk_al_109, tk_al_110, tk_al_111, tk_al_112, tk_al_113, tk_al_114, tk_al_115, tk_al_116, tk_al_117, tk_al_118, tk_al_119, tk_al_120, tk_al_121, tk_al_122, tk_al_123, tk_al_124, tk_al_125, tk_al_126, tk_al_127, tk_al_128, tk_al_129, hc.1, h8, hk, l6, l8, tk_mx_id]
    exact hQ
  · simp [hk] at hQ
    simp [tk_fn, tk_env, tk_sq, tk_sk, tk_if, tk_re, tk_rez, tk_rev, tk_xp, tk_se, tk_pf, tk_pfz, tk_pfo, tk_as, tk_asz, tk_asb, tk_aso, tk_cpy, tk_sw, tk_swc, tk_lit, tk_loc, tk_u1, tk_bin, tk_dv, tk_gf, tk_gr, tk_gn, tk_ald, tk_aldq, tk_aln, tk_unl, tk_una, tk_ter, tk_args, tk_cs, tk_cv, tk_ceq, tk_cne, tk_clt, tk_cge, tk_cgt, tk_cle, tk_zeq, tk_zne, tk_zlt, tk_zge, tk_zgt, tk_zle, tk_and, tk_or, tk_not, tk_ct2, tk_isC, List.headD_cons, tk_up, tk_sca, tk_scl, tkF_X2_partsOf, tkS_X2_partsOf, tk_al_2, tk_al_3, tk_al_4, tk_al_5, tk_al_6, tk_al_7, tk_al_8, tk_al_9, tk_al_10, tk_al_11, tk_al_13, tk_al_14, tk_al_16, tk_al_17, tk_al_19, tk_al_20, tk_al_22, tk_al_24, tk_al_25, tk_al_26, tk_al_27, tk_al_28, tk_al_29, tk_al_30, tk_al_32, tk_al_33, tk_al_34, tk_al_35, tk_al_36, tk_al_37, tk_al_38, tk_al_39, tk_al_40, tk_al_41, tk_al_43, tk_al_44, tk_al_46, tk_al_47, tk_al_49, tk_al_50, tk_al_52, tk_al_54, tk_al_55, tk_al_56, tk_al_57, tk_al_58, tk_al_59, tk_al_60, tk_al_62, tk_al_63, tk_al_64, tk_al_65, tk_al_66, tk_al_67, tk_al_68, tk_al_69, tk_al_70, tk_al_71, tk_al_73, tk_al_74, tk_al_76, tk_al_77, tk_al_79, tk_al_80, tk_al_81, tk_al_83, tk_al_85, tk_al_87, tk_al_89, tk_al_91, tk_al_93, tk_al_95, tk_al_97, tk_al_98, tk_al_99, tk_al_100, tk_al_101, tk_al_102, tk_al_103, tk_al_104, tk_al_105, tk_al_106, tk_al_107, tk_al_108, tk_al_109, tk_al_110, tk_al_111, tk_al_112, tk_al_113, tk_al_114, tk_al_115, tk_al_116, tk_al_117, tk_al_118, tk_al_119, tk_al_120, tk_al_121, tk_al_122, tk_al_123, tk_al_124, tk_al_125, tk_al_126, tk_al_127, tk_al_128, tk_al_129, hc.1, h8, hk, l7]
    exact hQ
  · simp [hk, tk_mx1] at hQ
    simp [tk_fn, tk_env, tk_sq, tk_sk, tk_if, tk_re, tk_rez, tk_rev, tk_xp, tk_se, tk_pf, tk_pfz, tk_pfo, tk_as, tk_asz, tk_asb, tk_aso, tk_cpy, tk_sw, tk_swc, tk_lit, tk_loc, tk_u1, tk_bin, tk_dv, tk_gf, tk_gr, tk_gn, tk_ald, tk_aldq, tk_aln, tk_unl, tk_una, tk_ter, tk_args, tk_cs, tk_cv, tk_ceq, tk_cne, tk_clt, tk_cge, tk_cgt, tk_cle, tk_zeq, tk_zne, tk_zlt, tk_zge, tk_zgt, tk_zle, tk_and, tk_or, tk_not, tk_ct2, tk_isC, List.headD_cons, tk_up, tk_sca, tk_scl, tkF_X2_partsOf, tkS_X2_partsOf, tk_al_2, tk_al_3, tk_al_4, tk_al_5, tk_al_6, tk_al_7, tk_al_8, tk_al_9, tk_al_10, tk_al_11, tk_al_13, tk_al_14, tk_al_16, tk_al_17, tk_al_19, tk_al_20, tk_al_22, tk_al_24, tk_al_25, tk_al_26, tk_al_27, tk_al_28, tk_al_29, tk_al_30, tk_al_32, tk_al_33, tk_al_34, tk_al_35, tk_al_36, tk_al_37, tk_al_38, tk_al_39, tk_al_40, tk_al_41, tk_al_43, tk_al_44, tk_al_46, tk_al_47, tk_al_49, tk_al_50, tk_al_52, tk_al_54, tk_al_55, tk_al_56, tk_al_57, tk_al_58, tk_al_59, tk_al_60, tk_al_62, tk_al_63, tk_al_64, tk_al_65, tk_al_66, tk_al_67, tk_al_68, tk_al_69, tk_al_70, tk_al_71, tk_al_73, tk_al_74, tk_al_76, tk_al_77, tk_al_79, tk_al_80, tk_al_81, tk_al_83, tk_al_85, tk_al_87, tk_al_89, tk_al_91, tk_al_93, tk_al_95, tk_al_97, tk_al_98, tk_al_99, tk_al_100, tk_al_101, tk_al_102, tk_al_103, tk_al_104, tk_al_105, tk_al_106, tk_al_107, tk_al_108, tk_al_109, tk_al_110, tk_al_111, tk_al_112, tk_al_113, tk_al_114, tk_al_115, tk_al_116, tk_al_117, tk_al_118, tk_al_119, tk_al_120, tk_al_121, tk_al_122, tk_al_123, tk_al_124, tk_al_125, tk_al_126, tk_al_127, tk_al_128, tk_al_129, hc.1, h8, hk]
    refine x_burst1 hJ hbb ?_
    have l10 : tk_isub (tk_bu (tk_hw 1 μ)) (μ 11 (4 * c + μ 1 3 % 4)) = tk_bu (tk_hw 1 μ) - μ 11 (4 * c + μ 1 3 % 4) := tk_isub_id (by omega) (by omega)
    simp [tk_al_2, tk_al_3, tk_al_4, tk_al_5, tk_al_6, tk_al_7, tk_al_8, tk_al_9, tk_al_10, tk_al_11, tk_al_13, tk_al_14, tk_al_16, tk_al_17, tk_al_19, tk_al_20, tk_al_22, tk_al_24, tk_al_25, tk_al_26, tk_al_27, tk_al_28, tk_al_29, tk_al_30, tk_al_32, tk_al_33, tk_al_34, tk_al_35, tk_al_36, tk_al_37, tk_al_38, tk_al_39, tk_al_40, tk_al_41, tk_al_43, tk_al_44, tk_al_46, tk_al_47, tk_al_49, tk_al_50, tk_al_52, tk_al_54, tk_al_55, tk_al_56, tk_al_57, tk_al_58, tk_al_59, tk_al_60, tk_al_62, tk_al_63, tk_al_64, tk_al_65, tk_al_66, tk_al_67, tk_al_68, tk_al_69, tk_al_70, tk_al_71, tk_al_73, tk_al_74, tk_al_76, tk_al_77, tk_al_79, tk_al_80, tk_al_81, tk_al_83, tk_al_85, tk_al_87, tk_al_89, tk_al_91, tk_al_93, tk_al_95, tk_al_97, tk_al_98, tk_al_99, tk_al_100, tk_al_101, tk_al_102, tk_al_103, tk_al_104, tk_al_105, tk_al_106, tk_al_107, tk_al_108, tk_al_109, tk_al_110, tk_al_111, tk_al_112, tk_al_113, tk_al_114, tk_al_115, tk_al_116, tk_al_117, tk_al_118, tk_al_119, tk_al_120, tk_al_121, tk_al_122, tk_al_123, tk_al_124, tk_al_125, tk_al_126, tk_al_127, tk_al_128, tk_al_129, l3, l4, l5, l10, h30, h32, tk_mx_id]
    exact hQ
theorem x_spend1 {b : Int} {μ : tk_M} {Q : Int → tk_M → Prop} {c : Int} (hJ : tk_J b (tk_hw 1 μ)) (hbb : b ≤ 1000000) (hc : c = -5 ∨ (0 ≤ c ∧ c < μ 1 2)) (hQ : ∀ μ', tk_fx 1 μ μ' → (∀ o i : Int, o = 21 ∨ o = 22 → μ' o i = μ o i) → tk_hw 1 μ' = tk_spn (tk_hw 1 μ) c → Q 0 μ') : tkF_X2_spend [1, c] Q μ := by
  obtain ⟨g1, g2, g3, g4, g5⟩ := x_hJ1 hJ
  rcases hc with rfl | hc
  · have l1 : tk_iadd (μ 1 3) 10 = μ 1 3 + 10 := tk_iadd_id (by omega) (by omega)
    simp [tk_fn, tk_env, tk_sq, tk_sk, tk_if, tk_re, tk_rez, tk_rev, tk_xp, tk_se, tk_pf, tk_pfz, tk_pfo, tk_as, tk_asz, tk_asb, tk_aso, tk_cpy, tk_sw, tk_swc, tk_lit, tk_loc, tk_u1, tk_bin, tk_dv, tk_gf, tk_gr, tk_gn, tk_ald, tk_aldq, tk_aln, tk_unl, tk_una, tk_ter, tk_args, tk_cs, tk_cv, tk_ceq, tk_cne, tk_clt, tk_cge, tk_cgt, tk_cle, tk_zeq, tk_zne, tk_zlt, tk_zge, tk_zgt, tk_zle, tk_and, tk_or, tk_not, tk_ct2, tk_isC, List.headD_cons, tk_up, tk_sca, tk_scl, tkF_X2_spend, tkS_X2_spend, x_hasClient, tk_bo_0, l1]
    refine hQ _ (tk_fx_s tk_fx_r (by omega)) (fun o i ho => by rw [tk_set_o (by omega)]) ?_
    have e := tk_hw_set (h := 1) (f := 0) (i := 3) (v := μ 1 3 + 10) (μ := μ) (by omega)
    rw [show (1 : Int) + 0 = 1 from rfl] at e
    rw [e]
    unfold tk_spn
    rw [if_pos (by omega)]
    rfl
  · have h := g4 c hc.1 hc.2
    have h8 : c < 8 := by omega
    have hn : ¬ c < 0 := by omega
    have hp := tk_prt_bd hJ (c := c) hc
    simp [tk_fn, tk_env, tk_sq, tk_sk, tk_if, tk_re, tk_rez, tk_rev, tk_xp, tk_se, tk_pf, tk_pfz, tk_pfo, tk_as, tk_asz, tk_asb, tk_aso, tk_cpy, tk_sw, tk_swc, tk_lit, tk_loc, tk_u1, tk_bin, tk_dv, tk_gf, tk_gr, tk_gn, tk_ald, tk_aldq, tk_aln, tk_unl, tk_una, tk_ter, tk_args, tk_cs, tk_cv, tk_ceq, tk_cne, tk_clt, tk_cge, tk_cgt, tk_cle, tk_zeq, tk_zne, tk_zlt, tk_zge, tk_zgt, tk_zle, tk_and, tk_or, tk_not, tk_ct2, tk_isC, List.headD_cons, tk_up, tk_sca, tk_scl, tkF_X2_spend, tkS_X2_spend, x_hasClient, tk_bo_0, hc.1, hc.2]
    refine x_partsOf1 hJ hbb hc ?_
    generalize hpq : tk_prt (tk_hw 1 μ) c = q at hp ⊢
    have l1 : tk_iadd (μ 1 3) q = μ 1 3 + q := tk_iadd_id (by omega) (by omega)
    have l2 : tk_iadd (μ 7 c) q = μ 7 c + q := tk_iadd_id (by omega) (by omega)
    simp [tk_al_2, tk_al_3, tk_al_4, tk_al_5, tk_al_6, tk_al_7, tk_al_8, tk_al_9, tk_al_10, tk_al_11, tk_al_13, tk_al_14, tk_al_16, tk_al_17, tk_al_19, tk_al_20, tk_al_22, tk_al_24, tk_al_25, tk_al_26, tk_al_27, tk_al_28, tk_al_29, tk_al_30, tk_al_32, tk_al_33, tk_al_34, tk_al_35, tk_al_36, tk_al_37, tk_al_38, tk_al_39, tk_al_40, tk_al_41, tk_al_43, tk_al_44, tk_al_46, tk_al_47, tk_al_49, tk_al_50, tk_al_52, tk_al_54, tk_al_55, tk_al_56, tk_al_57, tk_al_58, tk_al_59, tk_al_60, tk_al_62, tk_al_63, tk_al_64, tk_al_65, tk_al_66, tk_al_67, tk_al_68, tk_al_69, tk_al_70, tk_al_71, tk_al_73, tk_al_74, tk_al_76, tk_al_77, tk_al_79, tk_al_80, tk_al_81, tk_al_83, tk_al_85, tk_al_87, tk_al_89, tk_al_91, tk_al_93, tk_al_95, tk_al_97, tk_al_98, tk_al_99, tk_al_100, tk_al_101, tk_al_102, tk_al_103, tk_al_104, tk_al_105, tk_al_106, tk_al_107, tk_al_108, tk_al_109, tk_al_110, tk_al_111, tk_al_112, tk_al_113, tk_al_114, tk_al_115, tk_al_116, tk_al_117, tk_al_118, tk_al_119, tk_al_120, tk_al_121, tk_al_122, tk_al_123, tk_al_124, tk_al_125, tk_al_126, tk_al_127, tk_al_128, tk_al_129, hc.1, h8, tk_set_o, l1, l2]
    refine hQ _ (tk_fx_s (tk_fx_s (tk_fx_s tk_fx_r (by omega)) (by omega)) (by omega)) (fun o i ho => by rw [tk_set_o (by omega), tk_set_o (by omega), tk_set_o (by omega)]) ?_
    have e := fun v m => tk_hw_set (h := 1) (f := 0) (i := 3) (v := v) (μ := m) (by omega)
    have e6 := fun v m => tk_hw_set (h := 1) (f := 6) (i := c) (v := v) (μ := m) (by omega)
    have e7 := fun v m => tk_hw_set (h := 1) (f := 7) (i := c) (v := v) (μ := m) (by omega)
    rw [show (1 : Int) + 0 = 1 from rfl] at e
    rw [show (1 : Int) + 6 = 7 from rfl] at e6
    rw [show (1 : Int) + 7 = 8 from rfl] at e7
    rw [e, e7, e6]
    unfold tk_spn
    rw [if_neg hn, hpq]
    rfl
theorem x_growPass1 {b : Int} {μ : tk_M} {Q : Int → tk_M → Prop} {c st : Int} (hJ : tk_JL b (tk_hw 1 μ)) (hbb : b ≤ 1000000) (hc : 0 ≤ c ∧ c < μ 1 2) (hst : 1 ≤ st ∧ st ≤ 100000000) (hQ : ∀ μ', tk_fx 1 μ μ' → (∀ o i : Int, o = 21 ∨ o = 22 → μ' o i = μ o i) → tk_hw 1 μ' = tk_gro (tk_hw 1 μ) c st → Q 0 μ') : tkF_X2_growPass [1, c, st] Q μ := by
  obtain ⟨g1, g2, g3, g4, g5⟩ := x_hJ1 hJ.1
  have h8 : c < 8 := by omega
  have h108 := (g4 c hc.1 hc.2).2.2.2.2.1
  have hps := tk_gro_pass hJ.1 hc hst
  have l1 : tk_ladd (μ 9 c) st = μ 9 c + st := tk_ladd_id (by omega) (by omega)
  have hS8 : tk_hw 1 μ 8 c = μ 9 c := rfl
  have e8 := fun v m => tk_hw_set (h := 1) (f := 8) (i := c) (v := v) (μ := m) (by omega)
  rw [show (1 : Int) + 8 = 9 from rfl] at e8
  have fin : ∀ μ1, tk_fx 1 μ μ1 → (∀ o i : Int, o = 21 ∨ o = 22 → μ1 o i = μ o i) → tk_hw 1 μ1 = tk_lwd (tk_hw 1 μ) c st → Q 0 (tk_set μ1 9 c (tk_iadd (μ1 9 c) st)) := by
    intro μ1 hf1 hd1 he1
    have e1 : μ1 9 c = tk_lwd (tk_hw 1 μ) c st 8 c := by rw [← he1]; rfl
    have l2 : tk_iadd (μ1 9 c) st = μ1 9 c + st := tk_iadd_id (by omega) (by omega)
    rw [l2]
    refine hQ _ (tk_fx_s hf1 (by omega)) (fun o i ho => by rw [tk_set_o (by omega)]; exact hd1 o i ho) ?_
    rw [e8, he1, e1]
    rfl
  by_cases hw : 2147483647 < μ 9 c + st
  · simp [tk_fn, tk_env, tk_sq, tk_sk, tk_if, tk_re, tk_rez, tk_rev, tk_xp, tk_se, tk_pf, tk_pfz, tk_pfo, tk_as, tk_asz, tk_asb, tk_aso, tk_cpy, tk_sw, tk_swc, tk_lit, tk_loc, tk_u1, tk_bin, tk_dv, tk_gf, tk_gr, tk_gn, tk_ald, tk_aldq, tk_aln, tk_unl, tk_una, tk_ter, tk_args, tk_cs, tk_cv, tk_ceq, tk_cne, tk_clt, tk_cge, tk_cgt, tk_cle, tk_zeq, tk_zne, tk_zlt, tk_zge, tk_zgt, tk_zle, tk_and, tk_or, tk_not, tk_ct2, tk_isC, List.headD_cons, tk_up, tk_sca, tk_scl, tkF_X2_growPass, tkS_X2_growPass, tk_al_2, tk_al_3, tk_al_4, tk_al_5, tk_al_6, tk_al_7, tk_al_8, tk_al_9, tk_al_10, tk_al_11, tk_al_13, tk_al_14, tk_al_16, tk_al_17, tk_al_19, tk_al_20, tk_al_22, tk_al_24, tk_al_25, tk_al_26, tk_al_27, tk_al_28, tk_al_29, tk_al_30, tk_al_32, tk_al_33, tk_al_34, tk_al_35, tk_al_36, tk_al_37, tk_al_38, tk_al_39, tk_al_40, tk_al_41, tk_al_43, tk_al_44, tk_al_46, tk_al_47, tk_al_49, tk_al_50, tk_al_52, tk_al_54, tk_al_55, tk_al_56, tk_al_57, tk_al_58, tk_al_59, tk_al_60, tk_al_62, tk_al_63, tk_al_64, tk_al_65, tk_al_66, tk_al_67, tk_al_68, tk_al_69, tk_al_70, tk_al_71, tk_al_73, tk_al_74, tk_al_76, tk_al_77, tk_al_79, tk_al_80, tk_al_81, tk_al_83, tk_al_85, tk_al_87, tk_al_89, tk_al_91, tk_al_93, tk_al_95, tk_al_97, tk_al_98, tk_al_99, tk_al_100, tk_al_101, tk_al_102, tk_al_103, tk_al_104, tk_al_105, tk_al_106, tk_al_107, tk_al_108, tk_al_109, tk_al_110, tk_al_111, tk_al_112, tk_al_113, tk_al_114, tk_al_115, tk_al_116, tk_al_117, tk_al_118, tk_al_119, tk_al_120, tk_al_121, tk_al_122, tk_al_123, tk_al_124, tk_al_125, tk_al_126, tk_al_127, tk_al_128, tk_al_129, hc.1, h8, l1, hw]
    refine tk_for (μ 1 2) (fun i ρ μ' => ρ 0 = 1 ∧ ρ 1 = c ∧ ρ 2 = st ∧ ρ 3 = μ 9 c ∧ ρ 4 = i ∧ (∀ o j : Int, ¬ o = 9 → μ' o j = μ o j) ∧ ∀ j : Int, μ' 9 j = if 0 ≤ j ∧ j < i then (if μ 9 j < μ 9 c then 0 else μ 9 j - μ 9 c) else μ 9 j) g1.1 ⟨rfl, rfl, rfl, rfl, rfl, fun _ _ _ => rfl, fun j => by rw [if_neg (by omega)]⟩ ?_ ?_
    · rintro i ρ μ' hi0 hi6 ⟨r0, r1, r2, r3, r4, hf, hz⟩ K hK
      have i1 : tk_iadd i 1 = i + 1 := tk_iadd_id (by omega) (by omega)
      have h88 : i < 8 := by omega
      have e1 : μ' 1 2 = μ 1 2 := hf _ _ (by omega)
      have e2 := hz i
      rw [if_neg (by omega)] at e2
      have h := (g4 i hi0 hi6).2.2.2.2.1
      have l1 : tk_isub (μ 9 i) (μ 9 c) = μ 9 i - μ 9 c := tk_isub_id (by omega) (by omega)
      have lm : tk_mx (μ 9 i - μ 9 c) 0 = if μ 9 i < μ 9 c then 0 else μ 9 i - μ 9 c := by
        unfold tk_mx
        by_cases hq : μ 9 i < μ 9 c
        · rw [if_pos (by omega), if_pos hq]
        · rw [if_neg (by omega), if_neg hq]
      simp [tk_fn, tk_env, tk_sq, tk_sk, tk_if, tk_re, tk_rez, tk_rev, tk_xp, tk_se, tk_pf, tk_pfz, tk_pfo, tk_as, tk_asz, tk_asb, tk_aso, tk_cpy, tk_sw, tk_swc, tk_lit, tk_loc, tk_u1, tk_bin, tk_dv, tk_gf, tk_gr, tk_gn, tk_ald, tk_aldq, tk_aln, tk_unl, tk_una, tk_ter, tk_args, tk_cs, tk_cv, tk_ceq, tk_cne, tk_clt, tk_cge, tk_cgt, tk_cle, tk_zeq, tk_zne, tk_zlt, tk_zge, tk_zgt, tk_zle, tk_and, tk_or, tk_not, tk_ct2, tk_isC, List.headD_cons, tk_up, tk_sca, tk_scl, r0, r3, r4, e1, e2, hi0, hi6, h88, tk_al_2, tk_al_3, tk_al_4, tk_al_5, tk_al_6, tk_al_7, tk_al_8, tk_al_9, tk_al_10, tk_al_11, tk_al_13, tk_al_14, tk_al_16, tk_al_17, tk_al_19, tk_al_20, tk_al_22, tk_al_24, tk_al_25, tk_al_26, tk_al_27, tk_al_28, tk_al_29, tk_al_30, tk_al_32, tk_al_33, tk_al_34, tk_al_35, tk_al_36, tk_al_37, tk_al_38, tk_al_39, tk_al_40, tk_al_41, tk_al_43, tk_al_44, tk_al_46, tk_al_47, tk_al_49, tk_al_50, tk_al_52, tk_al_54, tk_al_55, tk_al_56, tk_al_57, tk_al_58, tk_al_59, tk_al_60, tk_al_62, tk_al_63, tk_al_64, tk_al_65, tk_al_66, tk_al_67, tk_al_68, tk_al_69, tk_al_70, tk_al_71, tk_al_73, tk_al_74, tk_al_76, tk_al_77, tk_al_79, tk_al_80, tk_al_81, tk_al_83, tk_al_85, tk_al_87, tk_al_89, tk_al_91, tk_al_93, tk_al_95, tk_al_97, tk_al_98, tk_al_99, tk_al_100, tk_al_101, tk_al_102, tk_al_103, tk_al_104, tk_al_105, tk_al_106, tk_al_107, tk_al_108, tk_al_109, tk_al_110, tk_al_111, tk_al_112, tk_al_113, tk_al_114, tk_al_115, tk_al_116, tk_al_117, tk_al_118, tk_al_119, tk_al_120, tk_al_121, tk_al_122, tk_al_123, tk_al_124, tk_al_125, tk_al_126, tk_al_127, tk_al_128, tk_al_129, i1, l1, lm]
      refine hK _ _ ⟨r0, r1, r2, r3, rfl, fun o j ho => by rw [tk_set_o ho]; exact hf o j ho, fun j => ?_⟩
      by_cases hj : j = i
      · subst hj
        rw [tk_set_eq, if_pos (show 0 ≤ j ∧ j < j + 1 by omega)]
      · rw [tk_set_j hj, hz]
        by_cases h3 : 0 ≤ j ∧ j < i
        · rw [if_pos h3, if_pos (show 0 ≤ j ∧ j < i + 1 by omega)]
        · rw [if_neg h3, if_neg (show ¬ (0 ≤ j ∧ j < i + 1) by omega)]
    · rintro ρ μ' ⟨r0, r1, r2, r3, r4, hf, hz⟩ X
      have e1 : μ' 1 2 = μ 1 2 := hf _ _ (by omega)
      have e2 : μ' 1 4 = μ 1 4 := hf _ _ (by omega)
      have l3 : tk_iadd (μ 1 4) 1 = μ 1 4 + 1 := tk_iadd_id (by omega) (by omega)
      simp [tk_fn, tk_env, tk_sq, tk_sk, tk_if, tk_re, tk_rez, tk_rev, tk_xp, tk_se, tk_pf, tk_pfz, tk_pfo, tk_as, tk_asz, tk_asb, tk_aso, tk_cpy, tk_sw, tk_swc, tk_lit, tk_loc, tk_u1, tk_bin, tk_dv, tk_gf, tk_gr, tk_gn, tk_ald, tk_aldq, tk_aln, tk_unl, tk_una, tk_ter, tk_args, tk_cs, tk_cv, tk_ceq, tk_cne, tk_clt, tk_cge, tk_cgt, tk_cle, tk_zeq, tk_zne, tk_zlt, tk_zge, tk_zgt, tk_zle, tk_and, tk_or, tk_not, tk_ct2, tk_isC, List.headD_cons, tk_up, tk_sca, tk_scl, r0, r1, r2, r4, e1, e2, l3, tk_al_2, tk_al_3, tk_al_4, tk_al_5, tk_al_6, tk_al_7, tk_al_8, tk_al_9, tk_al_10, tk_al_11, tk_al_13, tk_al_14, tk_al_16, tk_al_17, tk_al_19, tk_al_20, tk_al_22, tk_al_24, tk_al_25, tk_al_26, tk_al_27, tk_al_28, tk_al_29, tk_al_30, tk_al_32, tk_al_33, tk_al_34, tk_al_35, tk_al_36, tk_al_37, tk_al_38, tk_al_39, tk_al_40, tk_al_41, tk_al_43, tk_al_44, tk_al_46, tk_al_47, tk_al_49, tk_al_50, tk_al_52, tk_al_54, tk_al_55, tk_al_56, tk_al_57, tk_al_58, tk_al_59, tk_al_60, tk_al_62, tk_al_63, tk_al_64, tk_al_65, tk_al_66, tk_al_67, tk_al_68, tk_al_69, tk_al_70, tk_al_71, tk_al_73, tk_al_74, tk_al_76, tk_al_77, tk_al_79, tk_al_80, tk_al_81, tk_al_83, tk_al_85, tk_al_87, tk_al_89, tk_al_91, tk_al_93, tk_al_95, tk_al_97, tk_al_98, tk_al_99, tk_al_100, tk_al_101, tk_al_102, tk_al_103, tk_al_104, tk_al_105, tk_al_106, tk_al_107, tk_al_108, tk_al_109, tk_al_110, tk_al_111, tk_al_112, tk_al_113, tk_al_114, tk_al_115, tk_al_116, tk_al_117, tk_al_118, tk_al_119, tk_al_120, tk_al_121, tk_al_122, tk_al_123, tk_al_124, tk_al_125, tk_al_126, tk_al_127, tk_al_128, tk_al_129, hc.1, h8]
      refine fin _ (tk_fx_s (fun o i ho => hf o i (by omega)) (by omega)) (fun o i ho => by rw [tk_set_o (by omega)]; exact hf o i (by omega)) ?_
      unfold tk_lwd
      rw [hS8, if_pos hw]
      funext f j
      have hr : ∀ f : Int, ¬ f = 8 → ∀ j, tk_hw 1 μ' f j = tk_hw 1 μ f j := fun f hf2 j => by
        unfold tk_hw
        split
        · exact hf _ _ (by omega)
        · rfl
      have hq := tk_hw_set (h := 1) (f := 0) (i := 4) (v := μ 1 4 + 1) (μ := μ') (by omega)
      rw [show (1 : Int) + 0 = 1 from rfl] at hq
      rw [hq]
      unfold tk_low tk_set
      by_cases h8 : f = 8
      · subst h8
        simp
        have e3 : tk_hw 1 μ' 8 j = μ' 9 j := rfl
        have e4 : tk_hw 1 μ 8 j = μ 9 j := rfl
        have e5 : tk_hw 1 μ 0 2 = μ 1 2 := rfl
        rw [e3, e4, e5, hz]
      · simp [h8]
        rw [hr f h8]
        rfl
  · simp [tk_fn, tk_env, tk_sq, tk_sk, tk_if, tk_re, tk_rez, tk_rev, tk_xp, tk_se, tk_pf, tk_pfz, tk_pfo, tk_as, tk_asz, tk_asb, tk_aso, tk_cpy, tk_sw, tk_swc, tk_lit, tk_loc, tk_u1, tk_bin, tk_dv, tk_gf, tk_gr, tk_gn, tk_ald, tk_aldq, tk_aln, tk_unl, tk_una, tk_ter, tk_args, tk_cs, tk_cv, tk_ceq, tk_cne, tk_clt, tk_cge, tk_cgt, tk_cle, tk_zeq, tk_zne, tk_zlt, tk_zge, tk_zgt, tk_zle, tk_and, tk_or, tk_not, tk_ct2, tk_isC, List.headD_cons, tk_up, tk_sca, tk_scl, tkF_X2_growPass, tkS_X2_growPass, tk_al_2, tk_al_3, tk_al_4, tk_al_5, tk_al_6, tk_al_7, tk_al_8, tk_al_9, tk_al_10, tk_al_11, tk_al_13, tk_al_14, tk_al_16, tk_al_17, tk_al_19, tk_al_20, tk_al_22, tk_al_24, tk_al_25, tk_al_26, tk_al_27, tk_al_28, tk_al_29, tk_al_30, tk_al_32, tk_al_33, tk_al_34, tk_al_35, tk_al_36, tk_al_37, tk_al_38, tk_al_39, tk_al_40, tk_al_41, tk_al_43, tk_al_44, tk_al_46, tk_al_47, tk_al_49, tk_al_50, tk_al_52, tk_al_54, tk_al_55, tk_al_56, tk_al_57, tk_al_58, tk_al_59, tk_al_60, tk_al_62, tk_al_63, tk_al_64, tk_al_65, tk_al_66, tk_al_67, tk_al_68, tk_al_69, tk_al_70, tk_al_71, tk_al_73, tk_al_74, tk_al_76, tk_al_77, tk_al_79, tk_al_80, tk_al_81, tk_al_83, tk_al_85, tk_al_87, tk_al_89, tk_al_91, tk_al_93, tk_al_95, tk_al_97, tk_al_98, tk_al_99, tk_al_100, tk_al_101, tk_al_102, tk_al_103, tk_al_104, tk_al_105, tk_al_106, tk_al_107, tk_al_108, tk_al_109, tk_al_110, tk_al_111, tk_al_112, tk_al_113, tk_al_114, tk_al_115, tk_al_116, tk_al_117, tk_al_118, tk_al_119, tk_al_120, tk_al_121, tk_al_122, tk_al_123, tk_al_124, tk_al_125, tk_al_126, tk_al_127, tk_al_128, tk_al_129, hc.1, h8, l1, hw]
    exact fin _ tk_fx_r (fun _ _ _ => rfl) (by unfold tk_lwd; rw [hS8, if_neg hw])
theorem x_hJ31 {b : Int} {μ : tk_M} (hJ : tk_J b (tk_hw 31 μ)) : (0 ≤ μ 31 2 ∧ μ 31 2 ≤ 8) ∧ (0 ≤ μ 31 3 ∧ μ 31 3 ≤ b) ∧ (0 ≤ μ 31 4 ∧ μ 31 4 ≤ μ 31 3 + 1) ∧ (∀ c : Int, 0 ≤ c → c < μ 31 2 → (0 ≤ μ 35 c ∧ μ 35 c ≤ 6) ∧ (0 ≤ μ 36 c ∧ μ 36 c ≤ 9) ∧ (0 ≤ μ 37 c ∧ μ 37 c ≤ μ 31 3) ∧ (1 ≤ μ 38 c ∧ μ 38 c ≤ 10) ∧ (0 ≤ μ 39 c ∧ μ 39 c ≤ 2147483647) ∧ (μ 40 c = -5 ∨ (0 ≤ μ 40 c ∧ μ 40 c < μ 31 2))) ∧ (∀ k : Int, 0 ≤ k → k < 4 * μ 31 2 → 0 ≤ μ 41 k ∧ μ 41 k ≤ 9) := hJ
theorem x_isOf31 {μ : tk_M} {Q : Int → tk_M → Prop} {c k : Int} (hc : 0 ≤ c ∧ c < 8) (hK : 0 ≤ μ 35 c ∧ μ 35 c ≤ 6) (hk : 0 ≤ k) (h1 : tk_kd (μ 35 c) k → Q 1 μ) (h0 : ¬ tk_kd (μ 35 c) k → Q 0 μ) : tkF_X2_isOf [31, c, k] Q μ := by
  have a0 : tk_iadd 0 1 = 1 := tk_iadd_id (by omega) (by omega)
  have a1 : tk_iadd 1 1 = 2 := tk_iadd_id (by omega) (by omega)
  have a2 : tk_iadd 2 1 = 3 := tk_iadd_id (by omega) (by omega)
  have hk2 : μ 35 c = 0 ∨ μ 35 c = 1 ∨ μ 35 c = 2 ∨ μ 35 c = 3 ∨ μ 35 c = 4 ∨ μ 35 c = 5 ∨ μ 35 c = 6 := by omega
  have hm : ¬ (-1 : Int) = k := by omega
  rcases hk2 with e | e | e | e | e | e | e <;> (
    rw [e] at h1 h0
    simp [tk_kd, tk_up1, hm] at h1 h0
    simp [tk_fn, tk_env, tk_sq, tk_sk, tk_if, tk_re, tk_rez, tk_rev, tk_xp, tk_se, tk_pf, tk_pfz, tk_pfo, tk_as, tk_asz, tk_asb, tk_aso, tk_cpy, tk_sw, tk_swc, tk_lit, tk_loc, tk_u1, tk_bin, tk_dv, tk_gf, tk_gr, tk_gn, tk_ald, tk_aldq, tk_aln, tk_unl, tk_una, tk_ter, tk_args, tk_cs, tk_cv, tk_ceq, tk_cne, tk_clt, tk_cge, tk_cgt, tk_cle, tk_zeq, tk_zne, tk_zlt, tk_zge, tk_zgt, tk_zle, tk_and, tk_or, tk_not, tk_ct2, tk_isC, List.headD_cons, tk_up, tk_sca, tk_scl, tkF_X2_isOf, tkS_X2_isOf, tk_al_2, tk_al_3, tk_al_4, tk_al_5, tk_al_6, tk_al_7, tk_al_8, tk_al_9, tk_al_10, tk_al_11, tk_al_13, tk_al_14, tk_al_16, tk_al_17, tk_al_19, tk_al_20, tk_al_22, tk_al_24, tk_al_25, tk_al_26, tk_al_27, tk_al_28, tk_al_29, tk_al_30, tk_al_32, tk_al_33, tk_al_34, tk_al_35, tk_al_36, tk_al_37, tk_al_38, tk_al_39, tk_al_40, tk_al_41, tk_al_43, tk_al_44, tk_al_46, tk_al_47, tk_al_49, tk_al_50, tk_al_52, tk_al_54, tk_al_55, tk_al_56, tk_al_57, tk_al_58, tk_al_59, tk_al_60, tk_al_62, tk_al_63, tk_al_64, tk_al_65, tk_al_66, tk_al_67, tk_al_68, tk_al_69, tk_al_70, tk_al_71, tk_al_73, tk_al_74, tk_al_76, tk_al_77, tk_al_79, tk_al_80, tk_al_81, tk_al_83, tk_al_85, tk_al_87, tk_al_89, tk_al_91, tk_al_93, tk_al_95, tk_al_97, tk_al_98, tk_al_99, tk_al_100, tk_al_101, tk_al_102, tk_al_103, tk_al_104, tk_al_105, tk_al_106, tk_al_107, tk_al_108, tk_al_109, tk_al_110, tk_al_111, tk_al_112, tk_al_113, tk_al_114, tk_al_115, tk_al_116, tk_al_117, tk_al_118, tk_al_119, tk_al_120, tk_al_121, tk_al_122, tk_al_123, tk_al_124, tk_al_125, tk_al_126, tk_al_127, tk_al_128, tk_al_129, hc.1, hc.2, e]
    refine ⟨4, ?_⟩
    simp [tk_wN, tk_fn, tk_env, tk_sq, tk_sk, tk_if, tk_re, tk_rez, tk_rev, tk_xp, tk_se, tk_pf, tk_pfz, tk_pfo, tk_as, tk_asz, tk_asb, tk_aso, tk_cpy, tk_sw, tk_swc, tk_lit, tk_loc, tk_u1, tk_bin, tk_dv, tk_gf, tk_gr, tk_gn, tk_ald, tk_aldq, tk_aln, tk_unl, tk_una, tk_ter, tk_args, tk_cs, tk_cv, tk_ceq, tk_cne, tk_clt, tk_cge, tk_cgt, tk_cle, tk_zeq, tk_zne, tk_zlt, tk_zge, tk_zgt, tk_zle, tk_and, tk_or, tk_not, tk_ct2, tk_isC, List.headD_cons, tk_up, tk_sca, tk_scl, a0, a1, a2, tk_un]
    repeat' split
    all_goals first | exact h1 (by omega) | exact h0 (by omega) | exact h0 (by omega) (by omega) | exact h0 (by omega) (by omega) (by omega))
theorem x_burst31 {b : Int} {μ : tk_M} {Q : Int → tk_M → Prop} (hJ : tk_J b (tk_hw 31 μ)) (hbb : b ≤ 1000000) (hQ : Q (tk_bu (tk_hw 31 μ)) μ) : tkF_X2_burstParts [31] Q μ := by
  obtain ⟨g1, g2, g3, g4, g5⟩ := x_hJ31 hJ
  have hd := tk_ediv_le (x := μ 31 3) (y := 10) g2.1 (by omega)
  have l1 : tk_idiv (μ 31 3) 10 = μ 31 3 / 10 := tk_idiv_id (by omega) (by omega)
  have l2 : tk_irem (μ 31 3 / 10) 2 = μ 31 3 / 10 % 2 := tk_irem_id (by omega) (by omega)
  have e : tk_bu (tk_hw 31 μ) = if μ 31 3 / 10 % 2 = 1 then 5 else 10 := rfl
  rw [e] at hQ
  by_cases hq : μ 31 3 / 10 % 2 = 1
  · rw [if_pos hq] at hQ
    simp [tk_fn, tk_env, tk_sq, tk_sk, tk_if, tk_re, tk_rez, tk_rev, tk_xp, tk_se, tk_pf, tk_pfz, tk_pfo, tk_as, tk_asz, tk_asb, tk_aso, tk_cpy, tk_sw, tk_swc, tk_lit, tk_loc, tk_u1, tk_bin, tk_dv, tk_gf, tk_gr, tk_gn, tk_ald, tk_aldq, tk_aln, tk_unl, tk_una, tk_ter, tk_args, tk_cs, tk_cv, tk_ceq, tk_cne, tk_clt, tk_cge, tk_cgt, tk_cle, tk_zeq, tk_zne, tk_zlt, tk_zge, tk_zgt, tk_zle, tk_and, tk_or, tk_not, tk_ct2, tk_isC, List.headD_cons, tk_up, tk_sca, tk_scl, tkF_X2_burstParts, tkS_X2_burstParts, l1, l2, hq]
    exact hQ
  · rw [if_neg hq] at hQ
    simp [tk_fn, tk_env, tk_sq, tk_sk, tk_if, tk_re, tk_rez, tk_rev, tk_xp, tk_se, tk_pf, tk_pfz, tk_pfo, tk_as, tk_asz, tk_asb, tk_aso, tk_cpy, tk_sw, tk_swc, tk_lit, tk_loc, tk_u1, tk_bin, tk_dv, tk_gf, tk_gr, tk_gn, tk_ald, tk_aldq, tk_aln, tk_unl, tk_una, tk_ter, tk_args, tk_cs, tk_cv, tk_ceq, tk_cne, tk_clt, tk_cge, tk_cgt, tk_cle, tk_zeq, tk_zne, tk_zlt, tk_zge, tk_zgt, tk_zle, tk_and, tk_or, tk_not, tk_ct2, tk_isC, List.headD_cons, tk_up, tk_sca, tk_scl, tkF_X2_burstParts, tkS_X2_burstParts, l1, l2, hq]
    exact hQ
theorem x_partsOf31 {b : Int} {μ : tk_M} {Q : Int → tk_M → Prop} {c : Int} (hJ : tk_J b (tk_hw 31 μ)) (hbb : b ≤ 1000000) (hc : 0 ≤ c ∧ c < μ 31 2) (hQ : Q (tk_prt (tk_hw 31 μ) c) μ) : tkF_X2_partsOf [31, c] Q μ := by
  obtain ⟨g1, g2, g3, g4, g5⟩ := x_hJ31 hJ
  have h := (g4 c hc.1 hc.2)
  have h8 : c < 8 := by omega
  have l3 : tk_irem (μ 31 3) 4 = μ 31 3 % 4 := tk_irem_id (by omega) (by omega)
  have hm : 0 ≤ μ 31 3 % 4 ∧ μ 31 3 % 4 < 4 := ⟨Int.emod_nonneg _ (by omega), Int.emod_lt_of_pos _ (by omega)⟩
  have l4 : tk_imul c 4 = 4 * c := by rw [tk_imul_id (by omega) (by omega)]; omega
  have l5 : tk_iadd (4 * c) (μ 31 3 % 4) = 4 * c + μ 31 3 % 4 := tk_iadd_id (by omega) (by omega)
  have l6 : tk_iadd (μ 36 c) 1 = μ 36 c + 1 := tk_iadd_id (by omega) (by omega)
  have l7 : tk_isub 10 (μ 36 c) = 10 - μ 36 c := tk_isub_id (by omega) (by omega)
  have l8 : tk_idiv (μ 36 c + 1) 2 = (μ 36 c + 1) / 2 := tk_idiv_id (by omega) (by omega)
  have hr := g5 (4 * c + μ 31 3 % 4) (by omega) (by omega)
  have h32 : 4 * c + μ 31 3 % 4 < 32 := by omega
  have h30 : 0 ≤ 4 * c + μ 31 3 % 4 := by omega
  have hbu : tk_bu (tk_hw 31 μ) = 5 ∨ tk_bu (tk_hw 31 μ) = 10 := by unfold tk_bu; split <;> simp
  have hp : tk_prt (tk_hw 31 μ) c = if μ 35 c = 1 then μ 36 c + 1 else if μ 35 c = 3 then tk_bu (tk_hw 31 μ) else if μ 35 c = 4 then tk_mx1 ((μ 36 c + 1) / 2) else if μ 35 c = 5 then 10 - μ 36 c else if μ 35 c = 6 then tk_mx1 (tk_bu (tk_hw 31 μ) - μ 41 (4 * c + μ 31 3 % 4)) else 10 := rfl
  rw [hp] at hQ
  have hk : μ 35 c = 0 ∨ μ 35 c = 1 ∨ μ 35 c = 2 ∨ μ 35 c = 3 ∨ μ 35 c = 4 ∨ μ 35 c = 5 ∨ μ 35 c = 6 := by omega
  rcases hk with hk | hk | hk | hk | hk | hk | hk
  · simp [hk] at hQ
    simp [tk_fn, tk_env, tk_sq, tk_sk, tk_if, tk_re, tk_rez, tk_rev, tk_xp, tk_se, tk_pf, tk_pfz, tk_pfo, tk_as, tk_asz, tk_asb, tk_aso, tk_cpy, tk_sw, tk_swc, tk_lit, tk_loc, tk_u1, tk_bin, tk_dv, tk_gf, tk_gr, tk_gn, tk_ald, tk_aldq, tk_aln, tk_unl, tk_una, tk_ter, tk_args, tk_cs, tk_cv, tk_ceq, tk_cne, tk_clt, tk_cge, tk_cgt, tk_cle, tk_zeq, tk_zne, tk_zlt, tk_zge, tk_zgt, tk_zle, tk_and, tk_or, tk_not, tk_ct2, tk_isC, List.headD_cons, tk_up, tk_sca, tk_scl, tkF_X2_partsOf, tkS_X2_partsOf, tk_al_2, tk_al_3, tk_al_4, tk_al_5, tk_al_6, tk_al_7, tk_al_8, tk_al_9, tk_al_10, tk_al_11, tk_al_13, tk_al_14, tk_al_16, tk_al_17, tk_al_19, tk_al_20, tk_al_22, tk_al_24, tk_al_25, tk_al_26, tk_al_27, tk_al_28, tk_al_29, tk_al_30, tk_al_32, tk_al_33, tk_al_34, tk_al_35, tk_al_36, tk_al_37, tk_al_38, tk_al_39, tk_al_40, tk_al_41, tk_al_43, tk_al_44, tk_al_46, tk_al_47, tk_al_49, tk_al_50, tk_al_52, tk_al_54, tk_al_55, tk_al_56, tk_al_57, tk_al_58, tk_al_59, tk_al_60, tk_al_62, tk_al_63, tk_al_64, tk_al_65, tk_al_66, tk_al_67, tk_al_68, tk_al_69, tk_al_70, tk_al_71, tk_al_73, tk_al_74, tk_al_76, tk_al_77, tk_al_79, tk_al_80, tk_al_81, tk_al_83, tk_al_85, tk_al_87, tk_al_89, tk_al_91, tk_al_93, tk_al_95, tk_al_97, tk_al_98, tk_al_99, tk_al_100, tk_al_101, tk_al_102, tk_al_103, tk_al_104, tk_al_105, tk_al_106, tk_al_107, tk_al_108, tk_al_109, tk_al_110, tk_al_111, tk_al_112, tk_al_113, tk_al_114, tk_al_115, tk_al_116, tk_al_117, tk_al_118, tk_al_119, tk_al_120, tk_al_121, tk_al_122, tk_al_123, tk_al_124, tk_al_125, tk_al_126, tk_al_127, tk_al_128, tk_al_129, hc.1, h8, hk]
    exact hQ
  · simp [hk] at hQ
    simp [tk_fn, tk_env, tk_sq, tk_sk, tk_if, tk_re, tk_rez, tk_rev, tk_xp, tk_se, tk_pf, tk_pfz, tk_pfo, tk_as, tk_asz, tk_asb, tk_aso, tk_cpy, tk_sw, tk_swc, tk_lit, tk_loc, tk_u1, tk_bin, tk_dv, tk_gf, tk_gr, tk_gn, tk_ald, tk_aldq, tk_aln, tk_unl, tk_una, tk_ter, tk_args, tk_cs, tk_cv, tk_ceq, tk_cne, tk_clt, tk_cge, tk_cgt, tk_cle, tk_zeq, tk_zne, tk_zlt, tk_zge, tk_zgt, tk_zle, tk_and, tk_or, tk_not, tk_ct2, tk_isC, List.headD_cons, tk_up, tk_sca, tk_scl, tkF_X2_partsOf, tkS_X2_partsOf, tk_al_2, tk_al_3, tk_al_4, tk_al_5, tk_al_6, tk_al_7, tk_al_8, tk_al_9, tk_al_10, tk_al_11, tk_al_13, tk_al_14, tk_al_16, tk_al_17, tk_al_19, tk_al_20, tk_al_22, tk_al_24, tk_al_25, tk_al_26, tk_al_27, tk_al_28, tk_al_29, tk_al_30, tk_al_32, tk_al_33, tk_al_34, tk_al_35, tk_al_36, tk_al_37, tk_al_38, tk_al_39, tk_al_40, tk_al_41, tk_al_43, tk_al_44, tk_al_46, tk_al_47, tk_al_49, tk_al_50, tk_al_52, tk_al_54, tk_al_55, tk_al_56, tk_al_57, tk_al_58, tk_al_59, tk_al_60, tk_al_62, tk_al_63, tk_al_64, tk_al_65, tk_al_66, tk_al_67, tk_al_68, tk_al_69, tk_al_70, tk_al_71, tk_al_73, tk_al_74, tk_al_76, tk_al_77, tk_al_79, tk_al_80, tk_al_81, tk_al_83, tk_al_85, tk_al_87, tk_al_89, tk_al_91, tk_al_93, tk_al_95, tk_al_97, tk_al_98, tk_al_99, tk_al_100, tk_al_101, tk_al_102, tk_al_103, tk_al_104, tk_al_105, tk_al_106, tk_al_107, tk_al_108, tk_al_109, tk_al_110, tk_al_111, tk_al_112, tk_al_113, tk_al_114, tk_al_115, tk_al_116, tk_al_117, tk_al_118, tk_al_119, tk_al_120, tk_al_121, tk_al_122, tk_al_123, tk_al_124, tk_al_125, tk_al_126, tk_al_127, tk_al_128, tk_al_129, hc.1, h8, hk, l6]
    exact hQ
  · simp [hk] at hQ
    simp [tk_fn, tk_env, tk_sq, tk_sk, tk_if, tk_re, tk_rez, tk_rev, tk_xp, tk_se, tk_pf, tk_pfz, tk_pfo, tk_as, tk_asz, tk_asb, tk_aso, tk_cpy, tk_sw, tk_swc, tk_lit, tk_loc, tk_u1, tk_bin, tk_dv, tk_gf, tk_gr, tk_gn, tk_ald, tk_aldq, tk_aln, tk_unl, tk_una, tk_ter, tk_args, tk_cs, tk_cv, tk_ceq, tk_cne, tk_clt, tk_cge, tk_cgt, tk_cle, tk_zeq, tk_zne, tk_zlt, tk_zge, tk_zgt, tk_zle, tk_and, tk_or, tk_not, tk_ct2, tk_isC, List.headD_cons, tk_up, tk_sca, tk_scl, tkF_X2_partsOf, tkS_X2_partsOf, tk_al_2, tk_al_3, tk_al_4, tk_al_5, tk_al_6, tk_al_7, tk_al_8, tk_al_9, tk_al_10, tk_al_11, tk_al_13, tk_al_14, tk_al_16, tk_al_17, tk_al_19, tk_al_20, tk_al_22, tk_al_24, tk_al_25, tk_al_26, tk_al_27, tk_al_28, tk_al_29, tk_al_30, tk_al_32, tk_al_33, tk_al_34, tk_al_35, tk_al_36, tk_al_37, tk_al_38, tk_al_39, tk_al_40, tk_al_41, tk_al_43, tk_al_44, tk_al_46, tk_al_47, tk_al_49, tk_al_50, tk_al_52, tk_al_54, tk_al_55, tk_al_56, tk_al_57, tk_al_58, tk_al_59, tk_al_60, tk_al_62, tk_al_63, tk_al_64, tk_al_65, tk_al_66, tk_al_67, tk_al_68, tk_al_69, tk_al_70, tk_al_71, tk_al_73, tk_al_74, tk_al_76, tk_al_77, tk_al_79, tk_al_80, tk_al_81, tk_al_83, tk_al_85, tk_al_87, tk_al_89, tk_al_91, tk_al_93, tk_al_95, tk_al_97, tk_al_98, tk_al_99, tk_al_100, tk_al_101, tk_al_102, tk_al_103, tk_al_104, tk_al_105, tk_al_106, tk_al_107, tk_al_108, tk_al_109, tk_al_110, tk_al_111, tk_al_112, tk_al_113, tk_al_114, tk_al_115, tk_al_116, tk_al_117, tk_al_118, tk_al_119, tk_al_120, tk_al_121, tk_al_122, tk_al_123, tk_al_124, tk_al_125, tk_al_126, tk_al_127, tk_al_128, tk_al_129, hc.1, h8, hk]
    exact hQ
  · simp [hk] at hQ
    simp [tk_fn, tk_env, tk_sq, tk_sk, tk_if, tk_re, tk_rez, tk_rev, tk_xp, tk_se, tk_pf, tk_pfz, tk_pfo, tk_as, tk_asz, tk_asb, tk_aso, tk_cpy, tk_sw, tk_swc, tk_lit, tk_loc, tk_u1, tk_bin, tk_dv, tk_gf, tk_gr, tk_gn, tk_ald, tk_aldq, tk_aln, tk_unl, tk_una, tk_ter, tk_args, tk_cs, tk_cv, tk_ceq, tk_cne, tk_clt, tk_cge, tk_cgt, tk_cle, tk_zeq, tk_zne, tk_zlt, tk_zge, tk_zgt, tk_zle, tk_and, tk_or, tk_not, tk_ct2, tk_isC, List.headD_cons, tk_up, tk_sca, tk_scl, tkF_X2_partsOf, tkS_X2_partsOf, tk_al_2, tk_al_3, tk_al_4, tk_al_5, tk_al_6, tk_al_7, tk_al_8, tk_al_9, tk_al_10, tk_al_11, tk_al_13, tk_al_14, tk_al_16, tk_al_17, tk_al_19, tk_al_20, tk_al_22, tk_al_24, tk_al_25, tk_al_26, tk_al_27, tk_al_28, tk_al_29, tk_al_30, tk_al_32, tk_al_33, tk_al_34, tk_al_35, tk_al_36, tk_al_37, tk_al_38, tk_al_39, tk_al_40, tk_al_41, tk_al_43, tk_al_44, tk_al_46, tk_al_47, tk_al_49, tk_al_50, tk_al_52, tk_al_54, tk_al_55, tk_al_56, tk_al_57, tk_al_58, tk_al_59, tk_al_60, tk_al_62, tk_al_63, tk_al_64, tk_al_65, tk_al_66, tk_al_67, tk_al_68, tk_al_69, tk_al_70, tk_al_71, tk_al_73, tk_al_74, tk_al_76, tk_al_77, tk_al_79, tk_al_80, tk_al_81, tk_al_83, tk_al_85, tk_al_87, tk_al_89, tk_al_91, tk_al_93, tk_al_95, tk_al_97, tk_al_98, tk_al_99, tk_al_100, tk_al_101, tk_al_102, tk_al_103, tk_al_104, tk_al_105, tk_al_106, tk_al_107, tk_al_108, tk_al_109, tk_al_110, tk_al_111, tk_al_112, tk_al_113, tk_al_114, tk_al_115, tk_al_116, tk_al_117, tk_al_118, tk_al_119, tk_al_120, tk_al_121, tk_al_122, tk_al_123, tk_al_124, tk_al_125, tk_al_126, tk_al_127, tk_al_128, tk_al_129, hc.1, h8, hk]
    exact x_burst31 hJ hbb hQ
  · simp [hk, tk_mx1] at hQ
    simp [tk_fn, tk_env, tk_sq, tk_sk, tk_if, tk_re, tk_rez, tk_rev, tk_xp, tk_se, tk_pf, tk_pfz, tk_pfo, tk_as, tk_asz, tk_asb, tk_aso, tk_cpy, tk_sw, tk_swc, tk_lit, tk_loc, tk_u1, tk_bin, tk_dv, tk_gf, tk_gr, tk_gn, tk_ald, tk_aldq, tk_aln, tk_unl, tk_una, tk_ter, tk_args, tk_cs, tk_cv, tk_ceq, tk_cne, tk_clt, tk_cge, tk_cgt, tk_cle, tk_zeq, tk_zne, tk_zlt, tk_zge, tk_zgt, tk_zle, tk_and, tk_or, tk_not, tk_ct2, tk_isC, List.headD_cons, tk_up, tk_sca, tk_scl, tkF_X2_partsOf, tkS_X2_partsOf, tk_al_2, tk_al_3, tk_al_4, tk_al_5, tk_al_6, tk_al_7, tk_al_8, tk_al_9, tk_al_10, tk_al_11, tk_al_13, tk_al_14, tk_al_16, tk_al_17, tk_al_19, tk_al_20, tk_al_22, tk_al_24, tk_al_25, tk_al_26, tk_al_27, tk_al_28, tk_al_29, tk_al_30, tk_al_32, tk_al_33, tk_al_34, tk_al_35, tk_al_36, tk_al_37, tk_al_38, tk_al_39, tk_al_40, tk_al_41, tk_al_43, tk_al_44, tk_al_46, tk_al_47, tk_al_49, tk_al_50, tk_al_52, tk_al_54, tk_al_55, tk_al_56, tk_al_57, tk_al_58, tk_al_59, tk_al_60, tk_al_62, tk_al_63, tk_al_64, tk_al_65, tk_al_66, tk_al_67, tk_al_68, tk_al_69, tk_al_70, tk_al_71, tk_al_73, tk_al_74, tk_al_76, tk_al_77, tk_al_79, tk_al_80, tk_al_81, tk_al_83, tk_al_85, tk_al_87, tk_al_89, tk_al_91, tk_al_93, tk_al_95, tk_al_97, tk_al_98, tk_al_99, tk_al_100, tk_al_101, tk_al_102, tk_al_103, tk_al_104, tk_al_105, tk_al_106, tk_al_107, tk_al_108, tk_al_109, tk_al_110, tk_al_111, tk_al_112, tk_al_113, tk_al_114, tk_al_115, tk_al_116, tk_al_117, tk_al_118, tk_al_119, tk_al_120, tk_al_121, tk_al_122, tk_al_123, tk_al_124, tk_al_125, tk_al_126, tk_al_127, tk_al_128, tk_al_129, hc.1, h8, hk, l6, l8, tk_mx_id]
    exact hQ
  · simp [hk] at hQ
    simp [tk_fn, tk_env, tk_sq, tk_sk, tk_if, tk_re, tk_rez, tk_rev, tk_xp, tk_se, tk_pf, tk_pfz, tk_pfo, tk_as, tk_asz, tk_asb, tk_aso, tk_cpy, tk_sw, tk_swc, tk_lit, tk_loc, tk_u1, tk_bin, tk_dv, tk_gf, tk_gr, tk_gn, tk_ald, tk_aldq, tk_aln, tk_unl, tk_una, tk_ter, tk_args, tk_cs, tk_cv, tk_ceq, tk_cne, tk_clt, tk_cge, tk_cgt, tk_cle, tk_zeq, tk_zne, tk_zlt, tk_zge, tk_zgt, tk_zle, tk_and, tk_or, tk_not, tk_ct2, tk_isC, List.headD_cons, tk_up, tk_sca, tk_scl, tkF_X2_partsOf, tkS_X2_partsOf, tk_al_2, tk_al_3, tk_al_4, tk_al_5, tk_al_6, tk_al_7, tk_al_8, tk_al_9, tk_al_10, tk_al_11, tk_al_13, tk_al_14, tk_al_16, tk_al_17, tk_al_19, tk_al_20, tk_al_22, tk_al_24, tk_al_25, tk_al_26, tk_al_27, tk_al_28, tk_al_29, tk_al_30, tk_al_32, tk_al_33, tk_al_34, tk_al_35, tk_al_36, tk_al_37, tk_al_38, tk_al_39, tk_al_40, tk_al_41, tk_al_43, tk_al_44, tk_al_46, tk_al_47, tk_al_49, tk_al_50, tk_al_52, tk_al_54, tk_al_55, tk_al_56, tk_al_57, tk_al_58, tk_al_59, tk_al_60, tk_al_62, tk_al_63, tk_al_64, tk_al_65, tk_al_66, tk_al_67, tk_al_68, tk_al_69, tk_al_70, tk_al_71, tk_al_73, tk_al_74, tk_al_76, tk_al_77, tk_al_79, tk_al_80, tk_al_81, tk_al_83, tk_al_85, tk_al_87, tk_al_89, tk_al_91, tk_al_93, tk_al_95, tk_al_97, tk_al_98, tk_al_99, tk_al_100, tk_al_101, tk_al_102, tk_al_103, tk_al_104, tk_al_105, tk_al_106, tk_al_107, tk_al_108, tk_al_109, tk_al_110, tk_al_111, tk_al_112, tk_al_113, tk_al_114, tk_al_115, tk_al_116, tk_al_117, tk_al_118, tk_al_119, tk_al_120, tk_al_121, tk_al_122, tk_al_123, tk_al_124, tk_al_125, tk_al_126, tk_al_127, tk_al_128, tk_al_129, hc.1, h8, hk, l7]
    exact hQ
  · simp [hk, tk_mx1] at hQ
    simp [tk_fn, tk_env, tk_sq, tk_sk, tk_if, tk_re, tk_rez, tk_rev, tk_xp, tk_se, tk_pf, tk_pfz, tk_pfo, tk_as, tk_asz, tk_asb, tk_aso, tk_cpy, tk_sw, tk_swc, tk_lit, tk_loc, tk_u1, tk_bin, tk_dv, tk_gf, tk_gr, tk_gn, tk_ald, tk_aldq, tk_aln, tk_unl, tk_una, tk_ter, tk_args, tk_cs, tk_cv, tk_ceq, tk_cne, tk_clt, tk_cge, tk_cgt, tk_cle, tk_zeq, tk_zne, tk_zlt, tk_zge, tk_zgt, tk_zle, tk_and, tk_or, tk_not, tk_ct2, tk_isC, List.headD_cons, tk_up, tk_sca, tk_scl, tkF_X2_partsOf, tkS_X2_partsOf, tk_al_2, tk_al_3, tk_al_4, tk_al_5, tk_al_6, tk_al_7, tk_al_8, tk_al_9, tk_al_10, tk_al_11, tk_al_13, tk_al_14, tk_al_16, tk_al_17, tk_al_19, tk_al_20, tk_al_22, tk_al_24, tk_al_25, tk_al_26, tk_al_27, tk_al_28, tk_al_29, tk_al_30, tk_al_32, tk_al_33, tk_al_34, tk_al_35, tk_al_36, tk_al_37, tk_al_38, tk_al_39, tk_al_40, tk_al_41, tk_al_43, tk_al_44, tk_al_46, tk_al_47, tk_al_49, tk_al_50, tk_al_52, tk_al_54, tk_al_55, tk_al_56, tk_al_57, tk_al_58, tk_al_59, tk_al_60, tk_al_62, tk_al_63, tk_al_64, tk_al_65, tk_al_66, tk_al_67, tk_al_68, tk_al_69, tk_al_70, tk_al_71, tk_al_73, tk_al_74, tk_al_76, tk_al_77, tk_al_79, tk_al_80, tk_al_81, tk_al_83, tk_al_85, tk_al_87, tk_al_89, tk_al_91, tk_al_93, tk_al_95, tk_al_97, tk_al_98, tk_al_99, tk_al_100, tk_al_101, tk_al_102, tk_al_103, tk_al_104, tk_al_105, tk_al_106, tk_al_107, tk_al_108, tk_al_109, tk_al_110, tk_al_111, tk_al_112, tk_al_113, tk_al_114, tk_al_115, tk_al_116, tk_al_117, tk_al_118, tk_al_119, tk_al_120, tk_al_121, tk_al_122, tk_al_123, tk_al_124, tk_al_125, tk_al_126, tk_al_127, tk_al_128, tk_al_129, hc.1, h8, hk]
    refine x_burst31 hJ hbb ?_
    have l10 : tk_isub (tk_bu (tk_hw 31 μ)) (μ 41 (4 * c + μ 31 3 % 4)) = tk_bu (tk_hw 31 μ) - μ 41 (4 * c + μ 31 3 % 4) := tk_isub_id (by omega) (by omega)
    simp [tk_al_2, tk_al_3, tk_al_4, tk_al_5, tk_al_6, tk_al_7, tk_al_8, tk_al_9, tk_al_10, tk_al_11, tk_al_13, tk_al_14, tk_al_16, tk_al_17, tk_al_19, tk_al_20, tk_al_22, tk_al_24, tk_al_25, tk_al_26, tk_al_27, tk_al_28, tk_al_29, tk_al_30, tk_al_32, tk_al_33, tk_al_34, tk_al_35, tk_al_36, tk_al_37, tk_al_38, tk_al_39, tk_al_40, tk_al_41, tk_al_43, tk_al_44, tk_al_46, tk_al_47, tk_al_49, tk_al_50, tk_al_52, tk_al_54, tk_al_55, tk_al_56, tk_al_57, tk_al_58, tk_al_59, tk_al_60, tk_al_62, tk_al_63, tk_al_64, tk_al_65, tk_al_66, tk_al_67, tk_al_68, tk_al_69, tk_al_70, tk_al_71, tk_al_73, tk_al_74, tk_al_76, tk_al_77, tk_al_79, tk_al_80, tk_al_81, tk_al_83, tk_al_85, tk_al_87, tk_al_89, tk_al_91, tk_al_93, tk_al_95, tk_al_97, tk_al_98, tk_al_99, tk_al_100, tk_al_101, tk_al_102, tk_al_103, tk_al_104, tk_al_105, tk_al_106, tk_al_107, tk_al_108, tk_al_109, tk_al_110, tk_al_111, tk_al_112, tk_al_113, tk_al_114, tk_al_115, tk_al_116, tk_al_117, tk_al_118, tk_al_119, tk_al_120, tk_al_121, tk_al_122, tk_al_123, tk_al_124, tk_al_125, tk_al_126, tk_al_127, tk_al_128, tk_al_129, l3, l4, l5, l10, h30, h32, tk_mx_id]
    exact hQ
theorem x_spend31 {b : Int} {μ : tk_M} {Q : Int → tk_M → Prop} {c : Int} (hJ : tk_J b (tk_hw 31 μ)) (hbb : b ≤ 1000000) (hc : c = -5 ∨ (0 ≤ c ∧ c < μ 31 2)) (hQ : ∀ μ', tk_fx 31 μ μ' → (∀ o i : Int, o = 51 ∨ o = 52 → μ' o i = μ o i) → tk_hw 31 μ' = tk_spn (tk_hw 31 μ) c → Q 0 μ') : tkF_X2_spend [31, c] Q μ := by
  obtain ⟨g1, g2, g3, g4, g5⟩ := x_hJ31 hJ
  rcases hc with rfl | hc
  · have l1 : tk_iadd (μ 31 3) 10 = μ 31 3 + 10 := tk_iadd_id (by omega) (by omega)
    simp [tk_fn, tk_env, tk_sq, tk_sk, tk_if, tk_re, tk_rez, tk_rev, tk_xp, tk_se, tk_pf, tk_pfz, tk_pfo, tk_as, tk_asz, tk_asb, tk_aso, tk_cpy, tk_sw, tk_swc, tk_lit, tk_loc, tk_u1, tk_bin, tk_dv, tk_gf, tk_gr, tk_gn, tk_ald, tk_aldq, tk_aln, tk_unl, tk_una, tk_ter, tk_args, tk_cs, tk_cv, tk_ceq, tk_cne, tk_clt, tk_cge, tk_cgt, tk_cle, tk_zeq, tk_zne, tk_zlt, tk_zge, tk_zgt, tk_zle, tk_and, tk_or, tk_not, tk_ct2, tk_isC, List.headD_cons, tk_up, tk_sca, tk_scl, tkF_X2_spend, tkS_X2_spend, x_hasClient, tk_bo_0, l1]
    refine hQ _ (tk_fx_s tk_fx_r (by omega)) (fun o i ho => by rw [tk_set_o (by omega)]) ?_
    have e := tk_hw_set (h := 31) (f := 0) (i := 3) (v := μ 31 3 + 10) (μ := μ) (by omega)
    rw [show (31 : Int) + 0 = 31 from rfl] at e
    rw [e]
    unfold tk_spn
    rw [if_pos (by omega)]
    rfl
  · have h := g4 c hc.1 hc.2
    have h8 : c < 8 := by omega
    have hn : ¬ c < 0 := by omega
    have hp := tk_prt_bd hJ (c := c) hc
    simp [tk_fn, tk_env, tk_sq, tk_sk, tk_if, tk_re, tk_rez, tk_rev, tk_xp, tk_se, tk_pf, tk_pfz, tk_pfo, tk_as, tk_asz, tk_asb, tk_aso, tk_cpy, tk_sw, tk_swc, tk_lit, tk_loc, tk_u1, tk_bin, tk_dv, tk_gf, tk_gr, tk_gn, tk_ald, tk_aldq, tk_aln, tk_unl, tk_una, tk_ter, tk_args, tk_cs, tk_cv, tk_ceq, tk_cne, tk_clt, tk_cge, tk_cgt, tk_cle, tk_zeq, tk_zne, tk_zlt, tk_zge, tk_zgt, tk_zle, tk_and, tk_or, tk_not, tk_ct2, tk_isC, List.headD_cons, tk_up, tk_sca, tk_scl, tkF_X2_spend, tkS_X2_spend, x_hasClient, tk_bo_0, hc.1, hc.2]
    refine x_partsOf31 hJ hbb hc ?_
    generalize hpq : tk_prt (tk_hw 31 μ) c = q at hp ⊢
    have l1 : tk_iadd (μ 31 3) q = μ 31 3 + q := tk_iadd_id (by omega) (by omega)
    have l2 : tk_iadd (μ 37 c) q = μ 37 c + q := tk_iadd_id (by omega) (by omega)
    simp [tk_al_2, tk_al_3, tk_al_4, tk_al_5, tk_al_6, tk_al_7, tk_al_8, tk_al_9, tk_al_10, tk_al_11, tk_al_13, tk_al_14, tk_al_16, tk_al_17, tk_al_19, tk_al_20, tk_al_22, tk_al_24, tk_al_25, tk_al_26, tk_al_27, tk_al_28, tk_al_29, tk_al_30, tk_al_32, tk_al_33, tk_al_34, tk_al_35, tk_al_36, tk_al_37, tk_al_38, tk_al_39, tk_al_40, tk_al_41, tk_al_43, tk_al_44, tk_al_46, tk_al_47, tk_al_49, tk_al_50, tk_al_52, tk_al_54, tk_al_55, tk_al_56, tk_al_57, tk_al_58, tk_al_59, tk_al_60, tk_al_62, tk_al_63, tk_al_64, tk_al_65, tk_al_66, tk_al_67, tk_al_68, tk_al_69, tk_al_70, tk_al_71, tk_al_73, tk_al_74, tk_al_76, tk_al_77, tk_al_79, tk_al_80, tk_al_81, tk_al_83, tk_al_85, tk_al_87, tk_al_89, tk_al_91, tk_al_93, tk_al_95, tk_al_97, tk_al_98, tk_al_99, tk_al_100, tk_al_101, tk_al_102, tk_al_103, tk_al_104, tk_al_105, tk_al_106, tk_al_107, tk_al_108, tk_al_109, tk_al_110, tk_al_111, tk_al_112, tk_al_113, tk_al_114, tk_al_115, tk_al_116, tk_al_117, tk_al_118, tk_al_119, tk_al_120, tk_al_121, tk_al_122, tk_al_123, tk_al_124, tk_al_125, tk_al_126, tk_al_127, tk_al_128, tk_al_129, hc.1, h8, tk_set_o, l1, l2]
    refine hQ _ (tk_fx_s (tk_fx_s (tk_fx_s tk_fx_r (by omega)) (by omega)) (by omega)) (fun o i ho => by rw [tk_set_o (by omega), tk_set_o (by omega), tk_set_o (by omega)]) ?_
    have e := fun v m => tk_hw_set (h := 31) (f := 0) (i := 3) (v := v) (μ := m) (by omega)
    have e6 := fun v m => tk_hw_set (h := 31) (f := 6) (i := c) (v := v) (μ := m) (by omega)
    have e7 := fun v m => tk_hw_set (h := 31) (f := 7) (i := c) (v := v) (μ := m) (by omega)
    rw [show (31 : Int) + 0 = 31 from rfl] at e
    rw [show (31 : Int) + 6 = 37 from rfl] at e6
    rw [show (31 : Int) + 7 = 38 from rfl] at e7
    rw [e, e7, e6]
    unfold tk_spn
    rw [if_neg hn, hpq]
    rfl
theorem x_growPass31 {b : Int} {μ : tk_M} {Q : Int → tk_M → Prop} {c st : Int} (hJ : tk_JL b (tk_hw 31 μ)) (hbb : b ≤ 1000000) (hc : 0 ≤ c ∧ c < μ 31 2) (hst : 1 ≤ st ∧ st ≤ 100000000) (hQ : ∀ μ', tk_fx 31 μ μ' → (∀ o i : Int, o = 51 ∨ o = 52 → μ' o i = μ o i) → tk_hw 31 μ' = tk_gro (tk_hw 31 μ) c st → Q 0 μ') : tkF_X2_growPass [31, c, st] Q μ := by
  obtain ⟨g1, g2, g3, g4, g5⟩ := x_hJ31 hJ.1
  have h8 : c < 8 := by omega
  have h108 := (g4 c hc.1 hc.2).2.2.2.2.1
  have hps := tk_gro_pass hJ.1 hc hst
  have l1 : tk_ladd (μ 39 c) st = μ 39 c + st := tk_ladd_id (by omega) (by omega)
  have hS8 : tk_hw 31 μ 8 c = μ 39 c := rfl
  have e8 := fun v m => tk_hw_set (h := 31) (f := 8) (i := c) (v := v) (μ := m) (by omega)
  rw [show (31 : Int) + 8 = 39 from rfl] at e8
  have fin : ∀ μ1, tk_fx 31 μ μ1 → (∀ o i : Int, o = 51 ∨ o = 52 → μ1 o i = μ o i) → tk_hw 31 μ1 = tk_lwd (tk_hw 31 μ) c st → Q 0 (tk_set μ1 39 c (tk_iadd (μ1 39 c) st)) := by
    intro μ1 hf1 hd1 he1
    have e1 : μ1 39 c = tk_lwd (tk_hw 31 μ) c st 8 c := by rw [← he1]; rfl
    have l2 : tk_iadd (μ1 39 c) st = μ1 39 c + st := tk_iadd_id (by omega) (by omega)
    rw [l2]
    refine hQ _ (tk_fx_s hf1 (by omega)) (fun o i ho => by rw [tk_set_o (by omega)]; exact hd1 o i ho) ?_
    rw [e8, he1, e1]
    rfl
  by_cases hw : 2147483647 < μ 39 c + st
  · simp [tk_fn, tk_env, tk_sq, tk_sk, tk_if, tk_re, tk_rez, tk_rev, tk_xp, tk_se, tk_pf, tk_pfz, tk_pfo, tk_as, tk_asz, tk_asb, tk_aso, tk_cpy, tk_sw, tk_swc, tk_lit, tk_loc, tk_u1, tk_bin, tk_dv, tk_gf, tk_gr, tk_gn, tk_ald, tk_aldq, tk_aln, tk_unl, tk_una, tk_ter, tk_args, tk_cs, tk_cv, tk_ceq, tk_cne, tk_clt, tk_cge, tk_cgt, tk_cle, tk_zeq, tk_zne, tk_zlt, tk_zge, tk_zgt, tk_zle, tk_and, tk_or, tk_not, tk_ct2, tk_isC, List.headD_cons, tk_up, tk_sca, tk_scl, tkF_X2_growPass, tkS_X2_growPass, tk_al_2, tk_al_3, tk_al_4, tk_al_5, tk_al_6, tk_al_7, tk_al_8, tk_al_9, tk_al_10, tk_al_11, tk_al_13, tk_al_14, tk_al_16, tk_al_17, tk_al_19, tk_al_20, tk_al_22, tk_al_24, tk_al_25, tk_al_26, tk_al_27, tk_al_28, tk_al_29, tk_al_30, tk_al_32, tk_al_33, tk_al_34, tk_al_35, tk_al_36, tk_al_37, tk_al_38, tk_al_39, tk_al_40, tk_al_41, tk_al_43, tk_al_44, tk_al_46, tk_al_47, tk_al_49, tk_al_50, tk_al_52, tk_al_54, tk_al_55, tk_al_56, tk_al_57, tk_al_58, tk_al_59, tk_al_60, tk_al_62, tk_al_63, tk_al_64, tk_al_65, tk_al_66, tk_al_67, tk_al_68, tk_al_69, tk_al_70, tk_al_71, tk_al_73, tk_al_74, tk_al_76, tk_al_77, tk_al_79, tk_al_80, tk_al_81, tk_al_83, tk_al_85, tk_al_87, tk_al_89, tk_al_91, tk_al_93, tk_al_95, tk_al_97, tk_al_98, tk_al_99, tk_al_100, tk_al_101, tk_al_102, tk_al_103, tk_al_104, tk_al_105, tk_al_106, tk_al_107, tk_al_108, tk_al_109, tk_al_110, tk_al_111, tk_al_112, tk_al_113, tk_al_114, tk_al_115, tk_al_116, tk_al_117, tk_al_118, tk_al_119, tk_al_120, tk_al_121, tk_al_122, tk_al_123, tk_al_124, tk_al_125, tk_al_126, tk_al_127, tk_al_128, tk_al_129, hc.1, h8, l1, hw]
    refine tk_for (μ 31 2) (fun i ρ μ' => ρ 0 = 31 ∧ ρ 1 = c ∧ ρ 2 = st ∧ ρ 3 = μ 39 c ∧ ρ 4 = i ∧ (∀ o j : Int, ¬ o = 39 → μ' o j = μ o j) ∧ ∀ j : Int, μ' 39 j = if 0 ≤ j ∧ j < i then (if μ 39 j < μ 39 c then 0 else μ 39 j - μ 39 c) else μ 39 j) g1.1 ⟨rfl, rfl, rfl, rfl, rfl, fun _ _ _ => rfl, fun j => by rw [if_neg (by omega)]⟩ ?_ ?_
    · rintro i ρ μ' hi0 hi6 ⟨r0, r1, r2, r3, r4, hf, hz⟩ K hK
      have i1 : tk_iadd i 1 = i + 1 := tk_iadd_id (by omega) (by omega)
      have h88 : i < 8 := by omega
      have e1 : μ' 31 2 = μ 31 2 := hf _ _ (by omega)
      have e2 := hz i
      rw [if_neg (by omega)] at e2
      have h := (g4 i hi0 hi6).2.2.2.2.1
      have l1 : tk_isub (μ 39 i) (μ 39 c) = μ 39 i - μ 39 c := tk_isub_id (by omega) (by omega)
      have lm : tk_mx (μ 39 i - μ 39 c) 0 = if μ 39 i < μ 39 c then 0 else μ 39 i - μ 39 c := by
        unfold tk_mx
        by_cases hq : μ 39 i < μ 39 c
        · rw [if_pos (by omega), if_pos hq]
        · rw [if_neg (by omega), if_neg hq]
      simp [tk_fn, tk_env, tk_sq, tk_sk, tk_if, tk_re, tk_rez, tk_rev, tk_xp, tk_se, tk_pf, tk_pfz, tk_pfo, tk_as, tk_asz, tk_asb, tk_aso, tk_cpy, tk_sw, tk_swc, tk_lit, tk_loc, tk_u1, tk_bin, tk_dv, tk_gf, tk_gr, tk_gn, tk_ald, tk_aldq, tk_aln, tk_unl, tk_una, tk_ter, tk_args, tk_cs, tk_cv, tk_ceq, tk_cne, tk_clt, tk_cge, tk_cgt, tk_cle, tk_zeq, tk_zne, tk_zlt, tk_zge, tk_zgt, tk_zle, tk_and, tk_or, tk_not, tk_ct2, tk_isC, List.headD_cons, tk_up, tk_sca, tk_scl, r0, r3, r4, e1, e2, hi0, hi6, h88, tk_al_2, tk_al_3, tk_al_4, tk_al_5, tk_al_6, tk_al_7, tk_al_8, tk_al_9, tk_al_10, tk_al_11, tk_al_13, tk_al_14, tk_al_16, tk_al_17, tk_al_19, tk_al_20, tk_al_22, tk_al_24, tk_al_25, tk_al_26, tk_al_27, tk_al_28, tk_al_29, tk_al_30, tk_al_32, tk_al_33, tk_al_34, tk_al_35, tk_al_36, tk_al_37, tk_al_38, tk_al_39, tk_al_40, tk_al_41, tk_al_43, tk_al_44, tk_al_46, tk_al_47, tk_al_49, tk_al_50, tk_al_52, tk_al_54, tk_al_55, tk_al_56, tk_al_57, tk_al_58, tk_al_59, tk_al_60, tk_al_62, tk_al_63, tk_al_64, tk_al_65, tk_al_66, tk_al_67, tk_al_68, tk_al_69, tk_al_70, tk_al_71, tk_al_73, tk_al_74, tk_al_76, tk_al_77, tk_al_79, tk_al_80, tk_al_81, tk_al_83, tk_al_85, tk_al_87, tk_al_89, tk_al_91, tk_al_93, tk_al_95, tk_al_97, tk_al_98, tk_al_99, tk_al_100, tk_al_101, tk_al_102, tk_al_103, tk_al_104, tk_al_105, tk_al_106, tk_al_107, tk_al_108, tk_al_109, tk_al_110, tk_al_111, tk_al_112, tk_al_113, tk_al_114, tk_al_115, tk_al_116, tk_al_117, tk_al_118, tk_al_119, tk_al_120, tk_al_121, tk_al_122, tk_al_123, tk_al_124, tk_al_125, tk_al_126, tk_al_127, tk_al_128, tk_al_129, i1, l1, lm]
      refine hK _ _ ⟨r0, r1, r2, r3, rfl, fun o j ho => by rw [tk_set_o ho]; exact hf o j ho, fun j => ?_⟩
      by_cases hj : j = i
      · subst hj
        rw [tk_set_eq, if_pos (show 0 ≤ j ∧ j < j + 1 by omega)]
      · rw [tk_set_j hj, hz]
        by_cases h3 : 0 ≤ j ∧ j < i
        · rw [if_pos h3, if_pos (show 0 ≤ j ∧ j < i + 1 by omega)]
        · rw [if_neg h3, if_neg (show ¬ (0 ≤ j ∧ j < i + 1) by omega)]
    · rintro ρ μ' ⟨r0, r1, r2, r3, r4, hf, hz⟩ X
      have e1 : μ' 31 2 = μ 31 2 := hf _ _ (by omega)
      have e2 : μ' 31 4 = μ 31 4 := hf _ _ (by omega)
      have l3 : tk_iadd (μ 31 4) 1 = μ 31 4 + 1 := tk_iadd_id (by omega) (by omega)
      simp [tk_fn, tk_env, tk_sq, tk_sk, tk_if, tk_re, tk_rez, tk_rev, tk_xp, tk_se, tk_pf, tk_pfz, tk_pfo, tk_as, tk_asz, tk_asb, tk_aso, tk_cpy, tk_sw, tk_swc, tk_lit, tk_loc, tk_u1, tk_bin, tk_dv, tk_gf, tk_gr, tk_gn, tk_ald, tk_aldq, tk_aln, tk_unl, tk_una, tk_ter, tk_args, tk_cs, tk_cv, tk_ceq, tk_cne, tk_clt, tk_cge, tk_cgt, tk_cle, tk_zeq, tk_zne, tk_zlt, tk_zge, tk_zgt, tk_zle, tk_and, tk_or, tk_not, tk_ct2, tk_isC, List.headD_cons, tk_up, tk_sca, tk_scl, r0, r1, r2, r4, e1, e2, l3, tk_al_2, tk_al_3, tk_al_4, tk_al_5, tk_al_6, tk_al_7, tk_al_8, tk_al_9, tk_al_10, tk_al_11, tk_al_13, tk_al_14, tk_al_16, tk_al_17, tk_al_19, tk_al_20, tk_al_22, tk_al_24, tk_al_25, tk_al_26, tk_al_27, tk_al_28, tk_al_29, tk_al_30, tk_al_32, tk_al_33, tk_al_34, tk_al_35, tk_al_36, tk_al_37, tk_al_38, tk_al_39, tk_al_40, tk_al_41, tk_al_43, tk_al_44, tk_al_46, tk_al_47, tk_al_49, tk_al_50, tk_al_52, tk_al_54, tk_al_55, tk_al_56, tk_al_57, tk_al_58, tk_al_59, tk_al_60, tk_al_62, tk_al_63, tk_al_64, tk_al_65, tk_al_66, tk_al_67, tk_al_68, tk_al_69, tk_al_70, tk_al_71, tk_al_73, tk_al_74, tk_al_76, tk_al_77, tk_al_79, tk_al_80, tk_al_81, tk_al_83, tk_al_85, tk_al_87, tk_al_89, tk_al_91, tk_al_93, tk_al_95, tk_al_97, tk_al_98, tk_al_99, tk_al_100, tk_al_101, tk_al_102, tk_al_103, tk_al_104, tk_al_105, tk_al_106, tk_al_107, tk_al_108, tk_al_109, tk_al_110, tk_al_111, tk_al_112, tk_al_113, tk_al_114, tk_al_115, tk_al_116, tk_al_117, tk_al_118, tk_al_119, tk_al_120, tk_al_121, tk_al_122, tk_al_123, tk_al_124, tk_al_125, tk_al_126, tk_al_127, tk_al_128, tk_al_129, hc.1, h8]
      refine fin _ (tk_fx_s (fun o i ho => hf o i (by omega)) (by omega)) (fun o i ho => by rw [tk_set_o (by omega)]; exact hf o i (by omega)) ?_
      unfold tk_lwd
      rw [hS8, if_pos hw]
      funext f j
      have hr : ∀ f : Int, ¬ f = 8 → ∀ j, tk_hw 31 μ' f j = tk_hw 31 μ f j := fun f hf2 j => by
        unfold tk_hw
        split
        · exact hf _ _ (by omega)
        · rfl
      have hq := tk_hw_set (h := 31) (f := 0) (i := 4) (v := μ 31 4 + 1) (μ := μ') (by omega)
      rw [show (31 : Int) + 0 = 31 from rfl] at hq
      rw [hq]
      unfold tk_low tk_set
      by_cases h8 : f = 8
      · subst h8
        simp
        have e3 : tk_hw 31 μ' 8 j = μ' 39 j := rfl
        have e4 : tk_hw 31 μ 8 j = μ 39 j := rfl
        have e5 : tk_hw 31 μ 0 2 = μ 31 2 := rfl
        rw [e3, e4, e5, hz]
      · simp [h8]
        rw [hr f h8]
        rfl
  · simp [tk_fn, tk_env, tk_sq, tk_sk, tk_if, tk_re, tk_rez, tk_rev, tk_xp, tk_se, tk_pf, tk_pfz, tk_pfo, tk_as, tk_asz, tk_asb, tk_aso, tk_cpy, tk_sw, tk_swc, tk_lit, tk_loc, tk_u1, tk_bin, tk_dv, tk_gf, tk_gr, tk_gn, tk_ald, tk_aldq, tk_aln, tk_unl, tk_una, tk_ter, tk_args, tk_cs, tk_cv, tk_ceq, tk_cne, tk_clt, tk_cge, tk_cgt, tk_cle, tk_zeq, tk_zne, tk_zlt, tk_zge, tk_zgt, tk_zle, tk_and, tk_or, tk_not, tk_ct2, tk_isC, List.headD_cons, tk_up, tk_sca, tk_scl, tkF_X2_growPass, tkS_X2_growPass, tk_al_2, tk_al_3, tk_al_4, tk_al_5, tk_al_6, tk_al_7, tk_al_8, tk_al_9, tk_al_10, tk_al_11, tk_al_13, tk_al_14, tk_al_16, tk_al_17, tk_al_19, tk_al_20, tk_al_22, tk_al_24, tk_al_25, tk_al_26, tk_al_27, tk_al_28, tk_al_29, tk_al_30, tk_al_32, tk_al_33, tk_al_34, tk_al_35, tk_al_36, tk_al_37, tk_al_38, tk_al_39, tk_al_40, tk_al_41, tk_al_43, tk_al_44, tk_al_46, tk_al_47, tk_al_49, tk_al_50, tk_al_52, tk_al_54, tk_al_55, tk_al_56, tk_al_57, tk_al_58, tk_al_59, tk_al_60, tk_al_62, tk_al_63, tk_al_64, tk_al_65, tk_al_66, tk_al_67, tk_al_68, tk_al_69, tk_al_70, tk_al_71, tk_al_73, tk_al_74, tk_al_76, tk_al_77, tk_al_79, tk_al_80, tk_al_81, tk_al_83, tk_al_85, tk_al_87, tk_al_89, tk_al_91, tk_al_93, tk_al_95, tk_al_97, tk_al_98, tk_al_99, tk_al_100, tk_al_101, tk_al_102, tk_al_103, tk_al_104, tk_al_105, tk_al_106, tk_al_107, tk_al_108, tk_al_109, tk_al_110, tk_al_111, tk_al_112, tk_al_113, tk_al_114, tk_al_115, tk_al_116, tk_al_117, tk_al_118, tk_al_119, tk_al_120, tk_al_121, tk_al_122, tk_al_123, tk_al_124, tk_al_125, tk_al_126, tk_al_127, tk_al_128, tk_al_129, hc.1, h8, l1, hw]
    exact fin _ tk_fx_r (fun _ _ _ => rfl) (by unfold tk_lwd; rw [hS8, if_neg hw])
