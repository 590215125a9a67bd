/-! ===== Layer 2: the Model's quanta go ===== -/
theorem tk_nx_s {sh : Int → Int} {S : tk_M} {i : Int} (hi : 0 ≤ i) : tk_nx sh S (i + 1).toNat = if tk_rd sh S i = 1 ∧ (tk_nx sh S i.toNat < 0 ∨ S 8 i < S 8 (tk_nx sh S i.toNat)) then i else tk_nx sh S i.toNat := by
  obtain ⟨m, rfl⟩ := tk_nnt hi
  have e : ((m : Int) + 1).toNat = m + 1 := by omega
  rw [e, Int.toNat_natCast]
  rfl
theorem tk_fd_s {P : Int → Prop} {f : Int → Int} {i : Int} (hi : 0 ≤ i) : tk_fd P f (i + 1).toNat = if tk_fd P f i.toNat < 0 ∧ f i = 1 then i else tk_fd P f i.toNat := by
  obtain ⟨m, rfl⟩ := tk_nnt hi
  have e : ((m : Int) + 1).toNat = m + 1 := by omega
  rw [e, Int.toNat_natCast]
  rfl
theorem m_quantumOf {b : Int} {μ : tk_M} {Q : Int → tk_M → Prop} {c : Int} (hJ : tk_J b (tk_mv μ)) (hbb : b ≤ 1000000) (hc : c = -5 ∨ (0 ≤ c ∧ c < μ 96 5)) (hQ : ∀ μ', tk_fq μ μ' → tk_mv μ' = tk_spn (tk_mv μ) c → μ' 96 37 = μ 96 37 → Q 0 μ') : tkF_X7_quantumOf [96, c] Q μ := by
  obtain ⟨g1, g2, g3, g4, g5⟩ := tk_mJ hJ
  rcases hc with rfl | hc
  · have l1 : tk_iadd (μ 96 13) 10 = μ 96 13 + 10 := tk_iadd_id (by omega) (by omega)
    simp [tk_fn, tk_env, tk_sq, tk_sk, tk_if, tk_re, tk_rez, tk_rev, tk_xp, tk_se, tk_pf, tk_pfz, tk_pfo, tk_as, tk_asz, tk_asb, tk_aso, tk_cpy, tk_sw, tk_swc, tk_lit, tk_loc, tk_u1, tk_bin, tk_dv, tk_gf, tk_gr, tk_gn, tk_ald, tk_aldq, tk_aln, tk_unl, tk_una, tk_ter, tk_args, tk_cs, tk_cv, tk_ceq, tk_cne, tk_clt, tk_cge, tk_cgt, tk_cle, tk_zeq, tk_zne, tk_zlt, tk_zge, tk_zgt, tk_zle, tk_and, tk_or, tk_not, tk_ct2, tk_isC, List.headD_cons, tk_up, tk_sca, tk_scl, tkF_X7_quantumOf, tkS_X7_quantumOf, l1]
    refine hQ _ (tk_fq_s tk_fq_r (by omega)) ?_ (by simp [tk_set])
    rw [tk_mv_13]
    unfold tk_spn
    rw [if_pos (by omega)]
    rfl
  · have h := g4 c hc.1 hc.2
    have h8 : c < 8 := by omega
    have hn : ¬ c < 0 := by omega
    have hp := tk_prt_bd hJ (c := c) hc
    simp [tk_fn, tk_env, tk_sq, tk_sk, tk_if, tk_re, tk_rez, tk_rev, tk_xp, tk_se, tk_pf, tk_pfz, tk_pfo, tk_as, tk_asz, tk_asb, tk_aso, tk_cpy, tk_sw, tk_swc, tk_lit, tk_loc, tk_u1, tk_bin, tk_dv, tk_gf, tk_gr, tk_gn, tk_ald, tk_aldq, tk_aln, tk_unl, tk_una, tk_ter, tk_args, tk_cs, tk_cv, tk_ceq, tk_cne, tk_clt, tk_cge, tk_cgt, tk_cle, tk_zeq, tk_zne, tk_zlt, tk_zge, tk_zgt, tk_zle, tk_and, tk_or, tk_not, tk_ct2, tk_isC, List.headD_cons, tk_up, tk_sca, tk_scl, tkF_X7_quantumOf, tkS_X7_quantumOf, hn]
    refine m_partsOf hJ hbb hc ?_
    generalize hpq : tk_prt (tk_mv μ) c = q at hp ⊢
    have l1 : tk_iadd (μ 96 13) q = μ 96 13 + q := tk_iadd_id (by omega) (by omega)
    have l2 : tk_iadd (μ 102 c) q = μ 102 c + q := tk_iadd_id (by omega) (by omega)
    simp [tk_al_2, tk_al_3, tk_al_4, tk_al_5, tk_al_6, tk_al_7, tk_al_8, tk_al_9, tk_al_10, tk_al_11, tk_al_13, tk_al_14, tk_al_16, tk_al_17, tk_al_19, tk_al_20, tk_al_22, tk_al_24, tk_al_25, tk_al_26, tk_al_27, tk_al_28, tk_al_29, tk_al_30, tk_al_32, tk_al_33, tk_al_34, tk_al_35, tk_al_36, tk_al_37, tk_al_38, tk_al_39, tk_al_40, tk_al_41, tk_al_43, tk_al_44, tk_al_46, tk_al_47, tk_al_49, tk_al_50, tk_al_52, tk_al_54, tk_al_55, tk_al_56, tk_al_57, tk_al_58, tk_al_59, tk_al_60, tk_al_62, tk_al_63, tk_al_64, tk_al_65, tk_al_66, tk_al_67, tk_al_68, tk_al_69, tk_al_70, tk_al_71, tk_al_73, tk_al_74, tk_al_76, tk_al_77, tk_al_79, tk_al_80, tk_al_81, tk_al_83, tk_al_85, tk_al_87, tk_al_89, tk_al_91, tk_al_93, tk_al_95, tk_al_97, tk_al_98, tk_al_99, tk_al_100, tk_al_101, tk_al_102, tk_al_103, tk_al_104, tk_al_105, tk_al_106, tk_al_107, tk_al_108, tk_al_109, tk_al_110, tk_al_111, tk_al_112, tk_al_113, tk_al_114, tk_al_115, tk_al_116, tk_al_117, tk_al_118, tk_al_119, tk_al_120, tk_al_121, tk_al_122, tk_al_123, tk_al_124, tk_al_125, tk_al_126, tk_al_127, tk_al_128, tk_al_129, hc.1, h8, tk_set_o, l1, l2]
    refine hQ _ (tk_fq_s (tk_fq_s (tk_fq_s tk_fq_r (by omega)) (by omega)) (by omega)) ?_ (by simp [tk_set])
    rw [tk_mv_13, tk_mv_103, tk_mv_102]
    unfold tk_spn
    rw [if_neg hn, hpq]
    rfl
theorem m_nextOf {b : Int} {sh : Int → Int} {μ : tk_M} {Q : Int → tk_M → Prop} (hJ : tk_J b (tk_mv μ)) (hm : tk_mq sh μ) (hb : tk_shb sh) (hQ : Q (tk_nxt sh (tk_mv μ)) μ) : tkF_X7_nextOf [96] Q μ := by
  obtain ⟨g1, g2, g3, g4, g5⟩ := tk_mJ hJ
  have hnP : tk_mv μ 0 2 = μ 96 5 := rfl
  simp [tk_fn, tk_env, tk_sq, tk_sk, tk_if, tk_re, tk_rez, tk_rev, tk_xp, tk_se, tk_pf, tk_pfz, tk_pfo, tk_as, tk_asz, tk_asb, tk_aso, tk_cpy, tk_sw, tk_swc, tk_lit, tk_loc, tk_u1, tk_bin, tk_dv, tk_gf, tk_gr, tk_gn, tk_ald, tk_aldq, tk_aln, tk_unl, tk_una, tk_ter, tk_args, tk_cs, tk_cv, tk_ceq, tk_cne, tk_clt, tk_cge, tk_cgt, tk_cle, tk_zeq, tk_zne, tk_zlt, tk_zge, tk_zgt, tk_zle, tk_and, tk_or, tk_not, tk_ct2, tk_isC, List.headD_cons, tk_up, tk_sca, tk_scl, tkF_X7_nextOf, tkS_X7_nextOf]
  refine tk_for (μ 96 5) (fun i ρ μ' => μ' = μ ∧ ρ 0 = 96 ∧ ρ 2 = i ∧ ρ 1 = tk_nx sh (tk_mv μ) i.toNat) g1.1 ⟨rfl, rfl, rfl, rfl⟩ ?_ ?_
  · rintro i ρ μ' hi0 hi6 ⟨rfl, r0, r2, r1⟩ K hK
    have i1 : tk_iadd i 1 = i + 1 := tk_iadd_id (by omega) (by omega)
    have h8 : i < 8 := by omega
    have e : (i + 1).toNat = i.toNat + 1 := by omega
    have e2 : ((i.toNat : Nat) : Int) = i := by omega
    have hx : tk_nx sh (tk_mv μ') (i + 1).toNat = if tk_rd sh (tk_mv μ') i = 1 ∧ (tk_nx sh (tk_mv μ') i.toNat < 0 ∨ μ' 104 i < μ' 104 (tk_nx sh (tk_mv μ') i.toNat)) then i else tk_nx sh (tk_mv μ') i.toNat := tk_nx_s hi0
    have hin := tk_nx_in (sh := sh) (S := tk_mv μ') i.toNat
    generalize tk_nx sh (tk_mv μ') i.toNat = f at r1 hx hin
    simp [tk_fn, tk_env, tk_sq, tk_sk, tk_if, tk_re, tk_rez, tk_rev, tk_xp, tk_se, tk_pf, tk_pfz, tk_pfo, tk_as, tk_asz, tk_asb, tk_aso, tk_cpy, tk_sw, tk_swc, tk_lit, tk_loc, tk_u1, tk_bin, tk_dv, tk_gf, tk_gr, tk_gn, tk_ald, tk_aldq, tk_aln, tk_unl, tk_una, tk_ter, tk_args, tk_cs, tk_cv, tk_ceq, tk_cne, tk_clt, tk_cge, tk_cgt, tk_cle, tk_zeq, tk_zne, tk_zlt, tk_zge, tk_zgt, tk_zle, tk_and, tk_or, tk_not, tk_ct2, tk_isC, List.headD_cons, tk_up, tk_sca, tk_scl, r0, r1, r2, hi6, i1]
    refine m_isReady hJ hm hb ⟨hi0, hi6⟩ ?_
    rcases tk_rd_01 (sh := sh) (S := tk_mv μ') (c := i) with h | h
    · rw [h] at hx ⊢
      simp
      refine hK _ _ ⟨rfl, r0, rfl, ?_⟩
      rw [hx]
      simp [tk_up]
    · rw [h] at hx ⊢
      by_cases hf : f < 0
      · simp [hf]
        refine hK _ _ ⟨rfl, r0, rfl, ?_⟩
        rw [hx]
        simp [hf, tk_up]
      · have hf0 : 0 ≤ f := by omega
        have hf8 : f < 8 := by omega
        by_cases hl : μ' 104 i < μ' 104 f
        · simp [hf, hf0, hf8, tk_al_2, tk_al_3, tk_al_4, tk_al_5, tk_al_6, tk_al_7, tk_al_8, tk_al_9, tk_al_10, tk_al_11, tk_al_13, tk_al_14, tk_al_16, tk_al_17, tk_al_19, tk_al_20, tk_al_22, tk_al_24, tk_al_25, tk_al_26, tk_al_27, tk_al_28, tk_al_29, tk_al_30, tk_al_32, tk_al_33, tk_al_34, tk_al_35, tk_al_36, tk_al_37, tk_al_38, tk_al_39, tk_al_40, tk_al_41, tk_al_43, tk_al_44, tk_al_46, tk_al_47, tk_al_49, tk_al_50, tk_al_52, tk_al_54, tk_al_55, tk_al_56, tk_al_57, tk_al_58, tk_al_59, tk_al_60, tk_al_62, tk_al_63, tk_al_64, tk_al_65, tk_al_66, tk_al_67, tk_al_68, tk_al_69, tk_al_70, tk_al_71, tk_al_73, tk_al_74, tk_al_76, tk_al_77, tk_al_79, tk_al_80, tk_al_81, tk_al_83, tk_al_85, tk_al_87, tk_al_89, tk_al_91, tk_al_93, tk_al_95, tk_al_97, tk_al_98, tk_al_99, tk_al_100, tk_al_101, tk_al_102, tk_al_103, tk_al_104, tk_al_105, tk_al_106, tk_al_107, tk_al_108, tk_al_109, tk_al_110, tk_al_111, tk_al_112, tk_al_113, tk_al_114, tk_al_115, tk_al_116, tk_al_117, tk_al_118, tk_al_119, tk_al_120, tk_al_121, tk_al_122, tk_al_123, tk_al_124, tk_al_125, tk_al_126, tk_al_127, tk_al_128, tk_al_129, hi0, h8, hl]
          refine hK _ _ ⟨rfl, r0, rfl, ?_⟩
          rw [hx]
          simp [hl, tk_up]
        · simp [hf, hf0, hf8, tk_al_2, tk_al_3, tk_al_4, tk_al_5, tk_al_6, tk_al_7, tk_al_8, tk_al_9, tk_al_10, tk_al_11, tk_al_13, tk_al_14, tk_al_16, tk_al_17, tk_al_19, tk_al_20, tk_al_22, tk_al_24, tk_al_25, tk_al_26, tk_al_27, tk_al_28, tk_al_29, tk_al_30, tk_al_32, tk_al_33, tk_al_34, tk_al_35, tk_al_36, tk_al_37, tk_al_38, tk_al_39, tk_al_40, tk_al_41, tk_al_43, tk_al_44, tk_al_46, tk_al_47, tk_al_49, tk_al_50, tk_al_52, tk_al_54, tk_al_55, tk_al_56, tk_al_57, tk_al_58, tk_al_59, tk_al_60, tk_al_62, tk_al_63, tk_al_64, tk_al_65, tk_al_66, tk_al_67, tk_al_68, tk_al_69, tk_al_70, tk_al_71, tk_al_73, tk_al_74, tk_al_76, tk_al_77, tk_al_79, tk_al_80, tk_al_81, tk_al_83, tk_al_85, tk_al_87, tk_al_89, tk_al_91, tk_al_93, tk_al_95, tk_al_97, tk_al_98, tk_al_99, tk_al_100, tk_al_101, tk_al_102, tk_al_103, tk_al_104, tk_al_105, tk_al_106, tk_al_107, tk_al_108, tk_al_109, tk_al_110, tk_al_111, tk_al_112, tk_al_113, tk_al_114, tk_al_115, tk_al_116, tk_al_117, tk_al_118, tk_al_119, tk_al_120, tk_al_121, tk_al_122, tk_al_123, tk_al_124, tk_al_125, tk_al_126, tk_al_127, tk_al_128, tk_al_129, hi0, h8, hl]
          refine hK _ _ ⟨rfl, r0, rfl, ?_⟩
          rw [hx]
          simp [hf, hl, tk_up]
  · rintro ρ μ' ⟨rfl, r0, r2, r1⟩ X
    simp [tk_fn, tk_env, tk_sq, tk_sk, tk_if, tk_re, tk_rez, tk_rev, tk_xp, tk_se, tk_pf, tk_pfz, tk_pfo, tk_as, tk_asz, tk_asb, tk_aso, tk_cpy, tk_sw, tk_swc, tk_lit, tk_loc, tk_u1, tk_bin, tk_dv, tk_gf, tk_gr, tk_gn, tk_ald, tk_aldq, tk_aln, tk_unl, tk_una, tk_ter, tk_args, tk_cs, tk_cv, tk_ceq, tk_cne, tk_clt, tk_cge, tk_cgt, tk_cle, tk_zeq, tk_zne, tk_zlt, tk_zge, tk_zgt, tk_zle, tk_and, tk_or, tk_not, tk_ct2, tk_isC, List.headD_cons, tk_up, tk_sca, tk_scl, r0, r1, r2]
    exact hQ
theorem m_lower {b : Int} {μ : tk_M} {Q : Int → tk_M → Prop} {v : Int} (hJ : tk_J b (tk_mv μ)) (hbb : b ≤ 1000000) (hv : 0 ≤ v ∧ v ≤ 2147483647) (hQ : ∀ μ', tk_fq μ μ' → tk_mv μ' = tk_low (tk_mv μ) v → μ' 96 37 = μ 96 37 → Q 0 μ') : tkF_X7_lower [96, v] Q μ := by
  obtain ⟨g1, g2, g3, g4, g5⟩ := tk_mJ hJ
  simp [tk_fn, tk_env, tk_sq, tk_sk, tk_if, tk_re, tk_rez, tk_rev, tk_xp, tk_se, tk_pf, tk_pfz, tk_pfo, tk_as, tk_asz, tk_asb, tk_aso, tk_cpy, tk_sw, tk_swc, tk_lit, tk_loc, tk_u1, tk_bin, tk_dv, tk_gf, tk_gr, tk_gn, tk_ald, tk_aldq, tk_aln, tk_unl, tk_una, tk_ter, tk_args, tk_cs, tk_cv, tk_ceq, tk_cne, tk_clt, tk_cge, tk_cgt, tk_cle, tk_zeq, tk_zne, tk_zlt, tk_zge, tk_zgt, tk_zle, tk_and, tk_or, tk_not, tk_ct2, tk_isC, List.headD_cons, tk_up, tk_sca, tk_scl, tkF_X7_lower, tkS_X7_lower]
  refine tk_for (μ 96 5) (fun i ρ μ' => ρ 0 = 96 ∧ ρ 1 = v ∧ ρ 2 = i ∧ (∀ o j : Int, ¬ o = 104 → μ' o j = μ o j) ∧ ∀ j : Int, μ' 104 j = if 0 ≤ j ∧ j < i then (if μ 104 j < v then 0 else μ 104 j - v) else μ 104 j) g1.1 ⟨rfl, rfl, rfl, fun _ _ _ => rfl, fun j => by rw [if_neg (by omega)]⟩ ?_ ?_
  · rintro i ρ μ' hi0 hi6 ⟨r0, r1, r2, hf, hz⟩ K hK
    have i1 : tk_iadd i 1 = i + 1 := tk_iadd_id (by omega) (by omega)
    have h8 : i < 8 := by omega
    have e1 : μ' 96 5 = μ 96 5 := hf _ _ (by omega)
    have e2 := hz i
    rw [if_neg (by omega)] at e2
    have h := (g4 i hi0 hi6).2.2.2.2.1
    have l1 : tk_isub (μ 104 i) v = μ 104 i - v := tk_isub_id (by omega) (by omega)
    have fin : ∀ w : Int, w = (if μ 104 i < v then 0 else μ 104 i - v) → (∀ o j : Int, ¬ o = 104 → tk_set μ' 104 i w o j = μ o j) ∧ ∀ j : Int, tk_set μ' 104 i w 104 j = if 0 ≤ j ∧ j < i + 1 then (if μ 104 j < v then 0 else μ 104 j - v) else μ 104 j := by
      intro w hw
      refine ⟨fun o j ho => by rw [tk_set_o ho]; exact hf o j ho, fun j => ?_⟩
      by_cases hj : j = i
      · subst hj
        rw [tk_set_eq, if_pos (by omega), hw]
      · rw [tk_set_j hj, hz]
        by_cases h3 : 0 ≤ j ∧ j < i
        · rw [if_pos h3, if_pos (show 0 ≤ j ∧ j < i + 1 by omega)]
        · rw [if_neg h3, if_neg (show ¬ (0 ≤ j ∧ j < i + 1) by omega)]
    by_cases hl : μ 104 i < v
    · simp [tk_fn, tk_env, tk_sq, tk_sk, tk_if, tk_re, tk_rez, tk_rev, tk_xp, tk_se, tk_pf, tk_pfz, tk_pfo, tk_as, tk_asz, tk_asb, tk_aso, tk_cpy, tk_sw, tk_swc, tk_lit, tk_loc, tk_u1, tk_bin, tk_dv, tk_gf, tk_gr, tk_gn, tk_ald, tk_aldq, tk_aln, tk_unl, tk_una, tk_ter, tk_args, tk_cs, tk_cv, tk_ceq, tk_cne, tk_clt, tk_cge, tk_cgt, tk_cle, tk_zeq, tk_zne, tk_zlt, tk_zge, tk_zgt, tk_zle, tk_and, tk_or, tk_not, tk_ct2, tk_isC, List.headD_cons, tk_up, tk_sca, tk_scl, r0, r1, r2, e1, e2, hi0, hi6, h8, tk_al_2, tk_al_3, tk_al_4, tk_al_5, tk_al_6, tk_al_7, tk_al_8, tk_al_9, tk_al_10, tk_al_11, tk_al_13, tk_al_14, tk_al_16, tk_al_17, tk_al_19, tk_al_20, tk_al_22, tk_al_24, tk_al_25, tk_al_26, tk_al_27, tk_al_28, tk_al_29, tk_al_30, tk_al_32, tk_al_33, tk_al_34, tk_al_35, tk_al_36, tk_al_37, tk_al_38, tk_al_39, tk_al_40, tk_al_41, tk_al_43, tk_al_44, tk_al_46, tk_al_47, tk_al_49, tk_al_50, tk_al_52, tk_al_54, tk_al_55, tk_al_56, tk_al_57, tk_al_58, tk_al_59, tk_al_60, tk_al_62, tk_al_63, tk_al_64, tk_al_65, tk_al_66, tk_al_67, tk_al_68, tk_al_69, tk_al_70, tk_al_71, tk_al_73, tk_al_74, tk_al_76, tk_al_77, tk_al_79, tk_al_80, tk_al_81, tk_al_83, tk_al_85, tk_al_87, tk_al_89, tk_al_91, tk_al_93, tk_al_95, tk_al_97, tk_al_98, tk_al_99, tk_al_100, tk_al_101, tk_al_102, tk_al_103, tk_al_104, tk_al_105, tk_al_106, tk_al_107, tk_al_108, tk_al_109, tk_al_110, tk_al_111, tk_al_112, tk_al_113, tk_al_114, tk_al_115, tk_al_116, tk_al_117, tk_al_118, tk_al_119, tk_al_120, tk_al_121, tk_al_122, tk_al_123, tk_al_124, tk_al_125, tk_al_126, tk_al_127, tk_al_128, tk_al_129, i1, hl]
      exact hK _ _ ⟨r0, r1, rfl, fin _ (by rw [if_pos hl])⟩
    · simp [tk_fn, tk_env, tk_sq, tk_sk, tk_if, tk_re, tk_rez, tk_rev, tk_xp, tk_se, tk_pf, tk_pfz, tk_pfo, tk_as, tk_asz, tk_asb, tk_aso, tk_cpy, tk_sw, tk_swc, tk_lit, tk_loc, tk_u1, tk_bin, tk_dv, tk_gf, tk_gr, tk_gn, tk_ald, tk_aldq, tk_aln, tk_unl, tk_una, tk_ter, tk_args, tk_cs, tk_cv, tk_ceq, tk_cne, tk_clt, tk_cge, tk_cgt, tk_cle, tk_zeq, tk_zne, tk_zlt, tk_zge, tk_zgt, tk_zle, tk_and, tk_or, tk_not, tk_ct2, tk_isC, List.headD_cons, tk_up, tk_sca, tk_scl, r0, r1, r2, e1, e2, hi0, hi6, h8, tk_al_2, tk_al_3, tk_al_4, tk_al_5, tk_al_6, tk_al_7, tk_al_8, tk_al_9, tk_al_10, tk_al_11, tk_al_13, tk_al_14, tk_al_16, tk_al_17, tk_al_19, tk_al_20, tk_al_22, tk_al_24, tk_al_25, tk_al_26, tk_al_27, tk_al_28, tk_al_29, tk_al_30, tk_al_32, tk_al_33, tk_al_34, tk_al_35, tk_al_36, tk_al_37, tk_al_38, tk_al_39, tk_al_40, tk_al_41, tk_al_43, tk_al_44, tk_al_46, tk_al_47, tk_al_49, tk_al_50, tk_al_52, tk_al_54, tk_al_55, tk_al_56, tk_al_57, tk_al_58, tk_al_59, tk_al_60, tk_al_62, tk_al_63, tk_al_64, tk_al_65, tk_al_66, tk_al_67, tk_al_68, tk_al_69, tk_al_70, tk_al_71, tk_al_73, tk_al_74, tk_al_76, tk_al_77, tk_al_79, tk_al_80, tk_al_81, tk_al_83, tk_al_85, tk_al_87, tk_al_89, tk_al_91, tk_al_93, tk_al_95, tk_al_97, tk_al_98, tk_al_99, tk_al_100, tk_al_101, tk_al_102, tk_al_103, tk_al_104, tk_al_105, tk_al_106, tk_al_107, tk_al_108, tk_al_109, tk_al_110, tk_al_111, tk_al_112, tk_al_113, tk_al_114, tk_al_115, tk_al_116, tk_al_117, tk_al_118, tk_al_119, tk_al_120, tk_al_121, tk_al_122, tk_al_123, tk_al_124, tk_al_125, tk_al_126, tk_al_127, tk_al_128, tk_al_129, i1, hl, l1]
      exact hK _ _ ⟨r0, r1, rfl, fin _ (by rw [if_neg hl])⟩
  · rintro ρ μ' ⟨r0, r1, r2, hf, hz⟩ X
    have e1 : μ' 96 5 = μ 96 5 := hf _ _ (by omega)
    have e2 : μ' 96 14 = μ 96 14 := hf _ _ (by omega)
    have e3 : μ' 96 37 = μ 96 37 := hf _ _ (by omega)
    have l1 : tk_iadd (μ 96 14) 1 = μ 96 14 + 1 := tk_iadd_id (by omega) (by omega)
    simp [tk_fn, tk_env, tk_sq, tk_sk, tk_if, tk_re, tk_rez, tk_rev, tk_xp, tk_se, tk_pf, tk_pfz, tk_pfo, tk_as, tk_asz, tk_asb, tk_aso, tk_cpy, tk_sw, tk_swc, tk_lit, tk_loc, tk_u1, tk_bin, tk_dv, tk_gf, tk_gr, tk_gn, tk_ald, tk_aldq, tk_aln, tk_unl, tk_una, tk_ter, tk_args, tk_cs, tk_cv, tk_ceq, tk_cne, tk_clt, tk_cge, tk_cgt, tk_cle, tk_zeq, tk_zne, tk_zlt, tk_zge, tk_zgt, tk_zle, tk_and, tk_or, tk_not, tk_ct2, tk_isC, List.headD_cons, tk_up, tk_sca, tk_scl, r0, r2, e1, e2, l1]
    refine hQ _ (tk_fq_s (fun o i ho => hf o i (by omega)) (by omega)) ?_ (by simp [tk_set, e3])
    have hr : ∀ o : Int, ¬ o = 104 → ∀ j, μ' o j = μ o j := fun o ho j => hf o j ho
    funext f j
    unfold tk_low tk_mv tk_set
    simp only [hr 96 (by omega), hr 97 (by omega), hr 98 (by omega), hr 99 (by omega), hr 100 (by omega), hr 101 (by omega), hr 102 (by omega), hr 103 (by omega), hr 105 (by omega), hr 106 (by omega), hr 107 (by omega), hr 108 (by omega), hr 109 (by omega), hr 110 (by omega), hr 111 (by omega), hr 112 (by omega)]
    by_cases h8 : f = 8
    · subst h8
      simp
      rw [hz]
    · by_cases h0 : f = 0
      · subst h0
        by_cases h4 : j = 4
        · subst h4
          simp
        · simp [h4]
      · simp [h8, h0]
theorem m_passOn {b : Int} {sh : Int → Int} {μ : tk_M} {Q : Int → tk_M → Prop} (hJ : tk_JL b (tk_mv μ)) (hbb : b ≤ 1000000) (hm : tk_mq sh μ) (hb : tk_shb sh) (hQ : ∀ μ', tk_fq μ μ' → tk_mv μ' = tk_qp sh (tk_mv μ) → Q (tk_nxt sh (tk_mv μ)) μ') : tkF_X7_passOn [96] Q μ := by
  obtain ⟨g1, g2, g3, g4, g5⟩ := tk_mJ hJ.1
  simp [tk_fn, tk_env, tk_sq, tk_sk, tk_if, tk_re, tk_rez, tk_rev, tk_xp, tk_se, tk_pf, tk_pfz, tk_pfo, tk_as, tk_asz, tk_asb, tk_aso, tk_cpy, tk_sw, tk_swc, tk_lit, tk_loc, tk_u1, tk_bin, tk_dv, tk_gf, tk_gr, tk_gn, tk_ald, tk_aldq, tk_aln, tk_unl, tk_una, tk_ter, tk_args, tk_cs, tk_cv, tk_ceq, tk_cne, tk_clt, tk_cge, tk_cgt, tk_cle, tk_zeq, tk_zne, tk_zlt, tk_zge, tk_zgt, tk_zle, tk_and, tk_or, tk_not, tk_ct2, tk_isC, List.headD_cons, tk_up, tk_sca, tk_scl, tkF_X7_passOn, tkS_X7_passOn]
  refine m_nextOf hJ.1 hm hb ?_
  have hqp : tk_qp sh (tk_mv μ) = tk_spn (if tk_nxt sh (tk_mv μ) < 0 then tk_mv μ else tk_gro (tk_mv μ) (tk_nxt sh (tk_mv μ)) (tk_std sh (tk_mv μ) (tk_nxt sh (tk_mv μ)))) (tk_nxt sh (tk_mv μ)) := rfl
  have hnx := tk_nxt_in (sh := sh) (S := tk_mv μ) g1.1
  rw [hqp] at hQ
  generalize tk_nxt sh (tk_mv μ) = c at hQ hnx ⊢
  rcases hnx with rfl | ⟨h1, h2, h3⟩
  · simp
    refine m_quantumOf hJ.1 hbb (.inl rfl) (fun μ' hf he _ => hQ _ hf ?_)
    rw [he, if_pos (by omega)]
  · have h2' : c < μ 96 5 := h2
    have h8 : c < 8 := by omega
    have hst := tk_std_bd (tk_rd_1 h3).2.1
    have hJg := tk_J_gro hJ ⟨h1, h2⟩ hst
    have hps := tk_gro_pass hJ.1 ⟨h1, h2⟩ hst
    have h104 := (g4 c h1 h2').2.2.2.2.1
    simp [h1]
    refine m_strideOf hJ.1 hm hb ⟨h1, h2⟩ ?_
    generalize tk_std sh (tk_mv μ) c = st at hQ hst hJg hps ⊢
    rw [if_neg (by omega)] at hQ
    have l1 : tk_ladd (μ 104 c) st = μ 104 c + st := tk_ladd_id (by omega) (by omega)
    have hS8 : tk_mv μ 8 c = μ 104 c := rfl
    have hgro : tk_gro (tk_mv μ) c st = tk_set (tk_lwd (tk_mv μ) c st) 8 c (tk_lwd (tk_mv μ) c st 8 c + st) := rfl
    have fin : ∀ μ1, tk_fq μ μ1 → tk_mv μ1 = tk_lwd (tk_mv μ) c st → tkF_X7_quantumOf [96, c] (fun _ μ2 => Q c μ2) (tk_set μ1 104 c (tk_iadd (μ1 104 c) st)) := by
      intro μ1 hf1 he1
      have e1 : μ1 104 c = tk_lwd (tk_mv μ) c st 8 c := by rw [← he1]; rfl
      have l2 : tk_iadd (μ1 104 c) st = μ1 104 c + st := tk_iadd_id (by omega) (by omega)
      rw [l2]
      have he2 : tk_mv (tk_set μ1 104 c (μ1 104 c + st)) = tk_gro (tk_mv μ) c st := by rw [tk_mv_104, he1, hgro, e1]
      have hf2 : tk_fq μ (tk_set μ1 104 c (μ1 104 c + st)) := tk_fq_s hf1 (by omega)
      refine m_quantumOf (b := b) (by rw [he2]; exact hJg) hbb (.inr ⟨h1, ?_⟩) (fun μ' hf he _ => hQ _ (tk_fq_t hf2 hf) ?_)
      · rw [hf2 96 5 (by omega)]; exact h2'
      · rw [he, he2]
    by_cases hw : 2147483647 < μ 104 c + st
    · simp [tk_al_2, tk_al_3, tk_al_4, tk_al_5, tk_al_6, tk_al_7, tk_al_8, tk_al_9, tk_al_10, tk_al_11, tk_al_13, tk_al_14, tk_al_16, tk_al_17, tk_al_19, tk_al_20, tk_al_22, tk_al_24, tk_al_25, tk_al_26, tk_al_27, tk_al_28, tk_al_29, tk_al_30, tk_al_32, tk_al_33, tk_al_34, tk_al_35, tk_al_36, tk_al_37, tk_al_38, tk_al_39, tk_al_40, tk_al_41, tk_al_43, tk_al_44, tk_al_46, tk_al_47, tk_al_49, tk_al_50, tk_al_52, tk_al_54, tk_al_55, tk_al_56, tk_al_57, tk_al_58, tk_al_59, tk_al_60, tk_al_62, tk_al_63, tk_al_64, tk_al_65, tk_al_66, tk_al_67, tk_al_68, tk_al_69, tk_al_70, tk_al_71, tk_al_73, tk_al_74, tk_al_76, tk_al_77, tk_al_79, tk_al_80, tk_al_81, tk_al_83, tk_al_85, tk_al_87, tk_al_89, tk_al_91, tk_al_93, tk_al_95, tk_al_97, tk_al_98, tk_al_99, tk_al_100, tk_al_101, tk_al_102, tk_al_103, tk_al_104, tk_al_105, tk_al_106, tk_al_107, tk_al_108, tk_al_109, tk_al_110, tk_al_111, tk_al_112, tk_al_113, tk_al_114, tk_al_115, tk_al_116, tk_al_117, tk_al_118, tk_al_119, tk_al_120, tk_al_121, tk_al_122, tk_al_123, tk_al_124, tk_al_125, tk_al_126, tk_al_127, tk_al_128, tk_al_129, h1, h8, l1, hw]
      refine m_lower hJ.1 hbb h104 (fun μ1 hf1 he1 _ => ?_)
      exact fin _ hf1 (by rw [he1]; unfold tk_lwd; rw [hS8, if_pos hw])
    · simp [tk_al_2, tk_al_3, tk_al_4, tk_al_5, tk_al_6, tk_al_7, tk_al_8, tk_al_9, tk_al_10, tk_al_11, tk_al_13, tk_al_14, tk_al_16, tk_al_17, tk_al_19, tk_al_20, tk_al_22, tk_al_24, tk_al_25, tk_al_26, tk_al_27, tk_al_28, tk_al_29, tk_al_30, tk_al_32, tk_al_33, tk_al_34, tk_al_35, tk_al_36, tk_al_37, tk_al_38, tk_al_39, tk_al_40, tk_al_41, tk_al_43, tk_al_44, tk_al_46, tk_al_47, tk_al_49, tk_al_50, tk_al_52, tk_al_54, tk_al_55, tk_al_56, tk_al_57, tk_al_58, tk_al_59, tk_al_60, tk_al_62, tk_al_63, tk_al_64, tk_al_65, tk_al_66, tk_al_67, tk_al_68, tk_al_69, tk_al_70, tk_al_71, tk_al_73, tk_al_74, tk_al_76, tk_al_77, tk_al_79, tk_al_80, tk_al_81, tk_al_83, tk_al_85, tk_al_87, tk_al_89, tk_al_91, tk_al_93, tk_al_95, tk_al_97, tk_al_98, tk_al_99, tk_al_100, tk_al_101, tk_al_102, tk_al_103, tk_al_104, tk_al_105, tk_al_106, tk_al_107, tk_al_108, tk_al_109, tk_al_110, tk_al_111, tk_al_112, tk_al_113, tk_al_114, tk_al_115, tk_al_116, tk_al_117, tk_al_118, tk_al_119, tk_al_120, tk_al_121, tk_al_122, tk_al_123, tk_al_124, tk_al_125, tk_al_126, tk_al_127, tk_al_128, tk_al_129, h1, h8, l1, hw]
      exact fin _ tk_fq_r (by unfold tk_lwd; rw [hS8, if_neg hw])
theorem m_drawOn {b : Int} {sh : Int → Int} {μ : tk_M} {Q : Int → tk_M → Prop} (hJ : tk_J b (tk_mv μ)) (hbb : b ≤ 1000000) (hm : tk_mq sh μ) (hb : tk_shb sh) (hQ : ∀ μ', tk_fq μ μ' → tk_mv μ' = tk_spn (tk_mv μ) (tk_drw sh (tk_mv μ) (tk_zz (μ 96 37))) → μ' 96 37 = tk_zz (μ 96 37) → Q (tk_drw sh (tk_mv μ) (tk_zz (μ 96 37))) μ') : tkF_X7_drawOn [96] Q μ := by
  obtain ⟨g1, g2, g3, g4, g5⟩ := tk_mJ hJ
  have hbd := fun i hi => tk_rwp_bd hJ hb i hi
  have hbw := fun c hc => tk_rw_bd hJ hb (c := c) hc
  have htb := tk_tot_bd hJ hb
  have hnP : tk_mv μ 0 2 = μ 96 5 := rfl
  have hz : tk_iadd (tk_imul (μ 96 37) 1103515245) 12345 = tk_zz (μ 96 37) := rfl
  have hin := tk_drw_in (sh := sh) (S := tk_mv μ) (z := tk_zz (μ 96 37)) g1.1
  simp [tk_fn, tk_env, tk_sq, tk_sk, tk_if, tk_re, tk_rez, tk_rev, tk_xp, tk_se, tk_pf, tk_pfz, tk_pfo, tk_as, tk_asz, tk_asb, tk_aso, tk_cpy, tk_sw, tk_swc, tk_lit, tk_loc, tk_u1, tk_bin, tk_dv, tk_gf, tk_gr, tk_gn, tk_ald, tk_aldq, tk_aln, tk_unl, tk_una, tk_ter, tk_args, tk_cs, tk_cv, tk_ceq, tk_cne, tk_clt, tk_cge, tk_cgt, tk_cle, tk_zeq, tk_zne, tk_zlt, tk_zge, tk_zgt, tk_zle, tk_and, tk_or, tk_not, tk_ct2, tk_isC, List.headD_cons, tk_up, tk_sca, tk_scl, tkF_X7_drawOn, tkS_X7_drawOn, hz]
  generalize hzz : tk_zz (μ 96 37) = z at hQ hin ⊢
  have fin : ∀ c, c = tk_drw sh (tk_mv μ) z → tkF_X7_quantumOf [96, c] (fun _ μ2 => Q c μ2) (tk_set μ 96 37 z) := by
    intro c hc
    subst hc
    refine m_quantumOf (b := b) (by rw [tk_mv_37]; exact hJ) hbb ?_ (fun μ' hf he h37 => hQ _ (tk_fq_t (tk_fq_s tk_fq_r (by omega)) hf) (by rw [he, tk_mv_37]) (by rw [h37, tk_set_eq]))
    rw [tk_set_j (by omega)]
    exact hin
  refine m_total (b := b) (sh := sh) (by rw [tk_mv_37]; exact hJ) (tk_mq_fq hm (tk_fq_s tk_fq_r (by omega))) hb ?_
  rw [tk_mv_37]
  by_cases ht : 0 < tk_tot sh (tk_mv μ)
  · have ht0 : ¬ tk_tot sh (tk_mv μ) = 0 := by omega
    simp [ht, ht0, tk_set_eq]
    have hdr : tk_drw sh (tk_mv μ) z = tk_fd (fun _ => True) (fun p => tk_bo (tk_lrem (tk_iushr z 1) (tk_tot sh (tk_mv μ)) < tk_sm (p + 1) (tk_rw sh (tk_mv μ)))) (μ 96 5).toNat := by
      unfold tk_drw
      rw [if_pos ht]
      rfl
    generalize tk_lrem (tk_iushr z 1) (tk_tot sh (tk_mv μ)) = at' at hdr ⊢
    refine tk_for (μ 96 5) (fun i ρ μ' => μ' = tk_set μ 96 37 z ∧ ρ 0 = 96 ∧ ρ 4 = at' ∧ ((ρ 8 = i ∧ ρ 3 = -5 ∧ tk_fd (fun _ => True) (fun p => tk_bo (at' < tk_sm (p + 1) (tk_rw sh (tk_mv μ)))) i.toNat = -5 ∧ ρ 6 = tk_sm i (tk_rw sh (tk_mv μ))) ∨ (0 ≤ ρ 3 ∧ ρ 3 = tk_drw sh (tk_mv μ) z))) g1.1 ⟨rfl, rfl, by simp [tk_up], .inl ⟨rfl, rfl, rfl, rfl⟩⟩ ?_ ?_
    · rintro i ρ μ' hi0 hi6 ⟨rfl, r0, r4, ⟨r8, r3, hfd, r6⟩ | ⟨r3, r3'⟩⟩ K hK
      · have i1 : tk_iadd i 1 = i + 1 := tk_iadd_id (by omega) (by omega)
        have hb1 := hbd i ⟨hi0, by omega⟩
        have hb2 := hbw i ⟨hi0, by omega⟩
        have e : (i + 1).toNat = i.toNat + 1 := by omega
        have e2 : ((i.toNat : Nat) : Int) = i := by omega
        have hs : tk_sm (i + 1) (tk_rw sh (tk_mv μ)) = tk_sm i (tk_rw sh (tk_mv μ)) + tk_rw sh (tk_mv μ) i := tk_sm_s hi0
        have hfd2 : tk_fd (fun _ => True) (fun p => tk_bo (at' < tk_sm (p + 1) (tk_rw sh (tk_mv μ)))) (i + 1).toNat = if at' < tk_sm (i + 1) (tk_rw sh (tk_mv μ)) then i else -5 := by
          rw [tk_fd_s hi0, hfd]
          unfold tk_bo
          by_cases hq : at' < tk_sm (i + 1) (tk_rw sh (tk_mv μ)) <;> simp [hq]
        have h96 : tk_set μ 96 37 z 96 5 = μ 96 5 := tk_set_j (by omega)
        simp [tk_fn, tk_env, tk_sq, tk_sk, tk_if, tk_re, tk_rez, tk_rev, tk_xp, tk_se, tk_pf, tk_pfz, tk_pfo, tk_as, tk_asz, tk_asb, tk_aso, tk_cpy, tk_sw, tk_swc, tk_lit, tk_loc, tk_u1, tk_bin, tk_dv, tk_gf, tk_gr, tk_gn, tk_ald, tk_aldq, tk_aln, tk_unl, tk_una, tk_ter, tk_args, tk_cs, tk_cv, tk_ceq, tk_cne, tk_clt, tk_cge, tk_cgt, tk_cle, tk_zeq, tk_zne, tk_zlt, tk_zge, tk_zgt, tk_zle, tk_and, tk_or, tk_not, tk_ct2, tk_isC, List.headD_cons, tk_up, tk_sca, tk_scl, r0, r3, r4, r6, r8, hi6, i1, h96]
        refine m_readyWeight (b := b) (sh := sh) (Q := fun v μ1 => if at' < tk_ladd (tk_sm i (tk_rw sh (tk_mv μ))) v then K (fun j => if j = 8 then i + 1 else if j = 3 then i else if j = 6 then tk_ladd (tk_sm i (tk_rw sh (tk_mv μ))) v else ρ j) μ1 else K (fun j => if j = 8 then i + 1 else if j = 3 then -5 else if j = 6 then tk_ladd (tk_sm i (tk_rw sh (tk_mv μ))) v else ρ j) μ1) (by rw [tk_mv_37]; exact hJ) (tk_mq_fq hm (tk_fq_s tk_fq_r (by omega))) hb ⟨hi0, by rw [h96]; exact hi6⟩ ?_
        rw [tk_mv_37, tk_ladd_id (by omega) (by omega), ← hs]
        by_cases hq : at' < tk_sm (i + 1) (tk_rw sh (tk_mv μ))
        · rw [if_pos hq]
          rw [if_pos hq] at hfd2
          refine hK _ _ ⟨rfl, r0, r4, .inr ⟨hi0, ?_⟩⟩
          show i = _
          rw [hdr]
          have hff := tk_fd_ff (P := fun _ => True) (f := fun p => tk_bo (at' < tk_sm (p + 1) (tk_rw sh (tk_mv μ)))) (μ 96 5) g1.1
          have hff2 := tk_fd_ff (P := fun _ => True) (f := fun p => tk_bo (at' < tk_sm (p + 1) (tk_rw sh (tk_mv μ)))) (i + 1) (by omega)
          rw [hfd2] at hff2
          refine tk_ff_u (n := μ 96 5) ?_ hff
          rcases hff2 with ⟨h5, _⟩ | ⟨h5, h6, h7, h9⟩
          · omega
          · exact .inr ⟨h5, hi6, h7, h9⟩
        · rw [if_neg hq]
          rw [if_neg hq] at hfd2
          refine hK _ _ ⟨rfl, r0, r4, .inl ⟨rfl, rfl, hfd2, rfl⟩⟩
      · have r3n : ¬ ρ 3 < 0 := by omega
        have h96 : tk_set μ 96 37 z 96 5 = μ 96 5 := tk_set_j (by omega)
        by_cases h8 : ρ 8 < μ 96 5
        · simp [tk_fn, tk_env, tk_sq, tk_sk, tk_if, tk_re, tk_rez, tk_rev, tk_xp, tk_se, tk_pf, tk_pfz, tk_pfo, tk_as, tk_asz, tk_asb, tk_aso, tk_cpy, tk_sw, tk_swc, tk_lit, tk_loc, tk_u1, tk_bin, tk_dv, tk_gf, tk_gr, tk_gn, tk_ald, tk_aldq, tk_aln, tk_unl, tk_una, tk_ter, tk_args, tk_cs, tk_cv, tk_ceq, tk_cne, tk_clt, tk_cge, tk_cgt, tk_cle, tk_zeq, tk_zne, tk_zlt, tk_zge, tk_zgt, tk_zle, tk_and, tk_or, tk_not, tk_ct2, tk_isC, List.headD_cons, tk_up, tk_sca, tk_scl, r0, r3n, h8, h96]
          exact fin _ r3'
        · simp [tk_fn, tk_env, tk_sq, tk_sk, tk_if, tk_re, tk_rez, tk_rev, tk_xp, tk_se, tk_pf, tk_pfz, tk_pfo, tk_as, tk_asz, tk_asb, tk_aso, tk_cpy, tk_sw, tk_swc, tk_lit, tk_loc, tk_u1, tk_bin, tk_dv, tk_gf, tk_gr, tk_gn, tk_ald, tk_aldq, tk_aln, tk_unl, tk_una, tk_ter, tk_args, tk_cs, tk_cv, tk_ceq, tk_cne, tk_clt, tk_cge, tk_cgt, tk_cle, tk_zeq, tk_zne, tk_zlt, tk_zge, tk_zgt, tk_zle, tk_and, tk_or, tk_not, tk_ct2, tk_isC, List.headD_cons, tk_up, tk_sca, tk_scl, r0, h8, h96]
          exact fin _ r3'
    · rintro ρ μ' ⟨rfl, r0, r4, ⟨r8, r3, hfd, r6⟩ | ⟨r3, r3'⟩⟩ X
      · have h96 : tk_set μ 96 37 z 96 5 = μ 96 5 := tk_set_j (by omega)
        simp [tk_fn, tk_env, tk_sq, tk_sk, tk_if, tk_re, tk_rez, tk_rev, tk_xp, tk_se, tk_pf, tk_pfz, tk_pfo, tk_as, tk_asz, tk_asb, tk_aso, tk_cpy, tk_sw, tk_swc, tk_lit, tk_loc, tk_u1, tk_bin, tk_dv, tk_gf, tk_gr, tk_gn, tk_ald, tk_aldq, tk_aln, tk_unl, tk_una, tk_ter, tk_args, tk_cs, tk_cv, tk_ceq, tk_cne, tk_clt, tk_cge, tk_cgt, tk_cle, tk_zeq, tk_zne, tk_zlt, tk_zge, tk_zgt, tk_zle, tk_and, tk_or, tk_not, tk_ct2, tk_isC, List.headD_cons, tk_up, tk_sca, tk_scl, r0, r3, r8, h96]
        exact fin _ (by rw [hdr, hfd])
      · have r3n : ¬ ρ 3 < 0 := by omega
        have h96 : tk_set μ 96 37 z 96 5 = μ 96 5 := tk_set_j (by omega)
        by_cases h8 : ρ 8 < μ 96 5
        · simp [tk_fn, tk_env, tk_sq, tk_sk, tk_if, tk_re, tk_rez, tk_rev, tk_xp, tk_se, tk_pf, tk_pfz, tk_pfo, tk_as, tk_asz, tk_asb, tk_aso, tk_cpy, tk_sw, tk_swc, tk_lit, tk_loc, tk_u1, tk_bin, tk_dv, tk_gf, tk_gr, tk_gn, tk_ald, tk_aldq, tk_aln, tk_unl, tk_una, tk_ter, tk_args, tk_cs, tk_cv, tk_ceq, tk_cne, tk_clt, tk_cge, tk_cgt, tk_cle, tk_zeq, tk_zne, tk_zlt, tk_zge, tk_zgt, tk_zle, tk_and, tk_or, tk_not, tk_ct2, tk_isC, List.headD_cons, tk_up, tk_sca, tk_scl, r0, r3n, h8, h96]
          exact fin _ r3'
        · simp [tk_fn, tk_env, tk_sq, tk_sk, tk_if, tk_re, tk_rez, tk_rev, tk_xp, tk_se, tk_pf, tk_pfz, tk_pfo, tk_as, tk_asz, tk_asb, tk_aso, tk_cpy, tk_sw, tk_swc, tk_lit, tk_loc, tk_u1, tk_bin, tk_dv, tk_gf, tk_gr, tk_gn, tk_ald, tk_aldq, tk_aln, tk_unl, tk_una, tk_ter, tk_args, tk_cs, tk_cv, tk_ceq, tk_cne, tk_clt, tk_cge, tk_cgt, tk_cle, tk_zeq, tk_zne, tk_zlt, tk_zge, tk_zgt, tk_zle, tk_and, tk_or, tk_not, tk_ct2, tk_isC, List.headD_cons, tk_up, tk_sca, tk_scl, r0, h8, h96]
          exact fin _ r3'
  · simp [ht]
    exact fin _ (by unfold tk_drw; rw [if_neg ht])
/-- what the Model's going writes: a quantum's places, and what it lays -/
def tk_fg (μ μ' : tk_M) : Prop := ∀ o i : Int, ¬ ((116 ≤ o ∧ o ≤ 120) ∨ o = 102 ∨ o = 103 ∨ o = 104 ∨ (o = 96 ∧ (i = 13 ∨ i = 14 ∨ i = 37))) → μ' o i = μ o i
theorem tk_fg_1 {μ μ' : tk_M} (h : tk_f1 116 120 μ μ') : tk_fg μ μ' := fun o i ho => h o i (by omega)
theorem tk_fg_q {μ μ' μ'' : tk_M} (h : tk_fg μ μ') (h' : tk_fq μ' μ'') : tk_fg μ μ'' := fun o i ho => by rw [h' o i (by omega), h o i ho]
theorem tk_fg_t {μ μ' μ'' : tk_M} (h : tk_fg μ μ') (h' : tk_fg μ' μ'') : tk_fg μ μ'' := fun o i ho => by rw [h' o i ho, h o i ho]
theorem tk_shr_shb {S : tk_M} (h0 : tk_I0 S) (h1 : tk_I1 S) (h7 : tk_I7 S) : tk_shb (tk_shr S) := fun a => tk_shr_bd h0 h1 h7 a
theorem m_goDrawn {b : Int} {μ : tk_M} {Q : Int → tk_M → Prop} {seed n : Int} (hI : tk_I0 (tk_mv μ) ∧ tk_I1 (tk_mv μ) ∧ tk_I2 (tk_mv μ) ∧ tk_I7 (tk_mv μ) ∧ tk_I8 (tk_mv μ)) (hJ : tk_JL b (tk_mv μ)) (hbb : b ≤ 500000) (hn : 0 ≤ n ∧ n ≤ 40) (hQ : ∀ μ', tk_fg μ μ' → tk_mv μ' = tk_gd (tk_shr (tk_mv μ)) (tk_mv μ) seed n.toNat → tk_mq (tk_shr (tk_mv μ)) μ' → Q (tk_gdl (tk_shr (tk_mv μ)) (tk_mv μ) seed n.toNat) μ') : tkF_X7_goDrawn [96, seed, n] Q μ := by
  have hb := tk_shr_shb hI.1 hI.2.1 hI.2.2.2.1
  simp [tk_fn, tk_env, tk_sq, tk_sk, tk_if, tk_re, tk_rez, tk_rev, tk_xp, tk_se, tk_pf, tk_pfz, tk_pfo, tk_as, tk_asz, tk_asb, tk_aso, tk_cpy, tk_sw, tk_swc, tk_lit, tk_loc, tk_u1, tk_bin, tk_dv, tk_gf, tk_gr, tk_gn, tk_ald, tk_aldq, tk_aln, tk_unl, tk_una, tk_ter, tk_args, tk_cs, tk_cv, tk_ceq, tk_cne, tk_clt, tk_cge, tk_cgt, tk_cle, tk_zeq, tk_zne, tk_zlt, tk_zge, tk_zgt, tk_zle, tk_and, tk_or, tk_not, tk_ct2, tk_isC, List.headD_cons, tk_up, tk_sca, tk_scl, tkF_X7_goDrawn, tkS_X7_goDrawn]
  refine m_layShares hI (fun μ1 hf1 hL => ?_)
  have hT : tk_mv μ1 = tk_mv μ := tk_mv_f1 hf1 (by omega)
  have hm1 : tk_mq (tk_shr (tk_mv μ)) μ1 := hL.2
  generalize tk_shr (tk_mv μ) = sh at hb hm1 hQ
  refine tk_for n (fun i ρ μ' => ρ 0 = 96 ∧ ρ 2 = n ∧ ρ 4 = i ∧ ρ 3 = tk_gdl sh (tk_mv μ) seed i.toNat ∧ tk_fg μ μ' ∧ tk_mv μ' = tk_gd sh (tk_mv μ) seed i.toNat ∧ tk_mq sh μ' ∧ μ' 96 37 = tk_zk seed i.toNat) hn.1 ⟨rfl, rfl, rfl, rfl, tk_fg_q (tk_fg_1 hf1) (tk_fq_s tk_fq_r (by omega)), by rw [tk_mv_37, hT]; rfl, tk_mq_fq hm1 (tk_fq_s tk_fq_r (by omega)), by rw [tk_set_eq]; rfl⟩ ?_ ?_
  · rintro i ρ μ' hi0 hi6 ⟨r0, r2, r4, r3, hf, he, hm, hz⟩ K hK
    have i1 : tk_iadd i 1 = i + 1 := tk_iadd_id (by omega) (by omega)
    have e : (i + 1).toNat = i.toNat + 1 := by omega
    have hJ2 := tk_gd_J (sh := sh) (z := seed) hJ i.toNat
    simp [tk_fn, tk_env, tk_sq, tk_sk, tk_if, tk_re, tk_rez, tk_rev, tk_xp, tk_se, tk_pf, tk_pfz, tk_pfo, tk_as, tk_asz, tk_asb, tk_aso, tk_cpy, tk_sw, tk_swc, tk_lit, tk_loc, tk_u1, tk_bin, tk_dv, tk_gf, tk_gr, tk_gn, tk_ald, tk_aldq, tk_aln, tk_unl, tk_una, tk_ter, tk_args, tk_cs, tk_cv, tk_ceq, tk_cne, tk_clt, tk_cge, tk_cgt, tk_cle, tk_zeq, tk_zne, tk_zlt, tk_zge, tk_zgt, tk_zle, tk_and, tk_or, tk_not, tk_ct2, tk_isC, List.headD_cons, tk_up, tk_sca, tk_scl, r0, r2, r3, r4, hi6, i1]
    refine m_drawOn (b := b + 10 * (i.toNat : Nat)) (sh := sh) (by rw [he]; exact hJ2.1) (by omega) hm hb (fun μ2 hf2 he2 hz2 => ?_)
    rw [hz] at he2 hz2 ⊢
    rw [he] at he2 ⊢
    refine hK _ _ ⟨r0, r2, rfl, ?_, tk_fg_q hf hf2, ?_, tk_mq_fq hm hf2, ?_⟩
    · rw [e]; rfl
    · rw [e, he2]; rfl
    · rw [e, hz2]; rfl
  · rintro ρ μ' ⟨r0, r2, r4, r3, hf, he, hm, hz⟩ X
    simp [tk_fn, tk_env, tk_sq, tk_sk, tk_if, tk_re, tk_rez, tk_rev, tk_xp, tk_se, tk_pf, tk_pfz, tk_pfo, tk_as, tk_asz, tk_asb, tk_aso, tk_cpy, tk_sw, tk_swc, tk_lit, tk_loc, tk_u1, tk_bin, tk_dv, tk_gf, tk_gr, tk_gn, tk_ald, tk_aldq, tk_aln, tk_unl, tk_una, tk_ter, tk_args, tk_cs, tk_cv, tk_ceq, tk_cne, tk_clt, tk_cge, tk_cgt, tk_cle, tk_zeq, tk_zne, tk_zlt, tk_zge, tk_zgt, tk_zle, tk_and, tk_or, tk_not, tk_ct2, tk_isC, List.headD_cons, tk_up, tk_sca, tk_scl, r0, r2, r3, r4]
    exact hQ _ hf he hm
theorem m_goByPasses {b : Int} {μ : tk_M} {Q : Int → tk_M → Prop} {n : Int} (hI : tk_I0 (tk_mv μ) ∧ tk_I1 (tk_mv μ) ∧ tk_I2 (tk_mv μ) ∧ tk_I7 (tk_mv μ) ∧ tk_I8 (tk_mv μ)) (hJ : tk_JL b (tk_mv μ)) (hbb : b ≤ 500000) (hn : 0 ≤ n ∧ n ≤ 40) (hQ : ∀ μ', tk_fg μ μ' → tk_mv μ' = tk_gp (tk_shr (tk_mv μ)) (tk_mv μ) n.toNat → tk_mq (tk_shr (tk_mv μ)) μ' → Q (tk_gpl (tk_shr (tk_mv μ)) (tk_mv μ) n.toNat) μ') : tkF_X7_goByPasses [96, n] Q μ := by
  have hb := tk_shr_shb hI.1 hI.2.1 hI.2.2.2.1
  simp [tk_fn, tk_env, tk_sq, tk_sk, tk_if, tk_re, tk_rez, tk_rev, tk_xp, tk_se, tk_pf, tk_pfz, tk_pfo, tk_as, tk_asz, tk_asb, tk_aso, tk_cpy, tk_sw, tk_swc, tk_lit, tk_loc, tk_u1, tk_bin, tk_dv, tk_gf, tk_gr, tk_gn, tk_ald, tk_aldq, tk_aln, tk_unl, tk_una, tk_ter, tk_args, tk_cs, tk_cv, tk_ceq, tk_cne, tk_clt, tk_cge, tk_cgt, tk_cle, tk_zeq, tk_zne, tk_zlt, tk_zge, tk_zgt, tk_zle, tk_and, tk_or, tk_not, tk_ct2, tk_isC, List.headD_cons, tk_up, tk_sca, tk_scl, tkF_X7_goByPasses, tkS_X7_goByPasses]
  refine m_layShares hI (fun μ1 hf1 hL => ?_)
  have hT : tk_mv μ1 = tk_mv μ := tk_mv_f1 hf1 (by omega)
  have hm1 : tk_mq (tk_shr (tk_mv μ)) μ1 := hL.2
  generalize tk_shr (tk_mv μ) = sh at hb hm1 hQ
  refine tk_for n (fun i ρ μ' => ρ 0 = 96 ∧ ρ 1 = n ∧ ρ 3 = i ∧ ρ 2 = tk_gpl sh (tk_mv μ) i.toNat ∧ tk_fg μ μ' ∧ tk_mv μ' = tk_gp sh (tk_mv μ) i.toNat ∧ tk_mq sh μ') hn.1 ⟨rfl, rfl, rfl, rfl, tk_fg_1 hf1, hT, hm1⟩ ?_ ?_
  · rintro i ρ μ' hi0 hi6 ⟨r0, r1, r3, r2, hf, he, hm⟩ K hK
    have i1 : tk_iadd i 1 = i + 1 := tk_iadd_id (by omega) (by omega)
    have e : (i + 1).toNat = i.toNat + 1 := by omega
    have hJ2 := tk_gp_J (sh := sh) hJ i.toNat
    simp [tk_fn, tk_env, tk_sq, tk_sk, tk_if, tk_re, tk_rez, tk_rev, tk_xp, tk_se, tk_pf, tk_pfz, tk_pfo, tk_as, tk_asz, tk_asb, tk_aso, tk_cpy, tk_sw, tk_swc, tk_lit, tk_loc, tk_u1, tk_bin, tk_dv, tk_gf, tk_gr, tk_gn, tk_ald, tk_aldq, tk_aln, tk_unl, tk_una, tk_ter, tk_args, tk_cs, tk_cv, tk_ceq, tk_cne, tk_clt, tk_cge, tk_cgt, tk_cle, tk_zeq, tk_zne, tk_zlt, tk_zge, tk_zgt, tk_zle, tk_and, tk_or, tk_not, tk_ct2, tk_isC, List.headD_cons, tk_up, tk_sca, tk_scl, r0, r1, r2, r3, hi6, i1]
    refine m_passOn (b := b + 10 * (i.toNat : Nat)) (sh := sh) (by rw [he]; exact hJ2) (by omega) hm hb (fun μ2 hf2 he2 => ?_)
    rw [he] at he2 ⊢
    refine hK _ _ ⟨r0, r1, rfl, ?_, tk_fg_q hf hf2, ?_, tk_mq_fq hm hf2⟩
    · rw [e]; rfl
    · rw [e, he2]; rfl
  · rintro ρ μ' ⟨r0, r1, r3, r2, hf, he, hm⟩ X
    simp [tk_fn, tk_env, tk_sq, tk_sk, tk_if, tk_re, tk_rez, tk_rev, tk_xp, tk_se, tk_pf, tk_pfz, tk_pfo, tk_as, tk_asz, tk_asb, tk_aso, tk_cpy, tk_sw, tk_swc, tk_lit, tk_loc, tk_u1, tk_bin, tk_dv, tk_gf, tk_gr, tk_gn, tk_ald, tk_aldq, tk_aln, tk_unl, tk_una, tk_ter, tk_args, tk_cs, tk_cv, tk_ceq, tk_cne, tk_clt, tk_cge, tk_cgt, tk_cle, tk_zeq, tk_zne, tk_zlt, tk_zge, tk_zgt, tk_zle, tk_and, tk_or, tk_not, tk_ct2, tk_isC, List.headD_cons, tk_up, tk_sca, tk_scl, r0, r1, r2, r3]
    exact hQ _ hf he hm
