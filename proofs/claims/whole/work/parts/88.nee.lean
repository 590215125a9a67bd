/-! ===== Layer 2: needs ===== -/
def tk_hp (S : tk_M) (c p t : Int) : Prop := S 3 t = p ∧ (0 ≤ p ∧ p < S 0 2) ∧ (S 1 t = c ∨ tk_hg S (-5) (S 1 t) c)
theorem x_holdersAbove {μ : tk_M} {Q : Int → tk_M → Prop} {c : Int} (h0 : tk_I0 (tk_hw 1 μ)) (h1 : tk_I1 (tk_hw 1 μ)) (h7 : tk_I7 (tk_hw 1 μ)) (hc : 0 ≤ c ∧ c < μ 1 0) (hQ : ∀ r, tk_bs2 8 r → (∀ p, tk_bit r p ↔ ∃ t, (0 ≤ t ∧ t < μ 1 1) ∧ tk_hp (tk_hw 1 μ) c p t) → Q r μ) : tkF_X2_holdersAbove [1, c] Q μ := by
  obtain ⟨g1, g2, g3, -⟩ := x_hI1 h0
  have g := x_hT1 h1
  have hS1 : ∀ t, tk_hw 1 μ 1 t = μ 2 t := fun _ => rfl
  have hS3 : ∀ t, tk_hw 1 μ 3 t = μ 4 t := fun _ => rfl
  have hS2 : tk_hw 1 μ 0 2 = μ 1 2 := rfl
  have hsh := tk_bs_sh (n := 6) (j := c) ⟨hc.1, by omega⟩ (by omega)
  simp [tk_fn, tk_env, tk_sq, tk_sk, tk_if, tk_re, tk_rez, tk_rev, tk_xp, tk_se, tk_pf, tk_pfz, tk_pfo, tk_as, tk_asz, tk_asb, tk_aso, tk_cpy, tk_sw, tk_swc, tk_lit, tk_loc, tk_u1, tk_bin, tk_dv, tk_gf, tk_gr, tk_gn, tk_ald, tk_aldq, tk_aln, tk_unl, tk_una, tk_ter, tk_args, tk_cs, tk_cv, tk_ceq, tk_cne, tk_clt, tk_cge, tk_cgt, tk_cle, tk_zeq, tk_zne, tk_zlt, tk_zge, tk_zgt, tk_zle, tk_and, tk_or, tk_not, tk_ct2, tk_isC, List.headD_cons, tk_up, tk_sca, tk_scl, tkF_X2_holdersAbove, tkS_X2_holdersAbove]
  refine tk_for (μ 1 0) (fun i ρ μ' => μ' = μ ∧ ρ 0 = 1 ∧ ρ 1 = c ∧ ρ 3 = i ∧ tk_bs2 6 (ρ 2) ∧ ∀ d, tk_bit (ρ 2) d ↔ d = c ∨ ((0 ≤ d ∧ d < i) ∧ tk_hg (tk_hw 1 μ) (-5) d c)) (by omega) ⟨rfl, rfl, rfl, rfl, hsh, fun d => ?_⟩ ?_ ?_
  · show tk_bit (tk_ishl 1 c) d ↔ _
    rw [tk_bit_sh (by omega)]
    exact ⟨.inl, fun z => z.elim id (fun z => by omega)⟩
  · rintro i ρ μ' hi0 hi6 ⟨rfl, r0, r1, r3, hs, hb⟩ K hK
    have i1 : tk_iadd i 1 = i + 1 := tk_iadd_id (by omega) (by omega)
    have hsi := tk_bs_sh (n := 6) (j := i) ⟨hi0, by omega⟩ (by omega)
    simp [tk_fn, tk_env, tk_sq, tk_sk, tk_if, tk_re, tk_rez, tk_rev, tk_xp, tk_se, tk_pf, tk_pfz, tk_pfo, tk_as, tk_asz, tk_asb, tk_aso, tk_cpy, tk_sw, tk_swc, tk_lit, tk_loc, tk_u1, tk_bin, tk_dv, tk_gf, tk_gr, tk_gn, tk_ald, tk_aldq, tk_aln, tk_unl, tk_una, tk_ter, tk_args, tk_cs, tk_cv, tk_ceq, tk_cne, tk_clt, tk_cge, tk_cgt, tk_cle, tk_zeq, tk_zne, tk_zlt, tk_zge, tk_zgt, tk_zle, tk_and, tk_or, tk_not, tk_ct2, tk_isC, List.headD_cons, tk_up, tk_sca, tk_scl, r0, r1, r3, hi6, i1]
    refine x_hangsOn1 h0 h1 h7 ⟨hi0, by omega⟩ (fun r hr hrb => ?_)
    have e := tk_bit_0 (x := r) (k := c) (tk_bs_r (by omega) hr) (by omega)
    generalize tk_iand (tk_ishr r c) 1 = q at e
    by_cases hbit : tk_bit r c
    · have e2 : ¬ q = 0 := by rw [e]; exact fun z => z hbit
      have hh := (hrb c).mp hbit
      simp [e2]
      refine hK _ _ ⟨rfl, r0, r1, rfl, tk_bs_or (by omega) hs hsi, fun d => ?_⟩
      show tk_bit (tk_ior (ρ 2) (tk_ishl 1 i)) d ↔ _
      rw [tk_bit_or (n := 6) (by omega) hs hsi, tk_bit_sh (by omega), hb]
      constructor
      · rintro ((z | ⟨z, z'⟩) | z)
        · exact .inl z
        · exact .inr ⟨by omega, z'⟩
        · rw [z]; exact .inr ⟨by omega, hh⟩
      · rintro (z | ⟨z, z'⟩)
        · exact .inl (.inl z)
        · by_cases hd : d = i
          · exact .inr hd
          · exact .inl (.inr ⟨by omega, z'⟩)
    · have e2 : q = 0 := by rw [e]; exact hbit
      have hh : ¬ tk_hg (tk_hw 1 μ') (-5) i c := fun z => hbit ((hrb c).mpr z)
      simp [e2]
      refine hK _ _ ⟨rfl, r0, r1, rfl, hs, fun d => ?_⟩
      show tk_bit (ρ 2) d ↔ _
      rw [hb]
      constructor
      · rintro (z | ⟨z, z'⟩)
        · exact .inl z
        · exact .inr ⟨by omega, z'⟩
      · rintro (z | ⟨z, z'⟩)
        · exact .inl z
        · by_cases hd : d = i
          · rw [hd] at z'; exact absurd z' hh
          · exact .inr ⟨by omega, z'⟩
  · rintro ρ μ' ⟨rfl, r0, r1, r3, hsA, hbA⟩ X
    simp [tk_fn, tk_env, tk_sq, tk_sk, tk_if, tk_re, tk_rez, tk_rev, tk_xp, tk_se, tk_pf, tk_pfz, tk_pfo, tk_as, tk_asz, tk_asb, tk_aso, tk_cpy, tk_sw, tk_swc, tk_lit, tk_loc, tk_u1, tk_bin, tk_dv, tk_gf, tk_gr, tk_gn, tk_ald, tk_aldq, tk_aln, tk_unl, tk_una, tk_ter, tk_args, tk_cs, tk_cv, tk_ceq, tk_cne, tk_clt, tk_cge, tk_cgt, tk_cle, tk_zeq, tk_zne, tk_zlt, tk_zge, tk_zgt, tk_zle, tk_and, tk_or, tk_not, tk_ct2, tk_isC, List.headD_cons, tk_up, tk_sca, tk_scl, r0, r3]
    generalize hA : ρ 2 = A at hsA hbA
    refine tk_for (μ' 1 1) (fun i ρ μ'' => μ'' = μ' ∧ ρ 0 = 1 ∧ ρ 2 = A ∧ ρ 4 = i ∧ tk_bs2 8 (ρ 3) ∧ ∀ p, tk_bit (ρ 3) p ↔ ∃ t, (0 ≤ t ∧ t < i) ∧ tk_hp (tk_hw 1 μ') c p t) (by omega) ⟨rfl, r0, hA, rfl, tk_bs_0 8, fun p => ⟨fun z => absurd z (tk_bit_z p), fun ⟨t, z, _⟩ => by omega⟩⟩ ?_ ?_
    · rintro i ρ μ'' hi0 hi6 ⟨rfl, q0, q2, q4, hs, hb⟩ K hK
      have i1 : tk_iadd i 1 = i + 1 := tk_iadd_id (by omega) (by omega)
      have i24 : i < 24 := by omega
      have gi := g i hi0 hi6
      have keep : (∀ p, ¬ tk_hp (tk_hw 1 μ'') c p i) → ∀ p, tk_bit (ρ 3) p ↔ ∃ t, (0 ≤ t ∧ t < i + 1) ∧ tk_hp (tk_hw 1 μ'') c p t := fun hz p => by
        rw [hb]
        constructor
        · rintro ⟨t, z, z'⟩; exact ⟨t, by omega, z'⟩
        · rintro ⟨t, z, z'⟩
          by_cases ht : t = i
          · rw [ht] at z'; exact absurd z' (hz p)
          · exact ⟨t, by omega, z'⟩
      by_cases ho : 0 ≤ μ'' 4 i ∧ μ'' 4 i < μ'' 1 2
      · have e := tk_bit_0 (x := A) (k := μ'' 2 i) (tk_bs_r (by omega) hsA) (by omega)
        have hon : ¬ μ'' 1 2 ≤ μ'' 4 i := by omega
        by_cases hbit : tk_bit A (μ'' 2 i)
        · have e2 : ¬ tk_iand (tk_ishr A (μ'' 2 i)) 1 = 0 := by rw [e]; exact fun z => z hbit
          have hsi := tk_bs_sh (n := 8) (j := μ'' 4 i) ⟨ho.1, by omega⟩ (by omega)
          have hh : tk_hp (tk_hw 1 μ'') c (μ'' 4 i) i := ⟨rfl, ho, by
            rcases (hbA _).mp hbit with z | z
            · exact .inl z
            · exact .inr z.2⟩
          simp [tk_fn, tk_env, tk_sq, tk_sk, tk_if, tk_re, tk_rez, tk_rev, tk_xp, tk_se, tk_pf, tk_pfz, tk_pfo, tk_as, tk_asz, tk_asb, tk_aso, tk_cpy, tk_sw, tk_swc, tk_lit, tk_loc, tk_u1, tk_bin, tk_dv, tk_gf, tk_gr, tk_gn, tk_ald, tk_aldq, tk_aln, tk_unl, tk_una, tk_ter, tk_args, tk_cs, tk_cv, tk_ceq, tk_cne, tk_clt, tk_cge, tk_cgt, tk_cle, tk_zeq, tk_zne, tk_zlt, tk_zge, tk_zgt, tk_zle, tk_and, tk_or, tk_not, tk_ct2, tk_isC, List.headD_cons, tk_up, tk_sca, tk_scl, q0, q2, q4, hi6, hi0, i24, tk_al_2, tk_al_3, tk_al_4, tk_al_5, tk_al_6, tk_al_7, tk_al_8, tk_al_9, tk_al_10, tk_al_11, tk_al_13, tk_al_14, tk_al_16, tk_al_17, tk_al_19, tk_al_20, tk_al_22, tk_al_24, tk_al_25, tk_al_26, tk_al_27, tk_al_28, tk_al_29, tk_al_30, tk_al_32, tk_al_33, tk_al_34, tk_al_35, tk_al_36, tk_al_37, tk_al_38, tk_al_39, tk_al_40, tk_al_41, tk_al_43, tk_al_44, tk_al_46, tk_al_47, tk_al_49, tk_al_50, tk_al_52, tk_al_54, tk_al_55, tk_al_56, tk_al_57, tk_al_58, tk_al_59, tk_al_60, tk_al_62, tk_al_63, tk_al_64, tk_al_65, tk_al_66, tk_al_67, tk_al_68, tk_al_69, tk_al_70, tk_al_71, tk_al_73, tk_al_74, tk_al_76, tk_al_77, tk_al_79, tk_al_80, tk_al_81, tk_al_83, tk_al_85, tk_al_87, tk_al_89, tk_al_91, tk_al_93, tk_al_95, tk_al_97, tk_al_98, tk_al_99, tk_al_100, tk_al_101, tk_al_102, tk_al_103, tk_al_104, tk_al_105, tk_al_106, tk_al_107, tk_al_108, tk_al_109, tk_al_110, tk_al_111, tk_al_112, tk_al_113, tk_al_114, tk_al_115, tk_al_116, tk_al_117, tk_al_118, tk_al_119, tk_al_120, tk_al_121, tk_al_122, tk_al_123, tk_al_124, tk_al_125, tk_al_126, tk_al_127, tk_al_128, tk_al_129, x_hasClient, tk_bo_0, ho.1, ho.2, hon, e2, i1]
          refine hK _ _ ⟨rfl, q0, q2, rfl, tk_bs_or (by omega) hs hsi, fun p => ?_⟩
          show tk_bit (tk_ior (ρ 3) (tk_ishl 1 (μ'' 4 i))) p ↔ _
          rw [tk_bit_or (n := 8) (by omega) hs hsi, tk_bit_sh (by omega), hb]
          constructor
          · rintro (⟨t, z, z'⟩ | z)
            · exact ⟨t, by omega, z'⟩
            · rw [z]; exact ⟨i, by omega, hh⟩
          · rintro ⟨t, z, z'⟩
            by_cases ht : t = i
            · rw [ht] at z'; exact .inr z'.1.symm
            · exact .inl ⟨t, by omega, z'⟩
        · have e2 : tk_iand (tk_ishr A (μ'' 2 i)) 1 = 0 := by rw [e]; exact hbit
          simp [tk_fn, tk_env, tk_sq, tk_sk, tk_if, tk_re, tk_rez, tk_rev, tk_xp, tk_se, tk_pf, tk_pfz, tk_pfo, tk_as, tk_asz, tk_asb, tk_aso, tk_cpy, tk_sw, tk_swc, tk_lit, tk_loc, tk_u1, tk_bin, tk_dv, tk_gf, tk_gr, tk_gn, tk_ald, tk_aldq, tk_aln, tk_unl, tk_una, tk_ter, tk_args, tk_cs, tk_cv, tk_ceq, tk_cne, tk_clt, tk_cge, tk_cgt, tk_cle, tk_zeq, tk_zne, tk_zlt, tk_zge, tk_zgt, tk_zle, tk_and, tk_or, tk_not, tk_ct2, tk_isC, List.headD_cons, tk_up, tk_sca, tk_scl, q0, q2, q4, hi6, hi0, i24, tk_al_2, tk_al_3, tk_al_4, tk_al_5, tk_al_6, tk_al_7, tk_al_8, tk_al_9, tk_al_10, tk_al_11, tk_al_13, tk_al_14, tk_al_16, tk_al_17, tk_al_19, tk_al_20, tk_al_22, tk_al_24, tk_al_25, tk_al_26, tk_al_27, tk_al_28, tk_al_29, tk_al_30, tk_al_32, tk_al_33, tk_al_34, tk_al_35, tk_al_36, tk_al_37, tk_al_38, tk_al_39, tk_al_40, tk_al_41, tk_al_43, tk_al_44, tk_al_46, tk_al_47, tk_al_49, tk_al_50, tk_al_52, tk_al_54, tk_al_55, tk_al_56, tk_al_57, tk_al_58, tk_al_59, tk_al_60, tk_al_62, tk_al_63, tk_al_64, tk_al_65, tk_al_66, tk_al_67, tk_al_68, tk_al_69, tk_al_70, tk_al_71, tk_al_73, tk_al_74, tk_al_76, tk_al_77, tk_al_79, tk_al_80, tk_al_81, tk_al_83, tk_al_85, tk_al_87, tk_al_89, tk_al_91, tk_al_93, tk_al_95, tk_al_97, tk_al_98, tk_al_99, tk_al_100, tk_al_101, tk_al_102, tk_al_103, tk_al_104, tk_al_105, tk_al_106, tk_al_107, tk_al_108, tk_al_109, tk_al_110, tk_al_111, tk_al_112, tk_al_113, tk_al_114, tk_al_115, tk_al_116, tk_al_117, tk_al_118, tk_al_119, tk_al_120, tk_al_121, tk_al_122, tk_al_123, tk_al_124, tk_al_125, tk_al_126, tk_al_127, tk_al_128, tk_al_129, x_hasClient, tk_bo_0, ho.1, ho.2, hon, e2, i1]
          refine hK _ _ ⟨rfl, q0, q2, rfl, hs, keep (fun p z => hbit ((hbA _).mpr ?_))⟩
          rcases z.2.2 with z | z
          · exact .inl z
          · exact .inr ⟨gi.1, z⟩
      · simp [tk_fn, tk_env, tk_sq, tk_sk, tk_if, tk_re, tk_rez, tk_rev, tk_xp, tk_se, tk_pf, tk_pfz, tk_pfo, tk_as, tk_asz, tk_asb, tk_aso, tk_cpy, tk_sw, tk_swc, tk_lit, tk_loc, tk_u1, tk_bin, tk_dv, tk_gf, tk_gr, tk_gn, tk_ald, tk_aldq, tk_aln, tk_unl, tk_una, tk_ter, tk_args, tk_cs, tk_cv, tk_ceq, tk_cne, tk_clt, tk_cge, tk_cgt, tk_cle, tk_zeq, tk_zne, tk_zlt, tk_zge, tk_zgt, tk_zle, tk_and, tk_or, tk_not, tk_ct2, tk_isC, List.headD_cons, tk_up, tk_sca, tk_scl, q0, q2, q4, hi6, hi0, i24, tk_al_2, tk_al_3, tk_al_4, tk_al_5, tk_al_6, tk_al_7, tk_al_8, tk_al_9, tk_al_10, tk_al_11, tk_al_13, tk_al_14, tk_al_16, tk_al_17, tk_al_19, tk_al_20, tk_al_22, tk_al_24, tk_al_25, tk_al_26, tk_al_27, tk_al_28, tk_al_29, tk_al_30, tk_al_32, tk_al_33, tk_al_34, tk_al_35, tk_al_36, tk_al_37, tk_al_38, tk_al_39, tk_al_40, tk_al_41, tk_al_43, tk_al_44, tk_al_46, tk_al_47, tk_al_49, tk_al_50, tk_al_52, tk_al_54, tk_al_55, tk_al_56, tk_al_57, tk_al_58, tk_al_59, tk_al_60, tk_al_62, tk_al_63, tk_al_64, tk_al_65, tk_al_66, tk_al_67, tk_al_68, tk_al_69, tk_al_70, tk_al_71, tk_al_73, tk_al_74, tk_al_76, tk_al_77, tk_al_79, tk_al_80, tk_al_81, tk_al_83, tk_al_85, tk_al_87, tk_al_89, tk_al_91, tk_al_93, tk_al_95, tk_al_97, tk_al_98, tk_al_99, tk_al_100, tk_al_101, tk_al_102, tk_al_103, tk_al_104, tk_al_105, tk_al_106, tk_al_107, tk_al_108, tk_al_109, tk_al_110, tk_al_111, tk_al_112, tk_al_113, tk_al_114, tk_al_115, tk_al_116, tk_al_117, tk_al_118, tk_al_119, tk_al_120, tk_al_121, tk_al_122, tk_al_123, tk_al_124, tk_al_125, tk_al_126, tk_al_127, tk_al_128, tk_al_129, x_hasClient, tk_bo_0, ho, i1, -not_and]
        refine hK _ _ ⟨rfl, q0, q2, rfl, hs, keep (fun p z => ho ?_)⟩
        have z1 : μ'' 4 i = p := z.1
        rw [z1]
        exact z.2.1
    · rintro ρ μ'' ⟨rfl, q0, q2, q4, hs, hb⟩ X
      simp [tk_fn, tk_env, tk_sq, tk_sk, tk_if, tk_re, tk_rez, tk_rev, tk_xp, tk_se, tk_pf, tk_pfz, tk_pfo, tk_as, tk_asz, tk_asb, tk_aso, tk_cpy, tk_sw, tk_swc, tk_lit, tk_loc, tk_u1, tk_bin, tk_dv, tk_gf, tk_gr, tk_gn, tk_ald, tk_aldq, tk_aln, tk_unl, tk_una, tk_ter, tk_args, tk_cs, tk_cv, tk_ceq, tk_cne, tk_clt, tk_cge, tk_cgt, tk_cle, tk_zeq, tk_zne, tk_zlt, tk_zge, tk_zgt, tk_zle, tk_and, tk_or, tk_not, tk_ct2, tk_isC, List.headD_cons, tk_up, tk_sca, tk_scl, q0, q4]
      exact hQ _ hs hb
theorem m_needs_a {F1 F2 : tk_F} (hF1 : ∀ (x k : Int) (μ : tk_M) (Q : Int → tk_M → Prop), (0 ≤ x ∧ x ≤ 2147483647) → (0 ≤ k ∧ k ≤ 30) → (tk_bit x k → Q 1 μ) → (¬ tk_bit x k → Q 0 μ) → F1 [x, k] Q μ) {c w : Int} {μ : tk_M} {Q : Int → tk_M → Prop} (h0 : tk_I0 (tk_mv μ)) (h1 : tk_I1 (tk_mv μ)) (hc : 0 ≤ c ∧ c < μ 96 0) (hw : w = 0 ∨ w = 1) (hF2 : ∀ R : Int → tk_M → Prop, (∀ μ', tk_f1 115 115 (tk_set μ 96 24 0) μ' → tk_mH (tk_mv μ) (-1) μ' → R 0 μ') → F2 [96, -1] R (tk_set μ 96 24 0)) (hQ0 : w = 0 → ∀ μ', tk_f1 115 115 (tk_set μ 96 24 0) μ' → tk_mH (tk_mv μ) (-1) μ' → Q (μ' 115 c) μ') (hQ1 : w = 1 → ∀ r μ', tk_f1 115 115 (tk_set μ 96 24 0) μ' → tk_bs2 8 r → (∀ p, tk_bit r p ↔ ∃ t, (0 ≤ t ∧ t < μ 96 1) ∧ tk_hp (tk_mv μ) c p t) → Q r μ') : (tk_fn [2, 0, 0] (tk_sq (tk_pf 7 24 (tk_loc 0) (tk_lit (0))) (tk_sq (tk_if (tk_or (tk_not (tk_zne (tk_cv 7 tkF_X7_isCurrency [(tk_loc 0), (tk_loc 1)]))) (tk_not (tk_zne (tk_cs tkF_X7_in [(tk_loc 2), (tk_lit (0)), (tk_lit (1))])))) (tk_re (tk_lit (-1))) tk_sk) (tk_sq (tk_xp (tk_cv 7 F2 [(tk_loc 0), (tk_lit (-1))])) (tk_sq (tk_if (tk_zeq (tk_loc 2)) (tk_re (tk_ald 0 (tk_gr 7 (19) (tk_loc 0)) (tk_loc 1))) tk_sk) (tk_sq (tk_se 3 (tk_lit (0))) (tk_sq (tk_sq (tk_se 4 (tk_lit (0))) (tk_wh (tk_clt (tk_loc 4) (tk_gf 7 1 (tk_loc 0))) (tk_sq (tk_sq (tk_se 5 (tk_ter (tk_and (tk_zne (tk_cs tkF_X7_in [(tk_ald 0 (tk_gr 7 (3) (tk_loc 0)) (tk_loc 4)), (tk_lit (0)), (tk_lit (7))])) (tk_or (tk_ceq (tk_ald 0 (tk_gr 7 (1) (tk_loc 0)) (tk_loc 4)) (tk_loc 1)) (tk_zne (tk_cs F1 [(tk_ald 0 (tk_gr 7 (19) (tk_loc 0)) (tk_ald 0 (tk_gr 7 (1) (tk_loc 0)) (tk_loc 4))), (tk_loc 1)])))) (tk_lit 1) (tk_lit 0))) (tk_se 3 (tk_bin tk_ior (tk_loc 3) (tk_ter (tk_zne (tk_loc 5)) (tk_bin tk_ishl (tk_lit (1)) (tk_ald 0 (tk_gr 7 (3) (tk_loc 0)) (tk_loc 4))) (tk_lit (0)))))) (tk_se 4 (tk_bin tk_iadd (tk_loc 4) (tk_lit (1))))))) (tk_re (tk_loc 3))))))))) [96, c, w] Q μ := by
  have g1 : 1 ≤ μ 96 0 ∧ μ 96 0 ≤ 6 := h0.1
  have g2 : 0 ≤ μ 96 1 ∧ μ 96 1 ≤ 24 := h0.2.1
  have g3 : 0 ≤ μ 96 5 ∧ μ 96 5 ≤ 8 := h0.2.2.1
  have g0 : 0 ≤ μ 96 0 := by omega
  have hcn : ¬ μ 96 0 ≤ c := by omega
  have hc6 : c < 6 := by omega
  rcases hw with hw | hw
  · simp [tk_fn, tk_env, tk_sq, tk_sk, tk_if, tk_re, tk_rez, tk_rev, tk_xp, tk_se, tk_pf, tk_pfz, tk_pfo, tk_as, tk_asz, tk_asb, tk_aso, tk_cpy, tk_sw, tk_swc, tk_lit, tk_loc, tk_u1, tk_bin, tk_dv, tk_gf, tk_gr, tk_gn, tk_ald, tk_aldq, tk_aln, tk_unl, tk_una, tk_ter, tk_args, tk_cs, tk_cv, tk_ceq, tk_cne, tk_clt, tk_cge, tk_cgt, tk_cle, tk_zeq, tk_zne, tk_zlt, tk_zge, tk_zgt, tk_zle, tk_and, tk_or, tk_not, tk_ct2, tk_isC, List.headD_cons, tk_up, tk_sca, tk_scl, m_isCurrency, m_in, tk_set_j, g0, g1.2, tk_bo_0, hc.1, hc.2, hcn, eq_true hw, show 0 ≤ w from by omega, show w ≤ 1 from by omega, show ¬ w < 0 from by omega, show ¬ 1 < w from by omega]
    refine hF2 _ (fun μ1 hf hH => ?_)
    simp [hc.1, hc6, tk_al_2, tk_al_3, tk_al_4, tk_al_5, tk_al_6, tk_al_7, tk_al_8, tk_al_9, tk_al_10, tk_al_11, tk_al_13, tk_al_14, tk_al_16, tk_al_17, tk_al_19, tk_al_20, tk_al_22, tk_al_24, tk_al_25, tk_al_26, tk_al_27, tk_al_28, tk_al_29, tk_al_30, tk_al_32, tk_al_33, tk_al_34, tk_al_35, tk_al_36, tk_al_37, tk_al_38, tk_al_39, tk_al_40, tk_al_41, tk_al_43, tk_al_44, tk_al_46, tk_al_47, tk_al_49, tk_al_50, tk_al_52, tk_al_54, tk_al_55, tk_al_56, tk_al_57, tk_al_58, tk_al_59, tk_al_60, tk_al_62, tk_al_63, tk_al_64, tk_al_65, tk_al_66, tk_al_67, tk_al_68, tk_al_69, tk_al_70, tk_al_71, tk_al_73, tk_al_74, tk_al_76, tk_al_77, tk_al_79, tk_al_80, tk_al_81, tk_al_83, tk_al_85, tk_al_87, tk_al_89, tk_al_91, tk_al_93, tk_al_95, tk_al_97, tk_al_98, tk_al_99, tk_al_100, tk_al_101, tk_al_102, tk_al_103, tk_al_104, tk_al_105, tk_al_106, tk_al_107, tk_al_108, tk_al_109, tk_al_110, tk_al_111, tk_al_112, tk_al_113, tk_al_114, tk_al_115, tk_al_116, tk_al_117, tk_al_118, tk_al_119, tk_al_120, tk_al_121, tk_al_122, tk_al_123, tk_al_124, tk_al_125, tk_al_126, tk_al_127, tk_al_128, tk_al_129]
    exact hQ0 hw μ1 hf hH
  · simp [tk_fn, tk_env, tk_sq, tk_sk, tk_if, tk_re, tk_rez, tk_rev, tk_xp, tk_se, tk_pf, tk_pfz, tk_pfo, tk_as, tk_asz, tk_asb, tk_aso, tk_cpy, tk_sw, tk_swc, tk_lit, tk_loc, tk_u1, tk_bin, tk_dv, tk_gf, tk_gr, tk_gn, tk_ald, tk_aldq, tk_aln, tk_unl, tk_una, tk_ter, tk_args, tk_cs, tk_cv, tk_ceq, tk_cne, tk_clt, tk_cge, tk_cgt, tk_cle, tk_zeq, tk_zne, tk_zlt, tk_zge, tk_zgt, tk_zle, tk_and, tk_or, tk_not, tk_ct2, tk_isC, List.headD_cons, tk_up, tk_sca, tk_scl, m_isCurrency, m_in, tk_set_j, g0, g1.2, tk_bo_0, hc.1, hc.2, hcn, show ¬ w = 0 from by omega, show 0 ≤ w from by omega, show w ≤ 1 from by omega, show ¬ w < 0 from by omega, show ¬ 1 < w from by omega]
    refine hF2 _ (fun μ1 hf hH => ?_)
    have f1 : μ1 96 1 = μ 96 1 := by rw [hf _ _ (by omega), tk_set_j (by omega)]
    have f97 : ∀ t, μ1 97 t = μ 97 t := fun t => by rw [hf _ _ (by omega), tk_set_o (by omega)]
    have f99 : ∀ t, μ1 99 t = μ 99 t := fun t => by rw [hf _ _ (by omega), tk_set_o (by omega)]
    refine tk_for (μ 96 1) (fun i ρ μ' => μ' = μ1 ∧ ρ 0 = 96 ∧ ρ 1 = c ∧ ρ 4 = i ∧ tk_bs2 8 (ρ 3) ∧ ∀ p, tk_bit (ρ 3) p ↔ ∃ t, (0 ≤ t ∧ t < i) ∧ tk_hp (tk_mv μ) c p t) g2.1 ⟨rfl, rfl, rfl, rfl, tk_bs_0 8, fun p => ⟨fun z => absurd z (tk_bit_z p), fun ⟨t, z, _⟩ => by omega⟩⟩ ?_ ?_
    · rintro i ρ μ' hi0 hi6 ⟨rfl, q0, q1, q4, hs, hb⟩ K hK
      have i1 : tk_iadd i 1 = i + 1 := tk_iadd_id (by omega) (by omega)
      have i24 : i < 24 := by omega
      have gi : (0 ≤ μ 97 i ∧ μ 97 i < μ 96 0) ∧ (1 ≤ μ 98 i ∧ μ 98 i ≤ 9999) ∧ (μ 99 i = -5 ∨ (0 ≤ μ 99 i ∧ μ 99 i < μ 96 5) ∨ (11 ≤ μ 99 i ∧ μ 99 i < 10 + μ 96 0)) := h1 i hi0 hi6
      have hHi := hH (μ 97 i) gi.1.1 (by omega)
      have h976 : μ 97 i < 6 := by omega
      have no : (∀ p, ¬ tk_hp (tk_mv μ) c p i) → ∀ ρ2 : tk_L, ρ2 0 = 96 → ρ2 1 = c → ρ2 4 = i + 1 → ρ2 3 = tk_ior (ρ 3) 0 → K ρ2 μ' := fun hz ρ2 z0 z1 z4 z3 => by
        refine hK _ _ ⟨rfl, z0, z1, z4, by rw [z3]; exact tk_bs_or (by omega) hs (tk_bs_0 8), fun p => ?_⟩
        rw [z3, tk_bit_or (n := 8) (by omega) hs (tk_bs_0 8), hb]
        constructor
        · rintro (⟨t, z, z'⟩ | z)
          · exact ⟨t, by omega, z'⟩
          · exact absurd z (tk_bit_z p)
        · rintro ⟨t, z, z'⟩
          by_cases ht : t = i
          · rw [ht] at z'; exact absurd z' (hz p)
          · exact .inl ⟨t, by omega, z'⟩
      have yes : (0 ≤ μ 99 i ∧ μ 99 i < μ 96 5) → (μ 97 i = c ∨ tk_hg (tk_mv μ) (-5) (μ 97 i) c) → ∀ ρ2 : tk_L, ρ2 0 = 96 → ρ2 1 = c → ρ2 4 = i + 1 → ρ2 3 = tk_ior (ρ 3) (tk_ishl 1 (μ 99 i)) → K ρ2 μ' := fun ho hz ρ2 z0 z1 z4 z3 => by
        have hsi := tk_bs_sh (n := 8) (j := μ 99 i) ⟨ho.1, by omega⟩ (by omega)
        have hh : tk_hp (tk_mv μ) c (μ 99 i) i := ⟨rfl, ho, hz⟩
        refine hK _ _ ⟨rfl, z0, z1, z4, by rw [z3]; exact tk_bs_or (by omega) hs hsi, fun p => ?_⟩
        rw [z3, tk_bit_or (n := 8) (by omega) hs hsi, tk_bit_sh (by omega), hb]
        constructor
        · rintro (⟨t, z, z'⟩ | z)
          · exact ⟨t, by omega, z'⟩
          · rw [z]; exact ⟨i, by omega, hh⟩
        · rintro ⟨t, z, z'⟩
          by_cases ht : t = i
          · rw [ht] at z'; exact .inr z'.1.symm
          · exact .inl ⟨t, by omega, z'⟩
      by_cases ho : 0 ≤ μ 99 i ∧ μ 99 i ≤ 7
      · have ho2 : 0 ≤ μ 99 i ∧ μ 99 i < μ 96 5 := by omega
        have h7n : ¬ 7 < μ 99 i := by omega
        by_cases hcc : μ 97 i = c
        · simp [tk_fn, tk_env, tk_sq, tk_sk, tk_if, tk_re, tk_rez, tk_rev, tk_xp, tk_se, tk_pf, tk_pfz, tk_pfo, tk_as, tk_asz, tk_asb, tk_aso, tk_cpy, tk_sw, tk_swc, tk_lit, tk_loc, tk_u1, tk_bin, tk_dv, tk_gf, tk_gr, tk_gn, tk_ald, tk_aldq, tk_aln, tk_unl, tk_una, tk_ter, tk_args, tk_cs, tk_cv, tk_ceq, tk_cne, tk_clt, tk_cge, tk_cgt, tk_cle, tk_zeq, tk_zne, tk_zlt, tk_zge, tk_zgt, tk_zle, tk_and, tk_or, tk_not, tk_ct2, tk_isC, List.headD_cons, tk_up, tk_sca, tk_scl, q0, q1, q4, f1, f97, f99, hi6, hi0, i24, tk_al_2, tk_al_3, tk_al_4, tk_al_5, tk_al_6, tk_al_7, tk_al_8, tk_al_9, tk_al_10, tk_al_11, tk_al_13, tk_al_14, tk_al_16, tk_al_17, tk_al_19, tk_al_20, tk_al_22, tk_al_24, tk_al_25, tk_al_26, tk_al_27, tk_al_28, tk_al_29, tk_al_30, tk_al_32, tk_al_33, tk_al_34, tk_al_35, tk_al_36, tk_al_37, tk_al_38, tk_al_39, tk_al_40, tk_al_41, tk_al_43, tk_al_44, tk_al_46, tk_al_47, tk_al_49, tk_al_50, tk_al_52, tk_al_54, tk_al_55, tk_al_56, tk_al_57, tk_al_58, tk_al_59, tk_al_60, tk_al_62, tk_al_63, tk_al_64, tk_al_65, tk_al_66, tk_al_67, tk_al_68, tk_al_69, tk_al_70, tk_al_71, tk_al_73, tk_al_74, tk_al_76, tk_al_77, tk_al_79, tk_al_80, tk_al_81, tk_al_83, tk_al_85, tk_al_87, tk_al_89, tk_al_91, tk_al_93, tk_al_95, tk_al_97, tk_al_98, tk_al_99, tk_al_100, tk_al_101, tk_al_102, tk_al_103, tk_al_104, tk_al_105, tk_al_106, tk_al_107, tk_al_108, tk_al_109, tk_al_110, tk_al_111, tk_al_112, tk_al_113, tk_al_114, tk_al_115, tk_al_116, tk_al_117, tk_al_118, tk_al_119, tk_al_120, tk_al_121, tk_al_122, tk_al_123, tk_al_124, tk_al_125, tk_al_126, tk_al_127, tk_al_128, tk_al_129, m_in, tk_bo_0, ho.1, ho.2, h7n, eq_true hcc, i1]
          exact yes ho2 (.inl hcc) _ q0 q1 rfl rfl
        · simp [tk_fn, tk_env, tk_sq, tk_sk, tk_if, tk_re, tk_rez, tk_rev, tk_xp, tk_se, tk_pf, tk_pfz, tk_pfo, tk_as, tk_asz, tk_asb, tk_aso, tk_cpy, tk_sw, tk_swc, tk_lit, tk_loc, tk_u1, tk_bin, tk_dv, tk_gf, tk_gr, tk_gn, tk_ald, tk_aldq, tk_aln, tk_unl, tk_una, tk_ter, tk_args, tk_cs, tk_cv, tk_ceq, tk_cne, tk_clt, tk_cge, tk_cgt, tk_cle, tk_zeq, tk_zne, tk_zlt, tk_zge, tk_zgt, tk_zle, tk_and, tk_or, tk_not, tk_ct2, tk_isC, List.headD_cons, tk_up, tk_sca, tk_scl, q0, q1, q4, f1, f97, f99, hi6, hi0, i24, tk_al_2, tk_al_3, tk_al_4, tk_al_5, tk_al_6, tk_al_7, tk_al_8, tk_al_9, tk_al_10, tk_al_11, tk_al_13, tk_al_14, tk_al_16, tk_al_17, tk_al_19, tk_al_20, tk_al_22, tk_al_24, tk_al_25, tk_al_26, tk_al_27, tk_al_28, tk_al_29, tk_al_30, tk_al_32, tk_al_33, tk_al_34, tk_al_35, tk_al_36, tk_al_37, tk_al_38, tk_al_39, tk_al_40, tk_al_41, tk_al_43, tk_al_44, tk_al_46, tk_al_47, tk_al_49, tk_al_50, tk_al_52, tk_al_54, tk_al_55, tk_al_56, tk_al_57, tk_al_58, tk_al_59, tk_al_60, tk_al_62, tk_al_63, tk_al_64, tk_al_65, tk_al_66, tk_al_67, tk_al_68, tk_al_69, tk_al_70, tk_al_71, tk_al_73, tk_al_74, tk_al_76, tk_al_77, tk_al_79, tk_al_80, tk_al_81, tk_al_83, tk_al_85, tk_al_87, tk_al_89, tk_al_91, tk_al_93, tk_al_95, tk_al_97, tk_al_98, tk_al_99, tk_al_100, tk_al_101, tk_al_102, tk_al_103, tk_al_104, tk_al_105, tk_al_106, tk_al_107, tk_al_108, tk_al_109, tk_al_110, tk_al_111, tk_al_112, tk_al_113, tk_al_114, tk_al_115, tk_al_116, tk_al_117, tk_al_118, tk_al_119, tk_al_120, tk_al_121, tk_al_122, tk_al_123, tk_al_124, tk_al_125, tk_al_126, tk_al_127, tk_al_128, tk_al_129, m_in, tk_bo_0, ho.1, ho.2, h7n, hcc, gi.1.1, h976, i1]
          refine hF1 _ _ _ _ (tk_bs_r (by omega) hHi.1) (by omega) (fun hbit => ?_) (fun hbit => ?_)
          · simp [f99]
            exact yes ho2 (.inr (tk_hg_w (by omega) (by omega) ((hHi.2 c).mp hbit))) _ q0 q1 rfl rfl
          · simp
            refine no (fun p z => hbit ((hHi.2 c).mpr ?_)) _ q0 q1 rfl rfl
            rcases z.2.2 with z | z
            · exact absurd z hcc
            · exact tk_hg_w (by omega) (by omega) z
      · simp [tk_fn, tk_env, tk_sq, tk_sk, tk_if, tk_re, tk_rez, tk_rev, tk_xp, tk_se, tk_pf, tk_pfz, tk_pfo, tk_as, tk_asz, tk_asb, tk_aso, tk_cpy, tk_sw, tk_swc, tk_lit, tk_loc, tk_u1, tk_bin, tk_dv, tk_gf, tk_gr, tk_gn, tk_ald, tk_aldq, tk_aln, tk_unl, tk_una, tk_ter, tk_args, tk_cs, tk_cv, tk_ceq, tk_cne, tk_clt, tk_cge, tk_cgt, tk_cle, tk_zeq, tk_zne, tk_zlt, tk_zge, tk_zgt, tk_zle, tk_and, tk_or, tk_not, tk_ct2, tk_isC, List.headD_cons, tk_up, tk_sca, tk_scl, q0, q1, q4, f1, f97, f99, hi6, hi0, i24, tk_al_2, tk_al_3, tk_al_4, tk_al_5, tk_al_6, tk_al_7, tk_al_8, tk_al_9, tk_al_10, tk_al_11, tk_al_13, tk_al_14, tk_al_16, tk_al_17, tk_al_19, tk_al_20, tk_al_22, tk_al_24, tk_al_25, tk_al_26, tk_al_27, tk_al_28, tk_al_29, tk_al_30, tk_al_32, tk_al_33, tk_al_34, tk_al_35, tk_al_36, tk_al_37, tk_al_38, tk_al_39, tk_al_40, tk_al_41, tk_al_43, tk_al_44, tk_al_46, tk_al_47, tk_al_49, tk_al_50, tk_al_52, tk_al_54, tk_al_55, tk_al_56, tk_al_57, tk_al_58, tk_al_59, tk_al_60, tk_al_62, tk_al_63, tk_al_64, tk_al_65, tk_al_66, tk_al_67, tk_al_68, tk_al_69, tk_al_70, tk_al_71, tk_al_73, tk_al_74, tk_al_76, tk_al_77, tk_al_79, tk_al_80, tk_al_81, tk_al_83, tk_al_85, tk_al_87, tk_al_89, tk_al_91, tk_al_93, tk_al_95, tk_al_97, tk_al_98, tk_al_99, tk_al_100, tk_al_101, tk_al_102, tk_al_103, tk_al_104, tk_al_105, tk_al_106, tk_al_107, tk_al_108, tk_al_109, tk_al_110, tk_al_111, tk_al_112, tk_al_113, tk_al_114, tk_al_115, tk_al_116, tk_al_117, tk_al_118, tk_al_119, tk_al_120, tk_al_121, tk_al_122, tk_al_123, tk_al_124, tk_al_125, tk_al_126, tk_al_127, tk_al_128, tk_al_129, m_in, tk_bo_0, ho, i1, -not_and]
        refine no (fun p z => ho ?_) _ q0 q1 rfl rfl
        have z1 : μ 99 i = p := z.1
        have z2 : 0 ≤ p ∧ p < μ 96 5 := z.2.1
        omega
    · rintro ρ μ' ⟨rfl, q0, q1, q4, hs, hb⟩ X
      simp [tk_fn, tk_env, tk_sq, tk_sk, tk_if, tk_re, tk_rez, tk_rev, tk_xp, tk_se, tk_pf, tk_pfz, tk_pfo, tk_as, tk_asz, tk_asb, tk_aso, tk_cpy, tk_sw, tk_swc, tk_lit, tk_loc, tk_u1, tk_bin, tk_dv, tk_gf, tk_gr, tk_gn, tk_ald, tk_aldq, tk_aln, tk_unl, tk_una, tk_ter, tk_args, tk_cs, tk_cv, tk_ceq, tk_cne, tk_clt, tk_cge, tk_cgt, tk_cle, tk_zeq, tk_zne, tk_zlt, tk_zge, tk_zgt, tk_zle, tk_and, tk_or, tk_not, tk_ct2, tk_isC, List.headD_cons, tk_up, tk_sca, tk_scl, q0, q4, f1]
      exact hQ1 hw _ _ hf hs hb
theorem m_needs_n {F1 F2 : tk_F} {c w : Int} {μ : tk_M} {Q : Int → tk_M → Prop} (g1 : 1 ≤ μ 96 0 ∧ μ 96 0 ≤ 6) (hno : ¬ ((0 ≤ c ∧ c < μ 96 0) ∧ (0 ≤ w ∧ w ≤ 1))) (hQ : Q (-1) (tk_set μ 96 24 0)) : (tk_fn [2, 0, 0] (tk_sq (tk_pf 7 24 (tk_loc 0) (tk_lit (0))) (tk_sq (tk_if (tk_or (tk_not (tk_zne (tk_cv 7 tkF_X7_isCurrency [(tk_loc 0), (tk_loc 1)]))) (tk_not (tk_zne (tk_cs tkF_X7_in [(tk_loc 2), (tk_lit (0)), (tk_lit (1))])))) (tk_re (tk_lit (-1))) tk_sk) (tk_sq (tk_xp (tk_cv 7 F2 [(tk_loc 0), (tk_lit (-1))])) (tk_sq (tk_if (tk_zeq (tk_loc 2)) (tk_re (tk_ald 0 (tk_gr 7 (19) (tk_loc 0)) (tk_loc 1))) tk_sk) (tk_sq (tk_se 3 (tk_lit (0))) (tk_sq (tk_sq (tk_se 4 (tk_lit (0))) (tk_wh (tk_clt (tk_loc 4) (tk_gf 7 1 (tk_loc 0))) (tk_sq (tk_sq (tk_se 5 (tk_ter (tk_and (tk_zne (tk_cs tkF_X7_in [(tk_ald 0 (tk_gr 7 (3) (tk_loc 0)) (tk_loc 4)), (tk_lit (0)), (tk_lit (7))])) (tk_or (tk_ceq (tk_ald 0 (tk_gr 7 (1) (tk_loc 0)) (tk_loc 4)) (tk_loc 1)) (tk_zne (tk_cs F1 [(tk_ald 0 (tk_gr 7 (19) (tk_loc 0)) (tk_ald 0 (tk_gr 7 (1) (tk_loc 0)) (tk_loc 4))), (tk_loc 1)])))) (tk_lit 1) (tk_lit 0))) (tk_se 3 (tk_bin tk_ior (tk_loc 3) (tk_ter (tk_zne (tk_loc 5)) (tk_bin tk_ishl (tk_lit (1)) (tk_ald 0 (tk_gr 7 (3) (tk_loc 0)) (tk_loc 4))) (tk_lit (0)))))) (tk_se 4 (tk_bin tk_iadd (tk_loc 4) (tk_lit (1))))))) (tk_re (tk_loc 3))))))))) [96, c, w] Q μ := by
  have g0 : 0 ≤ μ 96 0 := by omega
  by_cases hc : 0 ≤ c ∧ c < μ 96 0
  · have hw : ¬ (0 ≤ w ∧ w ≤ 1) := fun z => hno ⟨hc, z⟩
    simp [tk_fn, tk_env, tk_sq, tk_sk, tk_if, tk_re, tk_rez, tk_rev, tk_xp, tk_se, tk_pf, tk_pfz, tk_pfo, tk_as, tk_asz, tk_asb, tk_aso, tk_cpy, tk_sw, tk_swc, tk_lit, tk_loc, tk_u1, tk_bin, tk_dv, tk_gf, tk_gr, tk_gn, tk_ald, tk_aldq, tk_aln, tk_unl, tk_una, tk_ter, tk_args, tk_cs, tk_cv, tk_ceq, tk_cne, tk_clt, tk_cge, tk_cgt, tk_cle, tk_zeq, tk_zne, tk_zlt, tk_zge, tk_zgt, tk_zle, tk_and, tk_or, tk_not, tk_ct2, tk_isC, List.headD_cons, tk_up, tk_sca, tk_scl, m_isCurrency, m_in, tk_set_j, g0, g1.2, tk_bo_0, hc.1, hc.2, show ¬ μ 96 0 ≤ c from by omega, hw, -not_and]
    exact hQ
  · simp [tk_fn, tk_env, tk_sq, tk_sk, tk_if, tk_re, tk_rez, tk_rev, tk_xp, tk_se, tk_pf, tk_pfz, tk_pfo, tk_as, tk_asz, tk_asb, tk_aso, tk_cpy, tk_sw, tk_swc, tk_lit, tk_loc, tk_u1, tk_bin, tk_dv, tk_gf, tk_gr, tk_gn, tk_ald, tk_aldq, tk_aln, tk_unl, tk_una, tk_ter, tk_args, tk_cs, tk_cv, tk_ceq, tk_cne, tk_clt, tk_cge, tk_cgt, tk_cle, tk_zeq, tk_zne, tk_zlt, tk_zge, tk_zgt, tk_zle, tk_and, tk_or, tk_not, tk_ct2, tk_isC, List.headD_cons, tk_up, tk_sca, tk_scl, m_isCurrency, tk_set_j, g0, g1.2, tk_bo_0, hc, -not_and]
    exact hQ
theorem x_needs_a {G1 G2 : tk_F} {c w : Int} {μ : tk_M} {Q : Int → tk_M → Prop} (hc : 0 ≤ c ∧ c < μ 1 0) (hw : w = 0 ∨ w = 1) (h0 : w = 0 → G1 [1, c, -5] Q μ) (h1 : w = 1 → G2 [1, c] Q μ) : (tk_fn [2, 0, 0] (tk_sq (tk_if (tk_or (tk_or (tk_not (tk_zne (tk_cv 2 tkF_X2_hasCurrency [(tk_gr 6 (1) (tk_loc 0)), (tk_loc 1)]))) (tk_zlt (tk_loc 2))) (tk_cgt (tk_loc 2) (tk_lit (1)))) (tk_re (tk_lit (-1))) tk_sk) (tk_re (tk_ter (tk_zeq (tk_loc 2)) (tk_cv 2 G1 [(tk_gr 6 (1) (tk_loc 0)), (tk_loc 1), (tk_lit (-5))]) (tk_cv 2 G2 [(tk_gr 6 (1) (tk_loc 0)), (tk_loc 1)]))))) [0, c, w] Q μ := by
  rcases hw with hw | hw
  · simp [tk_fn, tk_env, tk_sq, tk_sk, tk_if, tk_re, tk_rez, tk_rev, tk_xp, tk_se, tk_pf, tk_pfz, tk_pfo, tk_as, tk_asz, tk_asb, tk_aso, tk_cpy, tk_sw, tk_swc, tk_lit, tk_loc, tk_u1, tk_bin, tk_dv, tk_gf, tk_gr, tk_gn, tk_ald, tk_aldq, tk_aln, tk_unl, tk_una, tk_ter, tk_args, tk_cs, tk_cv, tk_ceq, tk_cne, tk_clt, tk_cge, tk_cgt, tk_cle, tk_zeq, tk_zne, tk_zlt, tk_zge, tk_zgt, tk_zle, tk_and, tk_or, tk_not, tk_ct2, tk_isC, List.headD_cons, tk_up, tk_sca, tk_scl, x_hasCurrency, tk_bo_0, hc.1, hc.2, show ¬ μ 1 0 ≤ c from by omega, eq_true hw, show ¬ w < 0 from by omega, show ¬ 1 < w from by omega]
    exact h0 hw
  · simp [tk_fn, tk_env, tk_sq, tk_sk, tk_if, tk_re, tk_rez, tk_rev, tk_xp, tk_se, tk_pf, tk_pfz, tk_pfo, tk_as, tk_asz, tk_asb, tk_aso, tk_cpy, tk_sw, tk_swc, tk_lit, tk_loc, tk_u1, tk_bin, tk_dv, tk_gf, tk_gr, tk_gn, tk_ald, tk_aldq, tk_aln, tk_unl, tk_una, tk_ter, tk_args, tk_cs, tk_cv, tk_ceq, tk_cne, tk_clt, tk_cge, tk_cgt, tk_cle, tk_zeq, tk_zne, tk_zlt, tk_zge, tk_zgt, tk_zle, tk_and, tk_or, tk_not, tk_ct2, tk_isC, List.headD_cons, tk_up, tk_sca, tk_scl, x_hasCurrency, tk_bo_0, hc.1, hc.2, show ¬ μ 1 0 ≤ c from by omega, show ¬ w = 0 from by omega, show ¬ w < 0 from by omega, show ¬ 1 < w from by omega]
    exact h1 hw
theorem x_needs_n {G1 G2 : tk_F} {c w : Int} {μ : tk_M} {Q : Int → tk_M → Prop} (hno : ¬ ((0 ≤ c ∧ c < μ 1 0) ∧ (0 ≤ w ∧ w ≤ 1))) (hQ : Q (-1) μ) : (tk_fn [2, 0, 0] (tk_sq (tk_if (tk_or (tk_or (tk_not (tk_zne (tk_cv 2 tkF_X2_hasCurrency [(tk_gr 6 (1) (tk_loc 0)), (tk_loc 1)]))) (tk_zlt (tk_loc 2))) (tk_cgt (tk_loc 2) (tk_lit (1)))) (tk_re (tk_lit (-1))) tk_sk) (tk_re (tk_ter (tk_zeq (tk_loc 2)) (tk_cv 2 G1 [(tk_gr 6 (1) (tk_loc 0)), (tk_loc 1), (tk_lit (-5))]) (tk_cv 2 G2 [(tk_gr 6 (1) (tk_loc 0)), (tk_loc 1)]))))) [0, c, w] Q μ := by
  by_cases hc : 0 ≤ c ∧ c < μ 1 0
  · by_cases hw : w < 0
    · simp [tk_fn, tk_env, tk_sq, tk_sk, tk_if, tk_re, tk_rez, tk_rev, tk_xp, tk_se, tk_pf, tk_pfz, tk_pfo, tk_as, tk_asz, tk_asb, tk_aso, tk_cpy, tk_sw, tk_swc, tk_lit, tk_loc, tk_u1, tk_bin, tk_dv, tk_gf, tk_gr, tk_gn, tk_ald, tk_aldq, tk_aln, tk_unl, tk_una, tk_ter, tk_args, tk_cs, tk_cv, tk_ceq, tk_cne, tk_clt, tk_cge, tk_cgt, tk_cle, tk_zeq, tk_zne, tk_zlt, tk_zge, tk_zgt, tk_zle, tk_and, tk_or, tk_not, tk_ct2, tk_isC, List.headD_cons, tk_up, tk_sca, tk_scl, x_hasCurrency, tk_bo_0, hc.1, hc.2, show ¬ μ 1 0 ≤ c from by omega, hw]
      exact hQ
    · simp [tk_fn, tk_env, tk_sq, tk_sk, tk_if, tk_re, tk_rez, tk_rev, tk_xp, tk_se, tk_pf, tk_pfz, tk_pfo, tk_as, tk_asz, tk_asb, tk_aso, tk_cpy, tk_sw, tk_swc, tk_lit, tk_loc, tk_u1, tk_bin, tk_dv, tk_gf, tk_gr, tk_gn, tk_ald, tk_aldq, tk_aln, tk_unl, tk_una, tk_ter, tk_args, tk_cs, tk_cv, tk_ceq, tk_cne, tk_clt, tk_cge, tk_cgt, tk_cle, tk_zeq, tk_zne, tk_zlt, tk_zge, tk_zgt, tk_zle, tk_and, tk_or, tk_not, tk_ct2, tk_isC, List.headD_cons, tk_up, tk_sca, tk_scl, x_hasCurrency, tk_bo_0, hc.1, hc.2, show ¬ μ 1 0 ≤ c from by omega, hw, show 1 < w from by omega]
      exact hQ
  · simp [tk_fn, tk_env, tk_sq, tk_sk, tk_if, tk_re, tk_rez, tk_rev, tk_xp, tk_se, tk_pf, tk_pfz, tk_pfo, tk_as, tk_asz, tk_asb, tk_aso, tk_cpy, tk_sw, tk_swc, tk_lit, tk_loc, tk_u1, tk_bin, tk_dv, tk_gf, tk_gr, tk_gn, tk_ald, tk_aldq, tk_aln, tk_unl, tk_una, tk_ter, tk_args, tk_cs, tk_cv, tk_ceq, tk_cne, tk_clt, tk_cge, tk_cgt, tk_cle, tk_zeq, tk_zne, tk_zlt, tk_zge, tk_zgt, tk_zle, tk_and, tk_or, tk_not, tk_ct2, tk_isC, List.headD_cons, tk_up, tk_sca, tk_scl, x_hasCurrency, tk_bo_0, hc, -not_and]
    exact hQ
theorem c_needs (c w : Int) : tk_cp tkF_X6_needs tkF_X7_needs [c, w] := by
  intro μ hR K hK
  have hT := tk_R_thr (v := 0) hR
  obtain ⟨hE, hI, hIm⟩ := tk_R_S hR
  obtain ⟨e1, e2, e3, e4, e5, e6, e7, e8, e9, hcu, hn, hm, hck⟩ := tk_R_n hR
  have h7 := hI.2.2.2.2.2.2.2.1
  have hm7 := hIm.2.2.2.2.2.2.2.1
  by_cases hok : (0 ≤ c ∧ c < μ 1 0) ∧ (0 ≤ w ∧ w ≤ 1)
  · obtain ⟨hc, hw⟩ := hok
    have hM : tk_mv (tk_set μ 96 24 0) = tk_mv μ := tk_mv_ob (by omega)
    have mod : ∀ r : Int, (w = 0 → tk_bs2 6 r ∧ ∀ d, tk_bit r d ↔ tk_hg (tk_hw 1 μ) (-5) c d) → (w = 1 → tk_bs2 8 r ∧ ∀ p, tk_bit r p ↔ ∃ t, (0 ≤ t ∧ t < μ 1 1) ∧ tk_hp (tk_hw 1 μ) c p t) → tkF_X7_needs [96, c, w] (fun r' μ2 => K r r' μ2) μ := by
      intro r hr0 hr1
      have hRf : ∀ μ', tk_f1 115 115 (tk_set μ 96 24 0) μ' → tk_R μ' := fun μ' hf => tk_R_fr hT (fun o i hk => hf o i (by unfold tk_kp at hk; omega))
      refine m_needs_a (fun _ _ _ _ hx hk h1 h0 => m_hasBit hx hk h1 h0) hIm.1 hIm.2.1 (by rw [e1]; exact hc) (by omega) (fun R hR2 => ?_) (fun hw0 μ' hf hH => ?_) (fun hw1 r2 μ' hf hs2 hb2 => ?_)
      · refine m_layHangs (by rw [hM]; exact hIm.1) (by rw [hM]; exact hIm.2.1) (by rw [hM]; exact hm7) (fun μ' hf hH => ?_)
        rw [hM] at hH
        exact hR2 μ' hf hH
      · obtain ⟨h2, h3⟩ := hr0 hw0
        obtain ⟨h4, h5⟩ := hH c hc.1 (by omega)
        have e : r = μ' 115 c := tk_bit_ext h2 h4 (fun d _ _ => by
          rw [h3, h5]
          constructor
          · intro z
            exact tk_hg_w (by omega) (by omega) ((tk_hg_m hR).mpr z)
          · intro z
            exact (tk_hg_m hR).mp (tk_hg_w (by omega) (by omega) z))
        rw [e]
        exact hK _ _ (hRf μ' hf)
      · obtain ⟨h2, h3⟩ := hr1 hw1
        have e : r = r2 := tk_bit_ext h2 hs2 (fun p _ _ => by
          rw [h3, hb2, e2]
          have tr : ∀ t, 0 ≤ t → t < μ 1 1 → (tk_hp (tk_mv μ) c p t ↔ tk_hp (tk_hw 1 μ) c p t) := fun t h5 h6 => by
            obtain ⟨a1, a2, a3⟩ := hE.2.1 t h5 h6
            unfold tk_hp
            rw [a1, a3, hE.1.2.2.1, tk_hg_m hR]
          constructor
          · rintro ⟨t, z, z'⟩; exact ⟨t, z, (tr t z.1 z.2).mpr z'⟩
          · rintro ⟨t, z, z'⟩; exact ⟨t, z, (tr t z.1 z.2).mp z'⟩)
        rw [e]
        exact hK _ _ (hRf μ' hf)
    refine x_needs_a hc (by omega) (fun hw0 => ?_) (fun hw1 => ?_)
    · refine x_hangsOn1 hI.1 hI.2.1 h7 ⟨hc.1, by omega⟩ (fun r hr hb => mod r (fun _ => ⟨hr, hb⟩) (fun z => by omega))
    · exact x_holdersAbove hI.1 hI.2.1 h7 hc (fun r hr hb => mod r (fun z => by omega) (fun _ => ⟨hr, hb⟩))
  · exact x_needs_n hok (m_needs_n (by rw [e1]; exact hcu) (by rw [e1]; exact hok) (hK _ _ hT))
