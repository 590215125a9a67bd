/-! ===== Layer 2: a Hall reckoned, refreshed ===== -/
/-- what a refreshed Hall's Worths hold -/
def tk_xw (h : Int) (μ : tk_M) : Prop := (∀ t : Int, 0 ≤ t → t < μ h 1 → μ (h + 27) t = tk_Wt (tk_hw h μ) t) ∧ ∀ c : Int, 0 ≤ c → c < 6 → μ (h + 26) c = tk_V (tk_hw h μ) c ∧ μ (h + 25) c = tk_isu (tk_hw h μ) c
theorem tk_isu_ps {S : tk_M} (h1 : tk_I1 S) (c i : Int) (hi : 0 ≤ i ∧ i ≤ S 0 1) : 0 ≤ tk_sm i (fun t => if S 1 t = c ∧ ¬ S 3 t = -5 then S 2 t else 0) ∧ tk_sm i (fun t => if S 1 t = c ∧ ¬ S 3 t = -5 then S 2 t else 0) ≤ i * 9999 := tk_isu_p h1 c i hi
theorem x_reckon1 {μ : tk_M} {Q : Int → tk_M → Prop} (hI : tk_I0 (tk_hw 1 μ) ∧ tk_I1 (tk_hw 1 μ) ∧ tk_I2 (tk_hw 1 μ) ∧ tk_I7 (tk_hw 1 μ) ∧ tk_I8 (tk_hw 1 μ)) (haw : tk_aw (tk_hw 1 μ) (fun j => μ 25 j)) (hQ : ∀ μ', (∀ o i : Int, ¬ (o = 26 ∨ o = 27 ∨ o = 28 ∨ o = 29 ∨ o = 30 ∨ (o = 23 ∧ i = 8)) → μ' o i = μ o i) → tk_xsh 1 (tk_shr (tk_hw 1 μ)) μ' → tk_xw 1 μ' → Q 0 μ') : tkF_X5_reckon [23] Q μ := by
  obtain ⟨h0, h1, h2, h7, h8⟩ := hI
  obtain ⟨g1, g2, g3, -⟩ := x_hI1 h0
  have g := x_hT1 h1
  have hp := tk_isu_ps h1
  have hpb := fun D x hx => tk_pd_bd h0 h1 h7 D (x := x) hx
  have hVf := fun c hc => tk_V_fix h1 h7 c hc
  have hnT : tk_hw 1 μ 0 1 = μ 1 1 := rfl
  have hS1 : ∀ t, tk_hw 1 μ 1 t = μ 2 t := fun _ => rfl
  have hS3 : ∀ t, tk_hw 1 μ 3 t = μ 4 t := fun _ => rfl
  have hisu : ∀ c, tk_isu (tk_hw 1 μ) c = tk_sm (μ 1 1) (fun t => if μ 2 t = c ∧ ¬ μ 4 t = -5 then μ 3 t else 0) := fun c => rfl
  have hp' : ∀ (c i : Int), (0 ≤ i ∧ i ≤ μ 1 1) → 0 ≤ tk_sm i (fun t => if μ 2 t = c ∧ ¬ μ 4 t = -5 then μ 3 t else 0) ∧ tk_sm i (fun t => if μ 2 t = c ∧ ¬ μ 4 t = -5 then μ 3 t else 0) ≤ i * 9999 := hp
  simp [tk_fn, tk_env, tk_sq, tk_sk, tk_if, tk_re, tk_rez, tk_rev, tk_xp, tk_se, tk_pf, tk_pfz, tk_pfo, tk_as, tk_asz, tk_asb, tk_aso, tk_cpy, tk_sw, tk_swc, tk_lit, tk_loc, tk_u1, tk_bin, tk_dv, tk_gf, tk_gr, tk_gn, tk_ald, tk_aldq, tk_aln, tk_unl, tk_una, tk_ter, tk_args, tk_cs, tk_cv, tk_ceq, tk_cne, tk_clt, tk_cge, tk_cgt, tk_cle, tk_zeq, tk_zne, tk_zlt, tk_zge, tk_zgt, tk_zle, tk_and, tk_or, tk_not, tk_ct2, tk_isC, List.headD_cons, tk_up, tk_sca, tk_scl, tkF_X5_reckon, tkS_X5_reckon]
  refine j_fill (n := 6) tk_al_26 (by omega) ?_
  refine j_fill (n := 6) tk_al_27 (by omega) ?_
  refine j_fill (n := 8) tk_al_29 (by omega) ?_
  -- ISSUED
  refine tk_for (μ 1 1) (fun i ρ μ' => ρ 0 = 23 ∧ ρ 1 = i ∧ tk_f1 26 29 μ μ' ∧ (∀ c : Int, 0 ≤ c → c < 6 → μ' 27 c = 0 ∧ μ' 26 c = tk_sm i (fun t => if μ 2 t = c ∧ ¬ μ 4 t = -5 then μ 3 t else 0)) ∧ ∀ p : Int, 0 ≤ p → p < 8 → μ' 29 p = 0) g2.1 ⟨rfl, rfl, tk_f1_fl (tk_f1_fl (tk_f1_fl tk_f1_r (by omega)) (by omega)) (by omega), fun c h3 h4 => ⟨?_, ?_⟩, fun p h3 h4 => ?_⟩ ?_ ?_
  · rw [tk_fl_o (by omega), tk_fl_in ⟨h3, h4⟩]
  · rw [tk_fl_o (by omega), tk_fl_o (by omega), tk_fl_in ⟨h3, h4⟩]; rfl
  · rw [tk_fl_in ⟨h3, h4⟩]
  · rintro i ρ μ' hi0 hi6 ⟨r0, r1, hf, hz, hh⟩ K hK
    have i1 : tk_iadd i 1 = i + 1 := tk_iadd_id (by omega) (by omega)
    have e01 : μ' 1 1 = μ 1 1 := hf _ _ (by omega)
    have e1 : μ' 2 i = μ 2 i := hf _ _ (by omega)
    have e2 : μ' 3 i = μ 3 i := hf _ _ (by omega)
    have e3 : μ' 4 i = μ 4 i := hf _ _ (by omega)
    have hg := g i hi0 hi6
    have hc6 : μ 2 i < 6 := by omega
    have h24 : i < 24 := by omega
    have hz2 := (hz (μ 2 i) hg.1.1 hc6).2
    have hp2 := hp' (μ 2 i) i ⟨hi0, by omega⟩
    by_cases hn : μ 4 i = -5
    · simp [tk_fn, tk_env, tk_sq, tk_sk, tk_if, tk_re, tk_rez, tk_rev, tk_xp, tk_se, tk_pf, tk_pfz, tk_pfo, tk_as, tk_asz, tk_asb, tk_aso, tk_cpy, tk_sw, tk_swc, tk_lit, tk_loc, tk_u1, tk_bin, tk_dv, tk_gf, tk_gr, tk_gn, tk_ald, tk_aldq, tk_aln, tk_unl, tk_una, tk_ter, tk_args, tk_cs, tk_cv, tk_ceq, tk_cne, tk_clt, tk_cge, tk_cgt, tk_cle, tk_zeq, tk_zne, tk_zlt, tk_zge, tk_zgt, tk_zle, tk_and, tk_or, tk_not, tk_ct2, tk_isC, List.headD_cons, tk_up, tk_sca, tk_scl, r0, r1, hi0, hi6, h24, tk_al_2, tk_al_3, tk_al_4, tk_al_5, tk_al_6, tk_al_7, tk_al_8, tk_al_9, tk_al_10, tk_al_11, tk_al_13, tk_al_14, tk_al_16, tk_al_17, tk_al_19, tk_al_20, tk_al_22, tk_al_24, tk_al_25, tk_al_26, tk_al_27, tk_al_28, tk_al_29, tk_al_30, tk_al_32, tk_al_33, tk_al_34, tk_al_35, tk_al_36, tk_al_37, tk_al_38, tk_al_39, tk_al_40, tk_al_41, tk_al_43, tk_al_44, tk_al_46, tk_al_47, tk_al_49, tk_al_50, tk_al_52, tk_al_54, tk_al_55, tk_al_56, tk_al_57, tk_al_58, tk_al_59, tk_al_60, tk_al_62, tk_al_63, tk_al_64, tk_al_65, tk_al_66, tk_al_67, tk_al_68, tk_al_69, tk_al_70, tk_al_71, tk_al_73, tk_al_74, tk_al_76, tk_al_77, tk_al_79, tk_al_80, tk_al_81, tk_al_83, tk_al_85, tk_al_87, tk_al_89, tk_al_91, tk_al_93, tk_al_95, tk_al_97, tk_al_98, tk_al_99, tk_al_100, tk_al_101, tk_al_102, tk_al_103, tk_al_104, tk_al_105, tk_al_106, tk_al_107, tk_al_108, tk_al_109, tk_al_110, tk_al_111, tk_al_112, tk_al_113, tk_al_114, tk_al_115, tk_al_116, tk_al_117, tk_al_118, tk_al_119, tk_al_120, tk_al_121, tk_al_122, tk_al_123, tk_al_124, tk_al_125, tk_al_126, tk_al_127, tk_al_128, tk_al_129, i1, e01, e3, hn]
      refine hK _ _ ⟨r0, rfl, hf, fun c h3 h4 => ⟨(hz c h3 h4).1, ?_⟩, hh⟩
      rw [tk_sm_s hi0, (hz c h3 h4).2, if_neg (fun z => z.2 hn)]
      omega
    · have l1 : tk_ladd (μ' 26 (μ 2 i)) (μ 3 i) = μ' 26 (μ 2 i) + μ 3 i := tk_ladd_id (by omega) (by omega)
      simp [tk_fn, tk_env, tk_sq, tk_sk, tk_if, tk_re, tk_rez, tk_rev, tk_xp, tk_se, tk_pf, tk_pfz, tk_pfo, tk_as, tk_asz, tk_asb, tk_aso, tk_cpy, tk_sw, tk_swc, tk_lit, tk_loc, tk_u1, tk_bin, tk_dv, tk_gf, tk_gr, tk_gn, tk_ald, tk_aldq, tk_aln, tk_unl, tk_una, tk_ter, tk_args, tk_cs, tk_cv, tk_ceq, tk_cne, tk_clt, tk_cge, tk_cgt, tk_cle, tk_zeq, tk_zne, tk_zlt, tk_zge, tk_zgt, tk_zle, tk_and, tk_or, tk_not, tk_ct2, tk_isC, List.headD_cons, tk_up, tk_sca, tk_scl, r0, r1, hi0, hi6, h24, tk_al_2, tk_al_3, tk_al_4, tk_al_5, tk_al_6, tk_al_7, tk_al_8, tk_al_9, tk_al_10, tk_al_11, tk_al_13, tk_al_14, tk_al_16, tk_al_17, tk_al_19, tk_al_20, tk_al_22, tk_al_24, tk_al_25, tk_al_26, tk_al_27, tk_al_28, tk_al_29, tk_al_30, tk_al_32, tk_al_33, tk_al_34, tk_al_35, tk_al_36, tk_al_37, tk_al_38, tk_al_39, tk_al_40, tk_al_41, tk_al_43, tk_al_44, tk_al_46, tk_al_47, tk_al_49, tk_al_50, tk_al_52, tk_al_54, tk_al_55, tk_al_56, tk_al_57, tk_al_58, tk_al_59, tk_al_60, tk_al_62, tk_al_63, tk_al_64, tk_al_65, tk_al_66, tk_al_67, tk_al_68, tk_al_69, tk_al_70, tk_al_71, tk_al_73, tk_al_74, tk_al_76, tk_al_77, tk_al_79, tk_al_80, tk_al_81, tk_al_83, tk_al_85, tk_al_87, tk_al_89, tk_al_91, tk_al_93, tk_al_95, tk_al_97, tk_al_98, tk_al_99, tk_al_100, tk_al_101, tk_al_102, tk_al_103, tk_al_104, tk_al_105, tk_al_106, tk_al_107, tk_al_108, tk_al_109, tk_al_110, tk_al_111, tk_al_112, tk_al_113, tk_al_114, tk_al_115, tk_al_116, tk_al_117, tk_al_118, tk_al_119, tk_al_120, tk_al_121, tk_al_122, tk_al_123, tk_al_124, tk_al_125, tk_al_126, tk_al_127, tk_al_128, tk_al_129, i1, e01, e1, e2, e3, hn, hg.1.1, hc6, l1]
      refine hK _ _ ⟨r0, rfl, tk_f1_s hf (by omega), fun c h3 h4 => ⟨by rw [tk_set_o (by omega)]; exact (hz c h3 h4).1, ?_⟩, fun p h3 h4 => by rw [tk_set_o (by omega)]; exact hh p h3 h4⟩
      rw [tk_sm_s hi0]
      by_cases hc : c = μ 2 i
      · subst hc
        rw [tk_set_eq, if_pos ⟨rfl, hn⟩, hz2]
      · rw [tk_set_j hc, if_neg (fun z => hc z.1.symm), (hz c h3 h4).2]
        omega
  · rintro ρ μ' ⟨r0, r1, hf, hz, hh⟩ X
    have e01 : μ' 1 1 = μ 1 1 := hf _ _ (by omega)
    simp [tk_fn, tk_env, tk_sq, tk_sk, tk_if, tk_re, tk_rez, tk_rev, tk_xp, tk_se, tk_pf, tk_pfz, tk_pfo, tk_as, tk_asz, tk_asb, tk_aso, tk_cpy, tk_sw, tk_swc, tk_lit, tk_loc, tk_u1, tk_bin, tk_dv, tk_gf, tk_gr, tk_gn, tk_ald, tk_aldq, tk_aln, tk_unl, tk_una, tk_ter, tk_args, tk_cs, tk_cv, tk_ceq, tk_cne, tk_clt, tk_cge, tk_cgt, tk_cle, tk_zeq, tk_zne, tk_zlt, tk_zge, tk_zgt, tk_zle, tk_and, tk_or, tk_not, tk_ct2, tk_isC, List.headD_cons, tk_up, tk_sca, tk_scl, r0, r1, e01]
    -- the WORTHS along
    obtain ⟨w1, w2, w3, w4⟩ := haw
    refine tk_for (μ 1 1) (fun k ρ μ' => ρ 0 = 23 ∧ ρ 1 = k ∧ tk_f1 26 29 μ μ' ∧ (∀ c : Int, 0 ≤ c → c < 6 → μ' 27 c = tk_pd (tk_hw 1 μ) (tk_dn (fun j => μ 25 j) k) (10 + c) ∧ μ' 26 c = tk_isu (tk_hw 1 μ) c) ∧ (∀ p : Int, 0 ≤ p → p < 8 → μ' 29 p = tk_pd (tk_hw 1 μ) (tk_dn (fun j => μ 25 j) k) p) ∧ ∀ t, tk_dn (fun j => μ 25 j) k t → μ' 28 t = tk_Wt (tk_hw 1 μ) t) g2.1 ⟨r0, rfl, hf, fun c h3 h4 => ⟨?_, (hz c h3 h4).2⟩, fun p h3 h4 => ?_, fun t ⟨j, z, _⟩ => by omega⟩ ?_ ?_
    · rw [(hz c h3 h4).1, tk_pd_0 g2.1 (fun t _ _ ⟨j, z, _⟩ => by omega)]
    · rw [hh p h3 h4, tk_pd_0 g2.1 (fun t _ _ ⟨j, z, _⟩ => by omega)]
    · rintro k ρ μ' hk0 hk6 ⟨r0, r1, hf, hz, hh, hw⟩ K hK
      have k1 : tk_iadd k 1 = k + 1 := tk_iadd_id (by omega) (by omega)
      have e01 : μ' 1 1 = μ 1 1 := hf _ _ (by omega)
      have e24 : μ' 25 k = μ 25 k := hf _ _ (by omega)
      have hT : tk_hw 1 μ' = tk_hw 1 μ := tk_hw_f1 hf (by omega)
      have ht := w1 k hk0 hk6
      have hwb := w4 k hk0 hk6
      have ht' : 0 ≤ μ 25 k ∧ μ 25 k < μ 1 1 := ht
      have h24 : k < 24 := by omega
      have hnd : ¬ tk_dn (fun j => μ 25 j) k (μ 25 k) := fun ⟨j, z1, z2⟩ => w2 j k z1.1 z1.2 hk6 z2
      have hdn : ∀ t, tk_dn (fun j => μ 25 j) (k + 1) t ↔ tk_dn (fun j => μ 25 j) k t ∨ t = μ 25 k := fun t => by
        constructor
        · rintro ⟨j, z1, z2⟩
          by_cases hj : j = k
          · subst hj; exact .inr z2.symm
          · exact .inl ⟨j, by omega, z2⟩
        · rintro (⟨j, z1, z2⟩ | z)
          · exact ⟨j, by omega, z2⟩
          · exact ⟨k, by omega, z.symm⟩
      have hgt := g (μ 25 k) ht'.1 ht'.2
      have hpa := fun x => tk_pd_add (S := tk_hw 1 μ) x g2.1 (i := μ 25 k) ht' hnd hdn
      have hc6 : μ 2 (μ 25 k) < 6 := by omega
      have hval : μ' 27 (μ 2 (μ 25 k)) = tk_V (tk_hw 1 μ) (μ 2 (μ 25 k)) := by
        rw [(hz _ hgt.1.1 hc6).1, hVf _ hgt.1.1]
        refine tk_pd_all (fun t h3 h4 h5 => ?_)
        exact hwb t ⟨⟨h3, h4⟩, by omega, h5, hgt.1.1⟩
      simp [tk_fn, tk_env, tk_sq, tk_sk, tk_if, tk_re, tk_rez, tk_rev, tk_xp, tk_se, tk_pf, tk_pfz, tk_pfo, tk_as, tk_asz, tk_asb, tk_aso, tk_cpy, tk_sw, tk_swc, tk_lit, tk_loc, tk_u1, tk_bin, tk_dv, tk_gf, tk_gr, tk_gn, tk_ald, tk_aldq, tk_aln, tk_unl, tk_una, tk_ter, tk_args, tk_cs, tk_cv, tk_ceq, tk_cne, tk_clt, tk_cge, tk_cgt, tk_cle, tk_zeq, tk_zne, tk_zlt, tk_zge, tk_zgt, tk_zle, tk_and, tk_or, tk_not, tk_ct2, tk_isC, List.headD_cons, tk_up, tk_sca, tk_scl, r0, r1, hk0, hk6, h24, tk_al_2, tk_al_3, tk_al_4, tk_al_5, tk_al_6, tk_al_7, tk_al_8, tk_al_9, tk_al_10, tk_al_11, tk_al_13, tk_al_14, tk_al_16, tk_al_17, tk_al_19, tk_al_20, tk_al_22, tk_al_24, tk_al_25, tk_al_26, tk_al_27, tk_al_28, tk_al_29, tk_al_30, tk_al_32, tk_al_33, tk_al_34, tk_al_35, tk_al_36, tk_al_37, tk_al_38, tk_al_39, tk_al_40, tk_al_41, tk_al_43, tk_al_44, tk_al_46, tk_al_47, tk_al_49, tk_al_50, tk_al_52, tk_al_54, tk_al_55, tk_al_56, tk_al_57, tk_al_58, tk_al_59, tk_al_60, tk_al_62, tk_al_63, tk_al_64, tk_al_65, tk_al_66, tk_al_67, tk_al_68, tk_al_69, tk_al_70, tk_al_71, tk_al_73, tk_al_74, tk_al_76, tk_al_77, tk_al_79, tk_al_80, tk_al_81, tk_al_83, tk_al_85, tk_al_87, tk_al_89, tk_al_91, tk_al_93, tk_al_95, tk_al_97, tk_al_98, tk_al_99, tk_al_100, tk_al_101, tk_al_102, tk_al_103, tk_al_104, tk_al_105, tk_al_106, tk_al_107, tk_al_108, tk_al_109, tk_al_110, tk_al_111, tk_al_112, tk_al_113, tk_al_114, tk_al_115, tk_al_116, tk_al_117, tk_al_118, tk_al_119, tk_al_120, tk_al_121, tk_al_122, tk_al_123, tk_al_124, tk_al_125, tk_al_126, tk_al_127, tk_al_128, tk_al_129, k1, e01, e24]
      have f1 : μ' 2 (μ 25 k) = μ 2 (μ 25 k) := hf _ _ (by omega)
      have f3 : μ' 4 (μ 25 k) = μ 4 (μ 25 k) := hf _ _ (by omega)
      refine x_value1 (by rw [hT]; exact h0) (by rw [hT]; exact h1) (by rw [hT]; exact h7) ⟨ht'.1, by rw [e01]; exact ht'.2⟩ (fun c h3 h4 => by rw [hT]; exact (hz c h3 h4).2) (by rw [hT, f1]; exact hval) (fun c h3 h4 => by rw [(hz c h3 h4).1]; exact hpb _ _ (by omega)) (fun p h3 h4 => by rw [hh p h3 h4]; exact hpb _ _ (by omega)) (fun μ2 hf2 hw2 hv2 hh2 => ?_)
      rw [hT] at hw2 hv2 hh2
      rw [f3] at hv2 hh2
      refine hK _ _ ⟨r0, rfl, fun o i ho => by rw [hf2 o i (by omega)]; exact hf o i ho, fun c h3 h4 => ⟨?_, ?_⟩, fun p h3 h4 => ?_, fun t htd => ?_⟩
      · rw [hv2 c h3 h4, (hz c h3 h4).1, hpa]
        rfl
      · rw [hf2 _ _ (by omega)]; exact (hz c h3 h4).2
      · rw [hh2 p h3 h4, hh p h3 h4, hpa]
        rfl
      · rw [hw2]
        rcases (hdn t).mp htd with z | z
        · by_cases htk : t = μ 25 k
          · rw [if_pos htk, htk]
          · rw [if_neg htk]; exact hw t z
        · rw [if_pos z, z]
    · rintro ρ μ' ⟨r0, r1, hf, hz, hh, hw⟩ X
      have e01 : μ' 1 1 = μ 1 1 := hf _ _ (by omega)
      have hT : tk_hw 1 μ' = tk_hw 1 μ := tk_hw_f1 hf (by omega)
      have hall : ∀ t : Int, 0 ≤ t → t < μ 1 1 → tk_dn (fun j => μ 25 j) (μ 1 1) t := fun t h3 h4 => w3 t h3 h4
      simp [tk_fn, tk_env, tk_sq, tk_sk, tk_if, tk_re, tk_rez, tk_rev, tk_xp, tk_se, tk_pf, tk_pfz, tk_pfo, tk_as, tk_asz, tk_asb, tk_aso, tk_cpy, tk_sw, tk_swc, tk_lit, tk_loc, tk_u1, tk_bin, tk_dv, tk_gf, tk_gr, tk_gn, tk_ald, tk_aldq, tk_aln, tk_unl, tk_una, tk_ter, tk_args, tk_cs, tk_cv, tk_ceq, tk_cne, tk_clt, tk_cge, tk_cgt, tk_cle, tk_zeq, tk_zne, tk_zlt, tk_zge, tk_zgt, tk_zle, tk_and, tk_or, tk_not, tk_ct2, tk_isC, List.headD_cons, tk_up, tk_sca, tk_scl, r0, r1, e01]
      refine x_lend1 (by rw [hT]; exact h0) (by rw [hT]; exact h1) (by rw [hT]; exact h2) (by rw [hT]; exact h7) (by rw [hT]; exact h8) (fun p h3 h4 => ?_) (fun μ2 hf2 hs2 => ?_)
      · rw [hT, hh p h3 h4]
        exact tk_pd_all (fun t h5 h6 _ => hall t h5 h6)
      · rw [hT] at hs2
        have hT2 : tk_hw 1 μ2 = tk_hw 1 μ := by
          rw [← hT]
          funext f i
          unfold tk_hw
          split
          · exact hf2 _ _ (by omega)
          · rfl
        refine hQ _ (fun o i ho => by rw [hf2 o i (by omega)]; exact hf o i (by omega)) hs2 ?_
        unfold tk_xw
        rw [hT2]
        refine ⟨fun t h3 h4 => ?_, fun c h3 h4 => ⟨?_, ?_⟩⟩
        · rw [hf2 1 1 (by omega), e01] at h4
          show μ2 28 t = _
          rw [hf2 _ _ (by omega)]
          exact hw t (hall t h3 h4)
        · show μ2 27 c = _
          rw [hf2 _ _ (by omega), (hz c h3 h4).1, hVf c h3]
          exact tk_pd_all (fun t h5 h6 _ => hall t h5 h6)
        · show μ2 26 c = _
          rw [hf2 _ _ (by omega)]
          exact (hz c h3 h4).2
theorem x_revalue1 {μ : tk_M} {Q : Int → tk_M → Prop} (hI : tk_I0 (tk_hw 1 μ) ∧ tk_I1 (tk_hw 1 μ) ∧ tk_I2 (tk_hw 1 μ) ∧ tk_I7 (tk_hw 1 μ) ∧ tk_I8 (tk_hw 1 μ)) (hJ : tk_J 600000 (tk_hw 1 μ)) (haw : tk_aw (tk_hw 1 μ) (fun j => μ 25 j)) (hQ : ∀ μ', (∀ o i : Int, ¬ (o = 21 ∨ o = 22 ∨ o = 26 ∨ o = 27 ∨ o = 28 ∨ o = 29 ∨ o = 30 ∨ (o = 23 ∧ i = 8)) → μ' o i = μ o i) → tk_xsh 1 (tk_shr (tk_hw 1 μ)) μ' → tk_xd 1 (tk_shr (tk_hw 1 μ)) μ' → tk_xw 1 μ' → Q 0 μ') : tkF_X0_revalue [21] Q μ := by
  have hb := tk_shr_shb hI.1 hI.2.1 hI.2.2.2.1
  simp [tk_fn, tk_env, tk_sq, tk_sk, tk_if, tk_re, tk_rez, tk_rev, tk_xp, tk_se, tk_pf, tk_pfz, tk_pfo, tk_as, tk_asz, tk_asb, tk_aso, tk_cpy, tk_sw, tk_swc, tk_lit, tk_loc, tk_u1, tk_bin, tk_dv, tk_gf, tk_gr, tk_gn, tk_ald, tk_aldq, tk_aln, tk_unl, tk_una, tk_ter, tk_args, tk_cs, tk_cv, tk_ceq, tk_cne, tk_clt, tk_cge, tk_cgt, tk_cle, tk_zeq, tk_zne, tk_zlt, tk_zge, tk_zgt, tk_zle, tk_and, tk_or, tk_not, tk_ct2, tk_isC, List.headD_cons, tk_up, tk_sca, tk_scl, tkF_X0_revalue, tkS_X0_revalue]
  refine x_reckon1 hI haw (fun μ1 hf1 hs1 hw1 => ?_)
  have hT : tk_hw 1 μ1 = tk_hw 1 μ := by
    funext f i
    unfold tk_hw
    split
    · exact hf1 _ _ (by omega)
    · rfl
  refine x_weigh1 (b := 600000) (sh := tk_shr (tk_hw 1 μ)) (by rw [hT]; exact hJ) hb hs1 (fun μ2 hf2 hs2 hd2 => ?_)
  have hT2 : tk_hw 1 μ2 = tk_hw 1 μ1 := tk_hw_fx hf2
  refine hQ _ (fun o i ho => by rw [hf2 o i (by omega)]; exact hf1 o i (by omega)) hs2 hd2 ?_
  unfold tk_xw at hw1 ⊢
  rw [hT2, hf2 1 1 (by omega)]
  refine ⟨fun t h3 h4 => ?_, fun c h3 h4 => ⟨?_, ?_⟩⟩
  · rw [hf2 _ _ (by omega)]; exact hw1.1 t h3 h4
  · rw [hf2 _ _ (by omega)]; exact (hw1.2 c h3 h4).1
  · rw [hf2 _ _ (by omega)]; exact (hw1.2 c h3 h4).2
theorem x_refresh1 {μ : tk_M} {Q : Int → tk_M → Prop} (hI : tk_I0 (tk_hw 1 μ) ∧ tk_I1 (tk_hw 1 μ) ∧ tk_I2 (tk_hw 1 μ) ∧ tk_I7 (tk_hw 1 μ) ∧ tk_I8 (tk_hw 1 μ)) (hJ : tk_J 600000 (tk_hw 1 μ)) (hQ : ∀ μ', tk_f1 21 30 μ μ' → tk_xsh 1 (tk_shr (tk_hw 1 μ)) μ' → tk_xd 1 (tk_shr (tk_hw 1 μ)) μ' → tk_xw 1 μ' → tk_aw (tk_hw 1 μ) (fun j => μ' 25 j) → Q 0 μ') : tkF_X0_refresh [21] Q μ := by
  simp [tk_fn, tk_env, tk_sq, tk_sk, tk_if, tk_re, tk_rez, tk_rev, tk_xp, tk_se, tk_pf, tk_pfz, tk_pfo, tk_as, tk_asz, tk_asb, tk_aso, tk_cpy, tk_sw, tk_swc, tk_lit, tk_loc, tk_u1, tk_bin, tk_dv, tk_gf, tk_gr, tk_gn, tk_ald, tk_aldq, tk_aln, tk_unl, tk_una, tk_ter, tk_args, tk_cs, tk_cv, tk_ceq, tk_cne, tk_clt, tk_cge, tk_cgt, tk_cle, tk_zeq, tk_zne, tk_zlt, tk_zge, tk_zgt, tk_zle, tk_and, tk_or, tk_not, tk_ct2, tk_isC, List.headD_cons, tk_up, tk_sca, tk_scl, tkF_X0_refresh, tkS_X0_refresh]
  refine x_arrange1 hI.1 hI.2.1 hI.2.2.2.1 (fun μ1 hf1 ha1 => ?_)
  have hT : tk_hw 1 μ1 = tk_hw 1 μ := tk_hw_f1 hf1 (by omega)
  have ha2 := ha1.1
  rw [hT] at ha2
  refine x_revalue1 (by rw [hT]; exact hI) (by rw [hT]; exact hJ) (by rw [hT]; exact ha2) (fun μ2 hf2 hs2 hd2 hw2 => ?_)
  rw [hT] at hs2 hd2
  refine hQ _ (fun o i ho => by rw [hf2 o i (by omega)]; exact hf1 o i (by omega)) hs2 hd2 hw2 ?_
  have e : (fun j => μ2 25 j) = (fun j => μ1 25 j) := funext (fun j => hf2 _ _ (by omega))
  rw [e]
  exact ha2
theorem x_reckon31 {μ : tk_M} {Q : Int → tk_M → Prop} (hI : tk_I0 (tk_hw 31 μ) ∧ tk_I1 (tk_hw 31 μ) ∧ tk_I2 (tk_hw 31 μ) ∧ tk_I7 (tk_hw 31 μ) ∧ tk_I8 (tk_hw 31 μ)) (haw : tk_aw (tk_hw 31 μ) (fun j => μ 55 j)) (hQ : ∀ μ', (∀ o i : Int, ¬ (o = 56 ∨ o = 57 ∨ o = 58 ∨ o = 59 ∨ o = 60 ∨ (o = 53 ∧ i = 8)) → μ' o i = μ o i) → tk_xsh 31 (tk_shr (tk_hw 31 μ)) μ' → tk_xw 31 μ' → Q 0 μ') : tkF_X5_reckon [53] Q μ := by
  obtain ⟨h0, h1, h2, h7, h8⟩ := hI
  obtain ⟨g1, g2, g3, -⟩ := x_hI31 h0
  have g := x_hT31 h1
  have hp := tk_isu_ps h1
  have hpb := fun D x hx => tk_pd_bd h0 h1 h7 D (x := x) hx
  have hVf := fun c hc => tk_V_fix h1 h7 c hc
  have hnT : tk_hw 31 μ 0 1 = μ 31 1 := rfl
  have hS1 : ∀ t, tk_hw 31 μ 1 t = μ 32 t := fun _ => rfl
  have hS3 : ∀ t, tk_hw 31 μ 3 t = μ 34 t := fun _ => rfl
  have hisu : ∀ c, tk_isu (tk_hw 31 μ) c = tk_sm (μ 31 1) (fun t => if μ 32 t = c ∧ ¬ μ 34 t = -5 then μ 33 t else 0) := fun c => rfl
  have hp' : ∀ (c i : Int), (0 ≤ i ∧ i ≤ μ 31 1) → 0 ≤ tk_sm i (fun t => if μ 32 t = c ∧ ¬ μ 34 t = -5 then μ 33 t else 0) ∧ tk_sm i (fun t => if μ 32 t = c ∧ ¬ μ 34 t = -5 then μ 33 t else 0) ≤ i * 9999 := hp
  simp [tk_fn, tk_env, tk_sq, tk_sk, tk_if, tk_re, tk_rez, tk_rev, tk_xp, tk_se, tk_pf, tk_pfz, tk_pfo, tk_as, tk_asz, tk_asb, tk_aso, tk_cpy, tk_sw, tk_swc, tk_lit, tk_loc, tk_u1, tk_bin, tk_dv, tk_gf, tk_gr, tk_gn, tk_ald, tk_aldq, tk_aln, tk_unl, tk_una, tk_ter, tk_args, tk_cs, tk_cv, tk_ceq, tk_cne, tk_clt, tk_cge, tk_cgt, tk_cle, tk_zeq, tk_zne, tk_zlt, tk_zge, tk_zgt, tk_zle, tk_and, tk_or, tk_not, tk_ct2, tk_isC, List.headD_cons, tk_up, tk_sca, tk_scl, tkF_X5_reckon, tkS_X5_reckon]
  refine j_fill (n := 6) tk_al_56 (by omega) ?_
  refine j_fill (n := 6) tk_al_57 (by omega) ?_
  refine j_fill (n := 8) tk_al_59 (by omega) ?_
  -- ISSUED
  refine tk_for (μ 31 1) (fun i ρ μ' => ρ 0 = 53 ∧ ρ 1 = i ∧ tk_f1 56 59 μ μ' ∧ (∀ c : Int, 0 ≤ c → c < 6 → μ' 57 c = 0 ∧ μ' 56 c = tk_sm i (fun t => if μ 32 t = c ∧ ¬ μ 34 t = -5 then μ 33 t else 0)) ∧ ∀ p : Int, 0 ≤ p → p < 8 → μ' 59 p = 0) g2.1 ⟨rfl, rfl, tk_f1_fl (tk_f1_fl (tk_f1_fl tk_f1_r (by omega)) (by omega)) (by omega), fun c h3 h4 => ⟨?_, ?_⟩, fun p h3 h4 => ?_⟩ ?_ ?_
  · rw [tk_fl_o (by omega), tk_fl_in ⟨h3, h4⟩]
  · rw [tk_fl_o (by omega), tk_fl_o (by omega), tk_fl_in ⟨h3, h4⟩]; rfl
  · rw [tk_fl_in ⟨h3, h4⟩]
  · rintro i ρ μ' hi0 hi6 ⟨r0, r1, hf, hz, hh⟩ K hK
    have i1 : tk_iadd i 1 = i + 1 := tk_iadd_id (by omega) (by omega)
    have e01 : μ' 31 1 = μ 31 1 := hf _ _ (by omega)
    have e1 : μ' 32 i = μ 32 i := hf _ _ (by omega)
    have e2 : μ' 33 i = μ 33 i := hf _ _ (by omega)
    have e3 : μ' 34 i = μ 34 i := hf _ _ (by omega)
    have hg := g i hi0 hi6
    have hc6 : μ 32 i < 6 := by omega
    have h24 : i < 24 := by omega
    have hz2 := (hz (μ 32 i) hg.1.1 hc6).2
    have hp2 := hp' (μ 32 i) i ⟨hi0, by omega⟩
    by_cases hn : μ 34 i = -5
    · simp [tk_fn, tk_env, tk_sq, tk_sk, tk_if, tk_re, tk_rez, tk_rev, tk_xp, tk_se, tk_pf, tk_pfz, tk_pfo, tk_as, tk_asz, tk_asb, tk_aso, tk_cpy, tk_sw, tk_swc, tk_lit, tk_loc, tk_u1, tk_bin, tk_dv, tk_gf, tk_gr, tk_gn, tk_ald, tk_aldq, tk_aln, tk_unl, tk_una, tk_ter, tk_args, tk_cs, tk_cv, tk_ceq, tk_cne, tk_clt, tk_cge, tk_cgt, tk_cle, tk_zeq, tk_zne, tk_zlt, tk_zge, tk_zgt, tk_zle, tk_and, tk_or, tk_not, tk_ct2, tk_isC, List.headD_cons, tk_up, tk_sca, tk_scl, r0, r1, hi0, hi6, h24, tk_al_2, tk_al_3, tk_al_4, tk_al_5, tk_al_6, tk_al_7, tk_al_8, tk_al_9, tk_al_10, tk_al_11, tk_al_13, tk_al_14, tk_al_16, tk_al_17, tk_al_19, tk_al_20, tk_al_22, tk_al_24, tk_al_25, tk_al_26, tk_al_27, tk_al_28, tk_al_29, tk_al_30, tk_al_32, tk_al_33, tk_al_34, tk_al_35, tk_al_36, tk_al_37, tk_al_38, tk_al_39, tk_al_40, tk_al_41, tk_al_43, tk_al_44, tk_al_46, tk_al_47, tk_al_49, tk_al_50, tk_al_52, tk_al_54, tk_al_55, tk_al_56, tk_al_57, tk_al_58, tk_al_59, tk_al_60, tk_al_62, tk_al_63, tk_al_64, tk_al_65, tk_al_66, tk_al_67, tk_al_68, tk_al_69, tk_al_70, tk_al_71, tk_al_73, tk_al_74, tk_al_76, tk_al_77, tk_al_79, tk_al_80, tk_al_81, tk_al_83, tk_al_85, tk_al_87, tk_al_89, tk_al_91, tk_al_93, tk_al_95, tk_al_97, tk_al_98, tk_al_99, tk_al_100, tk_al_101, tk_al_102, tk_al_103, tk_al_104, tk_al_105, tk_al_106, tk_al_107, tk_al_108, tk_al_109, tk_al_110, tk_al_111, tk_al_112, tk_al_113, tk_al_114, tk_al_115, tk_al_116, tk_al_117, tk_al_118, tk_al_119, tk_al_120, tk_al_121, tk_al_122, tk_al_123, tk_al_124, tk_al_125, tk_al_126, tk_al_127, tk_al_128, tk_al_129, i1, e01, e3, hn]
      refine hK _ _ ⟨r0, rfl, hf, fun c h3 h4 => ⟨(hz c h3 h4).1, ?_⟩, hh⟩
      rw [tk_sm_s hi0, (hz c h3 h4).2, if_neg (fun z => z.2 hn)]
      omega
    · have l1 : tk_ladd (μ' 56 (μ 32 i)) (μ 33 i) = μ' 56 (μ 32 i) + μ 33 i := tk_ladd_id (by omega) (by omega)
      simp [tk_fn, tk_env, tk_sq, tk_sk, tk_if, tk_re, tk_rez, tk_rev, tk_xp, tk_se, tk_pf, tk_pfz, tk_pfo, tk_as, tk_asz, tk_asb, tk_aso, tk_cpy, tk_sw, tk_swc, tk_lit, tk_loc, tk_u1, tk_bin, tk_dv, tk_gf, tk_gr, tk_gn, tk_ald, tk_aldq, tk_aln, tk_unl, tk_una, tk_ter, tk_args, tk_cs, tk_cv, tk_ceq, tk_cne, tk_clt, tk_cge, tk_cgt, tk_cle, tk_zeq, tk_zne, tk_zlt, tk_zge, tk_zgt, tk_zle, tk_and, tk_or, tk_not, tk_ct2, tk_isC, List.headD_cons, tk_up, tk_sca, tk_scl, r0, r1, hi0, hi6, h24, tk_al_2, tk_al_3, tk_al_4, tk_al_5, tk_al_6, tk_al_7, tk_al_8, tk_al_9, tk_al_10, tk_al_11, tk_al_13, tk_al_14, tk_al_16, tk_al_17, tk_al_19, tk_al_20, tk_al_22, tk_al_24, tk_al_25, tk_al_26, tk_al_27, tk_al_28, tk_al_29, tk_al_30, tk_al_32, tk_al_33, tk_al_34, tk_al_35, tk_al_36, tk_al_37, tk_al_38, tk_al_39, tk_al_40, tk_al_41, tk_al_43, tk_al_44, tk_al_46, tk_al_47, tk_al_49, tk_al_50, tk_al_52, tk_al_54, tk_al_55, tk_al_56, tk_al_57, tk_al_58, tk_al_59, tk_al_60, tk_al_62, tk_al_63, tk_al_64, tk_al_65, tk_al_66, tk_al_67, tk_al_68, tk_al_69, tk_al_70, tk_al_71, tk_al_73, tk_al_74, tk_al_76, tk_al_77, tk_al_79, tk_al_80, tk_al_81, tk_al_83, tk_al_85, tk_al_87, tk_al_89, tk_al_91, tk_al_93, tk_al_95, tk_al_97, tk_al_98, tk_al_99, tk_al_100, tk_al_101, tk_al_102, tk_al_103, tk_al_104, tk_al_105, tk_al_106, tk_al_107, tk_al_108, tk_al_109, tk_al_110, tk_al_111, tk_al_112, tk_al_113, tk_al_114, tk_al_115, tk_al_116, tk_al_117, tk_al_118, tk_al_119, tk_al_120, tk_al_121, tk_al_122, tk_al_123, tk_al_124, tk_al_125, tk_al_126, tk_al_127, tk_al_128, tk_al_129, i1, e01, e1, e2, e3, hn, hg.1.1, hc6, l1]
      refine hK _ _ ⟨r0, rfl, tk_f1_s hf (by omega), fun c h3 h4 => ⟨by rw [tk_set_o (by omega)]; exact (hz c h3 h4).1, ?_⟩, fun p h3 h4 => by rw [tk_set_o (by omega)]; exact hh p h3 h4⟩
      rw [tk_sm_s hi0]
      by_cases hc : c = μ 32 i
      · subst hc
        rw [tk_set_eq, if_pos ⟨rfl, hn⟩, hz2]
      · rw [tk_set_j hc, if_neg (fun z => hc z.1.symm), (hz c h3 h4).2]
        omega
  · rintro ρ μ' ⟨r0, r1, hf, hz, hh⟩ X
    have e01 : μ' 31 1 = μ 31 1 := hf _ _ (by omega)
    simp [tk_fn, tk_env, tk_sq, tk_sk, tk_if, tk_re, tk_rez, tk_rev, tk_xp, tk_se, tk_pf, tk_pfz, tk_pfo, tk_as, tk_asz, tk_asb, tk_aso, tk_cpy, tk_sw, tk_swc, tk_lit, tk_loc, tk_u1, tk_bin, tk_dv, tk_gf, tk_gr, tk_gn, tk_ald, tk_aldq, tk_aln, tk_unl, tk_una, tk_ter, tk_args, tk_cs, tk_cv, tk_ceq, tk_cne, tk_clt, tk_cge, tk_cgt, tk_cle, tk_zeq, tk_zne, tk_zlt, tk_zge, tk_zgt, tk_zle, tk_and, tk_or, tk_not, tk_ct2, tk_isC, List.headD_cons, tk_up, tk_sca, tk_scl, r0, r1, e01]
    -- the WORTHS along
    obtain ⟨w1, w2, w3, w4⟩ := haw
    refine tk_for (μ 31 1) (fun k ρ μ' => ρ 0 = 53 ∧ ρ 1 = k ∧ tk_f1 56 59 μ μ' ∧ (∀ c : Int, 0 ≤ c → c < 6 → μ' 57 c = tk_pd (tk_hw 31 μ) (tk_dn (fun j => μ 55 j) k) (10 + c) ∧ μ' 56 c = tk_isu (tk_hw 31 μ) c) ∧ (∀ p : Int, 0 ≤ p → p < 8 → μ' 59 p = tk_pd (tk_hw 31 μ) (tk_dn (fun j => μ 55 j) k) p) ∧ ∀ t, tk_dn (fun j => μ 55 j) k t → μ' 58 t = tk_Wt (tk_hw 31 μ) t) g2.1 ⟨r0, rfl, hf, fun c h3 h4 => ⟨?_, (hz c h3 h4).2⟩, fun p h3 h4 => ?_, fun t ⟨j, z, _⟩ => by omega⟩ ?_ ?_
    · rw [(hz c h3 h4).1, tk_pd_0 g2.1 (fun t _ _ ⟨j, z, _⟩ => by omega)]
    · rw [hh p h3 h4, tk_pd_0 g2.1 (fun t _ _ ⟨j, z, _⟩ => by omega)]
    · rintro k ρ μ' hk0 hk6 ⟨r0, r1, hf, hz, hh, hw⟩ K hK
      have k1 : tk_iadd k 1 = k + 1 := tk_iadd_id (by omega) (by omega)
      have e01 : μ' 31 1 = μ 31 1 := hf _ _ (by omega)
      have e24 : μ' 55 k = μ 55 k := hf _ _ (by omega)
      have hT : tk_hw 31 μ' = tk_hw 31 μ := tk_hw_f1 hf (by omega)
      have ht := w1 k hk0 hk6
      have hwb := w4 k hk0 hk6
      have ht' : 0 ≤ μ 55 k ∧ μ 55 k < μ 31 1 := ht
      have h24 : k < 24 := by omega
      have hnd : ¬ tk_dn (fun j => μ 55 j) k (μ 55 k) := fun ⟨j, z1, z2⟩ => w2 j k z1.1 z1.2 hk6 z2
      have hdn : ∀ t, tk_dn (fun j => μ 55 j) (k + 1) t ↔ tk_dn (fun j => μ 55 j) k t ∨ t = μ 55 k := fun t => by
        constructor
        · rintro ⟨j, z1, z2⟩
          by_cases hj : j = k
          · subst hj; exact .inr z2.symm
          · exact .inl ⟨j, by omega, z2⟩
        · rintro (⟨j, z1, z2⟩ | z)
          · exact ⟨j, by omega, z2⟩
          · exact ⟨k, by omega, z.symm⟩
      have hgt := g (μ 55 k) ht'.1 ht'.2
      have hpa := fun x => tk_pd_add (S := tk_hw 31 μ) x g2.1 (i := μ 55 k) ht' hnd hdn
      have hc6 : μ 32 (μ 55 k) < 6 := by omega
      have hval : μ' 57 (μ 32 (μ 55 k)) = tk_V (tk_hw 31 μ) (μ 32 (μ 55 k)) := by
        rw [(hz _ hgt.1.1 hc6).1, hVf _ hgt.1.1]
        refine tk_pd_all (fun t h3 h4 h5 => ?_)
        exact hwb t ⟨⟨h3, h4⟩, by omega, h5, hgt.1.1⟩
      simp [tk_fn, tk_env, tk_sq, tk_sk, tk_if, tk_re, tk_rez, tk_rev, tk_xp, tk_se, tk_pf, tk_pfz, tk_pfo, tk_as, tk_asz, tk_asb, tk_aso, tk_cpy, tk_sw, tk_swc, tk_lit, tk_loc, tk_u1, tk_bin, tk_dv, tk_gf, tk_gr, tk_gn, tk_ald, tk_aldq, tk_aln, tk_unl, tk_una, tk_ter, tk_args, tk_cs, tk_cv, tk_ceq, tk_cne, tk_clt, tk_cge, tk_cgt, tk_cle, tk_zeq, tk_zne, tk_zlt, tk_zge, tk_zgt, tk_zle, tk_and, tk_or, tk_not, tk_ct2, tk_isC, List.headD_cons, tk_up, tk_sca, tk_scl, r0, r1, hk0, hk6, h24, tk_al_2, tk_al_3, tk_al_4, tk_al_5, tk_al_6, tk_al_7, tk_al_8, tk_al_9, tk_al_10, tk_al_11, tk_al_13, tk_al_14, tk_al_16, tk_al_17, tk_al_19, tk_al_20, tk_al_22, tk_al_24, tk_al_25, tk_al_26, tk_al_27, tk_al_28, tk_al_29, tk_al_30, tk_al_32, tk_al_33, tk_al_34, tk_al_35, tk_al_36, tk_al_37, tk_al_38, tk_al_39, tk_al_40, tk_al_41, tk_al_43, tk_al_44, tk_al_46, tk_al_47, tk_al_49, tk_al_50, tk_al_52, tk_al_54, tk_al_55, tk_al_56, tk_al_57, tk_al_58, tk_al_59, tk_al_60, tk_al_62, tk_al_63, tk_al_64, tk_al_65, tk_al_66, tk_al_67, tk_al_68, tk_al_69, tk_al_70, tk_al_71, tk_al_73, tk_al_74, tk_al_76, tk_al_77, tk_al_79, tk_al_80, tk_al_81, tk_al_83, tk_al_85, tk_al_87, tk_al_89, tk_al_91, tk_al_93, tk_al_95, tk_al_97, tk_al_98, tk_al_99, tk_al_100, tk_al_101, tk_al_102, tk_al_103, tk_al_104, tk_al_105, tk_al_106, tk_al_107, tk_al_108, tk_al_109, tk_al_110, tk_al_111, tk_al_112, tk_al_113, tk_al_114, tk_al_115, tk_al_116, tk_al_117, tk_al_118, tk_al_119, tk_al_120, tk_al_121, tk_al_122, tk_al_123, tk_al_124, tk_al_125, tk_al_126, tk_al_127, tk_al_128, tk_al_129, k1, e01, e24]
      have f1 : μ' 32 (μ 55 k) = μ 32 (μ 55 k) := hf _ _ (by omega)
      have f3 : μ' 34 (μ 55 k) = μ 34 (μ 55 k) := hf _ _ (by omega)
      refine x_value31 (by rw [hT]; exact h0) (by rw [hT]; exact h1) (by rw [hT]; exact h7) ⟨ht'.1, by rw [e01]; exact ht'.2⟩ (fun c h3 h4 => by rw [hT]; exact (hz c h3 h4).2) (by rw [hT, f1]; exact hval) (fun c h3 h4 => by rw [(hz c h3 h4).1]; exact hpb _ _ (by omega)) (fun p h3 h4 => by rw [hh p h3 h4]; exact hpb _ _ (by omega)) (fun μ2 hf2 hw2 hv2 hh2 => ?_)
      rw [hT] at hw2 hv2 hh2
      rw [f3] at hv2 hh2
      refine hK _ _ ⟨r0, rfl, fun o i ho => by rw [hf2 o i (by omega)]; exact hf o i ho, fun c h3 h4 => ⟨?_, ?_⟩, fun p h3 h4 => ?_, fun t htd => ?_⟩
      · rw [hv2 c h3 h4, (hz c h3 h4).1, hpa]
        rfl
      · rw [hf2 _ _ (by omega)]; exact (hz c h3 h4).2
      · rw [hh2 p h3 h4, hh p h3 h4, hpa]
        rfl
      · rw [hw2]
        rcases (hdn t).mp htd with z | z
        · by_cases htk : t = μ 55 k
          · rw [if_pos htk, htk]
          · rw [if_neg htk]; exact hw t z
        · rw [if_pos z, z]
    · rintro ρ μ' ⟨r0, r1, hf, hz, hh, hw⟩ X
      have e01 : μ' 31 1 = μ 31 1 := hf _ _ (by omega)
      have hT : tk_hw 31 μ' = tk_hw 31 μ := tk_hw_f1 hf (by omega)
      have hall : ∀ t : Int, 0 ≤ t → t < μ 31 1 → tk_dn (fun j => μ 55 j) (μ 31 1) t := fun t h3 h4 => w3 t h3 h4
      simp [tk_fn, tk_env, tk_sq, tk_sk, tk_if, tk_re, tk_rez, tk_rev, tk_xp, tk_se, tk_pf, tk_pfz, tk_pfo, tk_as, tk_asz, tk_asb, tk_aso, tk_cpy, tk_sw, tk_swc, tk_lit, tk_loc, tk_u1, tk_bin, tk_dv, tk_gf, tk_gr, tk_gn, tk_ald, tk_aldq, tk_aln, tk_unl, tk_una, tk_ter, tk_args, tk_cs, tk_cv, tk_ceq, tk_cne, tk_clt, tk_cge, tk_cgt, tk_cle, tk_zeq, tk_zne, tk_zlt, tk_zge, tk_zgt, tk_zle, tk_and, tk_or, tk_not, tk_ct2, tk_isC, List.headD_cons, tk_up, tk_sca, tk_scl, r0, r1, e01]
      refine x_lend31 (by rw [hT]; exact h0) (by rw [hT]; exact h1) (by rw [hT]; exact h2) (by rw [hT]; exact h7) (by rw [hT]; exact h8) (fun p h3 h4 => ?_) (fun μ2 hf2 hs2 => ?_)
      · rw [hT, hh p h3 h4]
        exact tk_pd_all (fun t h5 h6 _ => hall t h5 h6)
      · rw [hT] at hs2
        have hT2 : tk_hw 31 μ2 = tk_hw 31 μ := by
          rw [← hT]
          funext f i
          unfold tk_hw
          split
          · exact hf2 _ _ (by omega)
          · rfl
        refine hQ _ (fun o i ho => by rw [hf2 o i (by omega)]; exact hf o i (by omega)) hs2 ?_
        unfold tk_xw
        rw [hT2]
        refine ⟨fun t h3 h4 => ?_, fun c h3 h4 => ⟨?_, ?_⟩⟩
        · rw [hf2 31 1 (by omega), e01] at h4
          show μ2 58 t = _
          rw [hf2 _ _ (by omega)]
          exact hw t (hall t h3 h4)
        · show μ2 57 c = _
          rw [hf2 _ _ (by omega), (hz c h3 h4).1, hVf c h3]
          exact tk_pd_all (fun t h5 h6 _ => hall t h5 h6)
        · show μ2 56 c = _
          rw [hf2 _ _ (by omega)]
          exact (hz c h3 h4).2
theorem x_revalue31 {μ : tk_M} {Q : Int → tk_M → Prop} (hI : tk_I0 (tk_hw 31 μ) ∧ tk_I1 (tk_hw 31 μ) ∧ tk_I2 (tk_hw 31 μ) ∧ tk_I7 (tk_hw 31 μ) ∧ tk_I8 (tk_hw 31 μ)) (hJ : tk_J 600000 (tk_hw 31 μ)) (haw : tk_aw (tk_hw 31 μ) (fun j => μ 55 j)) (hQ : ∀ μ', (∀ o i : Int, ¬ (o = 51 ∨ o = 52 ∨ o = 56 ∨ o = 57 ∨ o = 58 ∨ o = 59 ∨ o = 60 ∨ (o = 53 ∧ i = 8)) → μ' o i = μ o i) → tk_xsh 31 (tk_shr (tk_hw 31 μ)) μ' → tk_xd 31 (tk_shr (tk_hw 31 μ)) μ' → tk_xw 31 μ' → Q 0 μ') : tkF_X0_revalue [51] Q μ := by
  have hb := tk_shr_shb hI.1 hI.2.1 hI.2.2.2.1
  simp [tk_fn, tk_env, tk_sq, tk_sk, tk_if, tk_re, tk_rez, tk_rev, tk_xp, tk_se, tk_pf, tk_pfz, tk_pfo, tk_as, tk_asz, tk_asb, tk_aso, tk_cpy, tk_sw, tk_swc, tk_lit, tk_loc, tk_u1, tk_bin, tk_dv, tk_gf, tk_gr, tk_gn, tk_ald, tk_aldq, tk_aln, tk_unl, tk_una, tk_ter, tk_args, tk_cs, tk_cv, tk_ceq, tk_cne, tk_clt, tk_cge, tk_cgt, tk_cle, tk_zeq, tk_zne, tk_zlt, tk_zge, tk_zgt, tk_zle, tk_and, tk_or, tk_not, tk_ct2, tk_isC, List.headD_cons, tk_up, tk_sca, tk_scl, tkF_X0_revalue, tkS_X0_revalue]
  refine x_reckon31 hI haw (fun μ1 hf1 hs1 hw1 => ?_)
  have hT : tk_hw 31 μ1 = tk_hw 31 μ := by
    funext f i
    unfold tk_hw
    split
    · exact hf1 _ _ (by omega)
    · rfl
  refine x_weigh31 (b := 600000) (sh := tk_shr (tk_hw 31 μ)) (by rw [hT]; exact hJ) hb hs1 (fun μ2 hf2 hs2 hd2 => ?_)
  have hT2 : tk_hw 31 μ2 = tk_hw 31 μ1 := tk_hw_fx hf2
  refine hQ _ (fun o i ho => by rw [hf2 o i (by omega)]; exact hf1 o i (by omega)) hs2 hd2 ?_
  unfold tk_xw at hw1 ⊢
  rw [hT2, hf2 31 1 (by omega)]
  refine ⟨fun t h3 h4 => ?_, fun c h3 h4 => ⟨?_, ?_⟩⟩
  · rw [hf2 _ _ (by omega)]; exact hw1.1 t h3 h4
  · rw [hf2 _ _ (by omega)]; exact (hw1.2 c h3 h4).1
  · rw [hf2 _ _ (by omega)]; exact (hw1.2 c h3 h4).2
theorem x_refresh31 {μ : tk_M} {Q : Int → tk_M → Prop} (hI : tk_I0 (tk_hw 31 μ) ∧ tk_I1 (tk_hw 31 μ) ∧ tk_I2 (tk_hw 31 μ) ∧ tk_I7 (tk_hw 31 μ) ∧ tk_I8 (tk_hw 31 μ)) (hJ : tk_J 600000 (tk_hw 31 μ)) (hQ : ∀ μ', tk_f1 51 60 μ μ' → tk_xsh 31 (tk_shr (tk_hw 31 μ)) μ' → tk_xd 31 (tk_shr (tk_hw 31 μ)) μ' → tk_xw 31 μ' → tk_aw (tk_hw 31 μ) (fun j => μ' 55 j) → Q 0 μ') : tkF_X0_refresh [51] Q μ := by
  simp [tk_fn, tk_env, tk_sq, tk_sk, tk_if, tk_re, tk_rez, tk_rev, tk_xp, tk_se, tk_pf, tk_pfz, tk_pfo, tk_as, tk_asz, tk_asb, tk_aso, tk_cpy, tk_sw, tk_swc, tk_lit, tk_loc, tk_u1, tk_bin, tk_dv, tk_gf, tk_gr, tk_gn, tk_ald, tk_aldq, tk_aln, tk_unl, tk_una, tk_ter, tk_args, tk_cs, tk_cv, tk_ceq, tk_cne, tk_clt, tk_cge, tk_cgt, tk_cle, tk_zeq, tk_zne, tk_zlt, tk_zge, tk_zgt, tk_zle, tk_and, tk_or, tk_not, tk_ct2, tk_isC, List.headD_cons, tk_up, tk_sca, tk_scl, tkF_X0_refresh, tkS_X0_refresh]
  refine x_arrange31 hI.1 hI.2.1 hI.2.2.2.1 (fun μ1 hf1 ha1 => ?_)
  have hT : tk_hw 31 μ1 = tk_hw 31 μ := tk_hw_f1 hf1 (by omega)
  have ha2 := ha1.1
  rw [hT] at ha2
  refine x_revalue31 (by rw [hT]; exact hI) (by rw [hT]; exact hJ) (by rw [hT]; exact ha2) (fun μ2 hf2 hs2 hd2 hw2 => ?_)
  rw [hT] at hs2 hd2
  refine hQ _ (fun o i ho => by rw [hf2 o i (by omega)]; exact hf1 o i (by omega)) hs2 hd2 hw2 ?_
  have e : (fun j => μ2 55 j) = (fun j => μ1 55 j) := funext (fun j => hf2 _ _ (by omega))
  rw [e]
  exact ha2
