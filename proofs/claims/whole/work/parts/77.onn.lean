/-! ===== Layer 2: what is tried ===== -/
theorem tk_hw_ob {h o i v : Int} {μ : tk_M} (ho : ¬ (h ≤ o ∧ o ≤ h + 19)) : tk_hw h (tk_set μ o i v) = tk_hw h μ := tk_hw_oth ho
/-- the trial Hall is the live one's like, its Dealer right -/
theorem x_begin {μ : tk_M} {Q : Int → tk_M → Prop} (hI : tk_II (tk_hw 1 μ)) (hQ : ∀ μ1, tk_f1 31 60 μ μ1 → tk_EE (tk_hw 1 μ) (tk_hw 31 μ1) → tk_xsh 31 (tk_shr (tk_hw 1 μ)) μ1 → tk_xd 31 (tk_shr (tk_hw 1 μ)) μ1 → tk_aw (tk_hw 31 μ1) (fun j => μ1 55 j) → Q 0 μ1) : tkF_X6_beginTrial [0] Q μ := by
  simp [tk_fn, tk_env, tk_sq, tk_sk, tk_if, tk_re, tk_rez, tk_rev, tk_xp, tk_se, tk_pf, tk_pfz, tk_pfo, tk_as, tk_asz, tk_asb, tk_aso, tk_cpy, tk_sw, tk_swc, tk_lit, tk_loc, tk_u1, tk_bin, tk_dv, tk_gf, tk_gr, tk_gn, tk_ald, tk_aldq, tk_aln, tk_unl, tk_una, tk_ter, tk_args, tk_cs, tk_cv, tk_ceq, tk_cne, tk_clt, tk_cge, tk_cgt, tk_cle, tk_zeq, tk_zne, tk_zlt, tk_zge, tk_zgt, tk_zle, tk_and, tk_or, tk_not, tk_ct2, tk_isC, List.headD_cons, tk_up, tk_sca, tk_scl, tkF_X6_beginTrial, tkS_X6_beginTrial]
  refine x_take_31_1 hI (fun μ1 hf1 hE1 => ?_)
  have hI1 := tk_II_EE hE1 hI
  refine x_refresh31 (tk_I5s hI1) (tk_J_w (tk_J_of hI1).1 (by omega)) (fun μ2 hf2 hs2 hd2 hw2 ha2 => ?_)
  have hT : tk_hw 31 μ2 = tk_hw 31 μ1 := tk_hw_f1 hf2 (by omega)
  rw [tk_shr_EE hE1 hI] at hs2 hd2
  exact hQ μ2 (tk_f1_t (tk_f1_w hf1 (by omega)) (tk_f1_w hf2 (by omega))) (by rw [hT]; exact hE1) hs2 hd2 (by rw [hT]; exact ha2)
/-- the Model tries, its image kept -/
def tk_tr (μ m : tk_M) : Prop := (∀ o i : Int, ¬ tk_sc2 o i → m o i = μ o i) ∧ tk_CC (tk_mv μ) (tk_iv 113 m)
theorem tk_tr_fg {μ m m' : tk_M} (h : tk_tr μ m) (hf : tk_fg m m') : tk_tr μ m' := by
  refine ⟨fun o i ho => by rw [hf o i (by unfold tk_sc2 at ho; omega)]; exact h.1 o i ho, ?_⟩
  have e : tk_iv 113 m' = tk_iv 113 m := by
    have e : ∀ j, m' 113 j = m 113 j := fun j => hf _ _ (by omega)
    funext f i
    unfold tk_iv
    simp only [e]
  rw [e]
  exact h.2
theorem m_tr_open {μ m : tk_M} {Q : Int → tk_M → Prop} (hq : ∀ o i : Int, ¬ tk_sc2 o i → m o i = μ o i) (hm : tk_mv m = tk_mv μ) (hQ : ∀ m', tk_tr μ m' → tk_CC (tk_mv μ) (tk_mv m') → tk_fc 113 m m' → Q 0 m') : tkF_X7_open [96] Q m := by
  refine m_open (fun m' hf hc hi => ?_)
  rw [hm] at hc hi
  exact hQ m' ⟨fun o i ho => by rw [hf o i (by unfold tk_sc2 at ho; omega)]; exact hq o i ho, hi⟩ hc hf
theorem m_tr_again {μ m : tk_M} {Q : Int → tk_M → Prop} (hR : tk_R μ) (h : tk_tr μ m) (hQ : ∀ m', tk_R m' → tk_tr μ m' → tk_CC (tk_mv μ) (tk_mv m') → tk_fc 113 m m' → Q 0 m') : tkF_X7_again [96] Q m := by
  refine m_again (fun m' hf hc hi => ?_)
  have hc2 := tk_CC_t h.2 hc
  have hq : ∀ o i : Int, ¬ tk_sc2 o i → m' o i = μ o i := fun o i ho => by rw [hf o i (by unfold tk_sc2 at ho; omega)]; exact h.1 o i ho
  exact hQ m' (tk_R_sc hR hq hc2) ⟨hq, tk_CC_t h.2 hi⟩ hc2 hf
theorem tk_EE_m {μ m : tk_M} (hR : tk_R μ) (hc : tk_CC (tk_mv μ) (tk_mv m)) : tk_EE (tk_hw 1 μ) (tk_mv m) := tk_EE_CC (tk_ZZ_of (tk_R_S hR).2.1) (tk_R_S hR).1 hc
theorem x_on_0 {G1 G2 : tk_F} {s n w : Int} {μ : tk_M} {Q : Int → tk_M → Prop} (hw : w = 0) (hn : 0 ≤ n ∧ n ≤ 40) (hF : G1 [0] (fun _ μ1 => G2 [51, s, n] Q μ1) μ) : (tk_fn [2, 0, 0, 0] (tk_sq (tk_if (tk_and (tk_zne (tk_loc 3)) (tk_not (tk_zne (tk_cv 2 tkF_X2_hasClient [(tk_gr 6 (1) (tk_loc 0)), (tk_bin tk_isub (tk_loc 3) (tk_lit (10)))])))) (tk_re (tk_lit (-1))) tk_sk) (tk_sq (tk_if (tk_not (tk_zne (tk_cs tkF_X6_isRun [(tk_loc 2)]))) (tk_re (tk_lit (-2))) tk_sk) (tk_sq (tk_xp (tk_cv 6 G1 [(tk_loc 0)])) (tk_sq (tk_se 4 (tk_cv 0 G2 [(tk_gr 6 (51) (tk_loc 0)), (tk_loc 1), (tk_loc 2)])) (tk_re (tk_ter (tk_zeq (tk_loc 3)) (tk_loc 4) (tk_ald 0 (tk_gr 2 (6) (tk_gr 6 (31) (tk_loc 0))) (tk_bin tk_isub (tk_loc 3) (tk_lit (10))))))))))) [0, s, n, w] Q μ := by
  simp [tk_fn, tk_env, tk_sq, tk_sk, tk_if, tk_re, tk_rez, tk_rev, tk_xp, tk_se, tk_pf, tk_pfz, tk_pfo, tk_as, tk_asz, tk_asb, tk_aso, tk_cpy, tk_sw, tk_swc, tk_lit, tk_loc, tk_u1, tk_bin, tk_dv, tk_gf, tk_gr, tk_gn, tk_ald, tk_aldq, tk_aln, tk_unl, tk_una, tk_ter, tk_args, tk_cs, tk_cv, tk_ceq, tk_cne, tk_clt, tk_cge, tk_cgt, tk_cle, tk_zeq, tk_zne, tk_zlt, tk_zge, tk_zgt, tk_zle, tk_and, tk_or, tk_not, tk_ct2, tk_isC, List.headD_cons, tk_up, tk_sca, tk_scl, eq_true hw, x_isRun, tk_bo_0, hn.1, hn.2]
  exact hF
theorem x_on_p {G1 G2 : tk_F} {s n w v : Int} {μ : tk_M} {Q : Int → tk_M → Prop} (hw : ¬ w = 0) (hv : tk_isub w 10 = v) (hc : 0 ≤ v ∧ v < μ 1 2) (h8 : v < 8) (hn : 0 ≤ n ∧ n ≤ 40) (hF : G1 [0] (fun _ μ1 => G2 [51, s, n] (fun _ μ2 => Q (μ2 37 v) μ2) μ1) μ) : (tk_fn [2, 0, 0, 0] (tk_sq (tk_if (tk_and (tk_zne (tk_loc 3)) (tk_not (tk_zne (tk_cv 2 tkF_X2_hasClient [(tk_gr 6 (1) (tk_loc 0)), (tk_bin tk_isub (tk_loc 3) (tk_lit (10)))])))) (tk_re (tk_lit (-1))) tk_sk) (tk_sq (tk_if (tk_not (tk_zne (tk_cs tkF_X6_isRun [(tk_loc 2)]))) (tk_re (tk_lit (-2))) tk_sk) (tk_sq (tk_xp (tk_cv 6 G1 [(tk_loc 0)])) (tk_sq (tk_se 4 (tk_cv 0 G2 [(tk_gr 6 (51) (tk_loc 0)), (tk_loc 1), (tk_loc 2)])) (tk_re (tk_ter (tk_zeq (tk_loc 3)) (tk_loc 4) (tk_ald 0 (tk_gr 2 (6) (tk_gr 6 (31) (tk_loc 0))) (tk_bin tk_isub (tk_loc 3) (tk_lit (10))))))))))) [0, s, n, w] Q μ := by
  simp [tk_fn, tk_env, tk_sq, tk_sk, tk_if, tk_re, tk_rez, tk_rev, tk_xp, tk_se, tk_pf, tk_pfz, tk_pfo, tk_as, tk_asz, tk_asb, tk_aso, tk_cpy, tk_sw, tk_swc, tk_lit, tk_loc, tk_u1, tk_bin, tk_dv, tk_gf, tk_gr, tk_gn, tk_ald, tk_aldq, tk_aln, tk_unl, tk_una, tk_ter, tk_args, tk_cs, tk_cv, tk_ceq, tk_cne, tk_clt, tk_cge, tk_cgt, tk_cle, tk_zeq, tk_zne, tk_zlt, tk_zge, tk_zgt, tk_zle, tk_and, tk_or, tk_not, tk_ct2, tk_isC, List.headD_cons, tk_up, tk_sca, tk_scl, hw, hv, x_hasClient, x_isRun, tk_bo_0, hn.1, hn.2, hc.1, hc.2, h8, tk_al_2, tk_al_3, tk_al_4, tk_al_5, tk_al_6, tk_al_7, tk_al_8, tk_al_9, tk_al_10, tk_al_11, tk_al_13, tk_al_14, tk_al_16, tk_al_17, tk_al_19, tk_al_20, tk_al_22, tk_al_24, tk_al_25, tk_al_26, tk_al_27, tk_al_28, tk_al_29, tk_al_30, tk_al_32, tk_al_33, tk_al_34, tk_al_35, tk_al_36, tk_al_37, tk_al_38, tk_al_39, tk_al_40, tk_al_41, tk_al_43, tk_al_44, tk_al_46, tk_al_47, tk_al_49, tk_al_50, tk_al_52, tk_al_54, tk_al_55, tk_al_56, tk_al_57, tk_al_58, tk_al_59, tk_al_60, tk_al_62, tk_al_63, tk_al_64, tk_al_65, tk_al_66, tk_al_67, tk_al_68, tk_al_69, tk_al_70, tk_al_71, tk_al_73, tk_al_74, tk_al_76, tk_al_77, tk_al_79, tk_al_80, tk_al_81, tk_al_83, tk_al_85, tk_al_87, tk_al_89, tk_al_91, tk_al_93, tk_al_95, tk_al_97, tk_al_98, tk_al_99, tk_al_100, tk_al_101, tk_al_102, tk_al_103, tk_al_104, tk_al_105, tk_al_106, tk_al_107, tk_al_108, tk_al_109, tk_al_110, tk_al_111, tk_al_112, tk_al_113, tk_al_114, tk_al_115, tk_al_116, tk_al_117, tk_al_118, tk_al_119, tk_al_120, tk_al_121, tk_al_122, tk_al_123, tk_al_124, tk_al_125, tk_al_126, tk_al_127, tk_al_128, tk_al_129, show ¬ μ 1 2 ≤ v from by omega]
  exact hF
theorem m_on_0 {F1 F2 F3 : tk_F} {s n w : Int} {μ : tk_M} {Q : Int → tk_M → Prop} (hw : w = 0) (hn : 0 ≤ n ∧ n ≤ 40) (hF : F1 [96] (fun _ μ1 => F2 [96, s, n] (fun l μ2 => F3 [96] (fun _ μ3 => Q l μ3) μ2) μ1) (tk_set μ 96 24 0)) : (tk_fn [2, 0, 0, 0] (tk_sq (tk_pf 7 24 (tk_loc 0) (tk_lit (0))) (tk_sq (tk_if (tk_and (tk_zne (tk_loc 3)) (tk_not (tk_zne (tk_cv 7 tkF_X7_isClient [(tk_loc 0), (tk_bin tk_isub (tk_loc 3) (tk_lit (10)))])))) (tk_re (tk_lit (-1))) tk_sk) (tk_sq (tk_if (tk_not (tk_zne (tk_cs tkF_X7_in [(tk_loc 2), (tk_lit (0)), (tk_lit (40))]))) (tk_re (tk_lit (-2))) tk_sk) (tk_sq (tk_xp (tk_cv 7 F1 [(tk_loc 0)])) (tk_sq (tk_se 4 (tk_cv 7 F2 [(tk_loc 0), (tk_loc 1), (tk_loc 2)])) (tk_sq (tk_se 5 (tk_ter (tk_zeq (tk_loc 3)) (tk_loc 4) (tk_ald 0 (tk_gr 7 (6) (tk_loc 0)) (tk_bin tk_isub (tk_loc 3) (tk_lit (10)))))) (tk_sq (tk_xp (tk_cv 7 F3 [(tk_loc 0)])) (tk_re (tk_loc 5)))))))))) [96, s, n, w] Q μ := by
  simp [tk_fn, tk_env, tk_sq, tk_sk, tk_if, tk_re, tk_rez, tk_rev, tk_xp, tk_se, tk_pf, tk_pfz, tk_pfo, tk_as, tk_asz, tk_asb, tk_aso, tk_cpy, tk_sw, tk_swc, tk_lit, tk_loc, tk_u1, tk_bin, tk_dv, tk_gf, tk_gr, tk_gn, tk_ald, tk_aldq, tk_aln, tk_unl, tk_una, tk_ter, tk_args, tk_cs, tk_cv, tk_ceq, tk_cne, tk_clt, tk_cge, tk_cgt, tk_cle, tk_zeq, tk_zne, tk_zlt, tk_zge, tk_zgt, tk_zle, tk_and, tk_or, tk_not, tk_ct2, tk_isC, List.headD_cons, tk_up, tk_sca, tk_scl, eq_true hw, m_in, tk_bo_0, hn.1, hn.2]
  exact hF
theorem m_on_p {F1 F2 F3 : tk_F} {s n w v : Int} {μ : tk_M} {Q : Int → tk_M → Prop} (hw : ¬ w = 0) (hv : tk_isub w 10 = v) (hm : 0 ≤ μ 96 5 ∧ μ 96 5 ≤ 8) (hc : 0 ≤ v ∧ v < μ 96 5) (h8 : v < 8) (hn : 0 ≤ n ∧ n ≤ 40) (hF : F1 [96] (fun _ μ1 => F2 [96, s, n] (fun _ μ2 => F3 [96] (fun _ μ3 => Q (μ2 102 v) μ3) μ2) μ1) (tk_set μ 96 24 0)) : (tk_fn [2, 0, 0, 0] (tk_sq (tk_pf 7 24 (tk_loc 0) (tk_lit (0))) (tk_sq (tk_if (tk_and (tk_zne (tk_loc 3)) (tk_not (tk_zne (tk_cv 7 tkF_X7_isClient [(tk_loc 0), (tk_bin tk_isub (tk_loc 3) (tk_lit (10)))])))) (tk_re (tk_lit (-1))) tk_sk) (tk_sq (tk_if (tk_not (tk_zne (tk_cs tkF_X7_in [(tk_loc 2), (tk_lit (0)), (tk_lit (40))]))) (tk_re (tk_lit (-2))) tk_sk) (tk_sq (tk_xp (tk_cv 7 F1 [(tk_loc 0)])) (tk_sq (tk_se 4 (tk_cv 7 F2 [(tk_loc 0), (tk_loc 1), (tk_loc 2)])) (tk_sq (tk_se 5 (tk_ter (tk_zeq (tk_loc 3)) (tk_loc 4) (tk_ald 0 (tk_gr 7 (6) (tk_loc 0)) (tk_bin tk_isub (tk_loc 3) (tk_lit (10)))))) (tk_sq (tk_xp (tk_cv 7 F3 [(tk_loc 0)])) (tk_re (tk_loc 5)))))))))) [96, s, n, w] Q μ := by
  simp [tk_fn, tk_env, tk_sq, tk_sk, tk_if, tk_re, tk_rez, tk_rev, tk_xp, tk_se, tk_pf, tk_pfz, tk_pfo, tk_as, tk_asz, tk_asb, tk_aso, tk_cpy, tk_sw, tk_swc, tk_lit, tk_loc, tk_u1, tk_bin, tk_dv, tk_gf, tk_gr, tk_gn, tk_ald, tk_aldq, tk_aln, tk_unl, tk_una, tk_ter, tk_args, tk_cs, tk_cv, tk_ceq, tk_cne, tk_clt, tk_cge, tk_cgt, tk_cle, tk_zeq, tk_zne, tk_zlt, tk_zge, tk_zgt, tk_zle, tk_and, tk_or, tk_not, tk_ct2, tk_isC, List.headD_cons, tk_up, tk_sca, tk_scl, hw, hv, m_isClient, m_in, tk_set_j, hm.1, hm.2, tk_bo_0, hn.1, hn.2, hc.1, hc.2, h8, tk_al_2, tk_al_3, tk_al_4, tk_al_5, tk_al_6, tk_al_7, tk_al_8, tk_al_9, tk_al_10, tk_al_11, tk_al_13, tk_al_14, tk_al_16, tk_al_17, tk_al_19, tk_al_20, tk_al_22, tk_al_24, tk_al_25, tk_al_26, tk_al_27, tk_al_28, tk_al_29, tk_al_30, tk_al_32, tk_al_33, tk_al_34, tk_al_35, tk_al_36, tk_al_37, tk_al_38, tk_al_39, tk_al_40, tk_al_41, tk_al_43, tk_al_44, tk_al_46, tk_al_47, tk_al_49, tk_al_50, tk_al_52, tk_al_54, tk_al_55, tk_al_56, tk_al_57, tk_al_58, tk_al_59, tk_al_60, tk_al_62, tk_al_63, tk_al_64, tk_al_65, tk_al_66, tk_al_67, tk_al_68, tk_al_69, tk_al_70, tk_al_71, tk_al_73, tk_al_74, tk_al_76, tk_al_77, tk_al_79, tk_al_80, tk_al_81, tk_al_83, tk_al_85, tk_al_87, tk_al_89, tk_al_91, tk_al_93, tk_al_95, tk_al_97, tk_al_98, tk_al_99, tk_al_100, tk_al_101, tk_al_102, tk_al_103, tk_al_104, tk_al_105, tk_al_106, tk_al_107, tk_al_108, tk_al_109, tk_al_110, tk_al_111, tk_al_112, tk_al_113, tk_al_114, tk_al_115, tk_al_116, tk_al_117, tk_al_118, tk_al_119, tk_al_120, tk_al_121, tk_al_122, tk_al_123, tk_al_124, tk_al_125, tk_al_126, tk_al_127, tk_al_128, tk_al_129, show ¬ μ 96 5 ≤ v from by omega]
  exact hF
theorem c_on_n {F1 F2 F3 G1 G2 : tk_F} {s n w v : Int} {μ : tk_M} {K : Int → Int → tk_M → Prop} (hv : tk_isub w 10 = v) (hm : 0 ≤ μ 1 2 ∧ μ 1 2 ≤ 8) (e3 : μ 96 5 = μ 1 2) (hn : ¬ ((w = 0 ∨ (0 ≤ v ∧ v < μ 1 2)) ∧ (0 ≤ n ∧ n ≤ 40))) (hK : ∀ r, K r r (tk_set μ 96 24 0)) : (tk_fn [2, 0, 0, 0] (tk_sq (tk_if (tk_and (tk_zne (tk_loc 3)) (tk_not (tk_zne (tk_cv 2 tkF_X2_hasClient [(tk_gr 6 (1) (tk_loc 0)), (tk_bin tk_isub (tk_loc 3) (tk_lit (10)))])))) (tk_re (tk_lit (-1))) tk_sk) (tk_sq (tk_if (tk_not (tk_zne (tk_cs tkF_X6_isRun [(tk_loc 2)]))) (tk_re (tk_lit (-2))) tk_sk) (tk_sq (tk_xp (tk_cv 6 G1 [(tk_loc 0)])) (tk_sq (tk_se 4 (tk_cv 0 G2 [(tk_gr 6 (51) (tk_loc 0)), (tk_loc 1), (tk_loc 2)])) (tk_re (tk_ter (tk_zeq (tk_loc 3)) (tk_loc 4) (tk_ald 0 (tk_gr 2 (6) (tk_gr 6 (31) (tk_loc 0))) (tk_bin tk_isub (tk_loc 3) (tk_lit (10))))))))))) [0, s, n, w] (fun r μ1 => (tk_fn [2, 0, 0, 0] (tk_sq (tk_pf 7 24 (tk_loc 0) (tk_lit (0))) (tk_sq (tk_if (tk_and (tk_zne (tk_loc 3)) (tk_not (tk_zne (tk_cv 7 tkF_X7_isClient [(tk_loc 0), (tk_bin tk_isub (tk_loc 3) (tk_lit (10)))])))) (tk_re (tk_lit (-1))) tk_sk) (tk_sq (tk_if (tk_not (tk_zne (tk_cs tkF_X7_in [(tk_loc 2), (tk_lit (0)), (tk_lit (40))]))) (tk_re (tk_lit (-2))) tk_sk) (tk_sq (tk_xp (tk_cv 7 F1 [(tk_loc 0)])) (tk_sq (tk_se 4 (tk_cv 7 F2 [(tk_loc 0), (tk_loc 1), (tk_loc 2)])) (tk_sq (tk_se 5 (tk_ter (tk_zeq (tk_loc 3)) (tk_loc 4) (tk_ald 0 (tk_gr 7 (6) (tk_loc 0)) (tk_bin tk_isub (tk_loc 3) (tk_lit (10)))))) (tk_sq (tk_xp (tk_cv 7 F3 [(tk_loc 0)])) (tk_re (tk_loc 5)))))))))) [96, s, n, w] (fun r' μ2 => K r r' μ2) μ1) μ := by
  by_cases hw : w = 0
  · have hn2 : ¬ (0 ≤ n ∧ n ≤ 40) := fun z => hn ⟨.inl hw, z⟩
    simp [tk_fn, tk_env, tk_sq, tk_sk, tk_if, tk_re, tk_rez, tk_rev, tk_xp, tk_se, tk_pf, tk_pfz, tk_pfo, tk_as, tk_asz, tk_asb, tk_aso, tk_cpy, tk_sw, tk_swc, tk_lit, tk_loc, tk_u1, tk_bin, tk_dv, tk_gf, tk_gr, tk_gn, tk_ald, tk_aldq, tk_aln, tk_unl, tk_una, tk_ter, tk_args, tk_cs, tk_cv, tk_ceq, tk_cne, tk_clt, tk_cge, tk_cgt, tk_cle, tk_zeq, tk_zne, tk_zlt, tk_zge, tk_zgt, tk_zle, tk_and, tk_or, tk_not, tk_ct2, tk_isC, List.headD_cons, tk_up, tk_sca, tk_scl, eq_true hw, x_isRun, m_in, tk_bo_0, hn2, -not_and]
    exact hK _
  · by_cases hc : 0 ≤ v ∧ v < μ 1 2
    · have hn2 : ¬ (0 ≤ n ∧ n ≤ 40) := fun z => hn ⟨.inr hc, z⟩
      simp [tk_fn, tk_env, tk_sq, tk_sk, tk_if, tk_re, tk_rez, tk_rev, tk_xp, tk_se, tk_pf, tk_pfz, tk_pfo, tk_as, tk_asz, tk_asb, tk_aso, tk_cpy, tk_sw, tk_swc, tk_lit, tk_loc, tk_u1, tk_bin, tk_dv, tk_gf, tk_gr, tk_gn, tk_ald, tk_aldq, tk_aln, tk_unl, tk_una, tk_ter, tk_args, tk_cs, tk_cv, tk_ceq, tk_cne, tk_clt, tk_cge, tk_cgt, tk_cle, tk_zeq, tk_zne, tk_zlt, tk_zge, tk_zgt, tk_zle, tk_and, tk_or, tk_not, tk_ct2, tk_isC, List.headD_cons, tk_up, tk_sca, tk_scl, hw, hv, x_hasClient, m_isClient, tk_set_j, e3, hm.1, hm.2, hc.1, hc.2, x_isRun, m_in, tk_bo_0, hn2, -not_and, show ¬ μ 1 2 ≤ v from by omega]
      exact hK _
    · simp [tk_fn, tk_env, tk_sq, tk_sk, tk_if, tk_re, tk_rez, tk_rev, tk_xp, tk_se, tk_pf, tk_pfz, tk_pfo, tk_as, tk_asz, tk_asb, tk_aso, tk_cpy, tk_sw, tk_swc, tk_lit, tk_loc, tk_u1, tk_bin, tk_dv, tk_gf, tk_gr, tk_gn, tk_ald, tk_aldq, tk_aln, tk_unl, tk_una, tk_ter, tk_args, tk_cs, tk_cv, tk_ceq, tk_cne, tk_clt, tk_cge, tk_cgt, tk_cle, tk_zeq, tk_zne, tk_zlt, tk_zge, tk_zgt, tk_zle, tk_and, tk_or, tk_not, tk_ct2, tk_isC, List.headD_cons, tk_up, tk_sca, tk_scl, hw, hv, x_hasClient, m_isClient, tk_set_j, e3, hm.1, hm.2, hc, tk_bo_0, -not_and]
      exact hK _
theorem c_on (s n w : Int) : tk_cp tkF_X6_on tkF_X7_on [s, n, w] := by
  intro μ hR K hK; have hT := tk_R_thr (v := 0) hR; obtain ⟨hE, hI, hIm⟩ := tk_R_S hR; obtain ⟨e1, e2, e3, e4, e5, e6, e7, e8, e9, hc, hn, hm, hk⟩ := tk_R_n hR; have hJx := (tk_J_of hI).1; have hJm := (tk_J_of hIm).1; have hshb := tk_shr_shb hI.1 hI.2.1 (tk_I5s hI).2.2.2.1; have hshe := tk_shr_EE hE hI; have hQE := tk_EQ_of hE
  by_cases hnn : ¬ ((w = 0 ∨ (0 ≤ tk_isub w 10 ∧ tk_isub w 10 < μ 1 2)) ∧ (0 ≤ n ∧ n ≤ 40))
  · exact c_on_n rfl hm e3 hnn (fun r => hK _ _ hT)
  obtain ⟨hww, hn2⟩ : (w = 0 ∨ (0 ≤ tk_isub w 10 ∧ tk_isub w 10 < μ 1 2)) ∧ (0 ≤ n ∧ n ≤ 40) := Classical.byContradiction hnn
  -- the class's side, then the Model's, for any answer of the two states behind
  have gx : ∀ (Q : Int → tk_M → Prop), (∀ μ2, tk_f1 31 60 μ μ2 → tk_EQ (tk_gd (tk_shr (tk_hw 1 μ)) (tk_hw 1 μ) s n.toNat) (tk_hw 31 μ2) → Q (tk_gdl (tk_shr (tk_hw 1 μ)) (tk_hw 1 μ) s n.toNat) μ2) → tkF_X6_beginTrial [0] (fun _ μ1 => tkF_X0_drawFrom [51, s, n] Q μ1) μ := by
    intro Q hQ
    refine x_begin hI (fun μ1 hf1 hE1 hs1 hd1 ha1 => ?_)
    have hI1 := tk_II_EE hE1 hI
    refine x_dFrom31 (b := 99999) (tk_J_of hI1) (by omega) hn2 hshb hs1 hd1 (fun μ2 hf2 he2 hs2 hd2 => ?_)
    rw [tk_gdl_eq hm.1 (tk_EQ_of hE1)]
    exact hQ μ2 (fun o i ho => by rw [hf2 o i (by omega)]; exact hf1 o i ho) (by rw [he2]; exact tk_gd_EQ hm.1 (tk_EQ_of hE1) _)
  have gm : ∀ (μ2 : tk_M), tk_f1 31 60 μ μ2 → ∀ (Q : Int → tk_M → tk_M → Prop), (∀ m3 m4, tk_EQ (tk_gd (tk_shr (tk_hw 1 μ)) (tk_hw 1 μ) s n.toNat) (tk_mv m3) → tk_R m4 → Q (tk_gdl (tk_shr (tk_hw 1 μ)) (tk_hw 1 μ) s n.toNat) m3 m4) → tkF_X7_open [96] (fun _ m2 => tkF_X7_goDrawn [96, s, n] (fun l m3 => tkF_X7_again [96] (fun _ m4 => Q l m3 m4) m3) m2) (tk_set μ2 96 24 0) := by
    intro μ2 hf2 Q hQ
    refine m_tr_open (μ := μ) (fun o i ho => ?_) (by rw [tk_mv_ob (by omega), tk_mv_f1 hf2 (by omega)]) (fun m2 htr hc hfc => ?_)
    · unfold tk_sc2 at ho
      unfold tk_set
      rw [if_neg (by omega)]
      exact hf2 o i (by omega)
    have hE2 := tk_EE_m hR hc
    have hI2 := tk_II_EE hE2 hI
    refine m_goDrawn (b := 99999) (tk_I5s hI2) (tk_J_of hI2) (by omega) hn2 (fun m3 hf3 he3 hm3 => ?_)
    rw [tk_shr_EE hE2 hI] at he3 ⊢
    rw [tk_gdl_eq hm.1 (tk_EQ_of hE2)]
    refine m_tr_again hR (tk_tr_fg htr hf3) (fun m4 hR4 _ _ _ => ?_)
    exact hQ m3 m4 (by rw [he3]; exact tk_gd_EQ hm.1 (tk_EQ_of hE2) _) hR4
  by_cases hw : w = 0
  · refine x_on_0 hw hn2 (gx _ (fun μ2 hf2 hq2 => ?_))
    refine m_on_0 hw hn2 (gm μ2 hf2 (fun l m3 m4 => K _ l m4) (fun m3 m4 _ hR4 => ?_))
    exact hK _ _ hR4
  · have hc2 : 0 ≤ tk_isub w 10 ∧ tk_isub w 10 < μ 1 2 := by
      rcases hww with z | z
      · exact absurd z hw
      · exact z
    generalize hv : tk_isub w 10 = v at hc2
    refine x_on_p hw hv hc2 (by omega) hn2 (gx _ (fun μ2 hf2 hq2 => ?_))
    have q5 : μ2 96 5 = μ 1 2 := by rw [hf2 _ _ (by omega), e3]
    refine m_on_p hw hv (by rw [q5]; exact hm) (by rw [q5]; exact hc2) (by omega) hn2 (gm μ2 hf2 (fun l m3 m4 => K _ (m3 102 v) m4) (fun m3 m4 hq3 hR4 => ?_))
    have z0 : tk_gd (tk_shr (tk_hw 1 μ)) (tk_hw 1 μ) s n.toNat 0 2 = μ 1 2 := tk_gd_o (by omega) (by omega) (by omega) _
    have z1 : μ2 37 v = tk_gd (tk_shr (tk_hw 1 μ)) (tk_hw 1 μ) s n.toNat 6 v := (hq2.2.1 v hc2.1 (by rw [z0]; exact hc2.2)).2.2.1
    have z2 : m3 102 v = tk_gd (tk_shr (tk_hw 1 μ)) (tk_hw 1 μ) s n.toNat 6 v := (hq3.2.1 v hc2.1 (by rw [z0]; exact hc2.2)).2.2.1
    rw [z1, z2]
    exact hK _ _ hR4
