/-! ===== Layer 2: odds ===== -/
theorem m_odds_a {F1 F2 F3 F4 : tk_F} {c p : Int} {μ : tk_M} {Q : Int → tk_M → Prop} (hm : 0 ≤ μ 96 5 ∧ μ 96 5 ≤ 8) (ht : 0 ≤ c ∧ c < μ 96 5) (hp2 : 0 ≤ p ∧ p ≤ 1) (hI : tk_I0 (tk_mv μ) ∧ tk_I1 (tk_mv μ) ∧ tk_I2 (tk_mv μ) ∧ tk_I7 (tk_mv μ) ∧ tk_I8 (tk_mv μ)) (hF : ∀ μ3, tk_f1 116 120 (tk_set μ 96 24 0) μ3 → tk_mL (tk_mv μ) μ3 → F3 [96] (fun t μ4 => if t = 0 then Q (-9223372036854775808) μ4 else F4 [96, c] (fun x μ5 => if x = 0 then F1 [0, t, p] Q μ5 else F2 [96, c] (fun y μ6 => F1 [y, t, p] Q μ6) μ5) μ4) μ3) : (tk_fn [2, 0, 0] (tk_sq (tk_pf 7 24 (tk_loc 0) (tk_lit (0))) (tk_sq (tk_if (tk_or (tk_not (tk_zne (tk_cv 7 tkF_X7_isClient [(tk_loc 0), (tk_loc 1)]))) (tk_not (tk_zne (tk_cs tkF_X7_in [(tk_loc 2), (tk_lit (0)), (tk_lit (1))])))) (tk_re (tk_lit (-9223372036854775808))) tk_sk) (tk_sq (tk_xp (tk_cv 7 tkF_X7_layShares [(tk_loc 0)])) (tk_sq (tk_se 3 (tk_cv 7 F3 [(tk_loc 0)])) (tk_re (tk_ter (tk_ceq (tk_loc 3) (tk_lit (0))) (tk_lit (-9223372036854775808)) (tk_cs F1 [(tk_ter (tk_zne (tk_cv 7 F4 [(tk_loc 0), (tk_loc 1)])) (tk_cv 7 F2 [(tk_loc 0), (tk_loc 1)]) (tk_lit (0))), (tk_loc 3), (tk_loc 2)])))))))) [96, c, p] Q μ := by
  have hM : tk_mv (tk_set μ 96 24 0) = tk_mv μ := tk_mv_ob (by omega)
  simp [tk_fn, tk_env, tk_sq, tk_sk, tk_if, tk_re, tk_rez, tk_rev, tk_xp, tk_se, tk_pf, tk_pfz, tk_pfo, tk_as, tk_asz, tk_asb, tk_aso, tk_cpy, tk_sw, tk_swc, tk_lit, tk_loc, tk_u1, tk_bin, tk_dv, tk_gf, tk_gr, tk_gn, tk_ald, tk_aldq, tk_aln, tk_unl, tk_una, tk_ter, tk_args, tk_cs, tk_cv, tk_ceq, tk_cne, tk_clt, tk_cge, tk_cgt, tk_cle, tk_zeq, tk_zne, tk_zlt, tk_zge, tk_zgt, tk_zle, tk_and, tk_or, tk_not, tk_ct2, tk_isC, List.headD_cons, tk_up, tk_sca, tk_scl, m_isClient, m_in, tk_set_j, tk_bo_0, hm.1, hm.2, ht.1, ht.2, hp2.1, hp2.2, show ¬ μ 96 5 ≤ c from by omega]
  refine m_layShares (by rw [hM]; exact hI) (fun μ3 hf3 hL3 => ?_)
  rw [hM] at hL3
  exact hF μ3 hf3 hL3
theorem c_odds_m {c p r : Int} {μ μ1 : tk_M} {K : Int → Int → tk_M → Prop} (hR : tk_R μ) (hK : ∀ r μ', tk_R μ' → K r r μ') (hf1 : tk_f1 21 30 μ μ1) (ht : 0 ≤ c ∧ c < μ 1 2) (hp2 : 0 ≤ p ∧ p ≤ 1) (hr0 : tk_tot (tk_shr (tk_hw 1 μ)) (tk_hw 1 μ) = 0 → r = -9223372036854775808) (hr1 : 0 < tk_tot (tk_shr (tk_hw 1 μ)) (tk_hw 1 μ) → r = tk_ldiv (if p = 0 then tk_rw (tk_shr (tk_hw 1 μ)) (tk_hw 1 μ) c else tk_tot (tk_shr (tk_hw 1 μ)) (tk_hw 1 μ)) ((Nat.gcd (tk_rw (tk_shr (tk_hw 1 μ)) (tk_hw 1 μ) c).natAbs (tk_tot (tk_shr (tk_hw 1 μ)) (tk_hw 1 μ)).toNat : Nat) : Int)) : tkF_X7_odds [96, c, p] (fun r' μ2 => K r r' μ2) μ1 := by
  have hT := tk_R_thr (v := 0) hR; obtain ⟨hE, hI, hIm⟩ := tk_R_S hR; obtain ⟨e1, e2, e3, e4, e5, e6, e7, e8, e9, hc, hn, hm, hk⟩ := tk_R_n hR; have hJx := (tk_J_of hI).1; have hJm := (tk_J_of hIm).1; have hshb := tk_shr_shb hI.1 hI.2.1 (tk_I5s hI).2.2.2.1; have hshe := tk_shr_EE hE hI; have hQE := tk_EQ_of hE
  have hM1 := tk_ask_m hf1
  have m5 : μ1 96 5 = μ 1 2 := by rw [hf1 _ _ (by omega), e3]
  have htb := tk_tot_bd hJx hshb
  have hwb := tk_rw_bd hJx hshb (c := c) ht
  have hrw : tk_rw (tk_shr (tk_hw 1 μ)) (tk_hw 1 μ) c = if tk_rd (tk_shr (tk_hw 1 μ)) (tk_hw 1 μ) c = 1 then tk_we (tk_shr (tk_hw 1 μ)) (tk_hw 1 μ) c else 0 := rfl
  refine m_odds_a (by rw [m5]; exact hm) (by rw [m5]; exact ht) hp2 (by rw [tk_mv_f1 hf1 (by omega)]; exact tk_I5s hIm) (fun μ3 hf3 hL3 => ?_)
  rw [tk_mv_f1 hf1 (by omega)] at hL3
  obtain ⟨hR3, hM3⟩ := tk_ask hR hf1 hf3
  have q5 : μ3 96 5 = μ 1 2 := by rw [← e3]; exact congrFun (congrFun hM3 0) 2
  refine m_total (b := 99999) (sh := tk_shr (tk_mv μ)) (by rw [hM3]; exact hJm) hL3.2 (by rw [hshe]; exact hshb) ?_
  rw [hM3, hshe, tk_tot_eq hQE]
  by_cases h0 : tk_tot (tk_shr (tk_hw 1 μ)) (tk_hw 1 μ) = 0
  · simp [h0]
    rw [hr0 h0]
    exact hK _ _ hR3
  · have hr1 := hr1 (by omega)
    simp [h0]
    have fin : tkF_X7_partOf [tk_rw (tk_shr (tk_hw 1 μ)) (tk_hw 1 μ) c, tk_tot (tk_shr (tk_hw 1 μ)) (tk_hw 1 μ), p] (fun r' μ2 => K r r' μ2) μ3 := by
      refine m_partOf (by omega) (by omega) ?_
      rw [← hr1]
      exact hK _ _ hR3
    refine m_isReady (b := 99999) (sh := tk_shr (tk_mv μ)) (by rw [hM3]; exact hJm) hL3.2 (by rw [hshe]; exact hshb) ⟨ht.1, by rw [q5]; exact ht.2⟩ ?_
    rw [hM3, hshe, tk_rd_eq hQE ht]
    rcases tk_rd_01 (sh := tk_shr (tk_hw 1 μ)) (S := tk_hw 1 μ) (c := c) with hh | hh
    · rw [hh]
      simp
      rw [hrw, hh] at fin
      simpa using fin
    · rw [hh]
      simp
      refine m_weightOf (b := 99999) (sh := tk_shr (tk_mv μ)) (by rw [hM3]; exact hJm) hL3.2 (by rw [hshe]; exact hshb) ⟨ht.1, by rw [q5]; exact ht.2⟩ ?_
      rw [hM3, hshe, tk_we_eq hQE ht]
      rw [hrw, hh] at fin
      simpa using fin
theorem x_odds_a {F1 F2 F3 : tk_F} {c p : Int} {μ : tk_M} {Q : Int → tk_M → Prop} (ht : 0 ≤ c ∧ c < μ 1 2) (h8 : c < 8) (hp : p = 0 ∨ p = 1) (hF : F3 [21] (fun _ μ1 => F2 [21, c] (fun x μ2 => if x = 0 then F1 [0, μ2 21 4, p] Q μ2 else F1 [μ2 22 c, μ2 21 4, p] Q μ2) μ1) μ) : (tk_fn [2, 0, 0] (tk_sq (tk_if (tk_or (tk_not (tk_zne (tk_cv 2 tkF_X2_hasClient [(tk_gr 6 (1) (tk_loc 0)), (tk_loc 1)]))) (tk_not (tk_zne (tk_cs tkF_X6_isPart [(tk_loc 2)])))) (tk_re (tk_lit (-9223372036854775808))) tk_sk) (tk_sq (tk_xp (tk_cv 0 F3 [(tk_gr 6 (21) (tk_loc 0))])) (tk_re (tk_cs F1 [(tk_ter (tk_zne (tk_cv 0 F2 [(tk_gr 6 (21) (tk_loc 0)), (tk_loc 1)])) (tk_ald 1 (tk_gr 0 (1) (tk_gr 6 (21) (tk_loc 0))) (tk_loc 1)) (tk_lit (0))), (tk_gf 0 4 (tk_gr 6 (21) (tk_loc 0))), (tk_loc 2)]))))) [0, c, p] Q μ := by
  simp [tk_fn, tk_env, tk_sq, tk_sk, tk_if, tk_re, tk_rez, tk_rev, tk_xp, tk_se, tk_pf, tk_pfz, tk_pfo, tk_as, tk_asz, tk_asb, tk_aso, tk_cpy, tk_sw, tk_swc, tk_lit, tk_loc, tk_u1, tk_bin, tk_dv, tk_gf, tk_gr, tk_gn, tk_ald, tk_aldq, tk_aln, tk_unl, tk_una, tk_ter, tk_args, tk_cs, tk_cv, tk_ceq, tk_cne, tk_clt, tk_cge, tk_cgt, tk_cle, tk_zeq, tk_zne, tk_zlt, tk_zge, tk_zgt, tk_zle, tk_and, tk_or, tk_not, tk_ct2, tk_isC, List.headD_cons, tk_up, tk_sca, tk_scl, x_hasClient, tk_bo_0, ht.1, ht.2, x_isPart, hp, tk_al_2, tk_al_3, tk_al_4, tk_al_5, tk_al_6, tk_al_7, tk_al_8, tk_al_9, tk_al_10, tk_al_11, tk_al_13, tk_al_14, tk_al_16, tk_al_17, tk_al_19, tk_al_20, tk_al_22, tk_al_24, tk_al_25, tk_al_26, tk_al_27, tk_al_28, tk_al_29, tk_al_30, tk_al_32, tk_al_33, tk_al_34, tk_al_35, tk_al_36, tk_al_37, tk_al_38, tk_al_39, tk_al_40, tk_al_41, tk_al_43, tk_al_44, tk_al_46, tk_al_47, tk_al_49, tk_al_50, tk_al_52, tk_al_54, tk_al_55, tk_al_56, tk_al_57, tk_al_58, tk_al_59, tk_al_60, tk_al_62, tk_al_63, tk_al_64, tk_al_65, tk_al_66, tk_al_67, tk_al_68, tk_al_69, tk_al_70, tk_al_71, tk_al_73, tk_al_74, tk_al_76, tk_al_77, tk_al_79, tk_al_80, tk_al_81, tk_al_83, tk_al_85, tk_al_87, tk_al_89, tk_al_91, tk_al_93, tk_al_95, tk_al_97, tk_al_98, tk_al_99, tk_al_100, tk_al_101, tk_al_102, tk_al_103, tk_al_104, tk_al_105, tk_al_106, tk_al_107, tk_al_108, tk_al_109, tk_al_110, tk_al_111, tk_al_112, tk_al_113, tk_al_114, tk_al_115, tk_al_116, tk_al_117, tk_al_118, tk_al_119, tk_al_120, tk_al_121, tk_al_122, tk_al_123, tk_al_124, tk_al_125, tk_al_126, tk_al_127, tk_al_128, tk_al_129, h8, show ¬ μ 1 2 ≤ c from by omega]
  exact hF
theorem c_odds_n {F1 F2 F3 F4 G1 G2 G3 : tk_F} {c p : Int} {μ : tk_M} {K : Int → Int → tk_M → Prop} (hm : 0 ≤ μ 1 2 ∧ μ 1 2 ≤ 8) (e3 : μ 96 5 = μ 1 2) (hn : ¬ ((0 ≤ c ∧ c < μ 1 2) ∧ (p = 0 ∨ p = 1))) (hK : K (-9223372036854775808) (-9223372036854775808) (tk_set μ 96 24 0)) : (tk_fn [2, 0, 0] (tk_sq (tk_if (tk_or (tk_not (tk_zne (tk_cv 2 tkF_X2_hasClient [(tk_gr 6 (1) (tk_loc 0)), (tk_loc 1)]))) (tk_not (tk_zne (tk_cs tkF_X6_isPart [(tk_loc 2)])))) (tk_re (tk_lit (-9223372036854775808))) tk_sk) (tk_sq (tk_xp (tk_cv 0 G3 [(tk_gr 6 (21) (tk_loc 0))])) (tk_re (tk_cs G1 [(tk_ter (tk_zne (tk_cv 0 G2 [(tk_gr 6 (21) (tk_loc 0)), (tk_loc 1)])) (tk_ald 1 (tk_gr 0 (1) (tk_gr 6 (21) (tk_loc 0))) (tk_loc 1)) (tk_lit (0))), (tk_gf 0 4 (tk_gr 6 (21) (tk_loc 0))), (tk_loc 2)]))))) [0, c, p] (fun r μ1 => (tk_fn [2, 0, 0] (tk_sq (tk_pf 7 24 (tk_loc 0) (tk_lit (0))) (tk_sq (tk_if (tk_or (tk_not (tk_zne (tk_cv 7 tkF_X7_isClient [(tk_loc 0), (tk_loc 1)]))) (tk_not (tk_zne (tk_cs tkF_X7_in [(tk_loc 2), (tk_lit (0)), (tk_lit (1))])))) (tk_re (tk_lit (-9223372036854775808))) tk_sk) (tk_sq (tk_xp (tk_cv 7 tkF_X7_layShares [(tk_loc 0)])) (tk_sq (tk_se 3 (tk_cv 7 F3 [(tk_loc 0)])) (tk_re (tk_ter (tk_ceq (tk_loc 3) (tk_lit (0))) (tk_lit (-9223372036854775808)) (tk_cs F1 [(tk_ter (tk_zne (tk_cv 7 F4 [(tk_loc 0), (tk_loc 1)])) (tk_cv 7 F2 [(tk_loc 0), (tk_loc 1)]) (tk_lit (0))), (tk_loc 3), (tk_loc 2)])))))))) [96, c, p] (fun r' μ2 => K r r' μ2) μ1) μ := by
  by_cases ht : 0 ≤ c ∧ c < μ 1 2
  · have hp : ¬ (p = 0 ∨ p = 1) := fun z => hn ⟨ht, z⟩
    have hp2 : ¬ (0 ≤ p ∧ p ≤ 1) := by omega
    simp [tk_fn, tk_env, tk_sq, tk_sk, tk_if, tk_re, tk_rez, tk_rev, tk_xp, tk_se, tk_pf, tk_pfz, tk_pfo, tk_as, tk_asz, tk_asb, tk_aso, tk_cpy, tk_sw, tk_swc, tk_lit, tk_loc, tk_u1, tk_bin, tk_dv, tk_gf, tk_gr, tk_gn, tk_ald, tk_aldq, tk_aln, tk_unl, tk_una, tk_ter, tk_args, tk_cs, tk_cv, tk_ceq, tk_cne, tk_clt, tk_cge, tk_cgt, tk_cle, tk_zeq, tk_zne, tk_zlt, tk_zge, tk_zgt, tk_zle, tk_and, tk_or, tk_not, tk_ct2, tk_isC, List.headD_cons, tk_up, tk_sca, tk_scl, x_hasClient, tk_bo_0, ht.1, ht.2, x_isPart, hp, show ¬ μ 1 2 ≤ c from by omega, m_isClient, m_in, tk_set_j, e3, hm.1, hm.2, hp2, -not_and, -not_or]
    exact hK
  · simp [tk_fn, tk_env, tk_sq, tk_sk, tk_if, tk_re, tk_rez, tk_rev, tk_xp, tk_se, tk_pf, tk_pfz, tk_pfo, tk_as, tk_asz, tk_asb, tk_aso, tk_cpy, tk_sw, tk_swc, tk_lit, tk_loc, tk_u1, tk_bin, tk_dv, tk_gf, tk_gr, tk_gn, tk_ald, tk_aldq, tk_aln, tk_unl, tk_una, tk_ter, tk_args, tk_cs, tk_cv, tk_ceq, tk_cne, tk_clt, tk_cge, tk_cgt, tk_cle, tk_zeq, tk_zne, tk_zlt, tk_zge, tk_zgt, tk_zle, tk_and, tk_or, tk_not, tk_ct2, tk_isC, List.headD_cons, tk_up, tk_sca, tk_scl, x_hasClient, tk_bo_0, ht, m_isClient, tk_set_j, e3, hm.1, hm.2, -not_and]
    exact hK
theorem c_odds (c p : Int) : tk_cp tkF_X6_odds tkF_X7_odds [c, p] := by
  intro μ hR K hK; have hT := tk_R_thr (v := 0) hR; obtain ⟨hE, hI, hIm⟩ := tk_R_S hR; obtain ⟨e1, e2, e3, e4, e5, e6, e7, e8, e9, hc, hn, hm, hk⟩ := tk_R_n hR; have hJx := (tk_J_of hI).1; have hJm := (tk_J_of hIm).1; have hshb := tk_shr_shb hI.1 hI.2.1 (tk_I5s hI).2.2.2.1; have hshe := tk_shr_EE hE hI; have hQE := tk_EQ_of hE
  by_cases hn : (0 ≤ c ∧ c < μ 1 2) ∧ (p = 0 ∨ p = 1)
  · obtain ⟨ht, hp⟩ := hn
    have hp2 : 0 ≤ p ∧ p ≤ 1 := by omega
    refine x_odds_a ht (by omega) hp ?_
    refine x_refresh1 (tk_I5s hI) (tk_J_w hJx (by omega)) (fun μ1 hf1 hs1 hd1 hw1 ha1 => ?_); have hT1 : tk_hw 1 μ1 = tk_hw 1 μ := tk_hw_f1 hf1 (by omega); have hM1 := tk_ask_m hf1
    have d2 : μ1 1 2 = μ 1 2 := hf1 _ _ (by omega)
    have h8 : c < 8 := by omega
    have z1 : μ1 21 4 = tk_tot (tk_shr (tk_hw 1 μ)) (tk_hw 1 μ1) := hd1.2.2.2
    rw [hT1] at z1
    have z2 : μ1 22 c = tk_we (tk_shr (tk_hw 1 μ)) (tk_hw 1 μ1) c := hd1.1 c ht.1 (by rw [d2]; exact ht.2)
    rw [hT1] at z2
    have htb := tk_tot_bd hJx hshb
    have hwb := tk_rw_bd hJx hshb (c := c) ht
    have hrw : tk_rw (tk_shr (tk_hw 1 μ)) (tk_hw 1 μ) c = if tk_rd (tk_shr (tk_hw 1 μ)) (tk_hw 1 μ) c = 1 then tk_we (tk_shr (tk_hw 1 μ)) (tk_hw 1 μ) c else 0 := rfl
    have fx : tkF_X6_fraction [tk_rw (tk_shr (tk_hw 1 μ)) (tk_hw 1 μ) c, tk_tot (tk_shr (tk_hw 1 μ)) (tk_hw 1 μ), p] (fun r μ2 => tkF_X7_odds [96, c, p] (fun r' μ3 => K r r' μ3) μ2) μ1 := by
      refine x_fraction (by omega) (by omega) (fun h0 => c_odds_m hR hK hf1 ht hp2 (fun _ => rfl) (fun z => by omega)) (fun h0 => c_odds_m hR hK hf1 ht hp2 (fun z => by omega) (fun _ => rfl))
    rw [x_isReady1 hd1 ⟨ht.1, by rw [d2]; exact ht.2⟩ (by rw [d2]; exact hm.2), hT1, z1, z2]
    rcases tk_rd_01 (sh := tk_shr (tk_hw 1 μ)) (S := tk_hw 1 μ) (c := c) with hh | hh
    · rw [hh, if_pos rfl]
      rw [hrw, hh, if_neg (by omega)] at fx
      exact fx
    · rw [hh, if_neg (by omega)]
      rw [hrw, hh, if_pos rfl] at fx
      exact fx
  · exact c_odds_n hm e3 hn (hK _ _ hT)
