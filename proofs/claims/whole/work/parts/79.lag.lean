/-! ===== Layer 2: lag ===== -/
theorem tk_qp_d {b : Int} {sh : Int → Int} {S : tk_M} (h : tk_JL b S) {c : Int} (hc : 0 ≤ c ∧ c < S 0 2) : (S 6 c ≤ tk_qp sh S 6 c ∧ tk_qp sh S 6 c ≤ S 6 c + 10) ∧ (S 0 3 ≤ tk_qp sh S 0 3 ∧ tk_qp sh S 0 3 ≤ S 0 3 + 10) := by
  unfold tk_qp
  rcases tk_nxt_in (sh := sh) (S := S) h.1.1.1 with h1 | ⟨h1, h2, h3⟩
  · rw [h1, if_pos (by omega)]
    unfold tk_spn
    rw [if_pos (by omega)]
    simp [tk_set]
    omega
  · rw [if_neg (by omega)]
    have hst := tk_std_bd (tk_rd_1 h3).2.1
    have hJ := tk_J_gro h ⟨h1, h2⟩ hst
    generalize tk_nxt sh S = d at h1 h2 hst hJ ⊢
    generalize tk_std sh S d = st at hst hJ ⊢
    have hp := tk_prt_bd hJ (c := d) ⟨h1, by rw [tk_gro_02]; exact h2⟩
    have e6 : ∀ j, tk_gro S d st 6 j = S 6 j := fun j => tk_gro_o (by omega) (by omega)
    have e3 : tk_gro S d st 0 3 = S 0 3 := tk_gro_o (by omega) (by omega)
    generalize tk_gro S d st = U at hp e6 e3 ⊢
    unfold tk_spn
    rw [if_neg (by omega)]
    generalize tk_prt U d = q at hp ⊢
    by_cases hcd : c = d
    · subst hcd
      simp [tk_set, e6, e3]
      omega
    · simp [tk_set, e6, e3, hcd]
      omega
theorem tk_gp_d {b : Int} {sh : Int → Int} {S : tk_M} (h : tk_JL b S) {c : Int} (hc : 0 ≤ c ∧ c < S 0 2) (k : Nat) : (S 6 c ≤ tk_gp sh S k 6 c ∧ tk_gp sh S k 6 c ≤ S 6 c + 10 * k) ∧ (S 0 3 ≤ tk_gp sh S k 0 3 ∧ tk_gp sh S k 0 3 ≤ S 0 3 + 10 * k) := by
  induction k with
  | zero => unfold tk_gp; omega
  | succ k ih =>
    have hJ := tk_gp_J (sh := sh) h k
    have h2 := tk_qp_d (sh := sh) hJ (c := c) (by rw [tk_gp_o (by omega) (by omega) (by omega) (by omega)]; exact hc)
    unfold tk_gp
    omega
theorem x_lag_a {G1 G2 G3 : tk_F} {c n p : Int} {μ : tk_M} {Q : Int → tk_M → Prop} (hc : 0 ≤ c ∧ c < μ 1 2) (h8 : c < 8) (hn : 0 ≤ n ∧ n ≤ 40) (hp : p = 0 ∨ p = 1) (hF : G1 [0] (fun _ μ1 => if μ1 51 4 ≤ 0 then Q (-9223372036854775808) μ1 else G2 [51, n] (fun _ μ2 => G3 [tk_lsub (tk_lmul (tk_isub (μ2 37 c) (μ2 7 c)) (μ1 51 4)) (tk_lmul (μ1 52 c) (tk_isub (μ2 31 3) (μ2 1 3))), μ1 51 4, p] Q μ2) μ1) μ) : (tk_fn [2, 0, 0, 0] (tk_sq (tk_if (tk_or (tk_or (tk_not (tk_zne (tk_cv 2 tkF_X2_hasClient [(tk_gr 6 (1) (tk_loc 0)), (tk_loc 1)]))) (tk_not (tk_zne (tk_cs tkF_X6_isRun [(tk_loc 2)])))) (tk_not (tk_zne (tk_cs tkF_X6_isPart [(tk_loc 3)])))) (tk_re (tk_lit (-9223372036854775808))) tk_sk) (tk_sq (tk_xp (tk_cv 6 G1 [(tk_loc 0)])) (tk_sq (tk_se 4 (tk_ald 1 (tk_gr 0 (1) (tk_gr 6 (51) (tk_loc 0))) (tk_loc 1))) (tk_sq (tk_se 6 (tk_gf 0 4 (tk_gr 6 (51) (tk_loc 0)))) (tk_sq (tk_if (tk_cle (tk_loc 6) (tk_lit (0))) (tk_re (tk_lit (-9223372036854775808))) tk_sk) (tk_sq (tk_xp (tk_cv 0 G2 [(tk_gr 6 (51) (tk_loc 0)), (tk_loc 2)])) (tk_sq (tk_se 8 (tk_bin tk_isub (tk_ald 0 (tk_gr 2 (6) (tk_gr 6 (31) (tk_loc 0))) (tk_loc 1)) (tk_ald 0 (tk_gr 2 (6) (tk_gr 6 (1) (tk_loc 0))) (tk_loc 1)))) (tk_sq (tk_se 10 (tk_bin tk_isub (tk_gf 2 3 (tk_gr 6 (31) (tk_loc 0))) (tk_gf 2 3 (tk_gr 6 (1) (tk_loc 0))))) (tk_re (tk_cs G3 [(tk_bin tk_lsub (tk_bin tk_lmul (tk_loc 8) (tk_loc 6)) (tk_bin tk_lmul (tk_loc 4) (tk_loc 10))), (tk_loc 6), (tk_loc 3)]))))))))))) [0, c, n, p] Q μ := by
  simp [tk_fn, tk_env, tk_sq, tk_sk, tk_if, tk_re, tk_rez, tk_rev, tk_xp, tk_se, tk_pf, tk_pfz, tk_pfo, tk_as, tk_asz, tk_asb, tk_aso, tk_cpy, tk_sw, tk_swc, tk_lit, tk_loc, tk_u1, tk_bin, tk_dv, tk_gf, tk_gr, tk_gn, tk_ald, tk_aldq, tk_aln, tk_unl, tk_una, tk_ter, tk_args, tk_cs, tk_cv, tk_ceq, tk_cne, tk_clt, tk_cge, tk_cgt, tk_cle, tk_zeq, tk_zne, tk_zlt, tk_zge, tk_zgt, tk_zle, tk_and, tk_or, tk_not, tk_ct2, tk_isC, List.headD_cons, tk_up, tk_sca, tk_scl, x_hasClient, x_isRun, x_isPart, tk_bo_0, hc.1, hc.2, hn.1, hn.2, hp, tk_al_2, tk_al_3, tk_al_4, tk_al_5, tk_al_6, tk_al_7, tk_al_8, tk_al_9, tk_al_10, tk_al_11, tk_al_13, tk_al_14, tk_al_16, tk_al_17, tk_al_19, tk_al_20, tk_al_22, tk_al_24, tk_al_25, tk_al_26, tk_al_27, tk_al_28, tk_al_29, tk_al_30, tk_al_32, tk_al_33, tk_al_34, tk_al_35, tk_al_36, tk_al_37, tk_al_38, tk_al_39, tk_al_40, tk_al_41, tk_al_43, tk_al_44, tk_al_46, tk_al_47, tk_al_49, tk_al_50, tk_al_52, tk_al_54, tk_al_55, tk_al_56, tk_al_57, tk_al_58, tk_al_59, tk_al_60, tk_al_62, tk_al_63, tk_al_64, tk_al_65, tk_al_66, tk_al_67, tk_al_68, tk_al_69, tk_al_70, tk_al_71, tk_al_73, tk_al_74, tk_al_76, tk_al_77, tk_al_79, tk_al_80, tk_al_81, tk_al_83, tk_al_85, tk_al_87, tk_al_89, tk_al_91, tk_al_93, tk_al_95, tk_al_97, tk_al_98, tk_al_99, tk_al_100, tk_al_101, tk_al_102, tk_al_103, tk_al_104, tk_al_105, tk_al_106, tk_al_107, tk_al_108, tk_al_109, tk_al_110, tk_al_111, tk_al_112, tk_al_113, tk_al_114, tk_al_115, tk_al_116, tk_al_117, tk_al_118, tk_al_119, tk_al_120, tk_al_121, tk_al_122, tk_al_123, tk_al_124, tk_al_125, tk_al_126, tk_al_127, tk_al_128, tk_al_129, h8, show ¬ μ 1 2 ≤ c from by omega]
  exact hF
theorem m_lag_a {F1 F2 F3 F4 F5 F6 F7 : tk_F} {c n p : Int} {μ : tk_M} {Q : Int → tk_M → Prop} (hm : 0 ≤ μ 96 5 ∧ μ 96 5 ≤ 8) (hc : 0 ≤ c ∧ c < μ 96 5) (h8 : c < 8) (hn : 0 ≤ n ∧ n ≤ 40) (hp : 0 ≤ p ∧ p ≤ 1) (hF : F1 [96] (fun _ μ1 => F2 [96] (fun t μ2 => if t = 0 then Q (-9223372036854775808) μ2 else F3 [96, c] (fun w μ3 => F4 [96] (fun _ μ4 => F5 [96, n] (fun _ μ5 => F6 [96] (fun _ μ6 => F7 [tk_lsub (tk_lmul (tk_iadd (tk_ineg (μ4 102 c)) (μ5 102 c)) t) (tk_lmul w (tk_iadd (tk_ineg (μ4 96 13)) (μ5 96 13))), t, p] Q μ6) μ5) μ4) μ3) μ2) μ1) (tk_set μ 96 24 0)) : (tk_fn [2, 0, 0, 0] (tk_sq (tk_pf 7 24 (tk_loc 0) (tk_lit (0))) (tk_sq (tk_if (tk_or (tk_or (tk_not (tk_zne (tk_cv 7 tkF_X7_isClient [(tk_loc 0), (tk_loc 1)]))) (tk_not (tk_zne (tk_cs tkF_X7_in [(tk_loc 2), (tk_lit (0)), (tk_lit (40))])))) (tk_not (tk_zne (tk_cs tkF_X7_in [(tk_loc 3), (tk_lit (0)), (tk_lit (1))])))) (tk_re (tk_lit (-9223372036854775808))) tk_sk) (tk_sq (tk_xp (tk_cv 7 F1 [(tk_loc 0)])) (tk_sq (tk_se 4 (tk_cv 7 F2 [(tk_loc 0)])) (tk_sq (tk_if (tk_ceq (tk_loc 4) (tk_lit (0))) (tk_re (tk_lit (-9223372036854775808))) tk_sk) (tk_sq (tk_se 6 (tk_cv 7 F3 [(tk_loc 0), (tk_loc 1)])) (tk_sq (tk_xp (tk_cv 7 F4 [(tk_loc 0)])) (tk_sq (tk_se 8 (tk_u1 tk_ineg (tk_ald 0 (tk_gr 7 (6) (tk_loc 0)) (tk_loc 1)))) (tk_sq (tk_se 9 (tk_u1 tk_ineg (tk_gf 7 13 (tk_loc 0)))) (tk_sq (tk_xp (tk_cv 7 F5 [(tk_loc 0), (tk_loc 2)])) (tk_sq (tk_se 8 (tk_bin tk_iadd (tk_loc 8) (tk_ald 0 (tk_gr 7 (6) (tk_loc 0)) (tk_loc 1)))) (tk_sq (tk_se 9 (tk_bin tk_iadd (tk_loc 9) (tk_gf 7 13 (tk_loc 0)))) (tk_sq (tk_xp (tk_cv 7 F6 [(tk_loc 0)])) (tk_re (tk_cs F7 [(tk_bin tk_lsub (tk_bin tk_lmul (tk_loc 8) (tk_loc 4)) (tk_bin tk_lmul (tk_loc 6) (tk_loc 9))), (tk_loc 4), (tk_loc 3)])))))))))))))))) [96, c, n, p] Q μ := by
  simp [tk_fn, tk_env, tk_sq, tk_sk, tk_if, tk_re, tk_rez, tk_rev, tk_xp, tk_se, tk_pf, tk_pfz, tk_pfo, tk_as, tk_asz, tk_asb, tk_aso, tk_cpy, tk_sw, tk_swc, tk_lit, tk_loc, tk_u1, tk_bin, tk_dv, tk_gf, tk_gr, tk_gn, tk_ald, tk_aldq, tk_aln, tk_unl, tk_una, tk_ter, tk_args, tk_cs, tk_cv, tk_ceq, tk_cne, tk_clt, tk_cge, tk_cgt, tk_cle, tk_zeq, tk_zne, tk_zlt, tk_zge, tk_zgt, tk_zle, tk_and, tk_or, tk_not, tk_ct2, tk_isC, List.headD_cons, tk_up, tk_sca, tk_scl, m_isClient, m_in, tk_set_j, hm.1, hm.2, tk_bo_0, hc.1, hc.2, hn.1, hn.2, hp.1, hp.2, tk_al_2, tk_al_3, tk_al_4, tk_al_5, tk_al_6, tk_al_7, tk_al_8, tk_al_9, tk_al_10, tk_al_11, tk_al_13, tk_al_14, tk_al_16, tk_al_17, tk_al_19, tk_al_20, tk_al_22, tk_al_24, tk_al_25, tk_al_26, tk_al_27, tk_al_28, tk_al_29, tk_al_30, tk_al_32, tk_al_33, tk_al_34, tk_al_35, tk_al_36, tk_al_37, tk_al_38, tk_al_39, tk_al_40, tk_al_41, tk_al_43, tk_al_44, tk_al_46, tk_al_47, tk_al_49, tk_al_50, tk_al_52, tk_al_54, tk_al_55, tk_al_56, tk_al_57, tk_al_58, tk_al_59, tk_al_60, tk_al_62, tk_al_63, tk_al_64, tk_al_65, tk_al_66, tk_al_67, tk_al_68, tk_al_69, tk_al_70, tk_al_71, tk_al_73, tk_al_74, tk_al_76, tk_al_77, tk_al_79, tk_al_80, tk_al_81, tk_al_83, tk_al_85, tk_al_87, tk_al_89, tk_al_91, tk_al_93, tk_al_95, tk_al_97, tk_al_98, tk_al_99, tk_al_100, tk_al_101, tk_al_102, tk_al_103, tk_al_104, tk_al_105, tk_al_106, tk_al_107, tk_al_108, tk_al_109, tk_al_110, tk_al_111, tk_al_112, tk_al_113, tk_al_114, tk_al_115, tk_al_116, tk_al_117, tk_al_118, tk_al_119, tk_al_120, tk_al_121, tk_al_122, tk_al_123, tk_al_124, tk_al_125, tk_al_126, tk_al_127, tk_al_128, tk_al_129, h8, show ¬ μ 96 5 ≤ c from by omega]
  exact hF
theorem x_lag_n {G1 G2 G3 : tk_F} {c n p : Int} {μ : tk_M} {Q : Int → tk_M → Prop} (hno : ¬ ((0 ≤ c ∧ c < μ 1 2) ∧ (0 ≤ n ∧ n ≤ 40) ∧ (p = 0 ∨ p = 1))) (hQ : Q (-9223372036854775808) μ) : (tk_fn [2, 0, 0, 0] (tk_sq (tk_if (tk_or (tk_or (tk_not (tk_zne (tk_cv 2 tkF_X2_hasClient [(tk_gr 6 (1) (tk_loc 0)), (tk_loc 1)]))) (tk_not (tk_zne (tk_cs tkF_X6_isRun [(tk_loc 2)])))) (tk_not (tk_zne (tk_cs tkF_X6_isPart [(tk_loc 3)])))) (tk_re (tk_lit (-9223372036854775808))) tk_sk) (tk_sq (tk_xp (tk_cv 6 G1 [(tk_loc 0)])) (tk_sq (tk_se 4 (tk_ald 1 (tk_gr 0 (1) (tk_gr 6 (51) (tk_loc 0))) (tk_loc 1))) (tk_sq (tk_se 6 (tk_gf 0 4 (tk_gr 6 (51) (tk_loc 0)))) (tk_sq (tk_if (tk_cle (tk_loc 6) (tk_lit (0))) (tk_re (tk_lit (-9223372036854775808))) tk_sk) (tk_sq (tk_xp (tk_cv 0 G2 [(tk_gr 6 (51) (tk_loc 0)), (tk_loc 2)])) (tk_sq (tk_se 8 (tk_bin tk_isub (tk_ald 0 (tk_gr 2 (6) (tk_gr 6 (31) (tk_loc 0))) (tk_loc 1)) (tk_ald 0 (tk_gr 2 (6) (tk_gr 6 (1) (tk_loc 0))) (tk_loc 1)))) (tk_sq (tk_se 10 (tk_bin tk_isub (tk_gf 2 3 (tk_gr 6 (31) (tk_loc 0))) (tk_gf 2 3 (tk_gr 6 (1) (tk_loc 0))))) (tk_re (tk_cs G3 [(tk_bin tk_lsub (tk_bin tk_lmul (tk_loc 8) (tk_loc 6)) (tk_bin tk_lmul (tk_loc 4) (tk_loc 10))), (tk_loc 6), (tk_loc 3)]))))))))))) [0, c, n, p] Q μ := by
  by_cases hc : 0 ≤ c ∧ c < μ 1 2
  · by_cases hn : 0 ≤ n ∧ n ≤ 40
    · have hp : ¬ (p = 0 ∨ p = 1) := fun z => hno ⟨hc, hn, z⟩
      simp [tk_fn, tk_env, tk_sq, tk_sk, tk_if, tk_re, tk_rez, tk_rev, tk_xp, tk_se, tk_pf, tk_pfz, tk_pfo, tk_as, tk_asz, tk_asb, tk_aso, tk_cpy, tk_sw, tk_swc, tk_lit, tk_loc, tk_u1, tk_bin, tk_dv, tk_gf, tk_gr, tk_gn, tk_ald, tk_aldq, tk_aln, tk_unl, tk_una, tk_ter, tk_args, tk_cs, tk_cv, tk_ceq, tk_cne, tk_clt, tk_cge, tk_cgt, tk_cle, tk_zeq, tk_zne, tk_zlt, tk_zge, tk_zgt, tk_zle, tk_and, tk_or, tk_not, tk_ct2, tk_isC, List.headD_cons, tk_up, tk_sca, tk_scl, x_hasClient, x_isRun, x_isPart, tk_bo_0, hc.1, hc.2, hn.1, hn.2, hp, show ¬ μ 1 2 ≤ c from by omega, -not_and, -not_or]
      exact hQ
    · simp [tk_fn, tk_env, tk_sq, tk_sk, tk_if, tk_re, tk_rez, tk_rev, tk_xp, tk_se, tk_pf, tk_pfz, tk_pfo, tk_as, tk_asz, tk_asb, tk_aso, tk_cpy, tk_sw, tk_swc, tk_lit, tk_loc, tk_u1, tk_bin, tk_dv, tk_gf, tk_gr, tk_gn, tk_ald, tk_aldq, tk_aln, tk_unl, tk_una, tk_ter, tk_args, tk_cs, tk_cv, tk_ceq, tk_cne, tk_clt, tk_cge, tk_cgt, tk_cle, tk_zeq, tk_zne, tk_zlt, tk_zge, tk_zgt, tk_zle, tk_and, tk_or, tk_not, tk_ct2, tk_isC, List.headD_cons, tk_up, tk_sca, tk_scl, x_hasClient, x_isRun, tk_bo_0, hc.1, hc.2, hn, show ¬ μ 1 2 ≤ c from by omega, -not_and]
      exact hQ
  · simp [tk_fn, tk_env, tk_sq, tk_sk, tk_if, tk_re, tk_rez, tk_rev, tk_xp, tk_se, tk_pf, tk_pfz, tk_pfo, tk_as, tk_asz, tk_asb, tk_aso, tk_cpy, tk_sw, tk_swc, tk_lit, tk_loc, tk_u1, tk_bin, tk_dv, tk_gf, tk_gr, tk_gn, tk_ald, tk_aldq, tk_aln, tk_unl, tk_una, tk_ter, tk_args, tk_cs, tk_cv, tk_ceq, tk_cne, tk_clt, tk_cge, tk_cgt, tk_cle, tk_zeq, tk_zne, tk_zlt, tk_zge, tk_zgt, tk_zle, tk_and, tk_or, tk_not, tk_ct2, tk_isC, List.headD_cons, tk_up, tk_sca, tk_scl, x_hasClient, tk_bo_0, hc, -not_and]
    exact hQ
theorem m_lag_n {F1 F2 F3 F4 F5 F6 F7 : tk_F} {c n p : Int} {μ : tk_M} {Q : Int → tk_M → Prop} (hm : 0 ≤ μ 96 5 ∧ μ 96 5 ≤ 8) (hno : ¬ ((0 ≤ c ∧ c < μ 96 5) ∧ (0 ≤ n ∧ n ≤ 40) ∧ (p = 0 ∨ p = 1))) (hQ : Q (-9223372036854775808) (tk_set μ 96 24 0)) : (tk_fn [2, 0, 0, 0] (tk_sq (tk_pf 7 24 (tk_loc 0) (tk_lit (0))) (tk_sq (tk_if (tk_or (tk_or (tk_not (tk_zne (tk_cv 7 tkF_X7_isClient [(tk_loc 0), (tk_loc 1)]))) (tk_not (tk_zne (tk_cs tkF_X7_in [(tk_loc 2), (tk_lit (0)), (tk_lit (40))])))) (tk_not (tk_zne (tk_cs tkF_X7_in [(tk_loc 3), (tk_lit (0)), (tk_lit (1))])))) (tk_re (tk_lit (-9223372036854775808))) tk_sk) (tk_sq (tk_xp (tk_cv 7 F1 [(tk_loc 0)])) (tk_sq (tk_se 4 (tk_cv 7 F2 [(tk_loc 0)])) (tk_sq (tk_if (tk_ceq (tk_loc 4) (tk_lit (0))) (tk_re (tk_lit (-9223372036854775808))) tk_sk) (tk_sq (tk_se 6 (tk_cv 7 F3 [(tk_loc 0), (tk_loc 1)])) (tk_sq (tk_xp (tk_cv 7 F4 [(tk_loc 0)])) (tk_sq (tk_se 8 (tk_u1 tk_ineg (tk_ald 0 (tk_gr 7 (6) (tk_loc 0)) (tk_loc 1)))) (tk_sq (tk_se 9 (tk_u1 tk_ineg (tk_gf 7 13 (tk_loc 0)))) (tk_sq (tk_xp (tk_cv 7 F5 [(tk_loc 0), (tk_loc 2)])) (tk_sq (tk_se 8 (tk_bin tk_iadd (tk_loc 8) (tk_ald 0 (tk_gr 7 (6) (tk_loc 0)) (tk_loc 1)))) (tk_sq (tk_se 9 (tk_bin tk_iadd (tk_loc 9) (tk_gf 7 13 (tk_loc 0)))) (tk_sq (tk_xp (tk_cv 7 F6 [(tk_loc 0)])) (tk_re (tk_cs F7 [(tk_bin tk_lsub (tk_bin tk_lmul (tk_loc 8) (tk_loc 4)) (tk_bin tk_lmul (tk_loc 6) (tk_loc 9))), (tk_loc 4), (tk_loc 3)])))))))))))))))) [96, c, n, p] Q μ := by
  by_cases hc : 0 ≤ c ∧ c < μ 96 5
  · by_cases hn : 0 ≤ n ∧ n ≤ 40
    · have hp2 : ¬ (0 ≤ p ∧ p ≤ 1) := fun z => hno ⟨hc, hn, by omega⟩
      simp [tk_fn, tk_env, tk_sq, tk_sk, tk_if, tk_re, tk_rez, tk_rev, tk_xp, tk_se, tk_pf, tk_pfz, tk_pfo, tk_as, tk_asz, tk_asb, tk_aso, tk_cpy, tk_sw, tk_swc, tk_lit, tk_loc, tk_u1, tk_bin, tk_dv, tk_gf, tk_gr, tk_gn, tk_ald, tk_aldq, tk_aln, tk_unl, tk_una, tk_ter, tk_args, tk_cs, tk_cv, tk_ceq, tk_cne, tk_clt, tk_cge, tk_cgt, tk_cle, tk_zeq, tk_zne, tk_zlt, tk_zge, tk_zgt, tk_zle, tk_and, tk_or, tk_not, tk_ct2, tk_isC, List.headD_cons, tk_up, tk_sca, tk_scl, m_isClient, m_in, tk_set_j, hm.1, hm.2, tk_bo_0, hc.1, hc.2, hn.1, hn.2, hp2, show ¬ μ 96 5 ≤ c from by omega, -not_and]
      exact hQ
    · simp [tk_fn, tk_env, tk_sq, tk_sk, tk_if, tk_re, tk_rez, tk_rev, tk_xp, tk_se, tk_pf, tk_pfz, tk_pfo, tk_as, tk_asz, tk_asb, tk_aso, tk_cpy, tk_sw, tk_swc, tk_lit, tk_loc, tk_u1, tk_bin, tk_dv, tk_gf, tk_gr, tk_gn, tk_ald, tk_aldq, tk_aln, tk_unl, tk_una, tk_ter, tk_args, tk_cs, tk_cv, tk_ceq, tk_cne, tk_clt, tk_cge, tk_cgt, tk_cle, tk_zeq, tk_zne, tk_zlt, tk_zge, tk_zgt, tk_zle, tk_and, tk_or, tk_not, tk_ct2, tk_isC, List.headD_cons, tk_up, tk_sca, tk_scl, m_isClient, m_in, tk_set_j, hm.1, hm.2, tk_bo_0, hc.1, hc.2, hn, show ¬ μ 96 5 ≤ c from by omega, -not_and]
      exact hQ
  · simp [tk_fn, tk_env, tk_sq, tk_sk, tk_if, tk_re, tk_rez, tk_rev, tk_xp, tk_se, tk_pf, tk_pfz, tk_pfo, tk_as, tk_asz, tk_asb, tk_aso, tk_cpy, tk_sw, tk_swc, tk_lit, tk_loc, tk_u1, tk_bin, tk_dv, tk_gf, tk_gr, tk_gn, tk_ald, tk_aldq, tk_aln, tk_unl, tk_una, tk_ter, tk_args, tk_cs, tk_cv, tk_ceq, tk_cne, tk_clt, tk_cge, tk_cgt, tk_cle, tk_zeq, tk_zne, tk_zlt, tk_zge, tk_zgt, tk_zle, tk_and, tk_or, tk_not, tk_ct2, tk_isC, List.headD_cons, tk_up, tk_sca, tk_scl, m_isClient, tk_set_j, hm.1, hm.2, tk_bo_0, hc, -not_and]
    exact hQ
theorem c_lag (c n p : Int) : tk_cp tkF_X6_lag tkF_X7_lag [c, n, p] := by
  intro μ hR K hK; have hT := tk_R_thr (v := 0) hR; obtain ⟨hE, hI, hIm⟩ := tk_R_S hR; obtain ⟨e1, e2, e3, e4, e5, e6, e7, e8, e9, hc, hn, hm, hk⟩ := tk_R_n hR; have hJx := (tk_J_of hI).1; have hJm := (tk_J_of hIm).1; have hshb := tk_shr_shb hI.1 hI.2.1 (tk_I5s hI).2.2.2.1; have hshe := tk_shr_EE hE hI; have hQE := tk_EQ_of hE
  by_cases hno : ¬ ((0 ≤ c ∧ c < μ 1 2) ∧ (0 ≤ n ∧ n ≤ 40) ∧ (p = 0 ∨ p = 1))
  · exact x_lag_n hno (m_lag_n (by rw [e3]; exact hm) (by rw [e3]; exact hno) (hK _ _ hT))
  obtain ⟨hv, hn2, hp⟩ : (0 ≤ c ∧ c < μ 1 2) ∧ (0 ≤ n ∧ n ≤ 40) ∧ (p = 0 ∨ p = 1) := Classical.byContradiction hno
  have htb := tk_tot_bd hJx hshb
  have hwb := tk_we_bd hJx hshb (c := c) hv
  have hd := tk_gp_d (sh := tk_shr (tk_hw 1 μ)) (tk_J_of hI) (c := c) hv n.toNat
  have g02 : tk_gp (tk_shr (tk_hw 1 μ)) (tk_hw 1 μ) n.toNat 0 2 = μ 1 2 := tk_gp_o (by omega) (by omega) (by omega) (by omega) _
  have hS6 : tk_hw 1 μ 6 c = μ 7 c := rfl
  have hS3 : tk_hw 1 μ 0 3 = μ 1 3 := rfl
  have h7c := (hI.2.2.1 c hv.1 hv.2).2.2.1
  rw [hS6, hS3] at hd h7c
  -- the number above the line
  have hab : ∀ t w g r : Int, (0 ≤ t ∧ t ≤ 9783493923962880) → (0 ≤ w ∧ w ≤ 1222936740495360) → (0 ≤ g ∧ g ≤ 400) → (0 ≤ r ∧ r ≤ 400) → (-9223372036854775807 ≤ tk_lsub (tk_lmul g t) (tk_lmul w r) ∧ tk_lsub (tk_lmul g t) (tk_lmul w r) ≤ 9223372036854775807) := by
    intro t w g r h1 h2 h3 h4
    have p1 : 0 ≤ g * t ∧ g * t ≤ 400 * 9783493923962880 := ⟨Int.mul_nonneg h3.1 h1.1, Int.mul_le_mul h3.2 h1.2 h1.1 (by omega)⟩
    have p2 : 0 ≤ w * r ∧ w * r ≤ 1222936740495360 * 400 := ⟨Int.mul_nonneg h2.1 h4.1, Int.mul_le_mul h2.2 h4.2 h4.1 (by omega)⟩
    rw [tk_lmul_id (by omega) (by omega), tk_lmul_id (by omega) (by omega), tk_lsub_id (by omega) (by omega)]
    omega
  have mod : ∀ (μ2 : tk_M) (r : Int), tk_f1 31 60 μ μ2 → (tk_tot (tk_shr (tk_hw 1 μ)) (tk_hw 1 μ) = 0 → r = -9223372036854775808) → (0 < tk_tot (tk_shr (tk_hw 1 μ)) (tk_hw 1 μ) → r = tk_ldiv (if p = 0 then tk_lsub (tk_lmul (tk_gp (tk_shr (tk_hw 1 μ)) (tk_hw 1 μ) n.toNat 6 c - μ 7 c) (tk_tot (tk_shr (tk_hw 1 μ)) (tk_hw 1 μ))) (tk_lmul (tk_we (tk_shr (tk_hw 1 μ)) (tk_hw 1 μ) c) (tk_gp (tk_shr (tk_hw 1 μ)) (tk_hw 1 μ) n.toNat 0 3 - μ 1 3)) else tk_tot (tk_shr (tk_hw 1 μ)) (tk_hw 1 μ)) ((Nat.gcd (tk_lsub (tk_lmul (tk_gp (tk_shr (tk_hw 1 μ)) (tk_hw 1 μ) n.toNat 6 c - μ 7 c) (tk_tot (tk_shr (tk_hw 1 μ)) (tk_hw 1 μ))) (tk_lmul (tk_we (tk_shr (tk_hw 1 μ)) (tk_hw 1 μ) c) (tk_gp (tk_shr (tk_hw 1 μ)) (tk_hw 1 μ) n.toNat 0 3 - μ 1 3))).natAbs (tk_tot (tk_shr (tk_hw 1 μ)) (tk_hw 1 μ)).toNat : Nat) : Int)) → tkF_X7_lag [96, c, n, p] (fun r' m => K r r' m) μ2 := by
    intro μ2 r hf2 hr0 hr1
    have q5 : μ2 96 5 = μ 1 2 := by rw [hf2 _ _ (by omega), e3]
    have hM2 : tk_mv (tk_set μ2 96 24 0) = tk_mv μ := by rw [tk_mv_ob (by omega), tk_mv_f1 hf2 (by omega)]
    refine m_lag_a (by rw [q5]; exact hm) (by rw [q5]; exact hv) (by omega) hn2 (by omega) ?_
    refine m_layShares (by rw [hM2]; exact tk_I5s hIm) (fun m1 hf1 hL1 => ?_)
    rw [hM2] at hL1
    have hT1 : tk_mv m1 = tk_mv μ := by rw [tk_mv_f1 hf1 (by omega), hM2]
    have hq1 : ∀ o i : Int, ¬ tk_sc2 o i → m1 o i = μ o i := fun o i ho => by
      unfold tk_sc2 at ho
      rw [hf1 o i (by omega)]
      unfold tk_set
      rw [if_neg (by omega)]
      exact hf2 o i (by omega)
    have q15 : m1 96 5 = μ 1 2 := by rw [← e3]; exact congrFun (congrFun hT1 0) 2
    refine m_total (b := 99999) (sh := tk_shr (tk_mv μ)) (by rw [hT1]; exact hJm) hL1.2 (by rw [hshe]; exact hshb) ?_
    rw [hT1, hshe, tk_tot_eq hQE]
    by_cases h0 : tk_tot (tk_shr (tk_hw 1 μ)) (tk_hw 1 μ) = 0
    · rw [if_pos h0, hr0 h0]
      exact hK _ _ (tk_R_sc hR hq1 (by rw [hT1]; exact tk_CC_r))
    · rw [if_neg h0]
      have hr1 := hr1 (by omega)
      refine m_weightOf (b := 99999) (sh := tk_shr (tk_mv μ)) (by rw [hT1]; exact hJm) hL1.2 (by rw [hshe]; exact hshb) ⟨hv.1, by rw [q15]; exact hv.2⟩ ?_
      rw [hT1, hshe, tk_we_eq hQE hv]
      refine m_tr_open hq1 hT1 (fun m4 htr4 hc4 hfc4 => ?_)
      have w1 : m4 102 c = μ 7 c := ((tk_EE_m hR hc4).2.2.1 c hv.1 hv.2).2.2.1
      have w2 : m4 96 13 = μ 1 3 := (tk_EE_m hR hc4).1.2.2.2.1
      refine m_tgo hR hn2 htr4 hc4 (fun m5 hq5 hj5 hmq5 htr5 => ?_)
      have w3 : m5 102 c = tk_gp (tk_shr (tk_hw 1 μ)) (tk_hw 1 μ) n.toNat 6 c := (hq5.2.1 c hv.1 (by rw [g02]; exact hv.2)).2.2.1
      have w4 : m5 96 13 = tk_gp (tk_shr (tk_hw 1 μ)) (tk_hw 1 μ) n.toNat 0 3 := hq5.1.2.2.2.1
      refine m_tr_again hR htr5 (fun m6 hR6 _ _ _ => ?_)
      rw [w1, w2, w3, w4, tk_ineg_id (by omega) (by omega), tk_ineg_id (by omega) (by omega), tk_iadd_id (by omega) (by omega), tk_iadd_id (by omega) (by omega), show -μ 7 c + tk_gp (tk_shr (tk_hw 1 μ)) (tk_hw 1 μ) n.toNat 6 c = tk_gp (tk_shr (tk_hw 1 μ)) (tk_hw 1 μ) n.toNat 6 c - μ 7 c by omega, show -μ 1 3 + tk_gp (tk_shr (tk_hw 1 μ)) (tk_hw 1 μ) n.toNat 0 3 = tk_gp (tk_shr (tk_hw 1 μ)) (tk_hw 1 μ) n.toNat 0 3 - μ 1 3 by omega]
      refine m_partOf (hab _ _ _ _ htb hwb (by omega) (by omega)) (by omega) ?_
      rw [← hr1]
      exact hK _ _ hR6
  refine x_lag_a hv (by omega) hn2 hp ?_
  refine x_begin hI (fun μ1 hf1 hE1 hs1 hd1 ha1 => ?_)
  have hI1 := tk_II_EE hE1 hI
  have hQ1 := tk_EQ_of hE1
  have z1 : μ1 51 4 = tk_tot (tk_shr (tk_hw 1 μ)) (tk_hw 31 μ1) := hd1.2.2.2
  rw [tk_tot_eq hQ1] at z1
  have z2 : μ1 52 c = tk_we (tk_shr (tk_hw 1 μ)) (tk_hw 31 μ1) c := hd1.1 c hv.1 (by have : μ1 31 2 = tk_hw 1 μ 0 2 := hE1.1.2.2.1; have h2 : tk_hw 1 μ 0 2 = μ 1 2 := rfl; omega)
  rw [tk_we_eq hQ1 hv] at z2
  rw [z1]
  by_cases h0 : tk_tot (tk_shr (tk_hw 1 μ)) (tk_hw 1 μ) ≤ 0
  · rw [if_pos h0]
    exact mod μ1 _ hf1 (fun _ => rfl) (fun z => by omega)
  · rw [if_neg h0, z2]
    refine x_goBP31 (b := 99999) (tk_J_of hI1) (by omega) hn2 hshb hs1 hd1 (fun μ2 hf2 he2 hs2 hd2 => ?_)
    have hq2 : tk_EQ (tk_gp (tk_shr (tk_hw 1 μ)) (tk_hw 1 μ) n.toNat) (tk_hw 31 μ2) := by rw [he2]; exact tk_gp_EQ hm.1 hQ1 _
    have hf2' : tk_f1 31 60 μ μ2 := fun o i ho => by rw [hf2 o i (by omega)]; exact hf1 o i ho
    have w1 : μ2 7 c = μ 7 c := hf2' _ _ (by omega)
    have w2 : μ2 1 3 = μ 1 3 := hf2' _ _ (by omega)
    have w3 : μ2 37 c = tk_gp (tk_shr (tk_hw 1 μ)) (tk_hw 1 μ) n.toNat 6 c := (hq2.2.1 c hv.1 (by rw [g02]; exact hv.2)).2.2.1
    have w4 : μ2 31 3 = tk_gp (tk_shr (tk_hw 1 μ)) (tk_hw 1 μ) n.toNat 0 3 := hq2.1.2.2.2.1
    rw [w1, w2, w3, w4, tk_isub_id (by omega) (by omega), tk_isub_id (by omega) (by omega)]
    exact x_fraction (hab _ _ _ _ htb hwb (by omega) (by omega)) (by omega) (fun z => by omega) (fun z => mod μ2 _ hf2' (fun y => by omega) (fun _ => rfl))
