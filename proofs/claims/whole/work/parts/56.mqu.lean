/-! ===== Layer 2: the Model's quanta ===== -/
def tk_shb (sh : Int → Int) : Prop := ∀ a, 0 ≤ sh a ∧ sh a ≤ 122293674049536
def tk_mq (sh : Int → Int) (μ : tk_M) : Prop := ∀ a : Int, 0 ≤ a → a < 8 → μ 119 a = sh a
/-- what a quantum of the Model writes -/
def tk_fq (μ μ' : tk_M) : Prop := ∀ o i : Int, ¬ (o = 102 ∨ o = 103 ∨ o = 104 ∨ (o = 96 ∧ (i = 13 ∨ i = 14 ∨ i = 37))) → μ' o i = μ o i
theorem tk_fq_r {μ : tk_M} : tk_fq μ μ := fun _ _ _ => rfl
theorem tk_fq_t {μ μ' μ'' : tk_M} (h : tk_fq μ μ') (h' : tk_fq μ' μ'') : tk_fq μ μ'' := fun o i ho => by rw [h' o i ho, h o i ho]
theorem tk_fq_s {o i v : Int} {μ μ' : tk_M} (h : tk_fq μ μ') (ho : o = 102 ∨ o = 103 ∨ o = 104 ∨ (o = 96 ∧ (i = 13 ∨ i = 14 ∨ i = 37))) : tk_fq μ (tk_set μ' o i v) := fun o' j h2 => by
  unfold tk_set
  rw [if_neg (by omega)]
  exact h o' j h2
theorem tk_mq_fq {sh : Int → Int} {μ μ' : tk_M} (h : tk_mq sh μ) (hf : tk_fq μ μ') : tk_mq sh μ' := fun a h1 h2 => by rw [hf 119 a (by omega), h a h1 h2]
theorem tk_mv_102 {μ : tk_M} {i v : Int} : tk_mv (tk_set μ 102 i v) = tk_set (tk_mv μ) 6 i v := by
  funext f j
  unfold tk_mv tk_set
  by_cases h : f = 6
  · subst h; simp
  · simp [h]
theorem tk_mv_103 {μ : tk_M} {i v : Int} : tk_mv (tk_set μ 103 i v) = tk_set (tk_mv μ) 7 i v := by
  funext f j
  unfold tk_mv tk_set
  by_cases h : f = 7
  · subst h; simp
  · simp [h]
theorem tk_mv_104 {μ : tk_M} {i v : Int} : tk_mv (tk_set μ 104 i v) = tk_set (tk_mv μ) 8 i v := by
  funext f j
  unfold tk_mv tk_set
  by_cases h : f = 8
  · subst h; simp
  · simp [h]
theorem tk_mv_13 {μ : tk_M} {v : Int} : tk_mv (tk_set μ 96 13 v) = tk_set (tk_mv μ) 0 3 v := by
  funext f j
  unfold tk_mv tk_set
  by_cases h : f = 0
  · subst h
    by_cases h3 : j = 3
    · subst h3; simp
    · simp [h3]
  · simp [h]
theorem tk_mv_37 {μ : tk_M} {v : Int} : tk_mv (tk_set μ 96 37 v) = tk_mv μ := by
  funext f j
  unfold tk_mv tk_set
  simp
theorem tk_we_bd {b : Int} {sh : Int → Int} {S : tk_M} (hJ : tk_J b S) (hb : tk_shb sh) {c : Int} (hc : 0 ≤ c ∧ c < S 0 2) : 0 ≤ tk_we sh S c ∧ tk_we sh S c ≤ 1222936740495360 := by
  have h := (hJ.2.2.2.1 c hc.1 hc.2).2.2.2.1
  have h2 := hb c
  unfold tk_we
  refine ⟨Int.ediv_nonneg (by omega) (by omega), ?_⟩
  have := Int.ediv_le_self (a := 10 * sh c) (S 7 c) (by omega)
  omega
theorem tk_rd_01 {sh : Int → Int} {S : tk_M} {c : Int} : tk_rd sh S c = 0 ∨ tk_rd sh S c = 1 := by
  unfold tk_rd tk_bo
  split <;> simp
theorem tk_rw_bd {b : Int} {sh : Int → Int} {S : tk_M} (hJ : tk_J b S) (hb : tk_shb sh) {c : Int} (hc : 0 ≤ c ∧ c < S 0 2) : 0 ≤ tk_rw sh S c ∧ tk_rw sh S c ≤ 1222936740495360 := by
  have := tk_we_bd hJ hb hc
  unfold tk_rw
  split <;> omega
theorem tk_rwp_bd {b : Int} {sh : Int → Int} {S : tk_M} (hJ : tk_J b S) (hb : tk_shb sh) (i : Int) (hi : 0 ≤ i ∧ i ≤ S 0 2) : 0 ≤ tk_sm i (tk_rw sh S) ∧ tk_sm i (tk_rw sh S) ≤ i * 1222936740495360 :=
  tk_sm_bd hi.1 (fun c h2 h3 => tk_rw_bd hJ hb ⟨h2, by omega⟩)
theorem tk_tot_bd {b : Int} {sh : Int → Int} {S : tk_M} (hJ : tk_J b S) (hb : tk_shb sh) : 0 ≤ tk_tot sh S ∧ tk_tot sh S ≤ 9783493923962880 := by
  have h := tk_rwp_bd hJ hb (S 0 2) ⟨hJ.1.1, Int.le_refl _⟩
  have := hJ.1
  unfold tk_tot
  omega
theorem tk_mJ {b : Int} {μ : tk_M} (hJ : tk_J b (tk_mv μ)) : (0 ≤ μ 96 5 ∧ μ 96 5 ≤ 8) ∧ (0 ≤ μ 96 13 ∧ μ 96 13 ≤ b) ∧ (0 ≤ μ 96 14 ∧ μ 96 14 ≤ μ 96 13 + 1) ∧ (∀ c : Int, 0 ≤ c → c < μ 96 5 → (0 ≤ μ 100 c ∧ μ 100 c ≤ 6) ∧ (0 ≤ μ 101 c ∧ μ 101 c ≤ 9) ∧ (0 ≤ μ 102 c ∧ μ 102 c ≤ μ 96 13) ∧ (1 ≤ μ 103 c ∧ μ 103 c ≤ 10) ∧ (0 ≤ μ 104 c ∧ μ 104 c ≤ 2147483647) ∧ (μ 105 c = -5 ∨ (0 ≤ μ 105 c ∧ μ 105 c < μ 96 5))) ∧ (∀ k : Int, 0 ≤ k → k < 4 * μ 96 5 → 0 ≤ μ 106 k ∧ μ 106 k ≤ 9) := hJ
theorem m_weightOf {b : Int} {sh : Int → Int} {μ : tk_M} {Q : Int → tk_M → Prop} {c : Int} (hJ : tk_J b (tk_mv μ)) (hm : tk_mq sh μ) (hb : tk_shb sh) (hc : 0 ≤ c ∧ c < μ 96 5) (hQ : Q (tk_we sh (tk_mv μ) c) μ) : tkF_X7_weightOf [96, c] Q μ := by
  obtain ⟨g1, g2, g3, g4, g5⟩ := tk_mJ hJ
  have h := (g4 c hc.1 hc.2).2.2.2.1
  have h2 := hb c
  have h8 : c < 8 := by omega
  have e := hm c hc.1 h8
  have l1 : tk_lmul 10 (sh c) = 10 * sh c := tk_lmul_id (by omega) (by omega)
  have l2 : tk_ldiv (10 * sh c) (μ 103 c) = 10 * sh c / μ 103 c := tk_ldiv_id (by omega) (by omega)
  have hn : ¬ μ 103 c = 0 := by omega
  have hw : tk_we sh (tk_mv μ) c = 10 * sh c / μ 103 c := rfl
  rw [hw] at hQ
  simp [tk_fn, tk_env, tk_sq, tk_sk, tk_if, tk_re, tk_rez, tk_rev, tk_xp, tk_se, tk_pf, tk_pfz, tk_pfo, tk_as, tk_asz, tk_asb, tk_aso, tk_cpy, tk_sw, tk_swc, tk_lit, tk_loc, tk_u1, tk_bin, tk_dv, tk_gf, tk_gr, tk_gn, tk_ald, tk_aldq, tk_aln, tk_unl, tk_una, tk_ter, tk_args, tk_cs, tk_cv, tk_ceq, tk_cne, tk_clt, tk_cge, tk_cgt, tk_cle, tk_zeq, tk_zne, tk_zlt, tk_zge, tk_zgt, tk_zle, tk_and, tk_or, tk_not, tk_ct2, tk_isC, List.headD_cons, tk_up, tk_sca, tk_scl, tkF_X7_weightOf, tkS_X7_weightOf, tk_al_2, tk_al_3, tk_al_4, tk_al_5, tk_al_6, tk_al_7, tk_al_8, tk_al_9, tk_al_10, tk_al_11, tk_al_13, tk_al_14, tk_al_16, tk_al_17, tk_al_19, tk_al_20, tk_al_22, tk_al_24, tk_al_25, tk_al_26, tk_al_27, tk_al_28, tk_al_29, tk_al_30, tk_al_32, tk_al_33, tk_al_34, tk_al_35, tk_al_36, tk_al_37, tk_al_38, tk_al_39, tk_al_40, tk_al_41, tk_al_43, tk_al_44, tk_al_46, tk_al_47, tk_al_49, tk_al_50, tk_al_52, tk_al_54, tk_al_55, tk_al_56, tk_al_57, tk_al_58, tk_al_59, tk_al_60, tk_al_62, tk_al_63, tk_al_64, tk_al_65, tk_al_66, tk_al_67, tk_al_68, tk_al_69, tk_al_70, tk_al_71, tk_al_73, tk_al_74, tk_al_76, tk_al_77, tk_al_79, tk_al_80, tk_al_81, tk_al_83, tk_al_85, tk_al_87, tk_al_89, tk_al_91, tk_al_93, tk_al_95, tk_al_97, tk_al_98, tk_al_99, tk_al_100, tk_al_101, tk_al_102, tk_al_103, tk_al_104, tk_al_105, tk_al_106, tk_al_107, tk_al_108, tk_al_109, tk_al_110, tk_al_111, tk_al_112, tk_al_113, tk_al_114, tk_al_115, tk_al_116, tk_al_117, tk_al_118, tk_al_119, tk_al_120, tk_al_121, tk_al_122, tk_al_123, tk_al_124, tk_al_125, tk_al_126, tk_al_127, tk_al_128, tk_al_129, hc.1, h8, e, l1, l2, hn]
  exact hQ
theorem m_isWaitedFor {b : Int} {μ : tk_M} {Q : Int → tk_M → Prop} {c : Int} (hJ : tk_J b (tk_mv μ)) (hQ : Q (tk_bo (0 < tk_sv (tk_mv μ) c)) μ) : tkF_X7_isWaitedFor [96, c] Q μ := by
  obtain ⟨g1, g2, g3, g4, g5⟩ := tk_mJ hJ
  have hw : tk_sv (tk_mv μ) c = tk_sm (μ 96 5) (fun o => if μ 105 o = c then 1 else 0) := rfl
  rw [hw] at hQ
  have hnn : ∀ i : Int, 0 ≤ i → 0 ≤ tk_sm i (fun o => if μ 105 o = c then 1 else 0) := fun i hi => (tk_sm_bd (B := 1) hi (fun o _ _ => by (try dsimp only); split <;> omega)).1
  simp [tk_fn, tk_env, tk_sq, tk_sk, tk_if, tk_re, tk_rez, tk_rev, tk_xp, tk_se, tk_pf, tk_pfz, tk_pfo, tk_as, tk_asz, tk_asb, tk_aso, tk_cpy, tk_sw, tk_swc, tk_lit, tk_loc, tk_u1, tk_bin, tk_dv, tk_gf, tk_gr, tk_gn, tk_ald, tk_aldq, tk_aln, tk_unl, tk_una, tk_ter, tk_args, tk_cs, tk_cv, tk_ceq, tk_cne, tk_clt, tk_cge, tk_cgt, tk_cle, tk_zeq, tk_zne, tk_zlt, tk_zge, tk_zgt, tk_zle, tk_and, tk_or, tk_not, tk_ct2, tk_isC, List.headD_cons, tk_up, tk_sca, tk_scl, tkF_X7_isWaitedFor, tkS_X7_isWaitedFor]
  refine tk_for (μ 96 5) (fun i ρ μ' => μ' = μ ∧ ρ 0 = 96 ∧ ρ 1 = c ∧ ρ 3 = i ∧ ρ 2 = tk_bo (0 < tk_sm i (fun o => if μ 105 o = c then 1 else 0))) g1.1 ⟨rfl, rfl, rfl, rfl, rfl⟩ ?_ ?_
  · rintro i ρ μ' hi0 hi6 ⟨rfl, r0, r1, r3, r2⟩ K hK
    have i1 : tk_iadd i 1 = i + 1 := tk_iadd_id (by omega) (by omega)
    have h8 : i < 8 := by omega
    have hn := hnn i hi0
    have hs := tk_sm_s (n := i) (f := fun o => if μ' 105 o = c then 1 else 0) hi0
    by_cases h1 : 0 < tk_sm i (fun o => if μ' 105 o = c then 1 else 0)
    · rw [tk_bo_t h1] at r2
      simp [tk_fn, tk_env, tk_sq, tk_sk, tk_if, tk_re, tk_rez, tk_rev, tk_xp, tk_se, tk_pf, tk_pfz, tk_pfo, tk_as, tk_asz, tk_asb, tk_aso, tk_cpy, tk_sw, tk_swc, tk_lit, tk_loc, tk_u1, tk_bin, tk_dv, tk_gf, tk_gr, tk_gn, tk_ald, tk_aldq, tk_aln, tk_unl, tk_una, tk_ter, tk_args, tk_cs, tk_cv, tk_ceq, tk_cne, tk_clt, tk_cge, tk_cgt, tk_cle, tk_zeq, tk_zne, tk_zlt, tk_zge, tk_zgt, tk_zle, tk_and, tk_or, tk_not, tk_ct2, tk_isC, List.headD_cons, tk_up, tk_sca, tk_scl, r0, r1, r2, r3, hi6, i1]
      refine hK _ _ ⟨rfl, r0, r1, rfl, ?_⟩
      rw [tk_bo_t (by rw [hs]; split <;> omega)]
      rfl
    · rw [tk_bo_f h1] at r2
      by_cases h2 : μ' 105 i = c
      · simp [tk_fn, tk_env, tk_sq, tk_sk, tk_if, tk_re, tk_rez, tk_rev, tk_xp, tk_se, tk_pf, tk_pfz, tk_pfo, tk_as, tk_asz, tk_asb, tk_aso, tk_cpy, tk_sw, tk_swc, tk_lit, tk_loc, tk_u1, tk_bin, tk_dv, tk_gf, tk_gr, tk_gn, tk_ald, tk_aldq, tk_aln, tk_unl, tk_una, tk_ter, tk_args, tk_cs, tk_cv, tk_ceq, tk_cne, tk_clt, tk_cge, tk_cgt, tk_cle, tk_zeq, tk_zne, tk_zlt, tk_zge, tk_zgt, tk_zle, tk_and, tk_or, tk_not, tk_ct2, tk_isC, List.headD_cons, tk_up, tk_sca, tk_scl, r0, r1, r2, r3, hi0, hi6, h8, tk_al_2, tk_al_3, tk_al_4, tk_al_5, tk_al_6, tk_al_7, tk_al_8, tk_al_9, tk_al_10, tk_al_11, tk_al_13, tk_al_14, tk_al_16, tk_al_17, tk_al_19, tk_al_20, tk_al_22, tk_al_24, tk_al_25, tk_al_26, tk_al_27, tk_al_28, tk_al_29, tk_al_30, tk_al_32, tk_al_33, tk_al_34, tk_al_35, tk_al_36, tk_al_37, tk_al_38, tk_al_39, tk_al_40, tk_al_41, tk_al_43, tk_al_44, tk_al_46, tk_al_47, tk_al_49, tk_al_50, tk_al_52, tk_al_54, tk_al_55, tk_al_56, tk_al_57, tk_al_58, tk_al_59, tk_al_60, tk_al_62, tk_al_63, tk_al_64, tk_al_65, tk_al_66, tk_al_67, tk_al_68, tk_al_69, tk_al_70, tk_al_71, tk_al_73, tk_al_74, tk_al_76, tk_al_77, tk_al_79, tk_al_80, tk_al_81, tk_al_83, tk_al_85, tk_al_87, tk_al_89, tk_al_91, tk_al_93, tk_al_95, tk_al_97, tk_al_98, tk_al_99, tk_al_100, tk_al_101, tk_al_102, tk_al_103, tk_al_104, tk_al_105, tk_al_106, tk_al_107, tk_al_108, tk_al_109, tk_al_110, tk_al_111, tk_al_112, tk_al_113, tk_al_114, tk_al_115, tk_al_116, tk_al_117, tk_al_118, tk_al_119, tk_al_120, tk_al_121, tk_al_122, tk_al_123, tk_al_124, tk_al_125, tk_al_126, tk_al_127, tk_al_128, tk_al_129, i1, h2]
        refine hK _ _ ⟨rfl, r0, r1, rfl, ?_⟩
        rw [tk_bo_t (by rw [hs, if_pos h2]; omega)]
        rfl
      · simp [tk_fn, tk_env, tk_sq, tk_sk, tk_if, tk_re, tk_rez, tk_rev, tk_xp, tk_se, tk_pf, tk_pfz, tk_pfo, tk_as, tk_asz, tk_asb, tk_aso, tk_cpy, tk_sw, tk_swc, tk_lit, tk_loc, tk_u1, tk_bin, tk_dv, tk_gf, tk_gr, tk_gn, tk_ald, tk_aldq, tk_aln, tk_unl, tk_una, tk_ter, tk_args, tk_cs, tk_cv, tk_ceq, tk_cne, tk_clt, tk_cge, tk_cgt, tk_cle, tk_zeq, tk_zne, tk_zlt, tk_zge, tk_zgt, tk_zle, tk_and, tk_or, tk_not, tk_ct2, tk_isC, List.headD_cons, tk_up, tk_sca, tk_scl, r0, r1, r2, r3, hi0, hi6, h8, tk_al_2, tk_al_3, tk_al_4, tk_al_5, tk_al_6, tk_al_7, tk_al_8, tk_al_9, tk_al_10, tk_al_11, tk_al_13, tk_al_14, tk_al_16, tk_al_17, tk_al_19, tk_al_20, tk_al_22, tk_al_24, tk_al_25, tk_al_26, tk_al_27, tk_al_28, tk_al_29, tk_al_30, tk_al_32, tk_al_33, tk_al_34, tk_al_35, tk_al_36, tk_al_37, tk_al_38, tk_al_39, tk_al_40, tk_al_41, tk_al_43, tk_al_44, tk_al_46, tk_al_47, tk_al_49, tk_al_50, tk_al_52, tk_al_54, tk_al_55, tk_al_56, tk_al_57, tk_al_58, tk_al_59, tk_al_60, tk_al_62, tk_al_63, tk_al_64, tk_al_65, tk_al_66, tk_al_67, tk_al_68, tk_al_69, tk_al_70, tk_al_71, tk_al_73, tk_al_74, tk_al_76, tk_al_77, tk_al_79, tk_al_80, tk_al_81, tk_al_83, tk_al_85, tk_al_87, tk_al_89, tk_al_91, tk_al_93, tk_al_95, tk_al_97, tk_al_98, tk_al_99, tk_al_100, tk_al_101, tk_al_102, tk_al_103, tk_al_104, tk_al_105, tk_al_106, tk_al_107, tk_al_108, tk_al_109, tk_al_110, tk_al_111, tk_al_112, tk_al_113, tk_al_114, tk_al_115, tk_al_116, tk_al_117, tk_al_118, tk_al_119, tk_al_120, tk_al_121, tk_al_122, tk_al_123, tk_al_124, tk_al_125, tk_al_126, tk_al_127, tk_al_128, tk_al_129, i1, h2]
        refine hK _ _ ⟨rfl, r0, r1, rfl, ?_⟩
        rw [tk_bo_f (by rw [hs, if_neg h2]; omega)]
        rfl
  · rintro ρ μ' ⟨rfl, r0, r1, r3, r2⟩ X
    simp [tk_fn, tk_env, tk_sq, tk_sk, tk_if, tk_re, tk_rez, tk_rev, tk_xp, tk_se, tk_pf, tk_pfz, tk_pfo, tk_as, tk_asz, tk_asb, tk_aso, tk_cpy, tk_sw, tk_swc, tk_lit, tk_loc, tk_u1, tk_bin, tk_dv, tk_gf, tk_gr, tk_gn, tk_ald, tk_aldq, tk_aln, tk_unl, tk_una, tk_ter, tk_args, tk_cs, tk_cv, tk_ceq, tk_cne, tk_clt, tk_cge, tk_cgt, tk_cle, tk_zeq, tk_zne, tk_zlt, tk_zge, tk_zgt, tk_zle, tk_and, tk_or, tk_not, tk_ct2, tk_isC, List.headD_cons, tk_up, tk_sca, tk_scl, r0, r1, r2, r3, tk_bo_or]
    exact hQ
theorem m_isReady {b : Int} {sh : Int → Int} {μ : tk_M} {Q : Int → tk_M → Prop} {c : Int} (hJ : tk_J b (tk_mv μ)) (hm : tk_mq sh μ) (hb : tk_shb sh) (hc : 0 ≤ c ∧ c < μ 96 5) (hQ : Q (tk_rd sh (tk_mv μ) c) μ) : tkF_X7_isReady [96, c] Q μ := by
  obtain ⟨g1, g2, g3, g4, g5⟩ := tk_mJ hJ
  have h := (g4 c hc.1 hc.2)
  have h8 : c < 8 := by omega
  have hw : tk_rd sh (tk_mv μ) c = tk_bo (μ 105 c = -5 ∧ 0 < tk_we sh (tk_mv μ) c ∧ ((¬ μ 100 c = 2 ∧ ¬ μ 100 c = 5) ∨ 0 < tk_sv (tk_mv μ) c)) := rfl
  rw [hw] at hQ
  by_cases hk : ¬ μ 100 c = 2 ∧ ¬ μ 100 c = 5
  · by_cases hn : μ 105 c = -5
    · simp [tk_fn, tk_env, tk_sq, tk_sk, tk_if, tk_re, tk_rez, tk_rev, tk_xp, tk_se, tk_pf, tk_pfz, tk_pfo, tk_as, tk_asz, tk_asb, tk_aso, tk_cpy, tk_sw, tk_swc, tk_lit, tk_loc, tk_u1, tk_bin, tk_dv, tk_gf, tk_gr, tk_gn, tk_ald, tk_aldq, tk_aln, tk_unl, tk_una, tk_ter, tk_args, tk_cs, tk_cv, tk_ceq, tk_cne, tk_clt, tk_cge, tk_cgt, tk_cle, tk_zeq, tk_zne, tk_zlt, tk_zge, tk_zgt, tk_zle, tk_and, tk_or, tk_not, tk_ct2, tk_isC, List.headD_cons, tk_up, tk_sca, tk_scl, tkF_X7_isReady, tkS_X7_isReady, tk_al_2, tk_al_3, tk_al_4, tk_al_5, tk_al_6, tk_al_7, tk_al_8, tk_al_9, tk_al_10, tk_al_11, tk_al_13, tk_al_14, tk_al_16, tk_al_17, tk_al_19, tk_al_20, tk_al_22, tk_al_24, tk_al_25, tk_al_26, tk_al_27, tk_al_28, tk_al_29, tk_al_30, tk_al_32, tk_al_33, tk_al_34, tk_al_35, tk_al_36, tk_al_37, tk_al_38, tk_al_39, tk_al_40, tk_al_41, tk_al_43, tk_al_44, tk_al_46, tk_al_47, tk_al_49, tk_al_50, tk_al_52, tk_al_54, tk_al_55, tk_al_56, tk_al_57, tk_al_58, tk_al_59, tk_al_60, tk_al_62, tk_al_63, tk_al_64, tk_al_65, tk_al_66, tk_al_67, tk_al_68, tk_al_69, tk_al_70, tk_al_71, tk_al_73, tk_al_74, tk_al_76, tk_al_77, tk_al_79, tk_al_80, tk_al_81, tk_al_83, tk_al_85, tk_al_87, tk_al_89, tk_al_91, tk_al_93, tk_al_95, tk_al_97, tk_al_98, tk_al_99, tk_al_100, tk_al_101, tk_al_102, tk_al_103, tk_al_104, tk_al_105, tk_al_106, tk_al_107, tk_al_108, tk_al_109, tk_al_110, tk_al_111, tk_al_112, tk_al_113, tk_al_114, tk_al_115, tk_al_116, tk_al_117, tk_al_118, tk_al_119, tk_al_120, tk_al_121, tk_al_122, tk_al_123, tk_al_124, tk_al_125, tk_al_126, tk_al_127, tk_al_128, tk_al_129, hc.1, h8, hk.1, hk.2, hn]
      refine m_weightOf hJ hm hb hc ?_
      by_cases hp : 0 < tk_we sh (tk_mv μ) c
      · rw [tk_bo_t ⟨hn, hp, .inl hk⟩] at hQ
        simpa [hp] using hQ
      · rw [tk_bo_f (fun z => hp z.2.1)] at hQ
        simpa [hp] using hQ
    · have hn2 : ¬ μ 105 c < 0 := by omega
      rw [tk_bo_f (fun z => hn z.1)] at hQ
      simp [tk_fn, tk_env, tk_sq, tk_sk, tk_if, tk_re, tk_rez, tk_rev, tk_xp, tk_se, tk_pf, tk_pfz, tk_pfo, tk_as, tk_asz, tk_asb, tk_aso, tk_cpy, tk_sw, tk_swc, tk_lit, tk_loc, tk_u1, tk_bin, tk_dv, tk_gf, tk_gr, tk_gn, tk_ald, tk_aldq, tk_aln, tk_unl, tk_una, tk_ter, tk_args, tk_cs, tk_cv, tk_ceq, tk_cne, tk_clt, tk_cge, tk_cgt, tk_cle, tk_zeq, tk_zne, tk_zlt, tk_zge, tk_zgt, tk_zle, tk_and, tk_or, tk_not, tk_ct2, tk_isC, List.headD_cons, tk_up, tk_sca, tk_scl, tkF_X7_isReady, tkS_X7_isReady, tk_al_2, tk_al_3, tk_al_4, tk_al_5, tk_al_6, tk_al_7, tk_al_8, tk_al_9, tk_al_10, tk_al_11, tk_al_13, tk_al_14, tk_al_16, tk_al_17, tk_al_19, tk_al_20, tk_al_22, tk_al_24, tk_al_25, tk_al_26, tk_al_27, tk_al_28, tk_al_29, tk_al_30, tk_al_32, tk_al_33, tk_al_34, tk_al_35, tk_al_36, tk_al_37, tk_al_38, tk_al_39, tk_al_40, tk_al_41, tk_al_43, tk_al_44, tk_al_46, tk_al_47, tk_al_49, tk_al_50, tk_al_52, tk_al_54, tk_al_55, tk_al_56, tk_al_57, tk_al_58, tk_al_59, tk_al_60, tk_al_62, tk_al_63, tk_al_64, tk_al_65, tk_al_66, tk_al_67, tk_al_68, tk_al_69, tk_al_70, tk_al_71, tk_al_73, tk_al_74, tk_al_76, tk_al_77, tk_al_79, tk_al_80, tk_al_81, tk_al_83, tk_al_85, tk_al_87, tk_al_89, tk_al_91, tk_al_93, tk_al_95, tk_al_97, tk_al_98, tk_al_99, tk_al_100, tk_al_101, tk_al_102, tk_al_103, tk_al_104, tk_al_105, tk_al_106, tk_al_107, tk_al_108, tk_al_109, tk_al_110, tk_al_111, tk_al_112, tk_al_113, tk_al_114, tk_al_115, tk_al_116, tk_al_117, tk_al_118, tk_al_119, tk_al_120, tk_al_121, tk_al_122, tk_al_123, tk_al_124, tk_al_125, tk_al_126, tk_al_127, tk_al_128, tk_al_129, hc.1, h8, hk.1, hk.2, hn2]
      exact hQ
  · have hk2 : μ 100 c = 2 ∨ (¬ μ 100 c = 2 ∧ μ 100 c = 5) := by omega
    have fin : (if 0 < tk_sv (tk_mv μ) c then (if μ 105 c = -5 then tkF_X7_weightOf [96, c] (fun x μ1 => if 0 < x then Q 1 μ1 else Q 0 μ1) μ else Q 0 μ) else Q 0 μ) := by
      by_cases hs : 0 < tk_sv (tk_mv μ) c
      · rw [if_pos hs]
        by_cases hn : μ 105 c = -5
        · rw [if_pos hn]
          refine m_weightOf hJ hm hb hc ?_
          by_cases hp : 0 < tk_we sh (tk_mv μ) c
          · rw [tk_bo_t ⟨hn, hp, .inr hs⟩] at hQ
            rwa [if_pos hp]
          · rw [tk_bo_f (fun z => hp z.2.1)] at hQ
            rwa [if_neg hp]
        · rw [if_neg hn]
          rwa [tk_bo_f (fun z => hn z.1)] at hQ
      · rw [if_neg hs]
        rwa [tk_bo_f (fun z => by rcases z.2.2 with z | z; exact hk z; exact hs z)] at hQ
    have hn : μ 105 c < 0 ↔ μ 105 c = -5 := by omega
    rcases hk2 with hk2 | hk2
    · simp [tk_fn, tk_env, tk_sq, tk_sk, tk_if, tk_re, tk_rez, tk_rev, tk_xp, tk_se, tk_pf, tk_pfz, tk_pfo, tk_as, tk_asz, tk_asb, tk_aso, tk_cpy, tk_sw, tk_swc, tk_lit, tk_loc, tk_u1, tk_bin, tk_dv, tk_gf, tk_gr, tk_gn, tk_ald, tk_aldq, tk_aln, tk_unl, tk_una, tk_ter, tk_args, tk_cs, tk_cv, tk_ceq, tk_cne, tk_clt, tk_cge, tk_cgt, tk_cle, tk_zeq, tk_zne, tk_zlt, tk_zge, tk_zgt, tk_zle, tk_and, tk_or, tk_not, tk_ct2, tk_isC, List.headD_cons, tk_up, tk_sca, tk_scl, tkF_X7_isReady, tkS_X7_isReady, tk_al_2, tk_al_3, tk_al_4, tk_al_5, tk_al_6, tk_al_7, tk_al_8, tk_al_9, tk_al_10, tk_al_11, tk_al_13, tk_al_14, tk_al_16, tk_al_17, tk_al_19, tk_al_20, tk_al_22, tk_al_24, tk_al_25, tk_al_26, tk_al_27, tk_al_28, tk_al_29, tk_al_30, tk_al_32, tk_al_33, tk_al_34, tk_al_35, tk_al_36, tk_al_37, tk_al_38, tk_al_39, tk_al_40, tk_al_41, tk_al_43, tk_al_44, tk_al_46, tk_al_47, tk_al_49, tk_al_50, tk_al_52, tk_al_54, tk_al_55, tk_al_56, tk_al_57, tk_al_58, tk_al_59, tk_al_60, tk_al_62, tk_al_63, tk_al_64, tk_al_65, tk_al_66, tk_al_67, tk_al_68, tk_al_69, tk_al_70, tk_al_71, tk_al_73, tk_al_74, tk_al_76, tk_al_77, tk_al_79, tk_al_80, tk_al_81, tk_al_83, tk_al_85, tk_al_87, tk_al_89, tk_al_91, tk_al_93, tk_al_95, tk_al_97, tk_al_98, tk_al_99, tk_al_100, tk_al_101, tk_al_102, tk_al_103, tk_al_104, tk_al_105, tk_al_106, tk_al_107, tk_al_108, tk_al_109, tk_al_110, tk_al_111, tk_al_112, tk_al_113, tk_al_114, tk_al_115, tk_al_116, tk_al_117, tk_al_118, tk_al_119, tk_al_120, tk_al_121, tk_al_122, tk_al_123, tk_al_124, tk_al_125, tk_al_126, tk_al_127, tk_al_128, tk_al_129, hc.1, h8, hk2]
      refine m_isWaitedFor hJ ?_
      by_cases hs : 0 < tk_sv (tk_mv μ) c
      · rw [if_pos hs] at fin
        rw [tk_bo_t hs]
        simpa [hn] using fin
      · rw [if_neg hs] at fin
        rw [tk_bo_f hs]
        simpa using fin
    · simp [tk_fn, tk_env, tk_sq, tk_sk, tk_if, tk_re, tk_rez, tk_rev, tk_xp, tk_se, tk_pf, tk_pfz, tk_pfo, tk_as, tk_asz, tk_asb, tk_aso, tk_cpy, tk_sw, tk_swc, tk_lit, tk_loc, tk_u1, tk_bin, tk_dv, tk_gf, tk_gr, tk_gn, tk_ald, tk_aldq, tk_aln, tk_unl, tk_una, tk_ter, tk_args, tk_cs, tk_cv, tk_ceq, tk_cne, tk_clt, tk_cge, tk_cgt, tk_cle, tk_zeq, tk_zne, tk_zlt, tk_zge, tk_zgt, tk_zle, tk_and, tk_or, tk_not, tk_ct2, tk_isC, List.headD_cons, tk_up, tk_sca, tk_scl, tkF_X7_isReady, tkS_X7_isReady, tk_al_2, tk_al_3, tk_al_4, tk_al_5, tk_al_6, tk_al_7, tk_al_8, tk_al_9, tk_al_10, tk_al_11, tk_al_13, tk_al_14, tk_al_16, tk_al_17, tk_al_19, tk_al_20, tk_al_22, tk_al_24, tk_al_25, tk_al_26, tk_al_27, tk_al_28, tk_al_29, tk_al_30, tk_al_32, tk_al_33, tk_al_34, tk_al_35, tk_al_36, tk_al_37, tk_al_38, tk_al_39, tk_al_40, tk_al_41, tk_al_43, tk_al_44, tk_al_46, tk_al_47, tk_al_49, tk_al_50, tk_al_52, tk_al_54, tk_al_55, tk_al_56, tk_al_57, tk_al_58, tk_al_59, tk_al_60, tk_al_62, tk_al_63, tk_al_64, tk_al_65, tk_al_66, tk_al_67, tk_al_68, tk_al_69, tk_al_70, tk_al_71, tk_al_73, tk_al_74, tk_al_76, tk_al_77, tk_al_79, tk_al_80, tk_al_81, tk_al_83, tk_al_85, tk_al_87, tk_al_89, tk_al_91, tk_al_93, tk_al_95, tk_al_97, tk_al_98, tk_al_99, tk_al_100, tk_al_101, tk_al_102, tk_al_103, tk_al_104, tk_al_105, tk_al_106, tk_al_107, tk_al_108, tk_al_109, tk_al_110, tk_al_111, tk_al_112, tk_al_113, tk_al_114, tk_al_115, tk_al_116, tk_al_117, tk_al_118, tk_al_119, tk_al_120, tk_al_121, tk_al_122, tk_al_123, tk_al_124, tk_al_125, tk_al_126, tk_al_127, tk_al_128, tk_al_129, hc.1, h8, hk2.1, hk2.2]
      refine m_isWaitedFor hJ ?_
      by_cases hs : 0 < tk_sv (tk_mv μ) c
      · rw [if_pos hs] at fin
        rw [tk_bo_t hs]
        simpa [hn] using fin
      · rw [if_neg hs] at fin
        rw [tk_bo_f hs]
        simpa using fin
/-- what is added to a sum -/
theorem m_readyWeight {b : Int} {sh : Int → Int} {μ : tk_M} {Q : Int → tk_M → Prop} {c : Int} (hJ : tk_J b (tk_mv μ)) (hm : tk_mq sh μ) (hb : tk_shb sh) (hc : 0 ≤ c ∧ c < μ 96 5) (hQ : Q (tk_rw sh (tk_mv μ) c) μ) : tkF_X7_isReady [96, c] (fun x μ1 => if x = 0 then Q 0 μ1 else tkF_X7_weightOf [96, c] Q μ1) μ := by
  refine m_isReady hJ hm hb hc ?_
  unfold tk_rw at hQ
  rcases tk_rd_01 (sh := sh) (S := tk_mv μ) (c := c) with h | h
  · rw [h] at hQ ⊢
    simpa using hQ
  · rw [h] at hQ ⊢
    simp at hQ ⊢
    exact m_weightOf hJ hm hb hc hQ
theorem m_total {b : Int} {sh : Int → Int} {μ : tk_M} {Q : Int → tk_M → Prop} (hJ : tk_J b (tk_mv μ)) (hm : tk_mq sh μ) (hb : tk_shb sh) (hQ : Q (tk_tot sh (tk_mv μ)) μ) : tkF_X7_total [96] Q μ := by
  have hbd := fun i hi => tk_rwp_bd hJ hb i hi
  have hbw := fun c hc => tk_rw_bd hJ hb (c := c) hc
  obtain ⟨g1, g2, g3, g4, g5⟩ := tk_mJ hJ
  have hnP : tk_mv μ 0 2 = μ 96 5 := rfl
  simp [tk_fn, tk_env, tk_sq, tk_sk, tk_if, tk_re, tk_rez, tk_rev, tk_xp, tk_se, tk_pf, tk_pfz, tk_pfo, tk_as, tk_asz, tk_asb, tk_aso, tk_cpy, tk_sw, tk_swc, tk_lit, tk_loc, tk_u1, tk_bin, tk_dv, tk_gf, tk_gr, tk_gn, tk_ald, tk_aldq, tk_aln, tk_unl, tk_una, tk_ter, tk_args, tk_cs, tk_cv, tk_ceq, tk_cne, tk_clt, tk_cge, tk_cgt, tk_cle, tk_zeq, tk_zne, tk_zlt, tk_zge, tk_zgt, tk_zle, tk_and, tk_or, tk_not, tk_ct2, tk_isC, List.headD_cons, tk_up, tk_sca, tk_scl, tkF_X7_total, tkS_X7_total]
  refine tk_for (μ 96 5) (fun i ρ μ' => μ' = μ ∧ ρ 0 = 96 ∧ ρ 3 = i ∧ ρ 1 = tk_sm i (tk_rw sh (tk_mv μ))) g1.1 ⟨rfl, rfl, rfl, rfl⟩ ?_ ?_
  · rintro i ρ μ' hi0 hi6 ⟨rfl, r0, r3, r1⟩ K hK
    have i1 : tk_iadd i 1 = i + 1 := tk_iadd_id (by omega) (by omega)
    have hb1 := hbd i ⟨hi0, by omega⟩
    have hb2 := hbw i ⟨hi0, by omega⟩
    simp [tk_fn, tk_env, tk_sq, tk_sk, tk_if, tk_re, tk_rez, tk_rev, tk_xp, tk_se, tk_pf, tk_pfz, tk_pfo, tk_as, tk_asz, tk_asb, tk_aso, tk_cpy, tk_sw, tk_swc, tk_lit, tk_loc, tk_u1, tk_bin, tk_dv, tk_gf, tk_gr, tk_gn, tk_ald, tk_aldq, tk_aln, tk_unl, tk_una, tk_ter, tk_args, tk_cs, tk_cv, tk_ceq, tk_cne, tk_clt, tk_cge, tk_cgt, tk_cle, tk_zeq, tk_zne, tk_zlt, tk_zge, tk_zgt, tk_zle, tk_and, tk_or, tk_not, tk_ct2, tk_isC, List.headD_cons, tk_up, tk_sca, tk_scl, r0, r1, r3, hi6, i1]
    refine m_readyWeight (Q := fun v μ1 => K (fun j => if j = 3 then i + 1 else if j = 1 then tk_ladd (tk_sm i (tk_rw sh (tk_mv μ'))) v else ρ j) μ1) hJ hm hb ⟨hi0, hi6⟩ ?_
    rw [tk_ladd_id (by omega) (by omega)]
    exact hK _ _ ⟨rfl, r0, rfl, (tk_sm_s hi0).symm⟩
  · rintro ρ μ' ⟨rfl, r0, r3, r1⟩ X
    simp [tk_fn, tk_env, tk_sq, tk_sk, tk_if, tk_re, tk_rez, tk_rev, tk_xp, tk_se, tk_pf, tk_pfz, tk_pfo, tk_as, tk_asz, tk_asb, tk_aso, tk_cpy, tk_sw, tk_swc, tk_lit, tk_loc, tk_u1, tk_bin, tk_dv, tk_gf, tk_gr, tk_gn, tk_ald, tk_aldq, tk_aln, tk_unl, tk_una, tk_ter, tk_args, tk_cs, tk_cv, tk_ceq, tk_cne, tk_clt, tk_cge, tk_cgt, tk_cle, tk_zeq, tk_zne, tk_zlt, tk_zge, tk_zgt, tk_zle, tk_and, tk_or, tk_not, tk_ct2, tk_isC, List.headD_cons, tk_up, tk_sca, tk_scl, r0, r1, r3]
    exact hQ
theorem tk_std_l2i {x : Int} (h : 0 ≤ x ∧ x ≤ 100000000) : tk_l2i x = x := tk_l2i_id ⟨by omega, by omega⟩
theorem m_strideOf {b : Int} {sh : Int → Int} {μ : tk_M} {Q : Int → tk_M → Prop} {c : Int} (hJ : tk_J b (tk_mv μ)) (hm : tk_mq sh μ) (hb : tk_shb sh) (hc : 0 ≤ c ∧ c < μ 96 5) (hQ : Q (tk_std sh (tk_mv μ) c) μ) : tkF_X7_strideOf [96, c] Q μ := by
  have hw := tk_we_bd hJ hb (c := c) hc
  unfold tk_std at hQ
  simp [tk_fn, tk_env, tk_sq, tk_sk, tk_if, tk_re, tk_rez, tk_rev, tk_xp, tk_se, tk_pf, tk_pfz, tk_pfo, tk_as, tk_asz, tk_asb, tk_aso, tk_cpy, tk_sw, tk_swc, tk_lit, tk_loc, tk_u1, tk_bin, tk_dv, tk_gf, tk_gr, tk_gn, tk_ald, tk_aldq, tk_aln, tk_unl, tk_una, tk_ter, tk_args, tk_cs, tk_cv, tk_ceq, tk_cne, tk_clt, tk_cge, tk_cgt, tk_cle, tk_zeq, tk_zne, tk_zlt, tk_zge, tk_zgt, tk_zle, tk_and, tk_or, tk_not, tk_ct2, tk_isC, List.headD_cons, tk_up, tk_sca, tk_scl, tkF_X7_strideOf, tkS_X7_strideOf]
  refine m_weightOf hJ hm hb hc ?_
  by_cases h : 0 < tk_we sh (tk_mv μ) c
  · have h0 : ¬ tk_we sh (tk_mv μ) c = 0 := by omega
    rw [if_pos h] at hQ
    simp only [h0, if_false]
    refine m_weightOf hJ hm hb hc ?_
    refine ⟨h0, ?_⟩
    have h2 := tk_ediv_le (x := 100000000) (by omega) h
    rw [m_atLeast, tk_ldiv_id (by omega) (by omega)]
    rw [tk_std_l2i (by omega)]
    exact hQ
  · have h0 : tk_we sh (tk_mv μ) c = 0 := by omega
    rw [if_neg h] at hQ
    simpa [h0] using hQ
theorem m_partsOf {b : Int} {μ : tk_M} {Q : Int → tk_M → Prop} {c : Int} (hJ : tk_J b (tk_mv μ)) (hbb : b ≤ 1000000) (hc : 0 ≤ c ∧ c < μ 96 5) (hQ : Q (tk_prt (tk_mv μ) c) μ) : tkF_X7_partsOf [96, c] Q μ := by
  obtain ⟨g1, g2, g3, g4, g5⟩ := tk_mJ hJ
  have h := (g4 c hc.1 hc.2)
  have h8 : c < 8 := by omega
  have hd := tk_ediv_le (x := μ 96 13) (y := 10) g2.1 (by omega)
  have l1 : tk_idiv (μ 96 13) 10 = μ 96 13 / 10 := tk_idiv_id (by omega) (by omega)
  have l2 : tk_irem (μ 96 13 / 10) 2 = μ 96 13 / 10 % 2 := tk_irem_id (by omega) (by omega)
  have l3 : tk_irem (μ 96 13) 4 = μ 96 13 % 4 := tk_irem_id (by omega) (by omega)
  have hm : 0 ≤ μ 96 13 % 4 ∧ μ 96 13 % 4 < 4 := ⟨Int.emod_nonneg _ (by omega), Int.emod_lt_of_pos _ (by omega)⟩
  have l4 : tk_imul 4 c = 4 * c := tk_imul_id (by omega) (by omega)
  have l5 : tk_iadd (4 * c) (μ 96 13 % 4) = 4 * c + μ 96 13 % 4 := tk_iadd_id (by omega) (by omega)
  have l6 : tk_iadd (μ 101 c) 1 = μ 101 c + 1 := tk_iadd_id (by omega) (by omega)
  have l7 : tk_isub 10 (μ 101 c) = 10 - μ 101 c := tk_isub_id (by omega) (by omega)
  have l8 : tk_idiv (μ 101 c + 1) 2 = (μ 101 c + 1) / 2 := tk_idiv_id (by omega) (by omega)
  have hr := g5 (4 * c + μ 96 13 % 4) (by omega) (by omega)
  have h32 : 4 * c + μ 96 13 % 4 < 32 := by omega
  have h30 : 0 ≤ 4 * c + μ 96 13 % 4 := by omega
  have hbu : tk_bu (tk_mv μ) = 5 ∧ μ 96 13 / 10 % 2 = 1 ∨ tk_bu (tk_mv μ) = 10 ∧ ¬ μ 96 13 / 10 % 2 = 1 := by
    have e : tk_bu (tk_mv μ) = if μ 96 13 / 10 % 2 = 1 then 5 else 10 := rfl
    rw [e]
    by_cases hq : μ 96 13 / 10 % 2 = 1 <;> simp [hq]
  have hp : tk_prt (tk_mv μ) c = if μ 100 c = 1 then μ 101 c + 1 else if μ 100 c = 3 then tk_bu (tk_mv μ) else if μ 100 c = 4 then tk_mx1 ((μ 101 c + 1) / 2) else if μ 100 c = 5 then 10 - μ 101 c else if μ 100 c = 6 then tk_mx1 (tk_bu (tk_mv μ) - μ 106 (4 * c + μ 96 13 % 4)) else 10 := rfl
  rw [hp] at hQ
  have hq2 : 0 ≤ (μ 101 c + 1) / 2 ∧ (μ 101 c + 1) / 2 ≤ 5 := by omega
  have l9 : tk_l2i ((μ 101 c + 1) / 2) = (μ 101 c + 1) / 2 := tk_std_l2i (by omega)
  have hk : μ 100 c = 0 ∨ μ 100 c = 1 ∨ μ 100 c = 2 ∨ μ 100 c = 3 ∨ μ 100 c = 4 ∨ μ 100 c = 5 ∨ μ 100 c = 6 := by omega
  rcases hbu with ⟨hbu, hbq⟩ | ⟨hbu, hbq⟩
  · have l10 : tk_isub 5 (μ 106 (4 * c + μ 96 13 % 4)) = 5 - μ 106 (4 * c + μ 96 13 % 4) := tk_isub_id (by omega) (by omega)
    have l11 : ¬ 5 - μ 106 (4 * c + μ 96 13 % 4) < 1 → tk_l2i (5 - μ 106 (4 * c + μ 96 13 % 4)) = 5 - μ 106 (4 * c + μ 96 13 % 4) := fun z => tk_std_l2i (by omega)
    rcases hk with hk | hk | hk | hk | hk | hk | hk <;> simp [hk, hbu, tk_mx1] at hQ <;> simp [tk_fn, tk_env, tk_sq, tk_sk, tk_if, tk_re, tk_rez, tk_rev, tk_xp, tk_se, tk_pf, tk_pfz, tk_pfo, tk_as, tk_asz, tk_asb, tk_aso, tk_cpy, tk_sw, tk_swc, tk_lit, tk_loc, tk_u1, tk_bin, tk_dv, tk_gf, tk_gr, tk_gn, tk_ald, tk_aldq, tk_aln, tk_unl, tk_una, tk_ter, tk_args, tk_cs, tk_cv, tk_ceq, tk_cne, tk_clt, tk_cge, tk_cgt, tk_cle, tk_zeq, tk_zne, tk_zlt, tk_zge, tk_zgt, tk_zle, tk_and, tk_or, tk_not, tk_ct2, tk_isC, List.headD_cons, tk_up, tk_sca, tk_scl, tkF_X7_partsOf, tkS_X7_partsOf, tk_al_2, tk_al_3, tk_al_4, tk_al_5, tk_al_6, tk_al_7, tk_al_8, tk_al_9, tk_al_10, tk_al_11, tk_al_13, tk_al_14, tk_al_16, tk_al_17, tk_al_19, tk_al_20, tk_al_22, tk_al_24, tk_al_25, tk_al_26, tk_al_27, tk_al_28, tk_al_29, tk_al_30, tk_al_32, tk_al_33, tk_al_34, tk_al_35, tk_al_36, tk_al_37, tk_al_38, tk_al_39, tk_al_40, tk_al_41, tk_al_43, tk_al_44, tk_al_46, tk_al_47, tk_al_49, tk_al_50, tk_al_52, tk_al_54, tk_al_55, tk_al_56, tk_al_57, tk_al_58, tk_al_59, tk_al_60, tk_al_62, tk_al_63, tk_al_64, tk_al_65, tk_al_66, tk_al_67, tk_al_68, tk_al_69, tk_al_70, tk_al_71, tk_al_73, tk_al_74, tk_al_76, tk_al_77, tk_al_79, tk_al_80, tk_al_81, tk_al_83, tk_al_85, tk_al_87, tk_al_89, tk_al_91, tk_al_93, tk_al_95, tk_al_97, tk_al_98, tk_al_99, tk_al_100, tk_al_101, tk_al_102, tk_al_103, tk_al_104, tk_al_105, tk_al_106, tk_al_107, tk_al_108, tk_al_109, tk_al_110, tk_al_111, tk_al_112, tk_al_113, tk_al_114, tk_al_115, tk_al_116, tk_al_117, tk_al_118, tk_al_119, tk_al_120, tk_al_121, tk_al_122, tk_al_123, tk_al_124, tk_al_125, tk_al_126, tk_al_127, tk_al_128, tk_al_129, hc.1, h8, l1, l2, l3, l4, l5, l6, l7, l8, l9, l10, hbq, hk, m_atLeast, h30, h32]
    all_goals first | exact hQ | skip
    by_cases hx : 5 - μ 106 (4 * c + μ 96 13 % 4) < 1
    · rw [if_pos hx] at hQ ⊢; exact hQ
    · rw [if_neg hx] at hQ ⊢; rw [l11 hx]; exact hQ
  · have l10 : tk_isub 10 (μ 106 (4 * c + μ 96 13 % 4)) = 10 - μ 106 (4 * c + μ 96 13 % 4) := tk_isub_id (by omega) (by omega)
    have l11 : ¬ 10 - μ 106 (4 * c + μ 96 13 % 4) < 1 → tk_l2i (10 - μ 106 (4 * c + μ 96 13 % 4)) = 10 - μ 106 (4 * c + μ 96 13 % 4) := fun z => tk_std_l2i (by omega)
    rcases hk with hk | hk | hk | hk | hk | hk | hk <;> simp [hk, hbu, tk_mx1] at hQ <;> simp [tk_fn, tk_env, tk_sq, tk_sk, tk_if, tk_re, tk_rez, tk_rev, tk_xp, tk_se, tk_pf, tk_pfz, tk_pfo, tk_as, tk_asz, tk_asb, tk_aso, tk_cpy, tk_sw, tk_swc, tk_lit, tk_loc, tk_u1, tk_bin, tk_dv, tk_gf, tk_gr, tk_gn, tk_ald, tk_aldq, tk_aln, tk_unl, tk_una, tk_ter, tk_args, tk_cs, tk_cv, tk_ceq, tk_cne, tk_clt, tk_cge, tk_cgt, tk_cle, tk_zeq, tk_zne, tk_zlt, tk_zge, tk_zgt, tk_zle, tk_and, tk_or, tk_not, tk_ct2, tk_isC, List.headD_cons, tk_up, tk_sca, tk_scl, tkF_X7_partsOf, tkS_X7_partsOf, tk_al_2, tk_al_3, tk_al_4, tk_al_5, tk_al_6, tk_al_7, tk_al_8, tk_al_9, tk_al_10, tk_al_11, tk_al_13, tk_al_14, tk_al_16, tk_al_17, tk_al_19, tk_al_20, tk_al_22, tk_al_24, tk_al_25, tk_al_26, tk_al_27, tk_al_28, tk_al_29, tk_al_30, tk_al_32, tk_al_33, tk_al_34, tk_al_35, tk_al_36, tk_al_37, tk_al_38, tk_al_39, tk_al_40, tk_al_41, tk_al_43, tk_al_44, tk_al_46, tk_al_47, tk_al_49, tk_al_50, tk_al_52, tk_al_54, tk_al_55, tk_al_56, tk_al_57, tk_al_58, tk_al_59, tk_al_60, tk_al_62, tk_al_63, tk_al_64, tk_al_65, tk_al_66, tk_al_67, tk_al_68, tk_al_69, tk_al_70, tk_al_71, tk_al_73, tk_al_74, tk_al_76, tk_al_77, tk_al_79, tk_al_80, tk_al_81, tk_al_83, tk_al_85, tk_al_87, tk_al_89, tk_al_91, tk_al_93, tk_al_95, tk_al_97, tk_al_98, tk_al_99, tk_al_100, tk_al_101, tk_al_102, tk_al_103, tk_al_104, tk_al_105, tk_al_106, tk_al_107, tk_al_108, tk_al_109, tk_al_110, tk_al_111, tk_al_112, tk_al_113, tk_al_114, tk_al_115, tk_al_116, tk_al_117, tk_al_118, tk_al_119, tk_al_120, tk_al_121, tk_al_122, tk_al_123, tk_al_124, tk_al_125, tk_al_126, tk_al_127, tk_al_128, tk_al_129, hc.1, h8, l1, l2, l3, l4, l5, l6, l7, l8, l9, l10, hbq, hk, m_atLeast, h30, h32]
    all_goals first | exact hQ | skip
    by_cases hx : 10 - μ 106 (4 * c + μ 96 13 % 4) < 1
    · rw [if_pos hx] at hQ ⊢; exact hQ
    · rw [if_neg hx] at hQ ⊢; rw [l11 hx]; exact hQ
