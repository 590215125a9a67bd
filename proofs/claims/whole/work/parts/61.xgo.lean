/-! ===== Layer 2: the Dealer's quanta go ===== -/
theorem tk_iushr_bd (z : Int) : 0 ≤ tk_iushr z 1 ∧ tk_iushr z 1 ≤ 2147483647 := by
  unfold tk_iushr
  have e : ((Int32.ofInt 1).toUInt32 &&& Int32.toUInt32 31) = 1 := by decide
  rw [e]
  generalize (Int32.ofInt z).toUInt32 = x
  have h1 : (x >>> 1).toNat < 2147483648 := by
    rw [UInt32.toNat_shiftRight]
    have := x.toNat_lt
    have h2 : (1 : UInt32).toNat % 32 = 1 := by decide
    rw [h2, Nat.shiftRight_eq_div_pow]
    omega
  have h3 : (x >>> 1).toInt32.toInt = ((x >>> 1).toNat : Int) := by
    have h4 : (x >>> 1).toInt32.toBitVec = (x >>> 1).toBitVec := rfl
    rw [← Int32.toInt_toBitVec, h4, BitVec.toInt_eq_toNat_of_lt (by rw [UInt32.toNat_toBitVec]; omega), UInt32.toNat_toBitVec]
  omega
theorem x_qBP1 {b : Int} {sh : Int → Int} {μ : tk_M} {Q : Int → tk_M → Prop} (hJ : tk_JL b (tk_hw 1 μ)) (hbb : b ≤ 900000) (hb : tk_shb sh) (hs : tk_xsh 1 sh μ) (hx : tk_xd 1 sh μ) (hQ : ∀ μ', tk_fx 1 μ μ' → tk_hw 1 μ' = tk_qp sh (tk_hw 1 μ) → tk_xsh 1 sh μ' → tk_xd 1 sh μ' → Q (tk_nxt sh (tk_hw 1 μ)) μ') : tkF_X0_quantumByPasses [21] Q μ := by
  obtain ⟨g1, g2, g3, g4, g5⟩ := x_hJ1 hJ.1
  simp [tk_fn, tk_env, tk_sq, tk_sk, tk_if, tk_re, tk_rez, tk_rev, tk_xp, tk_se, tk_pf, tk_pfz, tk_pfo, tk_as, tk_asz, tk_asb, tk_aso, tk_cpy, tk_sw, tk_swc, tk_lit, tk_loc, tk_u1, tk_bin, tk_dv, tk_gf, tk_gr, tk_gn, tk_ald, tk_aldq, tk_aln, tk_unl, tk_una, tk_ter, tk_args, tk_cs, tk_cv, tk_ceq, tk_cne, tk_clt, tk_cge, tk_cgt, tk_cle, tk_zeq, tk_zne, tk_zlt, tk_zge, tk_zgt, tk_zle, tk_and, tk_or, tk_not, tk_ct2, tk_isC, List.headD_cons, tk_up, tk_sca, tk_scl, tkF_X0_quantumByPasses, tkS_X0_quantumByPasses]
  refine x_next1 hJ.1 hx ?_
  have hqp : tk_qp sh (tk_hw 1 μ) = tk_spn (if tk_nxt sh (tk_hw 1 μ) < 0 then tk_hw 1 μ else tk_gro (tk_hw 1 μ) (tk_nxt sh (tk_hw 1 μ)) (tk_std sh (tk_hw 1 μ) (tk_nxt sh (tk_hw 1 μ)))) (tk_nxt sh (tk_hw 1 μ)) := rfl
  have hnx := tk_nxt_in (sh := sh) (S := tk_hw 1 μ) g1.1
  rw [hqp] at hQ
  generalize tk_nxt sh (tk_hw 1 μ) = c at hQ hnx ⊢
  rcases hnx with rfl | ⟨h1, h2, h3⟩
  · simp
    refine x_deal1 hJ.1 hbb hb hs (.inl rfl) (fun μ' hf he hs' hd' => hQ _ hf ?_ hs' hd')
    rw [he, if_pos (by omega)]
  · have h2' : c < μ 1 2 := h2
    have hst := tk_std_bd (tk_rd_1 h3).2.1
    have hJg := tk_J_gro hJ ⟨h1, h2⟩ hst
    have hn : ¬ c = -5 := by omega
    simp [hn]
    refine x_strideOf1 hJ.1 hb hx ⟨h1, h2'⟩ ?_
    refine x_growPass1 hJ (by omega) ⟨h1, h2'⟩ hst (fun μ1 hf1 hd1 he1 => ?_)
    rw [if_neg (by omega)] at hQ
    refine x_deal1 (b := b) (sh := sh) (by rw [he1]; exact hJg) hbb hb (tk_xsh_fx hs (fun j => hf1 _ _ (by omega)) (hf1 _ _ (by omega)) (fun c => by rw [he1, tk_sv_gro])) (.inr ⟨h1, by rw [hf1 1 2 (by omega)]; exact h2'⟩) (fun μ' hf he hs' hd' => hQ _ (tk_fx_t hf1 hf) ?_ hs' hd')
    rw [he, he1]
theorem x_drawnWith1 {b : Int} {sh : Int → Int} {μ : tk_M} {Q : Int → tk_M → Prop} {z : Int} (hJ : tk_J b (tk_hw 1 μ)) (hb : tk_shb sh) (hx : tk_xd 1 sh μ) (hQ : Q (tk_drw sh (tk_hw 1 μ) z) μ) : tkF_X0_drawnWith [21, z] Q μ := by
  obtain ⟨g1, g2, g3, g4, g5⟩ := x_hJ1 hJ
  have hbd := fun i hi => tk_rwp_bd hJ hb i hi
  have hbw := fun c hc => tk_rw_bd hJ hb (c := c) hc
  have htb := tk_tot_bd hJ hb
  have hnP : tk_hw 1 μ 0 2 = μ 1 2 := rfl
  have ht : μ 21 4 = tk_tot sh (tk_hw 1 μ) := hx.2.2.2
  have hw : ∀ c : Int, 0 ≤ c → c < μ 1 2 → μ 22 c = tk_we sh (tk_hw 1 μ) c := hx.1
  by_cases hp : 0 < tk_tot sh (tk_hw 1 μ)
  · have hp2 : ¬ tk_tot sh (tk_hw 1 μ) ≤ 0 := by omega
    have hp3 : ¬ tk_tot sh (tk_hw 1 μ) = 0 := by omega
    have hdr : tk_drw sh (tk_hw 1 μ) z = tk_fd (fun _ => True) (fun p => tk_bo (tk_lrem (tk_iushr z 1) (tk_tot sh (tk_hw 1 μ)) < tk_sm (p + 1) (tk_rw sh (tk_hw 1 μ)))) (μ 1 2).toNat := by
      unfold tk_drw
      rw [if_pos hp]
      rfl
    simp [tk_fn, tk_env, tk_sq, tk_sk, tk_if, tk_re, tk_rez, tk_rev, tk_xp, tk_se, tk_pf, tk_pfz, tk_pfo, tk_as, tk_asz, tk_asb, tk_aso, tk_cpy, tk_sw, tk_swc, tk_lit, tk_loc, tk_u1, tk_bin, tk_dv, tk_gf, tk_gr, tk_gn, tk_ald, tk_aldq, tk_aln, tk_unl, tk_una, tk_ter, tk_args, tk_cs, tk_cv, tk_ceq, tk_cne, tk_clt, tk_cge, tk_cgt, tk_cle, tk_zeq, tk_zne, tk_zlt, tk_zge, tk_zgt, tk_zle, tk_and, tk_or, tk_not, tk_ct2, tk_isC, List.headD_cons, tk_up, tk_sca, tk_scl, tkF_X0_drawnWith, tkS_X0_drawnWith, ht, hp2, hp3]
    rw [hdr] at hQ
    have hzb := tk_iushr_bd z
    have hat : 0 ≤ tk_lrem (tk_iushr z 1) (tk_tot sh (tk_hw 1 μ)) := by
      rw [tk_lrem_id (by omega) (by omega)]
      exact Int.emod_nonneg _ (by omega)
    generalize tk_lrem (tk_iushr z 1) (tk_tot sh (tk_hw 1 μ)) = at' at hQ hat ⊢
    have hff := tk_fd_ff (P := fun _ => True) (f := fun p => tk_bo (at' < tk_sm (p + 1) (tk_rw sh (tk_hw 1 μ)))) (μ 1 2) g1.1
    have hbo : ∀ p, (tk_bo (at' < tk_sm (p + 1) (tk_rw sh (tk_hw 1 μ))) = 1) ↔ at' < tk_sm (p + 1) (tk_rw sh (tk_hw 1 μ)) := fun p => by unfold tk_bo; split <;> simp_all
    refine tk_for (μ 1 2) (fun i ρ μ' => μ' = μ ∧ ρ 0 = 21 ∧ ρ 2 = at' ∧ ρ 6 = i ∧ ρ 4 = tk_sm i (tk_rw sh (tk_hw 1 μ)) ∧ ∀ p : Int, 0 ≤ p → p < i → ¬ at' < tk_sm (p + 1) (tk_rw sh (tk_hw 1 μ))) g1.1 ⟨rfl, rfl, rfl, rfl, rfl, fun p h1 h2 => by omega⟩ ?_ ?_
    · rintro i ρ μ' hi0 hi6 ⟨rfl, r0, r2, r6, r4, hno⟩ K hK
      have i1 : tk_iadd i 1 = i + 1 := tk_iadd_id (by omega) (by omega)
      have h8 : i < 8 := by omega
      have hb1 := hbd i ⟨hi0, by omega⟩
      have hb2 := hbw i ⟨hi0, by omega⟩
      have hs : tk_sm (i + 1) (tk_rw sh (tk_hw 1 μ')) = tk_sm i (tk_rw sh (tk_hw 1 μ')) + tk_rw sh (tk_hw 1 μ') i := tk_sm_s hi0
      have hrw : tk_rw sh (tk_hw 1 μ') i = if tk_rd sh (tk_hw 1 μ') i = 1 then tk_we sh (tk_hw 1 μ') i else 0 := rfl
      have hwi := hw i hi0 hi6
      have hprev : ¬ at' < tk_sm i (tk_rw sh (tk_hw 1 μ')) := by
        by_cases h0 : i = 0
        · subst h0; rw [tk_sm_0]; omega
        · have := hno (i - 1) (by omega) (by omega)
          rwa [show i - 1 + 1 = i by omega] at this
      rcases tk_rd_01 (sh := sh) (S := tk_hw 1 μ') (c := i) with h | h
      · rw [h] at hrw
        simp at hrw
        simp [tk_fn, tk_env, tk_sq, tk_sk, tk_if, tk_re, tk_rez, tk_rev, tk_xp, tk_se, tk_pf, tk_pfz, tk_pfo, tk_as, tk_asz, tk_asb, tk_aso, tk_cpy, tk_sw, tk_swc, tk_lit, tk_loc, tk_u1, tk_bin, tk_dv, tk_gf, tk_gr, tk_gn, tk_ald, tk_aldq, tk_aln, tk_unl, tk_una, tk_ter, tk_args, tk_cs, tk_cv, tk_ceq, tk_cne, tk_clt, tk_cge, tk_cgt, tk_cle, tk_zeq, tk_zne, tk_zlt, tk_zge, tk_zgt, tk_zle, tk_and, tk_or, tk_not, tk_ct2, tk_isC, List.headD_cons, tk_up, tk_sca, tk_scl, r0, r2, r4, r6, hi6, i1, x_isReady1 hx ⟨hi0, hi6⟩ g1.2, h]
        refine hK _ _ ⟨rfl, r0, r2, rfl, by rw [hs, hrw]; simpa [tk_up] using r4, fun p h1 h2 => ?_⟩
        by_cases hpi : p = i
        · subst hpi; rw [hs, hrw]; omega
        · exact hno p h1 (by omega)
      · rw [h, if_pos rfl] at hrw
        have l1 : tk_ladd (tk_sm i (tk_rw sh (tk_hw 1 μ'))) (tk_we sh (tk_hw 1 μ') i) = tk_sm (i + 1) (tk_rw sh (tk_hw 1 μ')) := by
          rw [tk_ladd_id (by omega) (by omega)]; omega
        by_cases hq : at' < tk_sm (i + 1) (tk_rw sh (tk_hw 1 μ'))
        · simp [tk_fn, tk_env, tk_sq, tk_sk, tk_if, tk_re, tk_rez, tk_rev, tk_xp, tk_se, tk_pf, tk_pfz, tk_pfo, tk_as, tk_asz, tk_asb, tk_aso, tk_cpy, tk_sw, tk_swc, tk_lit, tk_loc, tk_u1, tk_bin, tk_dv, tk_gf, tk_gr, tk_gn, tk_ald, tk_aldq, tk_aln, tk_unl, tk_una, tk_ter, tk_args, tk_cs, tk_cv, tk_ceq, tk_cne, tk_clt, tk_cge, tk_cgt, tk_cle, tk_zeq, tk_zne, tk_zlt, tk_zge, tk_zgt, tk_zle, tk_and, tk_or, tk_not, tk_ct2, tk_isC, List.headD_cons, tk_up, tk_sca, tk_scl, r0, r2, r4, r6, hi6, i1, x_isReady1 hx ⟨hi0, hi6⟩ g1.2, h, tk_al_2, tk_al_3, tk_al_4, tk_al_5, tk_al_6, tk_al_7, tk_al_8, tk_al_9, tk_al_10, tk_al_11, tk_al_13, tk_al_14, tk_al_16, tk_al_17, tk_al_19, tk_al_20, tk_al_22, tk_al_24, tk_al_25, tk_al_26, tk_al_27, tk_al_28, tk_al_29, tk_al_30, tk_al_32, tk_al_33, tk_al_34, tk_al_35, tk_al_36, tk_al_37, tk_al_38, tk_al_39, tk_al_40, tk_al_41, tk_al_43, tk_al_44, tk_al_46, tk_al_47, tk_al_49, tk_al_50, tk_al_52, tk_al_54, tk_al_55, tk_al_56, tk_al_57, tk_al_58, tk_al_59, tk_al_60, tk_al_62, tk_al_63, tk_al_64, tk_al_65, tk_al_66, tk_al_67, tk_al_68, tk_al_69, tk_al_70, tk_al_71, tk_al_73, tk_al_74, tk_al_76, tk_al_77, tk_al_79, tk_al_80, tk_al_81, tk_al_83, tk_al_85, tk_al_87, tk_al_89, tk_al_91, tk_al_93, tk_al_95, tk_al_97, tk_al_98, tk_al_99, tk_al_100, tk_al_101, tk_al_102, tk_al_103, tk_al_104, tk_al_105, tk_al_106, tk_al_107, tk_al_108, tk_al_109, tk_al_110, tk_al_111, tk_al_112, tk_al_113, tk_al_114, tk_al_115, tk_al_116, tk_al_117, tk_al_118, tk_al_119, tk_al_120, tk_al_121, tk_al_122, tk_al_123, tk_al_124, tk_al_125, tk_al_126, tk_al_127, tk_al_128, tk_al_129, hi0, h8, hwi, l1, hq]
          have : i = tk_fd (fun _ => True) (fun p => tk_bo (at' < tk_sm (p + 1) (tk_rw sh (tk_hw 1 μ')))) (μ' 1 2).toNat := by
            refine tk_ff_u (.inr ⟨hi0, hi6, (hbo i).mpr hq, fun p h1 h2 z => hno p h1 h2 ((hbo p).mp z)⟩) hff
          rw [← this] at hQ
          exact hQ
        · simp [tk_fn, tk_env, tk_sq, tk_sk, tk_if, tk_re, tk_rez, tk_rev, tk_xp, tk_se, tk_pf, tk_pfz, tk_pfo, tk_as, tk_asz, tk_asb, tk_aso, tk_cpy, tk_sw, tk_swc, tk_lit, tk_loc, tk_u1, tk_bin, tk_dv, tk_gf, tk_gr, tk_gn, tk_ald, tk_aldq, tk_aln, tk_unl, tk_una, tk_ter, tk_args, tk_cs, tk_cv, tk_ceq, tk_cne, tk_clt, tk_cge, tk_cgt, tk_cle, tk_zeq, tk_zne, tk_zlt, tk_zge, tk_zgt, tk_zle, tk_and, tk_or, tk_not, tk_ct2, tk_isC, List.headD_cons, tk_up, tk_sca, tk_scl, r0, r2, r4, r6, hi6, i1, x_isReady1 hx ⟨hi0, hi6⟩ g1.2, h, tk_al_2, tk_al_3, tk_al_4, tk_al_5, tk_al_6, tk_al_7, tk_al_8, tk_al_9, tk_al_10, tk_al_11, tk_al_13, tk_al_14, tk_al_16, tk_al_17, tk_al_19, tk_al_20, tk_al_22, tk_al_24, tk_al_25, tk_al_26, tk_al_27, tk_al_28, tk_al_29, tk_al_30, tk_al_32, tk_al_33, tk_al_34, tk_al_35, tk_al_36, tk_al_37, tk_al_38, tk_al_39, tk_al_40, tk_al_41, tk_al_43, tk_al_44, tk_al_46, tk_al_47, tk_al_49, tk_al_50, tk_al_52, tk_al_54, tk_al_55, tk_al_56, tk_al_57, tk_al_58, tk_al_59, tk_al_60, tk_al_62, tk_al_63, tk_al_64, tk_al_65, tk_al_66, tk_al_67, tk_al_68, tk_al_69, tk_al_70, tk_al_71, tk_al_73, tk_al_74, tk_al_76, tk_al_77, tk_al_79, tk_al_80, tk_al_81, tk_al_83, tk_al_85, tk_al_87, tk_al_89, tk_al_91, tk_al_93, tk_al_95, tk_al_97, tk_al_98, tk_al_99, tk_al_100, tk_al_101, tk_al_102, tk_al_103, tk_al_104, tk_al_105, tk_al_106, tk_al_107, tk_al_108, tk_al_109, tk_al_110, tk_al_111, tk_al_112, tk_al_113, tk_al_114, tk_al_115, tk_al_116, tk_al_117, tk_al_118, tk_al_119, tk_al_120, tk_al_121, tk_al_122, tk_al_123, tk_al_124, tk_al_125, tk_al_126, tk_al_127, tk_al_128, tk_al_129, hi0, h8, hwi, l1, hq]
          refine hK _ _ ⟨rfl, r0, r2, rfl, rfl, fun p h1 h2 => ?_⟩
          by_cases hpi : p = i
          · subst hpi; exact hq
          · exact hno p h1 (by omega)
    · rintro ρ μ' ⟨rfl, r0, r2, r6, r4, hno⟩ X
      simp [tk_fn, tk_env, tk_sq, tk_sk, tk_if, tk_re, tk_rez, tk_rev, tk_xp, tk_se, tk_pf, tk_pfz, tk_pfo, tk_as, tk_asz, tk_asb, tk_aso, tk_cpy, tk_sw, tk_swc, tk_lit, tk_loc, tk_u1, tk_bin, tk_dv, tk_gf, tk_gr, tk_gn, tk_ald, tk_aldq, tk_aln, tk_unl, tk_una, tk_ter, tk_args, tk_cs, tk_cv, tk_ceq, tk_cne, tk_clt, tk_cge, tk_cgt, tk_cle, tk_zeq, tk_zne, tk_zlt, tk_zge, tk_zgt, tk_zle, tk_and, tk_or, tk_not, tk_ct2, tk_isC, List.headD_cons, tk_up, tk_sca, tk_scl, r0, r6]
      have : (-5 : Int) = tk_fd (fun _ => True) (fun p => tk_bo (at' < tk_sm (p + 1) (tk_rw sh (tk_hw 1 μ')))) (μ' 1 2).toNat := by
        refine tk_ff_u (.inl ⟨rfl, fun p h1 h2 z => hno p h1 h2 ((hbo p).mp z)⟩) hff
      rw [← this] at hQ
      exact hQ
  · have hp2 : tk_tot sh (tk_hw 1 μ) ≤ 0 := by omega
    have hdr : tk_drw sh (tk_hw 1 μ) z = -5 := by
      unfold tk_drw
      rw [if_neg hp]
    rw [hdr] at hQ
    simp [tk_fn, tk_env, tk_sq, tk_sk, tk_if, tk_re, tk_rez, tk_rev, tk_xp, tk_se, tk_pf, tk_pfz, tk_pfo, tk_as, tk_asz, tk_asb, tk_aso, tk_cpy, tk_sw, tk_swc, tk_lit, tk_loc, tk_u1, tk_bin, tk_dv, tk_gf, tk_gr, tk_gn, tk_ald, tk_aldq, tk_aln, tk_unl, tk_una, tk_ter, tk_args, tk_cs, tk_cv, tk_ceq, tk_cne, tk_clt, tk_cge, tk_cgt, tk_cle, tk_zeq, tk_zne, tk_zlt, tk_zge, tk_zgt, tk_zle, tk_and, tk_or, tk_not, tk_ct2, tk_isC, List.headD_cons, tk_up, tk_sca, tk_scl, tkF_X0_drawnWith, tkS_X0_drawnWith, ht, hp2]
    exact hQ
theorem x_qDr1 {b : Int} {sh : Int → Int} {μ : tk_M} {Q : Int → tk_M → Prop} {z : Int} (hJ : tk_J b (tk_hw 1 μ)) (hbb : b ≤ 900000) (hb : tk_shb sh) (hs : tk_xsh 1 sh μ) (hx : tk_xd 1 sh μ) (hQ : ∀ μ', tk_fx 1 μ μ' → tk_hw 1 μ' = tk_spn (tk_hw 1 μ) (tk_drw sh (tk_hw 1 μ) z) → tk_xsh 1 sh μ' → tk_xd 1 sh μ' → Q (tk_drw sh (tk_hw 1 μ) z) μ') : tkF_X0_quantumDrawn [21, z] Q μ := by
  obtain ⟨g1, g2, g3, g4, g5⟩ := x_hJ1 hJ
  simp [tk_fn, tk_env, tk_sq, tk_sk, tk_if, tk_re, tk_rez, tk_rev, tk_xp, tk_se, tk_pf, tk_pfz, tk_pfo, tk_as, tk_asz, tk_asb, tk_aso, tk_cpy, tk_sw, tk_swc, tk_lit, tk_loc, tk_u1, tk_bin, tk_dv, tk_gf, tk_gr, tk_gn, tk_ald, tk_aldq, tk_aln, tk_unl, tk_una, tk_ter, tk_args, tk_cs, tk_cv, tk_ceq, tk_cne, tk_clt, tk_cge, tk_cgt, tk_cle, tk_zeq, tk_zne, tk_zlt, tk_zge, tk_zgt, tk_zle, tk_and, tk_or, tk_not, tk_ct2, tk_isC, List.headD_cons, tk_up, tk_sca, tk_scl, tkF_X0_quantumDrawn, tkS_X0_quantumDrawn]
  refine x_drawnWith1 hJ hb hx ?_
  exact x_deal1 hJ hbb hb hs (tk_drw_in g1.1) hQ
theorem x_goBP1 {b n : Int} {sh : Int → Int} {μ : tk_M} {Q : Int → tk_M → Prop} (hJ : tk_JL b (tk_hw 1 μ)) (hbb : b ≤ 500000) (hn : 0 ≤ n ∧ n ≤ 40) (hb : tk_shb sh) (hs : tk_xsh 1 sh μ) (hx : tk_xd 1 sh μ) (hQ : ∀ μ', tk_fx 1 μ μ' → tk_hw 1 μ' = tk_gp sh (tk_hw 1 μ) n.toNat → tk_xsh 1 sh μ' → tk_xd 1 sh μ' → Q (tk_gpl sh (tk_hw 1 μ) n.toNat) μ') : tkF_X0_goByPasses [21, n] Q μ := by
  simp [tk_fn, tk_env, tk_sq, tk_sk, tk_if, tk_re, tk_rez, tk_rev, tk_xp, tk_se, tk_pf, tk_pfz, tk_pfo, tk_as, tk_asz, tk_asb, tk_aso, tk_cpy, tk_sw, tk_swc, tk_lit, tk_loc, tk_u1, tk_bin, tk_dv, tk_gf, tk_gr, tk_gn, tk_ald, tk_aldq, tk_aln, tk_unl, tk_una, tk_ter, tk_args, tk_cs, tk_cv, tk_ceq, tk_cne, tk_clt, tk_cge, tk_cgt, tk_cle, tk_zeq, tk_zne, tk_zlt, tk_zge, tk_zgt, tk_zle, tk_and, tk_or, tk_not, tk_ct2, tk_isC, List.headD_cons, tk_up, tk_sca, tk_scl, tkF_X0_goByPasses, tkS_X0_goByPasses]
  refine tk_for n (fun i ρ μ' => ρ 0 = 21 ∧ ρ 1 = n ∧ ρ 3 = i ∧ ρ 2 = tk_gpl sh (tk_hw 1 μ) i.toNat ∧ tk_fx 1 μ μ' ∧ tk_hw 1 μ' = tk_gp sh (tk_hw 1 μ) i.toNat ∧ tk_xsh 1 sh μ' ∧ tk_xd 1 sh μ') hn.1 ⟨rfl, rfl, rfl, rfl, tk_fx_r, rfl, hs, hx⟩ ?_ ?_
  · rintro i ρ μ' hi0 hi6 ⟨r0, r1, r3, r2, hf, he, hs, hx⟩ K hK
    have i1 : tk_iadd i 1 = i + 1 := tk_iadd_id (by omega) (by omega)
    have e : (i + 1).toNat = i.toNat + 1 := by omega
    have hJ2 := tk_gp_J (sh := sh) hJ i.toNat
    simp [tk_fn, tk_env, tk_sq, tk_sk, tk_if, tk_re, tk_rez, tk_rev, tk_xp, tk_se, tk_pf, tk_pfz, tk_pfo, tk_as, tk_asz, tk_asb, tk_aso, tk_cpy, tk_sw, tk_swc, tk_lit, tk_loc, tk_u1, tk_bin, tk_dv, tk_gf, tk_gr, tk_gn, tk_ald, tk_aldq, tk_aln, tk_unl, tk_una, tk_ter, tk_args, tk_cs, tk_cv, tk_ceq, tk_cne, tk_clt, tk_cge, tk_cgt, tk_cle, tk_zeq, tk_zne, tk_zlt, tk_zge, tk_zgt, tk_zle, tk_and, tk_or, tk_not, tk_ct2, tk_isC, List.headD_cons, tk_up, tk_sca, tk_scl, r0, r1, r2, r3, hi6, i1]
    refine x_qBP1 (b := b + 10 * (i.toNat : Nat)) (sh := sh) (by rw [he]; exact hJ2) (by omega) hb hs hx (fun μ2 hf2 he2 hs2 hx2 => ?_)
    rw [he] at he2 ⊢
    refine hK _ _ ⟨r0, r1, rfl, ?_, tk_fx_t hf hf2, ?_, hs2, hx2⟩
    · rw [e]; rfl
    · rw [e, he2]; rfl
  · rintro ρ μ' ⟨r0, r1, r3, r2, hf, he, hs, hx⟩ X
    simp [tk_fn, tk_env, tk_sq, tk_sk, tk_if, tk_re, tk_rez, tk_rev, tk_xp, tk_se, tk_pf, tk_pfz, tk_pfo, tk_as, tk_asz, tk_asb, tk_aso, tk_cpy, tk_sw, tk_swc, tk_lit, tk_loc, tk_u1, tk_bin, tk_dv, tk_gf, tk_gr, tk_gn, tk_ald, tk_aldq, tk_aln, tk_unl, tk_una, tk_ter, tk_args, tk_cs, tk_cv, tk_ceq, tk_cne, tk_clt, tk_cge, tk_cgt, tk_cle, tk_zeq, tk_zne, tk_zlt, tk_zge, tk_zgt, tk_zle, tk_and, tk_or, tk_not, tk_ct2, tk_isC, List.headD_cons, tk_up, tk_sca, tk_scl, r0, r1, r2, r3]
    exact hQ _ hf he hs hx
theorem x_dFrom1 {b n seed : Int} {sh : Int → Int} {μ : tk_M} {Q : Int → tk_M → Prop} (hJ : tk_JL b (tk_hw 1 μ)) (hbb : b ≤ 500000) (hn : 0 ≤ n ∧ n ≤ 40) (hb : tk_shb sh) (hs : tk_xsh 1 sh μ) (hx : tk_xd 1 sh μ) (hQ : ∀ μ', tk_fx 1 μ μ' → tk_hw 1 μ' = tk_gd sh (tk_hw 1 μ) seed n.toNat → tk_xsh 1 sh μ' → tk_xd 1 sh μ' → Q (tk_gdl sh (tk_hw 1 μ) seed n.toNat) μ') : tkF_X0_drawFrom [21, seed, n] Q μ := by
  simp [tk_fn, tk_env, tk_sq, tk_sk, tk_if, tk_re, tk_rez, tk_rev, tk_xp, tk_se, tk_pf, tk_pfz, tk_pfo, tk_as, tk_asz, tk_asb, tk_aso, tk_cpy, tk_sw, tk_swc, tk_lit, tk_loc, tk_u1, tk_bin, tk_dv, tk_gf, tk_gr, tk_gn, tk_ald, tk_aldq, tk_aln, tk_unl, tk_una, tk_ter, tk_args, tk_cs, tk_cv, tk_ceq, tk_cne, tk_clt, tk_cge, tk_cgt, tk_cle, tk_zeq, tk_zne, tk_zlt, tk_zge, tk_zgt, tk_zle, tk_and, tk_or, tk_not, tk_ct2, tk_isC, List.headD_cons, tk_up, tk_sca, tk_scl, tkF_X0_drawFrom, tkS_X0_drawFrom]
  refine tk_for n (fun i ρ μ' => ρ 0 = 21 ∧ ρ 2 = n ∧ ρ 5 = i ∧ ρ 4 = tk_zk seed i.toNat ∧ ρ 3 = tk_gdl sh (tk_hw 1 μ) seed i.toNat ∧ tk_fx 1 μ μ' ∧ tk_hw 1 μ' = tk_gd sh (tk_hw 1 μ) seed i.toNat ∧ tk_xsh 1 sh μ' ∧ tk_xd 1 sh μ') hn.1 ⟨rfl, rfl, rfl, rfl, rfl, tk_fx_r, rfl, hs, hx⟩ ?_ ?_
  · rintro i ρ μ' hi0 hi6 ⟨r0, r2, r5, r4, r3, hf, he, hs, hx⟩ K hK
    have i1 : tk_iadd i 1 = i + 1 := tk_iadd_id (by omega) (by omega)
    have e : (i + 1).toNat = i.toNat + 1 := by omega
    have hJ2 := tk_gd_J (sh := sh) (z := seed) hJ i.toNat
    have hz : tk_iadd (tk_imul (tk_zk seed i.toNat) 1103515245) 12345 = tk_zk seed (i.toNat + 1) := rfl
    simp [tk_fn, tk_env, tk_sq, tk_sk, tk_if, tk_re, tk_rez, tk_rev, tk_xp, tk_se, tk_pf, tk_pfz, tk_pfo, tk_as, tk_asz, tk_asb, tk_aso, tk_cpy, tk_sw, tk_swc, tk_lit, tk_loc, tk_u1, tk_bin, tk_dv, tk_gf, tk_gr, tk_gn, tk_ald, tk_aldq, tk_aln, tk_unl, tk_una, tk_ter, tk_args, tk_cs, tk_cv, tk_ceq, tk_cne, tk_clt, tk_cge, tk_cgt, tk_cle, tk_zeq, tk_zne, tk_zlt, tk_zge, tk_zgt, tk_zle, tk_and, tk_or, tk_not, tk_ct2, tk_isC, List.headD_cons, tk_up, tk_sca, tk_scl, r0, r2, r3, r4, r5, hi6, i1, tkF_X0_numberBehind, tkS_X0_numberBehind, hz]
    refine x_qDr1 (b := b + 10 * (i.toNat : Nat)) (sh := sh) (by rw [he]; exact hJ2.1) (by omega) hb hs hx (fun μ2 hf2 he2 hs2 hx2 => ?_)
    rw [he] at he2 ⊢
    refine hK _ _ ⟨r0, r2, rfl, ?_, ?_, tk_fx_t hf hf2, ?_, hs2, hx2⟩
    · rw [e]; simp [tk_up]
    · rw [e]; rfl
    · rw [e, he2]; rfl
  · rintro ρ μ' ⟨r0, r2, r5, r4, r3, hf, he, hs, hx⟩ X
    simp [tk_fn, tk_env, tk_sq, tk_sk, tk_if, tk_re, tk_rez, tk_rev, tk_xp, tk_se, tk_pf, tk_pfz, tk_pfo, tk_as, tk_asz, tk_asb, tk_aso, tk_cpy, tk_sw, tk_swc, tk_lit, tk_loc, tk_u1, tk_bin, tk_dv, tk_gf, tk_gr, tk_gn, tk_ald, tk_aldq, tk_aln, tk_unl, tk_una, tk_ter, tk_args, tk_cs, tk_cv, tk_ceq, tk_cne, tk_clt, tk_cge, tk_cgt, tk_cle, tk_zeq, tk_zne, tk_zlt, tk_zge, tk_zgt, tk_zle, tk_and, tk_or, tk_not, tk_ct2, tk_isC, List.headD_cons, tk_up, tk_sca, tk_scl, r0, r2, r3, r4, r5]
    exact hQ _ hf he hs hx
theorem x_qBP31 {b : Int} {sh : Int → Int} {μ : tk_M} {Q : Int → tk_M → Prop} (hJ : tk_JL b (tk_hw 31 μ)) (hbb : b ≤ 900000) (hb : tk_shb sh) (hs : tk_xsh 31 sh μ) (hx : tk_xd 31 sh μ) (hQ : ∀ μ', tk_fx 31 μ μ' → tk_hw 31 μ' = tk_qp sh (tk_hw 31 μ) → tk_xsh 31 sh μ' → tk_xd 31 sh μ' → Q (tk_nxt sh (tk_hw 31 μ)) μ') : tkF_X0_quantumByPasses [51] Q μ := by
  obtain ⟨g1, g2, g3, g4, g5⟩ := x_hJ31 hJ.1
  simp [tk_fn, tk_env, tk_sq, tk_sk, tk_if, tk_re, tk_rez, tk_rev, tk_xp, tk_se, tk_pf, tk_pfz, tk_pfo, tk_as, tk_asz, tk_asb, tk_aso, tk_cpy, tk_sw, tk_swc, tk_lit, tk_loc, tk_u1, tk_bin, tk_dv, tk_gf, tk_gr, tk_gn, tk_ald, tk_aldq, tk_aln, tk_unl, tk_una, tk_ter, tk_args, tk_cs, tk_cv, tk_ceq, tk_cne, tk_clt, tk_cge, tk_cgt, tk_cle, tk_zeq, tk_zne, tk_zlt, tk_zge, tk_zgt, tk_zle, tk_and, tk_or, tk_not, tk_ct2, tk_isC, List.headD_cons, tk_up, tk_sca, tk_scl, tkF_X0_quantumByPasses, tkS_X0_quantumByPasses]
  refine x_next31 hJ.1 hx ?_
  have hqp : tk_qp sh (tk_hw 31 μ) = tk_spn (if tk_nxt sh (tk_hw 31 μ) < 0 then tk_hw 31 μ else tk_gro (tk_hw 31 μ) (tk_nxt sh (tk_hw 31 μ)) (tk_std sh (tk_hw 31 μ) (tk_nxt sh (tk_hw 31 μ)))) (tk_nxt sh (tk_hw 31 μ)) := rfl
  have hnx := tk_nxt_in (sh := sh) (S := tk_hw 31 μ) g1.1
  rw [hqp] at hQ
  generalize tk_nxt sh (tk_hw 31 μ) = c at hQ hnx ⊢
  rcases hnx with rfl | ⟨h1, h2, h3⟩
  · simp
    refine x_deal31 hJ.1 hbb hb hs (.inl rfl) (fun μ' hf he hs' hd' => hQ _ hf ?_ hs' hd')
    rw [he, if_pos (by omega)]
  · have h2' : c < μ 31 2 := h2
    have hst := tk_std_bd (tk_rd_1 h3).2.1
    have hJg := tk_J_gro hJ ⟨h1, h2⟩ hst
    have hn : ¬ c = -5 := by omega
    simp [hn]
    refine x_strideOf31 hJ.1 hb hx ⟨h1, h2'⟩ ?_
    refine x_growPass31 hJ (by omega) ⟨h1, h2'⟩ hst (fun μ1 hf1 hd1 he1 => ?_)
    rw [if_neg (by omega)] at hQ
    refine x_deal31 (b := b) (sh := sh) (by rw [he1]; exact hJg) hbb hb (tk_xsh_fx hs (fun j => hf1 _ _ (by omega)) (hf1 _ _ (by omega)) (fun c => by rw [he1, tk_sv_gro])) (.inr ⟨h1, by rw [hf1 31 2 (by omega)]; exact h2'⟩) (fun μ' hf he hs' hd' => hQ _ (tk_fx_t hf1 hf) ?_ hs' hd')
    rw [he, he1]
theorem x_drawnWith31 {b : Int} {sh : Int → Int} {μ : tk_M} {Q : Int → tk_M → Prop} {z : Int} (hJ : tk_J b (tk_hw 31 μ)) (hb : tk_shb sh) (hx : tk_xd 31 sh μ) (hQ : Q (tk_drw sh (tk_hw 31 μ) z) μ) : tkF_X0_drawnWith [51, z] Q μ := by
  obtain ⟨g1, g2, g3, g4, g5⟩ := x_hJ31 hJ
  have hbd := fun i hi => tk_rwp_bd hJ hb i hi
  have hbw := fun c hc => tk_rw_bd hJ hb (c := c) hc
  have htb := tk_tot_bd hJ hb
  have hnP : tk_hw 31 μ 0 2 = μ 31 2 := rfl
  have ht : μ 51 4 = tk_tot sh (tk_hw 31 μ) := hx.2.2.2
  have hw : ∀ c : Int, 0 ≤ c → c < μ 31 2 → μ 52 c = tk_we sh (tk_hw 31 μ) c := hx.1
  by_cases hp : 0 < tk_tot sh (tk_hw 31 μ)
  · have hp2 : ¬ tk_tot sh (tk_hw 31 μ) ≤ 0 := by omega
    have hp3 : ¬ tk_tot sh (tk_hw 31 μ) = 0 := by omega
    have hdr : tk_drw sh (tk_hw 31 μ) z = tk_fd (fun _ => True) (fun p => tk_bo (tk_lrem (tk_iushr z 1) (tk_tot sh (tk_hw 31 μ)) < tk_sm (p + 1) (tk_rw sh (tk_hw 31 μ)))) (μ 31 2).toNat := by
      unfold tk_drw
      rw [if_pos hp]
      rfl
    simp [tk_fn, tk_env, tk_sq, tk_sk, tk_if, tk_re, tk_rez, tk_rev, tk_xp, tk_se, tk_pf, tk_pfz, tk_pfo, tk_as, tk_asz, tk_asb, tk_aso, tk_cpy, tk_sw, tk_swc, tk_lit, tk_loc, tk_u1, tk_bin, tk_dv, tk_gf, tk_gr, tk_gn, tk_ald, tk_aldq, tk_aln, tk_unl, tk_una, tk_ter, tk_args, tk_cs, tk_cv, tk_ceq, tk_cne, tk_clt, tk_cge, tk_cgt, tk_cle, tk_zeq, tk_zne, tk_zlt, tk_zge, tk_zgt, tk_zle, tk_and, tk_or, tk_not, tk_ct2, tk_isC, List.headD_cons, tk_up, tk_sca, tk_scl, tkF_X0_drawnWith, tkS_X0_drawnWith, ht, hp2, hp3]
    rw [hdr] at hQ
    have hzb := tk_iushr_bd z
    have hat : 0 ≤ tk_lrem (tk_iushr z 1) (tk_tot sh (tk_hw 31 μ)) := by
      rw [tk_lrem_id (by omega) (by omega)]
      exact Int.emod_nonneg _ (by omega)
    generalize tk_lrem (tk_iushr z 1) (tk_tot sh (tk_hw 31 μ)) = at' at hQ hat ⊢
    have hff := tk_fd_ff (P := fun _ => True) (f := fun p => tk_bo (at' < tk_sm (p + 1) (tk_rw sh (tk_hw 31 μ)))) (μ 31 2) g1.1
    have hbo : ∀ p, (tk_bo (at' < tk_sm (p + 1) (tk_rw sh (tk_hw 31 μ))) = 1) ↔ at' < tk_sm (p + 1) (tk_rw sh (tk_hw 31 μ)) := fun p => by unfold tk_bo; split <;> simp_all
    refine tk_for (μ 31 2) (fun i ρ μ' => μ' = μ ∧ ρ 0 = 51 ∧ ρ 2 = at' ∧ ρ 6 = i ∧ ρ 4 = tk_sm i (tk_rw sh (tk_hw 31 μ)) ∧ ∀ p : Int, 0 ≤ p → p < i → ¬ at' < tk_sm (p + 1) (tk_rw sh (tk_hw 31 μ))) g1.1 ⟨rfl, rfl, rfl, rfl, rfl, fun p h1 h2 => by omega⟩ ?_ ?_
    · rintro i ρ μ' hi0 hi6 ⟨rfl, r0, r2, r6, r4, hno⟩ K hK
      have i1 : tk_iadd i 1 = i + 1 := tk_iadd_id (by omega) (by omega)
      have h8 : i < 8 := by omega
      have hb1 := hbd i ⟨hi0, by omega⟩
      have hb2 := hbw i ⟨hi0, by omega⟩
      have hs : tk_sm (i + 1) (tk_rw sh (tk_hw 31 μ')) = tk_sm i (tk_rw sh (tk_hw 31 μ')) + tk_rw sh (tk_hw 31 μ') i := tk_sm_s hi0
      have hrw : tk_rw sh (tk_hw 31 μ') i = if tk_rd sh (tk_hw 31 μ') i = 1 then tk_we sh (tk_hw 31 μ') i else 0 := rfl
      have hwi := hw i hi0 hi6
      have hprev : ¬ at' < tk_sm i (tk_rw sh (tk_hw 31 μ')) := by
        by_cases h0 : i = 0
        · subst h0; rw [tk_sm_0]; omega
        · have := hno (i - 1) (by omega) (by omega)
          rwa [show i - 1 + 1 = i by omega] at this
      rcases tk_rd_01 (sh := sh) (S := tk_hw 31 μ') (c := i) with h | h
      · rw [h] at hrw
        simp at hrw
        simp [tk_fn, tk_env, tk_sq, tk_sk, tk_if, tk_re, tk_rez, tk_rev, tk_xp, tk_se, tk_pf, tk_pfz, tk_pfo, tk_as, tk_asz, tk_asb, tk_aso, tk_cpy, tk_sw, tk_swc, tk_lit, tk_loc, tk_u1, tk_bin, tk_dv, tk_gf, tk_gr, tk_gn, tk_ald, tk_aldq, tk_aln, tk_unl, tk_una, tk_ter, tk_args, tk_cs, tk_cv, tk_ceq, tk_cne, tk_clt, tk_cge, tk_cgt, tk_cle, tk_zeq, tk_zne, tk_zlt, tk_zge, tk_zgt, tk_zle, tk_and, tk_or, tk_not, tk_ct2, tk_isC, List.headD_cons, tk_up, tk_sca, tk_scl, r0, r2, r4, r6, hi6, i1, x_isReady31 hx ⟨hi0, hi6⟩ g1.2, h]
        refine hK _ _ ⟨rfl, r0, r2, rfl, by rw [hs, hrw]; simpa [tk_up] using r4, fun p h1 h2 => ?_⟩
        by_cases hpi : p = i
        · subst hpi; rw [hs, hrw]; omega
        · exact hno p h1 (by omega)
      · rw [h, if_pos rfl] at hrw
        have l1 : tk_ladd (tk_sm i (tk_rw sh (tk_hw 31 μ'))) (tk_we sh (tk_hw 31 μ') i) = tk_sm (i + 1) (tk_rw sh (tk_hw 31 μ')) := by
          rw [tk_ladd_id (by omega) (by omega)]; omega
        by_cases hq : at' < tk_sm (i + 1) (tk_rw sh (tk_hw 31 μ'))
        · simp [tk_fn, tk_env, tk_sq, tk_sk, tk_if, tk_re, tk_rez, tk_rev, tk_xp, tk_se, tk_pf, tk_pfz, tk_pfo, tk_as, tk_asz, tk_asb, tk_aso, tk_cpy, tk_sw, tk_swc, tk_lit, tk_loc, tk_u1, tk_bin, tk_dv, tk_gf, tk_gr, tk_gn, tk_ald, tk_aldq, tk_aln, tk_unl, tk_una, tk_ter, tk_args, tk_cs, tk_cv, tk_ceq, tk_cne, tk_clt, tk_cge, tk_cgt, tk_cle, tk_zeq, tk_zne, tk_zlt, tk_zge, tk_zgt, tk_zle, tk_and, tk_or, tk_not, tk_ct2, tk_isC, List.headD_cons, tk_up, tk_sca, tk_scl, r0, r2, r4, r6, hi6, i1, x_isReady31 hx ⟨hi0, hi6⟩ g1.2, h, tk_al_2, tk_al_3, tk_al_4, tk_al_5, tk_al_6, tk_al_7, tk_al_8, tk_al_9, tk_al_10, tk_al_11, tk_al_13, tk_al_14, tk_al_16, tk_al_17, tk_al_19, tk_al_20, tk_al_22, tk_al_24, tk_al_25, tk_al_26, tk_al_27, tk_al_28, tk_al_29, tk_al_30, tk_al_32, tk_al_33, tk_al_34, tk_al_35, tk_al_36, tk_al_37, tk_al_38, tk_al_39, tk_al_40, tk_al_41, tk_al_43, tk_al_44, tk_al_46, tk_al_47, tk_al_49, tk_al_50, tk_al_52, tk_al_54, tk_al_55, tk_al_56, tk_al_57, tk_al_58, tk_al_59, tk_al_60, tk_al_62, tk_al_63, tk_al_64, tk_al_65, tk_al_66, tk_al_67, tk_al_68, tk_al_69, tk_al_70, tk_al_71, tk_al_73, tk_al_74, tk_al_76, tk_al_77, tk_al_79, tk_al_80, tk_al_81, tk_al_83, tk_al_85, tk_al_87, tk_al_89, tk_al_91, tk_al_93, tk_al_95, tk_al_97, tk_al_98, tk_al_99, tk_al_100, tk_al_101, tk_al_102, tk_al_103, tk_al_104, tk_al_105, tk_al_106, tk_al_107, tk_al_108, tk_al_109, tk_al_110, tk_al_111, tk_al_112, tk_al_113, tk_al_114, tk_al_115, tk_al_116, tk_al_117, tk_al_118, tk_al_119, tk_al_120, tk_al_121, tk_al_122, tk_al_123, tk_al_124, tk_al_125, tk_al_126, tk_al_127, tk_al_128, tk_al_129, hi0, h8, hwi, l1, hq]
          have : i = tk_fd (fun _ => True) (fun p => tk_bo (at' < tk_sm (p + 1) (tk_rw sh (tk_hw 31 μ')))) (μ' 31 2).toNat := by
            refine tk_ff_u (.inr ⟨hi0, hi6, (hbo i).mpr hq, fun p h1 h2 z => hno p h1 h2 ((hbo p).mp z)⟩) hff
          rw [← this] at hQ
          exact hQ
        · simp [tk_fn, tk_env, tk_sq, tk_sk, tk_if, tk_re, tk_rez, tk_rev, tk_xp, tk_se, tk_pf, tk_pfz, tk_pfo, tk_as, tk_asz, tk_asb, tk_aso, tk_cpy, tk_sw, tk_swc, tk_lit, tk_loc, tk_u1, tk_bin, tk_dv, tk_gf, tk_gr, tk_gn, tk_ald, tk_aldq, tk_aln, tk_unl, tk_una, tk_ter, tk_args, tk_cs, tk_cv, tk_ceq, tk_cne, tk_clt, tk_cge, tk_cgt, tk_cle, tk_zeq, tk_zne, tk_zlt, tk_zge, tk_zgt, tk_zle, tk_and, tk_or, tk_not, tk_ct2, tk_isC, List.headD_cons, tk_up, tk_sca, tk_scl, r0, r2, r4, r6, hi6, i1, x_isReady31 hx ⟨hi0, hi6⟩ g1.2, h, tk_al_2, tk_al_3, tk_al_4, tk_al_5, tk_al_6, tk_al_7, tk_al_8, tk_al_9, tk_al_10, tk_al_11, tk_al_13, tk_al_14, tk_al_16, tk_al_17, tk_al_19, tk_al_20, tk_al_22, tk_al_24, tk_al_25, tk_al_26, tk_al_27, tk_al_28, tk_al_29, tk_al_30, tk_al_32, tk_al_33, tk_al_34, tk_al_35, tk_al_36, tk_al_37, tk_al_38, tk_al_39, tk_al_40, tk_al_41, tk_al_43, tk_al_44, tk_al_46, tk_al_47, tk_al_49, tk_al_50, tk_al_52, tk_al_54, tk_al_55, tk_al_56, tk_al_57, tk_al_58, tk_al_59, tk_al_60, tk_al_62, tk_al_63, tk_al_64, tk_al_65, tk_al_66, tk_al_67, tk_al_68, tk_al_69, tk_al_70, tk_al_71, tk_al_73, tk_al_74, tk_al_76, tk_al_77, tk_al_79, tk_al_80, tk_al_81, tk_al_83, tk_al_85, tk_al_87, tk_al_89, tk_al_91, tk_al_93, tk_al_95, tk_al_97, tk_al_98, tk_al_99, tk_al_100, tk_al_101, tk_al_102, tk_al_103, tk_al_104, tk_al_105, tk_al_106, tk_al_107, tk_al_108, tk_al_109, tk_al_110, tk_al_111, tk_al_112, tk_al_113, tk_al_114, tk_al_115, tk_al_116, tk_al_117, tk_al_118, tk_al_119, tk_al_120, tk_al_121, tk_al_122, tk_al_123, tk_al_124, tk_al_125, tk_al_126, tk_al_127, tk_al_128, tk_al_129, hi0, h8, hwi, l1, hq]
          refine hK _ _ ⟨rfl, r0, r2, rfl, rfl, fun p h1 h2 => ?_⟩
          by_cases hpi : p = i
          · subst hpi; exact hq
          · exact hno p h1 (by omega)
    · rintro ρ μ' ⟨rfl, r0, r2, r6, r4, hno⟩ X
      simp [tk_fn, tk_env, tk_sq, tk_sk, tk_if, tk_re, tk_rez, tk_rev, tk_xp, tk_se, tk_pf, tk_pfz, tk_pfo, tk_as, tk_asz, tk_asb, tk_aso, tk_cpy, tk_sw, tk_swc, tk_lit, tk_loc, tk_u1, tk_bin, tk_dv, tk_gf, tk_gr, tk_gn, tk_ald, tk_aldq, tk_aln, tk_unl, tk_una, tk_ter, tk_args, tk_cs, tk_cv, tk_ceq, tk_cne, tk_clt, tk_cge, tk_cgt, tk_cle, tk_zeq, tk_zne, tk_zlt, tk_zge, tk_zgt, tk_zle, tk_and, tk_or, tk_not, tk_ct2, tk_isC, List.headD_cons, tk_up, tk_sca, tk_scl, r0, r6]
      have : (-5 : Int) = tk_fd (fun _ => True) (fun p => tk_bo (at' < tk_sm (p + 1) (tk_rw sh (tk_hw 31 μ')))) (μ' 31 2).toNat := by
        refine tk_ff_u (.inl ⟨rfl, fun p h1 h2 z => hno p h1 h2 ((hbo p).mp z)⟩) hff
      rw [← this] at hQ
      exact hQ
  · have hp2 : tk_tot sh (tk_hw 31 μ) ≤ 0 := by omega
    have hdr : tk_drw sh (tk_hw 31 μ) z = -5 := by
      unfold tk_drw
      rw [if_neg hp]
    rw [hdr] at hQ
    simp [tk_fn, tk_env, tk_sq, tk_sk, tk_if, tk_re, tk_rez, tk_rev, tk_xp, tk_se, tk_pf, tk_pfz, tk_pfo, tk_as, tk_asz, tk_asb, tk_aso, tk_cpy, tk_sw, tk_swc, tk_lit, tk_loc, tk_u1, tk_bin, tk_dv, tk_gf, tk_gr, tk_gn, tk_ald, tk_aldq, tk_aln, tk_unl, tk_una, tk_ter, tk_args, tk_cs, tk_cv, tk_ceq, tk_cne, tk_clt, tk_cge, tk_cgt, tk_cle, tk_zeq, tk_zne, tk_zlt, tk_zge, tk_zgt, tk_zle, tk_and, tk_or, tk_not, tk_ct2, tk_isC, List.headD_cons, tk_up, tk_sca, tk_scl, tkF_X0_drawnWith, tkS_X0_drawnWith, ht, hp2]
    exact hQ
theorem x_qDr31 {b : Int} {sh : Int → Int} {μ : tk_M} {Q : Int → tk_M → Prop} {z : Int} (hJ : tk_J b (tk_hw 31 μ)) (hbb : b ≤ 900000) (hb : tk_shb sh) (hs : tk_xsh 31 sh μ) (hx : tk_xd 31 sh μ) (hQ : ∀ μ', tk_fx 31 μ μ' → tk_hw 31 μ' = tk_spn (tk_hw 31 μ) (tk_drw sh (tk_hw 31 μ) z) → tk_xsh 31 sh μ' → tk_xd 31 sh μ' → Q (tk_drw sh (tk_hw 31 μ) z) μ') : tkF_X0_quantumDrawn [51, z] Q μ := by
  obtain ⟨g1, g2, g3, g4, g5⟩ := x_hJ31 hJ
  simp [tk_fn, tk_env, tk_sq, tk_sk, tk_if, tk_re, tk_rez, tk_rev, tk_xp, tk_se, tk_pf, tk_pfz, tk_pfo, tk_as, tk_asz, tk_asb, tk_aso, tk_cpy, tk_sw, tk_swc, tk_lit, tk_loc, tk_u1, tk_bin, tk_dv, tk_gf, tk_gr, tk_gn, tk_ald, tk_aldq, tk_aln, tk_unl, tk_una, tk_ter, tk_args, tk_cs, tk_cv, tk_ceq, tk_cne, tk_clt, tk_cge, tk_cgt, tk_cle, tk_zeq, tk_zne, tk_zlt, tk_zge, tk_zgt, tk_zle, tk_and, tk_or, tk_not, tk_ct2, tk_isC, List.headD_cons, tk_up, tk_sca, tk_scl, tkF_X0_quantumDrawn, tkS_X0_quantumDrawn]
  refine x_drawnWith31 hJ hb hx ?_
  exact x_deal31 hJ hbb hb hs (tk_drw_in g1.1) hQ
theorem x_goBP31 {b n : Int} {sh : Int → Int} {μ : tk_M} {Q : Int → tk_M → Prop} (hJ : tk_JL b (tk_hw 31 μ)) (hbb : b ≤ 500000) (hn : 0 ≤ n ∧ n ≤ 40) (hb : tk_shb sh) (hs : tk_xsh 31 sh μ) (hx : tk_xd 31 sh μ) (hQ : ∀ μ', tk_fx 31 μ μ' → tk_hw 31 μ' = tk_gp sh (tk_hw 31 μ) n.toNat → tk_xsh 31 sh μ' → tk_xd 31 sh μ' → Q (tk_gpl sh (tk_hw 31 μ) n.toNat) μ') : tkF_X0_goByPasses [51, n] Q μ := by
  simp [tk_fn, tk_env, tk_sq, tk_sk, tk_if, tk_re, tk_rez, tk_rev, tk_xp, tk_se, tk_pf, tk_pfz, tk_pfo, tk_as, tk_asz, tk_asb, tk_aso, tk_cpy, tk_sw, tk_swc, tk_lit, tk_loc, tk_u1, tk_bin, tk_dv, tk_gf, tk_gr, tk_gn, tk_ald, tk_aldq, tk_aln, tk_unl, tk_una, tk_ter, tk_args, tk_cs, tk_cv, tk_ceq, tk_cne, tk_clt, tk_cge, tk_cgt, tk_cle, tk_zeq, tk_zne, tk_zlt, tk_zge, tk_zgt, tk_zle, tk_and, tk_or, tk_not, tk_ct2, tk_isC, List.headD_cons, tk_up, tk_sca, tk_scl, tkF_X0_goByPasses, tkS_X0_goByPasses]
  refine tk_for n (fun i ρ μ' => ρ 0 = 51 ∧ ρ 1 = n ∧ ρ 3 = i ∧ ρ 2 = tk_gpl sh (tk_hw 31 μ) i.toNat ∧ tk_fx 31 μ μ' ∧ tk_hw 31 μ' = tk_gp sh (tk_hw 31 μ) i.toNat ∧ tk_xsh 31 sh μ' ∧ tk_xd 31 sh μ') hn.1 ⟨rfl, rfl, rfl, rfl, tk_fx_r, rfl, hs, hx⟩ ?_ ?_
  · rintro i ρ μ' hi0 hi6 ⟨r0, r1, r3, r2, hf, he, hs, hx⟩ K hK
    have i1 : tk_iadd i 1 = i + 1 := tk_iadd_id (by omega) (by omega)
    have e : (i + 1).toNat = i.toNat + 1 := by omega
    have hJ2 := tk_gp_J (sh := sh) hJ i.toNat
    simp [tk_fn, tk_env, tk_sq, tk_sk, tk_if, tk_re, tk_rez, tk_rev, tk_xp, tk_se, tk_pf, tk_pfz, tk_pfo, tk_as, tk_asz, tk_asb, tk_aso, tk_cpy, tk_sw, tk_swc, tk_lit, tk_loc, tk_u1, tk_bin, tk_dv, tk_gf, tk_gr, tk_gn, tk_ald, tk_aldq, tk_aln, tk_unl, tk_una, tk_ter, tk_args, tk_cs, tk_cv, tk_ceq, tk_cne, tk_clt, tk_cge, tk_cgt, tk_cle, tk_zeq, tk_zne, tk_zlt, tk_zge, tk_zgt, tk_zle, tk_and, tk_or, tk_not, tk_ct2, tk_isC, List.headD_cons, tk_up, tk_sca, tk_scl, r0, r1, r2, r3, hi6, i1]
    refine x_qBP31 (b := b + 10 * (i.toNat : Nat)) (sh := sh) (by rw [he]; exact hJ2) (by omega) hb hs hx (fun μ2 hf2 he2 hs2 hx2 => ?_)
    rw [he] at he2 ⊢
    refine hK _ _ ⟨r0, r1, rfl, ?_, tk_fx_t hf hf2, ?_, hs2, hx2⟩
    · rw [e]; rfl
    · rw [e, he2]; rfl
  · rintro ρ μ' ⟨r0, r1, r3, r2, hf, he, hs, hx⟩ X
    simp [tk_fn, tk_env, tk_sq, tk_sk, tk_if, tk_re, tk_rez, tk_rev, tk_xp, tk_se, tk_pf, tk_pfz, tk_pfo, tk_as, tk_asz, tk_asb, tk_aso, tk_cpy, tk_sw, tk_swc, tk_lit, tk_loc, tk_u1, tk_bin, tk_dv, tk_gf, tk_gr, tk_gn, tk_ald, tk_aldq, tk_aln, tk_unl, tk_una, tk_ter, tk_args, tk_cs, tk_cv, tk_ceq, tk_cne, tk_clt, tk_cge, tk_cgt, tk_cle, tk_zeq, tk_zne, tk_zlt, tk_zge, tk_zgt, tk_zle, tk_and, tk_or, tk_not, tk_ct2, tk_isC, List.headD_cons, tk_up, tk_sca, tk_scl, r0, r1, r2, r3]
    exact hQ _ hf he hs hx
theorem x_dFrom31 {b n seed : Int} {sh : Int → Int} {μ : tk_M} {Q : Int → tk_M → Prop} (hJ : tk_JL b (tk_hw 31 μ)) (hbb : b ≤ 500000) (hn : 0 ≤ n ∧ n ≤ 40) (hb : tk_shb sh) (hs : tk_xsh 31 sh μ) (hx : tk_xd 31 sh μ) (hQ : ∀ μ', tk_fx 31 μ μ' → tk_hw 31 μ' = tk_gd sh (tk_hw 31 μ) seed n.toNat → tk_xsh 31 sh μ' → tk_xd 31 sh μ' → Q (tk_gdl sh (tk_hw 31 μ) seed n.toNat) μ') : tkF_X0_drawFrom [51, seed, n] Q μ := by
  simp [tk_fn, tk_env, tk_sq, tk_sk, tk_if, tk_re, tk_rez, tk_rev, tk_xp, tk_se, tk_pf, tk_pfz, tk_pfo, tk_as, tk_asz, tk_asb, tk_aso, tk_cpy, tk_sw, tk_swc, tk_lit, tk_loc, tk_u1, tk_bin, tk_dv, tk_gf, tk_gr, tk_gn, tk_ald, tk_aldq, tk_aln, tk_unl, tk_una, tk_ter, tk_args, tk_cs, tk_cv, tk_ceq, tk_cne, tk_clt, tk_cge, tk_cgt, tk_cle, tk_zeq, tk_zne, tk_zlt, tk_zge, tk_zgt, tk_zle, tk_and, tk_or, tk_not, tk_ct2, tk_isC, List.headD_cons, tk_up, tk_sca, tk_scl, tkF_X0_drawFrom, tkS_X0_drawFrom]
  refine tk_for n (fun i ρ μ' => ρ 0 = 51 ∧ ρ 2 = n ∧ ρ 5 = i ∧ ρ 4 = tk_zk seed i.toNat ∧ ρ 3 = tk_gdl sh (tk_hw 31 μ) seed i.toNat ∧ tk_fx 31 μ μ' ∧ tk_hw 31 μ' = tk_gd sh (tk_hw 31 μ) seed i.toNat ∧ tk_xsh 31 sh μ' ∧ tk_xd 31 sh μ') hn.1 ⟨rfl, rfl, rfl, rfl, rfl, tk_fx_r, rfl, hs, hx⟩ ?_ ?_
  · rintro i ρ μ' hi0 hi6 ⟨r0, r2, r5, r4, r3, hf, he, hs, hx⟩ K hK
    have i1 : tk_iadd i 1 = i + 1 := tk_iadd_id (by omega) (by omega)
    have e : (i + 1).toNat = i.toNat + 1 := by omega
    have hJ2 := tk_gd_J (sh := sh) (z := seed) hJ i.toNat
    have hz : tk_iadd (tk_imul (tk_zk seed i.toNat) 1103515245) 12345 = tk_zk seed (i.toNat + 1) := rfl
    simp [tk_fn, tk_env, tk_sq, tk_sk, tk_if, tk_re, tk_rez, tk_rev, tk_xp, tk_se, tk_pf, tk_pfz, tk_pfo, tk_as, tk_asz, tk_asb, tk_aso, tk_cpy, tk_sw, tk_swc, tk_lit, tk_loc, tk_u1, tk_bin, tk_dv, tk_gf, tk_gr, tk_gn, tk_ald, tk_aldq, tk_aln, tk_unl, tk_una, tk_ter, tk_args, tk_cs, tk_cv, tk_ceq, tk_cne, tk_clt, tk_cge, tk_cgt, tk_cle, tk_zeq, tk_zne, tk_zlt, tk_zge, tk_zgt, tk_zle, tk_and, tk_or, tk_not, tk_ct2, tk_isC, List.headD_cons, tk_up, tk_sca, tk_scl, r0, r2, r3, r4, r5, hi6, i1, tkF_X0_numberBehind, tkS_X0_numberBehind, hz]
    refine x_qDr31 (b := b + 10 * (i.toNat : Nat)) (sh := sh) (by rw [he]; exact hJ2.1) (by omega) hb hs hx (fun μ2 hf2 he2 hs2 hx2 => ?_)
    rw [he] at he2 ⊢
    refine hK _ _ ⟨r0, r2, rfl, ?_, ?_, tk_fx_t hf hf2, ?_, hs2, hx2⟩
    · rw [e]; simp [tk_up]
    · rw [e]; rfl
    · rw [e, he2]; rfl
  · rintro ρ μ' ⟨r0, r2, r5, r4, r3, hf, he, hs, hx⟩ X
    simp [tk_fn, tk_env, tk_sq, tk_sk, tk_if, tk_re, tk_rez, tk_rev, tk_xp, tk_se, tk_pf, tk_pfz, tk_pfo, tk_as, tk_asz, tk_asb, tk_aso, tk_cpy, tk_sw, tk_swc, tk_lit, tk_loc, tk_u1, tk_bin, tk_dv, tk_gf, tk_gr, tk_gn, tk_ald, tk_aldq, tk_aln, tk_unl, tk_una, tk_ter, tk_args, tk_cs, tk_cv, tk_ceq, tk_cne, tk_clt, tk_cge, tk_cgt, tk_cle, tk_zeq, tk_zne, tk_zlt, tk_zge, tk_zgt, tk_zle, tk_and, tk_or, tk_not, tk_ct2, tk_isC, List.headD_cons, tk_up, tk_sca, tk_scl, r0, r2, r3, r4, r5]
    exact hQ _ hf he hs hx
