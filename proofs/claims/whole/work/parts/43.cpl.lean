/-! ===== Layer 2: small calls ===== -/
/-- the places that the coupling looks at -/
def tk_kp (o i : Int) : Prop := (1 ≤ o ∧ o ≤ 20) ∨ (61 ≤ o ∧ o ≤ 81) ∨ (84 ≤ o ∧ o ≤ 95) ∨ (97 ≤ o ∧ o ≤ 112) ∨ o = 114 ∨ o = 121 ∨ (125 ≤ o ∧ o ≤ 127) ∨ o = 129 ∨ (o = 0 ∧ (i = 5 ∨ i = 7)) ∨ (o = 96 ∧ (i = 0 ∨ i = 1 ∨ i = 5 ∨ i = 13 ∨ i = 14 ∨ i = 15 ∨ i = 18 ∨ i = 21 ∨ i = 27 ∨ i = 39))
theorem tk_mv_fr {μ μ' : tk_M} (hq : ∀ o i : Int, tk_kp o i → μ' o i = μ o i) : ∀ f i : Int, 0 ≤ f → f ≤ 19 → tk_mv μ' f i = tk_mv μ f i := by
  intro f i _ _
  have e : ∀ o : Int, 97 ≤ o → o ≤ 112 → μ' o i = μ o i := fun o h1 h2 => hq o i (by unfold tk_kp; omega)
  have e0 : ∀ j : Int, (j = 0 ∨ j = 1 ∨ j = 5 ∨ j = 13 ∨ j = 14 ∨ j = 15 ∨ j = 18 ∨ j = 21) → μ' 96 j = μ 96 j := fun j h => hq 96 j (by unfold tk_kp; omega)
  unfold tk_mv
  simp only [e0 0 (by omega), e0 1 (by omega), e0 5 (by omega), e0 13 (by omega), e0 14 (by omega), e0 15 (by omega), e0 18 (by omega), e0 21 (by omega), e 97 (by omega) (by omega), e 98 (by omega) (by omega), e 99 (by omega) (by omega), e 100 (by omega) (by omega), e 101 (by omega) (by omega), e 102 (by omega) (by omega), e 103 (by omega) (by omega), e 104 (by omega) (by omega), e 105 (by omega) (by omega), e 106 (by omega) (by omega), e 107 (by omega) (by omega), e 108 (by omega) (by omega), e 109 (by omega) (by omega), e 110 (by omega) (by omega), e 111 (by omega) (by omega), e 112 (by omega) (by omega)]
theorem tk_R_fr {μ μ' : tk_M} (h : tk_R μ) (hq : ∀ o i : Int, tk_kp o i → μ' o i = μ o i) : tk_R μ' := by
  obtain ⟨h1, h2, h3, h4, h5⟩ := h
  have hS := tk_hv_fr (h := 1) (μ := μ) (μ' := μ') (fun o i h1 h2 => hq o i (by unfold tk_kp; omega))
  exact ⟨tk_EE_fr h1 hS (tk_mv_fr hq), tk_II_fr h2 hS, tk_RT_fr h3 (hq 0 7 (by unfold tk_kp; omega)) (hq 96 39 (by unfold tk_kp; omega)) (fun i => ⟨hq 81 i (by unfold tk_kp; omega), hq 121 i (by unfold tk_kp; omega)⟩), tk_RP_fr h4 (fun o i h => hq o i (by unfold tk_kp; omega)), tk_RI_fr h5 (hq 0 5 (by unfold tk_kp; omega)) (hq 96 27 (by unfold tk_kp; omega)) (fun o i a b => hq o i (by unfold tk_kp; omega)) (fun i => hq 114 i (by unfold tk_kp; omega))⟩
theorem tk_R_thr {μ : tk_M} {v : Int} (h : tk_R μ) : tk_R (tk_set μ 96 24 v) := tk_R_fr h (fun o i hk => by
  unfold tk_kp at hk
  unfold tk_set
  rw [if_neg (by omega)])
/-- the numbers of a coupling that nearly every call asks -/
theorem tk_R_n {μ : tk_M} (h : tk_R μ) : μ 96 0 = μ 1 0 ∧ μ 96 1 = μ 1 1 ∧ μ 96 5 = μ 1 2 ∧ μ 96 13 = μ 1 3 ∧ μ 96 14 = μ 1 4 ∧ μ 96 15 = μ 12 0 ∧ μ 96 18 = μ 15 0 ∧ μ 96 21 = μ 18 0 ∧ μ 96 39 = μ 0 7 ∧ (1 ≤ μ 1 0 ∧ μ 1 0 ≤ 6) ∧ (0 ≤ μ 1 1 ∧ μ 1 1 ≤ 24) ∧ (0 ≤ μ 1 2 ∧ μ 1 2 ≤ 8) ∧ (0 ≤ μ 1 3 ∧ μ 1 3 ≤ 99999) := by
  obtain ⟨⟨⟨a1, a2, a3, a4, a5⟩, -, -, -, ⟨a6, -⟩, ⟨a7, -⟩, ⟨a8, -⟩⟩, ⟨⟨b1, b2, b3, b4, -⟩, -, -, -, -, -, ⟨⟨-, -, b5⟩, -⟩, -⟩, ⟨c1, -⟩, -, -⟩ := h
  simp [tk_hv, tk_mv] at a1 a2 a3 a4 a5 a6 a7 a8 b1 b2 b3 b4 b5
  exact ⟨a1, a2, a3, a4, a5, a6, a7, a8, c1, b1, b2, b3, b4.1, b5⟩
/-- the places that it looks at beside the live Hall and the Model's own -/
def tk_kq (o i : Int) : Prop := (61 ≤ o ∧ o ≤ 81) ∨ (84 ≤ o ∧ o ≤ 95) ∨ o = 114 ∨ o = 121 ∨ (125 ≤ o ∧ o ≤ 127) ∨ o = 129 ∨ (o = 0 ∧ (i = 5 ∨ i = 7)) ∨ (o = 96 ∧ (i = 27 ∨ i = 39))
theorem tk_R_live {μ μ' : tk_M} (h : tk_R μ) (hE : tk_EE (tk_hv 1 μ') (tk_mv μ')) (hI : tk_II (tk_hv 1 μ')) (hq : ∀ o i : Int, tk_kq o i → μ' o i = μ o i) : tk_R μ' := by
  obtain ⟨-, -, h3, h4, h5⟩ := h
  exact ⟨hE, hI, tk_RT_fr h3 (hq 0 7 (by unfold tk_kq; omega)) (hq 96 39 (by unfold tk_kq; omega)) (fun i => ⟨hq 81 i (by unfold tk_kq; omega), hq 121 i (by unfold tk_kq; omega)⟩), tk_RP_fr h4 (fun o i h => hq o i (by unfold tk_kq; omega)), tk_RI_fr h5 (hq 0 5 (by unfold tk_kq; omega)) (hq 96 27 (by unfold tk_kq; omega)) (fun o i a b => hq o i (by unfold tk_kq; omega)) (fun i => hq 114 i (by unfold tk_kq; omega))⟩
theorem c_count (w : Int) : tk_cp tkF_X6_count tkF_X7_count [w] := by
  intro μ hR K hK
  obtain ⟨e1, e2, e3, e4, e5, e6, e7, e8, e9, -⟩ := tk_R_n hR
  have hT := tk_R_thr (v := 0) hR
  simp [tk_fn, tk_env, tk_sq, tk_sk, tk_if, tk_re, tk_rez, tk_rev, tk_xp, tk_se, tk_pf, tk_pfz, tk_pfo, tk_as, tk_asz, tk_asb, tk_aso, tk_cpy, tk_sw, tk_swc, tk_lit, tk_loc, tk_u1, tk_bin, tk_dv, tk_gf, tk_gr, tk_gn, tk_ald, tk_aldq, tk_aln, tk_unl, tk_una, tk_ter, tk_args, tk_cs, tk_cv, tk_ceq, tk_cne, tk_clt, tk_cge, tk_cgt, tk_cle, tk_zeq, tk_zne, tk_zlt, tk_zge, tk_zgt, tk_zle, tk_and, tk_or, tk_not, tk_ct2, tk_isC, List.headD_cons, tk_up, tk_sca, tk_scl, tkF_X6_count, tkS_X6_count, tkF_X7_count, tkS_X7_count, tk_set_j, tk_set_o, tk_set_eq, e1, e2, e3, e6, e7, e8, e9]
  by_cases h0 : w = 0
  · subst h0; simp; exact hK _ _ hT
  by_cases h1 : w = 1
  · subst h1; simp; exact hK _ _ hT
  by_cases h2 : w = 2
  · subst h2; simp; exact hK _ _ hT
  by_cases h3 : w = 3
  · subst h3; simp; exact hK _ _ hT
  by_cases h4 : w = 4
  · subst h4; simp; exact hK _ _ hT
  by_cases h5 : w = 5
  · subst h5; simp; exact hK _ _ hT
  by_cases h6 : w = 6
  · subst h6; simp; exact hK _ _ hT
  simp [h0, h1, h2, h3, h4, h5, h6]
  exact hK _ _ hT
theorem c_currency : tk_cp tkF_X6_currency tkF_X7_currency [] := by
  intro μ hR K hK
  obtain ⟨e1, e2, e3, e4, e5, e6, e7, e8, e9, hc, -⟩ := tk_R_n hR
  have hT := tk_R_thr (v := 0) hR
  have i1 : tk_iadd (μ 1 0) 1 = μ 1 0 + 1 := tk_iadd_id (by omega) (by omega)
  have i2 : tk_isub (μ 1 0 + 1) 1 = μ 1 0 := by rw [tk_isub_id (by omega) (by omega)]; omega
  simp [tk_fn, tk_env, tk_sq, tk_sk, tk_if, tk_re, tk_rez, tk_rev, tk_xp, tk_se, tk_pf, tk_pfz, tk_pfo, tk_as, tk_asz, tk_asb, tk_aso, tk_cpy, tk_sw, tk_swc, tk_lit, tk_loc, tk_u1, tk_bin, tk_dv, tk_gf, tk_gr, tk_gn, tk_ald, tk_aldq, tk_aln, tk_unl, tk_una, tk_ter, tk_args, tk_cs, tk_cv, tk_ceq, tk_cne, tk_clt, tk_cge, tk_cgt, tk_cle, tk_zeq, tk_zne, tk_zlt, tk_zge, tk_zgt, tk_zle, tk_and, tk_or, tk_not, tk_ct2, tk_isC, List.headD_cons, tk_up, tk_sca, tk_scl, tkF_X6_currency, tkS_X6_currency, tkF_X7_currency, tkS_X7_currency, tk_set_j, tk_set_o, tk_set_eq, e1, i1, i2]
  by_cases h6 : 6 ≤ μ 1 0
  · have h7 : μ 1 0 = 6 := by omega
    simp [h7]
    exact hK _ _ hT
  · have h7 : ¬ μ 1 0 = 6 := by omega
    simp [h6, h7]
    refine hK _ _ (tk_R_live hR ?_ ?_ ?_)
    · obtain ⟨⟨⟨a1, a2, a3, a4, a5⟩, a6, a7, a8, a9, a10, a11⟩, -⟩ := hR
      unfold tk_EE tk_E0 tk_E1 tk_E2 tk_E3 tk_E4 tk_E5 tk_E6 at *
      simp [tk_hv, tk_mv, tk_set] at *
      exact ⟨⟨a2, a3, a4, a5⟩, a6, a7, a8, a9, a10, a11⟩
    · obtain ⟨-, ⟨b0, b1, b2, b3, b4, b5, b6, b7, b8⟩, -⟩ := hR
      unfold tk_II tk_I0 tk_I1 tk_I2 tk_I3 tk_I4 tk_I5 tk_I6 tk_I7 tk_I8 at *
      simp [tk_hv, tk_set] at *
      refine ⟨?_, fun t h1 h2 => ?_, b2, b3, b4, b5, b6, b7, b8⟩
      · omega
      · have := b1 t h1 h2
        omega
    · intro o i hk
      unfold tk_kq at hk
      unfold tk_set
      rw [if_neg (by omega), if_neg (by omega), if_neg (by omega)]
theorem tk_bo_t {p : Prop} [Decidable p] (h : p) : tk_bo p = 1 := by simp [tk_bo, h]
theorem tk_bo_f {p : Prop} [Decidable p] (h : ¬ p) : tk_bo p = 0 := by simp [tk_bo, h]
theorem c_card (t w : Int) : tk_cp tkF_X6_card tkF_X7_card [t, w] := by
  intro μ hR K hK
  obtain ⟨e1, e2, e3, e4, e5, e6, e7, e8, e9, hc, hn, -⟩ := tk_R_n hR
  have hT := tk_R_thr (v := 0) hR
  have hE := hR.1.2.1
  by_cases ht : 0 ≤ t ∧ t < μ 1 1
  · have e := hE t ht.1 (by simpa [tk_hv] using ht.2)
    simp [tk_hv, tk_mv] at e
    have h2 : t < 24 := by omega
    by_cases hw : 0 ≤ w ∧ w ≤ 2
    · have h3 : w = 0 ∨ w = 1 ∨ w = 2 := by omega
      rcases h3 with rfl | rfl | rfl <;> simp [tk_fn, tk_env, tk_sq, tk_sk, tk_if, tk_re, tk_rez, tk_rev, tk_xp, tk_se, tk_pf, tk_pfz, tk_pfo, tk_as, tk_asz, tk_asb, tk_aso, tk_cpy, tk_sw, tk_swc, tk_lit, tk_loc, tk_u1, tk_bin, tk_dv, tk_gf, tk_gr, tk_gn, tk_ald, tk_aldq, tk_aln, tk_unl, tk_una, tk_ter, tk_args, tk_cs, tk_cv, tk_ceq, tk_cne, tk_clt, tk_cge, tk_cgt, tk_cle, tk_zeq, tk_zne, tk_zlt, tk_zge, tk_zgt, tk_zle, tk_and, tk_or, tk_not, tk_ct2, tk_isC, List.headD_cons, tk_up, tk_sca, tk_scl, tkF_X6_card, tkS_X6_card, tkF_X7_card, tkS_X7_card, tk_set_j, tk_set_o, tk_set_eq, e2, x_hasTicket, m_isTicket, m_in, hn, tk_al_2, tk_al_3, tk_al_4, tk_al_5, tk_al_6, tk_al_7, tk_al_8, tk_al_9, tk_al_10, tk_al_11, tk_al_13, tk_al_14, tk_al_16, tk_al_17, tk_al_19, tk_al_20, tk_al_22, tk_al_24, tk_al_25, tk_al_26, tk_al_27, tk_al_28, tk_al_29, tk_al_30, tk_al_32, tk_al_33, tk_al_34, tk_al_35, tk_al_36, tk_al_37, tk_al_38, tk_al_39, tk_al_40, tk_al_41, tk_al_43, tk_al_44, tk_al_46, tk_al_47, tk_al_49, tk_al_50, tk_al_52, tk_al_54, tk_al_55, tk_al_56, tk_al_57, tk_al_58, tk_al_59, tk_al_60, tk_al_62, tk_al_63, tk_al_64, tk_al_65, tk_al_66, tk_al_67, tk_al_68, tk_al_69, tk_al_70, tk_al_71, tk_al_73, tk_al_74, tk_al_76, tk_al_77, tk_al_79, tk_al_80, tk_al_81, tk_al_83, tk_al_85, tk_al_87, tk_al_89, tk_al_91, tk_al_93, tk_al_95, tk_al_97, tk_al_98, tk_al_99, tk_al_100, tk_al_101, tk_al_102, tk_al_103, tk_al_104, tk_al_105, tk_al_106, tk_al_107, tk_al_108, tk_al_109, tk_al_110, tk_al_111, tk_al_112, tk_al_113, tk_al_114, tk_al_115, tk_al_116, tk_al_117, tk_al_118, tk_al_119, tk_al_120, tk_al_121, tk_al_122, tk_al_123, tk_al_124, tk_al_125, tk_al_126, tk_al_127, tk_al_128, tk_al_129, tk_bo_0, h2, ht.1, ht.2, e] <;> exact hK _ _ hT
    · have w0 : ¬ w = 0 := by omega
      have w1 : ¬ w = 1 := by omega
      have w2 : ¬ w = 2 := by omega
      have w3 : ¬ (0 ≤ w ∧ w ≤ 2) := hw
      simp [tk_fn, tk_env, tk_sq, tk_sk, tk_if, tk_re, tk_rez, tk_rev, tk_xp, tk_se, tk_pf, tk_pfz, tk_pfo, tk_as, tk_asz, tk_asb, tk_aso, tk_cpy, tk_sw, tk_swc, tk_lit, tk_loc, tk_u1, tk_bin, tk_dv, tk_gf, tk_gr, tk_gn, tk_ald, tk_aldq, tk_aln, tk_unl, tk_una, tk_ter, tk_args, tk_cs, tk_cv, tk_ceq, tk_cne, tk_clt, tk_cge, tk_cgt, tk_cle, tk_zeq, tk_zne, tk_zlt, tk_zge, tk_zgt, tk_zle, tk_and, tk_or, tk_not, tk_ct2, tk_isC, List.headD_cons, tk_up, tk_sca, tk_scl, tkF_X6_card, tkS_X6_card, tkF_X7_card, tkS_X7_card, tk_set_j, tk_set_o, tk_set_eq, e2, x_hasTicket, m_isTicket, m_in, hn, tk_al_2, tk_al_3, tk_al_4, tk_al_5, tk_al_6, tk_al_7, tk_al_8, tk_al_9, tk_al_10, tk_al_11, tk_al_13, tk_al_14, tk_al_16, tk_al_17, tk_al_19, tk_al_20, tk_al_22, tk_al_24, tk_al_25, tk_al_26, tk_al_27, tk_al_28, tk_al_29, tk_al_30, tk_al_32, tk_al_33, tk_al_34, tk_al_35, tk_al_36, tk_al_37, tk_al_38, tk_al_39, tk_al_40, tk_al_41, tk_al_43, tk_al_44, tk_al_46, tk_al_47, tk_al_49, tk_al_50, tk_al_52, tk_al_54, tk_al_55, tk_al_56, tk_al_57, tk_al_58, tk_al_59, tk_al_60, tk_al_62, tk_al_63, tk_al_64, tk_al_65, tk_al_66, tk_al_67, tk_al_68, tk_al_69, tk_al_70, tk_al_71, tk_al_73, tk_al_74, tk_al_76, tk_al_77, tk_al_79, tk_al_80, tk_al_81, tk_al_83, tk_al_85, tk_al_87, tk_al_89, tk_al_91, tk_al_93, tk_al_95, tk_al_97, tk_al_98, tk_al_99, tk_al_100, tk_al_101, tk_al_102, tk_al_103, tk_al_104, tk_al_105, tk_al_106, tk_al_107, tk_al_108, tk_al_109, tk_al_110, tk_al_111, tk_al_112, tk_al_113, tk_al_114, tk_al_115, tk_al_116, tk_al_117, tk_al_118, tk_al_119, tk_al_120, tk_al_121, tk_al_122, tk_al_123, tk_al_124, tk_al_125, tk_al_126, tk_al_127, tk_al_128, tk_al_129, tk_bo_0, h2, ht.1, ht.2, e, w0, w1, w2, -not_and, w3]
      exact hK _ _ hT
  · simp [tk_fn, tk_env, tk_sq, tk_sk, tk_if, tk_re, tk_rez, tk_rev, tk_xp, tk_se, tk_pf, tk_pfz, tk_pfo, tk_as, tk_asz, tk_asb, tk_aso, tk_cpy, tk_sw, tk_swc, tk_lit, tk_loc, tk_u1, tk_bin, tk_dv, tk_gf, tk_gr, tk_gn, tk_ald, tk_aldq, tk_aln, tk_unl, tk_una, tk_ter, tk_args, tk_cs, tk_cv, tk_ceq, tk_cne, tk_clt, tk_cge, tk_cgt, tk_cle, tk_zeq, tk_zne, tk_zlt, tk_zge, tk_zgt, tk_zle, tk_and, tk_or, tk_not, tk_ct2, tk_isC, List.headD_cons, tk_up, tk_sca, tk_scl, tkF_X6_card, tkS_X6_card, tkF_X7_card, tkS_X7_card, tk_set_j, tk_set_o, tk_set_eq, e2, x_hasTicket, m_isTicket, m_in, hn, tk_al_2, tk_al_3, tk_al_4, tk_al_5, tk_al_6, tk_al_7, tk_al_8, tk_al_9, tk_al_10, tk_al_11, tk_al_13, tk_al_14, tk_al_16, tk_al_17, tk_al_19, tk_al_20, tk_al_22, tk_al_24, tk_al_25, tk_al_26, tk_al_27, tk_al_28, tk_al_29, tk_al_30, tk_al_32, tk_al_33, tk_al_34, tk_al_35, tk_al_36, tk_al_37, tk_al_38, tk_al_39, tk_al_40, tk_al_41, tk_al_43, tk_al_44, tk_al_46, tk_al_47, tk_al_49, tk_al_50, tk_al_52, tk_al_54, tk_al_55, tk_al_56, tk_al_57, tk_al_58, tk_al_59, tk_al_60, tk_al_62, tk_al_63, tk_al_64, tk_al_65, tk_al_66, tk_al_67, tk_al_68, tk_al_69, tk_al_70, tk_al_71, tk_al_73, tk_al_74, tk_al_76, tk_al_77, tk_al_79, tk_al_80, tk_al_81, tk_al_83, tk_al_85, tk_al_87, tk_al_89, tk_al_91, tk_al_93, tk_al_95, tk_al_97, tk_al_98, tk_al_99, tk_al_100, tk_al_101, tk_al_102, tk_al_103, tk_al_104, tk_al_105, tk_al_106, tk_al_107, tk_al_108, tk_al_109, tk_al_110, tk_al_111, tk_al_112, tk_al_113, tk_al_114, tk_al_115, tk_al_116, tk_al_117, tk_al_118, tk_al_119, tk_al_120, tk_al_121, tk_al_122, tk_al_123, tk_al_124, tk_al_125, tk_al_126, tk_al_127, tk_al_128, tk_al_129, tk_bo_0, ht, -not_and]
    exact hK _ _ hT
