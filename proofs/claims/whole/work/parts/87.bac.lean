/-! ===== Layer 2: what may back what ===== -/
theorem tk_tc_hg {S : tk_M} {w c d : Int} (h : tk_tc (fun x y => ∃ u, tk_bk S w u y ∧ S 1 u = x) d c) : tk_hg S w c d :=
  h (fun z => tk_hg S w z d) (fun z ⟨u, h1, h2⟩ => by rw [← h2]; exact tk_hg_1 h1) (fun z y h1 ⟨u, h2, h3⟩ => by rw [← h3] at h1; exact tk_hg_l h2 h1)
theorem tk_I7_b {S S' : tk_M} {a cur w : Int} (h0 : tk_I0 S) (h1 : tk_I1 S) (h7 : tk_I7 S) (ha : 0 ≤ a ∧ a < S 0 0) (hc : 0 ≤ cur ∧ cur < S 0 0) (hne : ¬ a = cur) (hno : ¬ tk_hg S w a cur) (hu : ∀ u, 0 ≤ u → u < S' 0 1 → 10 ≤ S' 3 u → (tk_bk S w u (S' 3 u - 10) ∧ S' 1 u = S 1 u) ∨ (S' 1 u = a ∧ S' 3 u - 10 = cur)) : tk_I7 S' := by
  obtain ⟨rk, -, hrk⟩ := tk_I7_bk h7 w
  have hi : ∀ x, ¬ tk_tc (fun x y => ∃ u, tk_bk S w u y ∧ S 1 u = x) x x := tk_tc_rk (rk := rk) (fun x y ⟨u, h2, h3⟩ => by rw [← h3]; exact hrk u y h2)
  have hno' : ¬ (cur = a ∨ tk_tc (fun x y => ∃ u, tk_bk S w u y ∧ S 1 u = x) cur a) := by
    rintro (z | z)
    · exact hne z.symm
    · exact hno (tk_tc_hg z)
  have hz := h0.2.2.1
  obtain ⟨rk2, h3, h4⟩ := tk_rank (n := S 0 0) (N := 5) (E := fun x y => (∃ u, tk_bk S w u y ∧ S 1 u = x) ∨ (x = a ∧ y = cur)) (by omega) (by have := h0.1; omega) (fun x y h => by
    rcases h with ⟨u, h5, h6⟩ | ⟨h5, h6⟩
    · have := h1 u h5.1.1 h5.1.2
      have := h5.2.2
      rw [← h6]
      omega
    · rw [h5, h6]
      exact ⟨ha, hc⟩) (tk_acy (fun _ _ h => h) hi hno')
  refine ⟨rk2, h3, fun u h5 h6 h7 => h4 _ _ ?_⟩
  rcases hu u h5 h6 h7 with ⟨h8, h9⟩ | h8
  · exact .inl ⟨u, h8, h9.symm⟩
  · exact .inr h8
theorem x_mayBack {μ : tk_M} {Q : Int → tk_M → Prop} {a c w : Int} (h0 : tk_I0 (tk_hw 1 μ)) (h1 : tk_I1 (tk_hw 1 μ)) (h7 : tk_I7 (tk_hw 1 μ)) (ha : 0 ≤ a ∧ a < 6) (hy : (0 ≤ c ∧ c < μ 1 0) ∧ ¬ c = 0 ∧ ¬ a = c ∧ ¬ tk_hg (tk_hw 1 μ) w a c → Q 1 μ) (hn : ¬ ((0 ≤ c ∧ c < μ 1 0) ∧ ¬ c = 0 ∧ ¬ a = c ∧ ¬ tk_hg (tk_hw 1 μ) w a c) → Q 0 μ) : tkF_X2_mayBack [1, a, c, w] Q μ := by
  have hz : 1 ≤ μ 1 0 ∧ μ 1 0 ≤ 6 := h0.1
  by_cases hc : 0 ≤ c ∧ c < μ 1 0
  · have hcn : ¬ μ 1 0 ≤ c := by omega
    by_cases hc0 : c = 0
    · simp [tk_fn, tk_env, tk_sq, tk_sk, tk_if, tk_re, tk_rez, tk_rev, tk_xp, tk_se, tk_pf, tk_pfz, tk_pfo, tk_as, tk_asz, tk_asb, tk_aso, tk_cpy, tk_sw, tk_swc, tk_lit, tk_loc, tk_u1, tk_bin, tk_dv, tk_gf, tk_gr, tk_gn, tk_ald, tk_aldq, tk_aln, tk_unl, tk_una, tk_ter, tk_args, tk_cs, tk_cv, tk_ceq, tk_cne, tk_clt, tk_cge, tk_cgt, tk_cle, tk_zeq, tk_zne, tk_zlt, tk_zge, tk_zgt, tk_zle, tk_and, tk_or, tk_not, tk_ct2, tk_isC, List.headD_cons, tk_up, tk_sca, tk_scl, tkF_X2_mayBack, tkS_X2_mayBack, x_hasCurrency, tk_bo_0, hc.1, hc.2, hcn, eq_true hc0]
      exact hn (fun z => z.2.1 hc0)
    · by_cases hca : c = a
      · simp [tk_fn, tk_env, tk_sq, tk_sk, tk_if, tk_re, tk_rez, tk_rev, tk_xp, tk_se, tk_pf, tk_pfz, tk_pfo, tk_as, tk_asz, tk_asb, tk_aso, tk_cpy, tk_sw, tk_swc, tk_lit, tk_loc, tk_u1, tk_bin, tk_dv, tk_gf, tk_gr, tk_gn, tk_ald, tk_aldq, tk_aln, tk_unl, tk_una, tk_ter, tk_args, tk_cs, tk_cv, tk_ceq, tk_cne, tk_clt, tk_cge, tk_cgt, tk_cle, tk_zeq, tk_zne, tk_zlt, tk_zge, tk_zgt, tk_zle, tk_and, tk_or, tk_not, tk_ct2, tk_isC, List.headD_cons, tk_up, tk_sca, tk_scl, tkF_X2_mayBack, tkS_X2_mayBack, x_hasCurrency, tk_bo_0, hc.1, hc.2, hcn, hc0, eq_true hca]
        exact hn (fun z => z.2.2.1 hca.symm)
      · simp [tk_fn, tk_env, tk_sq, tk_sk, tk_if, tk_re, tk_rez, tk_rev, tk_xp, tk_se, tk_pf, tk_pfz, tk_pfo, tk_as, tk_asz, tk_asb, tk_aso, tk_cpy, tk_sw, tk_swc, tk_lit, tk_loc, tk_u1, tk_bin, tk_dv, tk_gf, tk_gr, tk_gn, tk_ald, tk_aldq, tk_aln, tk_unl, tk_una, tk_ter, tk_args, tk_cs, tk_cv, tk_ceq, tk_cne, tk_clt, tk_cge, tk_cgt, tk_cle, tk_zeq, tk_zne, tk_zlt, tk_zge, tk_zgt, tk_zle, tk_and, tk_or, tk_not, tk_ct2, tk_isC, List.headD_cons, tk_up, tk_sca, tk_scl, tkF_X2_mayBack, tkS_X2_mayBack, x_hasCurrency, tk_bo_0, hc.1, hc.2, hcn, hc0, hca]
        refine x_hangsOn1 h0 h1 h7 ha (fun r hr hb => ?_)
        have e := tk_bit_0 (x := r) (k := c) (tk_bs_r (by omega) hr) (by omega)
        generalize tk_iand (tk_ishr r c) 1 = q at e
        by_cases hbit : tk_bit r c
        · have e2 : ¬ q = 0 := by rw [e]; exact fun z => z hbit
          simp [e2]
          exact hn (fun z => z.2.2.2 ((hb c).mp hbit))
        · have e2 : q = 0 := by rw [e]; exact hbit
          simp [e2]
          exact hy ⟨hc, hc0, fun z => hca z.symm, fun z => hbit ((hb c).mpr z)⟩
  · simp [tk_fn, tk_env, tk_sq, tk_sk, tk_if, tk_re, tk_rez, tk_rev, tk_xp, tk_se, tk_pf, tk_pfz, tk_pfo, tk_as, tk_asz, tk_asb, tk_aso, tk_cpy, tk_sw, tk_swc, tk_lit, tk_loc, tk_u1, tk_bin, tk_dv, tk_gf, tk_gr, tk_gn, tk_ald, tk_aldq, tk_aln, tk_unl, tk_una, tk_ter, tk_args, tk_cs, tk_cv, tk_ceq, tk_cne, tk_clt, tk_cge, tk_cgt, tk_cle, tk_zeq, tk_zne, tk_zlt, tk_zge, tk_zgt, tk_zle, tk_and, tk_or, tk_not, tk_ct2, tk_isC, List.headD_cons, tk_up, tk_sca, tk_scl, tkF_X2_mayBack, tkS_X2_mayBack, x_hasCurrency, tk_bo_0, hc, -not_and]
    exact hn (fun z => hc z.1)
theorem c_back_R {t c : Int} {μ μ' : tk_M} (hR : tk_R μ) (ht : 0 ≤ t ∧ t < μ 1 1) (hc : 0 ≤ c ∧ c < μ 1 0) (hc0 : ¬ c = 0) (hne : ¬ μ 2 t = c) (hno : ¬ tk_hg (tk_hw 1 μ) t (μ 2 t) c) (e : ∀ o j, ¬ o = 115 → μ' o j = if o = 99 ∧ j = t then 10 + c else if o = 96 ∧ j = 24 then 0 else if o = 4 ∧ j = t then 10 + c else μ o j) : tk_R μ' := by
  have hI := tk_II_hw.mp hR.2.1
  have e0 : ∀ j, μ' 1 j = μ 1 j := fun j => by rw [e _ _ (by omega)]; simp
  have e2 : ∀ j, μ' 2 j = μ 2 j := fun j => by rw [e _ _ (by omega)]; simp
  have e3 : ∀ j, μ' 3 j = μ 3 j := fun j => by rw [e _ _ (by omega)]; simp
  have e4 : ∀ j, μ' 4 j = if j = t then 10 + c else μ 4 j := fun j => by rw [e _ _ (by omega)]; simp
  have eo : ∀ o j : Int, 5 ≤ o → o ≤ 20 → μ' o j = μ o j := fun o j h1 h2 => by rw [e _ _ (by omega), if_neg (by omega), if_neg (by omega), if_neg (by omega)]
  refine tk_R_live hR ?_ ?_ ?_
  · obtain ⟨⟨a1, a2, a3, a4, a5, a6, a7⟩, -⟩ := hR
    unfold tk_EE tk_E0 tk_E1 tk_E2 tk_E3 tk_E4 tk_E5 tk_E6 at *
    simp [tk_hv, tk_mv] at a1 a2 a3 a4 a5 a6 a7
    simp [tk_hv, tk_mv, e]
    refine ⟨a1, fun i h3 h4 => ?_, a3, a4, a5, a6, a7⟩
    have := a2 i h3 h4
    by_cases hi : i = t
    · simp [hi] at this ⊢
      exact ⟨this.1, this.2.1⟩
    · simpa [hi] using this
  · have h7 : tk_I7 (tk_hv 1 μ') := by
      refine tk_I7_b (S := tk_hw 1 μ) (w := t) hI.1 hI.2.1 hI.2.2.2.2.2.2.2.1 (a := μ 2 t) (cur := c) (hI.2.1 t ht.1 ht.2).1 hc hne hno (fun u h3 h4 h5 => ?_)
      have h4 : u < μ' 1 1 := h4
      have h5 : 10 ≤ μ' 4 u := h5
      rw [e0] at h4
      rw [e4] at h5
      show (tk_bk (tk_hw 1 μ) t u (μ' 4 u - 10) ∧ μ' 2 u = μ 2 u) ∨ (μ' 2 u = μ 2 t ∧ μ' 4 u - 10 = c)
      rw [e2, e4]
      by_cases hut : u = t
      · right
        rw [hut, if_pos rfl]
        exact ⟨rfl, by omega⟩
      · left
        rw [if_neg hut] at h5 ⊢
        refine ⟨⟨⟨h3, h4⟩, hut, ?_, by omega⟩, rfl⟩
        show μ 4 u = 10 + (μ 4 u - 10)
        omega
    obtain ⟨-, ⟨b0, b1, b2, b3, b4, b5, b6, -, b8⟩, -⟩ := hR
    refine ⟨?_, ?_, ?_, ?_, ?_, ?_, ?_, h7, ?_⟩
    · unfold tk_I0 at *; simp [tk_hv, e0] at *; exact b0
    · unfold tk_I1 at *
      simp [tk_hv, e0, e2, e3, e4] at *
      intro i h3 h4
      have := b1 i h3 h4
      by_cases hi : i = t
      · simp [hi] at this ⊢
        omega
      · simpa [hi] using this
    · unfold tk_I2 at *; simp [tk_hv, e0, eo] at *; exact b2
    · unfold tk_I3 at *; simp [tk_hv, e0, eo] at *; exact b3
    · unfold tk_I4 at *; simp [tk_hv, e0, eo] at *; exact b4
    · unfold tk_I5 at *; simp [tk_hv, e0, eo] at *; exact b5
    · unfold tk_I6 at *; simp [tk_hv, e0, eo] at *; exact b6
    · unfold tk_I8 at *; simp [tk_hv, e0, eo] at *; exact b8
  · intro o' i hk
    unfold tk_kq at hk
    rw [e _ _ (by omega), if_neg (by omega), if_neg (by omega), if_neg (by omega)]
theorem tk_hg_m {μ : tk_M} (hR : tk_R μ) {w c d : Int} : tk_hg (tk_mv μ) w c d ↔ tk_hg (tk_hw 1 μ) w c d := tk_hg_eq (tk_R_S hR).1.1 (tk_R_S hR).1.2.1
theorem x_back_a {F1 : tk_F} {t c : Int} {μ : tk_M} {Q : Int → tk_M → Prop} (ht : 0 ≤ t ∧ t < μ 1 1) (h24 : t < 24) (hc : 0 ≤ c ∧ c < μ 1 0) (l1 : tk_iadd 10 c = 10 + c) (hF : F1 [1, μ 2 t, c, t] (fun x μ1 => if x = 0 then Q (-3) μ1 else Q (μ1 4 t) (tk_set μ1 4 t (10 + c))) μ) : (tk_fn [2, 0, 0] (tk_sq (tk_if (tk_or (tk_not (tk_zne (tk_cv 2 tkF_X2_hasTicket [(tk_gr 6 (1) (tk_loc 0)), (tk_loc 1)]))) (tk_not (tk_zne (tk_cv 2 tkF_X2_hasCurrency [(tk_gr 6 (1) (tk_loc 0)), (tk_loc 2)])))) (tk_re (tk_lit (-1))) tk_sk) (tk_sq (tk_if (tk_not (tk_zne (tk_cv 2 F1 [(tk_gr 6 (1) (tk_loc 0)), (tk_ald 0 (tk_gr 2 (1) (tk_gr 6 (1) (tk_loc 0))) (tk_loc 1)), (tk_loc 2), (tk_loc 1)]))) (tk_re (tk_lit (-3))) tk_sk) (tk_sq (tk_se 3 (tk_ald 0 (tk_gr 2 (3) (tk_gr 6 (1) (tk_loc 0))) (tk_loc 1))) (tk_sq (tk_as 0 (tk_gr 2 (3) (tk_gr 6 (1) (tk_loc 0))) (tk_loc 1) (tk_bin tk_iadd (tk_lit (10)) (tk_loc 2))) (tk_re (tk_loc 3))))))) [0, t, c] Q μ := by
  simp [tk_fn, tk_env, tk_sq, tk_sk, tk_if, tk_re, tk_rez, tk_rev, tk_xp, tk_se, tk_pf, tk_pfz, tk_pfo, tk_as, tk_asz, tk_asb, tk_aso, tk_cpy, tk_sw, tk_swc, tk_lit, tk_loc, tk_u1, tk_bin, tk_dv, tk_gf, tk_gr, tk_gn, tk_ald, tk_aldq, tk_aln, tk_unl, tk_una, tk_ter, tk_args, tk_cs, tk_cv, tk_ceq, tk_cne, tk_clt, tk_cge, tk_cgt, tk_cle, tk_zeq, tk_zne, tk_zlt, tk_zge, tk_zgt, tk_zle, tk_and, tk_or, tk_not, tk_ct2, tk_isC, List.headD_cons, tk_up, tk_sca, tk_scl, x_hasTicket, x_hasCurrency, tk_bo_0, ht.1, ht.2, hc.1, hc.2, h24, l1, tk_al_2, tk_al_3, tk_al_4, tk_al_5, tk_al_6, tk_al_7, tk_al_8, tk_al_9, tk_al_10, tk_al_11, tk_al_13, tk_al_14, tk_al_16, tk_al_17, tk_al_19, tk_al_20, tk_al_22, tk_al_24, tk_al_25, tk_al_26, tk_al_27, tk_al_28, tk_al_29, tk_al_30, tk_al_32, tk_al_33, tk_al_34, tk_al_35, tk_al_36, tk_al_37, tk_al_38, tk_al_39, tk_al_40, tk_al_41, tk_al_43, tk_al_44, tk_al_46, tk_al_47, tk_al_49, tk_al_50, tk_al_52, tk_al_54, tk_al_55, tk_al_56, tk_al_57, tk_al_58, tk_al_59, tk_al_60, tk_al_62, tk_al_63, tk_al_64, tk_al_65, tk_al_66, tk_al_67, tk_al_68, tk_al_69, tk_al_70, tk_al_71, tk_al_73, tk_al_74, tk_al_76, tk_al_77, tk_al_79, tk_al_80, tk_al_81, tk_al_83, tk_al_85, tk_al_87, tk_al_89, tk_al_91, tk_al_93, tk_al_95, tk_al_97, tk_al_98, tk_al_99, tk_al_100, tk_al_101, tk_al_102, tk_al_103, tk_al_104, tk_al_105, tk_al_106, tk_al_107, tk_al_108, tk_al_109, tk_al_110, tk_al_111, tk_al_112, tk_al_113, tk_al_114, tk_al_115, tk_al_116, tk_al_117, tk_al_118, tk_al_119, tk_al_120, tk_al_121, tk_al_122, tk_al_123, tk_al_124, tk_al_125, tk_al_126, tk_al_127, tk_al_128, tk_al_129, show ¬ μ 1 1 ≤ t from by omega, show ¬ μ 1 0 ≤ c from by omega]
  exact hF
theorem m_back_a {G1 : tk_F} {t c : Int} {μ : tk_M} {Q : Int → tk_M → Prop} (h1 : 0 ≤ μ 96 1 ∧ μ 96 1 ≤ 24) (h0 : 0 ≤ μ 96 0 ∧ μ 96 0 ≤ 6) (ht : 0 ≤ t ∧ t < μ 96 1) (h24 : t < 24) (hc : 0 ≤ c ∧ c < μ 96 0) (l1 : tk_iadd 10 c = 10 + c) (hF : G1 [96, t, c] (fun x μ1 => if x = 0 then Q (-3) μ1 else Q (μ1 99 t) (tk_set μ1 99 t (10 + c))) (tk_set μ 96 24 0)) : (tk_fn [2, 0, 0] (tk_sq (tk_pf 7 24 (tk_loc 0) (tk_lit (0))) (tk_sq (tk_if (tk_or (tk_not (tk_zne (tk_cv 7 tkF_X7_isTicket [(tk_loc 0), (tk_loc 1)]))) (tk_not (tk_zne (tk_cv 7 tkF_X7_isCurrency [(tk_loc 0), (tk_loc 2)])))) (tk_re (tk_lit (-1))) tk_sk) (tk_sq (tk_if (tk_not (tk_zne (tk_cv 7 G1 [(tk_loc 0), (tk_loc 1), (tk_loc 2)]))) (tk_re (tk_lit (-3))) tk_sk) (tk_sq (tk_se 3 (tk_ald 0 (tk_gr 7 (3) (tk_loc 0)) (tk_loc 1))) (tk_sq (tk_as 0 (tk_gr 7 (3) (tk_loc 0)) (tk_loc 1) (tk_bin tk_iadd (tk_lit (10)) (tk_loc 2))) (tk_re (tk_loc 3)))))))) [96, t, c] Q μ := by
  simp [tk_fn, tk_env, tk_sq, tk_sk, tk_if, tk_re, tk_rez, tk_rev, tk_xp, tk_se, tk_pf, tk_pfz, tk_pfo, tk_as, tk_asz, tk_asb, tk_aso, tk_cpy, tk_sw, tk_swc, tk_lit, tk_loc, tk_u1, tk_bin, tk_dv, tk_gf, tk_gr, tk_gn, tk_ald, tk_aldq, tk_aln, tk_unl, tk_una, tk_ter, tk_args, tk_cs, tk_cv, tk_ceq, tk_cne, tk_clt, tk_cge, tk_cgt, tk_cle, tk_zeq, tk_zne, tk_zlt, tk_zge, tk_zgt, tk_zle, tk_and, tk_or, tk_not, tk_ct2, tk_isC, List.headD_cons, tk_up, tk_sca, tk_scl, m_isTicket, m_isCurrency, tk_set_j, h1.1, h1.2, h0.1, h0.2, tk_bo_0, ht.1, ht.2, hc.1, hc.2, h24, l1, tk_al_2, tk_al_3, tk_al_4, tk_al_5, tk_al_6, tk_al_7, tk_al_8, tk_al_9, tk_al_10, tk_al_11, tk_al_13, tk_al_14, tk_al_16, tk_al_17, tk_al_19, tk_al_20, tk_al_22, tk_al_24, tk_al_25, tk_al_26, tk_al_27, tk_al_28, tk_al_29, tk_al_30, tk_al_32, tk_al_33, tk_al_34, tk_al_35, tk_al_36, tk_al_37, tk_al_38, tk_al_39, tk_al_40, tk_al_41, tk_al_43, tk_al_44, tk_al_46, tk_al_47, tk_al_49, tk_al_50, tk_al_52, tk_al_54, tk_al_55, tk_al_56, tk_al_57, tk_al_58, tk_al_59, tk_al_60, tk_al_62, tk_al_63, tk_al_64, tk_al_65, tk_al_66, tk_al_67, tk_al_68, tk_al_69, tk_al_70, tk_al_71, tk_al_73, tk_al_74, tk_al_76, tk_al_77, tk_al_79, tk_al_80, tk_al_81, tk_al_83, tk_al_85, tk_al_87, tk_al_89, tk_al_91, tk_al_93, tk_al_95, tk_al_97, tk_al_98, tk_al_99, tk_al_100, tk_al_101, tk_al_102, tk_al_103, tk_al_104, tk_al_105, tk_al_106, tk_al_107, tk_al_108, tk_al_109, tk_al_110, tk_al_111, tk_al_112, tk_al_113, tk_al_114, tk_al_115, tk_al_116, tk_al_117, tk_al_118, tk_al_119, tk_al_120, tk_al_121, tk_al_122, tk_al_123, tk_al_124, tk_al_125, tk_al_126, tk_al_127, tk_al_128, tk_al_129, show ¬ μ 96 1 ≤ t from by omega, show ¬ μ 96 0 ≤ c from by omega]
  exact hF
theorem c_back_n {F1 G1 : tk_F} {t c : Int} {μ : tk_M} {K : Int → Int → tk_M → Prop} (e1 : μ 96 0 = μ 1 0) (e2 : μ 96 1 = μ 1 1) (hn : 0 ≤ μ 1 1 ∧ μ 1 1 ≤ 24) (hcu : 1 ≤ μ 1 0 ∧ μ 1 0 ≤ 6) (hno : ¬ ((0 ≤ t ∧ t < μ 1 1) ∧ (0 ≤ c ∧ c < μ 1 0))) (hK : K (-1) (-1) (tk_set μ 96 24 0)) : (tk_fn [2, 0, 0] (tk_sq (tk_if (tk_or (tk_not (tk_zne (tk_cv 2 tkF_X2_hasTicket [(tk_gr 6 (1) (tk_loc 0)), (tk_loc 1)]))) (tk_not (tk_zne (tk_cv 2 tkF_X2_hasCurrency [(tk_gr 6 (1) (tk_loc 0)), (tk_loc 2)])))) (tk_re (tk_lit (-1))) tk_sk) (tk_sq (tk_if (tk_not (tk_zne (tk_cv 2 F1 [(tk_gr 6 (1) (tk_loc 0)), (tk_ald 0 (tk_gr 2 (1) (tk_gr 6 (1) (tk_loc 0))) (tk_loc 1)), (tk_loc 2), (tk_loc 1)]))) (tk_re (tk_lit (-3))) tk_sk) (tk_sq (tk_se 3 (tk_ald 0 (tk_gr 2 (3) (tk_gr 6 (1) (tk_loc 0))) (tk_loc 1))) (tk_sq (tk_as 0 (tk_gr 2 (3) (tk_gr 6 (1) (tk_loc 0))) (tk_loc 1) (tk_bin tk_iadd (tk_lit (10)) (tk_loc 2))) (tk_re (tk_loc 3))))))) [0, t, c] (fun r μ1 => (tk_fn [2, 0, 0] (tk_sq (tk_pf 7 24 (tk_loc 0) (tk_lit (0))) (tk_sq (tk_if (tk_or (tk_not (tk_zne (tk_cv 7 tkF_X7_isTicket [(tk_loc 0), (tk_loc 1)]))) (tk_not (tk_zne (tk_cv 7 tkF_X7_isCurrency [(tk_loc 0), (tk_loc 2)])))) (tk_re (tk_lit (-1))) tk_sk) (tk_sq (tk_if (tk_not (tk_zne (tk_cv 7 G1 [(tk_loc 0), (tk_loc 1), (tk_loc 2)]))) (tk_re (tk_lit (-3))) tk_sk) (tk_sq (tk_se 3 (tk_ald 0 (tk_gr 7 (3) (tk_loc 0)) (tk_loc 1))) (tk_sq (tk_as 0 (tk_gr 7 (3) (tk_loc 0)) (tk_loc 1) (tk_bin tk_iadd (tk_lit (10)) (tk_loc 2))) (tk_re (tk_loc 3)))))))) [96, t, c] (fun r' μ2 => K r r' μ2) μ1) μ := by
  have hcu0 : 0 ≤ μ 1 0 := by omega
  by_cases ht : 0 ≤ t ∧ t < μ 1 1
  · have hc : ¬ (0 ≤ c ∧ c < μ 1 0) := fun z => hno ⟨ht, z⟩
    simp [tk_fn, tk_env, tk_sq, tk_sk, tk_if, tk_re, tk_rez, tk_rev, tk_xp, tk_se, tk_pf, tk_pfz, tk_pfo, tk_as, tk_asz, tk_asb, tk_aso, tk_cpy, tk_sw, tk_swc, tk_lit, tk_loc, tk_u1, tk_bin, tk_dv, tk_gf, tk_gr, tk_gn, tk_ald, tk_aldq, tk_aln, tk_unl, tk_una, tk_ter, tk_args, tk_cs, tk_cv, tk_ceq, tk_cne, tk_clt, tk_cge, tk_cgt, tk_cle, tk_zeq, tk_zne, tk_zlt, tk_zge, tk_zgt, tk_zle, tk_and, tk_or, tk_not, tk_ct2, tk_isC, List.headD_cons, tk_up, tk_sca, tk_scl, x_hasTicket, x_hasCurrency, m_isTicket, m_isCurrency, tk_set_j, e1, e2, hn, hcu.2, hcu0, tk_bo_0, ht.1, ht.2, show ¬ μ 1 1 ≤ t from by omega, hc, -not_and]
    exact hK
  · simp [tk_fn, tk_env, tk_sq, tk_sk, tk_if, tk_re, tk_rez, tk_rev, tk_xp, tk_se, tk_pf, tk_pfz, tk_pfo, tk_as, tk_asz, tk_asb, tk_aso, tk_cpy, tk_sw, tk_swc, tk_lit, tk_loc, tk_u1, tk_bin, tk_dv, tk_gf, tk_gr, tk_gn, tk_ald, tk_aldq, tk_aln, tk_unl, tk_una, tk_ter, tk_args, tk_cs, tk_cv, tk_ceq, tk_cne, tk_clt, tk_cge, tk_cgt, tk_cle, tk_zeq, tk_zne, tk_zlt, tk_zge, tk_zgt, tk_zle, tk_and, tk_or, tk_not, tk_ct2, tk_isC, List.headD_cons, tk_up, tk_sca, tk_scl, x_hasTicket, m_isTicket, tk_set_j, e1, e2, hn, tk_bo_0, ht, -not_and]
    exact hK
theorem c_back (t c : Int) : tk_cp tkF_X6_back tkF_X7_back [t, c] := by
  intro μ hR K hK
  have hT := tk_R_thr (v := 0) hR
  obtain ⟨hE, hI, hIm⟩ := tk_R_S hR
  obtain ⟨e1, e2, e3, e4, e5, e6, e7, e8, e9, hcu, hn, hm, hck⟩ := tk_R_n hR
  by_cases hok : (0 ≤ t ∧ t < μ 1 1) ∧ (0 ≤ c ∧ c < μ 1 0)
  · obtain ⟨ht, hc⟩ := hok
    have h24 : t < 24 := by omega
    have ha : 0 ≤ μ 2 t ∧ μ 2 t < μ 1 0 := (hI.2.1 t ht.1 ht.2).1
    obtain ⟨q1, q2, q3⟩ := hR.1.2.1 t ht.1 ht.2
    have q1 : μ 97 t = μ 2 t := q1
    have q3 : μ 99 t = μ 4 t := q3
    have l1 : tk_iadd 10 c = 10 + c := tk_iadd_id (by omega) (by omega)
    refine x_back_a ht h24 hc l1 ?_
    refine x_mayBack hI.1 hI.2.1 hI.2.2.2.2.2.2.2.1 (by omega) (fun ⟨_, hc0, hne, hno⟩ => ?_) (fun hno => ?_)
    · rw [if_neg (by omega)]
      have hM : tk_mv (tk_set (tk_set μ 4 t (10 + c)) 96 24 0) = tk_mv μ := by rw [tk_mv_ob (by omega), tk_mv_ob (by omega)]
      have hno' : ¬ tk_hg (tk_mv μ) t (μ 2 t) c := fun z => hno ((tk_hg_m hR).mp z)
      have s0 : tk_set μ 4 t (10 + c) 96 0 = μ 1 0 := by rw [tk_set_o (by omega), e1]
      have s1 : tk_set μ 4 t (10 + c) 96 1 = μ 1 1 := by rw [tk_set_o (by omega), e2]
      refine m_back_a (by rw [s1]; exact hn) (by rw [s0]; omega) (by rw [s1]; exact ht) h24 (by rw [s0]; exact hc) l1 ?_
      refine m_canBack (by rw [hM]; exact hIm.1) (by rw [hM]; exact hIm.2.1) (by rw [hM]; exact hIm.2.2.2.2.2.2.2.1) ⟨ht.1, h24⟩ (by rw [tk_set_o (by omega), tk_set_o (by omega), q1]; omega) (by omega) (fun μ1 hf _ => ?_) (fun μ1 hf z => ?_)
      · rw [if_neg (by omega)]
        have f99 : μ1 99 t = μ 4 t := by rw [hf _ _ (by omega), tk_set_o (by omega), tk_set_o (by omega), q3]
        rw [f99]
        refine hK _ _ (c_back_R hR ht hc hc0 hne hno (fun o j ho => ?_))
        have := hf o j (by omega)
        simp only [tk_set_if] at this ⊢
        rw [this]
      · rw [hM, tk_set_o (by omega), tk_set_o (by omega), q1] at z
        exact absurd ⟨hc0, hne, hno'⟩ z
    · rw [if_pos rfl]
      have hM : tk_mv (tk_set μ 96 24 0) = tk_mv μ := tk_mv_ob (by omega)
      refine m_back_a (by rw [e2]; exact hn) (by rw [e1]; omega) (by rw [e2]; exact ht) h24 (by rw [e1]; exact hc) l1 ?_
      refine m_canBack (by rw [hM]; exact hIm.1) (by rw [hM]; exact hIm.2.1) (by rw [hM]; exact hIm.2.2.2.2.2.2.2.1) ⟨ht.1, h24⟩ (by rw [tk_set_o (by omega), q1]; omega) (by omega) (fun μ1 hf z => ?_) (fun μ1 hf _ => ?_)
      · rw [hM, tk_set_o (by omega), q1] at z
        exact absurd ⟨hc, z.1, z.2.1, fun y => z.2.2 ((tk_hg_m hR).mpr y)⟩ hno
      · rw [if_pos rfl]
        exact hK _ _ (tk_R_fr hT (fun o i hk => hf o i (by unfold tk_kp at hk; omega)))
  · exact c_back_n e1 e2 hn hcu hok (hK _ _ hT)
